section
/-- a private method of a class that the tables say can be made, by its rows of tables_1 -/
def lw_okq (q : MethodName × Nat) : Prop := (q.1.cls ≠ "java/lang/invoke/MethodHandle" ∧ q.1.cls ≠ "java/lang/invoke/VarHandle") ∧ Cond.instantiable q.1.cls q.2 ∈ tables_1 ∧ Cond.privateMethod q.1 ∈ tables_1 ∧ Cond.instanceMethod q.1 ∈ tables_1
theorem lw_p0 : lw_okq (⟨"ClocklessGates", "discardResults", "()V"⟩, 6) := ⟨⟨by decide +kernel, by decide +kernel⟩, List.mem_of_getElem? (i := 18) (by decide +kernel), List.mem_of_getElem? (i := 240) (by decide +kernel), List.mem_of_getElem? (i := 241) (by decide +kernel)⟩
theorem lw_p1 : lw_okq (⟨"ClocklessGates$Graph", "addState", "(III)I"⟩, 11) := ⟨⟨by decide +kernel, by decide +kernel⟩, List.mem_of_getElem? (i := 77) (by decide +kernel), List.mem_of_getElem? (i := 256) (by decide +kernel), List.mem_of_getElem? (i := 257) (by decide +kernel)⟩
theorem lw_p2 : lw_okq (⟨"ClocklessGates$Graph", "expand", "(LClocklessGates$Net;I)V"⟩, 11) := ⟨⟨by decide +kernel, by decide +kernel⟩, List.mem_of_getElem? (i := 77) (by decide +kernel), List.mem_of_getElem? (i := 260) (by decide +kernel), List.mem_of_getElem? (i := 261) (by decide +kernel)⟩
theorem lw_p3 : lw_okq (⟨"ClocklessGates$Graph", "noteEnabled", "(LClocklessGates$Net;II)V"⟩, 11) := ⟨⟨by decide +kernel, by decide +kernel⟩, List.mem_of_getElem? (i := 77) (by decide +kernel), List.mem_of_getElem? (i := 268) (by decide +kernel), List.mem_of_getElem? (i := 269) (by decide +kernel)⟩
theorem lw_p4 : lw_okq (⟨"ClocklessGates$Graph", "fire", "(LClocklessGates$Net;II)I"⟩, 11) := ⟨⟨by decide +kernel, by decide +kernel⟩, List.mem_of_getElem? (i := 77) (by decide +kernel), List.mem_of_getElem? (i := 296) (by decide +kernel), List.mem_of_getElem? (i := 297) (by decide +kernel)⟩
theorem lw_p5 : lw_okq (⟨"ClocklessGates$Graph", "leastDisablingState", "(LClocklessGates$Net;)I"⟩, 11) := ⟨⟨by decide +kernel, by decide +kernel⟩, List.mem_of_getElem? (i := 77) (by decide +kernel), List.mem_of_getElem? (i := 312) (by decide +kernel), List.mem_of_getElem? (i := 313) (by decide +kernel)⟩
theorem lw_p6 : lw_okq (⟨"ClocklessGates$Graph", "losesEdge", "(LClocklessGates$Net;II)Z"⟩, 11) := ⟨⟨by decide +kernel, by decide +kernel⟩, List.mem_of_getElem? (i := 77) (by decide +kernel), List.mem_of_getElem? (i := 320) (by decide +kernel), List.mem_of_getElem? (i := 321) (by decide +kernel)⟩
theorem lw_p7 : lw_okq (⟨"ClocklessGates$Graph", "leastConflictingState", "()I"⟩, 11) := ⟨⟨by decide +kernel, by decide +kernel⟩, List.mem_of_getElem? (i := 77) (by decide +kernel), List.mem_of_getElem? (i := 324) (by decide +kernel), List.mem_of_getElem? (i := 325) (by decide +kernel)⟩
theorem lw_p8 : lw_okq (⟨"java/lang/Throwable", "fillInStackTrace", "(I)Ljava/lang/Throwable;"⟩, 6) := ⟨⟨by decide +kernel, by decide +kernel⟩, List.mem_of_getElem? (i := 379) (by decide +kernel), List.mem_of_getElem? (i := 377) (by decide +kernel), List.mem_of_getElem? (i := 378) (by decide +kernel)⟩
theorem lw_p9 : lw_okq (⟨"ClocklessGates", "requireSignal", "(I)V"⟩, 6) := ⟨⟨by decide +kernel, by decide +kernel⟩, List.mem_of_getElem? (i := 18) (by decide +kernel), List.mem_of_getElem? (i := 421) (by decide +kernel), List.mem_of_getElem? (i := 422) (by decide +kernel)⟩
theorem lw_p10 : lw_okq (⟨"ClocklessGates", "requireGraph", "()V"⟩, 6) := ⟨⟨by decide +kernel, by decide +kernel⟩, List.mem_of_getElem? (i := 18) (by decide +kernel), List.mem_of_getElem? (i := 499) (by decide +kernel), List.mem_of_getElem? (i := 500) (by decide +kernel)⟩
theorem lw_p11 : lw_okq (⟨"ClocklessGates", "requireState", "(I)V"⟩, 6) := ⟨⟨by decide +kernel, by decide +kernel⟩, List.mem_of_getElem? (i := 18) (by decide +kernel), List.mem_of_getElem? (i := 511) (by decide +kernel), List.mem_of_getElem? (i := 512) (by decide +kernel)⟩
theorem lw_p12 : lw_okq (⟨"ClocklessGates", "requireFine", "()V"⟩, 6) := ⟨⟨by decide +kernel, by decide +kernel⟩, List.mem_of_getElem? (i := 18) (by decide +kernel), List.mem_of_getElem? (i := 545) (by decide +kernel), List.mem_of_getElem? (i := 546) (by decide +kernel)⟩
theorem lw_p13 : lw_okq (⟨"ClocklessGates", "makeDraft", "(I)Z"⟩, 6) := ⟨⟨by decide +kernel, by decide +kernel⟩, List.mem_of_getElem? (i := 18) (by decide +kernel), List.mem_of_getElem? (i := 550) (by decide +kernel), List.mem_of_getElem? (i := 551) (by decide +kernel)⟩
theorem lw_p14 : lw_okq (⟨"ClocklessGates$LeastSum", "collectPrimes", "(III)V"⟩, 11) := ⟨⟨by decide +kernel, by decide +kernel⟩, List.mem_of_getElem? (i := 172) (by decide +kernel), List.mem_of_getElem? (i := 568) (by decide +kernel), List.mem_of_getElem? (i := 569) (by decide +kernel)⟩
theorem lw_p15 : lw_okq (⟨"ClocklessGates$LeastSum", "isPrime", "(III)Z"⟩, 11) := ⟨⟨by decide +kernel, by decide +kernel⟩, List.mem_of_getElem? (i := 172) (by decide +kernel), List.mem_of_getElem? (i := 572) (by decide +kernel), List.mem_of_getElem? (i := 573) (by decide +kernel)⟩
def lw_privs_1 : List (MethodName × Nat) := [(⟨"ClocklessGates", "discardResults", "()V"⟩, 6), (⟨"ClocklessGates$Graph", "addState", "(III)I"⟩, 11), (⟨"ClocklessGates$Graph", "expand", "(LClocklessGates$Net;I)V"⟩, 11), (⟨"ClocklessGates$Graph", "noteEnabled", "(LClocklessGates$Net;II)V"⟩, 11), (⟨"ClocklessGates$Graph", "fire", "(LClocklessGates$Net;II)I"⟩, 11), (⟨"ClocklessGates$Graph", "leastDisablingState", "(LClocklessGates$Net;)I"⟩, 11), (⟨"ClocklessGates$Graph", "losesEdge", "(LClocklessGates$Net;II)Z"⟩, 11), (⟨"ClocklessGates$Graph", "leastConflictingState", "()I"⟩, 11), (⟨"java/lang/Throwable", "fillInStackTrace", "(I)Ljava/lang/Throwable;"⟩, 6), (⟨"ClocklessGates", "requireSignal", "(I)V"⟩, 6), (⟨"ClocklessGates", "requireGraph", "()V"⟩, 6), (⟨"ClocklessGates", "requireState", "(I)V"⟩, 6), (⟨"ClocklessGates", "requireFine", "()V"⟩, 6), (⟨"ClocklessGates", "makeDraft", "(I)Z"⟩, 6), (⟨"ClocklessGates$LeastSum", "collectPrimes", "(III)V"⟩, 11), (⟨"ClocklessGates$LeastSum", "isPrime", "(III)Z"⟩, 11)]
theorem lw_r1 : ∀ q ∈ lw_privs_1, lw_okq q := List.forall_mem_cons.mpr ⟨lw_p0, List.forall_mem_cons.mpr ⟨lw_p1, List.forall_mem_cons.mpr ⟨lw_p2, List.forall_mem_cons.mpr ⟨lw_p3, List.forall_mem_cons.mpr ⟨lw_p4, List.forall_mem_cons.mpr ⟨lw_p5, List.forall_mem_cons.mpr ⟨lw_p6, List.forall_mem_cons.mpr ⟨lw_p7, List.forall_mem_cons.mpr ⟨lw_p8, List.forall_mem_cons.mpr ⟨lw_p9, List.forall_mem_cons.mpr ⟨lw_p10, List.forall_mem_cons.mpr ⟨lw_p11, List.forall_mem_cons.mpr ⟨lw_p12, List.forall_mem_cons.mpr ⟨lw_p13, List.forall_mem_cons.mpr ⟨lw_p14, List.forall_mem_cons.mpr ⟨lw_p15, fun _ h => absurd h List.not_mem_nil⟩⟩⟩⟩⟩⟩⟩⟩⟩⟩⟩⟩⟩⟩⟩⟩
theorem lw_p16 : lw_okq (⟨"ClocklessGates$LeastSum", "countRivals", "()V"⟩, 11) := ⟨⟨by decide +kernel, by decide +kernel⟩, List.mem_of_getElem? (i := 172) (by decide +kernel), List.mem_of_getElem? (i := 591) (by decide +kernel), List.mem_of_getElem? (i := 592) (by decide +kernel)⟩
theorem lw_p17 : lw_okq (⟨"ClocklessGates$LeastSum", "keepIfLess", "(I)V"⟩, 11) := ⟨⟨by decide +kernel, by decide +kernel⟩, List.mem_of_getElem? (i := 172) (by decide +kernel), List.mem_of_getElem? (i := 598) (by decide +kernel), List.mem_of_getElem? (i := 599) (by decide +kernel)⟩
theorem lw_p18 : lw_okq (⟨"ClocklessGates$LeastSum", "takenComesFirst", "()Z"⟩, 11) := ⟨⟨by decide +kernel, by decide +kernel⟩, List.mem_of_getElem? (i := 172) (by decide +kernel), List.mem_of_getElem? (i := 602) (by decide +kernel), List.mem_of_getElem? (i := 603) (by decide +kernel)⟩
theorem lw_p19 : lw_okq (⟨"ClocklessGates$LeastSum", "leastCostOf", "(I)I"⟩, 11) := ⟨⟨by decide +kernel, by decide +kernel⟩, List.mem_of_getElem? (i := 172) (by decide +kernel), List.mem_of_getElem? (i := 606) (by decide +kernel), List.mem_of_getElem? (i := 607) (by decide +kernel)⟩
theorem lw_p20 : lw_okq (⟨"ClocklessGates$LeastSum", "codeWithFewestRivals", "(I)I"⟩, 11) := ⟨⟨by decide +kernel, by decide +kernel⟩, List.mem_of_getElem? (i := 172) (by decide +kernel), List.mem_of_getElem? (i := 610) (by decide +kernel), List.mem_of_getElem? (i := 611) (by decide +kernel)⟩
theorem lw_p21 : lw_okq (⟨"ClocklessGates$LeastSum", "liftBars", "(I)V"⟩, 11) := ⟨⟨by decide +kernel, by decide +kernel⟩, List.mem_of_getElem? (i := 172) (by decide +kernel), List.mem_of_getElem? (i := 614) (by decide +kernel), List.mem_of_getElem? (i := 615) (by decide +kernel)⟩
theorem lw_p22 : lw_okq (⟨"ClocklessGates$Circuit", "reachStates", "(LClocklessGates$Net;LClocklessGates$Graph;)V"⟩, 6) := ⟨⟨by decide +kernel, by decide +kernel⟩, List.mem_of_getElem? (i := 125) (by decide +kernel), List.mem_of_getElem? (i := 707) (by decide +kernel), List.mem_of_getElem? (i := 708) (by decide +kernel)⟩
theorem lw_p23 : lw_okq (⟨"ClocklessGates$Circuit", "reach", "(I)V"⟩, 6) := ⟨⟨by decide +kernel, by decide +kernel⟩, List.mem_of_getElem? (i := 125) (by decide +kernel), List.mem_of_getElem? (i := 711) (by decide +kernel), List.mem_of_getElem? (i := 712) (by decide +kernel)⟩
theorem lw_p24 : lw_okq (⟨"ClocklessGates$Circuit", "mayFire", "(LClocklessGates$Net;LClocklessGates$Graph;II)Z"⟩, 6) := ⟨⟨by decide +kernel, by decide +kernel⟩, List.mem_of_getElem? (i := 125) (by decide +kernel), List.mem_of_getElem? (i := 715) (by decide +kernel), List.mem_of_getElem? (i := 716) (by decide +kernel)⟩
theorem lw_p25 : lw_okq (⟨"ClocklessGates$Circuit", "leastFaultyState", "(LClocklessGates$Net;LClocklessGates$Graph;I)I"⟩, 6) := ⟨⟨by decide +kernel, by decide +kernel⟩, List.mem_of_getElem? (i := 125) (by decide +kernel), List.mem_of_getElem? (i := 724) (by decide +kernel), List.mem_of_getElem? (i := 725) (by decide +kernel)⟩
theorem lw_p26 : lw_okq (⟨"ClocklessGates$Circuit", "isFaulty", "(LClocklessGates$Net;LClocklessGates$Graph;III)Z"⟩, 6) := ⟨⟨by decide +kernel, by decide +kernel⟩, List.mem_of_getElem? (i := 125) (by decide +kernel), List.mem_of_getElem? (i := 728) (by decide +kernel), List.mem_of_getElem? (i := 729) (by decide +kernel)⟩
theorem lw_p27 : lw_okq (⟨"ClocklessGates$Circuit", "acts", "(II)Z"⟩, 6) := ⟨⟨by decide +kernel, by decide +kernel⟩, List.mem_of_getElem? (i := 125) (by decide +kernel), List.mem_of_getElem? (i := 732) (by decide +kernel), List.mem_of_getElem? (i := 733) (by decide +kernel)⟩
theorem lw_p28 : lw_okq (⟨"ClocklessGates$Circuit", "mayStopActing", "(LClocklessGates$Net;LClocklessGates$Graph;II)Z"⟩, 6) := ⟨⟨by decide +kernel, by decide +kernel⟩, List.mem_of_getElem? (i := 125) (by decide +kernel), List.mem_of_getElem? (i := 736) (by decide +kernel), List.mem_of_getElem? (i := 737) (by decide +kernel)⟩
theorem lw_p29 : lw_okq (⟨"ClocklessGatesModel", "discard", "()V"⟩, 30) := ⟨⟨by decide +kernel, by decide +kernel⟩, List.mem_of_getElem? (i := 741) (by decide +kernel), List.mem_of_getElem? (i := 846) (by decide +kernel), List.mem_of_getElem? (i := 847) (by decide +kernel)⟩
theorem lw_p30 : lw_okq (⟨"ClocklessGatesModel", "noSignal", "(I)Z"⟩, 30) := ⟨⟨by decide +kernel, by decide +kernel⟩, List.mem_of_getElem? (i := 741) (by decide +kernel), List.mem_of_getElem? (i := 854) (by decide +kernel), List.mem_of_getElem? (i := 855) (by decide +kernel)⟩
theorem lw_p31 : lw_okq (⟨"ClocklessGatesModel", "explore", "()V"⟩, 30) := ⟨⟨by decide +kernel, by decide +kernel⟩, List.mem_of_getElem? (i := 741) (by decide +kernel), List.mem_of_getElem? (i := 870) (by decide +kernel), List.mem_of_getElem? (i := 871) (by decide +kernel)⟩
def lw_privs_2 : List (MethodName × Nat) := [(⟨"ClocklessGates$LeastSum", "countRivals", "()V"⟩, 11), (⟨"ClocklessGates$LeastSum", "keepIfLess", "(I)V"⟩, 11), (⟨"ClocklessGates$LeastSum", "takenComesFirst", "()Z"⟩, 11), (⟨"ClocklessGates$LeastSum", "leastCostOf", "(I)I"⟩, 11), (⟨"ClocklessGates$LeastSum", "codeWithFewestRivals", "(I)I"⟩, 11), (⟨"ClocklessGates$LeastSum", "liftBars", "(I)V"⟩, 11), (⟨"ClocklessGates$Circuit", "reachStates", "(LClocklessGates$Net;LClocklessGates$Graph;)V"⟩, 6), (⟨"ClocklessGates$Circuit", "reach", "(I)V"⟩, 6), (⟨"ClocklessGates$Circuit", "mayFire", "(LClocklessGates$Net;LClocklessGates$Graph;II)Z"⟩, 6), (⟨"ClocklessGates$Circuit", "leastFaultyState", "(LClocklessGates$Net;LClocklessGates$Graph;I)I"⟩, 6), (⟨"ClocklessGates$Circuit", "isFaulty", "(LClocklessGates$Net;LClocklessGates$Graph;III)Z"⟩, 6), (⟨"ClocklessGates$Circuit", "acts", "(II)Z"⟩, 6), (⟨"ClocklessGates$Circuit", "mayStopActing", "(LClocklessGates$Net;LClocklessGates$Graph;II)Z"⟩, 6), (⟨"ClocklessGatesModel", "discard", "()V"⟩, 30), (⟨"ClocklessGatesModel", "noSignal", "(I)Z"⟩, 30), (⟨"ClocklessGatesModel", "explore", "()V"⟩, 30)]
theorem lw_r2 : ∀ q ∈ lw_privs_2, lw_okq q := List.forall_mem_cons.mpr ⟨lw_p16, List.forall_mem_cons.mpr ⟨lw_p17, List.forall_mem_cons.mpr ⟨lw_p18, List.forall_mem_cons.mpr ⟨lw_p19, List.forall_mem_cons.mpr ⟨lw_p20, List.forall_mem_cons.mpr ⟨lw_p21, List.forall_mem_cons.mpr ⟨lw_p22, List.forall_mem_cons.mpr ⟨lw_p23, List.forall_mem_cons.mpr ⟨lw_p24, List.forall_mem_cons.mpr ⟨lw_p25, List.forall_mem_cons.mpr ⟨lw_p26, List.forall_mem_cons.mpr ⟨lw_p27, List.forall_mem_cons.mpr ⟨lw_p28, List.forall_mem_cons.mpr ⟨lw_p29, List.forall_mem_cons.mpr ⟨lw_p30, List.forall_mem_cons.mpr ⟨lw_p31, fun _ h => absurd h List.not_mem_nil⟩⟩⟩⟩⟩⟩⟩⟩⟩⟩⟩⟩⟩⟩⟩⟩
theorem lw_p32 : lw_okq (⟨"ClocklessGatesModel", "enabled", "(II)Z"⟩, 30) := ⟨⟨by decide +kernel, by decide +kernel⟩, List.mem_of_getElem? (i := 741) (by decide +kernel), List.mem_of_getElem? (i := 874) (by decide +kernel), List.mem_of_getElem? (i := 875) (by decide +kernel)⟩
theorem lw_p33 : lw_okq (⟨"ClocklessGatesModel", "safe", "(II)Z"⟩, 30) := ⟨⟨by decide +kernel, by decide +kernel⟩, List.mem_of_getElem? (i := 741) (by decide +kernel), List.mem_of_getElem? (i := 878) (by decide +kernel), List.mem_of_getElem? (i := 879) (by decide +kernel)⟩
theorem lw_p34 : lw_okq (⟨"ClocklessGatesModel", "right", "(II)Z"⟩, 30) := ⟨⟨by decide +kernel, by decide +kernel⟩, List.mem_of_getElem? (i := 741) (by decide +kernel), List.mem_of_getElem? (i := 882) (by decide +kernel), List.mem_of_getElem? (i := 883) (by decide +kernel)⟩
theorem lw_p35 : lw_okq (⟨"ClocklessGatesModel", "markAfter", "(II)I"⟩, 30) := ⟨⟨by decide +kernel, by decide +kernel⟩, List.mem_of_getElem? (i := 741) (by decide +kernel), List.mem_of_getElem? (i := 886) (by decide +kernel), List.mem_of_getElem? (i := 887) (by decide +kernel)⟩
theorem lw_p36 : lw_okq (⟨"ClocklessGatesModel", "codeAfter", "(II)I"⟩, 30) := ⟨⟨by decide +kernel, by decide +kernel⟩, List.mem_of_getElem? (i := 741) (by decide +kernel), List.mem_of_getElem? (i := 890) (by decide +kernel), List.mem_of_getElem? (i := 891) (by decide +kernel)⟩
theorem lw_p37 : lw_okq (⟨"ClocklessGatesModel", "find", "(II)I"⟩, 30) := ⟨⟨by decide +kernel, by decide +kernel⟩, List.mem_of_getElem? (i := 741) (by decide +kernel), List.mem_of_getElem? (i := 894) (by decide +kernel), List.mem_of_getElem? (i := 895) (by decide +kernel)⟩
theorem lw_p38 : lw_okq (⟨"ClocklessGatesModel", "bad", "(II)Z"⟩, 30) := ⟨⟨by decide +kernel, by decide +kernel⟩, List.mem_of_getElem? (i := 741) (by decide +kernel), List.mem_of_getElem? (i := 898) (by decide +kernel), List.mem_of_getElem? (i := 899) (by decide +kernel)⟩
theorem lw_p39 : lw_okq (⟨"ClocklessGatesModel", "loses", "(I)Z"⟩, 30) := ⟨⟨by decide +kernel, by decide +kernel⟩, List.mem_of_getElem? (i := 741) (by decide +kernel), List.mem_of_getElem? (i := 902) (by decide +kernel), List.mem_of_getElem? (i := 903) (by decide +kernel)⟩
theorem lw_p40 : lw_okq (⟨"ClocklessGatesModel", "sameEdge", "(II)Z"⟩, 30) := ⟨⟨by decide +kernel, by decide +kernel⟩, List.mem_of_getElem? (i := 741) (by decide +kernel), List.mem_of_getElem? (i := 906) (by decide +kernel), List.mem_of_getElem? (i := 907) (by decide +kernel)⟩
theorem lw_p41 : lw_okq (⟨"ClocklessGatesModel", "edgeEnabled", "(II)Z"⟩, 30) := ⟨⟨by decide +kernel, by decide +kernel⟩, List.mem_of_getElem? (i := 741) (by decide +kernel), List.mem_of_getElem? (i := 910) (by decide +kernel), List.mem_of_getElem? (i := 911) (by decide +kernel)⟩
theorem lw_p42 : lw_okq (⟨"ClocklessGatesModel", "conflicts", "(I)Z"⟩, 30) := ⟨⟨by decide +kernel, by decide +kernel⟩, List.mem_of_getElem? (i := 741) (by decide +kernel), List.mem_of_getElem? (i := 914) (by decide +kernel), List.mem_of_getElem? (i := 915) (by decide +kernel)⟩
theorem lw_p43 : lw_okq (⟨"ClocklessGatesModel", "excitedIn", "(I)I"⟩, 30) := ⟨⟨by decide +kernel, by decide +kernel⟩, List.mem_of_getElem? (i := 741) (by decide +kernel), List.mem_of_getElem? (i := 918) (by decide +kernel), List.mem_of_getElem? (i := 919) (by decide +kernel)⟩
theorem lw_p44 : lw_okq (⟨"ClocklessGatesModel", "noGraph", "()Z"⟩, 30) := ⟨⟨by decide +kernel, by decide +kernel⟩, List.mem_of_getElem? (i := 741) (by decide +kernel), List.mem_of_getElem? (i := 926) (by decide +kernel), List.mem_of_getElem? (i := 927) (by decide +kernel)⟩
theorem lw_p45 : lw_okq (⟨"ClocklessGatesModel", "noState", "(I)Z"⟩, 30) := ⟨⟨by decide +kernel, by decide +kernel⟩, List.mem_of_getElem? (i := 741) (by decide +kernel), List.mem_of_getElem? (i := 934) (by decide +kernel), List.mem_of_getElem? (i := 935) (by decide +kernel)⟩
theorem lw_p46 : lw_okq (⟨"ClocklessGatesModel", "leastSum", "(I)I"⟩, 30) := ⟨⟨by decide +kernel, by decide +kernel⟩, List.mem_of_getElem? (i := 741) (by decide +kernel), List.mem_of_getElem? (i := 958) (by decide +kernel), List.mem_of_getElem? (i := 959) (by decide +kernel)⟩
theorem lw_p47 : lw_okq (⟨"ClocklessGatesModel", "codesOf", "(II)I"⟩, 30) := ⟨⟨by decide +kernel, by decide +kernel⟩, List.mem_of_getElem? (i := 741) (by decide +kernel), List.mem_of_getElem? (i := 962) (by decide +kernel), List.mem_of_getElem? (i := 963) (by decide +kernel)⟩
def lw_privs_3 : List (MethodName × Nat) := [(⟨"ClocklessGatesModel", "enabled", "(II)Z"⟩, 30), (⟨"ClocklessGatesModel", "safe", "(II)Z"⟩, 30), (⟨"ClocklessGatesModel", "right", "(II)Z"⟩, 30), (⟨"ClocklessGatesModel", "markAfter", "(II)I"⟩, 30), (⟨"ClocklessGatesModel", "codeAfter", "(II)I"⟩, 30), (⟨"ClocklessGatesModel", "find", "(II)I"⟩, 30), (⟨"ClocklessGatesModel", "bad", "(II)Z"⟩, 30), (⟨"ClocklessGatesModel", "loses", "(I)Z"⟩, 30), (⟨"ClocklessGatesModel", "sameEdge", "(II)Z"⟩, 30), (⟨"ClocklessGatesModel", "edgeEnabled", "(II)Z"⟩, 30), (⟨"ClocklessGatesModel", "conflicts", "(I)Z"⟩, 30), (⟨"ClocklessGatesModel", "excitedIn", "(I)I"⟩, 30), (⟨"ClocklessGatesModel", "noGraph", "()Z"⟩, 30), (⟨"ClocklessGatesModel", "noState", "(I)Z"⟩, 30), (⟨"ClocklessGatesModel", "leastSum", "(I)I"⟩, 30), (⟨"ClocklessGatesModel", "codesOf", "(II)I"⟩, 30)]
theorem lw_r3 : ∀ q ∈ lw_privs_3, lw_okq q := List.forall_mem_cons.mpr ⟨lw_p32, List.forall_mem_cons.mpr ⟨lw_p33, List.forall_mem_cons.mpr ⟨lw_p34, List.forall_mem_cons.mpr ⟨lw_p35, List.forall_mem_cons.mpr ⟨lw_p36, List.forall_mem_cons.mpr ⟨lw_p37, List.forall_mem_cons.mpr ⟨lw_p38, List.forall_mem_cons.mpr ⟨lw_p39, List.forall_mem_cons.mpr ⟨lw_p40, List.forall_mem_cons.mpr ⟨lw_p41, List.forall_mem_cons.mpr ⟨lw_p42, List.forall_mem_cons.mpr ⟨lw_p43, List.forall_mem_cons.mpr ⟨lw_p44, List.forall_mem_cons.mpr ⟨lw_p45, List.forall_mem_cons.mpr ⟨lw_p46, List.forall_mem_cons.mpr ⟨lw_p47, fun _ h => absurd h List.not_mem_nil⟩⟩⟩⟩⟩⟩⟩⟩⟩⟩⟩⟩⟩⟩⟩⟩
theorem lw_p48 : lw_okq (⟨"ClocklessGatesModel", "tabulate", "(I)V"⟩, 30) := ⟨⟨by decide +kernel, by decide +kernel⟩, List.mem_of_getElem? (i := 741) (by decide +kernel), List.mem_of_getElem? (i := 966) (by decide +kernel), List.mem_of_getElem? (i := 967) (by decide +kernel)⟩
theorem lw_p49 : lw_okq (⟨"ClocklessGatesModel", "covers", "(II)Z"⟩, 30) := ⟨⟨by decide +kernel, by decide +kernel⟩, List.mem_of_getElem? (i := 741) (by decide +kernel), List.mem_of_getElem? (i := 973) (by decide +kernel), List.mem_of_getElem? (i := 974) (by decide +kernel)⟩
theorem lw_p50 : lw_okq (⟨"ClocklessGatesModel", "tryCovers", "(II)V"⟩, 30) := ⟨⟨by decide +kernel, by decide +kernel⟩, List.mem_of_getElem? (i := 741) (by decide +kernel), List.mem_of_getElem? (i := 977) (by decide +kernel), List.mem_of_getElem? (i := 978) (by decide +kernel)⟩
theorem lw_p51 : lw_okq (⟨"ClocklessGatesModel", "nextPrime", "(II)I"⟩, 30) := ⟨⟨by decide +kernel, by decide +kernel⟩, List.mem_of_getElem? (i := 741) (by decide +kernel), List.mem_of_getElem? (i := 984) (by decide +kernel), List.mem_of_getElem? (i := 985) (by decide +kernel)⟩
theorem lw_p52 : lw_okq (⟨"ClocklessGatesModel", "judge", "(I)V"⟩, 30) := ⟨⟨by decide +kernel, by decide +kernel⟩, List.mem_of_getElem? (i := 741) (by decide +kernel), List.mem_of_getElem? (i := 988) (by decide +kernel), List.mem_of_getElem? (i := 989) (by decide +kernel)⟩
theorem lw_p53 : lw_okq (⟨"ClocklessGatesModel", "digits", "(I)I"⟩, 30) := ⟨⟨by decide +kernel, by decide +kernel⟩, List.mem_of_getElem? (i := 741) (by decide +kernel), List.mem_of_getElem? (i := 992) (by decide +kernel), List.mem_of_getElem? (i := 993) (by decide +kernel)⟩
theorem lw_p54 : lw_okq (⟨"ClocklessGatesModel", "valueOf", "(II)I"⟩, 30) := ⟨⟨by decide +kernel, by decide +kernel⟩, List.mem_of_getElem? (i := 741) (by decide +kernel), List.mem_of_getElem? (i := 1016) (by decide +kernel), List.mem_of_getElem? (i := 1017) (by decide +kernel)⟩
theorem lw_p55 : lw_okq (⟨"ClocklessGatesModel", "comeTo", "()V"⟩, 30) := ⟨⟨by decide +kernel, by decide +kernel⟩, List.mem_of_getElem? (i := 741) (by decide +kernel), List.mem_of_getElem? (i := 1024) (by decide +kernel), List.mem_of_getElem? (i := 1025) (by decide +kernel)⟩
theorem lw_p56 : lw_okq (⟨"ClocklessGatesModel", "fires", "(II)Z"⟩, 30) := ⟨⟨by decide +kernel, by decide +kernel⟩, List.mem_of_getElem? (i := 741) (by decide +kernel), List.mem_of_getElem? (i := 1028) (by decide +kernel), List.mem_of_getElem? (i := 1029) (by decide +kernel)⟩
theorem lw_p57 : lw_okq (⟨"ClocklessGatesModel", "acts", "(II)Z"⟩, 30) := ⟨⟨by decide +kernel, by decide +kernel⟩, List.mem_of_getElem? (i := 741) (by decide +kernel), List.mem_of_getElem? (i := 1032) (by decide +kernel), List.mem_of_getElem? (i := 1033) (by decide +kernel)⟩
theorem lw_p58 : lw_okq (⟨"ClocklessGatesModel", "hazard", "(I)Z"⟩, 30) := ⟨⟨by decide +kernel, by decide +kernel⟩, List.mem_of_getElem? (i := 741) (by decide +kernel), List.mem_of_getElem? (i := 1036) (by decide +kernel), List.mem_of_getElem? (i := 1037) (by decide +kernel)⟩
theorem lw_p59 : lw_okq (⟨"ClocklessGatesModel", "unexpected", "(I)Z"⟩, 30) := ⟨⟨by decide +kernel, by decide +kernel⟩, List.mem_of_getElem? (i := 741) (by decide +kernel), List.mem_of_getElem? (i := 1040) (by decide +kernel), List.mem_of_getElem? (i := 1041) (by decide +kernel)⟩
theorem lw_p60 : lw_okq (⟨"ClocklessGatesModel", "missing", "(I)Z"⟩, 30) := ⟨⟨by decide +kernel, by decide +kernel⟩, List.mem_of_getElem? (i := 741) (by decide +kernel), List.mem_of_getElem? (i := 1044) (by decide +kernel), List.mem_of_getElem? (i := 1045) (by decide +kernel)⟩
def lw_privs_4 : List (MethodName × Nat) := [(⟨"ClocklessGatesModel", "tabulate", "(I)V"⟩, 30), (⟨"ClocklessGatesModel", "covers", "(II)Z"⟩, 30), (⟨"ClocklessGatesModel", "tryCovers", "(II)V"⟩, 30), (⟨"ClocklessGatesModel", "nextPrime", "(II)I"⟩, 30), (⟨"ClocklessGatesModel", "judge", "(I)V"⟩, 30), (⟨"ClocklessGatesModel", "digits", "(I)I"⟩, 30), (⟨"ClocklessGatesModel", "valueOf", "(II)I"⟩, 30), (⟨"ClocklessGatesModel", "comeTo", "()V"⟩, 30), (⟨"ClocklessGatesModel", "fires", "(II)Z"⟩, 30), (⟨"ClocklessGatesModel", "acts", "(II)Z"⟩, 30), (⟨"ClocklessGatesModel", "hazard", "(I)Z"⟩, 30), (⟨"ClocklessGatesModel", "unexpected", "(I)Z"⟩, 30), (⟨"ClocklessGatesModel", "missing", "(I)Z"⟩, 30)]
theorem lw_r4 : ∀ q ∈ lw_privs_4, lw_okq q := List.forall_mem_cons.mpr ⟨lw_p48, List.forall_mem_cons.mpr ⟨lw_p49, List.forall_mem_cons.mpr ⟨lw_p50, List.forall_mem_cons.mpr ⟨lw_p51, List.forall_mem_cons.mpr ⟨lw_p52, List.forall_mem_cons.mpr ⟨lw_p53, List.forall_mem_cons.mpr ⟨lw_p54, List.forall_mem_cons.mpr ⟨lw_p55, List.forall_mem_cons.mpr ⟨lw_p56, List.forall_mem_cons.mpr ⟨lw_p57, List.forall_mem_cons.mpr ⟨lw_p58, List.forall_mem_cons.mpr ⟨lw_p59, List.forall_mem_cons.mpr ⟨lw_p60, fun _ h => absurd h List.not_mem_nil⟩⟩⟩⟩⟩⟩⟩⟩⟩⟩⟩⟩⟩
def lw_privs : List (MethodName × Nat) := lw_privs_1 ++ (lw_privs_2 ++ (lw_privs_3 ++ (lw_privs_4)))
def lw_tbl : List Cond := k2_sels lw_privs ++ tables_1
theorem lw_privs_ok : ∀ q ∈ lw_privs, lw_okq q := by
  show ∀ q ∈ lw_privs_1 ++ (lw_privs_2 ++ (lw_privs_3 ++ (lw_privs_4))), lw_okq q
  exact List.forall_mem_append.mpr ⟨lw_r1, List.forall_mem_append.mpr ⟨lw_r2, List.forall_mem_append.mpr ⟨lw_r3, lw_r4⟩⟩⟩
end
section
/-! An abstract machine over logical addresses: its states, and how they lie in the real heap. -/
section XDefs
/-- a logical heap: how many cells there are, and what each holds (.inl (number of its array type, length, contents) or .inr (number of its class, fields)); references in it are logical addresses -/
abbrev xa_H : Type := Nat × (Nat → va_E)
/-- how a method ends: .inl what it returned, or .inr the class of what it threw -/
abbrev xa_O : Type := Option Value ⊕ String
abbrev xa_Q : Type := xa_O → xa_H → Prop
/-- a method: its name, its bytes, its locals, what it returns, its handlers -/
abbrev xa_M : Type := MethodName × ByteArray × Nat × Option FieldType × List (Nat × Nat × Nat × Nat)
/-- a program: its methods, the classes of its objects, the words it rests on, the static table (class, name), the class whose objects an array holds -/
abbrev xa_P : Type := (Nat → xa_M) × List vw_C × List Cond × String × String × String
/-- a launch's data: class numbers and field places, array classes, where the read-only tables lie, and what they hold -/
abbrev xa_Z : Type := va_G × List (ClassId × FieldType) × (Nat → Nat) × (Nat → Nat × (Nat → Int32))
abbrev xa_R : Type := Nat → Nat → Nat → List Value → List Value → xa_H → Nat → Nat → xa_Q → Prop
/-- a local whose value isn't known -/
abbrev xa_j : Value := .float 0
def xa_up {α : Type} (f : Nat → α) (k : Nat) (x : α) : Nat → α := fun j => if j = k then x else f j
theorem xa_up_s {α : Type} (f : Nat → α) (k : Nat) (x : α) : xa_up f k x k = x := by simp [xa_up]
theorem xa_up_n {α : Type} (f : Nat → α) {k j : Nat} (x : α) (h : j ≠ k) : xa_up f k x j = f j := by simp [xa_up, h]
/-- from logical to real: .retAddr k stands for the read-only table k -/
def xa_tr (tb ad : Nat → Nat) : Value → Value
  | .ref a => .ref (ad a)
  | .retAddr k => .ref (tb k)
  | v => v
def xa_trE (tys : List (ClassId × FieldType)) (tb ad : Nat → Nat) : va_E → va_E
  | .inl (t, n, .inr (.inr (.inr (.inr f)))) => .inl ((tys.getD t (0, .int)).1, n, .inr (.inr (.inr (.inr (fun j => (f j).map ad)))))
  | .inl (t, n, x) => .inl ((tys.getD t (0, .int)).1, n, x)
  | .inr (ci, fs) => .inr (ci, fs.map (xa_tr tb ad))
def xa_ok (n : Nat) (v : Value) : Prop := ∀ a, v = .ref a → a < n
def xa_okE (n : Nat) : va_E → Prop
  | .inl (_, _, .inr (.inr (.inr (.inr f)))) => ∀ j a, f j = some a → a < n
  | .inl _ => True
  | .inr (_, fs) => ∀ v ∈ fs, xa_ok n v
def xa_oks (n : Nat) (st : List Value) : Prop := ∀ v ∈ st, xa_ok n v
theorem xa_ok_i {n : Nat} {x : Int32} : xa_ok n (.int x) := fun _ h => by cases h
theorem xa_ok_l {n : Nat} {x : Int64} : xa_ok n (.long x) := fun _ h => by cases h
theorem xa_ok_t {n k : Nat} : xa_ok n (.retAddr k) := fun _ h => by cases h
theorem xa_ok_n {n : Nat} : xa_ok n .null := fun _ h => by cases h
theorem xa_ok_r {n a : Nat} (h : a < n) : xa_ok n (.ref a) := fun _ e => by cases e; exact h
theorem xa_ok_m {n n' : Nat} {v : Value} (hn : n ≤ n') (h : xa_ok n v) : xa_ok n' v := fun a e => Nat.lt_of_lt_of_le (h a e) hn
theorem xa_okE_m {n n' : Nat} {e : va_E} (hn : n ≤ n') (h : xa_okE n e) : xa_okE n' e := by
  rcases e with ⟨t, k, f | f | f | f | f⟩ | ⟨ci, fs⟩
  · trivial
  · trivial
  · trivial
  · trivial
  · exact fun j a q => Nat.lt_of_lt_of_le (h j a q) hn
  · exact fun v hv => xa_ok_m hn (h v hv)
theorem xa_oks_m {n n' : Nat} {st : List Value} (hn : n ≤ n') (h : xa_oks n st) : xa_oks n' st := fun v hv => xa_ok_m hn (h v hv)
theorem xa_oks_c {n : Nat} {v : Value} {st : List Value} (h : xa_ok n v) (hs : xa_oks n st) : xa_oks n (v :: st) := fun w hw => by
  rcases List.mem_cons.mp hw with e | e
  · rw [e]; exact h
  · exact hs w e
theorem xa_oks_i {n : Nat} {x : Int32} {st : List Value} (hs : xa_oks n st) : xa_oks n (.int x :: st) := xa_oks_c xa_ok_i hs
theorem xa_oks_l {n : Nat} {x : Int64} {st : List Value} (hs : xa_oks n st) : xa_oks n (.long x :: st) := xa_oks_c xa_ok_l hs
theorem xa_oks_h {n : Nat} {v : Value} {st : List Value} (hs : xa_oks n (v :: st)) : xa_ok n v := hs v List.mem_cons_self
theorem xa_oks_t {n : Nat} {v : Value} {st : List Value} (hs : xa_oks n (v :: st)) : xa_oks n st := fun w hw => hs w (List.mem_cons_of_mem _ hw)
theorem xa_oks_a {n : Nat} {s t : List Value} (hs : xa_oks n (s ++ t)) : xa_oks n s ∧ xa_oks n t := ⟨fun w hw => hs w (List.mem_append_left _ hw), fun w hw => hs w (List.mem_append_right _ hw)⟩
theorem xa_cat (tb ad : Nat → Nat) (v : Value) : (xa_tr tb ad v).category = v.category := by cases v <;> rfl
theorem xa_tr_ag {tb ad ad' : Nat → Nat} {n : Nat} {v : Value} (h : ∀ i, i < n → ad' i = ad i) (ok : xa_ok n v) : xa_tr tb ad' v = xa_tr tb ad v := by
  cases v with
  | ref a => show Value.ref (ad' a) = Value.ref (ad a); rw [h a (ok a rfl)]
  | _ => rfl
theorem xa_trs_ag {tb ad ad' : Nat → Nat} {n : Nat} {st : List Value} (h : ∀ i, i < n → ad' i = ad i) (ok : xa_oks n st) : st.map (xa_tr tb ad') = st.map (xa_tr tb ad) :=
  List.map_congr_left fun v hv => xa_tr_ag h (ok v hv)
theorem xa_trE_ag {tys : List (ClassId × FieldType)} {tb ad ad' : Nat → Nat} {n : Nat} {e : va_E} (h : ∀ i, i < n → ad' i = ad i) (ok : xa_okE n e) : xa_trE tys tb ad' e = xa_trE tys tb ad e := by
  rcases e with ⟨t, k, f | f | f | f | f⟩ | ⟨ci, fs⟩
  · rfl
  · rfl
  · rfl
  · rfl
  · have e1 : (fun j => (f j).map ad') = (fun j => (f j).map ad) := by
      funext j
      cases hf : f j with
      | none => rfl
      | some a => show some (ad' a) = some (ad a); rw [h a (ok j a hf)]
    show (Sum.inl ((tys.getD t (0, .int)).1, k, .inr (.inr (.inr (.inr (fun j => (f j).map ad'))))) : va_E) = .inl ((tys.getD t (0, .int)).1, k, .inr (.inr (.inr (.inr (fun j => (f j).map ad)))))
    rw [e1]
  · show (Sum.inr (ci, fs.map (xa_tr tb ad')) : va_E) = .inr (ci, fs.map (xa_tr tb ad))
    rw [xa_trs_ag h ok]
/-- the real world of a logical heap -/
def xa_w (tys : List (ClassId × FieldType)) (tb ad : Nat → Nat) (h : xa_H) : va_W := (List.range h.1).map fun i => (ad i, xa_trE tys tb ad (h.2 i))
theorem xa_w_get {tys : List (ClassId × FieldType)} {tb ad : Nat → Nat} {h : xa_H} {i : Nat} (hi : i < h.1) : (xa_w tys tb ad h)[i]? = some (ad i, xa_trE tys tb ad (h.2 i)) := by
  simp [xa_w, hi]
theorem xa_w_len {tys : List (ClassId × FieldType)} {tb ad : Nat → Nat} {h : xa_H} : (xa_w tys tb ad h).length = h.1 := by simp [xa_w]
theorem xa_w_of {tys : List (ClassId × FieldType)} {tb ad : Nat → Nat} {h : xa_H} {k : Nat} {q : Nat × va_E} (hk : (xa_w tys tb ad h)[k]? = some q) : k < h.1 ∧ q = (ad k, xa_trE tys tb ad (h.2 k)) := by
  have hl : k < h.1 := by
    have := (List.getElem?_eq_some_iff.mp hk).1
    rwa [xa_w_len] at this
  rw [xa_w_get hl] at hk
  exact ⟨hl, (Option.some.inj hk).symm⟩
theorem xa_w_set {tys : List (ClassId × FieldType)} {tb ad : Nat → Nat} {h : xa_H} {i : Nat} {e : va_E} : (xa_w tys tb ad h).set i (ad i, xa_trE tys tb ad e) = xa_w tys tb ad (h.1, xa_up h.2 i e) := by
  apply List.ext_getElem?
  intro k
  by_cases hk : k < h.1
  · rw [xa_w_get (h := (h.1, xa_up h.2 i e)) hk]
    by_cases hik : i = k
    · subst hik
      rw [List.getElem?_set_self (by rw [xa_w_len]; exact hk)]
      show some (ad i, xa_trE tys tb ad e) = some (ad i, xa_trE tys tb ad (xa_up h.2 i e i))
      rw [xa_up_s]
    · rw [List.getElem?_set_ne hik, xa_w_get hk]
      show some (ad k, xa_trE tys tb ad (h.2 k)) = some (ad k, xa_trE tys tb ad (xa_up h.2 i e k))
      rw [xa_up_n _ _ (fun q => hik q.symm)]
  · rw [List.getElem?_eq_none (by rw [List.length_set, xa_w_len]; omega), List.getElem?_eq_none (by rw [xa_w_len]; show h.1 ≤ k; omega)]
theorem xa_w_push {tys : List (ClassId × FieldType)} {tb ad : Nat → Nat} {h : xa_H} {q : Nat} {e : va_E} (hok : ∀ i, i < h.1 → xa_okE h.1 (h.2 i)) :
    xa_w tys tb ad h ++ [(q, xa_trE tys tb (xa_up ad h.1 q) e)] = xa_w tys tb (xa_up ad h.1 q) (h.1 + 1, xa_up h.2 h.1 e) := by
  show _ = (List.range (h.1 + 1)).map _
  rw [List.range_succ, List.map_append]
  congr 1
  · refine List.map_congr_left fun i hi => ?_
    have hi : i < h.1 := List.mem_range.mp hi
    show (ad i, xa_trE tys tb ad (h.2 i)) = (xa_up ad h.1 q i, xa_trE tys tb (xa_up ad h.1 q) (xa_up h.2 h.1 e i))
    rw [xa_up_n ad q (Nat.ne_of_lt hi), xa_up_n h.2 e (Nat.ne_of_lt hi), xa_trE_ag (ad := ad) (fun j hj => xa_up_n ad q (Nat.ne_of_lt hj)) (hok i hi)]
  · show [(q, xa_trE tys tb (xa_up ad h.1 q) e)] = [(xa_up ad h.1 q h.1, xa_trE tys tb (xa_up ad h.1 q) (xa_up h.2 h.1 e h.1))]
    rw [xa_up_s, xa_up_s]
/-- the known locals, as the kit lists them -/
def xa_kn (tb ad : Nat → Nat) : List Value → Nat → List (Nat × Value)
  | [], _ => []
  | v :: r, i => match v with
    | .float _ => xa_kn tb ad r (i + 1)
    | w => (i, xa_tr tb ad w) :: xa_kn tb ad r (i + 1)
def xa_isj : Value → Bool
  | .float _ => true
  | _ => false
theorem xa_kn_c (tb ad : Nat → Nat) (v : Value) (r : List Value) (b : Nat) : xa_kn tb ad (v :: r) b = if xa_isj v then xa_kn tb ad r (b + 1) else (b, xa_tr tb ad v) :: xa_kn tb ad r (b + 1) := by
  cases v <;> rfl
theorem xa_kn_mem {tb ad : Nat → Nat} {v : Value} (hj : xa_isj v = false) : ∀ (ls : List Value) (i b : Nat), ls[i]? = some v → (b + i, xa_tr tb ad v) ∈ xa_kn tb ad ls b
  | [], i, b, h => by simp at h
  | w :: r, 0, b, h => by
    have e : w = v := by simpa using h
    rw [e, xa_kn_c, hj]
    exact List.mem_cons_self
  | w :: r, i + 1, b, h => by
    have h1 : r[i]? = some v := by simpa using h
    have h2 := xa_kn_mem (tb := tb) (ad := ad) hj r i (b + 1) h1
    have e : b + 1 + i = b + (i + 1) := by omega
    rw [e] at h2
    rw [xa_kn_c]
    split
    · exact h2
    · exact List.mem_cons_of_mem _ h2
theorem xa_kn_of {tb ad : Nat → Nat} : ∀ (ls : List Value) (b : Nat) (q : Nat × Value), q ∈ xa_kn tb ad ls b → ∃ i v, q.1 = b + i ∧ ls[i]? = some v ∧ xa_isj v = false ∧ q.2 = xa_tr tb ad v
  | [], b, q, h => by cases h
  | w :: r, b, q, h => by
    rw [xa_kn_c] at h
    have tail : q ∈ xa_kn tb ad r (b + 1) → ∃ i v, q.1 = b + i ∧ (w :: r)[i]? = some v ∧ xa_isj v = false ∧ q.2 = xa_tr tb ad v := fun h2 => by
      obtain ⟨i, v, e1, e2, e3, e4⟩ := xa_kn_of r (b + 1) q h2
      exact ⟨i + 1, v, by omega, by simpa using e2, e3, e4⟩
    by_cases hj : xa_isj w = true
    · rw [if_pos hj] at h
      exact tail h
    · rw [if_neg hj] at h
      rcases List.mem_cons.mp h with e | e
      · exact ⟨0, w, by rw [e]; rfl, rfl, by simpa using hj, by rw [e]⟩
      · exact tail e
def xa_lv (tb ad : Nat → Nat) (n nL : Nat) (sl : Array Slot) (ls : List Value) : Prop := lv_has sl nL (xa_kn tb ad ls 0) ∧ ls.length = nL ∧ ∀ v ∈ ls, xa_ok n v ∧ v.category = 1
theorem xa_lv_at {tb ad : Nat → Nat} {n nL : Nat} {sl : Array Slot} {ls : List Value} (h : xa_lv tb ad n nL sl ls) {i : Nat} {v : Value} (hi : ls[i]? = some v) (hj : xa_isj v = false) : sl[i]? = some (.val (xa_tr tb ad v)) := by
  have h1 := xa_kn_mem (tb := tb) (ad := ad) hj ls i 0 hi
  rw [Nat.zero_add] at h1
  exact h.1.2.2 _ h1
theorem xa_lv_ok {tb ad : Nat → Nat} {n nL : Nat} {sl : Array Slot} {ls : List Value} (h : xa_lv tb ad n nL sl ls) {i : Nat} {v : Value} (hi : ls[i]? = some v) : xa_ok n v := (h.2.2 v (List.mem_of_getElem? hi)).1
theorem xa_lv_lt {tb ad : Nat → Nat} {n nL : Nat} {sl : Array Slot} {ls : List Value} (h : xa_lv tb ad n nL sl ls) {i : Nat} {v : Value} (hi : ls[i]? = some v) : i < nL := by
  rw [← h.2.1]; exact (List.getElem?_eq_some_iff.mp hi).1
theorem xa_lv_set {tb ad : Nat → Nat} {n nL : Nat} {sl sl' : Array Slot} {ls : List Value} (h : xa_lv tb ad n nL sl ls) {i : Nat} {v w : Value} (hi : ls[i]? = some w) (hv : xa_ok n v) (hc : v.category = 1)
    (h' : lv_has sl' nL ((i, xa_tr tb ad v) :: (xa_kn tb ad ls 0).filter (fun q => !(q.1 == i) && !(q.1 + 1 == i && q.2.category == 2)))) : xa_lv tb ad n nL sl' (ls.set i v) := by
  have hil : i < ls.length := (List.getElem?_eq_some_iff.mp hi).1
  refine ⟨⟨h'.1, h'.2.1, fun q hq => ?_⟩, by rw [List.length_set]; exact h.2.1, fun u hu => ?_⟩
  · obtain ⟨j, u, e1, e2, e3, e4⟩ := xa_kn_of _ _ q hq
    rw [Nat.zero_add] at e1
    by_cases hij : i = j
    · subst hij
      rw [List.getElem?_set_self hil] at e2
      have e5 : v = u := Option.some.inj e2
      have := h'.2.2 (i, xa_tr tb ad v) List.mem_cons_self
      rw [e1, e4, ← e5]
      exact this
    · rw [List.getElem?_set_ne hij] at e2
      have hm := xa_kn_mem (tb := tb) (ad := ad) e3 ls j 0 e2
      rw [Nat.zero_add] at hm
      have hc2 : (xa_tr tb ad u).category = 1 := by rw [xa_cat]; exact (h.2.2 u (List.mem_of_getElem? e2)).2
      have := h'.2.2 (j, xa_tr tb ad u) (List.mem_cons_of_mem _ (List.mem_filter.mpr ⟨hm, by
        have : (j == i) = false := by simpa using fun q : j = i => hij q.symm
        simp [this, hc2]⟩))
      rw [e1, e4]
      exact this
  · rcases List.mem_or_eq_of_mem_set hu with hu | hu
    · exact h.2.2 u hu
    · rw [hu]; exact ⟨hv, hc⟩
/-- the same locals at a larger heap -/
theorem xa_lv_m {tb ad ad' : Nat → Nat} {n n' nL : Nat} {sl : Array Slot} {ls : List Value} (h : xa_lv tb ad n nL sl ls) (hn : n ≤ n') (ha : ∀ i, i < n → ad' i = ad i) : xa_lv tb ad' n' nL sl ls := by
  refine ⟨⟨h.1.1, h.1.2.1, fun q hq => ?_⟩, h.2.1, fun v hv => ⟨xa_ok_m hn (h.2.2 v hv).1, (h.2.2 v hv).2⟩⟩
  obtain ⟨i, v, e1, e2, e3, e4⟩ := xa_kn_of _ _ q hq
  rw [Nat.zero_add] at e1
  have := xa_lv_at h e2 e3
  rw [e1, e4, xa_tr_ag ha (xa_lv_ok h e2)]
  exact this
/-- fewer known locals -/
def xa_le (l l' : List Value) : Prop := l'.length = l.length ∧ ∀ (i : Nat) (v : Value), l'[i]? = some v → v = xa_j ∨ l[i]? = some v
theorem xa_lv_le {tb ad : Nat → Nat} {n nL : Nat} {sl : Array Slot} {ls ls' : List Value} (h : xa_lv tb ad n nL sl ls) (hl : xa_le ls ls') : xa_lv tb ad n nL sl ls' := by
  refine ⟨⟨h.1.1, h.1.2.1, fun q hq => ?_⟩, hl.1.trans h.2.1, fun v hv => ?_⟩
  · obtain ⟨i, v, e1, e2, e3, e4⟩ := xa_kn_of _ _ q hq
    rw [Nat.zero_add] at e1
    rcases hl.2 i v e2 with e5 | e5
    · rw [e5] at e3; cases e3
    · rw [e1, e4]; exact xa_lv_at h e5 e3
  · obtain ⟨i, hi⟩ := List.mem_iff_getElem?.mp hv
    rcases hl.2 i v hi with e5 | e5
    · rw [e5]; exact ⟨(fun a e => by cases e), rfl⟩
    · exact h.2.2 v (List.mem_of_getElem? e5)
/-- a method's locals at its entry -/
def xa_ent (nL : Nat) (vs : List Value) : List Value := vs ++ List.replicate (nL - vs.length) xa_j
end XDefs
end
section
/-! What a run of the abstract machine means on the real one. -/
section XRun
/-- what holds of a state, and goes on holding at every call -/
def xa_G (K : xa_P) (Z : xa_Z) (A : Nat → Prop) (s : State) : Prop :=
  (∀ w ∈ K.2.2.1, ∀ (a' : Array Value) (U : State), s.WarmedH U.vm → w.before a' U = true) ∧ va_K Z.1 K.2.1 Z.2.1 s ∧ Z.2.1.map (·.2) = [.int, .boolean, .long, .object K.2.2.2.2.2] ∧
  (∀ k, k < 2 → va_T .int (Z.2.2.1 k) (Z.2.2.2 k).1 (fun j => .int ((Z.2.2.2 k).2 j)) A s s.heap) ∧ va_Z K.2.2.2.1 K.2.2.2.2.1 "[I" (.ref (Z.2.2.1 0)) A s s.heap
theorem xa_G.to {K : xa_P} {Z : xa_Z} {A B : Nat → Prop} {s U : State} {locs : List Loc} (h : xa_G K Z A s) (hS : va_S A s.heap U.heap locs) (hW : s.WarmedH U.vm) (hAB : ∀ q, B q → A q) : xa_G K Z B U := by
  have kp : ∀ a : Nat, a < s.heap.size → ¬ A a → U.heap[a]? = s.heap[a]? := fun a h1 h2 => hS.2.1 a h1 h2
  refine ⟨fun w hw a' V hV => h.1 w hw a' V (State.WarmedH.trans hW hV), va_K.moved hW.alike h.2.1, h.2.2.1, fun k hk => ?_, ?_⟩
  · exact va_T.narrow (va_T.moved hW.alike (va_T.kept (h.2.2.2.1 k hk) kp)) hAB
  · exact va_Z.narrow (va_Z.moved hW.alike (va_Z.kept h.2.2.2.2 kp)) hAB
/-- a body's standing facts: method y, at most d calls deeper -/
def xa_C (K : xa_P) (Z : xa_Z) (d y : Nat) (p : Program) (R : Room) (s : State) (m : MethodId) (meth : Method) (c : Code) (A : Nat → Prop) : Prop :=
  p.tables.exec = Jvm.exec ∧ c.code = (K.1 y).2.1 ∧ c.maxLocals = (K.1 y).2.2.1 ∧ meth.sig.returnType = (K.1 y).2.2.2.1 ∧ meth.locks = false ∧ meth.name = (K.1 y).1.name ∧ s.vm.findClass (K.1 y).1.cls = some m.cls ∧
  c.exceptionTable.toList = tableOf (K.1 y).2.2.2.2 ∧ d + 8 ≤ R.frames ∧ 60 * d + 300 ≤ R.locals ∧ (∀ q, s.heap.size ≤ q → A q) ∧ xa_G K Z A s
theorem xa_C.ts {K : xa_P} {Z : xa_Z} {d y : Nat} {p : Program} {R : Room} {s : State} {m : MethodId} {meth : Method} {c : Code} {A : Nat → Prop} (C : xa_C K Z d y p R s m meth c A) (args : Array Value) : ∀ w ∈ K.2.2.1, w.before args s = true :=
  fun w hw => C.2.2.2.2.2.2.2.2.2.2.2.1 w hw args s (State.WarmedH.refl s)
theorem xa_C.o {K : xa_P} {Z : xa_Z} {d y : Nat} {p : Program} {R : Room} {s : State} {m : MethodId} {meth : Method} {c : Code} {A : Nat → Prop} (C : xa_C K Z d y p R s m meth c A) : s.vm.findClass (K.1 y).1.cls = some m.cls := C.2.2.2.2.2.2.1
theorem xa_C.l {K : xa_P} {Z : xa_Z} {d y : Nat} {p : Program} {R : Room} {s : State} {m : MethodId} {meth : Method} {c : Code} {A : Nat → Prop} (C : xa_C K Z d y p R s m meth c A) : meth.locks = false := C.2.2.2.2.1
theorem xa_C.a {K : xa_P} {Z : xa_Z} {d y : Nat} {p : Program} {R : Room} {s : State} {m : MethodId} {meth : Method} {c : Code} {A : Nat → Prop} (C : xa_C K Z d y p R s m meth c A) : ∀ q, s.heap.size ≤ q → A q := C.2.2.2.2.2.2.2.2.2.2.1
theorem xa_C.g {K : xa_P} {Z : xa_Z} {d y : Nat} {p : Program} {R : Room} {s : State} {m : MethodId} {meth : Method} {c : Code} {A : Nat → Prop} (C : xa_C K Z d y p R s m meth c A) : xa_G K Z A s := C.2.2.2.2.2.2.2.2.2.2.2
theorem xa_C.k {K : xa_P} {Z : xa_Z} {d y : Nat} {p : Program} {R : Room} {s : State} {m : MethodId} {meth : Method} {c : Code} {A : Nat → Prop} (C : xa_C K Z d y p R s m meth c A) : va_K Z.1 K.2.1 Z.2.1 s := C.g.2.1
theorem xa_C.rm {K : xa_P} {Z : xa_Z} {d y : Nat} {p : Program} {R : Room} {s : State} {m : MethodId} {meth : Method} {c : Code} {A : Nat → Prop} (C : xa_C K Z d y p R s m meth c A) : d + 8 ≤ R.frames ∧ 60 * d + 300 ≤ R.locals := ⟨C.2.2.2.2.2.2.2.2.1, C.2.2.2.2.2.2.2.2.2.1⟩
theorem xa_ty {tys : List (ClassId × FieldType)} {t : Nat} {τ : FieldType} (h : (tys.map (·.2))[t]? = some τ) : tys[t]? = some ((tys.getD t (0, .int)).1, τ) := by
  rw [List.getElem?_map] at h
  cases hq : tys[t]? with
  | none => rw [hq] at h; cases h
  | some q =>
    rw [hq] at h
    have e : q.2 = τ := Option.some.inj h
    rw [List.getD_eq_getElem?_getD, hq, ← e]
    rfl
theorem xa_C.ty {K : xa_P} {Z : xa_Z} {d y : Nat} {p : Program} {R : Room} {s : State} {m : MethodId} {meth : Method} {c : Code} {A : Nat → Prop} (C : xa_C K Z d y p R s m meth c A) {t : Nat} {τ : FieldType} (h : ([.int, .boolean, .long, .object K.2.2.2.2.2] : List FieldType)[t]? = some τ) :
    Z.2.1[t]? = some ((Z.2.1.getD t (0, .int)).1, τ) := xa_ty (by rw [C.g.2.2.1]; exact h)
/-- the logical heap lies in the real one -/
def xa_rep (K : xa_P) (Z : xa_Z) (A : Nat → Prop) (s : State) (H : Heap) (locs : List Loc) (ad : Nat → Nat) (h : xa_H) : Prop :=
  va_P Z.1 K.2.1 (xa_w Z.2.1 Z.2.2.1 ad h) H ∧ va_D A (xa_w Z.2.1 Z.2.2.1 ad h) ∧ va_S A s.heap H locs ∧ ∀ i, i < h.1 → xa_okE h.1 (h.2 i)
/-- what came of a method -/
def xa_oc (Z : xa_Z) (s : State) (ad : Nat → Nat) (h : xa_H) (t : State) (o : Outcome) : xa_O → Prop
  | .inl v => o = .returned (v.map (xa_tr Z.2.2.1 ad)) ∧ ∀ w, v = some w → xa_ok h.1 w
  | .inr E => ∃ (q : Addr) (ce : Cell), o = .threw q ∧ t.heap[q]? = some ce ∧ ce.vm = .none ∧ s.vm.findClass E = some ce.cls
def xa_E (K : xa_P) (Z : xa_Z) (below : List Frame) (A : Nat → Prop) (s : State) (ad : Nat → Nat) (n mc ms : Nat) (Q : xa_Q) (t : State) : Prop :=
  ∃ o, t.status = .running ∧ Ended t below o ∧ (∃ L, s.WarmedH t.vm ∧ s.sameButNew ({ t with vm := s.vm } : State) L mc ms ∧ ∀ q ∈ L, A q.base) ∧
    ∃ (ad' : Nat → Nat) (h' : xa_H) (oa : xa_O), n ≤ h'.1 ∧ (∀ i, i < n → ad' i = ad i) ∧ xa_rep K Z A s t.heap [] ad' h' ∧ Q oa h' ∧ xa_oc Z s ad' h' t o oa
theorem xa_E.m {K : xa_P} {Z : xa_Z} {below : List Frame} {A : Nat → Prop} {s : State} {ad ad1 : Nat → Nat} {n n1 mc ms : Nat} {Q : xa_Q} {t : State} (hn : n ≤ n1) (ha : ∀ i, i < n → ad1 i = ad i) (h : xa_E K Z below A s ad1 n1 mc ms Q t) : xa_E K Z below A s ad n mc ms Q t := by
  obtain ⟨o, h1, h2, h3, ad', h', oa, h4, h5, h6⟩ := h
  exact ⟨o, h1, h2, h3, ad', h', oa, Nat.le_trans hn h4, fun i hi => (h5 i (Nat.lt_of_lt_of_le hi hn)).trans (ha i hi), h6⟩
theorem xa_post {p : Program} {l : Launch} {e : Env} {R : Room} {s : State} {m : MethodId} {args : Array Value} {below : List Frame} {meth : Method} {c : Code} {H : Heap} {locs : List Loc} {cells slots : Nat} {Q Q' : State → Prop} {g : JFrame}
    (hq : ∀ t, Q' t → Q t) (k : W p l e R s m args below meth c H locs cells slots Q' g) : W p l e R s m args below meth c H locs cells slots Q g := by
  intro T hT X
  obtain ⟨t, a, b⟩ := k T hT X
  exact ⟨t, a, hq t b⟩
/-- the meaning of a configuration -/
def xa_W (l : Launch) (K : xa_P) (Z : xa_Z) : xa_R := fun d y pc ls st h mc ms Q =>
  ∀ (p : Program) (e : Env) (R : Room) (s : State) (m : MethodId) (args : Array Value) (below : List Frame) (meth : Method) (c : Code) (A : Nat → Prop) (H : Heap) (locs : List Loc) (cells slots : Nat) (ad : Nat → Nat) (sl : Array Slot),
    xa_C K Z d y p R s m meth c A → cells + mc ≤ R.cells → slots + ms ≤ R.slots → xa_rep K Z A s H locs ad h → xa_lv Z.2.2.1 ad h.1 (K.1 y).2.2.1 sl ls → xa_oks h.1 st →
    W p l e R s m args below meth c H locs cells slots (xa_E K Z below A s ad h.1 (cells + mc) (slots + ms) Q) (F0 m pc sl (st.map (xa_tr Z.2.2.1 ad)))
end XRun
end
section
/-! What the words of the tables give the abstract machine: fields, classes, methods. -/
section XLinks
/-- the instruction at pc, its length, the next pc; and where a jump leads -/
def xa_d (K : xa_P) (y pc : Nat) (ins : Instr) (len n : Nat) : Prop := decode (K.1 y).2.1 pc = .ok (ins, len) ∧ pc + len = n
def xa_db (K : xa_P) (y pc : Nat) (ins : Instr) (len n : Nat) (off : Int) (tgt : Nat) : Prop := xa_d K y pc ins len n ∧ (pc : Int) + off = (tgt : Int)
/-- the class with the number ci: its name, its fields, their types -/
def xa_k (K : xa_P) (ci : Nat) (C : String) (T : u_T) (N : Nat) (ty0 : Nat → FieldType) : Prop :=
  K.2.1[ci]? = some (C, T, N) ∧ (∀ w ∈ u_ws C T N, w ∈ K.2.2.1) ∧ (∀ k, k < N → parseFieldDescriptor (T k).2.2.1 = some (ty0 k)) ∧ ∀ a, a < N → ∀ b, b < N → a ≠ b → (T a).2.1 ≠ (T b).2.1
/-- the entry i of the class own leads to the field k of the class ci -/
def xa_fll (K : xa_P) (own : String) (i : Nat) (T : u_T) (k : Nat) : Prop :=
  Cond.fieldLink own i (T k).1 (T k).2.1 (T k).2.2.1 ∈ K.2.2.1 ∨ ∃ host, Cond.fieldLinkNest own i (T k).1 (T k).2.1 (T k).2.2.1 host ∈ K.2.2.1
def xa_fld (K : xa_P) (own : String) (i ci k : Nat) : Prop := ∃ C T N ty0, xa_k K ci C T N ty0 ∧ k < N ∧ xa_fll K own i T k
def xa_fldP (K : xa_P) (own : String) (i ci k : Nat) (ty : FieldType) : Prop := ∃ C T N ty0, xa_k K ci C T N ty0 ∧ k < N ∧ ty0 k = ty ∧ (T k).2.2.2 = false ∧ xa_fll K own i T k
def xa_fldF (K : xa_P) (own : String) (i ci k : Nat) (ty : FieldType) : Prop := ∃ C T N ty0, xa_k K ci C T N ty0 ∧ k < N ∧ ty0 k = ty ∧ (T k).2.2.2 = true ∧ (T k).1 = own ∧ Cond.fieldLink own i (T k).1 (T k).2.1 (T k).2.2.1 ∈ K.2.2.1
def xa_new (K : xa_P) (own : String) (i ci N : Nat) (fs : List Value) : Prop := ∃ C T ty0, xa_k K ci C T N ty0 ∧ Cond.classLink own i C ∈ K.2.2.1 ∧ Cond.instantiable C N ∈ K.2.2.1 ∧ Cond.initialized C ∈ K.2.2.1 ∧ (∀ j, j < N → defaultValue (ty0 j) = vp_V fs j) ∧ fs.all (fun v => match v with | .ref _ => false | .retAddr _ => false | _ => true) = true
/-- the word of a method's code -/
def xa_cw (q : xa_M) : Cond := match q.2.2.2.2 with
  | [] => .code q.1 q.2.1 q.2.2.1 q.2.2.2.1
  | hh => .codeWith q.1 q.2.1 q.2.2.1 q.2.2.2.1 hh
def xa_ml (K : xa_P) (own : String) (i : Nat) (x : MethodName) : Prop := Cond.methodLink own i x ∈ K.2.2.1 ∨ ∃ host, Cond.methodLinkNest own i x host ∈ K.2.2.1
def xa_my (K : xa_P) (y n : Nat) : Prop := xa_cw (K.1 y) ∈ K.2.2.1 ∧ plainName (K.1 y).1.cls = true ∧ ((K.1 y).1.cls ≠ "java/lang/invoke/MethodHandle" ∧ (K.1 y).1.cls ≠ "java/lang/invoke/VarHandle") ∧ (parseMethodDescriptor (K.1 y).1.desc).map (fun d => d.parameters.length) = some n ∧ (K.1 y).2.2.1 ≤ 41
def xa_lkV (K : xa_P) (own : String) (i ci y n : Nat) : Prop := xa_ml K own i (K.1 y).1 ∧ Cond.instanceMethod (K.1 y).1 ∈ K.2.2.1 ∧ (∃ T N, K.2.1[ci]? = some ((K.1 y).1.cls, T, N)) ∧ Cond.selects (K.1 y).1.cls (K.1 y).1 (K.1 y).1 ∈ K.2.2.1 ∧ xa_my K y n ∧ n + 1 ≤ (K.1 y).2.2.1
def xa_lkS (K : xa_P) (own : String) (i y n : Nat) : Prop := xa_ml K own i (K.1 y).1 ∧ Cond.static (K.1 y).1 ∈ K.2.2.1 ∧ Cond.initialized (K.1 y).1.cls ∈ K.2.2.1 ∧ xa_my K y n ∧ n ≤ (K.1 y).2.2.1
def xa_lkI (K : xa_P) (own : String) (i y n : Nat) : Prop := xa_ml K own i (K.1 y).1 ∧ Cond.instanceMethod (K.1 y).1 ∈ K.2.2.1 ∧ (K.1 y).1.name = "<init>" ∧ (K.1 y).2.2.2.1 = none ∧ (K.1 y).2.2.2.2 = [] ∧ xa_my K y n ∧ n + 1 ≤ (K.1 y).2.2.1
end XLinks
end
section
/-! The rules of the abstract machine (printed by wip/whole/gen_machine.py). -/
section XRules
variable (K : xa_P) (tx : Nat → Nat × (Nat → Int32)) (R : xa_R)
def xr_iconst : Prop := ∀ (d y pc : Nat) (ls st : List Value) (h : xa_H) (mc ms : Nat) (Q : xa_Q) (n' : Nat) (n : Int) (v : Int32), (xa_d K y pc (.iconst n) 1 n') → (Int32.ofInt n = v) → (R d y (n') (ls) (.int v :: st) (h) (mc) (ms) Q) → R d y (pc) (ls) (st) (h) (mc) (ms) Q
def xr_bipush : Prop := ∀ (d y pc : Nat) (ls st : List Value) (h : xa_H) (mc ms : Nat) (Q : xa_Q) (n' : Nat) (n : Int) (v : Int32), (xa_d K y pc (.bipush n) 2 n') → ((Int8.ofInt n).toInt32 = v) → (R d y (n') (ls) (.int v :: st) (h) (mc) (ms) Q) → R d y (pc) (ls) (st) (h) (mc) (ms) Q
def xr_sipush : Prop := ∀ (d y pc : Nat) (ls st : List Value) (h : xa_H) (mc ms : Nat) (Q : xa_Q) (n' : Nat) (n : Int) (v : Int32), (xa_d K y pc (.sipush n) 3 n') → ((Int16.ofInt n).toInt32 = v) → (R d y (n') (ls) (.int v :: st) (h) (mc) (ms) Q) → R d y (pc) (ls) (st) (h) (mc) (ms) Q
def xr_ldc : Prop := ∀ (d y pc : Nat) (ls st : List Value) (h : xa_H) (mc ms : Nat) (Q : xa_Q) (n' : Nat) (i : Nat) (v : Int32), (xa_d K y pc (.ldc i) 2 n') → (Jvm.Cond.constant (K.1 y).1.cls i v ∈ K.2.2.1) → (R d y (n') (ls) (.int v :: st) (h) (mc) (ms) Q) → R d y (pc) (ls) (st) (h) (mc) (ms) Q
def xr_iload_n : Prop := ∀ (d y pc : Nat) (ls st : List Value) (h : xa_H) (mc ms : Nat) (Q : xa_Q) (n' : Nat) (n : Fin 4) (i : Nat) (x : Int32), (xa_d K y pc (.iload_n n) 1 n') → ((n : Nat) = i) → (ls[i]? = some (.int x)) → (R d y (n') (ls) (.int x :: st) (h) (mc) (ms) Q) → R d y (pc) (ls) (st) (h) (mc) (ms) Q
def xr_iload : Prop := ∀ (d y pc : Nat) (ls st : List Value) (h : xa_H) (mc ms : Nat) (Q : xa_Q) (n' : Nat) (i : Nat) (x : Int32), (xa_d K y pc (.iload i) 2 n') → (ls[i]? = some (.int x)) → (R d y (n') (ls) (.int x :: st) (h) (mc) (ms) Q) → R d y (pc) (ls) (st) (h) (mc) (ms) Q
def xr_aload_n : Prop := ∀ (d y pc : Nat) (ls st : List Value) (h : xa_H) (mc ms : Nat) (Q : xa_Q) (n' : Nat) (n : Fin 4) (i : Nat) (x : Nat), (xa_d K y pc (.aload_n n) 1 n') → ((n : Nat) = i) → (ls[i]? = some (.ref x)) → (R d y (n') (ls) (.ref x :: st) (h) (mc) (ms) Q) → R d y (pc) (ls) (st) (h) (mc) (ms) Q
def xr_aload_nT : Prop := ∀ (d y pc : Nat) (ls st : List Value) (h : xa_H) (mc ms : Nat) (Q : xa_Q) (n' : Nat) (n : Fin 4) (i : Nat) (x : Nat), (xa_d K y pc (.aload_n n) 1 n') → ((n : Nat) = i) → (ls[i]? = some (.retAddr x)) → (R d y (n') (ls) (.retAddr x :: st) (h) (mc) (ms) Q) → R d y (pc) (ls) (st) (h) (mc) (ms) Q
def xr_aload : Prop := ∀ (d y pc : Nat) (ls st : List Value) (h : xa_H) (mc ms : Nat) (Q : xa_Q) (n' : Nat) (i : Nat) (x : Nat), (xa_d K y pc (.aload i) 2 n') → (ls[i]? = some (.ref x)) → (R d y (n') (ls) (.ref x :: st) (h) (mc) (ms) Q) → R d y (pc) (ls) (st) (h) (mc) (ms) Q
def xr_aloadT : Prop := ∀ (d y pc : Nat) (ls st : List Value) (h : xa_H) (mc ms : Nat) (Q : xa_Q) (n' : Nat) (i : Nat) (x : Nat), (xa_d K y pc (.aload i) 2 n') → (ls[i]? = some (.retAddr x)) → (R d y (n') (ls) (.retAddr x :: st) (h) (mc) (ms) Q) → R d y (pc) (ls) (st) (h) (mc) (ms) Q
def xr_istore_n : Prop := ∀ (d y pc : Nat) (ls st : List Value) (h : xa_H) (mc ms : Nat) (Q : xa_Q) (n' : Nat) (n : Fin 4) (i : Nat) (x : Int32) (w : Value), (xa_d K y pc (.istore_n n) 1 n') → ((n : Nat) = i) → (ls[i]? = some w) → (R d y (n') (ls.set i (.int x)) (st) (h) (mc) (ms) Q) → R d y (pc) (ls) (.int x :: st) (h) (mc) (ms) Q
def xr_istore : Prop := ∀ (d y pc : Nat) (ls st : List Value) (h : xa_H) (mc ms : Nat) (Q : xa_Q) (n' : Nat) (i : Nat) (x : Int32) (w : Value), (xa_d K y pc (.istore i) 2 n') → (ls[i]? = some w) → (R d y (n') (ls.set i (.int x)) (st) (h) (mc) (ms) Q) → R d y (pc) (ls) (.int x :: st) (h) (mc) (ms) Q
def xr_astore_n : Prop := ∀ (d y pc : Nat) (ls st : List Value) (h : xa_H) (mc ms : Nat) (Q : xa_Q) (n' : Nat) (n : Fin 4) (i : Nat) (x : Nat) (w : Value), (xa_d K y pc (.astore_n n) 1 n') → ((n : Nat) = i) → (ls[i]? = some w) → (R d y (n') (ls.set i (.ref x)) (st) (h) (mc) (ms) Q) → R d y (pc) (ls) (.ref x :: st) (h) (mc) (ms) Q
def xr_astore : Prop := ∀ (d y pc : Nat) (ls st : List Value) (h : xa_H) (mc ms : Nat) (Q : xa_Q) (n' : Nat) (i : Nat) (x : Nat) (w : Value), (xa_d K y pc (.astore i) 2 n') → (ls[i]? = some w) → (R d y (n') (ls.set i (.ref x)) (st) (h) (mc) (ms) Q) → R d y (pc) (ls) (.ref x :: st) (h) (mc) (ms) Q
def xr_iinc : Prop := ∀ (d y pc : Nat) (ls st : List Value) (h : xa_H) (mc ms : Nat) (Q : xa_Q) (n' : Nat) (i : Nat) (n : Int) (x : Int32) (v : Int32), (xa_d K y pc (.iinc i n) 3 n') → (ls[i]? = some (.int x)) → (x + Int32.ofInt n = v) → (R d y (n') (ls.set i (.int v)) (st) (h) (mc) (ms) Q) → R d y (pc) (ls) (st) (h) (mc) (ms) Q
def xr_iadd : Prop := ∀ (d y pc : Nat) (ls st : List Value) (h : xa_H) (mc ms : Nat) (Q : xa_Q) (n' : Nat) (x : Int32) (z : Int32), (xa_d K y pc (.iadd) 1 n') → (R d y (n') (ls) (.int (x + z) :: st) (h) (mc) (ms) Q) → R d y (pc) (ls) (.int z :: .int x :: st) (h) (mc) (ms) Q
def xr_isub : Prop := ∀ (d y pc : Nat) (ls st : List Value) (h : xa_H) (mc ms : Nat) (Q : xa_Q) (n' : Nat) (x : Int32) (z : Int32), (xa_d K y pc (.isub) 1 n') → (R d y (n') (ls) (.int (x - z) :: st) (h) (mc) (ms) Q) → R d y (pc) (ls) (.int z :: .int x :: st) (h) (mc) (ms) Q
def xr_imul : Prop := ∀ (d y pc : Nat) (ls st : List Value) (h : xa_H) (mc ms : Nat) (Q : xa_Q) (n' : Nat) (x : Int32) (z : Int32), (xa_d K y pc (.imul) 1 n') → (R d y (n') (ls) (.int (x * z) :: st) (h) (mc) (ms) Q) → R d y (pc) (ls) (.int z :: .int x :: st) (h) (mc) (ms) Q
def xr_iand : Prop := ∀ (d y pc : Nat) (ls st : List Value) (h : xa_H) (mc ms : Nat) (Q : xa_Q) (n' : Nat) (x : Int32) (z : Int32), (xa_d K y pc (.iand) 1 n') → (R d y (n') (ls) (.int (x &&& z) :: st) (h) (mc) (ms) Q) → R d y (pc) (ls) (.int z :: .int x :: st) (h) (mc) (ms) Q
def xr_ior : Prop := ∀ (d y pc : Nat) (ls st : List Value) (h : xa_H) (mc ms : Nat) (Q : xa_Q) (n' : Nat) (x : Int32) (z : Int32), (xa_d K y pc (.ior) 1 n') → (R d y (n') (ls) (.int (x ||| z) :: st) (h) (mc) (ms) Q) → R d y (pc) (ls) (.int z :: .int x :: st) (h) (mc) (ms) Q
def xr_ixor : Prop := ∀ (d y pc : Nat) (ls st : List Value) (h : xa_H) (mc ms : Nat) (Q : xa_Q) (n' : Nat) (x : Int32) (z : Int32), (xa_d K y pc (.ixor) 1 n') → (R d y (n') (ls) (.int (x ^^^ z) :: st) (h) (mc) (ms) Q) → R d y (pc) (ls) (.int z :: .int x :: st) (h) (mc) (ms) Q
def xr_ishl : Prop := ∀ (d y pc : Nat) (ls st : List Value) (h : xa_H) (mc ms : Nat) (Q : xa_Q) (n' : Nat) (x : Int32) (z : Int32), (xa_d K y pc (.ishl) 1 n') → (R d y (n') (ls) (.int (x <<< (z &&& 31)) :: st) (h) (mc) (ms) Q) → R d y (pc) (ls) (.int z :: .int x :: st) (h) (mc) (ms) Q
def xr_ishr : Prop := ∀ (d y pc : Nat) (ls st : List Value) (h : xa_H) (mc ms : Nat) (Q : xa_Q) (n' : Nat) (x : Int32) (z : Int32), (xa_d K y pc (.ishr) 1 n') → (R d y (n') (ls) (.int (x >>> (z &&& 31)) :: st) (h) (mc) (ms) Q) → R d y (pc) (ls) (.int z :: .int x :: st) (h) (mc) (ms) Q
def xr_iushr : Prop := ∀ (d y pc : Nat) (ls st : List Value) (h : xa_H) (mc ms : Nat) (Q : xa_Q) (n' : Nat) (x : Int32) (z : Int32), (xa_d K y pc (.iushr) 1 n') → (R d y (n') (ls) (.int ((x.toUInt32 >>> (z.toUInt32 &&& Int32.toUInt32 31)).toInt32) :: st) (h) (mc) (ms) Q) → R d y (pc) (ls) (.int z :: .int x :: st) (h) (mc) (ms) Q
def xr_idiv : Prop := ∀ (d y pc : Nat) (ls st : List Value) (h : xa_H) (mc ms : Nat) (Q : xa_Q) (n' : Nat) (x : Int32) (z : Int32), (xa_d K y pc (.idiv) 1 n') → (¬ z = 0) → (R d y (n') (ls) (.int (x / z) :: st) (h) (mc) (ms) Q) → R d y (pc) (ls) (.int z :: .int x :: st) (h) (mc) (ms) Q
def xr_irem : Prop := ∀ (d y pc : Nat) (ls st : List Value) (h : xa_H) (mc ms : Nat) (Q : xa_Q) (n' : Nat) (x : Int32) (z : Int32), (xa_d K y pc (.irem) 1 n') → (¬ z = 0) → (R d y (n') (ls) (.int (x - x / z * z) :: st) (h) (mc) (ms) Q) → R d y (pc) (ls) (.int z :: .int x :: st) (h) (mc) (ms) Q
def xr_i2l : Prop := ∀ (d y pc : Nat) (ls st : List Value) (h : xa_H) (mc ms : Nat) (Q : xa_Q) (n' : Nat) (x : Int32), (xa_d K y pc (.i2l) 1 n') → (R d y (n') (ls) (.long x.toInt64 :: st) (h) (mc) (ms) Q) → R d y (pc) (ls) (.int x :: st) (h) (mc) (ms) Q
def xr_lcmp : Prop := ∀ (d y pc : Nat) (ls st : List Value) (h : xa_H) (mc ms : Nat) (Q : xa_Q) (n' : Nat) (x : Int64) (z : Int64), (xa_d K y pc (.lcmp) 1 n') → (R d y (n') (ls) (.int (lg_cmp x z) :: st) (h) (mc) (ms) Q) → R d y (pc) (ls) (.long z :: .long x :: st) (h) (mc) (ms) Q
def xr_dup : Prop := ∀ (d y pc : Nat) (ls st : List Value) (h : xa_H) (mc ms : Nat) (Q : xa_Q) (n' : Nat) (v : Value), (xa_d K y pc (.dup) 1 n') → (v.category = 1) → (R d y (n') (ls) (v :: v :: st) (h) (mc) (ms) Q) → R d y (pc) (ls) (v :: st) (h) (mc) (ms) Q
def xr_pop : Prop := ∀ (d y pc : Nat) (ls st : List Value) (h : xa_H) (mc ms : Nat) (Q : xa_Q) (n' : Nat) (v : Value), (xa_d K y pc (.pop) 1 n') → (v.category = 1) → (R d y (n') (ls) (st) (h) (mc) (ms) Q) → R d y (pc) (ls) (v :: st) (h) (mc) (ms) Q
def xr_dup2 : Prop := ∀ (d y pc : Nat) (ls st : List Value) (h : xa_H) (mc ms : Nat) (Q : xa_Q) (n' : Nat) (v : Value) (w : Value), (xa_d K y pc (.dup2) 1 n') → (v.category = 1) → (w.category = 1) → (R d y (n') (ls) (v :: w :: v :: w :: st) (h) (mc) (ms) Q) → R d y (pc) (ls) (v :: w :: st) (h) (mc) (ms) Q
def xr_dup_x1 : Prop := ∀ (d y pc : Nat) (ls st : List Value) (h : xa_H) (mc ms : Nat) (Q : xa_Q) (n' : Nat) (v : Value) (w : Value), (xa_d K y pc (.dup_x1) 1 n') → (v.category = 1) → (w.category = 1) → (R d y (n') (ls) (v :: w :: v :: st) (h) (mc) (ms) Q) → R d y (pc) (ls) (v :: w :: st) (h) (mc) (ms) Q
def xr_if_eq : Prop := ∀ (d y pc : Nat) (ls st : List Value) (h : xa_H) (mc ms : Nat) (Q : xa_Q) (n' : Nat) (x : Int32) (off : Int) (tgt : Nat), (xa_db K y pc (.ifCond .eq off) 3 n' off tgt) → (x = 0 → R d y (tgt) (ls) (st) (h) (mc) (ms) Q) → (¬ x = 0 → R d y (n') (ls) (st) (h) (mc) (ms) Q) → R d y (pc) (ls) (.int x :: st) (h) (mc) (ms) Q
def xr_if_ne : Prop := ∀ (d y pc : Nat) (ls st : List Value) (h : xa_H) (mc ms : Nat) (Q : xa_Q) (n' : Nat) (x : Int32) (off : Int) (tgt : Nat), (xa_db K y pc (.ifCond .ne off) 3 n' off tgt) → (¬ x = 0 → R d y (tgt) (ls) (st) (h) (mc) (ms) Q) → (x = 0 → R d y (n') (ls) (st) (h) (mc) (ms) Q) → R d y (pc) (ls) (.int x :: st) (h) (mc) (ms) Q
def xr_if_lt : Prop := ∀ (d y pc : Nat) (ls st : List Value) (h : xa_H) (mc ms : Nat) (Q : xa_Q) (n' : Nat) (x : Int32) (off : Int) (tgt : Nat), (xa_db K y pc (.ifCond .lt off) 3 n' off tgt) → (x < 0 → R d y (tgt) (ls) (st) (h) (mc) (ms) Q) → (¬ x < 0 → R d y (n') (ls) (st) (h) (mc) (ms) Q) → R d y (pc) (ls) (.int x :: st) (h) (mc) (ms) Q
def xr_if_ge : Prop := ∀ (d y pc : Nat) (ls st : List Value) (h : xa_H) (mc ms : Nat) (Q : xa_Q) (n' : Nat) (x : Int32) (off : Int) (tgt : Nat), (xa_db K y pc (.ifCond .ge off) 3 n' off tgt) → (0 ≤ x → R d y (tgt) (ls) (st) (h) (mc) (ms) Q) → (¬ 0 ≤ x → R d y (n') (ls) (st) (h) (mc) (ms) Q) → R d y (pc) (ls) (.int x :: st) (h) (mc) (ms) Q
def xr_if_gt : Prop := ∀ (d y pc : Nat) (ls st : List Value) (h : xa_H) (mc ms : Nat) (Q : xa_Q) (n' : Nat) (x : Int32) (off : Int) (tgt : Nat), (xa_db K y pc (.ifCond .gt off) 3 n' off tgt) → (0 < x → R d y (tgt) (ls) (st) (h) (mc) (ms) Q) → (¬ 0 < x → R d y (n') (ls) (st) (h) (mc) (ms) Q) → R d y (pc) (ls) (.int x :: st) (h) (mc) (ms) Q
def xr_if_le : Prop := ∀ (d y pc : Nat) (ls st : List Value) (h : xa_H) (mc ms : Nat) (Q : xa_Q) (n' : Nat) (x : Int32) (off : Int) (tgt : Nat), (xa_db K y pc (.ifCond .le off) 3 n' off tgt) → (x ≤ 0 → R d y (tgt) (ls) (st) (h) (mc) (ms) Q) → (¬ x ≤ 0 → R d y (n') (ls) (st) (h) (mc) (ms) Q) → R d y (pc) (ls) (.int x :: st) (h) (mc) (ms) Q
def xr_icmp_eq : Prop := ∀ (d y pc : Nat) (ls st : List Value) (h : xa_H) (mc ms : Nat) (Q : xa_Q) (n' : Nat) (x : Int32) (z : Int32) (off : Int) (tgt : Nat), (xa_db K y pc (.if_icmp .eq off) 3 n' off tgt) → (x = z → R d y (tgt) (ls) (st) (h) (mc) (ms) Q) → (¬ x = z → R d y (n') (ls) (st) (h) (mc) (ms) Q) → R d y (pc) (ls) (.int z :: .int x :: st) (h) (mc) (ms) Q
def xr_icmp_ne : Prop := ∀ (d y pc : Nat) (ls st : List Value) (h : xa_H) (mc ms : Nat) (Q : xa_Q) (n' : Nat) (x : Int32) (z : Int32) (off : Int) (tgt : Nat), (xa_db K y pc (.if_icmp .ne off) 3 n' off tgt) → (¬ x = z → R d y (tgt) (ls) (st) (h) (mc) (ms) Q) → (x = z → R d y (n') (ls) (st) (h) (mc) (ms) Q) → R d y (pc) (ls) (.int z :: .int x :: st) (h) (mc) (ms) Q
def xr_icmp_lt : Prop := ∀ (d y pc : Nat) (ls st : List Value) (h : xa_H) (mc ms : Nat) (Q : xa_Q) (n' : Nat) (x : Int32) (z : Int32) (off : Int) (tgt : Nat), (xa_db K y pc (.if_icmp .lt off) 3 n' off tgt) → (x < z → R d y (tgt) (ls) (st) (h) (mc) (ms) Q) → (¬ x < z → R d y (n') (ls) (st) (h) (mc) (ms) Q) → R d y (pc) (ls) (.int z :: .int x :: st) (h) (mc) (ms) Q
def xr_icmp_ge : Prop := ∀ (d y pc : Nat) (ls st : List Value) (h : xa_H) (mc ms : Nat) (Q : xa_Q) (n' : Nat) (x : Int32) (z : Int32) (off : Int) (tgt : Nat), (xa_db K y pc (.if_icmp .ge off) 3 n' off tgt) → (z ≤ x → R d y (tgt) (ls) (st) (h) (mc) (ms) Q) → (¬ z ≤ x → R d y (n') (ls) (st) (h) (mc) (ms) Q) → R d y (pc) (ls) (.int z :: .int x :: st) (h) (mc) (ms) Q
def xr_icmp_gt : Prop := ∀ (d y pc : Nat) (ls st : List Value) (h : xa_H) (mc ms : Nat) (Q : xa_Q) (n' : Nat) (x : Int32) (z : Int32) (off : Int) (tgt : Nat), (xa_db K y pc (.if_icmp .gt off) 3 n' off tgt) → (z < x → R d y (tgt) (ls) (st) (h) (mc) (ms) Q) → (¬ z < x → R d y (n') (ls) (st) (h) (mc) (ms) Q) → R d y (pc) (ls) (.int z :: .int x :: st) (h) (mc) (ms) Q
def xr_icmp_le : Prop := ∀ (d y pc : Nat) (ls st : List Value) (h : xa_H) (mc ms : Nat) (Q : xa_Q) (n' : Nat) (x : Int32) (z : Int32) (off : Int) (tgt : Nat), (xa_db K y pc (.if_icmp .le off) 3 n' off tgt) → (x ≤ z → R d y (tgt) (ls) (st) (h) (mc) (ms) Q) → (¬ x ≤ z → R d y (n') (ls) (st) (h) (mc) (ms) Q) → R d y (pc) (ls) (.int z :: .int x :: st) (h) (mc) (ms) Q
def xr_goto : Prop := ∀ (d y pc : Nat) (ls st : List Value) (h : xa_H) (mc ms : Nat) (Q : xa_Q) (n' : Nat) (off : Int) (tgt : Nat), (xa_db K y pc (.goto off) 3 n' off tgt) → (R d y (tgt) (ls) (st) (h) (mc) (ms) Q) → R d y (pc) (ls) (st) (h) (mc) (ms) Q
def xr_tableOut : Prop := ∀ (d y pc : Nat) (ls st : List Value) (h : xa_H) (mc ms : Nat) (Q : xa_Q) (n' : Nat) (dflt : Int) (lo : Int) (hi : Int) (offs : Array Int) (len : Nat) (x : Int32) (tgt : Nat), (xa_d K y pc (.tableswitch dflt lo hi offs) len n') → (x.toInt < lo ∨ hi < x.toInt) → ((pc : Int) + dflt = (tgt : Int)) → (R d y (tgt) (ls) (st) (h) (mc) (ms) Q) → R d y (pc) (ls) (.int x :: st) (h) (mc) (ms) Q
def xr_tableIn : Prop := ∀ (d y pc : Nat) (ls st : List Value) (h : xa_H) (mc ms : Nat) (Q : xa_Q) (n' : Nat) (dflt : Int) (lo : Int) (hi : Int) (offs : Array Int) (len : Nat) (x : Int32) (off : Int) (tgt : Nat), (xa_d K y pc (.tableswitch dflt lo hi offs) len n') → (¬ x.toInt < lo) → (¬ hi < x.toInt) → (offs[(x.toInt - lo).toNat]? = some off) → ((pc : Int) + off = (tgt : Int)) → (R d y (tgt) (ls) (st) (h) (mc) (ms) Q) → R d y (pc) (ls) (.int x :: st) (h) (mc) (ms) Q
def xr_lookup : Prop := ∀ (d y pc : Nat) (ls st : List Value) (h : xa_H) (mc ms : Nat) (Q : xa_Q) (n' : Nat) (dflt : Int) (ps : Array (Int × Int)) (len : Nat) (x : Int32) (off : Int) (tgt : Nat), (xa_d K y pc (.lookupswitch dflt ps) len n') → ((ps.toList.zip (ps.toList.drop 1)).all (fun (a, next) => a.1 < next.1) = true) → (Op.lookupswitch.offset ps.toList dflt x.toInt = off) → ((pc : Int) + off = (tgt : Int)) → (R d y (tgt) (ls) (st) (h) (mc) (ms) Q) → R d y (pc) (ls) (.int x :: st) (h) (mc) (ms) Q
def xr_less : Prop := ∀ (d y pc : Nat) (ls st : List Value) (h : xa_H) (mc ms : Nat) (Q : xa_Q) (ls' : List Value), (xa_le ls ls') → (R d y (pc) (ls') (st) (h) (mc) (ms) Q) → R d y (pc) (ls) (st) (h) (mc) (ms) Q
def xr_wide : Prop := ∀ (d y pc : Nat) (ls st : List Value) (h : xa_H) (mc ms : Nat) (Q : xa_Q) (mc' : Nat) (ms' : Nat), (mc' ≤ mc) → (ms' ≤ ms) → (R d y (pc) (ls) (st) (h) (mc') (ms') Q) → R d y (pc) (ls) (st) (h) (mc) (ms) Q
def xr_get : Prop := ∀ (d y pc : Nat) (ls st : List Value) (h : xa_H) (mc ms : Nat) (Q : xa_Q) (n' : Nat) (i : Nat) (ci : Nat) (k0 : Nat) (a : Nat) (fs : List Value) (v : Value), (xa_d K y pc (.getfield i) 3 n') → (xa_fld K (K.1 y).1.cls i ci k0) → (h.2 a = .inr (ci, fs)) → (fs[k0]? = some v) → (R d y (n') (ls) (v :: st) (h) (mc) (ms) Q) → R d y (pc) (ls) (.ref a :: st) (h) (mc) (ms) Q
def xr_put : Prop := ∀ (d y pc : Nat) (ls st : List Value) (h : xa_H) (mc ms : Nat) (Q : xa_Q) (n' : Nat) (i : Nat) (ci : Nat) (k0 : Nat) (ty : FieldType) (a : Nat) (fs : List Value) (v : Value), (xa_d K y pc (.putfield i) 3 n') → (xa_fldP K (K.1 y).1.cls i ci k0 ty) → (h.2 a = .inr (ci, fs)) → (k0 < fs.length) → (∀ tb ad : Nat → Nat, narrow ty (xa_tr tb ad v) = xa_tr tb ad v ∧ fits ty (xa_tr tb ad v) = true) → (R d y (n') (ls) (st) ((h.1, xa_up h.2 a (.inr (ci, fs.set k0 v)))) (mc) (ms) Q) → R d y (pc) (ls) (v :: .ref a :: st) (h) (mc) (ms) Q
def xr_putF : Prop := ∀ (d y pc : Nat) (ls st : List Value) (h : xa_H) (mc ms : Nat) (Q : xa_Q) (n' : Nat) (i : Nat) (ci : Nat) (k0 : Nat) (ty : FieldType) (a : Nat) (fs : List Value) (v : Value), (xa_d K y pc (.putfield i) 3 n') → (xa_fldF K (K.1 y).1.cls i ci k0 ty) → ((K.1 y).1.name = "<init>") → (h.2 a = .inr (ci, fs)) → (k0 < fs.length) → (∀ tb ad : Nat → Nat, narrow ty (xa_tr tb ad v) = xa_tr tb ad v ∧ fits ty (xa_tr tb ad v) = true) → (R d y (n') (ls) (st) ((h.1, xa_up h.2 a (.inr (ci, fs.set k0 v)))) (mc) (ms) Q) → R d y (pc) (ls) (v :: .ref a :: st) (h) (mc) (ms) Q
def xr_iaload : Prop := ∀ (d y pc : Nat) (ls st : List Value) (h : xa_H) (mc ms : Nat) (Q : xa_Q) (n' : Nat) (a : Nat) (n : Nat) (f : Nat → Int32) (i : Int32), (xa_d K y pc (.iaload) 1 n') → (h.2 a = .inl (0, n, .inl f)) → (vp_in i n) → (R d y (n') (ls) (.int (f i.toNatClampNeg) :: st) (h) (mc) (ms) Q) → R d y (pc) (ls) (.int i :: .ref a :: st) (h) (mc) (ms) Q
def xr_baload : Prop := ∀ (d y pc : Nat) (ls st : List Value) (h : xa_H) (mc ms : Nat) (Q : xa_Q) (n' : Nat) (a : Nat) (n : Nat) (f : Nat → Int32) (i : Int32), (xa_d K y pc (.baload) 1 n') → (h.2 a = .inl (1, n, .inl f)) → (vp_in i n) → (R d y (n') (ls) (.int (f i.toNatClampNeg) :: st) (h) (mc) (ms) Q) → R d y (pc) (ls) (.int i :: .ref a :: st) (h) (mc) (ms) Q
def xr_laload : Prop := ∀ (d y pc : Nat) (ls st : List Value) (h : xa_H) (mc ms : Nat) (Q : xa_Q) (n' : Nat) (a : Nat) (n : Nat) (f : Nat → Int64) (i : Int32), (xa_d K y pc (.laload) 1 n') → (h.2 a = .inl (2, n, .inr (.inl f))) → (vp_in i n) → (R d y (n') (ls) (.long (f i.toNatClampNeg) :: st) (h) (mc) (ms) Q) → R d y (pc) (ls) (.int i :: .ref a :: st) (h) (mc) (ms) Q
def xr_aaload : Prop := ∀ (d y pc : Nat) (ls st : List Value) (h : xa_H) (mc ms : Nat) (Q : xa_Q) (n' : Nat) (a : Nat) (n : Nat) (f : Nat → Option Nat) (i : Int32) (b : Nat), (xa_d K y pc (.aaload) 1 n') → (h.2 a = .inl (3, n, .inr (.inr (.inr (.inr f))))) → (vp_in i n) → (f i.toNatClampNeg = some b) → (R d y (n') (ls) (.ref b :: st) (h) (mc) (ms) Q) → R d y (pc) (ls) (.int i :: .ref a :: st) (h) (mc) (ms) Q
def xr_iastore : Prop := ∀ (d y pc : Nat) (ls st : List Value) (h : xa_H) (mc ms : Nat) (Q : xa_Q) (n' : Nat) (a : Nat) (n : Nat) (f : Nat → Int32) (i : Int32) (x : Int32), (xa_d K y pc (.iastore) 1 n') → (h.2 a = .inl (0, n, .inl (f))) → (vp_in i n) → (R d y (n') (ls) (st) ((h.1, xa_up h.2 a (.inl (0, n, .inl (upd f i.toNatClampNeg x))))) (mc) (ms) Q) → R d y (pc) (ls) (.int x :: .int i :: .ref a :: st) (h) (mc) (ms) Q
def xr_bastore : Prop := ∀ (d y pc : Nat) (ls st : List Value) (h : xa_H) (mc ms : Nat) (Q : xa_Q) (n' : Nat) (a : Nat) (n : Nat) (f : Nat → Int32) (i : Int32) (x : Int32), (xa_d K y pc (.bastore) 1 n') → (h.2 a = .inl (1, n, .inl (f))) → (vp_in i n) → (R d y (n') (ls) (st) ((h.1, xa_up h.2 a (.inl (1, n, .inl (upd f i.toNatClampNeg (vp_nar .boolean x)))))) (mc) (ms) Q) → R d y (pc) (ls) (.int x :: .int i :: .ref a :: st) (h) (mc) (ms) Q
def xr_lastore : Prop := ∀ (d y pc : Nat) (ls st : List Value) (h : xa_H) (mc ms : Nat) (Q : xa_Q) (n' : Nat) (a : Nat) (n : Nat) (f : Nat → Int64) (i : Int32) (x : Int64), (xa_d K y pc (.lastore) 1 n') → (h.2 a = .inl (2, n, .inr (.inl (f)))) → (vp_in i n) → (R d y (n') (ls) (st) ((h.1, xa_up h.2 a (.inl (2, n, .inr (.inl (vp_updL f i.toNatClampNeg x)))))) (mc) (ms) Q) → R d y (pc) (ls) (.long x :: .int i :: .ref a :: st) (h) (mc) (ms) Q
def xr_aastore : Prop := ∀ (d y pc : Nat) (ls st : List Value) (h : xa_H) (mc ms : Nat) (Q : xa_Q) (n' : Nat) (a : Nat) (n : Nat) (f : Nat → Option Nat) (i : Int32) (b : Nat) (ci : Nat) (fs : List Value), (xa_d K y pc (.aastore) 1 n') → (h.2 a = .inl (3, n, .inr (.inr (.inr (.inr f))))) → (vp_in i n) → (h.2 b = .inr (ci, fs)) → (∃ T N, K.2.1[ci]? = some (K.2.2.2.2.2, T, N)) → (R d y (n') (ls) (st) ((h.1, xa_up h.2 a (.inl (3, n, .inr (.inr (.inr (.inr (va_up f i.toNatClampNeg (some b))))))))) (mc) (ms) Q) → R d y (pc) (ls) (.ref b :: .int i :: .ref a :: st) (h) (mc) (ms) Q
def xr_tload : Prop := ∀ (d y pc : Nat) (ls st : List Value) (h : xa_H) (mc ms : Nat) (Q : xa_Q) (n' : Nat) (j : Nat) (i : Int32), (xa_d K y pc (.iaload) 1 n') → (j < 2) → (vp_in i (tx j).1) → (R d y (n') (ls) (.int ((tx j).2 i.toNatClampNeg) :: st) (h) (mc) (ms) Q) → R d y (pc) (ls) (.int i :: .retAddr j :: st) (h) (mc) (ms) Q
def xr_tlen : Prop := ∀ (d y pc : Nat) (ls st : List Value) (h : xa_H) (mc ms : Nat) (Q : xa_Q) (n' : Nat) (j : Nat) (v : Int32), (xa_d K y pc (.arraylength) 1 n') → (j < 2) → (Int32.ofNat (tx j).1 = v) → (R d y (n') (ls) (.int v :: st) (h) (mc) (ms) Q) → R d y (pc) (ls) (.retAddr j :: st) (h) (mc) (ms) Q
def xr_gets : Prop := ∀ (d y pc : Nat) (ls st : List Value) (h : xa_H) (mc ms : Nat) (Q : xa_Q) (n' : Nat) (i : Nat), (xa_d K y pc (.getstatic i) 3 n') → (Cond.fieldLink (K.1 y).1.cls i K.2.2.2.1 K.2.2.2.2.1 "[I" ∈ K.2.2.1 ∨ ∃ host, Cond.fieldLinkNest (K.1 y).1.cls i K.2.2.2.1 K.2.2.2.2.1 "[I" host ∈ K.2.2.1) → (R d y (n') (ls) (.retAddr 0 :: st) (h) (mc) (ms) Q) → R d y (pc) (ls) (st) (h) (mc) (ms) Q
def xr_iret : Prop := ∀ (d y pc : Nat) (ls st : List Value) (h : xa_H) (mc ms : Nat) (Q : xa_Q) (n' : Nat) (v : Int32) (ty : FieldType), (xa_d K y pc (.ireturn) 1 n') → ((K.1 y).2.2.2.1 = some ty) → (narrow ty (.int v) = .int v) → (Q (.inl (some (.int v))) h) → R d y (pc) (ls) ([.int v]) (h) (mc) (ms) Q
def xr_vret : Prop := ∀ (d y pc : Nat) (ls st : List Value) (h : xa_H) (mc ms : Nat) (Q : xa_Q) (n' : Nat), (xa_d K y pc (.return_) 1 n') → ((K.1 y).2.2.2.1 = none) → (Q (.inl none) h) → R d y (pc) (ls) ([]) (h) (mc) (ms) Q
def xr_aret : Prop := ∀ (d y pc : Nat) (ls st : List Value) (h : xa_H) (mc ms : Nat) (Q : xa_Q) (n' : Nat) (a : Nat) (ty : FieldType), (xa_d K y pc (.areturn) 1 n') → ((K.1 y).2.2.2.1 = some ty) → ((∃ n, ty = .object n) ∨ ∃ t, ty = .array t) → (Q (.inl (some (.ref a))) h) → R d y (pc) (ls) ([.ref a]) (h) (mc) (ms) Q
def xr_oinit : Prop := ∀ (d y pc : Nat) (ls st : List Value) (h : xa_H) (mc ms : Nat) (Q : xa_Q) (n' : Nat) (i : Nat) (a : Nat), (xa_d K y pc (.invokespecial i) 3 n') → (Cond.methodLink (K.1 y).1.cls i Lib.objectInit ∈ K.2.2.1) → (Cond.instanceMethod Lib.objectInit ∈ K.2.2.1) → (Cond.code Lib.objectInit ⟨#[0xb1]⟩ 1 none ∈ K.2.2.1) → ((st.map fun v => v.category).sum ≤ 8) → (R d y (n') (ls) (st) (h) (mc) (ms) Q) → R d y (pc) (ls) (.ref a :: st) (h) (mc) (ms) Q
def xr_new : Prop := ∀ (d y pc : Nat) (ls st : List Value) (h : xa_H) (mc ms : Nat) (Q : xa_Q) (n' : Nat) (i : Nat) (ci : Nat) (N : Nat) (fs : List Value), (xa_d K y pc (.new i) 3 n') → (xa_new K (K.1 y).1.cls i ci N fs) → (R d y (n') (ls) (.ref h.1 :: st) ((h.1 + 1, xa_up h.2 h.1 (.inr (ci, fs)))) (mc) (ms) Q) → R d y (pc) (ls) (st) (h) (mc + 1) (ms + N) Q
def xr_newI : Prop := ∀ (d y pc : Nat) (ls st : List Value) (h : xa_H) (mc ms : Nat) (Q : xa_Q) (n' : Nat) (n : Int32) (N : Nat), (xa_d K y pc (.newarray .int) 2 n') → (Cond.arrayClass .int ∈ K.2.2.1) → (¬ n < 0) → (n.toNatClampNeg = N) → (N * componentBytes .int ≤ 536870912) → (R d y (n') (ls) (.ref h.1 :: st) ((h.1 + 1, xa_up h.2 h.1 (.inl (0, N, .inl (fun _ => 0))))) (mc) (ms) Q) → R d y (pc) (ls) (.int n :: st) (h) (mc + 1) (ms + N) Q
def xr_newZ : Prop := ∀ (d y pc : Nat) (ls st : List Value) (h : xa_H) (mc ms : Nat) (Q : xa_Q) (n' : Nat) (n : Int32) (N : Nat), (xa_d K y pc (.newarray .boolean) 2 n') → (Cond.arrayClass .boolean ∈ K.2.2.1) → (¬ n < 0) → (n.toNatClampNeg = N) → (N * componentBytes .boolean ≤ 536870912) → (R d y (n') (ls) (.ref h.1 :: st) ((h.1 + 1, xa_up h.2 h.1 (.inl (1, N, .inl (fun _ => 0))))) (mc) (ms) Q) → R d y (pc) (ls) (.int n :: st) (h) (mc + 1) (ms + N) Q
def xr_newL : Prop := ∀ (d y pc : Nat) (ls st : List Value) (h : xa_H) (mc ms : Nat) (Q : xa_Q) (n' : Nat) (n : Int32) (N : Nat), (xa_d K y pc (.newarray .long) 2 n') → (Cond.arrayClass .long ∈ K.2.2.1) → (¬ n < 0) → (n.toNatClampNeg = N) → (N * componentBytes .long ≤ 536870912) → (R d y (n') (ls) (.ref h.1 :: st) ((h.1 + 1, xa_up h.2 h.1 (.inl (2, N, .inr (.inl (fun _ => 0)))))) (mc) (ms) Q) → R d y (pc) (ls) (.int n :: st) (h) (mc + 1) (ms + N) Q
def xr_newQ : Prop := ∀ (d y pc : Nat) (ls st : List Value) (h : xa_H) (mc ms : Nat) (Q : xa_Q) (n' : Nat) (i : Nat) (n : Int32) (N : Nat), (xa_d K y pc (.anewarray i) 3 n') → (Cond.classLink (K.1 y).1.cls i K.2.2.2.2.2 ∈ K.2.2.1) → (Cond.arrayOver (.object K.2.2.2.2.2) ∈ K.2.2.1) → (¬ n < 0) → (n.toNatClampNeg = N) → (N * 4 ≤ 536870912) → (R d y (n') (ls) (.ref h.1 :: st) ((h.1 + 1, xa_up h.2 h.1 (.inl (3, N, .inr (.inr (.inr (.inr (fun _ => none)))))))) (mc) (ms) Q) → R d y (pc) (ls) (.int n :: st) (h) (mc + 1) (ms + N) Q
def xr_callV : Prop := ∀ (d y pc : Nat) (ls st : List Value) (h : xa_H) (mc ms : Nat) (Q : xa_Q) (n' : Nat) (i : Nat) (y' : Nat) (ci : Nat) (fs : List Value) (a : Nat) (As : List Value) (mc' : Nat) (ms' : Nat) (P : xa_Q), (xa_d K y pc (.invokevirtual i) 3 n') → (xa_lkV K (K.1 y).1.cls i ci y' As.length) → (h.2 a = .inr (ci, fs)) → (∀ v ∈ As, v.category = 1) → ((st.map fun v => v.category).sum ≤ 8) → (∀ E h', ¬ P (.inr E) h') → (R d y' 0 (xa_ent (K.1 y').2.2.1 (.ref a :: As)) [] h mc' ms' P) → (∀ (v : Option Value) (h' : xa_H), P (.inl v) h' → R (d + 1) y n' ls (v.toList ++ st) h' mc ms Q) → R (d + 1) y pc ls (As.reverse ++ .ref a :: st) h (mc + mc') (ms + ms') Q
def xr_callS : Prop := ∀ (d y pc : Nat) (ls st : List Value) (h : xa_H) (mc ms : Nat) (Q : xa_Q) (n' : Nat) (i : Nat) (y' : Nat) (As : List Value) (mc' : Nat) (ms' : Nat) (P : xa_Q), (xa_d K y pc (.invokestatic i) 3 n') → (xa_lkS K (K.1 y).1.cls i y' As.length) → (∀ v ∈ As, v.category = 1) → ((st.map fun v => v.category).sum ≤ 8) → (∀ E h', ¬ P (.inr E) h') → (R d y' 0 (xa_ent (K.1 y').2.2.1 (As)) [] h mc' ms' P) → (∀ (v : Option Value) (h' : xa_H), P (.inl v) h' → R (d + 1) y n' ls (v.toList ++ st) h' mc ms Q) → R (d + 1) y pc ls (As.reverse ++ st) h (mc + mc') (ms + ms') Q
def xr_callI : Prop := ∀ (d y pc : Nat) (ls st : List Value) (h : xa_H) (mc ms : Nat) (Q : xa_Q) (n' : Nat) (i : Nat) (y' : Nat) (a : Nat) (As : List Value) (mc' : Nat) (ms' : Nat) (P : xa_Q), (xa_d K y pc (.invokespecial i) 3 n') → (xa_lkI K (K.1 y).1.cls i y' As.length) → (∀ v ∈ As, v.category = 1) → ((st.map fun v => v.category).sum ≤ 8) → (∀ E h', ¬ P (.inr E) h') → (R d y' 0 (xa_ent (K.1 y').2.2.1 (.ref a :: As)) [] h mc' ms' P) → (∀ (v : Option Value) (h' : xa_H), P (.inl v) h' → R (d + 1) y n' ls (v.toList ++ st) h' mc ms Q) → R (d + 1) y pc ls (As.reverse ++ .ref a :: st) h (mc + mc') (ms + ms') Q
def xr_mmax : Prop := ∀ (d y pc : Nat) (ls st : List Value) (h : xa_H) (mc ms : Nat) (Q : xa_Q) (n' : Nat) (i : Nat) (x : Int32) (z : Int32), (xa_d K y pc (.invokestatic i) 3 n') → (Cond.methodLink (K.1 y).1.cls i Lib.Math.max.name ∈ K.2.2.1) → (Cond.static Lib.Math.max.name ∈ K.2.2.1) → (Cond.initialized "java/lang/Math" ∈ K.2.2.1) → (Cond.code Lib.Math.max.name Lib.Math.max.code 2 (some .int) ∈ K.2.2.1) → ((st.map fun v => v.category).sum ≤ 8) → (R d y (n') (ls) (.int (if x < z then z else x) :: st) (h) (mc) (ms) Q) → R d y (pc) (ls) (.int z :: .int x :: st) (h) (mc) (ms) Q
def xa_cl : Prop := xr_iconst K R ∧ xr_bipush K R ∧ xr_sipush K R ∧ xr_ldc K R ∧ xr_iload_n K R ∧ xr_iload K R ∧ xr_aload_n K R ∧ xr_aload_nT K R ∧ xr_aload K R ∧ xr_aloadT K R ∧ xr_istore_n K R ∧ xr_istore K R ∧ xr_astore_n K R ∧ xr_astore K R ∧ xr_iinc K R ∧ xr_iadd K R ∧ xr_isub K R ∧ xr_imul K R ∧ xr_iand K R ∧ xr_ior K R ∧ xr_ixor K R ∧ xr_ishl K R ∧ xr_ishr K R ∧ xr_iushr K R ∧ xr_idiv K R ∧ xr_irem K R ∧ xr_i2l K R ∧ xr_lcmp K R ∧ xr_dup K R ∧ xr_pop K R ∧ xr_dup2 K R ∧ xr_dup_x1 K R ∧ xr_if_eq K R ∧ xr_if_ne K R ∧ xr_if_lt K R ∧ xr_if_ge K R ∧ xr_if_gt K R ∧ xr_if_le K R ∧ xr_icmp_eq K R ∧ xr_icmp_ne K R ∧ xr_icmp_lt K R ∧ xr_icmp_ge K R ∧ xr_icmp_gt K R ∧ xr_icmp_le K R ∧ xr_goto K R ∧ xr_tableOut K R ∧ xr_tableIn K R ∧ xr_lookup K R ∧ xr_less R ∧ xr_wide R ∧ xr_get K R ∧ xr_put K R ∧ xr_putF K R ∧ xr_iaload K R ∧ xr_baload K R ∧ xr_laload K R ∧ xr_aaload K R ∧ xr_iastore K R ∧ xr_bastore K R ∧ xr_lastore K R ∧ xr_aastore K R ∧ xr_tload K tx R ∧ xr_tlen K tx R ∧ xr_gets K R ∧ xr_iret K R ∧ xr_vret K R ∧ xr_aret K R ∧ xr_oinit K R ∧ xr_new K R ∧ xr_newI K R ∧ xr_newZ K R ∧ xr_newL K R ∧ xr_newQ K R ∧ xr_callV K R ∧ xr_callS K R ∧ xr_callI K R ∧ xr_mmax K R
end XRules
/-- from here the machine ends, and Q holds there -/
def xa_X (K : xa_P) (tx : Nat → Nat × (Nat → Int32)) : xa_R := fun d y pc ls st h mc ms Q => ∀ R : xa_R, xa_cl K tx R → R d y pc ls st h mc ms Q
section XRows
variable {K : xa_P} {tx : Nat → Nat × (Nat → Int32)} {d y pc : Nat} {ls st : List Value} {h : xa_H} {mc ms : Nat} {Q : xa_Q}
theorem xx_iconst {n' : Nat} {n : Int} {v : Int32} (hd : xa_d K y pc (.iconst n) 1 n') (hv : Int32.ofInt n = v) (k : xa_X K tx d y (n') (ls) (.int v :: st) (h) (mc) (ms) Q) : xa_X K tx d y (pc) (ls) (st) (h) (mc) (ms) Q := fun R hR => hR.1 _ _ _ _ _ _ _ _ _ _ _ _ hd hv (k R hR)
theorem xx_bipush {n' : Nat} {n : Int} {v : Int32} (hd : xa_d K y pc (.bipush n) 2 n') (hv : (Int8.ofInt n).toInt32 = v) (k : xa_X K tx d y (n') (ls) (.int v :: st) (h) (mc) (ms) Q) : xa_X K tx d y (pc) (ls) (st) (h) (mc) (ms) Q := fun R hR => hR.2.1 _ _ _ _ _ _ _ _ _ _ _ _ hd hv (k R hR)
theorem xx_sipush {n' : Nat} {n : Int} {v : Int32} (hd : xa_d K y pc (.sipush n) 3 n') (hv : (Int16.ofInt n).toInt32 = v) (k : xa_X K tx d y (n') (ls) (.int v :: st) (h) (mc) (ms) Q) : xa_X K tx d y (pc) (ls) (st) (h) (mc) (ms) Q := fun R hR => hR.2.2.1 _ _ _ _ _ _ _ _ _ _ _ _ hd hv (k R hR)
theorem xx_ldc {n' : Nat} {i : Nat} {v : Int32} (hd : xa_d K y pc (.ldc i) 2 n') (hv : Jvm.Cond.constant (K.1 y).1.cls i v ∈ K.2.2.1) (k : xa_X K tx d y (n') (ls) (.int v :: st) (h) (mc) (ms) Q) : xa_X K tx d y (pc) (ls) (st) (h) (mc) (ms) Q := fun R hR => hR.2.2.2.1 _ _ _ _ _ _ _ _ _ _ _ _ hd hv (k R hR)
theorem xx_iload_n {n' : Nat} {n : Fin 4} {i : Nat} {x : Int32} (hd : xa_d K y pc (.iload_n n) 1 n') (hi : (n : Nat) = i) (hl : ls[i]? = some (.int x)) (k : xa_X K tx d y (n') (ls) (.int x :: st) (h) (mc) (ms) Q) : xa_X K tx d y (pc) (ls) (st) (h) (mc) (ms) Q := fun R hR => hR.2.2.2.2.1 _ _ _ _ _ _ _ _ _ _ _ _ _ hd hi hl (k R hR)
theorem xx_iload {n' : Nat} {i : Nat} {x : Int32} (hd : xa_d K y pc (.iload i) 2 n') (hl : ls[i]? = some (.int x)) (k : xa_X K tx d y (n') (ls) (.int x :: st) (h) (mc) (ms) Q) : xa_X K tx d y (pc) (ls) (st) (h) (mc) (ms) Q := fun R hR => hR.2.2.2.2.2.1 _ _ _ _ _ _ _ _ _ _ _ _ hd hl (k R hR)
theorem xx_aload_n {n' : Nat} {n : Fin 4} {i : Nat} {x : Nat} (hd : xa_d K y pc (.aload_n n) 1 n') (hi : (n : Nat) = i) (hl : ls[i]? = some (.ref x)) (k : xa_X K tx d y (n') (ls) (.ref x :: st) (h) (mc) (ms) Q) : xa_X K tx d y (pc) (ls) (st) (h) (mc) (ms) Q := fun R hR => hR.2.2.2.2.2.2.1 _ _ _ _ _ _ _ _ _ _ _ _ _ hd hi hl (k R hR)
theorem xx_aload_nT {n' : Nat} {n : Fin 4} {i : Nat} {x : Nat} (hd : xa_d K y pc (.aload_n n) 1 n') (hi : (n : Nat) = i) (hl : ls[i]? = some (.retAddr x)) (k : xa_X K tx d y (n') (ls) (.retAddr x :: st) (h) (mc) (ms) Q) : xa_X K tx d y (pc) (ls) (st) (h) (mc) (ms) Q := fun R hR => hR.2.2.2.2.2.2.2.1 _ _ _ _ _ _ _ _ _ _ _ _ _ hd hi hl (k R hR)
theorem xx_aload {n' : Nat} {i : Nat} {x : Nat} (hd : xa_d K y pc (.aload i) 2 n') (hl : ls[i]? = some (.ref x)) (k : xa_X K tx d y (n') (ls) (.ref x :: st) (h) (mc) (ms) Q) : xa_X K tx d y (pc) (ls) (st) (h) (mc) (ms) Q := fun R hR => hR.2.2.2.2.2.2.2.2.1 _ _ _ _ _ _ _ _ _ _ _ _ hd hl (k R hR)
theorem xx_aloadT {n' : Nat} {i : Nat} {x : Nat} (hd : xa_d K y pc (.aload i) 2 n') (hl : ls[i]? = some (.retAddr x)) (k : xa_X K tx d y (n') (ls) (.retAddr x :: st) (h) (mc) (ms) Q) : xa_X K tx d y (pc) (ls) (st) (h) (mc) (ms) Q := fun R hR => hR.2.2.2.2.2.2.2.2.2.1 _ _ _ _ _ _ _ _ _ _ _ _ hd hl (k R hR)
theorem xx_istore_n {n' : Nat} {n : Fin 4} {i : Nat} {x : Int32} {w : Value} (hd : xa_d K y pc (.istore_n n) 1 n') (hi : (n : Nat) = i) (hl : ls[i]? = some w) (k : xa_X K tx d y (n') (ls.set i (.int x)) (st) (h) (mc) (ms) Q) : xa_X K tx d y (pc) (ls) (.int x :: st) (h) (mc) (ms) Q := fun R hR => hR.2.2.2.2.2.2.2.2.2.2.1 _ _ _ _ _ _ _ _ _ _ _ _ _ _ hd hi hl (k R hR)
theorem xx_istore {n' : Nat} {i : Nat} {x : Int32} {w : Value} (hd : xa_d K y pc (.istore i) 2 n') (hl : ls[i]? = some w) (k : xa_X K tx d y (n') (ls.set i (.int x)) (st) (h) (mc) (ms) Q) : xa_X K tx d y (pc) (ls) (.int x :: st) (h) (mc) (ms) Q := fun R hR => hR.2.2.2.2.2.2.2.2.2.2.2.1 _ _ _ _ _ _ _ _ _ _ _ _ _ hd hl (k R hR)
theorem xx_astore_n {n' : Nat} {n : Fin 4} {i : Nat} {x : Nat} {w : Value} (hd : xa_d K y pc (.astore_n n) 1 n') (hi : (n : Nat) = i) (hl : ls[i]? = some w) (k : xa_X K tx d y (n') (ls.set i (.ref x)) (st) (h) (mc) (ms) Q) : xa_X K tx d y (pc) (ls) (.ref x :: st) (h) (mc) (ms) Q := fun R hR => hR.2.2.2.2.2.2.2.2.2.2.2.2.1 _ _ _ _ _ _ _ _ _ _ _ _ _ _ hd hi hl (k R hR)
theorem xx_astore {n' : Nat} {i : Nat} {x : Nat} {w : Value} (hd : xa_d K y pc (.astore i) 2 n') (hl : ls[i]? = some w) (k : xa_X K tx d y (n') (ls.set i (.ref x)) (st) (h) (mc) (ms) Q) : xa_X K tx d y (pc) (ls) (.ref x :: st) (h) (mc) (ms) Q := fun R hR => hR.2.2.2.2.2.2.2.2.2.2.2.2.2.1 _ _ _ _ _ _ _ _ _ _ _ _ _ hd hl (k R hR)
theorem xx_iinc {n' : Nat} {i : Nat} {n : Int} {x : Int32} {v : Int32} (hd : xa_d K y pc (.iinc i n) 3 n') (hl : ls[i]? = some (.int x)) (hv : x + Int32.ofInt n = v) (k : xa_X K tx d y (n') (ls.set i (.int v)) (st) (h) (mc) (ms) Q) : xa_X K tx d y (pc) (ls) (st) (h) (mc) (ms) Q := fun R hR => hR.2.2.2.2.2.2.2.2.2.2.2.2.2.2.1 _ _ _ _ _ _ _ _ _ _ _ _ _ _ hd hl hv (k R hR)
theorem xx_iadd {n' : Nat} {x : Int32} {z : Int32} (hd : xa_d K y pc (.iadd) 1 n') (k : xa_X K tx d y (n') (ls) (.int (x + z) :: st) (h) (mc) (ms) Q) : xa_X K tx d y (pc) (ls) (.int z :: .int x :: st) (h) (mc) (ms) Q := fun R hR => hR.2.2.2.2.2.2.2.2.2.2.2.2.2.2.2.1 _ _ _ _ _ _ _ _ _ _ _ _ hd (k R hR)
theorem xx_isub {n' : Nat} {x : Int32} {z : Int32} (hd : xa_d K y pc (.isub) 1 n') (k : xa_X K tx d y (n') (ls) (.int (x - z) :: st) (h) (mc) (ms) Q) : xa_X K tx d y (pc) (ls) (.int z :: .int x :: st) (h) (mc) (ms) Q := fun R hR => hR.2.2.2.2.2.2.2.2.2.2.2.2.2.2.2.2.1 _ _ _ _ _ _ _ _ _ _ _ _ hd (k R hR)
theorem xx_imul {n' : Nat} {x : Int32} {z : Int32} (hd : xa_d K y pc (.imul) 1 n') (k : xa_X K tx d y (n') (ls) (.int (x * z) :: st) (h) (mc) (ms) Q) : xa_X K tx d y (pc) (ls) (.int z :: .int x :: st) (h) (mc) (ms) Q := fun R hR => hR.2.2.2.2.2.2.2.2.2.2.2.2.2.2.2.2.2.1 _ _ _ _ _ _ _ _ _ _ _ _ hd (k R hR)
theorem xx_iand {n' : Nat} {x : Int32} {z : Int32} (hd : xa_d K y pc (.iand) 1 n') (k : xa_X K tx d y (n') (ls) (.int (x &&& z) :: st) (h) (mc) (ms) Q) : xa_X K tx d y (pc) (ls) (.int z :: .int x :: st) (h) (mc) (ms) Q := fun R hR => hR.2.2.2.2.2.2.2.2.2.2.2.2.2.2.2.2.2.2.1 _ _ _ _ _ _ _ _ _ _ _ _ hd (k R hR)
theorem xx_ior {n' : Nat} {x : Int32} {z : Int32} (hd : xa_d K y pc (.ior) 1 n') (k : xa_X K tx d y (n') (ls) (.int (x ||| z) :: st) (h) (mc) (ms) Q) : xa_X K tx d y (pc) (ls) (.int z :: .int x :: st) (h) (mc) (ms) Q := fun R hR => hR.2.2.2.2.2.2.2.2.2.2.2.2.2.2.2.2.2.2.2.1 _ _ _ _ _ _ _ _ _ _ _ _ hd (k R hR)
theorem xx_ixor {n' : Nat} {x : Int32} {z : Int32} (hd : xa_d K y pc (.ixor) 1 n') (k : xa_X K tx d y (n') (ls) (.int (x ^^^ z) :: st) (h) (mc) (ms) Q) : xa_X K tx d y (pc) (ls) (.int z :: .int x :: st) (h) (mc) (ms) Q := fun R hR => hR.2.2.2.2.2.2.2.2.2.2.2.2.2.2.2.2.2.2.2.2.1 _ _ _ _ _ _ _ _ _ _ _ _ hd (k R hR)
theorem xx_ishl {n' : Nat} {x : Int32} {z : Int32} (hd : xa_d K y pc (.ishl) 1 n') (k : xa_X K tx d y (n') (ls) (.int (x <<< (z &&& 31)) :: st) (h) (mc) (ms) Q) : xa_X K tx d y (pc) (ls) (.int z :: .int x :: st) (h) (mc) (ms) Q := fun R hR => hR.2.2.2.2.2.2.2.2.2.2.2.2.2.2.2.2.2.2.2.2.2.1 _ _ _ _ _ _ _ _ _ _ _ _ hd (k R hR)
theorem xx_ishr {n' : Nat} {x : Int32} {z : Int32} (hd : xa_d K y pc (.ishr) 1 n') (k : xa_X K tx d y (n') (ls) (.int (x >>> (z &&& 31)) :: st) (h) (mc) (ms) Q) : xa_X K tx d y (pc) (ls) (.int z :: .int x :: st) (h) (mc) (ms) Q := fun R hR => hR.2.2.2.2.2.2.2.2.2.2.2.2.2.2.2.2.2.2.2.2.2.2.1 _ _ _ _ _ _ _ _ _ _ _ _ hd (k R hR)
theorem xx_iushr {n' : Nat} {x : Int32} {z : Int32} (hd : xa_d K y pc (.iushr) 1 n') (k : xa_X K tx d y (n') (ls) (.int ((x.toUInt32 >>> (z.toUInt32 &&& Int32.toUInt32 31)).toInt32) :: st) (h) (mc) (ms) Q) : xa_X K tx d y (pc) (ls) (.int z :: .int x :: st) (h) (mc) (ms) Q := fun R hR => hR.2.2.2.2.2.2.2.2.2.2.2.2.2.2.2.2.2.2.2.2.2.2.2.1 _ _ _ _ _ _ _ _ _ _ _ _ hd (k R hR)
theorem xx_idiv {n' : Nat} {x : Int32} {z : Int32} (hd : xa_d K y pc (.idiv) 1 n') (hz : ¬ z = 0) (k : xa_X K tx d y (n') (ls) (.int (x / z) :: st) (h) (mc) (ms) Q) : xa_X K tx d y (pc) (ls) (.int z :: .int x :: st) (h) (mc) (ms) Q := fun R hR => hR.2.2.2.2.2.2.2.2.2.2.2.2.2.2.2.2.2.2.2.2.2.2.2.2.1 _ _ _ _ _ _ _ _ _ _ _ _ hd hz (k R hR)
theorem xx_irem {n' : Nat} {x : Int32} {z : Int32} (hd : xa_d K y pc (.irem) 1 n') (hz : ¬ z = 0) (k : xa_X K tx d y (n') (ls) (.int (x - x / z * z) :: st) (h) (mc) (ms) Q) : xa_X K tx d y (pc) (ls) (.int z :: .int x :: st) (h) (mc) (ms) Q := fun R hR => hR.2.2.2.2.2.2.2.2.2.2.2.2.2.2.2.2.2.2.2.2.2.2.2.2.2.1 _ _ _ _ _ _ _ _ _ _ _ _ hd hz (k R hR)
theorem xx_i2l {n' : Nat} {x : Int32} (hd : xa_d K y pc (.i2l) 1 n') (k : xa_X K tx d y (n') (ls) (.long x.toInt64 :: st) (h) (mc) (ms) Q) : xa_X K tx d y (pc) (ls) (.int x :: st) (h) (mc) (ms) Q := fun R hR => hR.2.2.2.2.2.2.2.2.2.2.2.2.2.2.2.2.2.2.2.2.2.2.2.2.2.2.1 _ _ _ _ _ _ _ _ _ _ _ hd (k R hR)
theorem xx_lcmp {n' : Nat} {x : Int64} {z : Int64} (hd : xa_d K y pc (.lcmp) 1 n') (k : xa_X K tx d y (n') (ls) (.int (lg_cmp x z) :: st) (h) (mc) (ms) Q) : xa_X K tx d y (pc) (ls) (.long z :: .long x :: st) (h) (mc) (ms) Q := fun R hR => hR.2.2.2.2.2.2.2.2.2.2.2.2.2.2.2.2.2.2.2.2.2.2.2.2.2.2.2.1 _ _ _ _ _ _ _ _ _ _ _ _ hd (k R hR)
theorem xx_dup {n' : Nat} {v : Value} (hd : xa_d K y pc (.dup) 1 n') (hv : v.category = 1) (k : xa_X K tx d y (n') (ls) (v :: v :: st) (h) (mc) (ms) Q) : xa_X K tx d y (pc) (ls) (v :: st) (h) (mc) (ms) Q := fun R hR => hR.2.2.2.2.2.2.2.2.2.2.2.2.2.2.2.2.2.2.2.2.2.2.2.2.2.2.2.2.1 _ _ _ _ _ _ _ _ _ _ _ hd hv (k R hR)
theorem xx_pop {n' : Nat} {v : Value} (hd : xa_d K y pc (.pop) 1 n') (hv : v.category = 1) (k : xa_X K tx d y (n') (ls) (st) (h) (mc) (ms) Q) : xa_X K tx d y (pc) (ls) (v :: st) (h) (mc) (ms) Q := fun R hR => hR.2.2.2.2.2.2.2.2.2.2.2.2.2.2.2.2.2.2.2.2.2.2.2.2.2.2.2.2.2.1 _ _ _ _ _ _ _ _ _ _ _ hd hv (k R hR)
theorem xx_dup2 {n' : Nat} {v : Value} {w : Value} (hd : xa_d K y pc (.dup2) 1 n') (hv : v.category = 1) (hw : w.category = 1) (k : xa_X K tx d y (n') (ls) (v :: w :: v :: w :: st) (h) (mc) (ms) Q) : xa_X K tx d y (pc) (ls) (v :: w :: st) (h) (mc) (ms) Q := fun R hR => hR.2.2.2.2.2.2.2.2.2.2.2.2.2.2.2.2.2.2.2.2.2.2.2.2.2.2.2.2.2.2.1 _ _ _ _ _ _ _ _ _ _ _ _ hd hv hw (k R hR)
theorem xx_dup_x1 {n' : Nat} {v : Value} {w : Value} (hd : xa_d K y pc (.dup_x1) 1 n') (hv : v.category = 1) (hw : w.category = 1) (k : xa_X K tx d y (n') (ls) (v :: w :: v :: st) (h) (mc) (ms) Q) : xa_X K tx d y (pc) (ls) (v :: w :: st) (h) (mc) (ms) Q := fun R hR => hR.2.2.2.2.2.2.2.2.2.2.2.2.2.2.2.2.2.2.2.2.2.2.2.2.2.2.2.2.2.2.2.1 _ _ _ _ _ _ _ _ _ _ _ _ hd hv hw (k R hR)
theorem xx_if_eq {n' : Nat} {x : Int32} {off : Int} {tgt : Nat} (hd : xa_db K y pc (.ifCond .eq off) 3 n' off tgt) (kt : (x = 0 → xa_X K tx d y (tgt) (ls) (st) (h) (mc) (ms) Q)) (kf : (¬ x = 0 → xa_X K tx d y (n') (ls) (st) (h) (mc) (ms) Q)) : xa_X K tx d y (pc) (ls) (.int x :: st) (h) (mc) (ms) Q := fun R hR => hR.2.2.2.2.2.2.2.2.2.2.2.2.2.2.2.2.2.2.2.2.2.2.2.2.2.2.2.2.2.2.2.2.1 _ _ _ _ _ _ _ _ _ _ _ _ _ hd (fun q => kt q R hR) (fun q => kf q R hR)
theorem xx_if_ne {n' : Nat} {x : Int32} {off : Int} {tgt : Nat} (hd : xa_db K y pc (.ifCond .ne off) 3 n' off tgt) (kt : (¬ x = 0 → xa_X K tx d y (tgt) (ls) (st) (h) (mc) (ms) Q)) (kf : (x = 0 → xa_X K tx d y (n') (ls) (st) (h) (mc) (ms) Q)) : xa_X K tx d y (pc) (ls) (.int x :: st) (h) (mc) (ms) Q := fun R hR => hR.2.2.2.2.2.2.2.2.2.2.2.2.2.2.2.2.2.2.2.2.2.2.2.2.2.2.2.2.2.2.2.2.2.1 _ _ _ _ _ _ _ _ _ _ _ _ _ hd (fun q => kt q R hR) (fun q => kf q R hR)
theorem xx_if_lt {n' : Nat} {x : Int32} {off : Int} {tgt : Nat} (hd : xa_db K y pc (.ifCond .lt off) 3 n' off tgt) (kt : (x < 0 → xa_X K tx d y (tgt) (ls) (st) (h) (mc) (ms) Q)) (kf : (¬ x < 0 → xa_X K tx d y (n') (ls) (st) (h) (mc) (ms) Q)) : xa_X K tx d y (pc) (ls) (.int x :: st) (h) (mc) (ms) Q := fun R hR => hR.2.2.2.2.2.2.2.2.2.2.2.2.2.2.2.2.2.2.2.2.2.2.2.2.2.2.2.2.2.2.2.2.2.2.1 _ _ _ _ _ _ _ _ _ _ _ _ _ hd (fun q => kt q R hR) (fun q => kf q R hR)
theorem xx_if_ge {n' : Nat} {x : Int32} {off : Int} {tgt : Nat} (hd : xa_db K y pc (.ifCond .ge off) 3 n' off tgt) (kt : (0 ≤ x → xa_X K tx d y (tgt) (ls) (st) (h) (mc) (ms) Q)) (kf : (¬ 0 ≤ x → xa_X K tx d y (n') (ls) (st) (h) (mc) (ms) Q)) : xa_X K tx d y (pc) (ls) (.int x :: st) (h) (mc) (ms) Q := fun R hR => hR.2.2.2.2.2.2.2.2.2.2.2.2.2.2.2.2.2.2.2.2.2.2.2.2.2.2.2.2.2.2.2.2.2.2.2.1 _ _ _ _ _ _ _ _ _ _ _ _ _ hd (fun q => kt q R hR) (fun q => kf q R hR)
theorem xx_if_gt {n' : Nat} {x : Int32} {off : Int} {tgt : Nat} (hd : xa_db K y pc (.ifCond .gt off) 3 n' off tgt) (kt : (0 < x → xa_X K tx d y (tgt) (ls) (st) (h) (mc) (ms) Q)) (kf : (¬ 0 < x → xa_X K tx d y (n') (ls) (st) (h) (mc) (ms) Q)) : xa_X K tx d y (pc) (ls) (.int x :: st) (h) (mc) (ms) Q := fun R hR => hR.2.2.2.2.2.2.2.2.2.2.2.2.2.2.2.2.2.2.2.2.2.2.2.2.2.2.2.2.2.2.2.2.2.2.2.2.1 _ _ _ _ _ _ _ _ _ _ _ _ _ hd (fun q => kt q R hR) (fun q => kf q R hR)
theorem xx_if_le {n' : Nat} {x : Int32} {off : Int} {tgt : Nat} (hd : xa_db K y pc (.ifCond .le off) 3 n' off tgt) (kt : (x ≤ 0 → xa_X K tx d y (tgt) (ls) (st) (h) (mc) (ms) Q)) (kf : (¬ x ≤ 0 → xa_X K tx d y (n') (ls) (st) (h) (mc) (ms) Q)) : xa_X K tx d y (pc) (ls) (.int x :: st) (h) (mc) (ms) Q := fun R hR => hR.2.2.2.2.2.2.2.2.2.2.2.2.2.2.2.2.2.2.2.2.2.2.2.2.2.2.2.2.2.2.2.2.2.2.2.2.2.1 _ _ _ _ _ _ _ _ _ _ _ _ _ hd (fun q => kt q R hR) (fun q => kf q R hR)
theorem xx_icmp_eq {n' : Nat} {x : Int32} {z : Int32} {off : Int} {tgt : Nat} (hd : xa_db K y pc (.if_icmp .eq off) 3 n' off tgt) (kt : (x = z → xa_X K tx d y (tgt) (ls) (st) (h) (mc) (ms) Q)) (kf : (¬ x = z → xa_X K tx d y (n') (ls) (st) (h) (mc) (ms) Q)) : xa_X K tx d y (pc) (ls) (.int z :: .int x :: st) (h) (mc) (ms) Q := fun R hR => hR.2.2.2.2.2.2.2.2.2.2.2.2.2.2.2.2.2.2.2.2.2.2.2.2.2.2.2.2.2.2.2.2.2.2.2.2.2.2.1 _ _ _ _ _ _ _ _ _ _ _ _ _ _ hd (fun q => kt q R hR) (fun q => kf q R hR)
theorem xx_icmp_ne {n' : Nat} {x : Int32} {z : Int32} {off : Int} {tgt : Nat} (hd : xa_db K y pc (.if_icmp .ne off) 3 n' off tgt) (kt : (¬ x = z → xa_X K tx d y (tgt) (ls) (st) (h) (mc) (ms) Q)) (kf : (x = z → xa_X K tx d y (n') (ls) (st) (h) (mc) (ms) Q)) : xa_X K tx d y (pc) (ls) (.int z :: .int x :: st) (h) (mc) (ms) Q := fun R hR => hR.2.2.2.2.2.2.2.2.2.2.2.2.2.2.2.2.2.2.2.2.2.2.2.2.2.2.2.2.2.2.2.2.2.2.2.2.2.2.2.1 _ _ _ _ _ _ _ _ _ _ _ _ _ _ hd (fun q => kt q R hR) (fun q => kf q R hR)
theorem xx_icmp_lt {n' : Nat} {x : Int32} {z : Int32} {off : Int} {tgt : Nat} (hd : xa_db K y pc (.if_icmp .lt off) 3 n' off tgt) (kt : (x < z → xa_X K tx d y (tgt) (ls) (st) (h) (mc) (ms) Q)) (kf : (¬ x < z → xa_X K tx d y (n') (ls) (st) (h) (mc) (ms) Q)) : xa_X K tx d y (pc) (ls) (.int z :: .int x :: st) (h) (mc) (ms) Q := fun R hR => hR.2.2.2.2.2.2.2.2.2.2.2.2.2.2.2.2.2.2.2.2.2.2.2.2.2.2.2.2.2.2.2.2.2.2.2.2.2.2.2.2.1 _ _ _ _ _ _ _ _ _ _ _ _ _ _ hd (fun q => kt q R hR) (fun q => kf q R hR)
theorem xx_icmp_ge {n' : Nat} {x : Int32} {z : Int32} {off : Int} {tgt : Nat} (hd : xa_db K y pc (.if_icmp .ge off) 3 n' off tgt) (kt : (z ≤ x → xa_X K tx d y (tgt) (ls) (st) (h) (mc) (ms) Q)) (kf : (¬ z ≤ x → xa_X K tx d y (n') (ls) (st) (h) (mc) (ms) Q)) : xa_X K tx d y (pc) (ls) (.int z :: .int x :: st) (h) (mc) (ms) Q := fun R hR => hR.2.2.2.2.2.2.2.2.2.2.2.2.2.2.2.2.2.2.2.2.2.2.2.2.2.2.2.2.2.2.2.2.2.2.2.2.2.2.2.2.2.1 _ _ _ _ _ _ _ _ _ _ _ _ _ _ hd (fun q => kt q R hR) (fun q => kf q R hR)
theorem xx_icmp_gt {n' : Nat} {x : Int32} {z : Int32} {off : Int} {tgt : Nat} (hd : xa_db K y pc (.if_icmp .gt off) 3 n' off tgt) (kt : (z < x → xa_X K tx d y (tgt) (ls) (st) (h) (mc) (ms) Q)) (kf : (¬ z < x → xa_X K tx d y (n') (ls) (st) (h) (mc) (ms) Q)) : xa_X K tx d y (pc) (ls) (.int z :: .int x :: st) (h) (mc) (ms) Q := fun R hR => hR.2.2.2.2.2.2.2.2.2.2.2.2.2.2.2.2.2.2.2.2.2.2.2.2.2.2.2.2.2.2.2.2.2.2.2.2.2.2.2.2.2.2.1 _ _ _ _ _ _ _ _ _ _ _ _ _ _ hd (fun q => kt q R hR) (fun q => kf q R hR)
theorem xx_icmp_le {n' : Nat} {x : Int32} {z : Int32} {off : Int} {tgt : Nat} (hd : xa_db K y pc (.if_icmp .le off) 3 n' off tgt) (kt : (x ≤ z → xa_X K tx d y (tgt) (ls) (st) (h) (mc) (ms) Q)) (kf : (¬ x ≤ z → xa_X K tx d y (n') (ls) (st) (h) (mc) (ms) Q)) : xa_X K tx d y (pc) (ls) (.int z :: .int x :: st) (h) (mc) (ms) Q := fun R hR => hR.2.2.2.2.2.2.2.2.2.2.2.2.2.2.2.2.2.2.2.2.2.2.2.2.2.2.2.2.2.2.2.2.2.2.2.2.2.2.2.2.2.2.2.1 _ _ _ _ _ _ _ _ _ _ _ _ _ _ hd (fun q => kt q R hR) (fun q => kf q R hR)
theorem xx_goto {n' : Nat} {off : Int} {tgt : Nat} (hd : xa_db K y pc (.goto off) 3 n' off tgt) (k : xa_X K tx d y (tgt) (ls) (st) (h) (mc) (ms) Q) : xa_X K tx d y (pc) (ls) (st) (h) (mc) (ms) Q := fun R hR => hR.2.2.2.2.2.2.2.2.2.2.2.2.2.2.2.2.2.2.2.2.2.2.2.2.2.2.2.2.2.2.2.2.2.2.2.2.2.2.2.2.2.2.2.2.1 _ _ _ _ _ _ _ _ _ _ _ _ hd (k R hR)
theorem xx_tableOut {n' : Nat} {dflt : Int} {lo : Int} {hi : Int} {offs : Array Int} {len : Nat} {x : Int32} {tgt : Nat} (hd : xa_d K y pc (.tableswitch dflt lo hi offs) len n') (hx : x.toInt < lo ∨ hi < x.toInt) (ht : (pc : Int) + dflt = (tgt : Int)) (k : xa_X K tx d y (tgt) (ls) (st) (h) (mc) (ms) Q) : xa_X K tx d y (pc) (ls) (.int x :: st) (h) (mc) (ms) Q := fun R hR => hR.2.2.2.2.2.2.2.2.2.2.2.2.2.2.2.2.2.2.2.2.2.2.2.2.2.2.2.2.2.2.2.2.2.2.2.2.2.2.2.2.2.2.2.2.2.1 _ _ _ _ _ _ _ _ _ _ _ _ _ _ _ _ _ hd hx ht (k R hR)
theorem xx_tableIn {n' : Nat} {dflt : Int} {lo : Int} {hi : Int} {offs : Array Int} {len : Nat} {x : Int32} {off : Int} {tgt : Nat} (hd : xa_d K y pc (.tableswitch dflt lo hi offs) len n') (h1 : ¬ x.toInt < lo) (h2 : ¬ hi < x.toInt) (ho : offs[(x.toInt - lo).toNat]? = some off) (ht : (pc : Int) + off = (tgt : Int)) (k : xa_X K tx d y (tgt) (ls) (st) (h) (mc) (ms) Q) : xa_X K tx d y (pc) (ls) (.int x :: st) (h) (mc) (ms) Q := fun R hR => hR.2.2.2.2.2.2.2.2.2.2.2.2.2.2.2.2.2.2.2.2.2.2.2.2.2.2.2.2.2.2.2.2.2.2.2.2.2.2.2.2.2.2.2.2.2.2.1 _ _ _ _ _ _ _ _ _ _ _ _ _ _ _ _ _ _ hd h1 h2 ho ht (k R hR)
theorem xx_lookup {n' : Nat} {dflt : Int} {ps : Array (Int × Int)} {len : Nat} {x : Int32} {off : Int} {tgt : Nat} (hd : xa_d K y pc (.lookupswitch dflt ps) len n') (hp : (ps.toList.zip (ps.toList.drop 1)).all (fun (a, next) => a.1 < next.1) = true) (ho : Op.lookupswitch.offset ps.toList dflt x.toInt = off) (ht : (pc : Int) + off = (tgt : Int)) (k : xa_X K tx d y (tgt) (ls) (st) (h) (mc) (ms) Q) : xa_X K tx d y (pc) (ls) (.int x :: st) (h) (mc) (ms) Q := fun R hR => hR.2.2.2.2.2.2.2.2.2.2.2.2.2.2.2.2.2.2.2.2.2.2.2.2.2.2.2.2.2.2.2.2.2.2.2.2.2.2.2.2.2.2.2.2.2.2.2.1 _ _ _ _ _ _ _ _ _ _ _ _ _ _ _ _ hd hp ho ht (k R hR)
theorem xx_less {ls' : List Value} (hl : xa_le ls ls') (k : xa_X K tx d y (pc) (ls') (st) (h) (mc) (ms) Q) : xa_X K tx d y (pc) (ls) (st) (h) (mc) (ms) Q := fun R hR => hR.2.2.2.2.2.2.2.2.2.2.2.2.2.2.2.2.2.2.2.2.2.2.2.2.2.2.2.2.2.2.2.2.2.2.2.2.2.2.2.2.2.2.2.2.2.2.2.2.1 _ _ _ _ _ _ _ _ _ _ hl (k R hR)
theorem xx_wide {mc' : Nat} {ms' : Nat} (h1 : mc' ≤ mc) (h2 : ms' ≤ ms) (k : xa_X K tx d y (pc) (ls) (st) (h) (mc') (ms') Q) : xa_X K tx d y (pc) (ls) (st) (h) (mc) (ms) Q := fun R hR => hR.2.2.2.2.2.2.2.2.2.2.2.2.2.2.2.2.2.2.2.2.2.2.2.2.2.2.2.2.2.2.2.2.2.2.2.2.2.2.2.2.2.2.2.2.2.2.2.2.2.1 _ _ _ _ _ _ _ _ _ _ _ h1 h2 (k R hR)
theorem xx_get {n' : Nat} {i : Nat} {ci : Nat} {k0 : Nat} {a : Nat} {fs : List Value} {v : Value} (hd : xa_d K y pc (.getfield i) 3 n') (hf : xa_fld K (K.1 y).1.cls i ci k0) (hh : h.2 a = .inr (ci, fs)) (hv : fs[k0]? = some v) (k : xa_X K tx d y (n') (ls) (v :: st) (h) (mc) (ms) Q) : xa_X K tx d y (pc) (ls) (.ref a :: st) (h) (mc) (ms) Q := fun R hR => hR.2.2.2.2.2.2.2.2.2.2.2.2.2.2.2.2.2.2.2.2.2.2.2.2.2.2.2.2.2.2.2.2.2.2.2.2.2.2.2.2.2.2.2.2.2.2.2.2.2.2.1 _ _ _ _ _ _ _ _ _ _ _ _ _ _ _ _ hd hf hh hv (k R hR)
theorem xx_put {n' : Nat} {i : Nat} {ci : Nat} {k0 : Nat} {ty : FieldType} {a : Nat} {fs : List Value} {v : Value} (hd : xa_d K y pc (.putfield i) 3 n') (hf : xa_fldP K (K.1 y).1.cls i ci k0 ty) (hh : h.2 a = .inr (ci, fs)) (hl0 : k0 < fs.length) (hfit : ∀ tb ad : Nat → Nat, narrow ty (xa_tr tb ad v) = xa_tr tb ad v ∧ fits ty (xa_tr tb ad v) = true) (k : xa_X K tx d y (n') (ls) (st) ((h.1, xa_up h.2 a (.inr (ci, fs.set k0 v)))) (mc) (ms) Q) : xa_X K tx d y (pc) (ls) (v :: .ref a :: st) (h) (mc) (ms) Q := fun R hR => hR.2.2.2.2.2.2.2.2.2.2.2.2.2.2.2.2.2.2.2.2.2.2.2.2.2.2.2.2.2.2.2.2.2.2.2.2.2.2.2.2.2.2.2.2.2.2.2.2.2.2.2.1 _ _ _ _ _ _ _ _ _ _ _ _ _ _ _ _ _ hd hf hh hl0 hfit (k R hR)
theorem xx_putF {n' : Nat} {i : Nat} {ci : Nat} {k0 : Nat} {ty : FieldType} {a : Nat} {fs : List Value} {v : Value} (hd : xa_d K y pc (.putfield i) 3 n') (hf : xa_fldF K (K.1 y).1.cls i ci k0 ty) (hin : (K.1 y).1.name = "<init>") (hh : h.2 a = .inr (ci, fs)) (hl0 : k0 < fs.length) (hfit : ∀ tb ad : Nat → Nat, narrow ty (xa_tr tb ad v) = xa_tr tb ad v ∧ fits ty (xa_tr tb ad v) = true) (k : xa_X K tx d y (n') (ls) (st) ((h.1, xa_up h.2 a (.inr (ci, fs.set k0 v)))) (mc) (ms) Q) : xa_X K tx d y (pc) (ls) (v :: .ref a :: st) (h) (mc) (ms) Q := fun R hR => hR.2.2.2.2.2.2.2.2.2.2.2.2.2.2.2.2.2.2.2.2.2.2.2.2.2.2.2.2.2.2.2.2.2.2.2.2.2.2.2.2.2.2.2.2.2.2.2.2.2.2.2.2.1 _ _ _ _ _ _ _ _ _ _ _ _ _ _ _ _ _ hd hf hin hh hl0 hfit (k R hR)
theorem xx_iaload {n' : Nat} {a : Nat} {n : Nat} {f : Nat → Int32} {i : Int32} (hd : xa_d K y pc (.iaload) 1 n') (hh : h.2 a = .inl (0, n, .inl f)) (hi : vp_in i n) (k : xa_X K tx d y (n') (ls) (.int (f i.toNatClampNeg) :: st) (h) (mc) (ms) Q) : xa_X K tx d y (pc) (ls) (.int i :: .ref a :: st) (h) (mc) (ms) Q := fun R hR => hR.2.2.2.2.2.2.2.2.2.2.2.2.2.2.2.2.2.2.2.2.2.2.2.2.2.2.2.2.2.2.2.2.2.2.2.2.2.2.2.2.2.2.2.2.2.2.2.2.2.2.2.2.2.1 _ _ _ _ _ _ _ _ _ _ _ _ _ _ hd hh hi (k R hR)
theorem xx_baload {n' : Nat} {a : Nat} {n : Nat} {f : Nat → Int32} {i : Int32} (hd : xa_d K y pc (.baload) 1 n') (hh : h.2 a = .inl (1, n, .inl f)) (hi : vp_in i n) (k : xa_X K tx d y (n') (ls) (.int (f i.toNatClampNeg) :: st) (h) (mc) (ms) Q) : xa_X K tx d y (pc) (ls) (.int i :: .ref a :: st) (h) (mc) (ms) Q := fun R hR => hR.2.2.2.2.2.2.2.2.2.2.2.2.2.2.2.2.2.2.2.2.2.2.2.2.2.2.2.2.2.2.2.2.2.2.2.2.2.2.2.2.2.2.2.2.2.2.2.2.2.2.2.2.2.2.1 _ _ _ _ _ _ _ _ _ _ _ _ _ _ hd hh hi (k R hR)
theorem xx_laload {n' : Nat} {a : Nat} {n : Nat} {f : Nat → Int64} {i : Int32} (hd : xa_d K y pc (.laload) 1 n') (hh : h.2 a = .inl (2, n, .inr (.inl f))) (hi : vp_in i n) (k : xa_X K tx d y (n') (ls) (.long (f i.toNatClampNeg) :: st) (h) (mc) (ms) Q) : xa_X K tx d y (pc) (ls) (.int i :: .ref a :: st) (h) (mc) (ms) Q := fun R hR => hR.2.2.2.2.2.2.2.2.2.2.2.2.2.2.2.2.2.2.2.2.2.2.2.2.2.2.2.2.2.2.2.2.2.2.2.2.2.2.2.2.2.2.2.2.2.2.2.2.2.2.2.2.2.2.2.1 _ _ _ _ _ _ _ _ _ _ _ _ _ _ hd hh hi (k R hR)
theorem xx_aaload {n' : Nat} {a : Nat} {n : Nat} {f : Nat → Option Nat} {i : Int32} {b : Nat} (hd : xa_d K y pc (.aaload) 1 n') (hh : h.2 a = .inl (3, n, .inr (.inr (.inr (.inr f))))) (hi : vp_in i n) (hb : f i.toNatClampNeg = some b) (k : xa_X K tx d y (n') (ls) (.ref b :: st) (h) (mc) (ms) Q) : xa_X K tx d y (pc) (ls) (.int i :: .ref a :: st) (h) (mc) (ms) Q := fun R hR => hR.2.2.2.2.2.2.2.2.2.2.2.2.2.2.2.2.2.2.2.2.2.2.2.2.2.2.2.2.2.2.2.2.2.2.2.2.2.2.2.2.2.2.2.2.2.2.2.2.2.2.2.2.2.2.2.2.1 _ _ _ _ _ _ _ _ _ _ _ _ _ _ _ hd hh hi hb (k R hR)
theorem xx_iastore {n' : Nat} {a : Nat} {n : Nat} {f : Nat → Int32} {i : Int32} {x : Int32} (hd : xa_d K y pc (.iastore) 1 n') (hh : h.2 a = .inl (0, n, .inl (f))) (hi : vp_in i n) (k : xa_X K tx d y (n') (ls) (st) ((h.1, xa_up h.2 a (.inl (0, n, .inl (upd f i.toNatClampNeg x))))) (mc) (ms) Q) : xa_X K tx d y (pc) (ls) (.int x :: .int i :: .ref a :: st) (h) (mc) (ms) Q := fun R hR => hR.2.2.2.2.2.2.2.2.2.2.2.2.2.2.2.2.2.2.2.2.2.2.2.2.2.2.2.2.2.2.2.2.2.2.2.2.2.2.2.2.2.2.2.2.2.2.2.2.2.2.2.2.2.2.2.2.2.1 _ _ _ _ _ _ _ _ _ _ _ _ _ _ _ hd hh hi (k R hR)
theorem xx_bastore {n' : Nat} {a : Nat} {n : Nat} {f : Nat → Int32} {i : Int32} {x : Int32} (hd : xa_d K y pc (.bastore) 1 n') (hh : h.2 a = .inl (1, n, .inl (f))) (hi : vp_in i n) (k : xa_X K tx d y (n') (ls) (st) ((h.1, xa_up h.2 a (.inl (1, n, .inl (upd f i.toNatClampNeg (vp_nar .boolean x)))))) (mc) (ms) Q) : xa_X K tx d y (pc) (ls) (.int x :: .int i :: .ref a :: st) (h) (mc) (ms) Q := fun R hR => hR.2.2.2.2.2.2.2.2.2.2.2.2.2.2.2.2.2.2.2.2.2.2.2.2.2.2.2.2.2.2.2.2.2.2.2.2.2.2.2.2.2.2.2.2.2.2.2.2.2.2.2.2.2.2.2.2.2.2.1 _ _ _ _ _ _ _ _ _ _ _ _ _ _ _ hd hh hi (k R hR)
theorem xx_lastore {n' : Nat} {a : Nat} {n : Nat} {f : Nat → Int64} {i : Int32} {x : Int64} (hd : xa_d K y pc (.lastore) 1 n') (hh : h.2 a = .inl (2, n, .inr (.inl (f)))) (hi : vp_in i n) (k : xa_X K tx d y (n') (ls) (st) ((h.1, xa_up h.2 a (.inl (2, n, .inr (.inl (vp_updL f i.toNatClampNeg x)))))) (mc) (ms) Q) : xa_X K tx d y (pc) (ls) (.long x :: .int i :: .ref a :: st) (h) (mc) (ms) Q := fun R hR => hR.2.2.2.2.2.2.2.2.2.2.2.2.2.2.2.2.2.2.2.2.2.2.2.2.2.2.2.2.2.2.2.2.2.2.2.2.2.2.2.2.2.2.2.2.2.2.2.2.2.2.2.2.2.2.2.2.2.2.2.1 _ _ _ _ _ _ _ _ _ _ _ _ _ _ _ hd hh hi (k R hR)
theorem xx_aastore {n' : Nat} {a : Nat} {n : Nat} {f : Nat → Option Nat} {i : Int32} {b : Nat} {ci : Nat} {fs : List Value} (hd : xa_d K y pc (.aastore) 1 n') (hh : h.2 a = .inl (3, n, .inr (.inr (.inr (.inr f))))) (hi : vp_in i n) (hb : h.2 b = .inr (ci, fs)) (hg : ∃ T N, K.2.1[ci]? = some (K.2.2.2.2.2, T, N)) (k : xa_X K tx d y (n') (ls) (st) ((h.1, xa_up h.2 a (.inl (3, n, .inr (.inr (.inr (.inr (va_up f i.toNatClampNeg (some b))))))))) (mc) (ms) Q) : xa_X K tx d y (pc) (ls) (.ref b :: .int i :: .ref a :: st) (h) (mc) (ms) Q := fun R hR => hR.2.2.2.2.2.2.2.2.2.2.2.2.2.2.2.2.2.2.2.2.2.2.2.2.2.2.2.2.2.2.2.2.2.2.2.2.2.2.2.2.2.2.2.2.2.2.2.2.2.2.2.2.2.2.2.2.2.2.2.2.1 _ _ _ _ _ _ _ _ _ _ _ _ _ _ _ _ _ hd hh hi hb hg (k R hR)
theorem xx_tload {n' : Nat} {j : Nat} {i : Int32} (hd : xa_d K y pc (.iaload) 1 n') (hj : j < 2) (hi : vp_in i (tx j).1) (k : xa_X K tx d y (n') (ls) (.int ((tx j).2 i.toNatClampNeg) :: st) (h) (mc) (ms) Q) : xa_X K tx d y (pc) (ls) (.int i :: .retAddr j :: st) (h) (mc) (ms) Q := fun R hR => hR.2.2.2.2.2.2.2.2.2.2.2.2.2.2.2.2.2.2.2.2.2.2.2.2.2.2.2.2.2.2.2.2.2.2.2.2.2.2.2.2.2.2.2.2.2.2.2.2.2.2.2.2.2.2.2.2.2.2.2.2.2.1 _ _ _ _ _ _ _ _ _ _ _ _ hd hj hi (k R hR)
theorem xx_tlen {n' : Nat} {j : Nat} {v : Int32} (hd : xa_d K y pc (.arraylength) 1 n') (hj : j < 2) (hv : Int32.ofNat (tx j).1 = v) (k : xa_X K tx d y (n') (ls) (.int v :: st) (h) (mc) (ms) Q) : xa_X K tx d y (pc) (ls) (.retAddr j :: st) (h) (mc) (ms) Q := fun R hR => hR.2.2.2.2.2.2.2.2.2.2.2.2.2.2.2.2.2.2.2.2.2.2.2.2.2.2.2.2.2.2.2.2.2.2.2.2.2.2.2.2.2.2.2.2.2.2.2.2.2.2.2.2.2.2.2.2.2.2.2.2.2.2.1 _ _ _ _ _ _ _ _ _ _ _ _ hd hj hv (k R hR)
theorem xx_gets {n' : Nat} {i : Nat} (hd : xa_d K y pc (.getstatic i) 3 n') (hl : Cond.fieldLink (K.1 y).1.cls i K.2.2.2.1 K.2.2.2.2.1 "[I" ∈ K.2.2.1 ∨ ∃ host, Cond.fieldLinkNest (K.1 y).1.cls i K.2.2.2.1 K.2.2.2.2.1 "[I" host ∈ K.2.2.1) (k : xa_X K tx d y (n') (ls) (.retAddr 0 :: st) (h) (mc) (ms) Q) : xa_X K tx d y (pc) (ls) (st) (h) (mc) (ms) Q := fun R hR => hR.2.2.2.2.2.2.2.2.2.2.2.2.2.2.2.2.2.2.2.2.2.2.2.2.2.2.2.2.2.2.2.2.2.2.2.2.2.2.2.2.2.2.2.2.2.2.2.2.2.2.2.2.2.2.2.2.2.2.2.2.2.2.2.1 _ _ _ _ _ _ _ _ _ _ _ hd hl (k R hR)
theorem xx_iret {n' : Nat} {v : Int32} {ty : FieldType} (hd : xa_d K y pc (.ireturn) 1 n') (hr : (K.1 y).2.2.2.1 = some ty) (hn : narrow ty (.int v) = .int v) (hq : Q (.inl (some (.int v))) h)  : xa_X K tx d y (pc) (ls) ([.int v]) (h) (mc) (ms) Q := fun R hR => hR.2.2.2.2.2.2.2.2.2.2.2.2.2.2.2.2.2.2.2.2.2.2.2.2.2.2.2.2.2.2.2.2.2.2.2.2.2.2.2.2.2.2.2.2.2.2.2.2.2.2.2.2.2.2.2.2.2.2.2.2.2.2.2.2.1 _ _ _ _ [] _ _ _ _ _ _ _ hd hr hn hq 
theorem xx_vret {n' : Nat} (hd : xa_d K y pc (.return_) 1 n') (hr : (K.1 y).2.2.2.1 = none) (hq : Q (.inl none) h)  : xa_X K tx d y (pc) (ls) ([]) (h) (mc) (ms) Q := fun R hR => hR.2.2.2.2.2.2.2.2.2.2.2.2.2.2.2.2.2.2.2.2.2.2.2.2.2.2.2.2.2.2.2.2.2.2.2.2.2.2.2.2.2.2.2.2.2.2.2.2.2.2.2.2.2.2.2.2.2.2.2.2.2.2.2.2.2.1 _ _ _ _ [] _ _ _ _ _ hd hr hq 
theorem xx_aret {n' : Nat} {a : Nat} {ty : FieldType} (hd : xa_d K y pc (.areturn) 1 n') (hr : (K.1 y).2.2.2.1 = some ty) (hty : (∃ n, ty = .object n) ∨ ∃ t, ty = .array t) (hq : Q (.inl (some (.ref a))) h)  : xa_X K tx d y (pc) (ls) ([.ref a]) (h) (mc) (ms) Q := fun R hR => hR.2.2.2.2.2.2.2.2.2.2.2.2.2.2.2.2.2.2.2.2.2.2.2.2.2.2.2.2.2.2.2.2.2.2.2.2.2.2.2.2.2.2.2.2.2.2.2.2.2.2.2.2.2.2.2.2.2.2.2.2.2.2.2.2.2.2.1 _ _ _ _ [] _ _ _ _ _ _ _ hd hr hty hq 
theorem xx_oinit {n' : Nat} {i : Nat} {a : Nat} (hd : xa_d K y pc (.invokespecial i) 3 n') (h1 : Cond.methodLink (K.1 y).1.cls i Lib.objectInit ∈ K.2.2.1) (h2 : Cond.instanceMethod Lib.objectInit ∈ K.2.2.1) (h3 : Cond.code Lib.objectInit ⟨#[0xb1]⟩ 1 none ∈ K.2.2.1) (hw : (st.map fun v => v.category).sum ≤ 8) (k : xa_X K tx d y (n') (ls) (st) (h) (mc) (ms) Q) : xa_X K tx d y (pc) (ls) (.ref a :: st) (h) (mc) (ms) Q := fun R hR => hR.2.2.2.2.2.2.2.2.2.2.2.2.2.2.2.2.2.2.2.2.2.2.2.2.2.2.2.2.2.2.2.2.2.2.2.2.2.2.2.2.2.2.2.2.2.2.2.2.2.2.2.2.2.2.2.2.2.2.2.2.2.2.2.2.2.2.2.1 _ _ _ _ _ _ _ _ _ _ _ _ hd h1 h2 h3 hw (k R hR)
theorem xx_new {n' : Nat} {i : Nat} {ci : Nat} {N : Nat} {fs : List Value} (hd : xa_d K y pc (.new i) 3 n') (hn : xa_new K (K.1 y).1.cls i ci N fs) (k : xa_X K tx d y (n') (ls) (.ref h.1 :: st) ((h.1 + 1, xa_up h.2 h.1 (.inr (ci, fs)))) (mc) (ms) Q) : xa_X K tx d y (pc) (ls) (st) (h) (mc + 1) (ms + N) Q := fun R hR => hR.2.2.2.2.2.2.2.2.2.2.2.2.2.2.2.2.2.2.2.2.2.2.2.2.2.2.2.2.2.2.2.2.2.2.2.2.2.2.2.2.2.2.2.2.2.2.2.2.2.2.2.2.2.2.2.2.2.2.2.2.2.2.2.2.2.2.2.2.1 _ _ _ _ _ _ _ _ _ _ _ _ _ _ hd hn (k R hR)
theorem xx_newI {n' : Nat} {n : Int32} {N : Nat} (hd : xa_d K y pc (.newarray .int) 2 n') (hw : Cond.arrayClass .int ∈ K.2.2.1) (hn0 : ¬ n < 0) (hN : n.toNatClampNeg = N) (hb : N * componentBytes .int ≤ 536870912) (k : xa_X K tx d y (n') (ls) (.ref h.1 :: st) ((h.1 + 1, xa_up h.2 h.1 (.inl (0, N, .inl (fun _ => 0))))) (mc) (ms) Q) : xa_X K tx d y (pc) (ls) (.int n :: st) (h) (mc + 1) (ms + N) Q := fun R hR => hR.2.2.2.2.2.2.2.2.2.2.2.2.2.2.2.2.2.2.2.2.2.2.2.2.2.2.2.2.2.2.2.2.2.2.2.2.2.2.2.2.2.2.2.2.2.2.2.2.2.2.2.2.2.2.2.2.2.2.2.2.2.2.2.2.2.2.2.2.2.1 _ _ _ _ _ _ _ _ _ _ _ _ hd hw hn0 hN hb (k R hR)
theorem xx_newZ {n' : Nat} {n : Int32} {N : Nat} (hd : xa_d K y pc (.newarray .boolean) 2 n') (hw : Cond.arrayClass .boolean ∈ K.2.2.1) (hn0 : ¬ n < 0) (hN : n.toNatClampNeg = N) (hb : N * componentBytes .boolean ≤ 536870912) (k : xa_X K tx d y (n') (ls) (.ref h.1 :: st) ((h.1 + 1, xa_up h.2 h.1 (.inl (1, N, .inl (fun _ => 0))))) (mc) (ms) Q) : xa_X K tx d y (pc) (ls) (.int n :: st) (h) (mc + 1) (ms + N) Q := fun R hR => hR.2.2.2.2.2.2.2.2.2.2.2.2.2.2.2.2.2.2.2.2.2.2.2.2.2.2.2.2.2.2.2.2.2.2.2.2.2.2.2.2.2.2.2.2.2.2.2.2.2.2.2.2.2.2.2.2.2.2.2.2.2.2.2.2.2.2.2.2.2.2.1 _ _ _ _ _ _ _ _ _ _ _ _ hd hw hn0 hN hb (k R hR)
theorem xx_newL {n' : Nat} {n : Int32} {N : Nat} (hd : xa_d K y pc (.newarray .long) 2 n') (hw : Cond.arrayClass .long ∈ K.2.2.1) (hn0 : ¬ n < 0) (hN : n.toNatClampNeg = N) (hb : N * componentBytes .long ≤ 536870912) (k : xa_X K tx d y (n') (ls) (.ref h.1 :: st) ((h.1 + 1, xa_up h.2 h.1 (.inl (2, N, .inr (.inl (fun _ => 0)))))) (mc) (ms) Q) : xa_X K tx d y (pc) (ls) (.int n :: st) (h) (mc + 1) (ms + N) Q := fun R hR => hR.2.2.2.2.2.2.2.2.2.2.2.2.2.2.2.2.2.2.2.2.2.2.2.2.2.2.2.2.2.2.2.2.2.2.2.2.2.2.2.2.2.2.2.2.2.2.2.2.2.2.2.2.2.2.2.2.2.2.2.2.2.2.2.2.2.2.2.2.2.2.2.1 _ _ _ _ _ _ _ _ _ _ _ _ hd hw hn0 hN hb (k R hR)
theorem xx_newQ {n' : Nat} {i : Nat} {n : Int32} {N : Nat} (hd : xa_d K y pc (.anewarray i) 3 n') (hw : Cond.classLink (K.1 y).1.cls i K.2.2.2.2.2 ∈ K.2.2.1) (hw2 : Cond.arrayOver (.object K.2.2.2.2.2) ∈ K.2.2.1) (hn0 : ¬ n < 0) (hN : n.toNatClampNeg = N) (hb : N * 4 ≤ 536870912) (k : xa_X K tx d y (n') (ls) (.ref h.1 :: st) ((h.1 + 1, xa_up h.2 h.1 (.inl (3, N, .inr (.inr (.inr (.inr (fun _ => none)))))))) (mc) (ms) Q) : xa_X K tx d y (pc) (ls) (.int n :: st) (h) (mc + 1) (ms + N) Q := fun R hR => hR.2.2.2.2.2.2.2.2.2.2.2.2.2.2.2.2.2.2.2.2.2.2.2.2.2.2.2.2.2.2.2.2.2.2.2.2.2.2.2.2.2.2.2.2.2.2.2.2.2.2.2.2.2.2.2.2.2.2.2.2.2.2.2.2.2.2.2.2.2.2.2.2.1 _ _ _ _ _ _ _ _ _ _ _ _ _ hd hw hw2 hn0 hN hb (k R hR)
theorem xx_callV {n' : Nat} {i : Nat} {y' : Nat} {ci : Nat} {fs : List Value} {a : Nat} {As : List Value} {mc' : Nat} {ms' : Nat} {P : xa_Q} (hd : xa_d K y pc (.invokevirtual i) 3 n') (hl : xa_lkV K (K.1 y).1.cls i ci y' As.length) (hh : h.2 a = .inr (ci, fs)) (hca : ∀ v ∈ As, v.category = 1) (hw : (st.map fun v => v.category).sum ≤ 8) (hP : ∀ E h', ¬ P (.inr E) h') (k1 : xa_X K tx d y' 0 (xa_ent (K.1 y').2.2.1 (.ref a :: As)) [] h mc' ms' P) (k2 : (∀ (v : Option Value) (h' : xa_H), P (.inl v) h' → xa_X K tx (d + 1) y n' ls (v.toList ++ st) h' mc ms Q)) : xa_X K tx (d + 1) y pc ls (As.reverse ++ .ref a :: st) h (mc + mc') (ms + ms') Q := fun R hR => hR.2.2.2.2.2.2.2.2.2.2.2.2.2.2.2.2.2.2.2.2.2.2.2.2.2.2.2.2.2.2.2.2.2.2.2.2.2.2.2.2.2.2.2.2.2.2.2.2.2.2.2.2.2.2.2.2.2.2.2.2.2.2.2.2.2.2.2.2.2.2.2.2.2.1 _ _ _ _ _ _ _ _ _ _ _ _ _ _ _ _ _ _ _ hd hl hh hca hw hP (k1 R hR) (fun v h' q => k2 v h' q R hR)
theorem xx_callS {n' : Nat} {i : Nat} {y' : Nat} {As : List Value} {mc' : Nat} {ms' : Nat} {P : xa_Q} (hd : xa_d K y pc (.invokestatic i) 3 n') (hl : xa_lkS K (K.1 y).1.cls i y' As.length) (hca : ∀ v ∈ As, v.category = 1) (hw : (st.map fun v => v.category).sum ≤ 8) (hP : ∀ E h', ¬ P (.inr E) h') (k1 : xa_X K tx d y' 0 (xa_ent (K.1 y').2.2.1 (As)) [] h mc' ms' P) (k2 : (∀ (v : Option Value) (h' : xa_H), P (.inl v) h' → xa_X K tx (d + 1) y n' ls (v.toList ++ st) h' mc ms Q)) : xa_X K tx (d + 1) y pc ls (As.reverse ++ st) h (mc + mc') (ms + ms') Q := fun R hR => hR.2.2.2.2.2.2.2.2.2.2.2.2.2.2.2.2.2.2.2.2.2.2.2.2.2.2.2.2.2.2.2.2.2.2.2.2.2.2.2.2.2.2.2.2.2.2.2.2.2.2.2.2.2.2.2.2.2.2.2.2.2.2.2.2.2.2.2.2.2.2.2.2.2.2.1 _ _ _ _ _ _ _ _ _ _ _ _ _ _ _ _ hd hl hca hw hP (k1 R hR) (fun v h' q => k2 v h' q R hR)
theorem xx_callI {n' : Nat} {i : Nat} {y' : Nat} {a : Nat} {As : List Value} {mc' : Nat} {ms' : Nat} {P : xa_Q} (hd : xa_d K y pc (.invokespecial i) 3 n') (hl : xa_lkI K (K.1 y).1.cls i y' As.length) (hca : ∀ v ∈ As, v.category = 1) (hw : (st.map fun v => v.category).sum ≤ 8) (hP : ∀ E h', ¬ P (.inr E) h') (k1 : xa_X K tx d y' 0 (xa_ent (K.1 y').2.2.1 (.ref a :: As)) [] h mc' ms' P) (k2 : (∀ (v : Option Value) (h' : xa_H), P (.inl v) h' → xa_X K tx (d + 1) y n' ls (v.toList ++ st) h' mc ms Q)) : xa_X K tx (d + 1) y pc ls (As.reverse ++ .ref a :: st) h (mc + mc') (ms + ms') Q := fun R hR => hR.2.2.2.2.2.2.2.2.2.2.2.2.2.2.2.2.2.2.2.2.2.2.2.2.2.2.2.2.2.2.2.2.2.2.2.2.2.2.2.2.2.2.2.2.2.2.2.2.2.2.2.2.2.2.2.2.2.2.2.2.2.2.2.2.2.2.2.2.2.2.2.2.2.2.2.1 _ _ _ _ _ _ _ _ _ _ _ _ _ _ _ _ _ hd hl hca hw hP (k1 R hR) (fun v h' q => k2 v h' q R hR)
theorem xx_mmax {n' : Nat} {i : Nat} {x : Int32} {z : Int32} (hd : xa_d K y pc (.invokestatic i) 3 n') (h1 : Cond.methodLink (K.1 y).1.cls i Lib.Math.max.name ∈ K.2.2.1) (h2 : Cond.static Lib.Math.max.name ∈ K.2.2.1) (h3 : Cond.initialized "java/lang/Math" ∈ K.2.2.1) (h4 : Cond.code Lib.Math.max.name Lib.Math.max.code 2 (some .int) ∈ K.2.2.1) (hw : (st.map fun v => v.category).sum ≤ 8) (k : xa_X K tx d y (n') (ls) (.int (if x < z then z else x) :: st) (h) (mc) (ms) Q) : xa_X K tx d y (pc) (ls) (.int z :: .int x :: st) (h) (mc) (ms) Q := fun R hR => hR.2.2.2.2.2.2.2.2.2.2.2.2.2.2.2.2.2.2.2.2.2.2.2.2.2.2.2.2.2.2.2.2.2.2.2.2.2.2.2.2.2.2.2.2.2.2.2.2.2.2.2.2.2.2.2.2.2.2.2.2.2.2.2.2.2.2.2.2.2.2.2.2.2.2.2.2 _ _ _ _ _ _ _ _ _ _ _ _ _ hd h1 h2 h3 h4 hw (k R hR)
end XRows
end
section
/-! Laws that the soundness of the rules rests on: ends, new cells, calls. -/
section XCalls
theorem xa_E.w {K : xa_P} {Z : xa_Z} {below : List Frame} {A : Nat → Prop} {s : State} {ad : Nat → Nat} {n mc ms mc' ms' : Nat} {Q : xa_Q} {t : State} (h1 : mc' ≤ mc) (h2 : ms' ≤ ms) (h : xa_E K Z below A s ad n mc' ms' Q t) : xa_E K Z below A s ad n mc ms Q t := by
  obtain ⟨o, g1, g2, ⟨L, g3, g4, g5⟩, g6⟩ := h
  exact ⟨o, g1, g2, ⟨L, g3, g4.mono h1 h2, g5⟩, g6⟩
theorem xa_E.c {K : xa_P} {Z : xa_Z} {below : List Frame} {A : Nat → Prop} {s : State} {ad : Nat → Nat} {n mc ms mc' ms' : Nat} {Q : xa_Q} {t : State} (h1 : mc' = mc) (h2 : ms' = ms) (h : xa_E K Z below A s ad n mc' ms' Q t) : xa_E K Z below A s ad n mc ms Q t := by
  rw [← h1, ← h2]; exact h
theorem xa_sum {tb ad : Nat → Nat} (st : List Value) : ((st.map (xa_tr tb ad)).map fun v => v.category).sum = (st.map fun v => v.category).sum := by
  rw [List.map_map]
  congr 1
  exact List.map_congr_left fun v _ => xa_cat tb ad v
theorem xa_end {K : xa_P} {Z : xa_Z} {d y : Nat} {p : Program} {R : Room} {s : State} {m : MethodId} {meth : Method} {c : Code} {A : Nat → Prop} {below : List Frame} {args : Array Value} {H : Heap} {locs : List Loc} {cells slots mc ms : Nat} {ad : Nat → Nat} {h : xa_H} {Q : xa_Q} {v : Option Value}
    (C : xa_C K Z d y p R s m meth c A) (hc : cells + mc ≤ R.cells) (hs : slots + ms ≤ R.slots) (rp : xa_rep K Z A s H locs ad h) (hq : Q (.inl v) h) (hv : ∀ w, v = some w → xa_ok h.1 w) :
    ∀ t, MQ below (fun _ _ o t => o = .returned (v.map (xa_tr Z.2.2.1 ad)) ∧ t.heap = H) args s cells slots A t → xa_E K Z below A s ad h.1 (cells + mc) (slots + ms) Q t := by
  intro t ht
  obtain ⟨o, h1, h2, ⟨e1, e2⟩, L, ⟨-, h3, h4⟩, h5⟩ := ht
  refine ⟨o, h1, h2, ⟨L, h3, h4.mono (Nat.le_add_right _ _) (Nat.le_add_right _ _), h5⟩, ad, h, .inl v, Nat.le_refl _, fun _ _ => rfl, ?_, hq, e1, hv⟩
  rw [e2]
  exact ⟨rp.1, rp.2.1, ⟨rp.2.2.1.1, rp.2.2.1.2.1, fun q hq => nomatch hq⟩, rp.2.2.2⟩
theorem xa_norefs {tb ad : Nat → Nat} {fs : List Value} (h : fs.all (fun v => match v with | .ref _ => false | .retAddr _ => false | _ => true) = true) : fs.map (xa_tr tb ad) = fs := by
  have : ∀ v ∈ fs, xa_tr tb ad v = v := fun v hv => by
    have := List.all_eq_true.mp h v hv
    cases v with
    | ref a => cases this
    | retAddr k => cases this
    | _ => rfl
  calc fs.map (xa_tr tb ad) = fs.map id := List.map_congr_left this
    _ = fs := List.map_id fs
theorem xa_ok_of_norefs {n : Nat} {fs : List Value} (h : fs.all (fun v => match v with | .ref _ => false | .retAddr _ => false | _ => true) = true) : ∀ v ∈ fs, xa_ok n v := fun v hv a e => by
  have := List.all_eq_true.mp h v hv
  rw [e] at this
  cases this
theorem xa_okpushA {h : xa_H} {e : va_E} (hok : ∀ i, i < h.1 → xa_okE h.1 (h.2 i)) (he : xa_okE (h.1 + 1) e) : ∀ i, i < (h.1 + 1, xa_up h.2 h.1 e).1 → xa_okE (h.1 + 1, xa_up h.2 h.1 e).1 ((h.1 + 1, xa_up h.2 h.1 e).2 i) := by
  intro i hi
  show xa_okE (h.1 + 1) (xa_up h.2 h.1 e i)
  by_cases q : i = h.1
  · rw [q, xa_up_s]; exact he
  · rw [xa_up_n _ _ q]
    have hi : i < h.1 + 1 := hi
    exact xa_okE_m (Nat.le_succ _) (hok i (by omega))
theorem xa_okpush {h : xa_H} {ci : Nat} {fs : List Value} (hok : ∀ i, i < h.1 → xa_okE h.1 (h.2 i)) (hf : ∀ v ∈ fs, xa_ok (h.1 + 1) v) : ∀ i, i < (h.1 + 1, xa_up h.2 h.1 (.inr (ci, fs))).1 → xa_okE (h.1 + 1, xa_up h.2 h.1 (.inr (ci, fs))).1 ((h.1 + 1, xa_up h.2 h.1 (.inr (ci, fs))).2 i) := xa_okpushA hok hf
/-- the locals at a method's entry -/
theorem xa_lva {tb ad : Nat → Nat} : ∀ (vs : List Value) (i : Nat), (∀ v ∈ vs, v.category = 1) → ∀ q ∈ xa_kn tb ad vs i, q ∈ lv_args i (vs.map (xa_tr tb ad))
  | [], _, _, q, h => by cases h
  | v :: r, i, hc, q, h => by
    have hv := hc v List.mem_cons_self
    have hr : ∀ w ∈ r, w.category = 1 := fun w hw => hc w (List.mem_cons_of_mem _ hw)
    rw [xa_kn_c] at h
    show q ∈ (i, xa_tr tb ad v) :: lv_args (if (xa_tr tb ad v).category = 2 then i + 2 else i + 1) (r.map (xa_tr tb ad))
    rw [xa_cat, hv, if_neg (by decide)]
    by_cases hj : xa_isj v = true
    · rw [if_pos hj] at h
      exact List.mem_cons_of_mem _ (xa_lva r (i + 1) hr q h)
    · rw [if_neg hj] at h
      rcases List.mem_cons.mp h with e | e
      · rw [e]; exact List.mem_cons_self
      · exact List.mem_cons_of_mem _ (xa_lva r (i + 1) hr q e)
theorem xa_kn_rep {tb ad : Nat → Nat} : ∀ (k i : Nat), xa_kn tb ad (List.replicate k xa_j) i = []
  | 0, _ => rfl
  | k + 1, i => by
    show xa_kn tb ad (xa_j :: List.replicate k xa_j) i = []
    exact xa_kn_rep k (i + 1)
theorem xa_kn_app {tb ad : Nat → Nat} : ∀ (vs : List Value) (k i : Nat), xa_kn tb ad (vs ++ List.replicate k xa_j) i = xa_kn tb ad vs i
  | [], k, i => xa_kn_rep k i
  | v :: r, k, i => by
    rw [List.cons_append, xa_kn_c, xa_kn_c, xa_kn_app r k (i + 1)]
theorem xa_sl_len {tb ad : Nat → Nat} {vs : List Value} (hc : ∀ v ∈ vs, v.category = 1) : (lg_sl (vs.map (xa_tr tb ad))).length = vs.length := by
  induction vs with
  | nil => rfl
  | cons v r ih =>
    have h1 := ih (fun w hw => hc w (List.mem_cons_of_mem _ hw))
    have h2 : ¬ (xa_tr tb ad v).category = 2 := by rw [xa_cat, hc v List.mem_cons_self]; decide
    show (List.flatMap _ (xa_tr tb ad v :: r.map (xa_tr tb ad))).length = r.length + 1
    rw [List.flatMap_cons, if_neg h2, List.length_append]
    show 1 + (lg_sl (r.map (xa_tr tb ad))).length = r.length + 1
    rw [h1]; omega
theorem xa_lv_ent {tb ad : Nat → Nat} {n nL : Nat} {vs : List Value} (hc : ∀ v ∈ vs, v.category = 1) (ok : xa_oks n vs) (hl : vs.length ≤ nL) :
    xa_lv tb ad n nL ((lg_sl (vs.map (xa_tr tb ad)) ++ List.replicate (nL - (lg_sl (vs.map (xa_tr tb ad))).length) Slot.unset).toArray) (xa_ent nL vs) := by
  have h1 := lv_entry (vs.map (xa_tr tb ad)) (n := nL) (by rw [xa_sl_len hc]; exact hl)
  refine ⟨⟨h1.1, h1.2.1, fun q hq => ?_⟩, by simp [xa_ent]; omega, fun v hv => ?_⟩
  · rw [xa_ent, xa_kn_app] at hq
    exact h1.2.2 q (xa_lva vs 0 hc q hq)
  · rcases List.mem_append.mp hv with e | e
    · exact ⟨ok v e, hc v e⟩
    · rw [(List.mem_replicate.mp e).2]; exact ⟨(fun a q => by cases q), rfl⟩
theorem xa_weak {tb : Tables} {e : Env} {mid below : List Frame} {a b : State} (h : Steps tb e (mid ++ below) a b) : Steps tb e below a b := by
  obtain ⟨n, hn, w⟩ := h
  exact ⟨n, hn, fun k hk => (w k hk).weaken⟩
/-- the callee of a call, out of its words -/
theorem xa_cal {K : xa_P} {y n : Nat} {args : Array Value} {U : State} (hy : xa_my K y n) (hw : (xa_cw (K.1 y)).before args U = true) :
    ∃ mk meth ck, U.methodNamed? (K.1 y).1 = some mk ∧ U.vm.method? mk = some meth ∧ meth.code = some ck ∧ ck.code = (K.1 y).2.1 ∧ ck.maxLocals = (K.1 y).2.2.1 ∧ meth.sig.returnType = (K.1 y).2.2.2.1 ∧ meth.locks = false ∧ ck.exceptionTable.toList = tableOf (K.1 y).2.2.2.2 ∧ meth.sig.parameters.length = n ∧ U.plainMethod mk := by
  obtain ⟨h1, h2, h3, h4, h5⟩ := hy
  have fin : ∀ mk meth, U.methodNamed? (K.1 y).1 = some mk → U.vm.method? mk = some meth → U.plainMethod mk := fun mk meth a b => State.plainMethod.of_named (plainFor_of_name h2) a b
  have par : ∀ meth : Method, parseMethodDescriptor (K.1 y).1.desc = some meth.sig → meth.sig.parameters.length = n := fun meth q => by
    rw [q] at h4
    exact Option.some.inj h4
  unfold xa_cw at hw
  split at hw
  · rename_i e
    obtain ⟨mk, hn⟩ := Cond.code_named hw
    obtain ⟨meth, ck, q1, q2, q3, q4, q5, q6, q7, q8⟩ := Cond.code_spec hn hw
    refine ⟨mk, meth, ck, hn, q1, q2, q3, q4, q5, q6, ?_, par meth q8, fin mk meth hn q1⟩
    rw [e]
    have h0 : ck.exceptionTable.size = 0 := by simpa [Array.isEmpty] using q7
    exact List.eq_nil_of_length_eq_zero (by simpa using h0)
  · obtain ⟨mk, meth, ck, hn, q1, q2, q3, q4, q5, q6, q7, q8⟩ := Cond.codeWith_spec hw
    refine ⟨mk, meth, ck, hn, q1, q2, q3, q4, q6, q7, ?_, par meth q8, fin mk meth hn q1⟩
    rw [← q5, table_eq]
set_option maxRecDepth 10000 in
theorem xa_ar {a b d R : Nat} (h : 60 * (d + 1) + 300 ≤ R) (ha : a ≤ 8) (hb : b ≤ 41) : a + (b + 11) + (60 * d + 300) ≤ R := by omega
/-- a call, from the frame g whose arguments are taken off: the callee runs, and the caller stands again -/
theorem xa_run {l : Launch} {K : xa_P} {Z : xa_Z} {d y y' : Nat} {p : Program} {e : Env} {R : Room} {s : State} {m : MethodId} {args : Array Value} {below : List Frame} {meth : Method} {c : Code} {A : Nat → Prop} {T : State} {locs : List Loc} {cells slots mc' ms' : Nat} {ad : Nat → Nat} {h : xa_H} {P : xa_Q} {As : List Value} {g : JFrame} {ig : Instr} {len : Nat}
    {mk : MethodId} {methk : Method} {ck : Code}
    (k : xa_W l K Z d y' 0 (xa_ent (K.1 y').2.2.1 As) [] h mc' ms' P) (C : xa_C K Z (d + 1) y p R s m meth c A) (X : Stand p l e R s m args below meth c T locs cells slots)
    (hc : cells + mc' ≤ R.cells) (hs : slots + ms' ≤ R.slots) (rp : xa_rep K Z A s T.heap locs ad h) (ok : xa_oks h.1 As) (hca : ∀ v ∈ As, v.category = 1) (hlen : As.length ≤ (K.1 y').2.2.1) (h41 : (K.1 y').2.2.1 ≤ 41)
    (hg : g.method = m) (hsize : g.locals.size = c.maxLocals) (hdg : decode c.code g.pc = .ok (ig, len)) (hw : 2 * g.monitorRoom + (g.stack.map fun v => v.category).sum ≤ 8)
    (hn : T.methodNamed? (K.1 y').1 = some mk) (hmk : T.vm.method? mk = some methk) (hck : methk.code = some ck) (q3 : ck.code = (K.1 y').2.1) (q4 : ck.maxLocals = (K.1 y').2.2.1) (q5 : methk.sig.returnType = (K.1 y').2.2.2.1) (q6 : methk.locks = false) (q7 : ck.exceptionTable.toList = tableOf (K.1 y').2.2.2.2) (q8 : T.plainMethod mk) :
    ∃ (o : Outcome) (t T' : State) (L : List Loc) (ad' : Nat → Nat) (h' : xa_H) (oa : xa_O), Stand p l e R s m args below meth c T' (locs ++ L) (cells + mc') (slots + ms') ∧ h.1 ≤ h'.1 ∧ (∀ i, i < h.1 → ad' i = ad i) ∧ xa_rep K Z A s T'.heap (locs ++ L) ad' h' ∧ P oa h' ∧ xa_oc Z s ad' h' T' o oa ∧
      (∀ acts, Steps p.tables e below (doInvoke e (T.setTop g) acts mk (As.map (xa_tr Z.2.2.1 ad)).toArray).1 t) ∧ (∀ v, o = .returned v → t = T'.setTop { g with pc := g.pc + len, stack := v.toList ++ g.stack }) ∧ (∀ x, o = .threw x → t = (T'.setTop g).pushFrame (.throwing x)) := by
  have r1 : d + 8 + 1 ≤ R.frames := by have := C.rm.1; omega
  have r2 : 2 * g.monitorRoom + (g.stack.map fun v => v.category).sum + (ck.maxLocals + 11) + (60 * d + 300) ≤ R.locals := by rw [q4]; exact xa_ar C.rm.2 hw h41
  obtain ⟨Y, hin⟩ := X.into hg hsize hdg (As.map (xa_tr Z.2.2.1 ad)).toArray (R' := { frames := d + 8, cells := mc', slots := ms', locals := 60 * d + 300 }) hmk hck q6 q8 r1 r2 hc hs
  have hsub : ∀ q, va_A (xa_w Z.2.1 Z.2.2.1 ad h) T.heap.size q → A q := fun q hq => by
    rcases hq with ⟨k9, e9, h9⟩ | h9
    · exact rp.2.1.2 k9 _ h9
    · exact C.a q (Nat.le_trans rp.2.2.1.1 h9)
  have hW0 : s.WarmedH (T.calling g mk (As.map (xa_tr Z.2.2.1 ad)).toArray).vm := X.warmed
  have hG : xa_G K Z (va_A (xa_w Z.2.1 Z.2.2.1 ad h) T.heap.size) (T.calling g mk (As.map (xa_tr Z.2.2.1 ad)).toArray) := C.g.to (locs := locs) rp.2.2.1 hW0 hsub
  have hnm : methk.name = (K.1 y').1.name := (name_of_methodNamed hn hmk).1
  have hown : T.vm.findClass (K.1 y').1.cls = some mk.cls := findClass_of_methodNamed hn
  have C' : xa_C K Z d y' p { frames := d + 8, cells := mc', slots := ms', locals := 60 * d + 300 } (T.calling g mk (As.map (xa_tr Z.2.2.1 ad)).toArray) mk methk ck (va_A (xa_w Z.2.1 Z.2.2.1 ad h) T.heap.size) :=
    ⟨C.1, q3, q4, q5, q6, hnm, hown, q7, Nat.le_refl _, Nat.le_refl _, fun q hq => Or.inr hq, hG⟩
  have rp' : xa_rep K Z (va_A (xa_w Z.2.1 Z.2.2.1 ad h) T.heap.size) (T.calling g mk (As.map (xa_tr Z.2.2.1 ad)).toArray) T.heap [] ad h :=
    ⟨rp.1, rp.2.1.self, va_S.rf, rp.2.2.2⟩
  have kk := k p e _ _ mk (As.map (xa_tr Z.2.2.1 ad)).toArray (.java g :: below) methk ck _ T.heap [] 0 0 ad _ C' (by show 0 + mc' ≤ mc'; omega) (by show 0 + ms' ≤ ms'; omega) rp' (xa_lv_ent hca ok hlen) (fun v hv => nomatch hv)
  obtain ⟨t, hst, o, hrun, hend, ⟨L, hWe, hsm, hL⟩, ad', h', oa, hn', hag, rp2, hP, hoc⟩ := kk ((T.setTop g).pushFrame (.java (entryFrame mk (As.map (xa_tr Z.2.2.1 ad)).toArray ck.maxLocals))) rfl Y
  rw [Nat.zero_add] at hsm
  have hsm : (T.calling g mk (As.map (xa_tr Z.2.2.1 ad)).toArray).sameButNew ({ t with vm := (T.calling g mk (As.map (xa_tr Z.2.2.1 ad)).toArray).vm } : State) L mc' ms' := by
    have := hsm
    rwa [Nat.zero_add] at this
  have hst' : ∀ acts, Steps p.tables e below (doInvoke e (T.setTop g) acts mk (As.map (xa_tr Z.2.2.1 ad)).toArray).1 t := fun acts => by
    rw [hin acts, q4, lg_entry_eq]
    rw [q4, lg_entry_eq] at hst
    exact xa_weak (mid := [.java g]) hst
  have hcall : (T.calling g mk (As.map (xa_tr Z.2.2.1 ad)).toArray).heap = T.heap := rfl
  have hS2 : va_S A s.heap t.heap (locs ++ L) := by
    have h2 := rp2.2.2.1
    refine ⟨Nat.le_trans rp.2.2.1.1 h2.1, fun q hq hA => ?_, fun z hz => ?_⟩
    · exact (h2.2.1 q (Nat.lt_of_lt_of_le hq rp.2.2.1.1) (fun z => hA (hsub q z))).trans (rp.2.2.1.2.1 q hq hA)
    · rcases List.mem_append.mp hz with z1 | z1
      · exact rp.2.2.1.2.2 z z1
      · exact hsub _ (hL z z1)
  have hD2 : va_D A (xa_w Z.2.1 Z.2.2.1 ad' h') := rp2.2.1.weaken (fun _ _ _ z => hsub _ z)
  cases o with
  | returned v =>
    obtain ⟨T', X', hW', -, ht⟩ := X.outOf hg hdg hend hWe hsm
    have hheap : t.heap = T'.heap := by rw [ht]; rfl
    refine ⟨.returned v, t, T', L, ad', h', oa, X', hn', hag, ⟨by rw [← hheap]; exact rp2.1, hD2, by rw [← hheap]; exact hS2, rp2.2.2.2⟩, hP, ?_, hst', (fun v' e1 => by cases e1; exact ht), (fun x e1 => by cases e1)⟩
    cases oa with
    | inl w => exact hoc
    | inr E => obtain ⟨q, ce, e1, -⟩ := hoc; cases e1
  | threw x =>
    obtain ⟨T', X', hW', -, ht⟩ := X.outOfThrown hg hend hWe hsm
    have hheap : t.heap = T'.heap := by rw [ht]; exact Stand.throwing_heap T' g x
    refine ⟨.threw x, t, T', L, ad', h', oa, X', hn', hag, ⟨by rw [← hheap]; exact rp2.1, hD2, by rw [← hheap]; exact hS2, rp2.2.2.2⟩, hP, ?_, hst', (fun v' e1 => by cases e1), (fun x' e1 => by cases e1; exact ht)⟩
    cases oa with
    | inl w => obtain ⟨e1, -⟩ := hoc; cases e1
    | inr E =>
      obtain ⟨q, ce, e1, e2, e3, e4⟩ := hoc
      exact ⟨q, ce, e1, by rw [← hheap]; exact e2, e3, by rw [← hW0.alike.findClass]; exact e4⟩
end XCalls
section XCalls2
variable {l : Launch} {K : xa_P} {Z : xa_Z} {d y y' : Nat} {p : Program} {e : Env} {R : Room} {s : State} {m : MethodId} {args : Array Value} {below : List Frame} {meth : Method} {c : Code} {A : Nat → Prop} {H : Heap} {locs : List Loc} {cells slots mc ms mc' ms' : Nat} {ad : Nat → Nat} {h : xa_H} {P Q : xa_Q} {sl : Array Slot} {ls st : List Value} {pc : Nat}
/-- behind the call: what the callee returned is on the stack -/
theorem xa_ret {Fs : List Value} {T T₁ : State} {g0 : JFrame} {ig : Instr} {mk : MethodId} (hP : ∀ E h', ¬ P (.inr E) h') (k1 : xa_W l K Z d y' 0 (xa_ent (K.1 y').2.2.1 Fs) [] h mc' ms' P) (k2 : ∀ (v : Option Value) (h' : xa_H), P (.inl v) h' → xa_W l K Z (d + 1) y (pc + 3) ls (v.toList ++ st) h' mc ms Q)
    (C : xa_C K Z (d + 1) y p R s m meth c A) (hc : cells + (mc + mc') ≤ R.cells) (hs : slots + (ms + ms') ≤ R.slots) (X : Stand p l e R s m args below meth c T₁ locs cells slots) (hT : T₁.heap = H) (rp : xa_rep K Z A s H locs ad h) (lv : xa_lv Z.2.2.1 ad h.1 (K.1 y).2.2.1 sl ls) (okS : xa_oks h.1 st) (okF : xa_oks h.1 Fs)
    (hca : ∀ v ∈ Fs, v.category = 1) {n : Nat} (hmy : xa_my K y' n) (hlen : Fs.length ≤ (K.1 y').2.2.1) (hd : decode (K.1 y).2.1 pc = .ok (ig, 3)) (hw : (st.map fun v => v.category).sum ≤ 8) (hnm : T₁.methodNamed? (K.1 y').1 = some mk)
    (hstep : ∀ target, (∀ acts, Steps p.tables e below (doInvoke e (T₁.setTop (F0 m pc sl (st.map (xa_tr Z.2.2.1 ad)))) acts mk (Fs.map (xa_tr Z.2.2.1 ad)).toArray).1 target) → Steps p.tables e below (T.setTop g0) target) :
    ∃ t, Steps p.tables e below (T.setTop g0) t ∧ xa_E K Z below A s ad h.1 (cells + (mc + mc')) (slots + (ms + ms')) Q t := by
  subst hT
  obtain ⟨mk1, methk, ck, e1, e2, e3, e4, e5, e6, e7, e8, -, e9⟩ := xa_cal hmy (C.g.1 _ hmy.1 args T₁ X.warmed)
  cases hnm.symm.trans e1
  obtain ⟨o, t, T', L, ad', h', oa, X', hn', hag, rp', hPo, hoc, hst, hret, -⟩ := xa_run (g := F0 m pc sl (st.map (xa_tr Z.2.2.1 ad))) (ig := ig) (len := 3) k1 C X (by omega) (by omega) rp okF hca hlen hmy.2.2.2.2 rfl (lv.1.1.trans C.2.2.1.symm) (by rw [C.2.1]; exact hd) (by rw [xa_sum]; simp only [JFrame.monitorRoom]; omega) hnm e2 e3 e4 e5 e6 e7 e8 e9
  cases oa with
  | inr E => exact absurd hPo (hP E h')
  | inl v =>
    have ht := hret _ hoc.1
    have okv : xa_oks h'.1 (v.toList ++ st) := fun w hw => by
      rcases List.mem_append.mp hw with q | q
      · cases v with
        | none => cases q
        | some u => rw [List.mem_singleton.mp q]; exact hoc.2 u rfl
      · exact xa_ok_m hn' (okS w q)
    obtain ⟨t2, a1, b1⟩ := k2 v h' hPo p e R s m args below meth c A T'.heap (locs ++ L) (cells + mc') (slots + ms') ad' sl C (by omega) (by omega) rp' (xa_lv_m lv hn' hag) okv T' rfl X'
    have est : (v.toList ++ st).map (xa_tr Z.2.2.1 ad') = (v.map (xa_tr Z.2.2.1 ad')).toList ++ st.map (xa_tr Z.2.2.1 ad) := by
      rw [List.map_append, xa_trs_ag hag okS]
      cases v <;> rfl
    rw [est] at a1
    refine ⟨t2, hstep t2 (fun acts => (hst acts).trans ?_), xa_E.m hn' hag (xa_E.c (by omega) (by omega) b1)⟩
    rw [ht]
    exact a1
theorem xa_sV {i ci a : Nat} {fs As : List Value} (hd : decode (K.1 y).2.1 pc = .ok (.invokevirtual i, 3)) (hl : xa_lkV K (K.1 y).1.cls i ci y' As.length) (hh : h.2 a = .inr (ci, fs)) (hca : ∀ v ∈ As, v.category = 1) (hw : (st.map fun v => v.category).sum ≤ 8) (hP : ∀ E h', ¬ P (.inr E) h')
    (k1 : xa_W l K Z d y' 0 (xa_ent (K.1 y').2.2.1 (.ref a :: As)) [] h mc' ms' P) (k2 : ∀ (v : Option Value) (h' : xa_H), P (.inl v) h' → xa_W l K Z (d + 1) y (pc + 3) ls (v.toList ++ st) h' mc ms Q)
    (C : xa_C K Z (d + 1) y p R s m meth c A) (hc : cells + (mc + mc') ≤ R.cells) (hs : slots + (ms + ms') ≤ R.slots) (rp : xa_rep K Z A s H locs ad h) (lv : xa_lv Z.2.2.1 ad h.1 (K.1 y).2.2.1 sl ls) (ok : xa_oks h.1 (As.reverse ++ .ref a :: st)) :
    W p l e R s m args below meth c H locs cells slots (xa_E K Z below A s ad h.1 (cells + (mc + mc')) (slots + (ms + ms')) Q) (F0 m pc sl ((As.reverse ++ .ref a :: st).map (xa_tr Z.2.2.1 ad))) := by
  intro T hT X
  obtain ⟨hml, hinst, ⟨Tc, N, hcl⟩, hsel, hmy, hlen⟩ := hl
  obtain ⟨ok1, ok2⟩ := xa_oks_a ok
  have okA : xa_oks h.1 As := fun v hv => ok1 v (List.mem_reverse.mpr hv)
  have ha : a < h.1 := xa_oks_h ok2 a rfl
  have hwA := xa_w_get (tys := Z.2.1) (tb := Z.2.2.1) (ad := ad) ha
  rw [hh] at hwA
  obtain ⟨cell, hcell, hobj, hcls⟩ := va_recv C.k rp.1 hcl hwA
  obtain ⟨mk, methk, hnamed, hmeth, hstt, hab⟩ := Cond.instanceMethod_spec (C.ts args _ hinst)
  obtain ⟨c2, r2, m2, q1, q2, q3, q4, kP, hkP, hkPi⟩ := Cond.selects_spec (C.ts args _ hsel)
  cases hcls.symm.trans q1
  cases (State.methodFound?_of_named hnamed hmy.2.2.1).symm.trans q2
  cases hnamed.symm.trans q3
  have hselP : selectMethod e.platform s.vm cell.cls mk = .method mk := by rw [Launch.admits_selectMethod X.admits]; exact q4
  obtain ⟨mk0, meth0, ck0, f1, f2, -, -, -, -, -, -, f9, -⟩ := xa_cal hmy (C.ts args _ hmy.1)
  cases hnamed.symm.trans f1
  cases hmeth.symm.trans f2
  have est : (As.reverse ++ .ref a :: st).map (xa_tr Z.2.2.1 ad) = (As.map (xa_tr Z.2.2.1 ad)).reverse ++ .ref (ad a) :: st.map (xa_tr Z.2.2.1 ad) := by
    rw [List.map_append, List.map_reverse]; rfl
  rw [est]
  have key : ∃ vm', Stand p l e R s m args below meth c (T.setVm vm') locs cells slots ∧ ∀ target, (∀ acts, Steps p.tables e below (doInvoke e ((T.setVm vm').setTop { F0 m pc sl ((As.map (xa_tr Z.2.2.1 ad)).reverse ++ .ref (ad a) :: st.map (xa_tr Z.2.2.1 ad)) with stack := st.map (xa_tr Z.2.2.1 ad) }) acts mk (.ref (ad a) :: As.map (xa_tr Z.2.2.1 ad)).toArray).1 target) → Steps p.tables e below (T.setTop (F0 m pc sl ((As.map (xa_tr Z.2.2.1 ad)).reverse ++ .ref (ad a) :: st.map (xa_tr Z.2.2.1 ad)))) target := by
    rcases hml with hl | ⟨host, hl⟩
    · exact X.invokevirtual C.1 C.o (C.ts args _ hl) hnamed hmeth hstt hkP hkPi hmy.2.2.1 (a := ad a) (cell := cell) (by rw [hT]; exact hcell) (fun z q => by rw [q] at hobj; cases hobj) hselP hmeth hab hkP hkPi (g := F0 m pc sl ((As.map (xa_tr Z.2.2.1 ad)).reverse ++ .ref (ad a) :: st.map (xa_tr Z.2.2.1 ad))) rfl (argsL := As.map (xa_tr Z.2.2.1 ad)) (rest := st.map (xa_tr Z.2.2.1 ad)) (by rw [List.length_map]; exact f9.symm) rfl (by rw [C.2.1]; exact hd)
    · exact X.invokevirtualNest C.1 C.o (C.ts args _ hl) hnamed hmeth hstt hkP hkPi hmy.2.2.1 (a := ad a) (cell := cell) (by rw [hT]; exact hcell) (fun z q => by rw [q] at hobj; cases hobj) hselP hmeth hab hkP hkPi (g := F0 m pc sl ((As.map (xa_tr Z.2.2.1 ad)).reverse ++ .ref (ad a) :: st.map (xa_tr Z.2.2.1 ad))) rfl (argsL := As.map (xa_tr Z.2.2.1 ad)) (rest := st.map (xa_tr Z.2.2.1 ad)) (by rw [List.length_map]; exact f9.symm) rfl (by rw [C.2.1]; exact hd)
  obtain ⟨vm', X₁, hstep⟩ := key
  exact xa_ret (Fs := .ref a :: As) hP k1 k2 C hc hs X₁ hT rp lv (xa_oks_t ok2) (xa_oks_c (xa_ok_r ha) okA) (fun v hv => by
    rcases List.mem_cons.mp hv with q | q
    · rw [q]; rfl
    · exact hca v q) hmy (by show As.length + 1 ≤ _; exact hlen) hd hw (X₁.named hnamed) hstep
theorem xa_sS {i : Nat} {As : List Value} (hd : decode (K.1 y).2.1 pc = .ok (.invokestatic i, 3)) (hl : xa_lkS K (K.1 y).1.cls i y' As.length) (hca : ∀ v ∈ As, v.category = 1) (hw : (st.map fun v => v.category).sum ≤ 8) (hP : ∀ E h', ¬ P (.inr E) h')
    (k1 : xa_W l K Z d y' 0 (xa_ent (K.1 y').2.2.1 As) [] h mc' ms' P) (k2 : ∀ (v : Option Value) (h' : xa_H), P (.inl v) h' → xa_W l K Z (d + 1) y (pc + 3) ls (v.toList ++ st) h' mc ms Q)
    (C : xa_C K Z (d + 1) y p R s m meth c A) (hc : cells + (mc + mc') ≤ R.cells) (hs : slots + (ms + ms') ≤ R.slots) (rp : xa_rep K Z A s H locs ad h) (lv : xa_lv Z.2.2.1 ad h.1 (K.1 y).2.2.1 sl ls) (ok : xa_oks h.1 (As.reverse ++ st)) :
    W p l e R s m args below meth c H locs cells slots (xa_E K Z below A s ad h.1 (cells + (mc + mc')) (slots + (ms + ms')) Q) (F0 m pc sl ((As.reverse ++ st).map (xa_tr Z.2.2.1 ad))) := by
  intro T hT X
  obtain ⟨hml, hstat, hini, hmy, hlen⟩ := hl
  obtain ⟨ok1, ok2⟩ := xa_oks_a ok
  have okA : xa_oks h.1 As := fun v hv => ok1 v (List.mem_reverse.mpr hv)
  obtain ⟨mk, methk, ck0, hnamed, hmeth, -, -, -, -, -, -, f9, -⟩ := xa_cal hmy (C.ts args _ hmy.1)
  have hstatic : methk.isStatic = true := Cond.static_spec hnamed hmeth (C.ts args _ hstat)
  obtain ⟨kP, hkP, -⟩ := className_of_methodNamed hnamed
  have hinitP : kP.init = .initialized := Cond.initialized_spec (findClass_of_methodNamed hnamed) hkP (C.ts args _ hini)
  have est : (As.reverse ++ st).map (xa_tr Z.2.2.1 ad) = (As.map (xa_tr Z.2.2.1 ad)).reverse ++ st.map (xa_tr Z.2.2.1 ad) := by
    rw [List.map_append, List.map_reverse]
  rw [est]
  have key : ∃ vm', Stand p l e R s m args below meth c (T.setVm vm') locs cells slots ∧ ∀ target, (∀ acts, Steps p.tables e below (doInvoke e ((T.setVm vm').setTop { F0 m pc sl ((As.map (xa_tr Z.2.2.1 ad)).reverse ++ st.map (xa_tr Z.2.2.1 ad)) with stack := st.map (xa_tr Z.2.2.1 ad) }) acts mk (As.map (xa_tr Z.2.2.1 ad)).toArray).1 target) → Steps p.tables e below (T.setTop (F0 m pc sl ((As.map (xa_tr Z.2.2.1 ad)).reverse ++ st.map (xa_tr Z.2.2.1 ad)))) target := by
    rcases hml with hl | ⟨host, hl⟩
    · exact X.invokestatic C.1 C.o (C.ts args _ hl) hnamed hmeth hstatic hkP hinitP hmy.2.2.1 (g := F0 m pc sl ((As.map (xa_tr Z.2.2.1 ad)).reverse ++ st.map (xa_tr Z.2.2.1 ad))) rfl (argsL := As.map (xa_tr Z.2.2.1 ad)) (rest := st.map (xa_tr Z.2.2.1 ad)) (by rw [List.length_map]; exact f9.symm) rfl (by rw [C.2.1]; exact hd)
    · exact X.invokestaticNest C.1 C.o (C.ts args _ hl) hnamed hmeth hstatic hkP hinitP hmy.2.2.1 (g := F0 m pc sl ((As.map (xa_tr Z.2.2.1 ad)).reverse ++ st.map (xa_tr Z.2.2.1 ad))) rfl (argsL := As.map (xa_tr Z.2.2.1 ad)) (rest := st.map (xa_tr Z.2.2.1 ad)) (by rw [List.length_map]; exact f9.symm) rfl (by rw [C.2.1]; exact hd)
  obtain ⟨vm', X₁, hstep⟩ := key
  exact xa_ret (Fs := As) hP k1 k2 C hc hs X₁ hT rp lv ok2 okA hca hmy hlen hd hw (X₁.named hnamed) hstep
theorem xa_sI {i a : Nat} {As : List Value} (hd : decode (K.1 y).2.1 pc = .ok (.invokespecial i, 3)) (hl : xa_lkI K (K.1 y).1.cls i y' As.length) (hca : ∀ v ∈ As, v.category = 1) (hw : (st.map fun v => v.category).sum ≤ 8) (hP : ∀ E h', ¬ P (.inr E) h')
    (k1 : xa_W l K Z d y' 0 (xa_ent (K.1 y').2.2.1 (.ref a :: As)) [] h mc' ms' P) (k2 : ∀ (v : Option Value) (h' : xa_H), P (.inl v) h' → xa_W l K Z (d + 1) y (pc + 3) ls (v.toList ++ st) h' mc ms Q)
    (C : xa_C K Z (d + 1) y p R s m meth c A) (hc : cells + (mc + mc') ≤ R.cells) (hs : slots + (ms + ms') ≤ R.slots) (rp : xa_rep K Z A s H locs ad h) (lv : xa_lv Z.2.2.1 ad h.1 (K.1 y).2.2.1 sl ls) (ok : xa_oks h.1 (As.reverse ++ .ref a :: st)) :
    W p l e R s m args below meth c H locs cells slots (xa_E K Z below A s ad h.1 (cells + (mc + mc')) (slots + (ms + ms')) Q) (F0 m pc sl ((As.reverse ++ .ref a :: st).map (xa_tr Z.2.2.1 ad))) := by
  intro T hT X
  obtain ⟨hml, hinst, hnm, hrn, hhn, hmy, hlen⟩ := hl
  obtain ⟨ok1, ok2⟩ := xa_oks_a ok
  have okA : xa_oks h.1 As := fun v hv => ok1 v (List.mem_reverse.mpr hv)
  have ha : a < h.1 := xa_oks_h ok2 a rfl
  have hpl : e.platform.magicAccessors = ({} : Platform).magicAccessors := by rw [X.admits.platform]
  have hcode : (Cond.code (K.1 y').1 (K.1 y').2.1 (K.1 y').2.2.1 none).before args s = true := by
    have := C.ts args _ hmy.1
    unfold xa_cw at this
    rw [hhn, hrn] at this
    exact this
  have hpar : ∀ sig, parseMethodDescriptor (K.1 y').1.desc = some sig → (As.map (xa_tr Z.2.2.1 ad)).length = sig.parameters.length := fun sig q => by
    have h2 := hmy.2.2.2.1
    rw [q] at h2
    rw [List.length_map]
    exact (Option.some.inj h2).symm
  have est : (As.reverse ++ .ref a :: st).map (xa_tr Z.2.2.1 ad) = (As.map (xa_tr Z.2.2.1 ad)).reverse ++ .ref (ad a) :: st.map (xa_tr Z.2.2.1 ad) := by
    rw [List.map_append, List.map_reverse]; rfl
  rw [est]
  have key : ∃ mk vm', s.methodNamed? (K.1 y').1 = some mk ∧ s.WarmedH vm' ∧ ∀ target, (∀ acts, Steps p.tables e below (doInvoke e ((T.setVm vm').setTop { F0 m pc sl ((As.map (xa_tr Z.2.2.1 ad)).reverse ++ .ref (ad a) :: st.map (xa_tr Z.2.2.1 ad)) with stack := st.map (xa_tr Z.2.2.1 ad) }) acts mk (.ref (ad a) :: As.map (xa_tr Z.2.2.1 ad)).toArray).1 target) → Steps p.tables e below (T.setTop (F0 m pc sl ((As.map (xa_tr Z.2.2.1 ad)).reverse ++ .ref (ad a) :: st.map (xa_tr Z.2.2.1 ad)))) target := by
    rcases hml with hl | ⟨host, hl⟩
    · obtain ⟨mk, _, _, _, vm', g1, -, -, -, -, -, -, -, g2, g3⟩ := Steps.initColdArgs (e := e) X.here C.1 X.warmed hpl C.o hnm hmy.2.2.1 (C.ts args _ hl) (C.ts args _ hinst) hcode (f := F0 m pc sl ((As.map (xa_tr Z.2.2.1 ad)).reverse ++ .ref (ad a) :: st.map (xa_tr Z.2.2.1 ad))) rfl hpar rfl (by rw [C.2.1]; exact hd)
      exact ⟨mk, vm', g1, g2, g3⟩
    · obtain ⟨mk, _, _, _, vm', g1, -, -, -, -, -, -, -, g2, g3⟩ := Steps.initColdArgsNest (e := e) X.here C.1 X.warmed hpl C.o hnm hmy.2.2.1 (C.ts args _ hl) (C.ts args _ hinst) hcode (f := F0 m pc sl ((As.map (xa_tr Z.2.2.1 ad)).reverse ++ .ref (ad a) :: st.map (xa_tr Z.2.2.1 ad))) rfl hpar rfl (by rw [C.2.1]; exact hd)
      exact ⟨mk, vm', g1, g2, g3⟩
  obtain ⟨mk, vm', hnamed, hW₁, hstep⟩ := key
  have X₁ := X.noted hW₁
  exact xa_ret (Fs := .ref a :: As) hP k1 k2 C hc hs X₁ hT rp lv (xa_oks_t ok2) (xa_oks_c (xa_ok_r ha) okA) (fun v hv => by
    rcases List.mem_cons.mp hv with q | q
    · rw [q]; rfl
    · exact hca v q) hmy (by show As.length + 1 ≤ _; exact hlen) hd hw (X₁.named hnamed) hstep
end XCalls2
end
section
/-! Each rule of the abstract machine is sound (printed by wip/whole/gen_machine.py). -/
section XSound
variable {l : Launch} {K : xa_P} {Z : xa_Z}
set_option maxHeartbeats 2000000 in
theorem xs_iconst : xr_iconst K (xa_W l K Z) := by
  intro d y pc ls st h mc ms Q n' n v hd hv k p e R s m args below meth c A H locs cells slots ad sl C hc hs rp lv ok
  obtain ⟨hd, rfl⟩ := hd
  exact lv_iconst C.1 C.2.1 hd hv (k p e R s m args below meth c A H locs cells slots ad sl C hc hs rp lv (xa_oks_i ok))
set_option maxHeartbeats 2000000 in
theorem xs_bipush : xr_bipush K (xa_W l K Z) := by
  intro d y pc ls st h mc ms Q n' n v hd hv k p e R s m args below meth c A H locs cells slots ad sl C hc hs rp lv ok
  obtain ⟨hd, rfl⟩ := hd
  exact lv_bipush C.1 C.2.1 hd hv (k p e R s m args below meth c A H locs cells slots ad sl C hc hs rp lv (xa_oks_i ok))
set_option maxHeartbeats 2000000 in
theorem xs_sipush : xr_sipush K (xa_W l K Z) := by
  intro d y pc ls st h mc ms Q n' n v hd hv k p e R s m args below meth c A H locs cells slots ad sl C hc hs rp lv ok
  obtain ⟨hd, rfl⟩ := hd
  exact lv_sipush C.1 C.2.1 hd hv (k p e R s m args below meth c A H locs cells slots ad sl C hc hs rp lv (xa_oks_i ok))
set_option maxHeartbeats 2000000 in
theorem xs_ldc : xr_ldc K (xa_W l K Z) := by
  intro d y pc ls st h mc ms Q n' i v hd hv k p e R s m args below meth c A H locs cells slots ad sl C hc hs rp lv ok
  obtain ⟨hd, rfl⟩ := hd
  exact lv_ldc C.1 C.2.1 C.o (C.ts args _ hv) hd (k p e R s m args below meth c A H locs cells slots ad sl C hc hs rp lv (xa_oks_i ok))
set_option maxHeartbeats 2000000 in
theorem xs_iload_n : xr_iload_n K (xa_W l K Z) := by
  intro d y pc ls st h mc ms Q n' n i x hd hi hl k p e R s m args below meth c A H locs cells slots ad sl C hc hs rp lv ok
  obtain ⟨hd, rfl⟩ := hd
  exact lv_iload_n C.1 C.2.1 hd hi (xa_lv_at lv hl rfl) (k p e R s m args below meth c A H locs cells slots ad sl C hc hs rp lv (xa_oks_i ok))
set_option maxHeartbeats 2000000 in
theorem xs_iload : xr_iload K (xa_W l K Z) := by
  intro d y pc ls st h mc ms Q n' i x hd hl k p e R s m args below meth c A H locs cells slots ad sl C hc hs rp lv ok
  obtain ⟨hd, rfl⟩ := hd
  exact lv_iload C.1 C.2.1 hd (xa_lv_at lv hl rfl) (k p e R s m args below meth c A H locs cells slots ad sl C hc hs rp lv (xa_oks_i ok))
set_option maxHeartbeats 2000000 in
theorem xs_aload_n : xr_aload_n K (xa_W l K Z) := by
  intro d y pc ls st h mc ms Q n' n i x hd hi hl k p e R s m args below meth c A H locs cells slots ad sl C hc hs rp lv ok
  obtain ⟨hd, rfl⟩ := hd
  exact lv_aload_n C.1 C.2.1 hd hi (xa_lv_at lv hl rfl) (k p e R s m args below meth c A H locs cells slots ad sl C hc hs rp lv (xa_oks_c (xa_lv_ok lv hl) ok))
set_option maxHeartbeats 2000000 in
theorem xs_aload_nT : xr_aload_nT K (xa_W l K Z) := by
  intro d y pc ls st h mc ms Q n' n i x hd hi hl k p e R s m args below meth c A H locs cells slots ad sl C hc hs rp lv ok
  obtain ⟨hd, rfl⟩ := hd
  exact lv_aload_n C.1 C.2.1 hd hi (xa_lv_at lv hl rfl) (k p e R s m args below meth c A H locs cells slots ad sl C hc hs rp lv (xa_oks_c (xa_lv_ok lv hl) ok))
set_option maxHeartbeats 2000000 in
theorem xs_aload : xr_aload K (xa_W l K Z) := by
  intro d y pc ls st h mc ms Q n' i x hd hl k p e R s m args below meth c A H locs cells slots ad sl C hc hs rp lv ok
  obtain ⟨hd, rfl⟩ := hd
  exact lv_aload C.1 C.2.1 hd (xa_lv_at lv hl rfl) (k p e R s m args below meth c A H locs cells slots ad sl C hc hs rp lv (xa_oks_c (xa_lv_ok lv hl) ok))
set_option maxHeartbeats 2000000 in
theorem xs_aloadT : xr_aloadT K (xa_W l K Z) := by
  intro d y pc ls st h mc ms Q n' i x hd hl k p e R s m args below meth c A H locs cells slots ad sl C hc hs rp lv ok
  obtain ⟨hd, rfl⟩ := hd
  exact lv_aload C.1 C.2.1 hd (xa_lv_at lv hl rfl) (k p e R s m args below meth c A H locs cells slots ad sl C hc hs rp lv (xa_oks_c (xa_lv_ok lv hl) ok))
set_option maxHeartbeats 2000000 in
theorem xs_istore_n : xr_istore_n K (xa_W l K Z) := by
  intro d y pc ls st h mc ms Q n' n i x w hd hi hl k p e R s m args below meth c A H locs cells slots ad sl C hc hs rp lv ok
  obtain ⟨hd, rfl⟩ := hd
  exact lv_istore_n C.1 C.2.1 hd hi lv.1 (xa_lv_lt lv hl) rfl (fun sl2 hl2 => (k p e R s m args below meth c A H locs cells slots ad sl2 C hc hs rp (xa_lv_set lv hl xa_ok_i rfl hl2) (xa_oks_t ok)))
set_option maxHeartbeats 2000000 in
theorem xs_istore : xr_istore K (xa_W l K Z) := by
  intro d y pc ls st h mc ms Q n' i x w hd hl k p e R s m args below meth c A H locs cells slots ad sl C hc hs rp lv ok
  obtain ⟨hd, rfl⟩ := hd
  exact lv_istore C.1 C.2.1 hd lv.1 (xa_lv_lt lv hl) rfl (fun sl2 hl2 => (k p e R s m args below meth c A H locs cells slots ad sl2 C hc hs rp (xa_lv_set lv hl xa_ok_i rfl hl2) (xa_oks_t ok)))
set_option maxHeartbeats 2000000 in
theorem xs_astore_n : xr_astore_n K (xa_W l K Z) := by
  intro d y pc ls st h mc ms Q n' n i x w hd hi hl k p e R s m args below meth c A H locs cells slots ad sl C hc hs rp lv ok
  obtain ⟨hd, rfl⟩ := hd
  exact lv_astore_n C.1 C.2.1 hd hi lv.1 (xa_lv_lt lv hl) rfl (fun sl2 hl2 => (k p e R s m args below meth c A H locs cells slots ad sl2 C hc hs rp (xa_lv_set lv hl (xa_oks_h ok) rfl hl2) (xa_oks_t ok)))
set_option maxHeartbeats 2000000 in
theorem xs_astore : xr_astore K (xa_W l K Z) := by
  intro d y pc ls st h mc ms Q n' i x w hd hl k p e R s m args below meth c A H locs cells slots ad sl C hc hs rp lv ok
  obtain ⟨hd, rfl⟩ := hd
  exact lv_astore C.1 C.2.1 hd lv.1 (xa_lv_lt lv hl) rfl (fun sl2 hl2 => (k p e R s m args below meth c A H locs cells slots ad sl2 C hc hs rp (xa_lv_set lv hl (xa_oks_h ok) rfl hl2) (xa_oks_t ok)))
set_option maxHeartbeats 2000000 in
theorem xs_iinc : xr_iinc K (xa_W l K Z) := by
  intro d y pc ls st h mc ms Q n' i n x v hd hl hv k p e R s m args below meth c A H locs cells slots ad sl C hc hs rp lv ok
  obtain ⟨hd, rfl⟩ := hd
  obtain ⟨j, hj⟩ := List.mem_iff_getElem?.mp (xa_kn_mem (tb := Z.2.2.1) (ad := ad) (v := .int x) rfl ls i 0 hl)
  rw [Nat.zero_add] at hj
  exact lv_iinc C.1 C.2.1 hd lv.1 hj hv (xa_lv_lt lv hl) rfl (fun sl2 hl2 => (k p e R s m args below meth c A H locs cells slots ad sl2 C hc hs rp (xa_lv_set lv hl xa_ok_i rfl hl2) (ok)))
set_option maxHeartbeats 2000000 in
theorem xs_iadd : xr_iadd K (xa_W l K Z) := by
  intro d y pc ls st h mc ms Q n' x z hd k p e R s m args below meth c A H locs cells slots ad sl C hc hs rp lv ok
  obtain ⟨hd, rfl⟩ := hd
  exact lv_iadd C.1 C.2.1 hd (k p e R s m args below meth c A H locs cells slots ad sl C hc hs rp lv (xa_oks_i (xa_oks_t (xa_oks_t ok))))
set_option maxHeartbeats 2000000 in
theorem xs_isub : xr_isub K (xa_W l K Z) := by
  intro d y pc ls st h mc ms Q n' x z hd k p e R s m args below meth c A H locs cells slots ad sl C hc hs rp lv ok
  obtain ⟨hd, rfl⟩ := hd
  exact lv_isub C.1 C.2.1 hd (k p e R s m args below meth c A H locs cells slots ad sl C hc hs rp lv (xa_oks_i (xa_oks_t (xa_oks_t ok))))
set_option maxHeartbeats 2000000 in
theorem xs_imul : xr_imul K (xa_W l K Z) := by
  intro d y pc ls st h mc ms Q n' x z hd k p e R s m args below meth c A H locs cells slots ad sl C hc hs rp lv ok
  obtain ⟨hd, rfl⟩ := hd
  exact lv_imul C.1 C.2.1 hd (k p e R s m args below meth c A H locs cells slots ad sl C hc hs rp lv (xa_oks_i (xa_oks_t (xa_oks_t ok))))
set_option maxHeartbeats 2000000 in
theorem xs_iand : xr_iand K (xa_W l K Z) := by
  intro d y pc ls st h mc ms Q n' x z hd k p e R s m args below meth c A H locs cells slots ad sl C hc hs rp lv ok
  obtain ⟨hd, rfl⟩ := hd
  exact lv_iand C.1 C.2.1 hd (k p e R s m args below meth c A H locs cells slots ad sl C hc hs rp lv (xa_oks_i (xa_oks_t (xa_oks_t ok))))
set_option maxHeartbeats 2000000 in
theorem xs_ior : xr_ior K (xa_W l K Z) := by
  intro d y pc ls st h mc ms Q n' x z hd k p e R s m args below meth c A H locs cells slots ad sl C hc hs rp lv ok
  obtain ⟨hd, rfl⟩ := hd
  exact lv_ior C.1 C.2.1 hd (k p e R s m args below meth c A H locs cells slots ad sl C hc hs rp lv (xa_oks_i (xa_oks_t (xa_oks_t ok))))
set_option maxHeartbeats 2000000 in
theorem xs_ixor : xr_ixor K (xa_W l K Z) := by
  intro d y pc ls st h mc ms Q n' x z hd k p e R s m args below meth c A H locs cells slots ad sl C hc hs rp lv ok
  obtain ⟨hd, rfl⟩ := hd
  exact lv_ixor C.1 C.2.1 hd (k p e R s m args below meth c A H locs cells slots ad sl C hc hs rp lv (xa_oks_i (xa_oks_t (xa_oks_t ok))))
set_option maxHeartbeats 2000000 in
theorem xs_ishl : xr_ishl K (xa_W l K Z) := by
  intro d y pc ls st h mc ms Q n' x z hd k p e R s m args below meth c A H locs cells slots ad sl C hc hs rp lv ok
  obtain ⟨hd, rfl⟩ := hd
  exact lv_ishl C.1 C.2.1 hd (k p e R s m args below meth c A H locs cells slots ad sl C hc hs rp lv (xa_oks_i (xa_oks_t (xa_oks_t ok))))
set_option maxHeartbeats 2000000 in
theorem xs_ishr : xr_ishr K (xa_W l K Z) := by
  intro d y pc ls st h mc ms Q n' x z hd k p e R s m args below meth c A H locs cells slots ad sl C hc hs rp lv ok
  obtain ⟨hd, rfl⟩ := hd
  exact lv_ishr C.1 C.2.1 hd (k p e R s m args below meth c A H locs cells slots ad sl C hc hs rp lv (xa_oks_i (xa_oks_t (xa_oks_t ok))))
set_option maxHeartbeats 2000000 in
theorem xs_iushr : xr_iushr K (xa_W l K Z) := by
  intro d y pc ls st h mc ms Q n' x z hd k p e R s m args below meth c A H locs cells slots ad sl C hc hs rp lv ok
  obtain ⟨hd, rfl⟩ := hd
  exact lv_iushr C.1 C.2.1 hd rfl (k p e R s m args below meth c A H locs cells slots ad sl C hc hs rp lv (xa_oks_i (xa_oks_t (xa_oks_t ok))))
set_option maxHeartbeats 2000000 in
theorem xs_idiv : xr_idiv K (xa_W l K Z) := by
  intro d y pc ls st h mc ms Q n' x z hd hz k p e R s m args below meth c A H locs cells slots ad sl C hc hs rp lv ok
  obtain ⟨hd, rfl⟩ := hd
  exact lv_idiv C.1 C.2.1 hd hz (k p e R s m args below meth c A H locs cells slots ad sl C hc hs rp lv (xa_oks_i (xa_oks_t (xa_oks_t ok))))
set_option maxHeartbeats 2000000 in
theorem xs_irem : xr_irem K (xa_W l K Z) := by
  intro d y pc ls st h mc ms Q n' x z hd hz k p e R s m args below meth c A H locs cells slots ad sl C hc hs rp lv ok
  obtain ⟨hd, rfl⟩ := hd
  exact lv_irem C.1 C.2.1 hd hz (k p e R s m args below meth c A H locs cells slots ad sl C hc hs rp lv (xa_oks_i (xa_oks_t (xa_oks_t ok))))
set_option maxHeartbeats 2000000 in
theorem xs_i2l : xr_i2l K (xa_W l K Z) := by
  intro d y pc ls st h mc ms Q n' x hd k p e R s m args below meth c A H locs cells slots ad sl C hc hs rp lv ok
  obtain ⟨hd, rfl⟩ := hd
  exact lv_i2l C.1 C.2.1 hd rfl (k p e R s m args below meth c A H locs cells slots ad sl C hc hs rp lv (xa_oks_l (xa_oks_t ok)))
set_option maxHeartbeats 2000000 in
theorem xs_lcmp : xr_lcmp K (xa_W l K Z) := by
  intro d y pc ls st h mc ms Q n' x z hd k p e R s m args below meth c A H locs cells slots ad sl C hc hs rp lv ok
  obtain ⟨hd, rfl⟩ := hd
  exact W.lcmp C.1 C.2.1 hd (k p e R s m args below meth c A H locs cells slots ad sl C hc hs rp lv (xa_oks_i (xa_oks_t (xa_oks_t ok))))
set_option maxHeartbeats 2000000 in
theorem xs_dup : xr_dup K (xa_W l K Z) := by
  intro d y pc ls st h mc ms Q n' v hd hv k p e R s m args below meth c A H locs cells slots ad sl C hc hs rp lv ok
  obtain ⟨hd, rfl⟩ := hd
  exact lv_dup C.1 C.2.1 hd (by rw [xa_cat]; exact hv) (k p e R s m args below meth c A H locs cells slots ad sl C hc hs rp lv (xa_oks_c (xa_oks_h ok) ok))
set_option maxHeartbeats 2000000 in
theorem xs_pop : xr_pop K (xa_W l K Z) := by
  intro d y pc ls st h mc ms Q n' v hd hv k p e R s m args below meth c A H locs cells slots ad sl C hc hs rp lv ok
  obtain ⟨hd, rfl⟩ := hd
  exact lv_pop C.1 C.2.1 hd (by rw [xa_cat]; exact hv) (k p e R s m args below meth c A H locs cells slots ad sl C hc hs rp lv (xa_oks_t ok))
set_option maxHeartbeats 2000000 in
theorem xs_dup2 : xr_dup2 K (xa_W l K Z) := by
  intro d y pc ls st h mc ms Q n' v w hd hv hw k p e R s m args below meth c A H locs cells slots ad sl C hc hs rp lv ok
  obtain ⟨hd, rfl⟩ := hd
  exact lv_dup2_11 C.1 C.2.1 hd (by rw [xa_cat]; exact hv) (by rw [xa_cat]; exact hw) (k p e R s m args below meth c A H locs cells slots ad sl C hc hs rp lv (xa_oks_c (xa_oks_h ok) (xa_oks_c (xa_oks_h (xa_oks_t ok)) ok)))
set_option maxHeartbeats 2000000 in
theorem xs_dup_x1 : xr_dup_x1 K (xa_W l K Z) := by
  intro d y pc ls st h mc ms Q n' v w hd hv hw k p e R s m args below meth c A H locs cells slots ad sl C hc hs rp lv ok
  obtain ⟨hd, rfl⟩ := hd
  exact lv_dup_x1 C.1 C.2.1 hd (by rw [xa_cat]; exact hv) (by rw [xa_cat]; exact hw) (k p e R s m args below meth c A H locs cells slots ad sl C hc hs rp lv (xa_oks_c (xa_oks_h ok) (xa_oks_c (xa_oks_h (xa_oks_t ok)) (xa_oks_c (xa_oks_h ok) (xa_oks_t (xa_oks_t ok))))))
set_option maxHeartbeats 2000000 in
theorem xs_if_eq : xr_if_eq K (xa_W l K Z) := by
  intro d y pc ls st h mc ms Q n' x off tgt hd kt kf p e R s m args below meth c A H locs cells slots ad sl C hc hs rp lv ok
  obtain ⟨⟨hd, rfl⟩, ht⟩ := hd
  exact lv_if_eq C.1 C.2.1 hd ht (fun q => (kt q p e R s m args below meth c A H locs cells slots ad sl C hc hs rp lv (xa_oks_t ok))) (fun q => (kf q p e R s m args below meth c A H locs cells slots ad sl C hc hs rp lv (xa_oks_t ok)))
set_option maxHeartbeats 2000000 in
theorem xs_if_ne : xr_if_ne K (xa_W l K Z) := by
  intro d y pc ls st h mc ms Q n' x off tgt hd kt kf p e R s m args below meth c A H locs cells slots ad sl C hc hs rp lv ok
  obtain ⟨⟨hd, rfl⟩, ht⟩ := hd
  exact lv_if_ne C.1 C.2.1 hd ht (fun q => (kt q p e R s m args below meth c A H locs cells slots ad sl C hc hs rp lv (xa_oks_t ok))) (fun q => (kf q p e R s m args below meth c A H locs cells slots ad sl C hc hs rp lv (xa_oks_t ok)))
set_option maxHeartbeats 2000000 in
theorem xs_if_lt : xr_if_lt K (xa_W l K Z) := by
  intro d y pc ls st h mc ms Q n' x off tgt hd kt kf p e R s m args below meth c A H locs cells slots ad sl C hc hs rp lv ok
  obtain ⟨⟨hd, rfl⟩, ht⟩ := hd
  exact lv_if_lt C.1 C.2.1 hd ht (fun q => (kt q p e R s m args below meth c A H locs cells slots ad sl C hc hs rp lv (xa_oks_t ok))) (fun q => (kf q p e R s m args below meth c A H locs cells slots ad sl C hc hs rp lv (xa_oks_t ok)))
set_option maxHeartbeats 2000000 in
theorem xs_if_ge : xr_if_ge K (xa_W l K Z) := by
  intro d y pc ls st h mc ms Q n' x off tgt hd kt kf p e R s m args below meth c A H locs cells slots ad sl C hc hs rp lv ok
  obtain ⟨⟨hd, rfl⟩, ht⟩ := hd
  exact lv_if_ge C.1 C.2.1 hd ht (fun q => (kt q p e R s m args below meth c A H locs cells slots ad sl C hc hs rp lv (xa_oks_t ok))) (fun q => (kf q p e R s m args below meth c A H locs cells slots ad sl C hc hs rp lv (xa_oks_t ok)))
set_option maxHeartbeats 2000000 in
theorem xs_if_gt : xr_if_gt K (xa_W l K Z) := by
  intro d y pc ls st h mc ms Q n' x off tgt hd kt kf p e R s m args below meth c A H locs cells slots ad sl C hc hs rp lv ok
  obtain ⟨⟨hd, rfl⟩, ht⟩ := hd
  exact lv_if_gt C.1 C.2.1 hd ht (fun q => (kt q p e R s m args below meth c A H locs cells slots ad sl C hc hs rp lv (xa_oks_t ok))) (fun q => (kf q p e R s m args below meth c A H locs cells slots ad sl C hc hs rp lv (xa_oks_t ok)))
set_option maxHeartbeats 2000000 in
theorem xs_if_le : xr_if_le K (xa_W l K Z) := by
  intro d y pc ls st h mc ms Q n' x off tgt hd kt kf p e R s m args below meth c A H locs cells slots ad sl C hc hs rp lv ok
  obtain ⟨⟨hd, rfl⟩, ht⟩ := hd
  exact lv_if_le C.1 C.2.1 hd ht (fun q => (kt q p e R s m args below meth c A H locs cells slots ad sl C hc hs rp lv (xa_oks_t ok))) (fun q => (kf q p e R s m args below meth c A H locs cells slots ad sl C hc hs rp lv (xa_oks_t ok)))
set_option maxHeartbeats 2000000 in
theorem xs_icmp_eq : xr_icmp_eq K (xa_W l K Z) := by
  intro d y pc ls st h mc ms Q n' x z off tgt hd kt kf p e R s m args below meth c A H locs cells slots ad sl C hc hs rp lv ok
  obtain ⟨⟨hd, rfl⟩, ht⟩ := hd
  exact lv_icmp_eq C.1 C.2.1 hd ht (fun q => (kt q p e R s m args below meth c A H locs cells slots ad sl C hc hs rp lv (xa_oks_t (xa_oks_t ok)))) (fun q => (kf q p e R s m args below meth c A H locs cells slots ad sl C hc hs rp lv (xa_oks_t (xa_oks_t ok))))
set_option maxHeartbeats 2000000 in
theorem xs_icmp_ne : xr_icmp_ne K (xa_W l K Z) := by
  intro d y pc ls st h mc ms Q n' x z off tgt hd kt kf p e R s m args below meth c A H locs cells slots ad sl C hc hs rp lv ok
  obtain ⟨⟨hd, rfl⟩, ht⟩ := hd
  exact lv_icmp_ne C.1 C.2.1 hd ht (fun q => (kt q p e R s m args below meth c A H locs cells slots ad sl C hc hs rp lv (xa_oks_t (xa_oks_t ok)))) (fun q => (kf q p e R s m args below meth c A H locs cells slots ad sl C hc hs rp lv (xa_oks_t (xa_oks_t ok))))
set_option maxHeartbeats 2000000 in
theorem xs_icmp_lt : xr_icmp_lt K (xa_W l K Z) := by
  intro d y pc ls st h mc ms Q n' x z off tgt hd kt kf p e R s m args below meth c A H locs cells slots ad sl C hc hs rp lv ok
  obtain ⟨⟨hd, rfl⟩, ht⟩ := hd
  exact lv_icmp_lt C.1 C.2.1 hd ht (fun q => (kt q p e R s m args below meth c A H locs cells slots ad sl C hc hs rp lv (xa_oks_t (xa_oks_t ok)))) (fun q => (kf q p e R s m args below meth c A H locs cells slots ad sl C hc hs rp lv (xa_oks_t (xa_oks_t ok))))
set_option maxHeartbeats 2000000 in
theorem xs_icmp_ge : xr_icmp_ge K (xa_W l K Z) := by
  intro d y pc ls st h mc ms Q n' x z off tgt hd kt kf p e R s m args below meth c A H locs cells slots ad sl C hc hs rp lv ok
  obtain ⟨⟨hd, rfl⟩, ht⟩ := hd
  exact lv_icmp_ge C.1 C.2.1 hd ht (fun q => (kt q p e R s m args below meth c A H locs cells slots ad sl C hc hs rp lv (xa_oks_t (xa_oks_t ok)))) (fun q => (kf q p e R s m args below meth c A H locs cells slots ad sl C hc hs rp lv (xa_oks_t (xa_oks_t ok))))
set_option maxHeartbeats 2000000 in
theorem xs_icmp_gt : xr_icmp_gt K (xa_W l K Z) := by
  intro d y pc ls st h mc ms Q n' x z off tgt hd kt kf p e R s m args below meth c A H locs cells slots ad sl C hc hs rp lv ok
  obtain ⟨⟨hd, rfl⟩, ht⟩ := hd
  exact lv_icmp_gt C.1 C.2.1 hd ht (fun q => (kt q p e R s m args below meth c A H locs cells slots ad sl C hc hs rp lv (xa_oks_t (xa_oks_t ok)))) (fun q => (kf q p e R s m args below meth c A H locs cells slots ad sl C hc hs rp lv (xa_oks_t (xa_oks_t ok))))
set_option maxHeartbeats 2000000 in
theorem xs_icmp_le : xr_icmp_le K (xa_W l K Z) := by
  intro d y pc ls st h mc ms Q n' x z off tgt hd kt kf p e R s m args below meth c A H locs cells slots ad sl C hc hs rp lv ok
  obtain ⟨⟨hd, rfl⟩, ht⟩ := hd
  exact lv_icmp_le C.1 C.2.1 hd ht (fun q => (kt q p e R s m args below meth c A H locs cells slots ad sl C hc hs rp lv (xa_oks_t (xa_oks_t ok)))) (fun q => (kf q p e R s m args below meth c A H locs cells slots ad sl C hc hs rp lv (xa_oks_t (xa_oks_t ok))))
set_option maxHeartbeats 2000000 in
theorem xs_goto : xr_goto K (xa_W l K Z) := by
  intro d y pc ls st h mc ms Q n' off tgt hd k p e R s m args below meth c A H locs cells slots ad sl C hc hs rp lv ok
  obtain ⟨⟨hd, rfl⟩, ht⟩ := hd
  exact lv_goto C.1 C.2.1 hd ht (k p e R s m args below meth c A H locs cells slots ad sl C hc hs rp lv (ok))
set_option maxHeartbeats 2000000 in
theorem xs_tableOut : xr_tableOut K (xa_W l K Z) := by
  intro d y pc ls st h mc ms Q n' dflt lo hi offs len x tgt hd hx ht k p e R s m args below meth c A H locs cells slots ad sl C hc hs rp lv ok
  obtain ⟨hd, rfl⟩ := hd
  exact lv_tableOut C.1 C.2.1 hd hx ht (k p e R s m args below meth c A H locs cells slots ad sl C hc hs rp lv (xa_oks_t ok))
set_option maxHeartbeats 2000000 in
theorem xs_tableIn : xr_tableIn K (xa_W l K Z) := by
  intro d y pc ls st h mc ms Q n' dflt lo hi offs len x off tgt hd h1 h2 ho ht k p e R s m args below meth c A H locs cells slots ad sl C hc hs rp lv ok
  obtain ⟨hd, rfl⟩ := hd
  exact lv_tableIn C.1 C.2.1 hd h1 h2 ho ht (k p e R s m args below meth c A H locs cells slots ad sl C hc hs rp lv (xa_oks_t ok))
set_option maxHeartbeats 2000000 in
theorem xs_lookup : xr_lookup K (xa_W l K Z) := by
  intro d y pc ls st h mc ms Q n' dflt ps len x off tgt hd hp ho ht k p e R s m args below meth c A H locs cells slots ad sl C hc hs rp lv ok
  obtain ⟨hd, rfl⟩ := hd
  exact lv_lookup C.1 C.2.1 hd hp ho ht (k p e R s m args below meth c A H locs cells slots ad sl C hc hs rp lv (xa_oks_t ok))
set_option maxHeartbeats 2000000 in
theorem xs_less : xr_less (xa_W l K Z) := by
  intro d y pc ls st h mc ms Q ls' hl k p e R s m args below meth c A H locs cells slots ad sl C hc hs rp lv ok
  exact (k p e R s m args below meth c A H locs cells slots ad sl C hc hs rp (xa_lv_le lv hl) (ok))
set_option maxHeartbeats 2000000 in
theorem xs_wide : xr_wide (xa_W l K Z) := by
  intro d y pc ls st h mc ms Q mc' ms' h1 h2 k p e R s m args below meth c A H locs cells slots ad sl C hc hs rp lv ok
  exact xa_post (fun t q => xa_E.w (Nat.add_le_add_left h1 _) (Nat.add_le_add_left h2 _) q) (k p e R s m args below meth c A H locs cells slots ad sl C (Nat.le_trans (Nat.add_le_add_left h1 _) hc) (Nat.le_trans (Nat.add_le_add_left h2 _) hs) rp lv (ok))
set_option maxHeartbeats 2000000 in
theorem xs_get : xr_get K (xa_W l K Z) := by
  intro d y pc ls st h mc ms Q n' i ci k0 a fs v hd hf hh hv k p e R s m args below meth c A H locs cells slots ad sl C hc hs rp lv ok
  obtain ⟨hd, rfl⟩ := hd
  have ha : a < h.1 := ok _ List.mem_cons_self a rfl
  have hv' : (fs.map (xa_tr Z.2.2.1 ad))[k0]? = some (xa_tr Z.2.2.1 ad v) := by rw [List.getElem?_map, hv]; rfl
  have hw := xa_w_get (tys := Z.2.1) (tb := Z.2.2.1) (ad := ad) ha
  rw [hh] at hw
  have hok : xa_ok h.1 v := by
    have := rp.2.2.2 a ha
    rw [hh] at this
    exact this v (List.mem_of_getElem? hv)
  obtain ⟨Cn, T, N, ty0, hk, hkN, hl⟩ := hf
  rcases hl with hl | ⟨host, hl⟩
  · exact va_get (cl := K.2.1) C.1 C.2.1 (C.ts args) hk.2.1 C.o C.k rp.1 a hw hk.1 k0 hkN (C.ts args _ hl) (fun _ q => q) hv' hd (k p e R s m args below meth c A H locs cells slots ad sl C hc hs rp lv (xa_oks_c hok (xa_oks_t ok)))
  · exact va_getN (cl := K.2.1) C.1 C.2.1 (C.ts args) hk.2.1 C.o C.k rp.1 a hw hk.1 k0 hkN (C.ts args _ hl) (fun _ q => q) hv' hd (k p e R s m args below meth c A H locs cells slots ad sl C hc hs rp lv (xa_oks_c hok (xa_oks_t ok)))
set_option maxHeartbeats 2000000 in
theorem xs_put : xr_put K (xa_W l K Z) := by
  intro d y pc ls st h mc ms Q n' i ci k0 ty a fs v hd hf hh hl0 hfit k p e R s m args below meth c A H locs cells slots ad sl C hc hs rp lv ok
  obtain ⟨hd, rfl⟩ := hd
  have ha : a < h.1 := ok _ (List.mem_cons_of_mem _ List.mem_cons_self) a rfl
  have hw := xa_w_get (tys := Z.2.1) (tb := Z.2.2.1) (ad := ad) ha
  rw [hh] at hw
  have hokv : xa_ok h.1 v := xa_oks_h ok
  have hcl := rp.2.2.2
  have ecl : ∀ i, i < h.1 → xa_okE h.1 (xa_up h.2 a (.inr (ci, fs.set k0 v)) i) := fun i hi => by
    by_cases e : i = a
    · rw [e, xa_up_s]
      intro w hw
      rcases List.mem_or_eq_of_mem_set hw with q | q
      · have := hcl a ha
        rw [hh] at this
        exact this w q
      · rw [q]; exact hokv
    · rw [xa_up_n _ _ e]; exact hcl i hi
  have eset : (xa_w Z.2.1 Z.2.2.1 ad h).set a (ad a, .inr (ci, (fs.map (xa_tr Z.2.2.1 ad)).set k0 (xa_tr Z.2.2.1 ad v))) = xa_w Z.2.1 Z.2.2.1 ad (h.1, xa_up h.2 a (.inr (ci, fs.set k0 v))) := by
    rw [← xa_w_set]
    show _ = (xa_w Z.2.1 Z.2.2.1 ad h).set a (ad a, .inr (ci, (fs.set k0 v).map (xa_tr Z.2.2.1 ad)))
    rw [List.map_set]
  obtain ⟨Cn, T, N, ty0, hk, hkN, hty, hfin, hl⟩ := hf
  rcases hl with hl | ⟨host, hl⟩
  · exact va_put (cl := K.2.1) (A := A) C.1 C.2.1 (C.ts args) hk.2.1 ty0 hk.2.2.1 hk.2.2.2 C.o C.k rp.1 rp.2.1 rp.2.2.1 a hw hk.1 k0 hkN (C.ts args _ hl) (fun _ q => q) hfin ((hk.2.2.1 k0 hkN).trans (congrArg some hty)) (hfit _ _).1 (hfit _ _).2 (by rw [List.length_map]; exact hl0) hd (fun H1 locs1 hP1 hD1 hS1 => by
      rw [eset] at hP1 hD1
      exact (k p e R s m args below meth c A H1 locs1 cells slots ad sl C hc hs ⟨hP1, hD1, hS1, ecl⟩ lv (xa_oks_t (xa_oks_t ok))))
  · exact va_putN (cl := K.2.1) (A := A) C.1 C.2.1 (C.ts args) hk.2.1 ty0 hk.2.2.1 hk.2.2.2 C.o C.k rp.1 rp.2.1 rp.2.2.1 a hw hk.1 k0 hkN (C.ts args _ hl) (fun _ q => q) hfin ((hk.2.2.1 k0 hkN).trans (congrArg some hty)) (hfit _ _).1 (hfit _ _).2 (by rw [List.length_map]; exact hl0) hd (fun H1 locs1 hP1 hD1 hS1 => by
      rw [eset] at hP1 hD1
      exact (k p e R s m args below meth c A H1 locs1 cells slots ad sl C hc hs ⟨hP1, hD1, hS1, ecl⟩ lv (xa_oks_t (xa_oks_t ok))))
set_option maxHeartbeats 2000000 in
theorem xs_putF : xr_putF K (xa_W l K Z) := by
  intro d y pc ls st h mc ms Q n' i ci k0 ty a fs v hd hf hin hh hl0 hfit k p e R s m args below meth c A H locs cells slots ad sl C hc hs rp lv ok
  obtain ⟨hd, rfl⟩ := hd
  have ha : a < h.1 := ok _ (List.mem_cons_of_mem _ List.mem_cons_self) a rfl
  have hw := xa_w_get (tys := Z.2.1) (tb := Z.2.2.1) (ad := ad) ha
  rw [hh] at hw
  have hokv : xa_ok h.1 v := xa_oks_h ok
  have hcl := rp.2.2.2
  have ecl : ∀ i, i < h.1 → xa_okE h.1 (xa_up h.2 a (.inr (ci, fs.set k0 v)) i) := fun i hi => by
    by_cases e : i = a
    · rw [e, xa_up_s]
      intro w hw
      rcases List.mem_or_eq_of_mem_set hw with q | q
      · have := hcl a ha
        rw [hh] at this
        exact this w q
      · rw [q]; exact hokv
    · rw [xa_up_n _ _ e]; exact hcl i hi
  have eset : (xa_w Z.2.1 Z.2.2.1 ad h).set a (ad a, .inr (ci, (fs.map (xa_tr Z.2.2.1 ad)).set k0 (xa_tr Z.2.2.1 ad v))) = xa_w Z.2.1 Z.2.2.1 ad (h.1, xa_up h.2 a (.inr (ci, fs.set k0 v))) := by
    rw [← xa_w_set]
    show _ = (xa_w Z.2.1 Z.2.2.1 ad h).set a (ad a, .inr (ci, (fs.set k0 v).map (xa_tr Z.2.2.1 ad)))
    rw [List.map_set]
  obtain ⟨Cn, T, N, ty0, hk, hkN, hty, hfin, hdec, hl⟩ := hf
  exact va_putF (cl := K.2.1) (A := A) C.1 C.2.1 (C.ts args) hk.2.1 ty0 hk.2.2.1 hk.2.2.2 C.o C.k rp.1 rp.2.1 rp.2.2.1 a hw hk.1 k0 hkN (C.ts args _ hl) (fun _ q => q) hfin (C.2.2.2.2.2.1.trans hin) hdec ((hk.2.2.1 k0 hkN).trans (congrArg some hty)) (hfit _ _).1 (hfit _ _).2 (by rw [List.length_map]; exact hl0) hd (fun H1 locs1 hP1 hD1 hS1 => by
      rw [eset] at hP1 hD1
      exact (k p e R s m args below meth c A H1 locs1 cells slots ad sl C hc hs ⟨hP1, hD1, hS1, ecl⟩ lv (xa_oks_t (xa_oks_t ok))))
set_option maxHeartbeats 2000000 in
theorem xs_iaload : xr_iaload K (xa_W l K Z) := by
  intro d y pc ls st h mc ms Q n' a n f i hd hh hi k p e R s m args below meth c A H locs cells slots ad sl C hc hs rp lv ok
  obtain ⟨hd, rfl⟩ := hd
  have ha : a < h.1 := ok _ (List.mem_cons_of_mem _ List.mem_cons_self) a rfl
  have hw := xa_w_get (tys := Z.2.1) (tb := Z.2.2.1) (ad := ad) ha
  rw [hh] at hw
  exact va_iald (cl := K.2.1) C.1 C.2.1 C.k rp.1 a 0 hw (C.ty rfl) hi hd (k p e R s m args below meth c A H locs cells slots ad sl C hc hs rp lv (xa_oks_c (fun _ q => by cases q) (xa_oks_t (xa_oks_t ok))))
set_option maxHeartbeats 2000000 in
theorem xs_baload : xr_baload K (xa_W l K Z) := by
  intro d y pc ls st h mc ms Q n' a n f i hd hh hi k p e R s m args below meth c A H locs cells slots ad sl C hc hs rp lv ok
  obtain ⟨hd, rfl⟩ := hd
  have ha : a < h.1 := ok _ (List.mem_cons_of_mem _ List.mem_cons_self) a rfl
  have hw := xa_w_get (tys := Z.2.1) (tb := Z.2.2.1) (ad := ad) ha
  rw [hh] at hw
  exact va_zald (cl := K.2.1) C.1 C.2.1 C.k rp.1 a 1 hw (C.ty rfl) hi hd (k p e R s m args below meth c A H locs cells slots ad sl C hc hs rp lv (xa_oks_c (fun _ q => by cases q) (xa_oks_t (xa_oks_t ok))))
set_option maxHeartbeats 2000000 in
theorem xs_laload : xr_laload K (xa_W l K Z) := by
  intro d y pc ls st h mc ms Q n' a n f i hd hh hi k p e R s m args below meth c A H locs cells slots ad sl C hc hs rp lv ok
  obtain ⟨hd, rfl⟩ := hd
  have ha : a < h.1 := ok _ (List.mem_cons_of_mem _ List.mem_cons_self) a rfl
  have hw := xa_w_get (tys := Z.2.1) (tb := Z.2.2.1) (ad := ad) ha
  rw [hh] at hw
  exact va_lald (cl := K.2.1) C.1 C.2.1 C.k rp.1 a 2 hw (C.ty rfl) hi hd (k p e R s m args below meth c A H locs cells slots ad sl C hc hs rp lv (xa_oks_c (fun _ q => by cases q) (xa_oks_t (xa_oks_t ok))))
set_option maxHeartbeats 2000000 in
theorem xs_aaload : xr_aaload K (xa_W l K Z) := by
  intro d y pc ls st h mc ms Q n' a n f i b hd hh hi hb k p e R s m args below meth c A H locs cells slots ad sl C hc hs rp lv ok
  obtain ⟨hd, rfl⟩ := hd
  have ha : a < h.1 := ok _ (List.mem_cons_of_mem _ List.mem_cons_self) a rfl
  have hw := xa_w_get (tys := Z.2.1) (tb := Z.2.2.1) (ad := ad) ha
  rw [hh] at hw
  have hok : xa_ok h.1 (.ref b) := by
    have := rp.2.2.2 a ha
    rw [hh] at this
    exact xa_ok_r (this _ _ hb)
  refine va_aldq (cl := K.2.1) C.1 C.2.1 C.k rp.1 a 3 hw (C.ty rfl) hi hd ?_
  show W p l e R s m args below meth c H locs cells slots _ (F0 m (pc + 1) sl (va_rf ((f i.toNatClampNeg).map ad) :: st.map (xa_tr Z.2.2.1 ad)))
  rw [hb]
  exact (k p e R s m args below meth c A H locs cells slots ad sl C hc hs rp lv (xa_oks_c hok (xa_oks_t (xa_oks_t ok))))
set_option maxHeartbeats 2000000 in
theorem xs_iastore : xr_iastore K (xa_W l K Z) := by
  intro d y pc ls st h mc ms Q n' a n f i x hd hh hi k p e R s m args below meth c A H locs cells slots ad sl C hc hs rp lv ok
  obtain ⟨hd, rfl⟩ := hd
  have ha : a < h.1 := ok _ (List.mem_cons_of_mem _ (List.mem_cons_of_mem _ List.mem_cons_self)) a rfl
  have hw := xa_w_get (tys := Z.2.1) (tb := Z.2.2.1) (ad := ad) ha
  rw [hh] at hw
  have hcl := rp.2.2.2
  have ecl : ∀ j, j < h.1 → xa_okE h.1 (xa_up h.2 a (.inl (0, n, .inl (upd f i.toNatClampNeg x))) j) := fun j hj => by
    by_cases e : j = a
    · rw [e, xa_up_s]; trivial
    · rw [xa_up_n _ _ e]; exact hcl j hj
  exact va_iast (cl := K.2.1) (A := A) C.1 C.2.1 C.k rp.1 rp.2.1 rp.2.2.1 a 0 hw (C.ty rfl) hi hd (fun H1 locs1 hP1 hD1 hS1 => by
    have eset : (xa_w Z.2.1 Z.2.2.1 ad h).set a (ad a, .inl ((Z.2.1.getD 0 (0, .int)).1, n, .inl (upd f i.toNatClampNeg x))) = xa_w Z.2.1 Z.2.2.1 ad (h.1, xa_up h.2 a (.inl (0, n, .inl (upd f i.toNatClampNeg x)))) := by
      rw [← xa_w_set]; rfl
    rw [eset] at hP1 hD1
    exact (k p e R s m args below meth c A H1 locs1 cells slots ad sl C hc hs ⟨hP1, hD1, hS1, ecl⟩ lv (xa_oks_t (xa_oks_t (xa_oks_t ok)))))
set_option maxHeartbeats 2000000 in
theorem xs_bastore : xr_bastore K (xa_W l K Z) := by
  intro d y pc ls st h mc ms Q n' a n f i x hd hh hi k p e R s m args below meth c A H locs cells slots ad sl C hc hs rp lv ok
  obtain ⟨hd, rfl⟩ := hd
  have ha : a < h.1 := ok _ (List.mem_cons_of_mem _ (List.mem_cons_of_mem _ List.mem_cons_self)) a rfl
  have hw := xa_w_get (tys := Z.2.1) (tb := Z.2.2.1) (ad := ad) ha
  rw [hh] at hw
  have hcl := rp.2.2.2
  have ecl : ∀ j, j < h.1 → xa_okE h.1 (xa_up h.2 a (.inl (1, n, .inl (upd f i.toNatClampNeg (vp_nar .boolean x)))) j) := fun j hj => by
    by_cases e : j = a
    · rw [e, xa_up_s]; trivial
    · rw [xa_up_n _ _ e]; exact hcl j hj
  exact va_zast (cl := K.2.1) (A := A) C.1 C.2.1 C.k rp.1 rp.2.1 rp.2.2.1 a 1 hw (C.ty rfl) hi hd (fun H1 locs1 hP1 hD1 hS1 => by
    have eset : (xa_w Z.2.1 Z.2.2.1 ad h).set a (ad a, .inl ((Z.2.1.getD 1 (0, .int)).1, n, .inl (upd f i.toNatClampNeg (vp_nar .boolean x)))) = xa_w Z.2.1 Z.2.2.1 ad (h.1, xa_up h.2 a (.inl (1, n, .inl (upd f i.toNatClampNeg (vp_nar .boolean x))))) := by
      rw [← xa_w_set]; rfl
    rw [eset] at hP1 hD1
    exact (k p e R s m args below meth c A H1 locs1 cells slots ad sl C hc hs ⟨hP1, hD1, hS1, ecl⟩ lv (xa_oks_t (xa_oks_t (xa_oks_t ok)))))
set_option maxHeartbeats 2000000 in
theorem xs_lastore : xr_lastore K (xa_W l K Z) := by
  intro d y pc ls st h mc ms Q n' a n f i x hd hh hi k p e R s m args below meth c A H locs cells slots ad sl C hc hs rp lv ok
  obtain ⟨hd, rfl⟩ := hd
  have ha : a < h.1 := ok _ (List.mem_cons_of_mem _ (List.mem_cons_of_mem _ List.mem_cons_self)) a rfl
  have hw := xa_w_get (tys := Z.2.1) (tb := Z.2.2.1) (ad := ad) ha
  rw [hh] at hw
  have hcl := rp.2.2.2
  have ecl : ∀ j, j < h.1 → xa_okE h.1 (xa_up h.2 a (.inl (2, n, .inr (.inl (vp_updL f i.toNatClampNeg x)))) j) := fun j hj => by
    by_cases e : j = a
    · rw [e, xa_up_s]; trivial
    · rw [xa_up_n _ _ e]; exact hcl j hj
  exact va_last (cl := K.2.1) (A := A) C.1 C.2.1 C.k rp.1 rp.2.1 rp.2.2.1 a 2 hw (C.ty rfl) hi hd (fun H1 locs1 hP1 hD1 hS1 => by
    have eset : (xa_w Z.2.1 Z.2.2.1 ad h).set a (ad a, .inl ((Z.2.1.getD 2 (0, .int)).1, n, .inr (.inl (vp_updL f i.toNatClampNeg x)))) = xa_w Z.2.1 Z.2.2.1 ad (h.1, xa_up h.2 a (.inl (2, n, .inr (.inl (vp_updL f i.toNatClampNeg x))))) := by
      rw [← xa_w_set]; rfl
    rw [eset] at hP1 hD1
    exact (k p e R s m args below meth c A H1 locs1 cells slots ad sl C hc hs ⟨hP1, hD1, hS1, ecl⟩ lv (xa_oks_t (xa_oks_t (xa_oks_t ok)))))
set_option maxHeartbeats 2000000 in
theorem xs_aastore : xr_aastore K (xa_W l K Z) := by
  intro d y pc ls st h mc ms Q n' a n f i b ci fs hd hh hi hb hg k p e R s m args below meth c A H locs cells slots ad sl C hc hs rp lv ok
  obtain ⟨hd, rfl⟩ := hd
  have hb1 : b < h.1 := ok _ List.mem_cons_self b rfl
  have ha : a < h.1 := ok _ (List.mem_cons_of_mem _ (List.mem_cons_of_mem _ List.mem_cons_self)) a rfl
  have hw := xa_w_get (tys := Z.2.1) (tb := Z.2.2.1) (ad := ad) ha
  rw [hh] at hw
  have hwb := xa_w_get (tys := Z.2.1) (tb := Z.2.2.1) (ad := ad) hb1
  rw [hb] at hwb
  have hcl := rp.2.2.2
  have ecl : ∀ j, j < h.1 → xa_okE h.1 (xa_up h.2 a (.inl (3, n, .inr (.inr (.inr (.inr (va_up f i.toNatClampNeg (some b))))))) j) := fun j hj => by
    by_cases e : j = a
    · rw [e, xa_up_s]
      intro j2 a2 q
      have h9 := hcl a ha
      rw [hh] at h9
      by_cases e2 : j2 = i.toNatClampNeg
      · rw [e2, va_up_self] at q
        cases q
        exact hb1
      · rw [va_up_ne _ _ e2] at q
        exact h9 _ _ q
    · rw [xa_up_n _ _ e]; exact hcl j hj
  obtain ⟨T, N, hg⟩ := hg
  exact va_astq (cl := K.2.1) (A := A) (r := (K.2.2.2.2.2, T, N)) C.1 C.2.1 C.k rp.1 rp.2.1 rp.2.2.1 a 3 b ci hw (C.ty rfl) hwb hg hi hd (fun H1 locs1 hP1 hD1 hS1 => by
    have efun : va_up (fun j => (f j).map ad) i.toNatClampNeg (some (ad b)) = fun j => (va_up f i.toNatClampNeg (some b) j).map ad := by
      funext j
      by_cases e : j = i.toNatClampNeg
      · rw [e, va_up_self, va_up_self]; rfl
      · rw [va_up_ne _ _ e, va_up_ne _ _ e]
    have eset : (xa_w Z.2.1 Z.2.2.1 ad h).set a (ad a, .inl ((Z.2.1.getD 3 (0, .int)).1, n, .inr (.inr (.inr (.inr (va_up (fun j => (f j).map ad) i.toNatClampNeg (some (ad b)))))))) = xa_w Z.2.1 Z.2.2.1 ad (h.1, xa_up h.2 a (.inl (3, n, .inr (.inr (.inr (.inr (va_up f i.toNatClampNeg (some b)))))))) := by
      rw [← xa_w_set, efun]; rfl
    rw [eset] at hP1 hD1
    exact (k p e R s m args below meth c A H1 locs1 cells slots ad sl C hc hs ⟨hP1, hD1, hS1, ecl⟩ lv (xa_oks_t (xa_oks_t (xa_oks_t ok)))))
set_option maxHeartbeats 2000000 in
theorem xs_tload : xr_tload K Z.2.2.2 (xa_W l K Z) := by
  intro d y pc ls st h mc ms Q n' j i hd hj hi k p e R s m args below meth c A H locs cells slots ad sl C hc hs rp lv ok
  obtain ⟨hd, rfl⟩ := hd
  exact va_ti C.1 C.2.1 (C.g.2.2.2.1 j hj) rp.2.2.1 hi rfl hd (k p e R s m args below meth c A H locs cells slots ad sl C hc hs rp lv (xa_oks_i (xa_oks_t (xa_oks_t ok))))
set_option maxHeartbeats 2000000 in
theorem xs_tlen : xr_tlen K Z.2.2.2 (xa_W l K Z) := by
  intro d y pc ls st h mc ms Q n' j v hd hj hv k p e R s m args below meth c A H locs cells slots ad sl C hc hs rp lv ok
  obtain ⟨hd, rfl⟩ := hd
  exact va_tlen C.1 C.2.1 (C.g.2.2.2.1 j hj) rp.2.2.1 hv hd (k p e R s m args below meth c A H locs cells slots ad sl C hc hs rp lv (xa_oks_i (xa_oks_t ok)))
set_option maxHeartbeats 2000000 in
theorem xs_gets : xr_gets K (xa_W l K Z) := by
  intro d y pc ls st h mc ms Q n' i hd hl k p e R s m args below meth c A H locs cells slots ad sl C hc hs rp lv ok
  obtain ⟨hd, rfl⟩ := hd
  rcases hl with hl | ⟨host, hl⟩
  · exact va_gets C.1 C.2.1 C.g.2.2.2.2 rp.2.2.1 C.o (C.ts args _ hl) (fun _ q => q) hd (k p e R s m args below meth c A H locs cells slots ad sl C hc hs rp lv (xa_oks_c xa_ok_t ok))
  · exact va_getsN C.1 C.2.1 C.g.2.2.2.2 rp.2.2.1 C.o (C.ts args _ hl) (fun _ q => q) hd (k p e R s m args below meth c A H locs cells slots ad sl C hc hs rp lv (xa_oks_c xa_ok_t ok))
set_option maxHeartbeats 2000000 in
theorem xs_iret : xr_iret K (xa_W l K Z) := by
  intro d y pc ls st h mc ms Q n' v ty hd hr hn hq p e R s m args below meth c A H locs cells slots ad sl C hc hs rp lv ok
  obtain ⟨hd, rfl⟩ := hd
  exact xa_post (xa_end C hc hs rp (v := some (.int v)) hq (fun w e => by cases e; exact xa_ok_i)) (W.zret (Qc := fun _ _ o t => o = .returned (some (.int v)) ∧ t.heap = H) (free := A) C.1 C.2.1 (C.2.2.2.1.trans hr) hn (fun t ht _ => ⟨rfl, ht⟩) rp.2.2.1.2.2 hd C.l)
set_option maxHeartbeats 2000000 in
theorem xs_vret : xr_vret K (xa_W l K Z) := by
  intro d y pc ls st h mc ms Q n' hd hr hq p e R s m args below meth c A H locs cells slots ad sl C hc hs rp lv ok
  obtain ⟨hd, rfl⟩ := hd
  exact xa_post (xa_end C hc hs rp (v := none) hq (fun w e => by cases e)) (W.vret (Qc := fun _ _ o t => o = .returned none ∧ t.heap = H) (free := A) C.1 C.2.1 (C.2.2.2.1.trans hr) (fun t ht _ => ⟨rfl, ht⟩) rp.2.2.1.2.2 hd C.l)
set_option maxHeartbeats 2000000 in
theorem xs_aret : xr_aret K (xa_W l K Z) := by
  intro d y pc ls st h mc ms Q n' a ty hd hr hty hq p e R s m args below meth c A H locs cells slots ad sl C hc hs rp lv ok
  obtain ⟨hd, rfl⟩ := hd
  exact xa_post (xa_end C hc hs rp (v := some (.ref a)) hq (fun w e => by cases e; exact xa_oks_h ok)) (W.aret (Qc := fun _ _ o t => o = .returned (some (.ref (ad a))) ∧ t.heap = H) (free := A) C.1 C.2.1 (C.2.2.2.1.trans hr) hty (Or.inr ⟨_, rfl⟩) (fun t ht _ => ⟨rfl, ht⟩) rp.2.2.1.2.2 hd C.l)
set_option maxHeartbeats 2000000 in
theorem xs_oinit : xr_oinit K (xa_W l K Z) := by
  intro d y pc ls st h mc ms Q n' i a hd h1 h2 h3 hw k p e R s m args below meth c A H locs cells slots ad sl C hc hs rp lv ok
  obtain ⟨hd, rfl⟩ := hd
  refine W.objInit C.1 C.2.1 C.o (C.ts args _ h1) (C.ts args _ h2) (C.ts args _ h3) rfl (lv.1.1.trans C.2.2.1.symm) rfl hd (by have := C.rm.1; omega) (by have := C.rm.2; rw [xa_sum]; simp only [JFrame.monitorRoom]; omega) ?_
  exact (k p e R s m args below meth c A H locs cells slots ad sl C hc hs rp lv (xa_oks_t ok))
set_option maxHeartbeats 2000000 in
theorem xs_new : xr_new K (xa_W l K Z) := by
  intro d y pc ls st h mc ms Q n' i ci N fs hd hn k p e R s m args below meth c A H locs cells slots ad sl C hc hs rp lv ok
  obtain ⟨hd, rfl⟩ := hd
  obtain ⟨Cn, T, ty0, hk, hcl, hinst, hini, hfs, hnr⟩ := hn
  refine xa_post (fun t q => q) (va_new (cl := K.2.1) (A := A) C.1 C.2.1 (C.ts args) hk.2.1 ty0 hk.2.2.1 C.o (C.ts args _ hcl) (C.ts args _ hinst) (C.ts args _ hini) C.k rp.1 rp.2.1 rp.2.2.1 C.a hk.1 hfs (by omega) (by omega) hd (fun q H1 hP1 hD1 hS1 => ?_))
  have e1 : fs.map (xa_tr Z.2.2.1 (xa_up ad h.1 q)) = fs := xa_norefs hnr
  have ew := xa_w_push (tys := Z.2.1) (tb := Z.2.2.1) (ad := ad) (h := h) (q := q) (e := .inr (ci, fs)) rp.2.2.2
  rw [show xa_trE Z.2.1 Z.2.2.1 (xa_up ad h.1 q) (.inr (ci, fs)) = .inr (ci, fs) from congrArg (fun z => (Sum.inr (ci, z) : va_E)) e1] at ew
  rw [ew] at hP1 hD1
  have hag : ∀ j, j < h.1 → xa_up ad h.1 q j = ad j := fun j hj => xa_up_n ad q (Nat.ne_of_lt hj)
  refine xa_post (fun t z => xa_E.m (ad := ad) (n := h.1) (Nat.le_succ _) hag (xa_E.c (mc' := cells + 1 + mc) (ms' := slots + N + ms) (by omega) (by omega) z)) ?_
  have kk := k p e R s m args below meth c A H1 locs (cells + 1) (slots + N) (xa_up ad h.1 q) sl C (by omega) (by omega) ⟨hP1, hD1, hS1, xa_okpush rp.2.2.2 (fun v hv => xa_ok_of_norefs hnr v hv)⟩ (xa_lv_m lv (Nat.le_succ _) hag) (xa_oks_c (xa_ok_r (Nat.lt_succ_self _)) (xa_oks_m (Nat.le_succ _) ok))
  have e2 : (Value.ref h.1 :: st).map (xa_tr Z.2.2.1 (xa_up ad h.1 q)) = .ref q :: st.map (xa_tr Z.2.2.1 ad) := by
    show Value.ref (xa_up ad h.1 q h.1) :: st.map (xa_tr Z.2.2.1 (xa_up ad h.1 q)) = _
    rw [xa_up_s, xa_trs_ag hag ok]
  rw [e2] at kk
  exact kk
set_option maxHeartbeats 2000000 in
theorem xs_newI : xr_newI K (xa_W l K Z) := by
  intro d y pc ls st h mc ms Q n' n N hd hw hn0 hN hb k p e R s m args below meth c A H locs cells slots ad sl C hc hs rp lv ok
  obtain ⟨hd, rfl⟩ := hd
  have hty := C.ty (t := 0) rfl
  refine va_newaK C.1 C.2.1 (atype := .int) (C.ts args _ hw) rfl hd rfl hn0 hN hb (by omega) (by omega) rfl (fun H1 cA e1 z1 o1 hAr hNm => ?_)
  have ecA : cA = (Z.2.1.getD 0 (0, .int)).1 := Option.some.inj (hNm.symm.trans (C.k.2 0 _ hty).2)
  have hk9 : ∀ (j : Nat) (x : Nat × va_E), (xa_w Z.2.1 Z.2.2.1 ad h)[j]? = some x → H1[x.1]? = H[x.1]? := fun j x hx => o1 x.1 ((rp.1 j x hx).lt)
  have hP1 : va_P Z.1 K.2.1 (xa_w Z.2.1 Z.2.2.1 ad h ++ [(H.size, .inl (cA, N, .inl (fun _ => 0)))]) H1 := (rp.1.kept hk9).app (fun j x hx => by
    have hz : j < 1 := (List.getElem?_eq_some_iff.mp hx).1
    rw [show j = 0 by omega] at hx
    cases hx
    show H1[H.size]? = some (vp_cell cA (N, .inl (fun _ => 0)))
    rw [e1]; rfl)
  have hD1 : va_D A (xa_w Z.2.1 Z.2.2.1 ad h ++ [(H.size, .inl (cA, N, .inl (fun _ => 0)))]) := rp.2.1.push rp.1 rfl (C.a _ rp.2.2.1.1)
  have hS1 : va_S A s.heap H1 locs := ⟨Nat.le_trans rp.2.2.1.1 (by omega), fun x h1 h2 => (o1 x (Nat.lt_of_lt_of_le h1 rp.2.2.1.1)).trans (rp.2.2.1.2.1 x h1 h2), rp.2.2.1.2.2⟩
  have ew := xa_w_push (tys := Z.2.1) (tb := Z.2.2.1) (ad := ad) (h := h) (q := H.size) (e := .inl (0, N, .inl (fun _ => 0))) rp.2.2.2
  rw [show xa_trE Z.2.1 Z.2.2.1 (xa_up ad h.1 H.size) (.inl (0, N, .inl (fun _ => 0))) = .inl (cA, N, .inl (fun _ => 0)) by rw [ecA]; rfl] at ew
  rw [ew] at hP1 hD1
  have hag : ∀ j, j < h.1 → xa_up ad h.1 H.size j = ad j := fun j hj => xa_up_n ad H.size (Nat.ne_of_lt hj)
  refine xa_post (fun t z => xa_E.m (ad := ad) (n := h.1) (Nat.le_succ _) hag (xa_E.c (mc' := cells + 1 + mc) (ms' := slots + N + ms) (by omega) (by omega) z)) ?_
  have kk := k p e R s m args below meth c A H1 locs (cells + 1) (slots + N) (xa_up ad h.1 H.size) sl C (by omega) (by omega) ⟨hP1, hD1, hS1, xa_okpushA rp.2.2.2 trivial⟩ (xa_lv_m lv (Nat.le_succ _) hag) (xa_oks_c (xa_ok_r (Nat.lt_succ_self _)) (xa_oks_m (Nat.le_succ _) (xa_oks_t ok)))
  have e2 : (Value.ref h.1 :: st).map (xa_tr Z.2.2.1 (xa_up ad h.1 H.size)) = .ref H.size :: st.map (xa_tr Z.2.2.1 ad) := by
    show Value.ref (xa_up ad h.1 H.size h.1) :: st.map (xa_tr Z.2.2.1 (xa_up ad h.1 H.size)) = _
    rw [xa_up_s, xa_trs_ag hag (xa_oks_t ok)]
  rw [e2] at kk
  exact kk
set_option maxHeartbeats 2000000 in
theorem xs_newZ : xr_newZ K (xa_W l K Z) := by
  intro d y pc ls st h mc ms Q n' n N hd hw hn0 hN hb k p e R s m args below meth c A H locs cells slots ad sl C hc hs rp lv ok
  obtain ⟨hd, rfl⟩ := hd
  have hty := C.ty (t := 1) rfl
  refine va_newaK C.1 C.2.1 (atype := .boolean) (C.ts args _ hw) rfl hd rfl hn0 hN hb (by omega) (by omega) rfl (fun H1 cA e1 z1 o1 hAr hNm => ?_)
  have ecA : cA = (Z.2.1.getD 1 (0, .int)).1 := Option.some.inj (hNm.symm.trans (C.k.2 1 _ hty).2)
  have hk9 : ∀ (j : Nat) (x : Nat × va_E), (xa_w Z.2.1 Z.2.2.1 ad h)[j]? = some x → H1[x.1]? = H[x.1]? := fun j x hx => o1 x.1 ((rp.1 j x hx).lt)
  have hP1 : va_P Z.1 K.2.1 (xa_w Z.2.1 Z.2.2.1 ad h ++ [(H.size, .inl (cA, N, .inl (fun _ => 0)))]) H1 := (rp.1.kept hk9).app (fun j x hx => by
    have hz : j < 1 := (List.getElem?_eq_some_iff.mp hx).1
    rw [show j = 0 by omega] at hx
    cases hx
    show H1[H.size]? = some (vp_cell cA (N, .inl (fun _ => 0)))
    rw [e1]; rfl)
  have hD1 : va_D A (xa_w Z.2.1 Z.2.2.1 ad h ++ [(H.size, .inl (cA, N, .inl (fun _ => 0)))]) := rp.2.1.push rp.1 rfl (C.a _ rp.2.2.1.1)
  have hS1 : va_S A s.heap H1 locs := ⟨Nat.le_trans rp.2.2.1.1 (by omega), fun x h1 h2 => (o1 x (Nat.lt_of_lt_of_le h1 rp.2.2.1.1)).trans (rp.2.2.1.2.1 x h1 h2), rp.2.2.1.2.2⟩
  have ew := xa_w_push (tys := Z.2.1) (tb := Z.2.2.1) (ad := ad) (h := h) (q := H.size) (e := .inl (1, N, .inl (fun _ => 0))) rp.2.2.2
  rw [show xa_trE Z.2.1 Z.2.2.1 (xa_up ad h.1 H.size) (.inl (1, N, .inl (fun _ => 0))) = .inl (cA, N, .inl (fun _ => 0)) by rw [ecA]; rfl] at ew
  rw [ew] at hP1 hD1
  have hag : ∀ j, j < h.1 → xa_up ad h.1 H.size j = ad j := fun j hj => xa_up_n ad H.size (Nat.ne_of_lt hj)
  refine xa_post (fun t z => xa_E.m (ad := ad) (n := h.1) (Nat.le_succ _) hag (xa_E.c (mc' := cells + 1 + mc) (ms' := slots + N + ms) (by omega) (by omega) z)) ?_
  have kk := k p e R s m args below meth c A H1 locs (cells + 1) (slots + N) (xa_up ad h.1 H.size) sl C (by omega) (by omega) ⟨hP1, hD1, hS1, xa_okpushA rp.2.2.2 trivial⟩ (xa_lv_m lv (Nat.le_succ _) hag) (xa_oks_c (xa_ok_r (Nat.lt_succ_self _)) (xa_oks_m (Nat.le_succ _) (xa_oks_t ok)))
  have e2 : (Value.ref h.1 :: st).map (xa_tr Z.2.2.1 (xa_up ad h.1 H.size)) = .ref H.size :: st.map (xa_tr Z.2.2.1 ad) := by
    show Value.ref (xa_up ad h.1 H.size h.1) :: st.map (xa_tr Z.2.2.1 (xa_up ad h.1 H.size)) = _
    rw [xa_up_s, xa_trs_ag hag (xa_oks_t ok)]
  rw [e2] at kk
  exact kk
set_option maxHeartbeats 2000000 in
theorem xs_newL : xr_newL K (xa_W l K Z) := by
  intro d y pc ls st h mc ms Q n' n N hd hw hn0 hN hb k p e R s m args below meth c A H locs cells slots ad sl C hc hs rp lv ok
  obtain ⟨hd, rfl⟩ := hd
  have hty := C.ty (t := 2) rfl
  refine va_newaK C.1 C.2.1 (atype := .long) (C.ts args _ hw) rfl hd rfl hn0 hN hb (by omega) (by omega) rfl (fun H1 cA e1 z1 o1 hAr hNm => ?_)
  have ecA : cA = (Z.2.1.getD 2 (0, .int)).1 := Option.some.inj (hNm.symm.trans (C.k.2 2 _ hty).2)
  have hk9 : ∀ (j : Nat) (x : Nat × va_E), (xa_w Z.2.1 Z.2.2.1 ad h)[j]? = some x → H1[x.1]? = H[x.1]? := fun j x hx => o1 x.1 ((rp.1 j x hx).lt)
  have hP1 : va_P Z.1 K.2.1 (xa_w Z.2.1 Z.2.2.1 ad h ++ [(H.size, .inl (cA, N, .inr (.inl (fun _ => 0))))]) H1 := (rp.1.kept hk9).app (fun j x hx => by
    have hz : j < 1 := (List.getElem?_eq_some_iff.mp hx).1
    rw [show j = 0 by omega] at hx
    cases hx
    show H1[H.size]? = some (vp_cell cA (N, .inr (.inl (fun _ => 0))))
    rw [e1]; rfl)
  have hD1 : va_D A (xa_w Z.2.1 Z.2.2.1 ad h ++ [(H.size, .inl (cA, N, .inr (.inl (fun _ => 0))))]) := rp.2.1.push rp.1 rfl (C.a _ rp.2.2.1.1)
  have hS1 : va_S A s.heap H1 locs := ⟨Nat.le_trans rp.2.2.1.1 (by omega), fun x h1 h2 => (o1 x (Nat.lt_of_lt_of_le h1 rp.2.2.1.1)).trans (rp.2.2.1.2.1 x h1 h2), rp.2.2.1.2.2⟩
  have ew := xa_w_push (tys := Z.2.1) (tb := Z.2.2.1) (ad := ad) (h := h) (q := H.size) (e := .inl (2, N, .inr (.inl (fun _ => 0)))) rp.2.2.2
  rw [show xa_trE Z.2.1 Z.2.2.1 (xa_up ad h.1 H.size) (.inl (2, N, .inr (.inl (fun _ => 0)))) = .inl (cA, N, .inr (.inl (fun _ => 0))) by rw [ecA]; rfl] at ew
  rw [ew] at hP1 hD1
  have hag : ∀ j, j < h.1 → xa_up ad h.1 H.size j = ad j := fun j hj => xa_up_n ad H.size (Nat.ne_of_lt hj)
  refine xa_post (fun t z => xa_E.m (ad := ad) (n := h.1) (Nat.le_succ _) hag (xa_E.c (mc' := cells + 1 + mc) (ms' := slots + N + ms) (by omega) (by omega) z)) ?_
  have kk := k p e R s m args below meth c A H1 locs (cells + 1) (slots + N) (xa_up ad h.1 H.size) sl C (by omega) (by omega) ⟨hP1, hD1, hS1, xa_okpushA rp.2.2.2 trivial⟩ (xa_lv_m lv (Nat.le_succ _) hag) (xa_oks_c (xa_ok_r (Nat.lt_succ_self _)) (xa_oks_m (Nat.le_succ _) (xa_oks_t ok)))
  have e2 : (Value.ref h.1 :: st).map (xa_tr Z.2.2.1 (xa_up ad h.1 H.size)) = .ref H.size :: st.map (xa_tr Z.2.2.1 ad) := by
    show Value.ref (xa_up ad h.1 H.size h.1) :: st.map (xa_tr Z.2.2.1 (xa_up ad h.1 H.size)) = _
    rw [xa_up_s, xa_trs_ag hag (xa_oks_t ok)]
  rw [e2] at kk
  exact kk
set_option maxHeartbeats 2000000 in
theorem xs_newQ : xr_newQ K (xa_W l K Z) := by
  intro d y pc ls st h mc ms Q n' i n N hd hw hw2 hn0 hN hb k p e R s m args below meth c A H locs cells slots ad sl C hc hs rp lv ok
  obtain ⟨hd, rfl⟩ := hd
  have hty := C.ty (t := 3) rfl
  refine va_newq (cl := K.2.1) (A := A) C.1 C.2.1 C.o (C.ts args _ hw) (va_AO.of (C.ts args _ hw2)) C.k rp.1 rp.2.1 rp.2.2.1 C.a hn0 hN hb (by omega) (by omega) hd (fun q cA H1 hK1 hP1 hD1 hS1 => ?_)
  have ecA : cA = (Z.2.1.getD 3 (0, .int)).1 := by
    have h1 := (hK1.2 Z.2.1.length (cA, .object K.2.2.2.2.2) (by simp)).2
    have h2 := (C.k.2 3 _ hty).2
    obtain ⟨_, _, _, _, _, h3⟩ := h1
    obtain ⟨_, _, _, _, _, h4⟩ := h2
    exact Option.some.inj (h3.symm.trans h4)
  have ew := xa_w_push (tys := Z.2.1) (tb := Z.2.2.1) (ad := ad) (h := h) (q := q) (e := .inl (3, N, .inr (.inr (.inr (.inr (fun _ => none)))))) rp.2.2.2
  rw [show xa_trE Z.2.1 Z.2.2.1 (xa_up ad h.1 q) (.inl (3, N, .inr (.inr (.inr (.inr (fun _ => none)))))) = .inl (cA, N, .inr (.inr (.inr (.inr (fun _ => none))))) by rw [ecA]; rfl] at ew
  rw [ew] at hP1 hD1
  have hag : ∀ j, j < h.1 → xa_up ad h.1 q j = ad j := fun j hj => xa_up_n ad q (Nat.ne_of_lt hj)
  refine xa_post (fun t z => xa_E.m (ad := ad) (n := h.1) (Nat.le_succ _) hag (xa_E.c (mc' := cells + 1 + mc) (ms' := slots + N + ms) (by omega) (by omega) z)) ?_
  have kk := k p e R s m args below meth c A H1 locs (cells + 1) (slots + N) (xa_up ad h.1 q) sl C (by omega) (by omega) ⟨hP1, hD1, hS1, xa_okpushA rp.2.2.2 (fun j a z => by cases z)⟩ (xa_lv_m lv (Nat.le_succ _) hag) (xa_oks_c (xa_ok_r (Nat.lt_succ_self _)) (xa_oks_m (Nat.le_succ _) (xa_oks_t ok)))
  have e2 : (Value.ref h.1 :: st).map (xa_tr Z.2.2.1 (xa_up ad h.1 q)) = .ref q :: st.map (xa_tr Z.2.2.1 ad) := by
    show Value.ref (xa_up ad h.1 q h.1) :: st.map (xa_tr Z.2.2.1 (xa_up ad h.1 q)) = _
    rw [xa_up_s, xa_trs_ag hag (xa_oks_t ok)]
  rw [e2] at kk
  exact kk
set_option maxHeartbeats 2000000 in
theorem xs_callV : xr_callV K (xa_W l K Z) := by
  intro d y pc ls st h mc ms Q n' i y' ci fs a As mc' ms' P hd hl hh hca hw hP k1 k2 p e R s m args below meth c A H locs cells slots ad sl C hc hs rp lv ok
  obtain ⟨hd, rfl⟩ := hd
  exact xa_sV hd hl hh hca hw hP k1 k2 C hc hs rp lv ok
set_option maxHeartbeats 2000000 in
theorem xs_callS : xr_callS K (xa_W l K Z) := by
  intro d y pc ls st h mc ms Q n' i y' As mc' ms' P hd hl hca hw hP k1 k2 p e R s m args below meth c A H locs cells slots ad sl C hc hs rp lv ok
  obtain ⟨hd, rfl⟩ := hd
  exact xa_sS hd hl hca hw hP k1 k2 C hc hs rp lv ok
set_option maxHeartbeats 2000000 in
theorem xs_callI : xr_callI K (xa_W l K Z) := by
  intro d y pc ls st h mc ms Q n' i y' a As mc' ms' P hd hl hca hw hP k1 k2 p e R s m args below meth c A H locs cells slots ad sl C hc hs rp lv ok
  obtain ⟨hd, rfl⟩ := hd
  exact xa_sI hd hl hca hw hP k1 k2 C hc hs rp lv ok
set_option maxHeartbeats 2000000 in
theorem xs_mmax : xr_mmax K (xa_W l K Z) := by
  intro d y pc ls st h mc ms Q n' i x z hd h1 h2 h3 h4 hw k p e R s m args below meth c A H locs cells slots ad sl C hc hs rp lv ok
  obtain ⟨hd, rfl⟩ := hd
  refine va_mmax C.1 C.2.1 (C.2.2.1.trans lv.1.1.symm) C.o (C.ts args _ h1) (C.ts args _ h2) (C.ts args _ h3) (C.ts args _ h4) (by have := C.rm.1; omega) (by have := C.rm.2; rw [xa_sum]; omega) (by omega) (by omega) hd ?_
  exact (k p e R s m args below meth c A H locs cells slots ad sl C hc hs rp lv (xa_oks_i (xa_oks_t (xa_oks_t ok))))
theorem xa_sound : xa_cl K Z.2.2.2 (xa_W l K Z) := ⟨xs_iconst, xs_bipush, xs_sipush, xs_ldc, xs_iload_n, xs_iload, xs_aload_n, xs_aload_nT, xs_aload, xs_aloadT, xs_istore_n, xs_istore, xs_astore_n, xs_astore, xs_iinc, xs_iadd, xs_isub, xs_imul, xs_iand, xs_ior, xs_ixor, xs_ishl, xs_ishr, xs_iushr, xs_idiv, xs_irem, xs_i2l, xs_lcmp, xs_dup, xs_pop, xs_dup2, xs_dup_x1, xs_if_eq, xs_if_ne, xs_if_lt, xs_if_ge, xs_if_gt, xs_if_le, xs_icmp_eq, xs_icmp_ne, xs_icmp_lt, xs_icmp_ge, xs_icmp_gt, xs_icmp_le, xs_goto, xs_tableOut, xs_tableIn, xs_lookup, xs_less, xs_wide, xs_get, xs_put, xs_putF, xs_iaload, xs_baload, xs_laload, xs_aaload, xs_iastore, xs_bastore, xs_lastore, xs_aastore, xs_tload, xs_tlen, xs_gets, xs_iret, xs_vret, xs_aret, xs_oinit, xs_new, xs_newI, xs_newZ, xs_newL, xs_newQ, xs_callV, xs_callS, xs_callI, xs_mmax⟩
end XSound
end
section
/-! A heap whose shape is fixed: its numbers alone change. -/
section XWorld
/-- what lies at an address: an object of the class ci, whose field is a number (none) or leads to a fixed cell; or an array: its type's number, its length -/
abbrev xl_S : Type := (Nat × List (Option Nat)) ⊕ (Nat × Nat)
/-- the numbers: fields (by address and place), arrays of numbers (by address and place), arrays of references, the law's own array -/
abbrev xl_V : Type := (Nat → Nat → Int32) × (Nat → Nat → Int32) × (Nat → Nat → Option Nat) × (Nat → Int64)
def xl_f (I : Nat → Int32) : List (Option Nat) → Nat → List Value
  | [], _ => []
  | none :: r, k => .int (I k) :: xl_f I r (k + 1)
  | some b :: r, k => .ref b :: xl_f I r (k + 1)
def xl_c (lay : List xl_S) (V : xl_V) (a : Nat) : va_E := match lay[a]? with
  | some (.inl (ci, fl)) => .inr (ci, xl_f (V.1 a) fl 0)
  | some (.inr (0, n)) => .inl (0, n, .inl (V.2.1 a))
  | some (.inr (1, n)) => .inl (1, n, .inl (V.2.1 a))
  | some (.inr (2, n)) => .inl (2, n, .inr (.inl V.2.2.2))
  | some (.inr (_, n)) => .inl (3, n, .inr (.inr (.inr (.inr (V.2.2.1 a)))))
  | none => .inr (0, [])
def xl_H (lay : List xl_S) (V : xl_V) : xa_H := (lay.length, xl_c lay V)
/-- a field set, an array's place set -/
def xl_i (V : xl_V) (a k : Nat) (x : Int32) : xl_V := (fun b j => if b = a ∧ j = k then x else V.1 b j, V.2)
def xl_a (V : xl_V) (a : Nat) (f : Nat → Int32) : xl_V := (V.1, xa_up V.2.1 a f, V.2.2)
def xl_g (V : xl_V) (a : Nat) (f : Nat → Option Nat) : xl_V := (V.1, V.2.1, xa_up V.2.2.1 a f, V.2.2.2)
def xl_o (V : xl_V) (f : Nat → Int64) : xl_V := (V.1, V.2.1, V.2.2.1, f)
theorem xl_f_get {I : Nat → Int32} : ∀ (fl : List (Option Nat)) (b k : Nat), fl[k]? = some none → (xl_f I fl b)[k]? = some (.int (I (b + k)))
  | [], b, k, h => by simp at h
  | o :: r, b, 0, h => by
    have e : o = none := by simpa using h
    subst e
    rfl
  | o :: r, b, k + 1, h => by
    have h1 : r[k]? = some none := by simpa using h
    have h2 := xl_f_get (I := I) r (b + 1) k h1
    have e : b + 1 + k = b + (k + 1) := by omega
    rw [e] at h2
    cases o <;> exact h2
theorem xl_f_getR {I : Nat → Int32} {x : Nat} : ∀ (fl : List (Option Nat)) (b k : Nat), fl[k]? = some (some x) → (xl_f I fl b)[k]? = some (.ref x)
  | [], b, k, h => by simp at h
  | o :: r, b, 0, h => by
    have e : o = some x := by simpa using h
    subst e
    rfl
  | o :: r, b, k + 1, h => by
    have h1 : r[k]? = some (some x) := by simpa using h
    have h2 := xl_f_getR (I := I) r (b + 1) k h1
    cases o <;> exact h2
theorem xl_f_len {I : Nat → Int32} : ∀ (fl : List (Option Nat)) (b : Nat), (xl_f I fl b).length = fl.length
  | [], _ => rfl
  | none :: r, b => by show (xl_f I r (b + 1)).length + 1 = _; rw [xl_f_len r (b + 1)]; rfl
  | some x :: r, b => by show (xl_f I r (b + 1)).length + 1 = _; rw [xl_f_len r (b + 1)]; rfl
theorem xl_f_cg {I J : Nat → Int32} : ∀ (fl : List (Option Nat)) (b : Nat), (∀ j, b ≤ j → I j = J j) → xl_f I fl b = xl_f J fl b
  | [], _, _ => rfl
  | none :: r, b, h => by
    show Value.int (I b) :: xl_f I r (b + 1) = .int (J b) :: xl_f J r (b + 1)
    rw [h b (Nat.le_refl b), xl_f_cg r (b + 1) (fun j hj => h j (by omega))]
  | some x :: r, b, h => by
    show Value.ref x :: xl_f I r (b + 1) = .ref x :: xl_f J r (b + 1)
    rw [xl_f_cg r (b + 1) (fun j hj => h j (by omega))]
theorem xl_f_set {I : Nat → Int32} {x : Int32} : ∀ (fl : List (Option Nat)) (b k : Nat), fl[k]? = some none → (xl_f I fl b).set k (.int x) = xl_f (fun j => if j = b + k then x else I j) fl b
  | [], b, k, h => by simp at h
  | o :: r, b, 0, h => by
    have e : o = none := by simpa using h
    subst e
    show Value.int x :: xl_f I r (b + 1) = .int (if b = b + 0 then x else I b) :: xl_f _ r (b + 1)
    rw [if_pos (Nat.add_zero b).symm]
    congr 1
    exact xl_f_cg r (b + 1) (fun j hj => (if_neg (by omega)).symm)
  | o :: r, b, k + 1, h => by
    have h1 : r[k]? = some none := by simpa using h
    have h2 := xl_f_set (I := I) (x := x) r (b + 1) k h1
    have e : b + 1 + k = b + (k + 1) := by omega
    rw [e] at h2
    cases o with
    | none =>
      show Value.int (I b) :: (xl_f I r (b + 1)).set k (.int x) = .int (if b = b + (k + 1) then x else I b) :: xl_f _ r (b + 1)
      rw [h2, if_neg (by omega)]
    | some z =>
      show Value.ref z :: (xl_f I r (b + 1)).set k (.int x) = .ref z :: xl_f _ r (b + 1)
      rw [h2]
theorem xl_put {lay : List xl_S} {V : xl_V} {a ci k : Nat} {fl : List (Option Nat)} {x : Int32} (ha : lay[a]? = some (.inl (ci, fl))) (hk : fl[k]? = some none) :
    ((xl_H lay V).1, xa_up (xl_H lay V).2 a (.inr (ci, (xl_f (V.1 a) fl 0).set k (.int x)))) = xl_H lay (xl_i V a k x) := by
  show (lay.length, xa_up (xl_c lay V) a _) = (lay.length, xl_c lay (xl_i V a k x))
  congr 1
  funext b
  by_cases e : b = a
  · subst e
    rw [xa_up_s, xl_f_set fl 0 k hk]
    unfold xl_c
    rw [ha]
    show (Sum.inr (ci, _) : va_E) = .inr (ci, _)
    congr 2
    refine xl_f_cg fl 0 (fun j _ => ?_)
    show (if j = 0 + k then x else V.1 b j) = (if b = b ∧ j = k then x else V.1 b j)
    rw [Nat.zero_add]
    by_cases q : j = k
    · rw [if_pos q, if_pos ⟨rfl, q⟩]
    · rw [if_neg q, if_neg (fun z => q z.2)]
  · rw [xa_up_n _ _ e]
    unfold xl_c
    have hI : (xl_i V a k x).1 b = V.1 b := by
      funext j
      show (if b = a ∧ j = k then x else V.1 b j) = _
      rw [if_neg (fun z => e z.1)]
    rw [hI]
    rfl
theorem xl_aset {lay : List xl_S} {V : xl_V} {a n t : Nat} {f : Nat → Int32} (ht : t = 0 ∨ t = 1) (ha : lay[a]? = some (.inr (t, n))) :
    ((xl_H lay V).1, xa_up (xl_H lay V).2 a (.inl (t, n, .inl f))) = xl_H lay (xl_a V a f) := by
  show (lay.length, xa_up (xl_c lay V) a _) = (lay.length, xl_c lay (xl_a V a f))
  congr 1
  funext b
  by_cases e : b = a
  · subst e
    rw [xa_up_s]
    unfold xl_c
    rw [ha]
    have e1 : (xl_a V b f).2.1 b = f := xa_up_s V.2.1 b f
    rcases ht with rfl | rfl
    · show (Sum.inl (0, n, .inl f) : va_E) = .inl (0, n, .inl ((xl_a V b f).2.1 b)); rw [e1]
    · show (Sum.inl (1, n, .inl f) : va_E) = .inl (1, n, .inl ((xl_a V b f).2.1 b)); rw [e1]
  · rw [xa_up_n _ _ e]
    unfold xl_c
    have e1 : (xl_a V a f).2.1 b = V.2.1 b := xa_up_n V.2.1 f e
    rw [e1]
    rfl
theorem xl_gset {lay : List xl_S} {V : xl_V} {a n : Nat} {f : Nat → Option Nat} (ha : lay[a]? = some (.inr (3, n))) :
    ((xl_H lay V).1, xa_up (xl_H lay V).2 a (.inl (3, n, .inr (.inr (.inr (.inr f)))))) = xl_H lay (xl_g V a f) := by
  show (lay.length, xa_up (xl_c lay V) a _) = (lay.length, xl_c lay (xl_g V a f))
  congr 1
  funext b
  by_cases e : b = a
  · subst e
    rw [xa_up_s]
    unfold xl_c
    rw [ha]
    have e1 : (xl_g V b f).2.2.1 b = f := xa_up_s V.2.2.1 b f
    show (Sum.inl (3, n, .inr (.inr (.inr (.inr f)))) : va_E) = .inl (3, n, .inr (.inr (.inr (.inr ((xl_g V b f).2.2.1 b))))); rw [e1]
  · rw [xa_up_n _ _ e]
    unfold xl_c
    have e1 : (xl_g V a f).2.2.1 b = V.2.2.1 b := xa_up_n V.2.2.1 f e
    rw [e1]
    rfl
theorem xl_oset {lay : List xl_S} {V : xl_V} {a n : Nat} {f : Nat → Int64} (ha : lay[a]? = some (.inr (2, n))) (hu : ∀ b m, lay[b]? = some (.inr (2, m)) → b = a) :
    ((xl_H lay V).1, xa_up (xl_H lay V).2 a (.inl (2, n, .inr (.inl f)))) = xl_H lay (xl_o V f) := by
  show (lay.length, xa_up (xl_c lay V) a _) = (lay.length, xl_c lay (xl_o V f))
  congr 1
  funext b
  by_cases e : b = a
  · subst e
    rw [xa_up_s]
    unfold xl_c
    rw [ha]
    rfl
  · rw [xa_up_n _ _ e]
    unfold xl_c
    split
    · rfl
    · rfl
    · rfl
    · rename_i m hm; exact absurd (hu b m hm) e
    · rfl
    · rfl
end XWorld
end
section
/-! The rows of the abstract machine over a heap of a fixed shape, and calls of methods whose answer is known. -/
section XHRows
def xq (v : Option Value) (h : xa_H) : xa_Q := fun o h' => o = .inl v ∧ h' = h
theorem xq_n {v : Option Value} {h : xa_H} : ∀ E h', ¬ xq v h (.inr E) h' := fun E h' q => by cases q.1
variable {K : xa_P} {tx : Nat → Nat × (Nat → Int32)} {d y pc n' : Nat} {ls st : List Value} {h : xa_H} {mc ms : Nat} {Q : xa_Q} {lay : List xl_S} {V : xl_V}
theorem xl_obj {a ci : Nat} {fl : List (Option Nat)} (ha : lay[a]? = some (.inl (ci, fl))) : (xl_H lay V).2 a = .inr (ci, xl_f (V.1 a) fl 0) := by
  show xl_c lay V a = _
  unfold xl_c
  rw [ha]
theorem xh_get {i ci k0 a : Nat} {fl : List (Option Nat)} (hd : xa_d K y pc (.getfield i) 3 n') (hf : xa_fld K (K.1 y).1.cls i ci k0) (ha : lay[a]? = some (.inl (ci, fl))) (hk : fl[k0]? = some none) (k : xa_X K tx d y n' ls (.int (V.1 a k0) :: st) (xl_H lay V) mc ms Q) : xa_X K tx d y pc ls (.ref a :: st) (xl_H lay V) mc ms Q :=
  xx_get hd hf (xl_obj ha) (by have := xl_f_get (I := V.1 a) fl 0 k0 hk; rwa [Nat.zero_add] at this) k
theorem xh_getR {i ci k0 a b : Nat} {fl : List (Option Nat)} (hd : xa_d K y pc (.getfield i) 3 n') (hf : xa_fld K (K.1 y).1.cls i ci k0) (ha : lay[a]? = some (.inl (ci, fl))) (hk : fl[k0]? = some (some b)) (k : xa_X K tx d y n' ls (.ref b :: st) (xl_H lay V) mc ms Q) : xa_X K tx d y pc ls (.ref a :: st) (xl_H lay V) mc ms Q :=
  xx_get hd hf (xl_obj ha) (xl_f_getR fl 0 k0 hk) k
theorem xh_put {i ci k0 a : Nat} {ty : FieldType} {fl : List (Option Nat)} {x : Int32} (hd : xa_d K y pc (.putfield i) 3 n') (hf : xa_fldP K (K.1 y).1.cls i ci k0 ty) (ha : lay[a]? = some (.inl (ci, fl))) (hk : fl[k0]? = some none) (hn : narrow ty (.int x) = .int x ∧ fits ty (.int x) = true) (k : xa_X K tx d y n' ls st (xl_H lay (xl_i V a k0 x)) mc ms Q) : xa_X K tx d y pc ls (.int x :: .ref a :: st) (xl_H lay V) mc ms Q :=
  xx_put hd hf (xl_obj ha) (by rw [xl_f_len]; exact (List.getElem?_eq_some_iff.mp hk).1) (fun _ _ => hn) (by rw [xl_put ha hk]; exact k)
theorem xl_arr {a n t : Nat} (ht : t = 0 ∨ t = 1) (ha : lay[a]? = some (.inr (t, n))) : (xl_H lay V).2 a = .inl (t, n, .inl (V.2.1 a)) := by
  show xl_c lay V a = _
  unfold xl_c
  rw [ha]
  rcases ht with rfl | rfl <;> rfl
theorem xh_iald {a n : Nat} {i : Int32} (hd : xa_d K y pc (.iaload) 1 n') (ha : lay[a]? = some (.inr (0, n))) (hi : vp_in i n) (k : xa_X K tx d y n' ls (.int (V.2.1 a i.toNatClampNeg) :: st) (xl_H lay V) mc ms Q) : xa_X K tx d y pc ls (.int i :: .ref a :: st) (xl_H lay V) mc ms Q :=
  xx_iaload hd (xl_arr (Or.inl rfl) ha) hi k
theorem xh_bald {a n : Nat} {i : Int32} (hd : xa_d K y pc (.baload) 1 n') (ha : lay[a]? = some (.inr (1, n))) (hi : vp_in i n) (k : xa_X K tx d y n' ls (.int (V.2.1 a i.toNatClampNeg) :: st) (xl_H lay V) mc ms Q) : xa_X K tx d y pc ls (.int i :: .ref a :: st) (xl_H lay V) mc ms Q :=
  xx_baload hd (xl_arr (Or.inr rfl) ha) hi k
theorem xh_iast {a n : Nat} {i x : Int32} (hd : xa_d K y pc (.iastore) 1 n') (ha : lay[a]? = some (.inr (0, n))) (hi : vp_in i n) (k : xa_X K tx d y n' ls st (xl_H lay (xl_a V a (upd (V.2.1 a) i.toNatClampNeg x))) mc ms Q) : xa_X K tx d y pc ls (.int x :: .int i :: .ref a :: st) (xl_H lay V) mc ms Q :=
  xx_iastore hd (xl_arr (Or.inl rfl) ha) hi (by rw [xl_aset (Or.inl rfl) ha]; exact k)
theorem xh_bast {a n : Nat} {i x : Int32} (hd : xa_d K y pc (.bastore) 1 n') (ha : lay[a]? = some (.inr (1, n))) (hi : vp_in i n) (k : xa_X K tx d y n' ls st (xl_H lay (xl_a V a (upd (V.2.1 a) i.toNatClampNeg (vp_nar .boolean x)))) mc ms Q) : xa_X K tx d y pc ls (.int x :: .int i :: .ref a :: st) (xl_H lay V) mc ms Q :=
  xx_bastore hd (xl_arr (Or.inr rfl) ha) hi (by rw [xl_aset (Or.inr rfl) ha]; exact k)
theorem xl_arrG {a n : Nat} (ha : lay[a]? = some (.inr (3, n))) : (xl_H lay V).2 a = .inl (3, n, .inr (.inr (.inr (.inr (V.2.2.1 a))))) := by
  show xl_c lay V a = _
  unfold xl_c
  rw [ha]
  rfl
theorem xh_aald {a n b : Nat} {i : Int32} (hd : xa_d K y pc (.aaload) 1 n') (ha : lay[a]? = some (.inr (3, n))) (hi : vp_in i n) (hb : V.2.2.1 a i.toNatClampNeg = some b) (k : xa_X K tx d y n' ls (.ref b :: st) (xl_H lay V) mc ms Q) : xa_X K tx d y pc ls (.int i :: .ref a :: st) (xl_H lay V) mc ms Q :=
  xx_aaload hd (xl_arrG ha) hi hb k
theorem xh_aast {a n b ci : Nat} {fl : List (Option Nat)} {i : Int32} (hd : xa_d K y pc (.aastore) 1 n') (ha : lay[a]? = some (.inr (3, n))) (hi : vp_in i n) (hb : lay[b]? = some (.inl (ci, fl))) (hg : ∃ T N, K.2.1[ci]? = some (K.2.2.2.2.2, T, N)) (k : xa_X K tx d y n' ls st (xl_H lay (xl_g V a (va_up (V.2.2.1 a) i.toNatClampNeg (some b)))) mc ms Q) : xa_X K tx d y pc ls (.ref b :: .int i :: .ref a :: st) (xl_H lay V) mc ms Q :=
  xx_aastore hd (xl_arrG ha) hi (xl_obj hb) hg (by rw [xl_gset ha]; exact k)
theorem xl_arrO {a n : Nat} (ha : lay[a]? = some (.inr (2, n))) : (xl_H lay V).2 a = .inl (2, n, .inr (.inl V.2.2.2)) := by
  show xl_c lay V a = _
  unfold xl_c
  rw [ha]
  rfl
theorem xh_lald {a n : Nat} {i : Int32} (hd : xa_d K y pc (.laload) 1 n') (ha : lay[a]? = some (.inr (2, n))) (hi : vp_in i n) (k : xa_X K tx d y n' ls (.long (V.2.2.2 i.toNatClampNeg) :: st) (xl_H lay V) mc ms Q) : xa_X K tx d y pc ls (.int i :: .ref a :: st) (xl_H lay V) mc ms Q :=
  xx_laload hd (xl_arrO ha) hi k
theorem xh_last {a n : Nat} {i : Int32} {x : Int64} (hu : ∀ b m, lay[b]? = some (.inr (2, m)) → b = a) (hd : xa_d K y pc (.lastore) 1 n') (ha : lay[a]? = some (.inr (2, n))) (hi : vp_in i n) (k : xa_X K tx d y n' ls st (xl_H lay (xl_o V (vp_updL V.2.2.2 i.toNatClampNeg x))) mc ms Q) : xa_X K tx d y pc ls (.long x :: .int i :: .ref a :: st) (xl_H lay V) mc ms Q :=
  xx_lastore hd (xl_arrO ha) hi (by rw [xl_oset ha hu]; exact k)
theorem xc_V0 {i y' mc' ms' : Nat} {fs : List Value} {ci : Nat} {a : Nat} {P : xa_Q} (hd : xa_d K y pc (.invokevirtual i) 3 n') (hl : xa_lkV K (K.1 y).1.cls i ci y' 0) (hh : h.2 a = .inr (ci, fs)) (hP : ∀ E h', ¬ P (.inr E) h') (k1 : xa_X K tx d y' 0 (xa_ent (K.1 y').2.2.1 (.ref a :: [])) [] h mc' ms' P) (k2 : ∀ (v : Option Value) (h' : xa_H), P (.inl v) h' → xa_X K tx (d + 1) y n' ls (v.toList ++ st) h' mc ms Q)  (hw : (st.map fun v => v.category).sum ≤ 8 := by exact Nat.le_of_ble_eq_true rfl) : xa_X K tx (d + 1) y pc ls (.ref a :: st) h (mc + mc') (ms + ms') Q :=
  xx_callV (As := []) hd hl hh (by intro v hv; cases hv) hw hP k1 k2
theorem xc_V0i {i y' : Nat} {ci : Nat} {fs : List Value} {a : Nat} {r : Int32} {h1 : xa_H} (hd : xa_d K y pc (.invokevirtual i) 3 n') (hl : xa_lkV K (K.1 y).1.cls i ci y' 0) (hh : h.2 a = .inr (ci, fs)) (k1 : xa_X K tx d y' 0 (xa_ent (K.1 y').2.2.1 (.ref a :: [])) [] h 0 0 (xq (some (.int r)) h1)) (k2 : xa_X K tx (d + 1) y n' ls (.int r :: st) h1 mc ms Q)  (hw : (st.map fun v => v.category).sum ≤ 8 := by exact Nat.le_of_ble_eq_true rfl) : xa_X K tx (d + 1) y pc ls (.ref a :: st) h mc ms Q :=
  xx_callV (As := []) (mc' := 0) (ms' := 0) hd hl hh (by intro v hv; cases hv) hw xq_n k1 (fun v h' q => by obtain ⟨e1, e2⟩ := q; cases e1; cases e2; exact k2)
theorem xc_V0v {i y' : Nat} {ci : Nat} {fs : List Value} {a : Nat} {h1 : xa_H} (hd : xa_d K y pc (.invokevirtual i) 3 n') (hl : xa_lkV K (K.1 y).1.cls i ci y' 0) (hh : h.2 a = .inr (ci, fs)) (k1 : xa_X K tx d y' 0 (xa_ent (K.1 y').2.2.1 (.ref a :: [])) [] h 0 0 (xq none h1)) (k2 : xa_X K tx (d + 1) y n' ls (st) h1 mc ms Q)  (hw : (st.map fun v => v.category).sum ≤ 8 := by exact Nat.le_of_ble_eq_true rfl) : xa_X K tx (d + 1) y pc ls (.ref a :: st) h mc ms Q :=
  xx_callV (As := []) (mc' := 0) (ms' := 0) hd hl hh (by intro v hv; cases hv) hw xq_n k1 (fun v h' q => by obtain ⟨e1, e2⟩ := q; cases e1; cases e2; exact k2)
theorem xc_V0r {i y' : Nat} {ci : Nat} {fs : List Value} {a : Nat} {r : Nat} {h1 : xa_H} (hd : xa_d K y pc (.invokevirtual i) 3 n') (hl : xa_lkV K (K.1 y).1.cls i ci y' 0) (hh : h.2 a = .inr (ci, fs)) (k1 : xa_X K tx d y' 0 (xa_ent (K.1 y').2.2.1 (.ref a :: [])) [] h 0 0 (xq (some (.ref r)) h1)) (k2 : xa_X K tx (d + 1) y n' ls (.ref r :: st) h1 mc ms Q)  (hw : (st.map fun v => v.category).sum ≤ 8 := by exact Nat.le_of_ble_eq_true rfl) : xa_X K tx (d + 1) y pc ls (.ref a :: st) h mc ms Q :=
  xx_callV (As := []) (mc' := 0) (ms' := 0) hd hl hh (by intro v hv; cases hv) hw xq_n k1 (fun v h' q => by obtain ⟨e1, e2⟩ := q; cases e1; cases e2; exact k2)
theorem xc_S0 {i y' mc' ms' : Nat} {P : xa_Q} (hd : xa_d K y pc (.invokestatic i) 3 n') (hl : xa_lkS K (K.1 y).1.cls i y' 0) (hP : ∀ E h', ¬ P (.inr E) h') (k1 : xa_X K tx d y' 0 (xa_ent (K.1 y').2.2.1 ([])) [] h mc' ms' P) (k2 : ∀ (v : Option Value) (h' : xa_H), P (.inl v) h' → xa_X K tx (d + 1) y n' ls (v.toList ++ st) h' mc ms Q)  (hw : (st.map fun v => v.category).sum ≤ 8 := by exact Nat.le_of_ble_eq_true rfl) : xa_X K tx (d + 1) y pc ls (st) h (mc + mc') (ms + ms') Q :=
  xx_callS (As := []) hd hl (by intro v hv; cases hv) hw hP k1 k2
theorem xc_S0i {i y' : Nat} {r : Int32} {h1 : xa_H} (hd : xa_d K y pc (.invokestatic i) 3 n') (hl : xa_lkS K (K.1 y).1.cls i y' 0) (k1 : xa_X K tx d y' 0 (xa_ent (K.1 y').2.2.1 ([])) [] h 0 0 (xq (some (.int r)) h1)) (k2 : xa_X K tx (d + 1) y n' ls (.int r :: st) h1 mc ms Q)  (hw : (st.map fun v => v.category).sum ≤ 8 := by exact Nat.le_of_ble_eq_true rfl) : xa_X K tx (d + 1) y pc ls (st) h mc ms Q :=
  xx_callS (As := []) (mc' := 0) (ms' := 0) hd hl (by intro v hv; cases hv) hw xq_n k1 (fun v h' q => by obtain ⟨e1, e2⟩ := q; cases e1; cases e2; exact k2)
theorem xc_S0v {i y' : Nat} {h1 : xa_H} (hd : xa_d K y pc (.invokestatic i) 3 n') (hl : xa_lkS K (K.1 y).1.cls i y' 0) (k1 : xa_X K tx d y' 0 (xa_ent (K.1 y').2.2.1 ([])) [] h 0 0 (xq none h1)) (k2 : xa_X K tx (d + 1) y n' ls (st) h1 mc ms Q)  (hw : (st.map fun v => v.category).sum ≤ 8 := by exact Nat.le_of_ble_eq_true rfl) : xa_X K tx (d + 1) y pc ls (st) h mc ms Q :=
  xx_callS (As := []) (mc' := 0) (ms' := 0) hd hl (by intro v hv; cases hv) hw xq_n k1 (fun v h' q => by obtain ⟨e1, e2⟩ := q; cases e1; cases e2; exact k2)
theorem xc_S0r {i y' : Nat} {r : Nat} {h1 : xa_H} (hd : xa_d K y pc (.invokestatic i) 3 n') (hl : xa_lkS K (K.1 y).1.cls i y' 0) (k1 : xa_X K tx d y' 0 (xa_ent (K.1 y').2.2.1 ([])) [] h 0 0 (xq (some (.ref r)) h1)) (k2 : xa_X K tx (d + 1) y n' ls (.ref r :: st) h1 mc ms Q)  (hw : (st.map fun v => v.category).sum ≤ 8 := by exact Nat.le_of_ble_eq_true rfl) : xa_X K tx (d + 1) y pc ls (st) h mc ms Q :=
  xx_callS (As := []) (mc' := 0) (ms' := 0) hd hl (by intro v hv; cases hv) hw xq_n k1 (fun v h' q => by obtain ⟨e1, e2⟩ := q; cases e1; cases e2; exact k2)
theorem xc_I0 {i y' mc' ms' : Nat} {a : Nat} {P : xa_Q} (hd : xa_d K y pc (.invokespecial i) 3 n') (hl : xa_lkI K (K.1 y).1.cls i y' 0) (hP : ∀ E h', ¬ P (.inr E) h') (k1 : xa_X K tx d y' 0 (xa_ent (K.1 y').2.2.1 (.ref a :: [])) [] h mc' ms' P) (k2 : ∀ (v : Option Value) (h' : xa_H), P (.inl v) h' → xa_X K tx (d + 1) y n' ls (v.toList ++ st) h' mc ms Q)  (hw : (st.map fun v => v.category).sum ≤ 8 := by exact Nat.le_of_ble_eq_true rfl) : xa_X K tx (d + 1) y pc ls (.ref a :: st) h (mc + mc') (ms + ms') Q :=
  xx_callI (As := []) hd hl (by intro v hv; cases hv) hw hP k1 k2
theorem xc_I0i {i y' : Nat} {a : Nat} {r : Int32} {h1 : xa_H} (hd : xa_d K y pc (.invokespecial i) 3 n') (hl : xa_lkI K (K.1 y).1.cls i y' 0) (k1 : xa_X K tx d y' 0 (xa_ent (K.1 y').2.2.1 (.ref a :: [])) [] h 0 0 (xq (some (.int r)) h1)) (k2 : xa_X K tx (d + 1) y n' ls (.int r :: st) h1 mc ms Q)  (hw : (st.map fun v => v.category).sum ≤ 8 := by exact Nat.le_of_ble_eq_true rfl) : xa_X K tx (d + 1) y pc ls (.ref a :: st) h mc ms Q :=
  xx_callI (As := []) (mc' := 0) (ms' := 0) hd hl (by intro v hv; cases hv) hw xq_n k1 (fun v h' q => by obtain ⟨e1, e2⟩ := q; cases e1; cases e2; exact k2)
theorem xc_I0v {i y' : Nat} {a : Nat} {h1 : xa_H} (hd : xa_d K y pc (.invokespecial i) 3 n') (hl : xa_lkI K (K.1 y).1.cls i y' 0) (k1 : xa_X K tx d y' 0 (xa_ent (K.1 y').2.2.1 (.ref a :: [])) [] h 0 0 (xq none h1)) (k2 : xa_X K tx (d + 1) y n' ls (st) h1 mc ms Q)  (hw : (st.map fun v => v.category).sum ≤ 8 := by exact Nat.le_of_ble_eq_true rfl) : xa_X K tx (d + 1) y pc ls (.ref a :: st) h mc ms Q :=
  xx_callI (As := []) (mc' := 0) (ms' := 0) hd hl (by intro v hv; cases hv) hw xq_n k1 (fun v h' q => by obtain ⟨e1, e2⟩ := q; cases e1; cases e2; exact k2)
theorem xc_I0r {i y' : Nat} {a : Nat} {r : Nat} {h1 : xa_H} (hd : xa_d K y pc (.invokespecial i) 3 n') (hl : xa_lkI K (K.1 y).1.cls i y' 0) (k1 : xa_X K tx d y' 0 (xa_ent (K.1 y').2.2.1 (.ref a :: [])) [] h 0 0 (xq (some (.ref r)) h1)) (k2 : xa_X K tx (d + 1) y n' ls (.ref r :: st) h1 mc ms Q)  (hw : (st.map fun v => v.category).sum ≤ 8 := by exact Nat.le_of_ble_eq_true rfl) : xa_X K tx (d + 1) y pc ls (.ref a :: st) h mc ms Q :=
  xx_callI (As := []) (mc' := 0) (ms' := 0) hd hl (by intro v hv; cases hv) hw xq_n k1 (fun v h' q => by obtain ⟨e1, e2⟩ := q; cases e1; cases e2; exact k2)
theorem xc_V1 {i y' mc' ms' : Nat} {fs : List Value} {ci : Nat} {a : Nat} {w1 : Value} {P : xa_Q} (hd : xa_d K y pc (.invokevirtual i) 3 n') (hl : xa_lkV K (K.1 y).1.cls i ci y' 1) (hh : h.2 a = .inr (ci, fs)) (hP : ∀ E h', ¬ P (.inr E) h') (k1 : xa_X K tx d y' 0 (xa_ent (K.1 y').2.2.1 (.ref a :: [w1])) [] h mc' ms' P) (k2 : ∀ (v : Option Value) (h' : xa_H), P (.inl v) h' → xa_X K tx (d + 1) y n' ls (v.toList ++ st) h' mc ms Q) (c1 : w1.category = 1 := by rfl) (hw : (st.map fun v => v.category).sum ≤ 8 := by exact Nat.le_of_ble_eq_true rfl) : xa_X K tx (d + 1) y pc ls (w1 :: .ref a :: st) h (mc + mc') (ms + ms') Q :=
  xx_callV (As := [w1]) hd hl hh (by intro v hv; rw [List.mem_singleton.mp hv]; exact c1) hw hP k1 k2
theorem xc_V1i {i y' : Nat} {ci : Nat} {fs : List Value} {a : Nat} {w1 : Value} {r : Int32} {h1 : xa_H} (hd : xa_d K y pc (.invokevirtual i) 3 n') (hl : xa_lkV K (K.1 y).1.cls i ci y' 1) (hh : h.2 a = .inr (ci, fs)) (k1 : xa_X K tx d y' 0 (xa_ent (K.1 y').2.2.1 (.ref a :: [w1])) [] h 0 0 (xq (some (.int r)) h1)) (k2 : xa_X K tx (d + 1) y n' ls (.int r :: st) h1 mc ms Q) (c1 : w1.category = 1 := by rfl) (hw : (st.map fun v => v.category).sum ≤ 8 := by exact Nat.le_of_ble_eq_true rfl) : xa_X K tx (d + 1) y pc ls (w1 :: .ref a :: st) h mc ms Q :=
  xx_callV (As := [w1]) (mc' := 0) (ms' := 0) hd hl hh (by intro v hv; rw [List.mem_singleton.mp hv]; exact c1) hw xq_n k1 (fun v h' q => by obtain ⟨e1, e2⟩ := q; cases e1; cases e2; exact k2)
theorem xc_V1v {i y' : Nat} {ci : Nat} {fs : List Value} {a : Nat} {w1 : Value} {h1 : xa_H} (hd : xa_d K y pc (.invokevirtual i) 3 n') (hl : xa_lkV K (K.1 y).1.cls i ci y' 1) (hh : h.2 a = .inr (ci, fs)) (k1 : xa_X K tx d y' 0 (xa_ent (K.1 y').2.2.1 (.ref a :: [w1])) [] h 0 0 (xq none h1)) (k2 : xa_X K tx (d + 1) y n' ls (st) h1 mc ms Q) (c1 : w1.category = 1 := by rfl) (hw : (st.map fun v => v.category).sum ≤ 8 := by exact Nat.le_of_ble_eq_true rfl) : xa_X K tx (d + 1) y pc ls (w1 :: .ref a :: st) h mc ms Q :=
  xx_callV (As := [w1]) (mc' := 0) (ms' := 0) hd hl hh (by intro v hv; rw [List.mem_singleton.mp hv]; exact c1) hw xq_n k1 (fun v h' q => by obtain ⟨e1, e2⟩ := q; cases e1; cases e2; exact k2)
theorem xc_V1r {i y' : Nat} {ci : Nat} {fs : List Value} {a : Nat} {w1 : Value} {r : Nat} {h1 : xa_H} (hd : xa_d K y pc (.invokevirtual i) 3 n') (hl : xa_lkV K (K.1 y).1.cls i ci y' 1) (hh : h.2 a = .inr (ci, fs)) (k1 : xa_X K tx d y' 0 (xa_ent (K.1 y').2.2.1 (.ref a :: [w1])) [] h 0 0 (xq (some (.ref r)) h1)) (k2 : xa_X K tx (d + 1) y n' ls (.ref r :: st) h1 mc ms Q) (c1 : w1.category = 1 := by rfl) (hw : (st.map fun v => v.category).sum ≤ 8 := by exact Nat.le_of_ble_eq_true rfl) : xa_X K tx (d + 1) y pc ls (w1 :: .ref a :: st) h mc ms Q :=
  xx_callV (As := [w1]) (mc' := 0) (ms' := 0) hd hl hh (by intro v hv; rw [List.mem_singleton.mp hv]; exact c1) hw xq_n k1 (fun v h' q => by obtain ⟨e1, e2⟩ := q; cases e1; cases e2; exact k2)
theorem xc_S1 {i y' mc' ms' : Nat} {w1 : Value} {P : xa_Q} (hd : xa_d K y pc (.invokestatic i) 3 n') (hl : xa_lkS K (K.1 y).1.cls i y' 1) (hP : ∀ E h', ¬ P (.inr E) h') (k1 : xa_X K tx d y' 0 (xa_ent (K.1 y').2.2.1 ([w1])) [] h mc' ms' P) (k2 : ∀ (v : Option Value) (h' : xa_H), P (.inl v) h' → xa_X K tx (d + 1) y n' ls (v.toList ++ st) h' mc ms Q) (c1 : w1.category = 1 := by rfl) (hw : (st.map fun v => v.category).sum ≤ 8 := by exact Nat.le_of_ble_eq_true rfl) : xa_X K tx (d + 1) y pc ls (w1 :: st) h (mc + mc') (ms + ms') Q :=
  xx_callS (As := [w1]) hd hl (by intro v hv; rw [List.mem_singleton.mp hv]; exact c1) hw hP k1 k2
theorem xc_S1i {i y' : Nat} {w1 : Value} {r : Int32} {h1 : xa_H} (hd : xa_d K y pc (.invokestatic i) 3 n') (hl : xa_lkS K (K.1 y).1.cls i y' 1) (k1 : xa_X K tx d y' 0 (xa_ent (K.1 y').2.2.1 ([w1])) [] h 0 0 (xq (some (.int r)) h1)) (k2 : xa_X K tx (d + 1) y n' ls (.int r :: st) h1 mc ms Q) (c1 : w1.category = 1 := by rfl) (hw : (st.map fun v => v.category).sum ≤ 8 := by exact Nat.le_of_ble_eq_true rfl) : xa_X K tx (d + 1) y pc ls (w1 :: st) h mc ms Q :=
  xx_callS (As := [w1]) (mc' := 0) (ms' := 0) hd hl (by intro v hv; rw [List.mem_singleton.mp hv]; exact c1) hw xq_n k1 (fun v h' q => by obtain ⟨e1, e2⟩ := q; cases e1; cases e2; exact k2)
theorem xc_S1v {i y' : Nat} {w1 : Value} {h1 : xa_H} (hd : xa_d K y pc (.invokestatic i) 3 n') (hl : xa_lkS K (K.1 y).1.cls i y' 1) (k1 : xa_X K tx d y' 0 (xa_ent (K.1 y').2.2.1 ([w1])) [] h 0 0 (xq none h1)) (k2 : xa_X K tx (d + 1) y n' ls (st) h1 mc ms Q) (c1 : w1.category = 1 := by rfl) (hw : (st.map fun v => v.category).sum ≤ 8 := by exact Nat.le_of_ble_eq_true rfl) : xa_X K tx (d + 1) y pc ls (w1 :: st) h mc ms Q :=
  xx_callS (As := [w1]) (mc' := 0) (ms' := 0) hd hl (by intro v hv; rw [List.mem_singleton.mp hv]; exact c1) hw xq_n k1 (fun v h' q => by obtain ⟨e1, e2⟩ := q; cases e1; cases e2; exact k2)
theorem xc_S1r {i y' : Nat} {w1 : Value} {r : Nat} {h1 : xa_H} (hd : xa_d K y pc (.invokestatic i) 3 n') (hl : xa_lkS K (K.1 y).1.cls i y' 1) (k1 : xa_X K tx d y' 0 (xa_ent (K.1 y').2.2.1 ([w1])) [] h 0 0 (xq (some (.ref r)) h1)) (k2 : xa_X K tx (d + 1) y n' ls (.ref r :: st) h1 mc ms Q) (c1 : w1.category = 1 := by rfl) (hw : (st.map fun v => v.category).sum ≤ 8 := by exact Nat.le_of_ble_eq_true rfl) : xa_X K tx (d + 1) y pc ls (w1 :: st) h mc ms Q :=
  xx_callS (As := [w1]) (mc' := 0) (ms' := 0) hd hl (by intro v hv; rw [List.mem_singleton.mp hv]; exact c1) hw xq_n k1 (fun v h' q => by obtain ⟨e1, e2⟩ := q; cases e1; cases e2; exact k2)
theorem xc_I1 {i y' mc' ms' : Nat} {a : Nat} {w1 : Value} {P : xa_Q} (hd : xa_d K y pc (.invokespecial i) 3 n') (hl : xa_lkI K (K.1 y).1.cls i y' 1) (hP : ∀ E h', ¬ P (.inr E) h') (k1 : xa_X K tx d y' 0 (xa_ent (K.1 y').2.2.1 (.ref a :: [w1])) [] h mc' ms' P) (k2 : ∀ (v : Option Value) (h' : xa_H), P (.inl v) h' → xa_X K tx (d + 1) y n' ls (v.toList ++ st) h' mc ms Q) (c1 : w1.category = 1 := by rfl) (hw : (st.map fun v => v.category).sum ≤ 8 := by exact Nat.le_of_ble_eq_true rfl) : xa_X K tx (d + 1) y pc ls (w1 :: .ref a :: st) h (mc + mc') (ms + ms') Q :=
  xx_callI (As := [w1]) hd hl (by intro v hv; rw [List.mem_singleton.mp hv]; exact c1) hw hP k1 k2
theorem xc_I1i {i y' : Nat} {a : Nat} {w1 : Value} {r : Int32} {h1 : xa_H} (hd : xa_d K y pc (.invokespecial i) 3 n') (hl : xa_lkI K (K.1 y).1.cls i y' 1) (k1 : xa_X K tx d y' 0 (xa_ent (K.1 y').2.2.1 (.ref a :: [w1])) [] h 0 0 (xq (some (.int r)) h1)) (k2 : xa_X K tx (d + 1) y n' ls (.int r :: st) h1 mc ms Q) (c1 : w1.category = 1 := by rfl) (hw : (st.map fun v => v.category).sum ≤ 8 := by exact Nat.le_of_ble_eq_true rfl) : xa_X K tx (d + 1) y pc ls (w1 :: .ref a :: st) h mc ms Q :=
  xx_callI (As := [w1]) (mc' := 0) (ms' := 0) hd hl (by intro v hv; rw [List.mem_singleton.mp hv]; exact c1) hw xq_n k1 (fun v h' q => by obtain ⟨e1, e2⟩ := q; cases e1; cases e2; exact k2)
theorem xc_I1v {i y' : Nat} {a : Nat} {w1 : Value} {h1 : xa_H} (hd : xa_d K y pc (.invokespecial i) 3 n') (hl : xa_lkI K (K.1 y).1.cls i y' 1) (k1 : xa_X K tx d y' 0 (xa_ent (K.1 y').2.2.1 (.ref a :: [w1])) [] h 0 0 (xq none h1)) (k2 : xa_X K tx (d + 1) y n' ls (st) h1 mc ms Q) (c1 : w1.category = 1 := by rfl) (hw : (st.map fun v => v.category).sum ≤ 8 := by exact Nat.le_of_ble_eq_true rfl) : xa_X K tx (d + 1) y pc ls (w1 :: .ref a :: st) h mc ms Q :=
  xx_callI (As := [w1]) (mc' := 0) (ms' := 0) hd hl (by intro v hv; rw [List.mem_singleton.mp hv]; exact c1) hw xq_n k1 (fun v h' q => by obtain ⟨e1, e2⟩ := q; cases e1; cases e2; exact k2)
theorem xc_I1r {i y' : Nat} {a : Nat} {w1 : Value} {r : Nat} {h1 : xa_H} (hd : xa_d K y pc (.invokespecial i) 3 n') (hl : xa_lkI K (K.1 y).1.cls i y' 1) (k1 : xa_X K tx d y' 0 (xa_ent (K.1 y').2.2.1 (.ref a :: [w1])) [] h 0 0 (xq (some (.ref r)) h1)) (k2 : xa_X K tx (d + 1) y n' ls (.ref r :: st) h1 mc ms Q) (c1 : w1.category = 1 := by rfl) (hw : (st.map fun v => v.category).sum ≤ 8 := by exact Nat.le_of_ble_eq_true rfl) : xa_X K tx (d + 1) y pc ls (w1 :: .ref a :: st) h mc ms Q :=
  xx_callI (As := [w1]) (mc' := 0) (ms' := 0) hd hl (by intro v hv; rw [List.mem_singleton.mp hv]; exact c1) hw xq_n k1 (fun v h' q => by obtain ⟨e1, e2⟩ := q; cases e1; cases e2; exact k2)
theorem xc_V2 {i y' mc' ms' : Nat} {fs : List Value} {ci : Nat} {a : Nat} {w1 w2 : Value} {P : xa_Q} (hd : xa_d K y pc (.invokevirtual i) 3 n') (hl : xa_lkV K (K.1 y).1.cls i ci y' 2) (hh : h.2 a = .inr (ci, fs)) (hP : ∀ E h', ¬ P (.inr E) h') (k1 : xa_X K tx d y' 0 (xa_ent (K.1 y').2.2.1 (.ref a :: [w1, w2])) [] h mc' ms' P) (k2 : ∀ (v : Option Value) (h' : xa_H), P (.inl v) h' → xa_X K tx (d + 1) y n' ls (v.toList ++ st) h' mc ms Q) (c1 : w1.category = 1 := by rfl) (c2 : w2.category = 1 := by rfl) (hw : (st.map fun v => v.category).sum ≤ 8 := by exact Nat.le_of_ble_eq_true rfl) : xa_X K tx (d + 1) y pc ls (w2 :: w1 :: .ref a :: st) h (mc + mc') (ms + ms') Q :=
  xx_callV (As := [w1, w2]) hd hl hh (by intro v hv; simp only [List.mem_cons, List.not_mem_nil, or_false] at hv; rcases hv with rfl | rfl <;> assumption) hw hP k1 k2
theorem xc_V2i {i y' : Nat} {ci : Nat} {fs : List Value} {a : Nat} {w1 w2 : Value} {r : Int32} {h1 : xa_H} (hd : xa_d K y pc (.invokevirtual i) 3 n') (hl : xa_lkV K (K.1 y).1.cls i ci y' 2) (hh : h.2 a = .inr (ci, fs)) (k1 : xa_X K tx d y' 0 (xa_ent (K.1 y').2.2.1 (.ref a :: [w1, w2])) [] h 0 0 (xq (some (.int r)) h1)) (k2 : xa_X K tx (d + 1) y n' ls (.int r :: st) h1 mc ms Q) (c1 : w1.category = 1 := by rfl) (c2 : w2.category = 1 := by rfl) (hw : (st.map fun v => v.category).sum ≤ 8 := by exact Nat.le_of_ble_eq_true rfl) : xa_X K tx (d + 1) y pc ls (w2 :: w1 :: .ref a :: st) h mc ms Q :=
  xx_callV (As := [w1, w2]) (mc' := 0) (ms' := 0) hd hl hh (by intro v hv; simp only [List.mem_cons, List.not_mem_nil, or_false] at hv; rcases hv with rfl | rfl <;> assumption) hw xq_n k1 (fun v h' q => by obtain ⟨e1, e2⟩ := q; cases e1; cases e2; exact k2)
theorem xc_V2v {i y' : Nat} {ci : Nat} {fs : List Value} {a : Nat} {w1 w2 : Value} {h1 : xa_H} (hd : xa_d K y pc (.invokevirtual i) 3 n') (hl : xa_lkV K (K.1 y).1.cls i ci y' 2) (hh : h.2 a = .inr (ci, fs)) (k1 : xa_X K tx d y' 0 (xa_ent (K.1 y').2.2.1 (.ref a :: [w1, w2])) [] h 0 0 (xq none h1)) (k2 : xa_X K tx (d + 1) y n' ls (st) h1 mc ms Q) (c1 : w1.category = 1 := by rfl) (c2 : w2.category = 1 := by rfl) (hw : (st.map fun v => v.category).sum ≤ 8 := by exact Nat.le_of_ble_eq_true rfl) : xa_X K tx (d + 1) y pc ls (w2 :: w1 :: .ref a :: st) h mc ms Q :=
  xx_callV (As := [w1, w2]) (mc' := 0) (ms' := 0) hd hl hh (by intro v hv; simp only [List.mem_cons, List.not_mem_nil, or_false] at hv; rcases hv with rfl | rfl <;> assumption) hw xq_n k1 (fun v h' q => by obtain ⟨e1, e2⟩ := q; cases e1; cases e2; exact k2)
theorem xc_V2r {i y' : Nat} {ci : Nat} {fs : List Value} {a : Nat} {w1 w2 : Value} {r : Nat} {h1 : xa_H} (hd : xa_d K y pc (.invokevirtual i) 3 n') (hl : xa_lkV K (K.1 y).1.cls i ci y' 2) (hh : h.2 a = .inr (ci, fs)) (k1 : xa_X K tx d y' 0 (xa_ent (K.1 y').2.2.1 (.ref a :: [w1, w2])) [] h 0 0 (xq (some (.ref r)) h1)) (k2 : xa_X K tx (d + 1) y n' ls (.ref r :: st) h1 mc ms Q) (c1 : w1.category = 1 := by rfl) (c2 : w2.category = 1 := by rfl) (hw : (st.map fun v => v.category).sum ≤ 8 := by exact Nat.le_of_ble_eq_true rfl) : xa_X K tx (d + 1) y pc ls (w2 :: w1 :: .ref a :: st) h mc ms Q :=
  xx_callV (As := [w1, w2]) (mc' := 0) (ms' := 0) hd hl hh (by intro v hv; simp only [List.mem_cons, List.not_mem_nil, or_false] at hv; rcases hv with rfl | rfl <;> assumption) hw xq_n k1 (fun v h' q => by obtain ⟨e1, e2⟩ := q; cases e1; cases e2; exact k2)
theorem xc_S2 {i y' mc' ms' : Nat} {w1 w2 : Value} {P : xa_Q} (hd : xa_d K y pc (.invokestatic i) 3 n') (hl : xa_lkS K (K.1 y).1.cls i y' 2) (hP : ∀ E h', ¬ P (.inr E) h') (k1 : xa_X K tx d y' 0 (xa_ent (K.1 y').2.2.1 ([w1, w2])) [] h mc' ms' P) (k2 : ∀ (v : Option Value) (h' : xa_H), P (.inl v) h' → xa_X K tx (d + 1) y n' ls (v.toList ++ st) h' mc ms Q) (c1 : w1.category = 1 := by rfl) (c2 : w2.category = 1 := by rfl) (hw : (st.map fun v => v.category).sum ≤ 8 := by exact Nat.le_of_ble_eq_true rfl) : xa_X K tx (d + 1) y pc ls (w2 :: w1 :: st) h (mc + mc') (ms + ms') Q :=
  xx_callS (As := [w1, w2]) hd hl (by intro v hv; simp only [List.mem_cons, List.not_mem_nil, or_false] at hv; rcases hv with rfl | rfl <;> assumption) hw hP k1 k2
theorem xc_S2i {i y' : Nat} {w1 w2 : Value} {r : Int32} {h1 : xa_H} (hd : xa_d K y pc (.invokestatic i) 3 n') (hl : xa_lkS K (K.1 y).1.cls i y' 2) (k1 : xa_X K tx d y' 0 (xa_ent (K.1 y').2.2.1 ([w1, w2])) [] h 0 0 (xq (some (.int r)) h1)) (k2 : xa_X K tx (d + 1) y n' ls (.int r :: st) h1 mc ms Q) (c1 : w1.category = 1 := by rfl) (c2 : w2.category = 1 := by rfl) (hw : (st.map fun v => v.category).sum ≤ 8 := by exact Nat.le_of_ble_eq_true rfl) : xa_X K tx (d + 1) y pc ls (w2 :: w1 :: st) h mc ms Q :=
  xx_callS (As := [w1, w2]) (mc' := 0) (ms' := 0) hd hl (by intro v hv; simp only [List.mem_cons, List.not_mem_nil, or_false] at hv; rcases hv with rfl | rfl <;> assumption) hw xq_n k1 (fun v h' q => by obtain ⟨e1, e2⟩ := q; cases e1; cases e2; exact k2)
theorem xc_S2v {i y' : Nat} {w1 w2 : Value} {h1 : xa_H} (hd : xa_d K y pc (.invokestatic i) 3 n') (hl : xa_lkS K (K.1 y).1.cls i y' 2) (k1 : xa_X K tx d y' 0 (xa_ent (K.1 y').2.2.1 ([w1, w2])) [] h 0 0 (xq none h1)) (k2 : xa_X K tx (d + 1) y n' ls (st) h1 mc ms Q) (c1 : w1.category = 1 := by rfl) (c2 : w2.category = 1 := by rfl) (hw : (st.map fun v => v.category).sum ≤ 8 := by exact Nat.le_of_ble_eq_true rfl) : xa_X K tx (d + 1) y pc ls (w2 :: w1 :: st) h mc ms Q :=
  xx_callS (As := [w1, w2]) (mc' := 0) (ms' := 0) hd hl (by intro v hv; simp only [List.mem_cons, List.not_mem_nil, or_false] at hv; rcases hv with rfl | rfl <;> assumption) hw xq_n k1 (fun v h' q => by obtain ⟨e1, e2⟩ := q; cases e1; cases e2; exact k2)
theorem xc_S2r {i y' : Nat} {w1 w2 : Value} {r : Nat} {h1 : xa_H} (hd : xa_d K y pc (.invokestatic i) 3 n') (hl : xa_lkS K (K.1 y).1.cls i y' 2) (k1 : xa_X K tx d y' 0 (xa_ent (K.1 y').2.2.1 ([w1, w2])) [] h 0 0 (xq (some (.ref r)) h1)) (k2 : xa_X K tx (d + 1) y n' ls (.ref r :: st) h1 mc ms Q) (c1 : w1.category = 1 := by rfl) (c2 : w2.category = 1 := by rfl) (hw : (st.map fun v => v.category).sum ≤ 8 := by exact Nat.le_of_ble_eq_true rfl) : xa_X K tx (d + 1) y pc ls (w2 :: w1 :: st) h mc ms Q :=
  xx_callS (As := [w1, w2]) (mc' := 0) (ms' := 0) hd hl (by intro v hv; simp only [List.mem_cons, List.not_mem_nil, or_false] at hv; rcases hv with rfl | rfl <;> assumption) hw xq_n k1 (fun v h' q => by obtain ⟨e1, e2⟩ := q; cases e1; cases e2; exact k2)
theorem xc_I2 {i y' mc' ms' : Nat} {a : Nat} {w1 w2 : Value} {P : xa_Q} (hd : xa_d K y pc (.invokespecial i) 3 n') (hl : xa_lkI K (K.1 y).1.cls i y' 2) (hP : ∀ E h', ¬ P (.inr E) h') (k1 : xa_X K tx d y' 0 (xa_ent (K.1 y').2.2.1 (.ref a :: [w1, w2])) [] h mc' ms' P) (k2 : ∀ (v : Option Value) (h' : xa_H), P (.inl v) h' → xa_X K tx (d + 1) y n' ls (v.toList ++ st) h' mc ms Q) (c1 : w1.category = 1 := by rfl) (c2 : w2.category = 1 := by rfl) (hw : (st.map fun v => v.category).sum ≤ 8 := by exact Nat.le_of_ble_eq_true rfl) : xa_X K tx (d + 1) y pc ls (w2 :: w1 :: .ref a :: st) h (mc + mc') (ms + ms') Q :=
  xx_callI (As := [w1, w2]) hd hl (by intro v hv; simp only [List.mem_cons, List.not_mem_nil, or_false] at hv; rcases hv with rfl | rfl <;> assumption) hw hP k1 k2
theorem xc_I2i {i y' : Nat} {a : Nat} {w1 w2 : Value} {r : Int32} {h1 : xa_H} (hd : xa_d K y pc (.invokespecial i) 3 n') (hl : xa_lkI K (K.1 y).1.cls i y' 2) (k1 : xa_X K tx d y' 0 (xa_ent (K.1 y').2.2.1 (.ref a :: [w1, w2])) [] h 0 0 (xq (some (.int r)) h1)) (k2 : xa_X K tx (d + 1) y n' ls (.int r :: st) h1 mc ms Q) (c1 : w1.category = 1 := by rfl) (c2 : w2.category = 1 := by rfl) (hw : (st.map fun v => v.category).sum ≤ 8 := by exact Nat.le_of_ble_eq_true rfl) : xa_X K tx (d + 1) y pc ls (w2 :: w1 :: .ref a :: st) h mc ms Q :=
  xx_callI (As := [w1, w2]) (mc' := 0) (ms' := 0) hd hl (by intro v hv; simp only [List.mem_cons, List.not_mem_nil, or_false] at hv; rcases hv with rfl | rfl <;> assumption) hw xq_n k1 (fun v h' q => by obtain ⟨e1, e2⟩ := q; cases e1; cases e2; exact k2)
theorem xc_I2v {i y' : Nat} {a : Nat} {w1 w2 : Value} {h1 : xa_H} (hd : xa_d K y pc (.invokespecial i) 3 n') (hl : xa_lkI K (K.1 y).1.cls i y' 2) (k1 : xa_X K tx d y' 0 (xa_ent (K.1 y').2.2.1 (.ref a :: [w1, w2])) [] h 0 0 (xq none h1)) (k2 : xa_X K tx (d + 1) y n' ls (st) h1 mc ms Q) (c1 : w1.category = 1 := by rfl) (c2 : w2.category = 1 := by rfl) (hw : (st.map fun v => v.category).sum ≤ 8 := by exact Nat.le_of_ble_eq_true rfl) : xa_X K tx (d + 1) y pc ls (w2 :: w1 :: .ref a :: st) h mc ms Q :=
  xx_callI (As := [w1, w2]) (mc' := 0) (ms' := 0) hd hl (by intro v hv; simp only [List.mem_cons, List.not_mem_nil, or_false] at hv; rcases hv with rfl | rfl <;> assumption) hw xq_n k1 (fun v h' q => by obtain ⟨e1, e2⟩ := q; cases e1; cases e2; exact k2)
theorem xc_I2r {i y' : Nat} {a : Nat} {w1 w2 : Value} {r : Nat} {h1 : xa_H} (hd : xa_d K y pc (.invokespecial i) 3 n') (hl : xa_lkI K (K.1 y).1.cls i y' 2) (k1 : xa_X K tx d y' 0 (xa_ent (K.1 y').2.2.1 (.ref a :: [w1, w2])) [] h 0 0 (xq (some (.ref r)) h1)) (k2 : xa_X K tx (d + 1) y n' ls (.ref r :: st) h1 mc ms Q) (c1 : w1.category = 1 := by rfl) (c2 : w2.category = 1 := by rfl) (hw : (st.map fun v => v.category).sum ≤ 8 := by exact Nat.le_of_ble_eq_true rfl) : xa_X K tx (d + 1) y pc ls (w2 :: w1 :: .ref a :: st) h mc ms Q :=
  xx_callI (As := [w1, w2]) (mc' := 0) (ms' := 0) hd hl (by intro v hv; simp only [List.mem_cons, List.not_mem_nil, or_false] at hv; rcases hv with rfl | rfl <;> assumption) hw xq_n k1 (fun v h' q => by obtain ⟨e1, e2⟩ := q; cases e1; cases e2; exact k2)
theorem xc_V3 {i y' mc' ms' : Nat} {fs : List Value} {ci : Nat} {a : Nat} {w1 w2 w3 : Value} {P : xa_Q} (hd : xa_d K y pc (.invokevirtual i) 3 n') (hl : xa_lkV K (K.1 y).1.cls i ci y' 3) (hh : h.2 a = .inr (ci, fs)) (hP : ∀ E h', ¬ P (.inr E) h') (k1 : xa_X K tx d y' 0 (xa_ent (K.1 y').2.2.1 (.ref a :: [w1, w2, w3])) [] h mc' ms' P) (k2 : ∀ (v : Option Value) (h' : xa_H), P (.inl v) h' → xa_X K tx (d + 1) y n' ls (v.toList ++ st) h' mc ms Q) (c1 : w1.category = 1 := by rfl) (c2 : w2.category = 1 := by rfl) (c3 : w3.category = 1 := by rfl) (hw : (st.map fun v => v.category).sum ≤ 8 := by exact Nat.le_of_ble_eq_true rfl) : xa_X K tx (d + 1) y pc ls (w3 :: w2 :: w1 :: .ref a :: st) h (mc + mc') (ms + ms') Q :=
  xx_callV (As := [w1, w2, w3]) hd hl hh (by intro v hv; simp only [List.mem_cons, List.not_mem_nil, or_false] at hv; rcases hv with rfl | rfl | rfl <;> assumption) hw hP k1 k2
theorem xc_V3i {i y' : Nat} {ci : Nat} {fs : List Value} {a : Nat} {w1 w2 w3 : Value} {r : Int32} {h1 : xa_H} (hd : xa_d K y pc (.invokevirtual i) 3 n') (hl : xa_lkV K (K.1 y).1.cls i ci y' 3) (hh : h.2 a = .inr (ci, fs)) (k1 : xa_X K tx d y' 0 (xa_ent (K.1 y').2.2.1 (.ref a :: [w1, w2, w3])) [] h 0 0 (xq (some (.int r)) h1)) (k2 : xa_X K tx (d + 1) y n' ls (.int r :: st) h1 mc ms Q) (c1 : w1.category = 1 := by rfl) (c2 : w2.category = 1 := by rfl) (c3 : w3.category = 1 := by rfl) (hw : (st.map fun v => v.category).sum ≤ 8 := by exact Nat.le_of_ble_eq_true rfl) : xa_X K tx (d + 1) y pc ls (w3 :: w2 :: w1 :: .ref a :: st) h mc ms Q :=
  xx_callV (As := [w1, w2, w3]) (mc' := 0) (ms' := 0) hd hl hh (by intro v hv; simp only [List.mem_cons, List.not_mem_nil, or_false] at hv; rcases hv with rfl | rfl | rfl <;> assumption) hw xq_n k1 (fun v h' q => by obtain ⟨e1, e2⟩ := q; cases e1; cases e2; exact k2)
theorem xc_V3v {i y' : Nat} {ci : Nat} {fs : List Value} {a : Nat} {w1 w2 w3 : Value} {h1 : xa_H} (hd : xa_d K y pc (.invokevirtual i) 3 n') (hl : xa_lkV K (K.1 y).1.cls i ci y' 3) (hh : h.2 a = .inr (ci, fs)) (k1 : xa_X K tx d y' 0 (xa_ent (K.1 y').2.2.1 (.ref a :: [w1, w2, w3])) [] h 0 0 (xq none h1)) (k2 : xa_X K tx (d + 1) y n' ls (st) h1 mc ms Q) (c1 : w1.category = 1 := by rfl) (c2 : w2.category = 1 := by rfl) (c3 : w3.category = 1 := by rfl) (hw : (st.map fun v => v.category).sum ≤ 8 := by exact Nat.le_of_ble_eq_true rfl) : xa_X K tx (d + 1) y pc ls (w3 :: w2 :: w1 :: .ref a :: st) h mc ms Q :=
  xx_callV (As := [w1, w2, w3]) (mc' := 0) (ms' := 0) hd hl hh (by intro v hv; simp only [List.mem_cons, List.not_mem_nil, or_false] at hv; rcases hv with rfl | rfl | rfl <;> assumption) hw xq_n k1 (fun v h' q => by obtain ⟨e1, e2⟩ := q; cases e1; cases e2; exact k2)
theorem xc_V3r {i y' : Nat} {ci : Nat} {fs : List Value} {a : Nat} {w1 w2 w3 : Value} {r : Nat} {h1 : xa_H} (hd : xa_d K y pc (.invokevirtual i) 3 n') (hl : xa_lkV K (K.1 y).1.cls i ci y' 3) (hh : h.2 a = .inr (ci, fs)) (k1 : xa_X K tx d y' 0 (xa_ent (K.1 y').2.2.1 (.ref a :: [w1, w2, w3])) [] h 0 0 (xq (some (.ref r)) h1)) (k2 : xa_X K tx (d + 1) y n' ls (.ref r :: st) h1 mc ms Q) (c1 : w1.category = 1 := by rfl) (c2 : w2.category = 1 := by rfl) (c3 : w3.category = 1 := by rfl) (hw : (st.map fun v => v.category).sum ≤ 8 := by exact Nat.le_of_ble_eq_true rfl) : xa_X K tx (d + 1) y pc ls (w3 :: w2 :: w1 :: .ref a :: st) h mc ms Q :=
  xx_callV (As := [w1, w2, w3]) (mc' := 0) (ms' := 0) hd hl hh (by intro v hv; simp only [List.mem_cons, List.not_mem_nil, or_false] at hv; rcases hv with rfl | rfl | rfl <;> assumption) hw xq_n k1 (fun v h' q => by obtain ⟨e1, e2⟩ := q; cases e1; cases e2; exact k2)
theorem xc_S3 {i y' mc' ms' : Nat} {w1 w2 w3 : Value} {P : xa_Q} (hd : xa_d K y pc (.invokestatic i) 3 n') (hl : xa_lkS K (K.1 y).1.cls i y' 3) (hP : ∀ E h', ¬ P (.inr E) h') (k1 : xa_X K tx d y' 0 (xa_ent (K.1 y').2.2.1 ([w1, w2, w3])) [] h mc' ms' P) (k2 : ∀ (v : Option Value) (h' : xa_H), P (.inl v) h' → xa_X K tx (d + 1) y n' ls (v.toList ++ st) h' mc ms Q) (c1 : w1.category = 1 := by rfl) (c2 : w2.category = 1 := by rfl) (c3 : w3.category = 1 := by rfl) (hw : (st.map fun v => v.category).sum ≤ 8 := by exact Nat.le_of_ble_eq_true rfl) : xa_X K tx (d + 1) y pc ls (w3 :: w2 :: w1 :: st) h (mc + mc') (ms + ms') Q :=
  xx_callS (As := [w1, w2, w3]) hd hl (by intro v hv; simp only [List.mem_cons, List.not_mem_nil, or_false] at hv; rcases hv with rfl | rfl | rfl <;> assumption) hw hP k1 k2
theorem xc_S3i {i y' : Nat} {w1 w2 w3 : Value} {r : Int32} {h1 : xa_H} (hd : xa_d K y pc (.invokestatic i) 3 n') (hl : xa_lkS K (K.1 y).1.cls i y' 3) (k1 : xa_X K tx d y' 0 (xa_ent (K.1 y').2.2.1 ([w1, w2, w3])) [] h 0 0 (xq (some (.int r)) h1)) (k2 : xa_X K tx (d + 1) y n' ls (.int r :: st) h1 mc ms Q) (c1 : w1.category = 1 := by rfl) (c2 : w2.category = 1 := by rfl) (c3 : w3.category = 1 := by rfl) (hw : (st.map fun v => v.category).sum ≤ 8 := by exact Nat.le_of_ble_eq_true rfl) : xa_X K tx (d + 1) y pc ls (w3 :: w2 :: w1 :: st) h mc ms Q :=
  xx_callS (As := [w1, w2, w3]) (mc' := 0) (ms' := 0) hd hl (by intro v hv; simp only [List.mem_cons, List.not_mem_nil, or_false] at hv; rcases hv with rfl | rfl | rfl <;> assumption) hw xq_n k1 (fun v h' q => by obtain ⟨e1, e2⟩ := q; cases e1; cases e2; exact k2)
theorem xc_S3v {i y' : Nat} {w1 w2 w3 : Value} {h1 : xa_H} (hd : xa_d K y pc (.invokestatic i) 3 n') (hl : xa_lkS K (K.1 y).1.cls i y' 3) (k1 : xa_X K tx d y' 0 (xa_ent (K.1 y').2.2.1 ([w1, w2, w3])) [] h 0 0 (xq none h1)) (k2 : xa_X K tx (d + 1) y n' ls (st) h1 mc ms Q) (c1 : w1.category = 1 := by rfl) (c2 : w2.category = 1 := by rfl) (c3 : w3.category = 1 := by rfl) (hw : (st.map fun v => v.category).sum ≤ 8 := by exact Nat.le_of_ble_eq_true rfl) : xa_X K tx (d + 1) y pc ls (w3 :: w2 :: w1 :: st) h mc ms Q :=
  xx_callS (As := [w1, w2, w3]) (mc' := 0) (ms' := 0) hd hl (by intro v hv; simp only [List.mem_cons, List.not_mem_nil, or_false] at hv; rcases hv with rfl | rfl | rfl <;> assumption) hw xq_n k1 (fun v h' q => by obtain ⟨e1, e2⟩ := q; cases e1; cases e2; exact k2)
theorem xc_S3r {i y' : Nat} {w1 w2 w3 : Value} {r : Nat} {h1 : xa_H} (hd : xa_d K y pc (.invokestatic i) 3 n') (hl : xa_lkS K (K.1 y).1.cls i y' 3) (k1 : xa_X K tx d y' 0 (xa_ent (K.1 y').2.2.1 ([w1, w2, w3])) [] h 0 0 (xq (some (.ref r)) h1)) (k2 : xa_X K tx (d + 1) y n' ls (.ref r :: st) h1 mc ms Q) (c1 : w1.category = 1 := by rfl) (c2 : w2.category = 1 := by rfl) (c3 : w3.category = 1 := by rfl) (hw : (st.map fun v => v.category).sum ≤ 8 := by exact Nat.le_of_ble_eq_true rfl) : xa_X K tx (d + 1) y pc ls (w3 :: w2 :: w1 :: st) h mc ms Q :=
  xx_callS (As := [w1, w2, w3]) (mc' := 0) (ms' := 0) hd hl (by intro v hv; simp only [List.mem_cons, List.not_mem_nil, or_false] at hv; rcases hv with rfl | rfl | rfl <;> assumption) hw xq_n k1 (fun v h' q => by obtain ⟨e1, e2⟩ := q; cases e1; cases e2; exact k2)
theorem xc_I3 {i y' mc' ms' : Nat} {a : Nat} {w1 w2 w3 : Value} {P : xa_Q} (hd : xa_d K y pc (.invokespecial i) 3 n') (hl : xa_lkI K (K.1 y).1.cls i y' 3) (hP : ∀ E h', ¬ P (.inr E) h') (k1 : xa_X K tx d y' 0 (xa_ent (K.1 y').2.2.1 (.ref a :: [w1, w2, w3])) [] h mc' ms' P) (k2 : ∀ (v : Option Value) (h' : xa_H), P (.inl v) h' → xa_X K tx (d + 1) y n' ls (v.toList ++ st) h' mc ms Q) (c1 : w1.category = 1 := by rfl) (c2 : w2.category = 1 := by rfl) (c3 : w3.category = 1 := by rfl) (hw : (st.map fun v => v.category).sum ≤ 8 := by exact Nat.le_of_ble_eq_true rfl) : xa_X K tx (d + 1) y pc ls (w3 :: w2 :: w1 :: .ref a :: st) h (mc + mc') (ms + ms') Q :=
  xx_callI (As := [w1, w2, w3]) hd hl (by intro v hv; simp only [List.mem_cons, List.not_mem_nil, or_false] at hv; rcases hv with rfl | rfl | rfl <;> assumption) hw hP k1 k2
theorem xc_I3i {i y' : Nat} {a : Nat} {w1 w2 w3 : Value} {r : Int32} {h1 : xa_H} (hd : xa_d K y pc (.invokespecial i) 3 n') (hl : xa_lkI K (K.1 y).1.cls i y' 3) (k1 : xa_X K tx d y' 0 (xa_ent (K.1 y').2.2.1 (.ref a :: [w1, w2, w3])) [] h 0 0 (xq (some (.int r)) h1)) (k2 : xa_X K tx (d + 1) y n' ls (.int r :: st) h1 mc ms Q) (c1 : w1.category = 1 := by rfl) (c2 : w2.category = 1 := by rfl) (c3 : w3.category = 1 := by rfl) (hw : (st.map fun v => v.category).sum ≤ 8 := by exact Nat.le_of_ble_eq_true rfl) : xa_X K tx (d + 1) y pc ls (w3 :: w2 :: w1 :: .ref a :: st) h mc ms Q :=
  xx_callI (As := [w1, w2, w3]) (mc' := 0) (ms' := 0) hd hl (by intro v hv; simp only [List.mem_cons, List.not_mem_nil, or_false] at hv; rcases hv with rfl | rfl | rfl <;> assumption) hw xq_n k1 (fun v h' q => by obtain ⟨e1, e2⟩ := q; cases e1; cases e2; exact k2)
theorem xc_I3v {i y' : Nat} {a : Nat} {w1 w2 w3 : Value} {h1 : xa_H} (hd : xa_d K y pc (.invokespecial i) 3 n') (hl : xa_lkI K (K.1 y).1.cls i y' 3) (k1 : xa_X K tx d y' 0 (xa_ent (K.1 y').2.2.1 (.ref a :: [w1, w2, w3])) [] h 0 0 (xq none h1)) (k2 : xa_X K tx (d + 1) y n' ls (st) h1 mc ms Q) (c1 : w1.category = 1 := by rfl) (c2 : w2.category = 1 := by rfl) (c3 : w3.category = 1 := by rfl) (hw : (st.map fun v => v.category).sum ≤ 8 := by exact Nat.le_of_ble_eq_true rfl) : xa_X K tx (d + 1) y pc ls (w3 :: w2 :: w1 :: .ref a :: st) h mc ms Q :=
  xx_callI (As := [w1, w2, w3]) (mc' := 0) (ms' := 0) hd hl (by intro v hv; simp only [List.mem_cons, List.not_mem_nil, or_false] at hv; rcases hv with rfl | rfl | rfl <;> assumption) hw xq_n k1 (fun v h' q => by obtain ⟨e1, e2⟩ := q; cases e1; cases e2; exact k2)
theorem xc_I3r {i y' : Nat} {a : Nat} {w1 w2 w3 : Value} {r : Nat} {h1 : xa_H} (hd : xa_d K y pc (.invokespecial i) 3 n') (hl : xa_lkI K (K.1 y).1.cls i y' 3) (k1 : xa_X K tx d y' 0 (xa_ent (K.1 y').2.2.1 (.ref a :: [w1, w2, w3])) [] h 0 0 (xq (some (.ref r)) h1)) (k2 : xa_X K tx (d + 1) y n' ls (.ref r :: st) h1 mc ms Q) (c1 : w1.category = 1 := by rfl) (c2 : w2.category = 1 := by rfl) (c3 : w3.category = 1 := by rfl) (hw : (st.map fun v => v.category).sum ≤ 8 := by exact Nat.le_of_ble_eq_true rfl) : xa_X K tx (d + 1) y pc ls (w3 :: w2 :: w1 :: .ref a :: st) h mc ms Q :=
  xx_callI (As := [w1, w2, w3]) (mc' := 0) (ms' := 0) hd hl (by intro v hv; simp only [List.mem_cons, List.not_mem_nil, or_false] at hv; rcases hv with rfl | rfl | rfl <;> assumption) hw xq_n k1 (fun v h' q => by obtain ⟨e1, e2⟩ := q; cases e1; cases e2; exact k2)
theorem xc_V4 {i y' mc' ms' : Nat} {fs : List Value} {ci : Nat} {a : Nat} {w1 w2 w3 w4 : Value} {P : xa_Q} (hd : xa_d K y pc (.invokevirtual i) 3 n') (hl : xa_lkV K (K.1 y).1.cls i ci y' 4) (hh : h.2 a = .inr (ci, fs)) (hP : ∀ E h', ¬ P (.inr E) h') (k1 : xa_X K tx d y' 0 (xa_ent (K.1 y').2.2.1 (.ref a :: [w1, w2, w3, w4])) [] h mc' ms' P) (k2 : ∀ (v : Option Value) (h' : xa_H), P (.inl v) h' → xa_X K tx (d + 1) y n' ls (v.toList ++ st) h' mc ms Q) (c1 : w1.category = 1 := by rfl) (c2 : w2.category = 1 := by rfl) (c3 : w3.category = 1 := by rfl) (c4 : w4.category = 1 := by rfl) (hw : (st.map fun v => v.category).sum ≤ 8 := by exact Nat.le_of_ble_eq_true rfl) : xa_X K tx (d + 1) y pc ls (w4 :: w3 :: w2 :: w1 :: .ref a :: st) h (mc + mc') (ms + ms') Q :=
  xx_callV (As := [w1, w2, w3, w4]) hd hl hh (by intro v hv; simp only [List.mem_cons, List.not_mem_nil, or_false] at hv; rcases hv with rfl | rfl | rfl | rfl <;> assumption) hw hP k1 k2
theorem xc_V4i {i y' : Nat} {ci : Nat} {fs : List Value} {a : Nat} {w1 w2 w3 w4 : Value} {r : Int32} {h1 : xa_H} (hd : xa_d K y pc (.invokevirtual i) 3 n') (hl : xa_lkV K (K.1 y).1.cls i ci y' 4) (hh : h.2 a = .inr (ci, fs)) (k1 : xa_X K tx d y' 0 (xa_ent (K.1 y').2.2.1 (.ref a :: [w1, w2, w3, w4])) [] h 0 0 (xq (some (.int r)) h1)) (k2 : xa_X K tx (d + 1) y n' ls (.int r :: st) h1 mc ms Q) (c1 : w1.category = 1 := by rfl) (c2 : w2.category = 1 := by rfl) (c3 : w3.category = 1 := by rfl) (c4 : w4.category = 1 := by rfl) (hw : (st.map fun v => v.category).sum ≤ 8 := by exact Nat.le_of_ble_eq_true rfl) : xa_X K tx (d + 1) y pc ls (w4 :: w3 :: w2 :: w1 :: .ref a :: st) h mc ms Q :=
  xx_callV (As := [w1, w2, w3, w4]) (mc' := 0) (ms' := 0) hd hl hh (by intro v hv; simp only [List.mem_cons, List.not_mem_nil, or_false] at hv; rcases hv with rfl | rfl | rfl | rfl <;> assumption) hw xq_n k1 (fun v h' q => by obtain ⟨e1, e2⟩ := q; cases e1; cases e2; exact k2)
theorem xc_V4v {i y' : Nat} {ci : Nat} {fs : List Value} {a : Nat} {w1 w2 w3 w4 : Value} {h1 : xa_H} (hd : xa_d K y pc (.invokevirtual i) 3 n') (hl : xa_lkV K (K.1 y).1.cls i ci y' 4) (hh : h.2 a = .inr (ci, fs)) (k1 : xa_X K tx d y' 0 (xa_ent (K.1 y').2.2.1 (.ref a :: [w1, w2, w3, w4])) [] h 0 0 (xq none h1)) (k2 : xa_X K tx (d + 1) y n' ls (st) h1 mc ms Q) (c1 : w1.category = 1 := by rfl) (c2 : w2.category = 1 := by rfl) (c3 : w3.category = 1 := by rfl) (c4 : w4.category = 1 := by rfl) (hw : (st.map fun v => v.category).sum ≤ 8 := by exact Nat.le_of_ble_eq_true rfl) : xa_X K tx (d + 1) y pc ls (w4 :: w3 :: w2 :: w1 :: .ref a :: st) h mc ms Q :=
  xx_callV (As := [w1, w2, w3, w4]) (mc' := 0) (ms' := 0) hd hl hh (by intro v hv; simp only [List.mem_cons, List.not_mem_nil, or_false] at hv; rcases hv with rfl | rfl | rfl | rfl <;> assumption) hw xq_n k1 (fun v h' q => by obtain ⟨e1, e2⟩ := q; cases e1; cases e2; exact k2)
theorem xc_V4r {i y' : Nat} {ci : Nat} {fs : List Value} {a : Nat} {w1 w2 w3 w4 : Value} {r : Nat} {h1 : xa_H} (hd : xa_d K y pc (.invokevirtual i) 3 n') (hl : xa_lkV K (K.1 y).1.cls i ci y' 4) (hh : h.2 a = .inr (ci, fs)) (k1 : xa_X K tx d y' 0 (xa_ent (K.1 y').2.2.1 (.ref a :: [w1, w2, w3, w4])) [] h 0 0 (xq (some (.ref r)) h1)) (k2 : xa_X K tx (d + 1) y n' ls (.ref r :: st) h1 mc ms Q) (c1 : w1.category = 1 := by rfl) (c2 : w2.category = 1 := by rfl) (c3 : w3.category = 1 := by rfl) (c4 : w4.category = 1 := by rfl) (hw : (st.map fun v => v.category).sum ≤ 8 := by exact Nat.le_of_ble_eq_true rfl) : xa_X K tx (d + 1) y pc ls (w4 :: w3 :: w2 :: w1 :: .ref a :: st) h mc ms Q :=
  xx_callV (As := [w1, w2, w3, w4]) (mc' := 0) (ms' := 0) hd hl hh (by intro v hv; simp only [List.mem_cons, List.not_mem_nil, or_false] at hv; rcases hv with rfl | rfl | rfl | rfl <;> assumption) hw xq_n k1 (fun v h' q => by obtain ⟨e1, e2⟩ := q; cases e1; cases e2; exact k2)
theorem xc_S4 {i y' mc' ms' : Nat} {w1 w2 w3 w4 : Value} {P : xa_Q} (hd : xa_d K y pc (.invokestatic i) 3 n') (hl : xa_lkS K (K.1 y).1.cls i y' 4) (hP : ∀ E h', ¬ P (.inr E) h') (k1 : xa_X K tx d y' 0 (xa_ent (K.1 y').2.2.1 ([w1, w2, w3, w4])) [] h mc' ms' P) (k2 : ∀ (v : Option Value) (h' : xa_H), P (.inl v) h' → xa_X K tx (d + 1) y n' ls (v.toList ++ st) h' mc ms Q) (c1 : w1.category = 1 := by rfl) (c2 : w2.category = 1 := by rfl) (c3 : w3.category = 1 := by rfl) (c4 : w4.category = 1 := by rfl) (hw : (st.map fun v => v.category).sum ≤ 8 := by exact Nat.le_of_ble_eq_true rfl) : xa_X K tx (d + 1) y pc ls (w4 :: w3 :: w2 :: w1 :: st) h (mc + mc') (ms + ms') Q :=
  xx_callS (As := [w1, w2, w3, w4]) hd hl (by intro v hv; simp only [List.mem_cons, List.not_mem_nil, or_false] at hv; rcases hv with rfl | rfl | rfl | rfl <;> assumption) hw hP k1 k2
theorem xc_S4i {i y' : Nat} {w1 w2 w3 w4 : Value} {r : Int32} {h1 : xa_H} (hd : xa_d K y pc (.invokestatic i) 3 n') (hl : xa_lkS K (K.1 y).1.cls i y' 4) (k1 : xa_X K tx d y' 0 (xa_ent (K.1 y').2.2.1 ([w1, w2, w3, w4])) [] h 0 0 (xq (some (.int r)) h1)) (k2 : xa_X K tx (d + 1) y n' ls (.int r :: st) h1 mc ms Q) (c1 : w1.category = 1 := by rfl) (c2 : w2.category = 1 := by rfl) (c3 : w3.category = 1 := by rfl) (c4 : w4.category = 1 := by rfl) (hw : (st.map fun v => v.category).sum ≤ 8 := by exact Nat.le_of_ble_eq_true rfl) : xa_X K tx (d + 1) y pc ls (w4 :: w3 :: w2 :: w1 :: st) h mc ms Q :=
  xx_callS (As := [w1, w2, w3, w4]) (mc' := 0) (ms' := 0) hd hl (by intro v hv; simp only [List.mem_cons, List.not_mem_nil, or_false] at hv; rcases hv with rfl | rfl | rfl | rfl <;> assumption) hw xq_n k1 (fun v h' q => by obtain ⟨e1, e2⟩ := q; cases e1; cases e2; exact k2)
theorem xc_S4v {i y' : Nat} {w1 w2 w3 w4 : Value} {h1 : xa_H} (hd : xa_d K y pc (.invokestatic i) 3 n') (hl : xa_lkS K (K.1 y).1.cls i y' 4) (k1 : xa_X K tx d y' 0 (xa_ent (K.1 y').2.2.1 ([w1, w2, w3, w4])) [] h 0 0 (xq none h1)) (k2 : xa_X K tx (d + 1) y n' ls (st) h1 mc ms Q) (c1 : w1.category = 1 := by rfl) (c2 : w2.category = 1 := by rfl) (c3 : w3.category = 1 := by rfl) (c4 : w4.category = 1 := by rfl) (hw : (st.map fun v => v.category).sum ≤ 8 := by exact Nat.le_of_ble_eq_true rfl) : xa_X K tx (d + 1) y pc ls (w4 :: w3 :: w2 :: w1 :: st) h mc ms Q :=
  xx_callS (As := [w1, w2, w3, w4]) (mc' := 0) (ms' := 0) hd hl (by intro v hv; simp only [List.mem_cons, List.not_mem_nil, or_false] at hv; rcases hv with rfl | rfl | rfl | rfl <;> assumption) hw xq_n k1 (fun v h' q => by obtain ⟨e1, e2⟩ := q; cases e1; cases e2; exact k2)
theorem xc_S4r {i y' : Nat} {w1 w2 w3 w4 : Value} {r : Nat} {h1 : xa_H} (hd : xa_d K y pc (.invokestatic i) 3 n') (hl : xa_lkS K (K.1 y).1.cls i y' 4) (k1 : xa_X K tx d y' 0 (xa_ent (K.1 y').2.2.1 ([w1, w2, w3, w4])) [] h 0 0 (xq (some (.ref r)) h1)) (k2 : xa_X K tx (d + 1) y n' ls (.ref r :: st) h1 mc ms Q) (c1 : w1.category = 1 := by rfl) (c2 : w2.category = 1 := by rfl) (c3 : w3.category = 1 := by rfl) (c4 : w4.category = 1 := by rfl) (hw : (st.map fun v => v.category).sum ≤ 8 := by exact Nat.le_of_ble_eq_true rfl) : xa_X K tx (d + 1) y pc ls (w4 :: w3 :: w2 :: w1 :: st) h mc ms Q :=
  xx_callS (As := [w1, w2, w3, w4]) (mc' := 0) (ms' := 0) hd hl (by intro v hv; simp only [List.mem_cons, List.not_mem_nil, or_false] at hv; rcases hv with rfl | rfl | rfl | rfl <;> assumption) hw xq_n k1 (fun v h' q => by obtain ⟨e1, e2⟩ := q; cases e1; cases e2; exact k2)
theorem xc_I4 {i y' mc' ms' : Nat} {a : Nat} {w1 w2 w3 w4 : Value} {P : xa_Q} (hd : xa_d K y pc (.invokespecial i) 3 n') (hl : xa_lkI K (K.1 y).1.cls i y' 4) (hP : ∀ E h', ¬ P (.inr E) h') (k1 : xa_X K tx d y' 0 (xa_ent (K.1 y').2.2.1 (.ref a :: [w1, w2, w3, w4])) [] h mc' ms' P) (k2 : ∀ (v : Option Value) (h' : xa_H), P (.inl v) h' → xa_X K tx (d + 1) y n' ls (v.toList ++ st) h' mc ms Q) (c1 : w1.category = 1 := by rfl) (c2 : w2.category = 1 := by rfl) (c3 : w3.category = 1 := by rfl) (c4 : w4.category = 1 := by rfl) (hw : (st.map fun v => v.category).sum ≤ 8 := by exact Nat.le_of_ble_eq_true rfl) : xa_X K tx (d + 1) y pc ls (w4 :: w3 :: w2 :: w1 :: .ref a :: st) h (mc + mc') (ms + ms') Q :=
  xx_callI (As := [w1, w2, w3, w4]) hd hl (by intro v hv; simp only [List.mem_cons, List.not_mem_nil, or_false] at hv; rcases hv with rfl | rfl | rfl | rfl <;> assumption) hw hP k1 k2
theorem xc_I4i {i y' : Nat} {a : Nat} {w1 w2 w3 w4 : Value} {r : Int32} {h1 : xa_H} (hd : xa_d K y pc (.invokespecial i) 3 n') (hl : xa_lkI K (K.1 y).1.cls i y' 4) (k1 : xa_X K tx d y' 0 (xa_ent (K.1 y').2.2.1 (.ref a :: [w1, w2, w3, w4])) [] h 0 0 (xq (some (.int r)) h1)) (k2 : xa_X K tx (d + 1) y n' ls (.int r :: st) h1 mc ms Q) (c1 : w1.category = 1 := by rfl) (c2 : w2.category = 1 := by rfl) (c3 : w3.category = 1 := by rfl) (c4 : w4.category = 1 := by rfl) (hw : (st.map fun v => v.category).sum ≤ 8 := by exact Nat.le_of_ble_eq_true rfl) : xa_X K tx (d + 1) y pc ls (w4 :: w3 :: w2 :: w1 :: .ref a :: st) h mc ms Q :=
  xx_callI (As := [w1, w2, w3, w4]) (mc' := 0) (ms' := 0) hd hl (by intro v hv; simp only [List.mem_cons, List.not_mem_nil, or_false] at hv; rcases hv with rfl | rfl | rfl | rfl <;> assumption) hw xq_n k1 (fun v h' q => by obtain ⟨e1, e2⟩ := q; cases e1; cases e2; exact k2)
theorem xc_I4v {i y' : Nat} {a : Nat} {w1 w2 w3 w4 : Value} {h1 : xa_H} (hd : xa_d K y pc (.invokespecial i) 3 n') (hl : xa_lkI K (K.1 y).1.cls i y' 4) (k1 : xa_X K tx d y' 0 (xa_ent (K.1 y').2.2.1 (.ref a :: [w1, w2, w3, w4])) [] h 0 0 (xq none h1)) (k2 : xa_X K tx (d + 1) y n' ls (st) h1 mc ms Q) (c1 : w1.category = 1 := by rfl) (c2 : w2.category = 1 := by rfl) (c3 : w3.category = 1 := by rfl) (c4 : w4.category = 1 := by rfl) (hw : (st.map fun v => v.category).sum ≤ 8 := by exact Nat.le_of_ble_eq_true rfl) : xa_X K tx (d + 1) y pc ls (w4 :: w3 :: w2 :: w1 :: .ref a :: st) h mc ms Q :=
  xx_callI (As := [w1, w2, w3, w4]) (mc' := 0) (ms' := 0) hd hl (by intro v hv; simp only [List.mem_cons, List.not_mem_nil, or_false] at hv; rcases hv with rfl | rfl | rfl | rfl <;> assumption) hw xq_n k1 (fun v h' q => by obtain ⟨e1, e2⟩ := q; cases e1; cases e2; exact k2)
theorem xc_I4r {i y' : Nat} {a : Nat} {w1 w2 w3 w4 : Value} {r : Nat} {h1 : xa_H} (hd : xa_d K y pc (.invokespecial i) 3 n') (hl : xa_lkI K (K.1 y).1.cls i y' 4) (k1 : xa_X K tx d y' 0 (xa_ent (K.1 y').2.2.1 (.ref a :: [w1, w2, w3, w4])) [] h 0 0 (xq (some (.ref r)) h1)) (k2 : xa_X K tx (d + 1) y n' ls (.ref r :: st) h1 mc ms Q) (c1 : w1.category = 1 := by rfl) (c2 : w2.category = 1 := by rfl) (c3 : w3.category = 1 := by rfl) (c4 : w4.category = 1 := by rfl) (hw : (st.map fun v => v.category).sum ≤ 8 := by exact Nat.le_of_ble_eq_true rfl) : xa_X K tx (d + 1) y pc ls (w4 :: w3 :: w2 :: w1 :: .ref a :: st) h mc ms Q :=
  xx_callI (As := [w1, w2, w3, w4]) (mc' := 0) (ms' := 0) hd hl (by intro v hv; simp only [List.mem_cons, List.not_mem_nil, or_false] at hv; rcases hv with rfl | rfl | rfl | rfl <;> assumption) hw xq_n k1 (fun v h' q => by obtain ⟨e1, e2⟩ := q; cases e1; cases e2; exact k2)
theorem xc_V5 {i y' mc' ms' : Nat} {fs : List Value} {ci : Nat} {a : Nat} {w1 w2 w3 w4 w5 : Value} {P : xa_Q} (hd : xa_d K y pc (.invokevirtual i) 3 n') (hl : xa_lkV K (K.1 y).1.cls i ci y' 5) (hh : h.2 a = .inr (ci, fs)) (hP : ∀ E h', ¬ P (.inr E) h') (k1 : xa_X K tx d y' 0 (xa_ent (K.1 y').2.2.1 (.ref a :: [w1, w2, w3, w4, w5])) [] h mc' ms' P) (k2 : ∀ (v : Option Value) (h' : xa_H), P (.inl v) h' → xa_X K tx (d + 1) y n' ls (v.toList ++ st) h' mc ms Q) (c1 : w1.category = 1 := by rfl) (c2 : w2.category = 1 := by rfl) (c3 : w3.category = 1 := by rfl) (c4 : w4.category = 1 := by rfl) (c5 : w5.category = 1 := by rfl) (hw : (st.map fun v => v.category).sum ≤ 8 := by exact Nat.le_of_ble_eq_true rfl) : xa_X K tx (d + 1) y pc ls (w5 :: w4 :: w3 :: w2 :: w1 :: .ref a :: st) h (mc + mc') (ms + ms') Q :=
  xx_callV (As := [w1, w2, w3, w4, w5]) hd hl hh (by intro v hv; simp only [List.mem_cons, List.not_mem_nil, or_false] at hv; rcases hv with rfl | rfl | rfl | rfl | rfl <;> assumption) hw hP k1 k2
theorem xc_V5i {i y' : Nat} {ci : Nat} {fs : List Value} {a : Nat} {w1 w2 w3 w4 w5 : Value} {r : Int32} {h1 : xa_H} (hd : xa_d K y pc (.invokevirtual i) 3 n') (hl : xa_lkV K (K.1 y).1.cls i ci y' 5) (hh : h.2 a = .inr (ci, fs)) (k1 : xa_X K tx d y' 0 (xa_ent (K.1 y').2.2.1 (.ref a :: [w1, w2, w3, w4, w5])) [] h 0 0 (xq (some (.int r)) h1)) (k2 : xa_X K tx (d + 1) y n' ls (.int r :: st) h1 mc ms Q) (c1 : w1.category = 1 := by rfl) (c2 : w2.category = 1 := by rfl) (c3 : w3.category = 1 := by rfl) (c4 : w4.category = 1 := by rfl) (c5 : w5.category = 1 := by rfl) (hw : (st.map fun v => v.category).sum ≤ 8 := by exact Nat.le_of_ble_eq_true rfl) : xa_X K tx (d + 1) y pc ls (w5 :: w4 :: w3 :: w2 :: w1 :: .ref a :: st) h mc ms Q :=
  xx_callV (As := [w1, w2, w3, w4, w5]) (mc' := 0) (ms' := 0) hd hl hh (by intro v hv; simp only [List.mem_cons, List.not_mem_nil, or_false] at hv; rcases hv with rfl | rfl | rfl | rfl | rfl <;> assumption) hw xq_n k1 (fun v h' q => by obtain ⟨e1, e2⟩ := q; cases e1; cases e2; exact k2)
theorem xc_V5v {i y' : Nat} {ci : Nat} {fs : List Value} {a : Nat} {w1 w2 w3 w4 w5 : Value} {h1 : xa_H} (hd : xa_d K y pc (.invokevirtual i) 3 n') (hl : xa_lkV K (K.1 y).1.cls i ci y' 5) (hh : h.2 a = .inr (ci, fs)) (k1 : xa_X K tx d y' 0 (xa_ent (K.1 y').2.2.1 (.ref a :: [w1, w2, w3, w4, w5])) [] h 0 0 (xq none h1)) (k2 : xa_X K tx (d + 1) y n' ls (st) h1 mc ms Q) (c1 : w1.category = 1 := by rfl) (c2 : w2.category = 1 := by rfl) (c3 : w3.category = 1 := by rfl) (c4 : w4.category = 1 := by rfl) (c5 : w5.category = 1 := by rfl) (hw : (st.map fun v => v.category).sum ≤ 8 := by exact Nat.le_of_ble_eq_true rfl) : xa_X K tx (d + 1) y pc ls (w5 :: w4 :: w3 :: w2 :: w1 :: .ref a :: st) h mc ms Q :=
  xx_callV (As := [w1, w2, w3, w4, w5]) (mc' := 0) (ms' := 0) hd hl hh (by intro v hv; simp only [List.mem_cons, List.not_mem_nil, or_false] at hv; rcases hv with rfl | rfl | rfl | rfl | rfl <;> assumption) hw xq_n k1 (fun v h' q => by obtain ⟨e1, e2⟩ := q; cases e1; cases e2; exact k2)
theorem xc_V5r {i y' : Nat} {ci : Nat} {fs : List Value} {a : Nat} {w1 w2 w3 w4 w5 : Value} {r : Nat} {h1 : xa_H} (hd : xa_d K y pc (.invokevirtual i) 3 n') (hl : xa_lkV K (K.1 y).1.cls i ci y' 5) (hh : h.2 a = .inr (ci, fs)) (k1 : xa_X K tx d y' 0 (xa_ent (K.1 y').2.2.1 (.ref a :: [w1, w2, w3, w4, w5])) [] h 0 0 (xq (some (.ref r)) h1)) (k2 : xa_X K tx (d + 1) y n' ls (.ref r :: st) h1 mc ms Q) (c1 : w1.category = 1 := by rfl) (c2 : w2.category = 1 := by rfl) (c3 : w3.category = 1 := by rfl) (c4 : w4.category = 1 := by rfl) (c5 : w5.category = 1 := by rfl) (hw : (st.map fun v => v.category).sum ≤ 8 := by exact Nat.le_of_ble_eq_true rfl) : xa_X K tx (d + 1) y pc ls (w5 :: w4 :: w3 :: w2 :: w1 :: .ref a :: st) h mc ms Q :=
  xx_callV (As := [w1, w2, w3, w4, w5]) (mc' := 0) (ms' := 0) hd hl hh (by intro v hv; simp only [List.mem_cons, List.not_mem_nil, or_false] at hv; rcases hv with rfl | rfl | rfl | rfl | rfl <;> assumption) hw xq_n k1 (fun v h' q => by obtain ⟨e1, e2⟩ := q; cases e1; cases e2; exact k2)
theorem xc_S5 {i y' mc' ms' : Nat} {w1 w2 w3 w4 w5 : Value} {P : xa_Q} (hd : xa_d K y pc (.invokestatic i) 3 n') (hl : xa_lkS K (K.1 y).1.cls i y' 5) (hP : ∀ E h', ¬ P (.inr E) h') (k1 : xa_X K tx d y' 0 (xa_ent (K.1 y').2.2.1 ([w1, w2, w3, w4, w5])) [] h mc' ms' P) (k2 : ∀ (v : Option Value) (h' : xa_H), P (.inl v) h' → xa_X K tx (d + 1) y n' ls (v.toList ++ st) h' mc ms Q) (c1 : w1.category = 1 := by rfl) (c2 : w2.category = 1 := by rfl) (c3 : w3.category = 1 := by rfl) (c4 : w4.category = 1 := by rfl) (c5 : w5.category = 1 := by rfl) (hw : (st.map fun v => v.category).sum ≤ 8 := by exact Nat.le_of_ble_eq_true rfl) : xa_X K tx (d + 1) y pc ls (w5 :: w4 :: w3 :: w2 :: w1 :: st) h (mc + mc') (ms + ms') Q :=
  xx_callS (As := [w1, w2, w3, w4, w5]) hd hl (by intro v hv; simp only [List.mem_cons, List.not_mem_nil, or_false] at hv; rcases hv with rfl | rfl | rfl | rfl | rfl <;> assumption) hw hP k1 k2
theorem xc_S5i {i y' : Nat} {w1 w2 w3 w4 w5 : Value} {r : Int32} {h1 : xa_H} (hd : xa_d K y pc (.invokestatic i) 3 n') (hl : xa_lkS K (K.1 y).1.cls i y' 5) (k1 : xa_X K tx d y' 0 (xa_ent (K.1 y').2.2.1 ([w1, w2, w3, w4, w5])) [] h 0 0 (xq (some (.int r)) h1)) (k2 : xa_X K tx (d + 1) y n' ls (.int r :: st) h1 mc ms Q) (c1 : w1.category = 1 := by rfl) (c2 : w2.category = 1 := by rfl) (c3 : w3.category = 1 := by rfl) (c4 : w4.category = 1 := by rfl) (c5 : w5.category = 1 := by rfl) (hw : (st.map fun v => v.category).sum ≤ 8 := by exact Nat.le_of_ble_eq_true rfl) : xa_X K tx (d + 1) y pc ls (w5 :: w4 :: w3 :: w2 :: w1 :: st) h mc ms Q :=
  xx_callS (As := [w1, w2, w3, w4, w5]) (mc' := 0) (ms' := 0) hd hl (by intro v hv; simp only [List.mem_cons, List.not_mem_nil, or_false] at hv; rcases hv with rfl | rfl | rfl | rfl | rfl <;> assumption) hw xq_n k1 (fun v h' q => by obtain ⟨e1, e2⟩ := q; cases e1; cases e2; exact k2)
theorem xc_S5v {i y' : Nat} {w1 w2 w3 w4 w5 : Value} {h1 : xa_H} (hd : xa_d K y pc (.invokestatic i) 3 n') (hl : xa_lkS K (K.1 y).1.cls i y' 5) (k1 : xa_X K tx d y' 0 (xa_ent (K.1 y').2.2.1 ([w1, w2, w3, w4, w5])) [] h 0 0 (xq none h1)) (k2 : xa_X K tx (d + 1) y n' ls (st) h1 mc ms Q) (c1 : w1.category = 1 := by rfl) (c2 : w2.category = 1 := by rfl) (c3 : w3.category = 1 := by rfl) (c4 : w4.category = 1 := by rfl) (c5 : w5.category = 1 := by rfl) (hw : (st.map fun v => v.category).sum ≤ 8 := by exact Nat.le_of_ble_eq_true rfl) : xa_X K tx (d + 1) y pc ls (w5 :: w4 :: w3 :: w2 :: w1 :: st) h mc ms Q :=
  xx_callS (As := [w1, w2, w3, w4, w5]) (mc' := 0) (ms' := 0) hd hl (by intro v hv; simp only [List.mem_cons, List.not_mem_nil, or_false] at hv; rcases hv with rfl | rfl | rfl | rfl | rfl <;> assumption) hw xq_n k1 (fun v h' q => by obtain ⟨e1, e2⟩ := q; cases e1; cases e2; exact k2)
theorem xc_S5r {i y' : Nat} {w1 w2 w3 w4 w5 : Value} {r : Nat} {h1 : xa_H} (hd : xa_d K y pc (.invokestatic i) 3 n') (hl : xa_lkS K (K.1 y).1.cls i y' 5) (k1 : xa_X K tx d y' 0 (xa_ent (K.1 y').2.2.1 ([w1, w2, w3, w4, w5])) [] h 0 0 (xq (some (.ref r)) h1)) (k2 : xa_X K tx (d + 1) y n' ls (.ref r :: st) h1 mc ms Q) (c1 : w1.category = 1 := by rfl) (c2 : w2.category = 1 := by rfl) (c3 : w3.category = 1 := by rfl) (c4 : w4.category = 1 := by rfl) (c5 : w5.category = 1 := by rfl) (hw : (st.map fun v => v.category).sum ≤ 8 := by exact Nat.le_of_ble_eq_true rfl) : xa_X K tx (d + 1) y pc ls (w5 :: w4 :: w3 :: w2 :: w1 :: st) h mc ms Q :=
  xx_callS (As := [w1, w2, w3, w4, w5]) (mc' := 0) (ms' := 0) hd hl (by intro v hv; simp only [List.mem_cons, List.not_mem_nil, or_false] at hv; rcases hv with rfl | rfl | rfl | rfl | rfl <;> assumption) hw xq_n k1 (fun v h' q => by obtain ⟨e1, e2⟩ := q; cases e1; cases e2; exact k2)
theorem xc_I5 {i y' mc' ms' : Nat} {a : Nat} {w1 w2 w3 w4 w5 : Value} {P : xa_Q} (hd : xa_d K y pc (.invokespecial i) 3 n') (hl : xa_lkI K (K.1 y).1.cls i y' 5) (hP : ∀ E h', ¬ P (.inr E) h') (k1 : xa_X K tx d y' 0 (xa_ent (K.1 y').2.2.1 (.ref a :: [w1, w2, w3, w4, w5])) [] h mc' ms' P) (k2 : ∀ (v : Option Value) (h' : xa_H), P (.inl v) h' → xa_X K tx (d + 1) y n' ls (v.toList ++ st) h' mc ms Q) (c1 : w1.category = 1 := by rfl) (c2 : w2.category = 1 := by rfl) (c3 : w3.category = 1 := by rfl) (c4 : w4.category = 1 := by rfl) (c5 : w5.category = 1 := by rfl) (hw : (st.map fun v => v.category).sum ≤ 8 := by exact Nat.le_of_ble_eq_true rfl) : xa_X K tx (d + 1) y pc ls (w5 :: w4 :: w3 :: w2 :: w1 :: .ref a :: st) h (mc + mc') (ms + ms') Q :=
  xx_callI (As := [w1, w2, w3, w4, w5]) hd hl (by intro v hv; simp only [List.mem_cons, List.not_mem_nil, or_false] at hv; rcases hv with rfl | rfl | rfl | rfl | rfl <;> assumption) hw hP k1 k2
theorem xc_I5i {i y' : Nat} {a : Nat} {w1 w2 w3 w4 w5 : Value} {r : Int32} {h1 : xa_H} (hd : xa_d K y pc (.invokespecial i) 3 n') (hl : xa_lkI K (K.1 y).1.cls i y' 5) (k1 : xa_X K tx d y' 0 (xa_ent (K.1 y').2.2.1 (.ref a :: [w1, w2, w3, w4, w5])) [] h 0 0 (xq (some (.int r)) h1)) (k2 : xa_X K tx (d + 1) y n' ls (.int r :: st) h1 mc ms Q) (c1 : w1.category = 1 := by rfl) (c2 : w2.category = 1 := by rfl) (c3 : w3.category = 1 := by rfl) (c4 : w4.category = 1 := by rfl) (c5 : w5.category = 1 := by rfl) (hw : (st.map fun v => v.category).sum ≤ 8 := by exact Nat.le_of_ble_eq_true rfl) : xa_X K tx (d + 1) y pc ls (w5 :: w4 :: w3 :: w2 :: w1 :: .ref a :: st) h mc ms Q :=
  xx_callI (As := [w1, w2, w3, w4, w5]) (mc' := 0) (ms' := 0) hd hl (by intro v hv; simp only [List.mem_cons, List.not_mem_nil, or_false] at hv; rcases hv with rfl | rfl | rfl | rfl | rfl <;> assumption) hw xq_n k1 (fun v h' q => by obtain ⟨e1, e2⟩ := q; cases e1; cases e2; exact k2)
theorem xc_I5v {i y' : Nat} {a : Nat} {w1 w2 w3 w4 w5 : Value} {h1 : xa_H} (hd : xa_d K y pc (.invokespecial i) 3 n') (hl : xa_lkI K (K.1 y).1.cls i y' 5) (k1 : xa_X K tx d y' 0 (xa_ent (K.1 y').2.2.1 (.ref a :: [w1, w2, w3, w4, w5])) [] h 0 0 (xq none h1)) (k2 : xa_X K tx (d + 1) y n' ls (st) h1 mc ms Q) (c1 : w1.category = 1 := by rfl) (c2 : w2.category = 1 := by rfl) (c3 : w3.category = 1 := by rfl) (c4 : w4.category = 1 := by rfl) (c5 : w5.category = 1 := by rfl) (hw : (st.map fun v => v.category).sum ≤ 8 := by exact Nat.le_of_ble_eq_true rfl) : xa_X K tx (d + 1) y pc ls (w5 :: w4 :: w3 :: w2 :: w1 :: .ref a :: st) h mc ms Q :=
  xx_callI (As := [w1, w2, w3, w4, w5]) (mc' := 0) (ms' := 0) hd hl (by intro v hv; simp only [List.mem_cons, List.not_mem_nil, or_false] at hv; rcases hv with rfl | rfl | rfl | rfl | rfl <;> assumption) hw xq_n k1 (fun v h' q => by obtain ⟨e1, e2⟩ := q; cases e1; cases e2; exact k2)
theorem xc_I5r {i y' : Nat} {a : Nat} {w1 w2 w3 w4 w5 : Value} {r : Nat} {h1 : xa_H} (hd : xa_d K y pc (.invokespecial i) 3 n') (hl : xa_lkI K (K.1 y).1.cls i y' 5) (k1 : xa_X K tx d y' 0 (xa_ent (K.1 y').2.2.1 (.ref a :: [w1, w2, w3, w4, w5])) [] h 0 0 (xq (some (.ref r)) h1)) (k2 : xa_X K tx (d + 1) y n' ls (.ref r :: st) h1 mc ms Q) (c1 : w1.category = 1 := by rfl) (c2 : w2.category = 1 := by rfl) (c3 : w3.category = 1 := by rfl) (c4 : w4.category = 1 := by rfl) (c5 : w5.category = 1 := by rfl) (hw : (st.map fun v => v.category).sum ≤ 8 := by exact Nat.le_of_ble_eq_true rfl) : xa_X K tx (d + 1) y pc ls (w5 :: w4 :: w3 :: w2 :: w1 :: .ref a :: st) h mc ms Q :=
  xx_callI (As := [w1, w2, w3, w4, w5]) (mc' := 0) (ms' := 0) hd hl (by intro v hv; simp only [List.mem_cons, List.not_mem_nil, or_false] at hv; rcases hv with rfl | rfl | rfl | rfl | rfl <;> assumption) hw xq_n k1 (fun v h' q => by obtain ⟨e1, e2⟩ := q; cases e1; cases e2; exact k2)
end XHRows
end
