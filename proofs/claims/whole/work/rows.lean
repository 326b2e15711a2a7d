section
/-- a private method of a class that the tables say can be made, by its rows of tables_1 -/
def lw_okq (q : MethodName × Nat) : Prop := (q.1.cls ≠ "java/lang/invoke/MethodHandle" ∧ q.1.cls ≠ "java/lang/invoke/VarHandle") ∧ Cond.instantiable q.1.cls q.2 ∈ tables_1 ∧ Cond.privateMethod q.1 ∈ tables_1 ∧ Cond.instanceMethod q.1 ∈ tables_1
theorem lw_p0 : lw_okq (⟨"ClocklessGates", "discardResults", "()V"⟩, 6) := ⟨⟨by decide +kernel, by decide +kernel⟩, List.mem_of_getElem? (i := 18) (by decide +kernel), List.mem_of_getElem? (i := 240) (by decide +kernel), List.mem_of_getElem? (i := 241) (by decide +kernel)⟩
theorem lw_p1 : lw_okq (⟨"ClocklessGates$Graph", "addState", "(III)I"⟩, 11) := ⟨⟨by decide +kernel, by decide +kernel⟩, List.mem_of_getElem? (i := 77) (by decide +kernel), List.mem_of_getElem? (i := 256) (by decide +kernel), List.mem_of_getElem? (i := 257) (by decide +kernel)⟩
theorem lw_p2 : lw_okq (⟨"ClocklessGates$Graph", "expand", "(LClocklessGates$Net;I)V"⟩, 11) := ⟨⟨by decide +kernel, by decide +kernel⟩, List.mem_of_getElem? (i := 77) (by decide +kernel), List.mem_of_getElem? (i := 260) (by decide +kernel), List.mem_of_getElem? (i := 261) (by decide +kernel)⟩
theorem lw_p3 : lw_okq (⟨"ClocklessGates$Graph", "noteEnabled", "(LClocklessGates$Net;II)V"⟩, 11) := ⟨⟨by decide +kernel, by decide +kernel⟩, List.mem_of_getElem? (i := 77) (by decide +kernel), List.mem_of_getElem? (i := 268) (by decide +kernel), List.mem_of_getElem? (i := 269) (by decide +kernel)⟩
theorem lw_p4 : lw_okq (⟨"ClocklessGates$Graph", "fire", "(LClocklessGates$Net;II)I"⟩, 11) := ⟨⟨by decide +kernel, by decide +kernel⟩, List.mem_of_getElem? (i := 77) (by decide +kernel), List.mem_of_getElem? (i := 296) (by decide +kernel), List.mem_of_getElem? (i := 297) (by decide +kernel)⟩
theorem lw_p5 : lw_okq (⟨"ClocklessGates$Graph", "leastDisablingState", "(LClocklessGates$Net;)I"⟩, 11) := ⟨⟨by decide +kernel, by decide +kernel⟩, List.mem_of_getElem? (i := 77) (by decide +kernel), List.mem_of_getElem? (i := 312) (by decide +kernel), List.mem_of_getElem? (i := 313) (by decide +kernel)⟩
theorem lw_p6 : lw_okq (⟨"ClocklessGates$Graph", "losesEdge", "(LClocklessGates$Net;II)Z"⟩, 11) := ⟨⟨by decide +kernel, by decide +kernel⟩, List.mem_of_getElem? (i := 77) (by decide +kernel), List.mem_of_getElem? (i := 320) (by decide +kernel), List.mem_of_getElem? (i := 321) (by decide +kernel)⟩
theorem lw_p7 : lw_okq (⟨"ClocklessGates$Graph", "leastConflictingState", "()I"⟩, 11) := ⟨⟨by decide +kernel, by decide +kernel⟩, List.mem_of_getElem? (i := 77) (by decide +kernel), List.mem_of_getElem? (i := 324) (by decide +kernel), List.mem_of_getElem? (i := 325) (by decide +kernel)⟩
theorem lw_p8 : lw_okq (⟨"java/lang/Throwable", "fillInStackTrace", "(I)Ljava/lang/Throwable;"⟩, 6) := ⟨⟨by decide +kernel, by decide +kernel⟩, List.mem_of_getElem? (i := 379) (by decide +kernel), List.mem_of_getElem? (i := 377) (by decide +kernel), List.mem_of_getElem? (i := 378) (by decide +kernel)⟩
theorem lw_p9 : lw_okq (⟨"ClocklessGates", "requireSignal", "(I)V"⟩, 6) := ⟨⟨by decide +kernel, by decide +kernel⟩, List.mem_of_getElem? (i := 18) (by decide +kernel), List.mem_of_getElem? (i := 421) (by decide +kernel), List.mem_of_getElem? (i := 422) (by decide +kernel)⟩
theorem lw_p10 : lw_okq (⟨"ClocklessGates", "requireGraph", "()V"⟩, 6) := ⟨⟨by decide +kernel, by decide +kernel⟩, List.mem_of_getElem? (i := 18) (by decide +kernel), List.mem_of_getElem? (i := 499) (by decide +kernel), List.mem_of_getElem? (i := 500) (by decide +kernel)⟩
theorem lw_p11 : lw_okq (⟨"ClocklessGates", "requireState", "(I)V"⟩, 6) := ⟨⟨by decide +kernel, by decide +kernel⟩, List.mem_of_getElem? (i := 18) (by decide +kernel), List.mem_of_getElem? (i := 511) (by decide +kernel), List.mem_of_getElem? (i := 512) (by decide +kernel)⟩
theorem lw_p12 : lw_okq (⟨"ClocklessGates", "requireFine", "()V"⟩, 6) := ⟨⟨by decide +kernel, by decide +kernel⟩, List.mem_of_getElem? (i := 18) (by decide +kernel), List.mem_of_getElem? (i := 545) (by decide +kernel), List.mem_of_getElem? (i := 546) (by decide +kernel)⟩
theorem lw_p13 : lw_okq (⟨"ClocklessGates", "makeDraft", "(I)Z"⟩, 6) := ⟨⟨by decide +kernel, by decide +kernel⟩, List.mem_of_getElem? (i := 18) (by decide +kernel), List.mem_of_getElem? (i := 550) (by decide +kernel), List.mem_of_getElem? (i := 551) (by decide +kernel)⟩
theorem lw_p14 : lw_okq (⟨"ClocklessGates$LeastSum", "collectPrimes", "(III)V"⟩, 11) := ⟨⟨by decide +kernel, by decide +kernel⟩, List.mem_of_getElem? (i := 172) (by decide +kernel), List.mem_of_getElem? (i := 568) (by decide +kernel), List.mem_of_getElem? (i := 569) (by decide +kernel)⟩
theorem lw_p15 : lw_okq (⟨"ClocklessGates$LeastSum", "isPrime", "(III)Z"⟩, 11) := ⟨⟨by decide +kernel, by decide +kernel⟩, List.mem_of_getElem? (i := 172) (by decide +kernel), List.mem_of_getElem? (i := 572) (by decide +kernel), List.mem_of_getElem? (i := 573) (by decide +kernel)⟩
def lw_privs_1 : List (MethodName × Nat) := [(⟨"ClocklessGates", "discardResults", "()V"⟩, 6), (⟨"ClocklessGates$Graph", "addState", "(III)I"⟩, 11), (⟨"ClocklessGates$Graph", "expand", "(LClocklessGates$Net;I)V"⟩, 11), (⟨"ClocklessGates$Graph", "noteEnabled", "(LClocklessGates$Net;II)V"⟩, 11), (⟨"ClocklessGates$Graph", "fire", "(LClocklessGates$Net;II)I"⟩, 11), (⟨"ClocklessGates$Graph", "leastDisablingState", "(LClocklessGates$Net;)I"⟩, 11), (⟨"ClocklessGates$Graph", "losesEdge", "(LClocklessGates$Net;II)Z"⟩, 11), (⟨"ClocklessGates$Graph", "leastConflictingState", "()I"⟩, 11), (⟨"java/lang/Throwable", "fillInStackTrace", "(I)Ljava/lang/Throwable;"⟩, 6), (⟨"ClocklessGates", "requireSignal", "(I)V"⟩, 6), (⟨"ClocklessGates", "requireGraph", "()V"⟩, 6), (⟨"ClocklessGates", "requireState", "(I)V"⟩, 6), (⟨"ClocklessGates", "requireFine", "()V"⟩, 6), (⟨"ClocklessGates", "makeDraft", "(I)Z"⟩, 6), (⟨"ClocklessGates$LeastSum", "collectPrimes", "(III)V"⟩, 11), (⟨"ClocklessGates$LeastSum", "isPrime", "(III)Z"⟩, 11)]
theorem lw_r1 : ∀ q ∈ lw_privs_1, lw_okq q := List.forall_mem_cons.mpr ⟨lw_p0, List.forall_mem_cons.mpr ⟨lw_p1, List.forall_mem_cons.mpr ⟨lw_p2, List.forall_mem_cons.mpr ⟨lw_p3, List.forall_mem_cons.mpr ⟨lw_p4, List.forall_mem_cons.mpr ⟨lw_p5, List.forall_mem_cons.mpr ⟨lw_p6, List.forall_mem_cons.mpr ⟨lw_p7, List.forall_mem_cons.mpr ⟨lw_p8, List.forall_mem_cons.mpr ⟨lw_p9, List.forall_mem_cons.mpr ⟨lw_p10, List.forall_mem_cons.mpr ⟨lw_p11, List.forall_mem_cons.mpr ⟨lw_p12, List.forall_mem_cons.mpr ⟨lw_p13, List.forall_mem_cons.mpr ⟨lw_p14, List.forall_mem_cons.mpr ⟨lw_p15, fun _ h => absurd h List.not_mem_nil⟩⟩⟩⟩⟩⟩⟩⟩⟩⟩⟩⟩⟩⟩⟩⟩
theorem lw_p16 : lw_okq (⟨"ClocklessGates$LeastSum", "countRivals", "()V"⟩, 11) := ⟨⟨by decide +kernel, by decide +kernel⟩, List.mem_of_getElem? (i := 172) (by decide +kernel), List.mem_of_getElem? (i := 591) (by decide +kernel), List.mem_of_getElem? (i := 592) (by decide +kernel)⟩
theorem lw_p17 : lw_okq (⟨"ClocklessGates$LeastSum", "keepIfLess", "(I)V"⟩, 11) := ⟨⟨by decide +kernel, by decide +kernel⟩, List.mem_of_getElem? (i := 172) (by decide +kernel), List.mem_of_getElem? (i := 598) (by decide +kernel), List.mem_of_getElem? (i := 599) (by decide +kernel)⟩
theorem lw_p18 : lw_okq (⟨"ClocklessGates$LeastSum", "takenComesFirst", "()Z"⟩, 11) := ⟨⟨by decide +kernel, by decide +kernel⟩, List.mem_of_getElem? (i := 172) (by decide +kernel), List.mem_of_getElem? (i := 602) (by decide +kernel), List.mem_of_getElem? (i := 603) (by decide +kernel)⟩
theorem lw_p19 : lw_okq (⟨"ClocklessGates$LeastSum", "leastCostOf", "(I)I"⟩, 11) := ⟨⟨by decide +kernel, by decide +kernel⟩, List.mem_of_getElem? (i := 172) (by decide +kernel), List.mem_of_getElem? (i := 606) (by decide +kernel), List.mem_of_getElem? (i := 607) (by decide +kernel)⟩
theorem lw_p20 : lw_okq (⟨"ClocklessGates$LeastSum", "codeWithFewestRivals", "(I)I"⟩, 11) := ⟨⟨by decide +kernel, by decide +kernel⟩, List.mem_of_getElem? (i := 172) (by decide +kernel), List.mem_of_getElem? (i := 610) (by decide +kernel), List.mem_of_getElem? (i := 611) (by decide +kernel)⟩
theorem lw_p21 : lw_okq (⟨"ClocklessGates$LeastSum", "liftBars", "(I)V"⟩, 11) := ⟨⟨by decide +kernel, by decide +kernel⟩, List.mem_of_getElem? (i := 172) (by decide +kernel), List.mem_of_getElem? (i := 614) (by decide +kernel), List.mem_of_getElem? (i := 615) (by decide +kernel)⟩
theorem lw_p22 : lw_okq (⟨"ClocklessGates$Circuit", "reachStates", "(LClocklessGates$Net;LClocklessGates$Graph;)V"⟩, 6) := ⟨⟨by decide +kernel, by decide +kernel⟩, List.mem_of_getElem? (i := 125) (by decide +kernel), List.mem_of_getElem? (i := 707) (by decide +kernel), List.mem_of_getElem? (i := 708) (by decide +kernel)⟩
theorem lw_p23 : lw_okq (⟨"ClocklessGates$Circuit", "reach", "(I)V"⟩, 6) := ⟨⟨by decide +kernel, by decide +kernel⟩, List.mem_of_getElem? (i := 125) (by decide +kernel), List.mem_of_getElem? (i := 711) (by decide +kernel), List.mem_of_getElem? (i := 712) (by decide +kernel)⟩
theorem lw_p24 : lw_okq (⟨"ClocklessGates$Circuit", "mayFire", "(LClocklessGates$Net;LClocklessGates$Graph;II)Z"⟩, 6) := ⟨⟨by decide +kernel, by decide +kernel⟩, List.mem_of_getElem? (i := 125) (by decide +kernel), List.mem_of_getElem? (i := 715) (by decide +kernel), List.mem_of_getElem? (i := 716) (by decide +kernel)⟩
theorem lw_p25 : lw_okq (⟨"ClocklessGates$Circuit", "leastFaultyState", "(LClocklessGates$Net;LClocklessGates$Graph;I)I"⟩, 6) := ⟨⟨by decide +kernel, by decide +kernel⟩, List.mem_of_getElem? (i := 125) (by decide +kernel), List.mem_of_getElem? (i := 724) (by decide +kernel), List.mem_of_getElem? (i := 725) (by decide +kernel)⟩
theorem lw_p26 : lw_okq (⟨"ClocklessGates$Circuit", "isFaulty", "(LClocklessGates$Net;LClocklessGates$Graph;III)Z"⟩, 6) := ⟨⟨by decide +kernel, by decide +kernel⟩, List.mem_of_getElem? (i := 125) (by decide +kernel), List.mem_of_getElem? (i := 728) (by decide +kernel), List.mem_of_getElem? (i := 729) (by decide +kernel)⟩
theorem lw_p27 : lw_okq (⟨"ClocklessGates$Circuit", "acts", "(II)Z"⟩, 6) := ⟨⟨by decide +kernel, by decide +kernel⟩, List.mem_of_getElem? (i := 125) (by decide +kernel), List.mem_of_getElem? (i := 732) (by decide +kernel), List.mem_of_getElem? (i := 733) (by decide +kernel)⟩
theorem lw_p28 : lw_okq (⟨"ClocklessGates$Circuit", "mayStopActing", "(LClocklessGates$Net;LClocklessGates$Graph;II)Z"⟩, 6) := ⟨⟨by decide +kernel, by decide +kernel⟩, List.mem_of_getElem? (i := 125) (by decide +kernel), List.mem_of_getElem? (i := 736) (by decide +kernel), List.mem_of_getElem? (i := 737) (by decide +kernel)⟩
theorem lw_p29 : lw_okq (⟨"ClocklessGatesModel", "discard", "()V"⟩, 30) := ⟨⟨by decide +kernel, by decide +kernel⟩, List.mem_of_getElem? (i := 741) (by decide +kernel), List.mem_of_getElem? (i := 846) (by decide +kernel), List.mem_of_getElem? (i := 847) (by decide +kernel)⟩
theorem lw_p30 : lw_okq (⟨"ClocklessGatesModel", "noSignal", "(I)Z"⟩, 30) := ⟨⟨by decide +kernel, by decide +kernel⟩, List.mem_of_getElem? (i := 741) (by decide +kernel), List.mem_of_getElem? (i := 854) (by decide +kernel), List.mem_of_getElem? (i := 855) (by decide +kernel)⟩
theorem lw_p31 : lw_okq (⟨"ClocklessGatesModel", "explore", "()V"⟩, 30) := ⟨⟨by decide +kernel, by decide +kernel⟩, List.mem_of_getElem? (i := 741) (by decide +kernel), List.mem_of_getElem? (i := 870) (by decide +kernel), List.mem_of_getElem? (i := 871) (by decide +kernel)⟩
def lw_privs_2 : List (MethodName × Nat) := [(⟨"ClocklessGates$LeastSum", "countRivals", "()V"⟩, 11), (⟨"ClocklessGates$LeastSum", "keepIfLess", "(I)V"⟩, 11), (⟨"ClocklessGates$LeastSum", "takenComesFirst", "()Z"⟩, 11), (⟨"ClocklessGates$LeastSum", "leastCostOf", "(I)I"⟩, 11), (⟨"ClocklessGates$LeastSum", "codeWithFewestRivals", "(I)I"⟩, 11), (⟨"ClocklessGates$LeastSum", "liftBars", "(I)V"⟩, 11), (⟨"ClocklessGates$Circuit", "reachStates", "(LClocklessGates$Net;LClocklessGates$Graph;)V"⟩, 6), (⟨"ClocklessGates$Circuit", "reach", "(I)V"⟩, 6), (⟨"ClocklessGates$Circuit", "mayFire", "(LClocklessGates$Net;LClocklessGates$Graph;II)Z"⟩, 6), (⟨"ClocklessGates$Circuit", "leastFaultyState", "(LClocklessGates$Net;LClocklessGates$Graph;I)I"⟩, 6), (⟨"ClocklessGates$Circuit", "isFaulty", "(LClocklessGates$Net;LClocklessGates$Graph;III)Z"⟩, 6), (⟨"ClocklessGates$Circuit", "acts", "(II)Z"⟩, 6), (⟨"ClocklessGates$Circuit", "mayStopActing", "(LClocklessGates$Net;LClocklessGates$Graph;II)Z"⟩, 6), (⟨"ClocklessGatesModel", "discard", "()V"⟩, 30), (⟨"ClocklessGatesModel", "noSignal", "(I)Z"⟩, 30), (⟨"ClocklessGatesModel", "explore", "()V"⟩, 30)]
theorem lw_r2 : ∀ q ∈ lw_privs_2, lw_okq q := List.forall_mem_cons.mpr ⟨lw_p16, List.forall_mem_cons.mpr ⟨lw_p17, List.forall_mem_cons.mpr ⟨lw_p18, List.forall_mem_cons.mpr ⟨lw_p19, List.forall_mem_cons.mpr ⟨lw_p20, List.forall_mem_cons.mpr ⟨lw_p21, List.forall_mem_cons.mpr ⟨lw_p22, List.forall_mem_cons.mpr ⟨lw_p23, List.forall_mem_cons.mpr ⟨lw_p24, List.forall_mem_cons.mpr ⟨lw_p25, List.forall_mem_cons.mpr ⟨lw_p26, List.forall_mem_cons.mpr ⟨lw_p27, List.forall_mem_cons.mpr ⟨lw_p28, List.forall_mem_cons.mpr ⟨lw_p29, List.forall_mem_cons.mpr ⟨lw_p30, List.forall_mem_cons.mpr ⟨lw_p31, fun _ h => absurd h List.not_mem_nil⟩⟩⟩⟩⟩⟩⟩⟩⟩⟩⟩⟩⟩⟩⟩⟩
theorem lw_p32 : lw_okq (⟨"ClocklessGatesModel", "enabled", "(II)Z"⟩, 30) := ⟨⟨by decide +kernel, by decide +kernel⟩, List.mem_of_getElem? (i := 741) (by decide +kernel), List.mem_of_getElem? (i := 874) (by decide +kernel), List.mem_of_getElem? (i := 875) (by decide +kernel)⟩
theorem lw_p33 : lw_okq (⟨"ClocklessGatesModel", "safe", "(II)Z"⟩, 30) := ⟨⟨by decide +kernel, by decide +kernel⟩, List.mem_of_getElem? (i := 741) (by decide +kernel), List.mem_of_getElem? (i := 878) (by decide +kernel), List.mem_of_getElem? (i := 879) (by decide +kernel)⟩
theorem lw_p34 : lw_okq (⟨"ClocklessGatesModel", "right", "(II)Z"⟩, 30) := ⟨⟨by decide +kernel, by decide +kernel⟩, List.mem_of_getElem? (i := 741) (by decide +kernel), List.mem_of_getElem? (i := 882) (by decide +kernel), List.mem_of_getElem? (i := 883) (by decide +kernel)⟩
theorem lw_p35 : lw_okq (⟨"ClocklessGatesModel", "markAfter", "(II)I"⟩, 30) := ⟨⟨by decide +kernel, by decide +kernel⟩, List.mem_of_getElem? (i := 741) (by decide +kernel), List.mem_of_getElem? (i := 886) (by decide +kernel), List.mem_of_getElem? (i := 887) (by decide +kernel)⟩
theorem lw_p36 : lw_okq (⟨"ClocklessGatesModel", "codeAfter", "(II)I"⟩, 30) := ⟨⟨by decide +kernel, by decide +kernel⟩, List.mem_of_getElem? (i := 741) (by decide +kernel), List.mem_of_getElem? (i := 890) (by decide +kernel), List.mem_of_getElem? (i := 891) (by decide +kernel)⟩
theorem lw_p37 : lw_okq (⟨"ClocklessGatesModel", "find", "(II)I"⟩, 30) := ⟨⟨by decide +kernel, by decide +kernel⟩, List.mem_of_getElem? (i := 741) (by decide +kernel), List.mem_of_getElem? (i := 894) (by decide +kernel), List.mem_of_getElem? (i := 895) (by decide +kernel)⟩
theorem lw_p38 : lw_okq (⟨"ClocklessGatesModel", "bad", "(II)Z"⟩, 30) := ⟨⟨by decide +kernel, by decide +kernel⟩, List.mem_of_getElem? (i := 741) (by decide +kernel), List.mem_of_getElem? (i := 898) (by decide +kernel), List.mem_of_getElem? (i := 899) (by decide +kernel)⟩
theorem lw_p39 : lw_okq (⟨"ClocklessGatesModel", "loses", "(I)Z"⟩, 30) := ⟨⟨by decide +kernel, by decide +kernel⟩, List.mem_of_getElem? (i := 741) (by decide +kernel), List.mem_of_getElem? (i := 902) (by decide +kernel), List.mem_of_getElem? (i := 903) (by decide +kernel)⟩
theorem lw_p40 : lw_okq (⟨"ClocklessGatesModel", "sameEdge", "(II)Z"⟩, 30) := ⟨⟨by decide +kernel, by decide +kernel⟩, List.mem_of_getElem? (i := 741) (by decide +kernel), List.mem_of_getElem? (i := 906) (by decide +kernel), List.mem_of_getElem? (i := 907) (by decide +kernel)⟩
theorem lw_p41 : lw_okq (⟨"ClocklessGatesModel", "edgeEnabled", "(II)Z"⟩, 30) := ⟨⟨by decide +kernel, by decide +kernel⟩, List.mem_of_getElem? (i := 741) (by decide +kernel), List.mem_of_getElem? (i := 910) (by decide +kernel), List.mem_of_getElem? (i := 911) (by decide +kernel)⟩
theorem lw_p42 : lw_okq (⟨"ClocklessGatesModel", "conflicts", "(I)Z"⟩, 30) := ⟨⟨by decide +kernel, by decide +kernel⟩, List.mem_of_getElem? (i := 741) (by decide +kernel), List.mem_of_getElem? (i := 914) (by decide +kernel), List.mem_of_getElem? (i := 915) (by decide +kernel)⟩
theorem lw_p43 : lw_okq (⟨"ClocklessGatesModel", "excitedIn", "(I)I"⟩, 30) := ⟨⟨by decide +kernel, by decide +kernel⟩, List.mem_of_getElem? (i := 741) (by decide +kernel), List.mem_of_getElem? (i := 918) (by decide +kernel), List.mem_of_getElem? (i := 919) (by decide +kernel)⟩
theorem lw_p44 : lw_okq (⟨"ClocklessGatesModel", "noGraph", "()Z"⟩, 30) := ⟨⟨by decide +kernel, by decide +kernel⟩, List.mem_of_getElem? (i := 741) (by decide +kernel), List.mem_of_getElem? (i := 926) (by decide +kernel), List.mem_of_getElem? (i := 927) (by decide +kernel)⟩
theorem lw_p45 : lw_okq (⟨"ClocklessGatesModel", "noState", "(I)Z"⟩, 30) := ⟨⟨by decide +kernel, by decide +kernel⟩, List.mem_of_getElem? (i := 741) (by decide +kernel), List.mem_of_getElem? (i := 934) (by decide +kernel), List.mem_of_getElem? (i := 935) (by decide +kernel)⟩
theorem lw_p46 : lw_okq (⟨"ClocklessGatesModel", "leastSum", "(I)I"⟩, 30) := ⟨⟨by decide +kernel, by decide +kernel⟩, List.mem_of_getElem? (i := 741) (by decide +kernel), List.mem_of_getElem? (i := 958) (by decide +kernel), List.mem_of_getElem? (i := 959) (by decide +kernel)⟩
theorem lw_p47 : lw_okq (⟨"ClocklessGatesModel", "codesOf", "(II)I"⟩, 30) := ⟨⟨by decide +kernel, by decide +kernel⟩, List.mem_of_getElem? (i := 741) (by decide +kernel), List.mem_of_getElem? (i := 962) (by decide +kernel), List.mem_of_getElem? (i := 963) (by decide +kernel)⟩
def lw_privs_3 : List (MethodName × Nat) := [(⟨"ClocklessGatesModel", "enabled", "(II)Z"⟩, 30), (⟨"ClocklessGatesModel", "safe", "(II)Z"⟩, 30), (⟨"ClocklessGatesModel", "right", "(II)Z"⟩, 30), (⟨"ClocklessGatesModel", "markAfter", "(II)I"⟩, 30), (⟨"ClocklessGatesModel", "codeAfter", "(II)I"⟩, 30), (⟨"ClocklessGatesModel", "find", "(II)I"⟩, 30), (⟨"ClocklessGatesModel", "bad", "(II)Z"⟩, 30), (⟨"ClocklessGatesModel", "loses", "(I)Z"⟩, 30), (⟨"ClocklessGatesModel", "sameEdge", "(II)Z"⟩, 30), (⟨"ClocklessGatesModel", "edgeEnabled", "(II)Z"⟩, 30), (⟨"ClocklessGatesModel", "conflicts", "(I)Z"⟩, 30), (⟨"ClocklessGatesModel", "excitedIn", "(I)I"⟩, 30), (⟨"ClocklessGatesModel", "noGraph", "()Z"⟩, 30), (⟨"ClocklessGatesModel", "noState", "(I)Z"⟩, 30), (⟨"ClocklessGatesModel", "leastSum", "(I)I"⟩, 30), (⟨"ClocklessGatesModel", "codesOf", "(II)I"⟩, 30)]
theorem lw_r3 : ∀ q ∈ lw_privs_3, lw_okq q := List.forall_mem_cons.mpr ⟨lw_p32, List.forall_mem_cons.mpr ⟨lw_p33, List.forall_mem_cons.mpr ⟨lw_p34, List.forall_mem_cons.mpr ⟨lw_p35, List.forall_mem_cons.mpr ⟨lw_p36, List.forall_mem_cons.mpr ⟨lw_p37, List.forall_mem_cons.mpr ⟨lw_p38, List.forall_mem_cons.mpr ⟨lw_p39, List.forall_mem_cons.mpr ⟨lw_p40, List.forall_mem_cons.mpr ⟨lw_p41, List.forall_mem_cons.mpr ⟨lw_p42, List.forall_mem_cons.mpr ⟨lw_p43, List.forall_mem_cons.mpr ⟨lw_p44, List.forall_mem_cons.mpr ⟨lw_p45, List.forall_mem_cons.mpr ⟨lw_p46, List.forall_mem_cons.mpr ⟨lw_p47, fun _ h => absurd h List.not_mem_nil⟩⟩⟩⟩⟩⟩⟩⟩⟩⟩⟩⟩⟩⟩⟩⟩
theorem lw_p48 : lw_okq (⟨"ClocklessGatesModel", "tabulate", "(I)V"⟩, 30) := ⟨⟨by decide +kernel, by decide +kernel⟩, List.mem_of_getElem? (i := 741) (by decide +kernel), List.mem_of_getElem? (i := 966) (by decide +kernel), List.mem_of_getElem? (i := 967) (by decide +kernel)⟩
theorem lw_p49 : lw_okq (⟨"ClocklessGatesModel", "covers", "(II)Z"⟩, 30) := ⟨⟨by decide +kernel, by decide +kernel⟩, List.mem_of_getElem? (i := 741) (by decide +kernel), List.mem_of_getElem? (i := 973) (by decide +kernel), List.mem_of_getElem? (i := 974) (by decide +kernel)⟩
theorem lw_p50 : lw_okq (⟨"ClocklessGatesModel", "tryCovers", "(II)V"⟩, 30) := ⟨⟨by decide +kernel, by decide +kernel⟩, List.mem_of_getElem? (i := 741) (by decide +kernel), List.mem_of_getElem? (i := 977) (by decide +kernel), List.mem_of_getElem? (i := 978) (by decide +kernel)⟩
theorem lw_p51 : lw_okq (⟨"ClocklessGatesModel", "nextPrime", "(II)I"⟩, 30) := ⟨⟨by decide +kernel, by decide +kernel⟩, List.mem_of_getElem? (i := 741) (by decide +kernel), List.mem_of_getElem? (i := 984) (by decide +kernel), List.mem_of_getElem? (i := 985) (by decide +kernel)⟩
theorem lw_p52 : lw_okq (⟨"ClocklessGatesModel", "judge", "(I)V"⟩, 30) := ⟨⟨by decide +kernel, by decide +kernel⟩, List.mem_of_getElem? (i := 741) (by decide +kernel), List.mem_of_getElem? (i := 988) (by decide +kernel), List.mem_of_getElem? (i := 989) (by decide +kernel)⟩
theorem lw_p53 : lw_okq (⟨"ClocklessGatesModel", "digits", "(I)I"⟩, 30) := ⟨⟨by decide +kernel, by decide +kernel⟩, List.mem_of_getElem? (i := 741) (by decide +kernel), List.mem_of_getElem? (i := 992) (by decide +kernel), List.mem_of_getElem? (i := 993) (by decide +kernel)⟩
theorem lw_p54 : lw_okq (⟨"ClocklessGatesModel", "valueOf", "(II)I"⟩, 30) := ⟨⟨by decide +kernel, by decide +kernel⟩, List.mem_of_getElem? (i := 741) (by decide +kernel), List.mem_of_getElem? (i := 1016) (by decide +kernel), List.mem_of_getElem? (i := 1017) (by decide +kernel)⟩
theorem lw_p55 : lw_okq (⟨"ClocklessGatesModel", "comeTo", "()V"⟩, 30) := ⟨⟨by decide +kernel, by decide +kernel⟩, List.mem_of_getElem? (i := 741) (by decide +kernel), List.mem_of_getElem? (i := 1024) (by decide +kernel), List.mem_of_getElem? (i := 1025) (by decide +kernel)⟩
theorem lw_p56 : lw_okq (⟨"ClocklessGatesModel", "fires", "(II)Z"⟩, 30) := ⟨⟨by decide +kernel, by decide +kernel⟩, List.mem_of_getElem? (i := 741) (by decide +kernel), List.mem_of_getElem? (i := 1028) (by decide +kernel), List.mem_of_getElem? (i := 1029) (by decide +kernel)⟩
theorem lw_p57 : lw_okq (⟨"ClocklessGatesModel", "acts", "(II)Z"⟩, 30) := ⟨⟨by decide +kernel, by decide +kernel⟩, List.mem_of_getElem? (i := 741) (by decide +kernel), List.mem_of_getElem? (i := 1032) (by decide +kernel), List.mem_of_getElem? (i := 1033) (by decide +kernel)⟩
theorem lw_p58 : lw_okq (⟨"ClocklessGatesModel", "hazard", "(I)Z"⟩, 30) := ⟨⟨by decide +kernel, by decide +kernel⟩, List.mem_of_getElem? (i := 741) (by decide +kernel), List.mem_of_getElem? (i := 1036) (by decide +kernel), List.mem_of_getElem? (i := 1037) (by decide +kernel)⟩
theorem lw_p59 : lw_okq (⟨"ClocklessGatesModel", "unexpected", "(I)Z"⟩, 30) := ⟨⟨by decide +kernel, by decide +kernel⟩, List.mem_of_getElem? (i := 741) (by decide +kernel), List.mem_of_getElem? (i := 1040) (by decide +kernel), List.mem_of_getElem? (i := 1041) (by decide +kernel)⟩
theorem lw_p60 : lw_okq (⟨"ClocklessGatesModel", "missing", "(I)Z"⟩, 30) := ⟨⟨by decide +kernel, by decide +kernel⟩, List.mem_of_getElem? (i := 741) (by decide +kernel), List.mem_of_getElem? (i := 1044) (by decide +kernel), List.mem_of_getElem? (i := 1045) (by decide +kernel)⟩
def lw_privs_4 : List (MethodName × Nat) := [(⟨"ClocklessGatesModel", "tabulate", "(I)V"⟩, 30), (⟨"ClocklessGatesModel", "covers", "(II)Z"⟩, 30), (⟨"ClocklessGatesModel", "tryCovers", "(II)V"⟩, 30), (⟨"ClocklessGatesModel", "nextPrime", "(II)I"⟩, 30), (⟨"ClocklessGatesModel", "judge", "(I)V"⟩, 30), (⟨"ClocklessGatesModel", "digits", "(I)I"⟩, 30), (⟨"ClocklessGatesModel", "valueOf", "(II)I"⟩, 30), (⟨"ClocklessGatesModel", "comeTo", "()V"⟩, 30), (⟨"ClocklessGatesModel", "fires", "(II)Z"⟩, 30), (⟨"ClocklessGatesModel", "acts", "(II)Z"⟩, 30), (⟨"ClocklessGatesModel", "hazard", "(I)Z"⟩, 30), (⟨"ClocklessGatesModel", "unexpected", "(I)Z"⟩, 30), (⟨"ClocklessGatesModel", "missing", "(I)Z"⟩, 30)]
theorem lw_r4 : ∀ q ∈ lw_privs_4, lw_okq q := List.forall_mem_cons.mpr ⟨lw_p48, List.forall_mem_cons.mpr ⟨lw_p49, List.forall_mem_cons.mpr ⟨lw_p50, List.forall_mem_cons.mpr ⟨lw_p51, List.forall_mem_cons.mpr ⟨lw_p52, List.forall_mem_cons.mpr ⟨lw_p53, List.forall_mem_cons.mpr ⟨lw_p54, List.forall_mem_cons.mpr ⟨lw_p55, List.forall_mem_cons.mpr ⟨lw_p56, List.forall_mem_cons.mpr ⟨lw_p57, List.forall_mem_cons.mpr ⟨lw_p58, List.forall_mem_cons.mpr ⟨lw_p59, List.forall_mem_cons.mpr ⟨lw_p60, fun _ h => absurd h List.not_mem_nil⟩⟩⟩⟩⟩⟩⟩⟩⟩⟩⟩⟩⟩
def lw_privs : List (MethodName × Nat) := lw_privs_1 ++ (lw_privs_2 ++ (lw_privs_3 ++ (lw_privs_4)))
def lw_tbl : List Cond := k2_sels lw_privs ++ tables_1
theorem lw_privs_ok : ∀ q ∈ lw_privs, lw_okq q := by
  show ∀ q ∈ lw_privs_1 ++ (lw_privs_2 ++ (lw_privs_3 ++ (lw_privs_4))), lw_okq q
  exact List.forall_mem_append.mpr ⟨lw_r1, List.forall_mem_append.mpr ⟨lw_r2, List.forall_mem_append.mpr ⟨lw_r3, lw_r4⟩⟩⟩
end
section
/-! An abstract machine over logical addresses: its states, and how they lie in the real heap. -/
section XDefs
/-- a logical heap: how many cells there are, and what each holds (.inl (number of its array type, length, contents) or .inr (number of its class, fields)); references in it are logical addresses -/
abbrev xa_H : Type := Nat × (Nat → va_E)
/-- how a method ends: .inl what it returned, or .inr the class of what it threw -/
abbrev xa_O : Type := Option Value ⊕ String
abbrev xa_Q : Type := xa_O → xa_H → Prop
/-- a method: its name, its bytes, its locals, what it returns, its handlers -/
abbrev xa_M : Type := MethodName × ByteArray × Nat × Option FieldType × List (Nat × Nat × Nat × Nat)
/-- a program: its methods, the classes of its objects, the words it rests on, the static table (class, name), the class whose objects an array holds -/
abbrev xa_P : Type := (Nat → xa_M) × List vw_C × List Cond × String × String × String
/-- a launch's data: class numbers and field places, array classes, where the read-only tables lie, and what they hold -/
abbrev xa_Z : Type := va_G × List (ClassId × FieldType) × (Nat → Nat) × (Nat → Nat × (Nat → Int32))
abbrev xa_R : Type := Nat → Nat → Nat → List Value → List Value → xa_H → Nat → Nat → xa_Q → Prop
/-- a local whose value isn't known -/
abbrev xa_j : Value := .float 0
def xa_up {α : Type} (f : Nat → α) (k : Nat) (x : α) : Nat → α := fun j => if j = k then x else f j
theorem xa_up_s {α : Type} (f : Nat → α) (k : Nat) (x : α) : xa_up f k x k = x := by simp [xa_up]
theorem xa_up_n {α : Type} (f : Nat → α) {k j : Nat} (x : α) (h : j ≠ k) : xa_up f k x j = f j := by simp [xa_up, h]
/-- from logical to real: .retAddr k stands for the read-only table k -/
def xa_tr (tb ad : Nat → Nat) : Value → Value
  | .ref a => .ref (ad a)
  | .retAddr k => .ref (tb k)
  | v => v
def xa_trE (tys : List (ClassId × FieldType)) (tb ad : Nat → Nat) : va_E → va_E
  | .inl (t, n, .inr (.inr (.inr (.inr f)))) => .inl ((tys.getD t (0, .int)).1, n, .inr (.inr (.inr (.inr (fun j => (f j).map ad)))))
  | .inl (t, n, x) => .inl ((tys.getD t (0, .int)).1, n, x)
  | .inr (ci, fs) => .inr (ci, fs.map (xa_tr tb ad))
def xa_ok (n : Nat) (v : Value) : Prop := ∀ a, v = .ref a → a < n
def xa_okE (n : Nat) : va_E → Prop
  | .inl (_, _, .inr (.inr (.inr (.inr f)))) => ∀ j a, f j = some a → a < n
  | .inl _ => True
  | .inr (_, fs) => ∀ v ∈ fs, xa_ok n v
def xa_oks (n : Nat) (st : List Value) : Prop := ∀ v ∈ st, xa_ok n v
theorem xa_ok_i {n : Nat} {x : Int32} : xa_ok n (.int x) := fun _ h => by cases h
theorem xa_ok_l {n : Nat} {x : Int64} : xa_ok n (.long x) := fun _ h => by cases h
theorem xa_ok_t {n k : Nat} : xa_ok n (.retAddr k) := fun _ h => by cases h
theorem xa_ok_n {n : Nat} : xa_ok n .null := fun _ h => by cases h
theorem xa_ok_r {n a : Nat} (h : a < n) : xa_ok n (.ref a) := fun _ e => by cases e; exact h
theorem xa_ok_m {n n' : Nat} {v : Value} (hn : n ≤ n') (h : xa_ok n v) : xa_ok n' v := fun a e => Nat.lt_of_lt_of_le (h a e) hn
theorem xa_okE_m {n n' : Nat} {e : va_E} (hn : n ≤ n') (h : xa_okE n e) : xa_okE n' e := by
  rcases e with ⟨t, k, f | f | f | f | f⟩ | ⟨ci, fs⟩
  · trivial
  · trivial
  · trivial
  · trivial
  · exact fun j a q => Nat.lt_of_lt_of_le (h j a q) hn
  · exact fun v hv => xa_ok_m hn (h v hv)
theorem xa_oks_m {n n' : Nat} {st : List Value} (hn : n ≤ n') (h : xa_oks n st) : xa_oks n' st := fun v hv => xa_ok_m hn (h v hv)
theorem xa_oks_c {n : Nat} {v : Value} {st : List Value} (h : xa_ok n v) (hs : xa_oks n st) : xa_oks n (v :: st) := fun w hw => by
  rcases List.mem_cons.mp hw with e | e
  · rw [e]; exact h
  · exact hs w e
theorem xa_oks_i {n : Nat} {x : Int32} {st : List Value} (hs : xa_oks n st) : xa_oks n (.int x :: st) := xa_oks_c xa_ok_i hs
theorem xa_oks_l {n : Nat} {x : Int64} {st : List Value} (hs : xa_oks n st) : xa_oks n (.long x :: st) := xa_oks_c xa_ok_l hs
theorem xa_oks_h {n : Nat} {v : Value} {st : List Value} (hs : xa_oks n (v :: st)) : xa_ok n v := hs v List.mem_cons_self
theorem xa_oks_t {n : Nat} {v : Value} {st : List Value} (hs : xa_oks n (v :: st)) : xa_oks n st := fun w hw => hs w (List.mem_cons_of_mem _ hw)
theorem xa_oks_a {n : Nat} {s t : List Value} (hs : xa_oks n (s ++ t)) : xa_oks n s ∧ xa_oks n t := ⟨fun w hw => hs w (List.mem_append_left _ hw), fun w hw => hs w (List.mem_append_right _ hw)⟩
theorem xa_cat (tb ad : Nat → Nat) (v : Value) : (xa_tr tb ad v).category = v.category := by cases v <;> rfl
theorem xa_tr_ag {tb ad ad' : Nat → Nat} {n : Nat} {v : Value} (h : ∀ i, i < n → ad' i = ad i) (ok : xa_ok n v) : xa_tr tb ad' v = xa_tr tb ad v := by
  cases v with
  | ref a => show Value.ref (ad' a) = Value.ref (ad a); rw [h a (ok a rfl)]
  | _ => rfl
theorem xa_trs_ag {tb ad ad' : Nat → Nat} {n : Nat} {st : List Value} (h : ∀ i, i < n → ad' i = ad i) (ok : xa_oks n st) : st.map (xa_tr tb ad') = st.map (xa_tr tb ad) :=
  List.map_congr_left fun v hv => xa_tr_ag h (ok v hv)
theorem xa_trE_ag {tys : List (ClassId × FieldType)} {tb ad ad' : Nat → Nat} {n : Nat} {e : va_E} (h : ∀ i, i < n → ad' i = ad i) (ok : xa_okE n e) : xa_trE tys tb ad' e = xa_trE tys tb ad e := by
  rcases e with ⟨t, k, f | f | f | f | f⟩ | ⟨ci, fs⟩
  · rfl
  · rfl
  · rfl
  · rfl
  · have e1 : (fun j => (f j).map ad') = (fun j => (f j).map ad) := by
      funext j
      cases hf : f j with
      | none => rfl
      | some a => show some (ad' a) = some (ad a); rw [h a (ok j a hf)]
    show (Sum.inl ((tys.getD t (0, .int)).1, k, .inr (.inr (.inr (.inr (fun j => (f j).map ad'))))) : va_E) = .inl ((tys.getD t (0, .int)).1, k, .inr (.inr (.inr (.inr (fun j => (f j).map ad)))))
    rw [e1]
  · show (Sum.inr (ci, fs.map (xa_tr tb ad')) : va_E) = .inr (ci, fs.map (xa_tr tb ad))
    rw [xa_trs_ag h ok]
/-- the real world of a logical heap -/
def xa_w (tys : List (ClassId × FieldType)) (tb ad : Nat → Nat) (h : xa_H) : va_W := (List.range h.1).map fun i => (ad i, xa_trE tys tb ad (h.2 i))
theorem xa_w_get {tys : List (ClassId × FieldType)} {tb ad : Nat → Nat} {h : xa_H} {i : Nat} (hi : i < h.1) : (xa_w tys tb ad h)[i]? = some (ad i, xa_trE tys tb ad (h.2 i)) := by
  simp [xa_w, hi]
theorem xa_w_len {tys : List (ClassId × FieldType)} {tb ad : Nat → Nat} {h : xa_H} : (xa_w tys tb ad h).length = h.1 := by simp [xa_w]
theorem xa_w_of {tys : List (ClassId × FieldType)} {tb ad : Nat → Nat} {h : xa_H} {k : Nat} {q : Nat × va_E} (hk : (xa_w tys tb ad h)[k]? = some q) : k < h.1 ∧ q = (ad k, xa_trE tys tb ad (h.2 k)) := by
  have hl : k < h.1 := by
    have := (List.getElem?_eq_some_iff.mp hk).1
    rwa [xa_w_len] at this
  rw [xa_w_get hl] at hk
  exact ⟨hl, (Option.some.inj hk).symm⟩
theorem xa_w_set {tys : List (ClassId × FieldType)} {tb ad : Nat → Nat} {h : xa_H} {i : Nat} {e : va_E} : (xa_w tys tb ad h).set i (ad i, xa_trE tys tb ad e) = xa_w tys tb ad (h.1, xa_up h.2 i e) := by
  apply List.ext_getElem?
  intro k
  by_cases hk : k < h.1
  · rw [xa_w_get (h := (h.1, xa_up h.2 i e)) hk]
    by_cases hik : i = k
    · subst hik
      rw [List.getElem?_set_self (by rw [xa_w_len]; exact hk)]
      show some (ad i, xa_trE tys tb ad e) = some (ad i, xa_trE tys tb ad (xa_up h.2 i e i))
      rw [xa_up_s]
    · rw [List.getElem?_set_ne hik, xa_w_get hk]
      show some (ad k, xa_trE tys tb ad (h.2 k)) = some (ad k, xa_trE tys tb ad (xa_up h.2 i e k))
      rw [xa_up_n _ _ (fun q => hik q.symm)]
  · rw [List.getElem?_eq_none (by rw [List.length_set, xa_w_len]; omega), List.getElem?_eq_none (by rw [xa_w_len]; show h.1 ≤ k; omega)]
theorem xa_w_push {tys : List (ClassId × FieldType)} {tb ad : Nat → Nat} {h : xa_H} {q : Nat} {e : va_E} (hok : ∀ i, i < h.1 → xa_okE h.1 (h.2 i)) :
    xa_w tys tb ad h ++ [(q, xa_trE tys tb (xa_up ad h.1 q) e)] = xa_w tys tb (xa_up ad h.1 q) (h.1 + 1, xa_up h.2 h.1 e) := by
  show _ = (List.range (h.1 + 1)).map _
  rw [List.range_succ, List.map_append]
  congr 1
  · refine List.map_congr_left fun i hi => ?_
    have hi : i < h.1 := List.mem_range.mp hi
    show (ad i, xa_trE tys tb ad (h.2 i)) = (xa_up ad h.1 q i, xa_trE tys tb (xa_up ad h.1 q) (xa_up h.2 h.1 e i))
    rw [xa_up_n ad q (Nat.ne_of_lt hi), xa_up_n h.2 e (Nat.ne_of_lt hi), xa_trE_ag (ad := ad) (fun j hj => xa_up_n ad q (Nat.ne_of_lt hj)) (hok i hi)]
  · show [(q, xa_trE tys tb (xa_up ad h.1 q) e)] = [(xa_up ad h.1 q h.1, xa_trE tys tb (xa_up ad h.1 q) (xa_up h.2 h.1 e h.1))]
    rw [xa_up_s, xa_up_s]
/-- the known locals, as the kit lists them -/
def xa_kn (tb ad : Nat → Nat) : List Value → Nat → List (Nat × Value)
  | [], _ => []
  | v :: r, i => match v with
    | .float _ => xa_kn tb ad r (i + 1)
    | w => (i, xa_tr tb ad w) :: xa_kn tb ad r (i + 1)
def xa_isj : Value → Bool
  | .float _ => true
  | _ => false
theorem xa_kn_c (tb ad : Nat → Nat) (v : Value) (r : List Value) (b : Nat) : xa_kn tb ad (v :: r) b = if xa_isj v then xa_kn tb ad r (b + 1) else (b, xa_tr tb ad v) :: xa_kn tb ad r (b + 1) := by
  cases v <;> rfl
theorem xa_kn_mem {tb ad : Nat → Nat} {v : Value} (hj : xa_isj v = false) : ∀ (ls : List Value) (i b : Nat), ls[i]? = some v → (b + i, xa_tr tb ad v) ∈ xa_kn tb ad ls b
  | [], i, b, h => by simp at h
  | w :: r, 0, b, h => by
    have e : w = v := by simpa using h
    rw [e, xa_kn_c, hj]
    exact List.mem_cons_self
  | w :: r, i + 1, b, h => by
    have h1 : r[i]? = some v := by simpa using h
    have h2 := xa_kn_mem (tb := tb) (ad := ad) hj r i (b + 1) h1
    have e : b + 1 + i = b + (i + 1) := by omega
    rw [e] at h2
    rw [xa_kn_c]
    split
    · exact h2
    · exact List.mem_cons_of_mem _ h2
theorem xa_kn_of {tb ad : Nat → Nat} : ∀ (ls : List Value) (b : Nat) (q : Nat × Value), q ∈ xa_kn tb ad ls b → ∃ i v, q.1 = b + i ∧ ls[i]? = some v ∧ xa_isj v = false ∧ q.2 = xa_tr tb ad v
  | [], b, q, h => by cases h
  | w :: r, b, q, h => by
    rw [xa_kn_c] at h
    have tail : q ∈ xa_kn tb ad r (b + 1) → ∃ i v, q.1 = b + i ∧ (w :: r)[i]? = some v ∧ xa_isj v = false ∧ q.2 = xa_tr tb ad v := fun h2 => by
      obtain ⟨i, v, e1, e2, e3, e4⟩ := xa_kn_of r (b + 1) q h2
      exact ⟨i + 1, v, by omega, by simpa using e2, e3, e4⟩
    by_cases hj : xa_isj w = true
    · rw [if_pos hj] at h
      exact tail h
    · rw [if_neg hj] at h
      rcases List.mem_cons.mp h with e | e
      · exact ⟨0, w, by rw [e]; rfl, rfl, by simpa using hj, by rw [e]⟩
      · exact tail e
def xa_lv (tb ad : Nat → Nat) (n nL : Nat) (sl : Array Slot) (ls : List Value) : Prop := lv_has sl nL (xa_kn tb ad ls 0) ∧ ls.length = nL ∧ ∀ v ∈ ls, xa_ok n v ∧ v.category = 1
theorem xa_lv_at {tb ad : Nat → Nat} {n nL : Nat} {sl : Array Slot} {ls : List Value} (h : xa_lv tb ad n nL sl ls) {i : Nat} {v : Value} (hi : ls[i]? = some v) (hj : xa_isj v = false) : sl[i]? = some (.val (xa_tr tb ad v)) := by
  have h1 := xa_kn_mem (tb := tb) (ad := ad) hj ls i 0 hi
  rw [Nat.zero_add] at h1
  exact h.1.2.2 _ h1
theorem xa_lv_ok {tb ad : Nat → Nat} {n nL : Nat} {sl : Array Slot} {ls : List Value} (h : xa_lv tb ad n nL sl ls) {i : Nat} {v : Value} (hi : ls[i]? = some v) : xa_ok n v := (h.2.2 v (List.mem_of_getElem? hi)).1
theorem xa_lv_lt {tb ad : Nat → Nat} {n nL : Nat} {sl : Array Slot} {ls : List Value} (h : xa_lv tb ad n nL sl ls) {i : Nat} {v : Value} (hi : ls[i]? = some v) : i < nL := by
  rw [← h.2.1]; exact (List.getElem?_eq_some_iff.mp hi).1
theorem xa_lv_set {tb ad : Nat → Nat} {n nL : Nat} {sl sl' : Array Slot} {ls : List Value} (h : xa_lv tb ad n nL sl ls) {i : Nat} {v w : Value} (hi : ls[i]? = some w) (hv : xa_ok n v) (hc : v.category = 1)
    (h' : lv_has sl' nL ((i, xa_tr tb ad v) :: (xa_kn tb ad ls 0).filter (fun q => !(q.1 == i) && !(q.1 + 1 == i && q.2.category == 2)))) : xa_lv tb ad n nL sl' (ls.set i v) := by
  have hil : i < ls.length := (List.getElem?_eq_some_iff.mp hi).1
  refine ⟨⟨h'.1, h'.2.1, fun q hq => ?_⟩, by rw [List.length_set]; exact h.2.1, fun u hu => ?_⟩
  · obtain ⟨j, u, e1, e2, e3, e4⟩ := xa_kn_of _ _ q hq
    rw [Nat.zero_add] at e1
    by_cases hij : i = j
    · subst hij
      rw [List.getElem?_set_self hil] at e2
      have e5 : v = u := Option.some.inj e2
      have := h'.2.2 (i, xa_tr tb ad v) List.mem_cons_self
      rw [e1, e4, ← e5]
      exact this
    · rw [List.getElem?_set_ne hij] at e2
      have hm := xa_kn_mem (tb := tb) (ad := ad) e3 ls j 0 e2
      rw [Nat.zero_add] at hm
      have hc2 : (xa_tr tb ad u).category = 1 := by rw [xa_cat]; exact (h.2.2 u (List.mem_of_getElem? e2)).2
      have := h'.2.2 (j, xa_tr tb ad u) (List.mem_cons_of_mem _ (List.mem_filter.mpr ⟨hm, by
        have : (j == i) = false := by simpa using fun q : j = i => hij q.symm
        simp [this, hc2]⟩))
      rw [e1, e4]
      exact this
  · rcases List.mem_or_eq_of_mem_set hu with hu | hu
    · exact h.2.2 u hu
    · rw [hu]; exact ⟨hv, hc⟩
/-- the same locals at a larger heap -/
theorem xa_lv_m {tb ad ad' : Nat → Nat} {n n' nL : Nat} {sl : Array Slot} {ls : List Value} (h : xa_lv tb ad n nL sl ls) (hn : n ≤ n') (ha : ∀ i, i < n → ad' i = ad i) : xa_lv tb ad' n' nL sl ls := by
  refine ⟨⟨h.1.1, h.1.2.1, fun q hq => ?_⟩, h.2.1, fun v hv => ⟨xa_ok_m hn (h.2.2 v hv).1, (h.2.2 v hv).2⟩⟩
  obtain ⟨i, v, e1, e2, e3, e4⟩ := xa_kn_of _ _ q hq
  rw [Nat.zero_add] at e1
  have := xa_lv_at h e2 e3
  rw [e1, e4, xa_tr_ag ha (xa_lv_ok h e2)]
  exact this
/-- fewer known locals -/
def xa_le (l l' : List Value) : Prop := l'.length = l.length ∧ ∀ (i : Nat) (v : Value), l'[i]? = some v → v = xa_j ∨ l[i]? = some v
theorem xa_lv_le {tb ad : Nat → Nat} {n nL : Nat} {sl : Array Slot} {ls ls' : List Value} (h : xa_lv tb ad n nL sl ls) (hl : xa_le ls ls') : xa_lv tb ad n nL sl ls' := by
  refine ⟨⟨h.1.1, h.1.2.1, fun q hq => ?_⟩, hl.1.trans h.2.1, fun v hv => ?_⟩
  · obtain ⟨i, v, e1, e2, e3, e4⟩ := xa_kn_of _ _ q hq
    rw [Nat.zero_add] at e1
    rcases hl.2 i v e2 with e5 | e5
    · rw [e5] at e3; cases e3
    · rw [e1, e4]; exact xa_lv_at h e5 e3
  · obtain ⟨i, hi⟩ := List.mem_iff_getElem?.mp hv
    rcases hl.2 i v hi with e5 | e5
    · rw [e5]; exact ⟨(fun a e => by cases e), rfl⟩
    · exact h.2.2 v (List.mem_of_getElem? e5)
/-- a method's locals at its entry -/
def xa_ent (nL : Nat) (vs : List Value) : List Value := vs ++ List.replicate (nL - vs.length) xa_j
end XDefs
end
section
/-! What a run of the abstract machine means on the real one. -/
section XRun
/-- what holds of a state, and goes on holding at every call -/
def xa_G (K : xa_P) (Z : xa_Z) (A : Nat → Prop) (s : State) : Prop :=
  (∀ w ∈ K.2.2.1, ∀ (a' : Array Value) (U : State), s.WarmedH U.vm → w.before a' U = true) ∧ va_K Z.1 K.2.1 Z.2.1 s ∧ Z.2.1.map (·.2) = [.int, .boolean, .long, .object K.2.2.2.2.2] ∧
  (∀ k, k < 2 → va_T .int (Z.2.2.1 k) (Z.2.2.2 k).1 (fun j => .int ((Z.2.2.2 k).2 j)) A s s.heap) ∧ va_Z K.2.2.2.1 K.2.2.2.2.1 "[I" (.ref (Z.2.2.1 0)) A s s.heap
theorem xa_G.to {K : xa_P} {Z : xa_Z} {A B : Nat → Prop} {s U : State} {locs : List Loc} (h : xa_G K Z A s) (hS : va_S A s.heap U.heap locs) (hW : s.WarmedH U.vm) (hAB : ∀ q, B q → A q) : xa_G K Z B U := by
  have kp : ∀ a : Nat, a < s.heap.size → ¬ A a → U.heap[a]? = s.heap[a]? := fun a h1 h2 => hS.2.1 a h1 h2
  refine ⟨fun w hw a' V hV => h.1 w hw a' V (State.WarmedH.trans hW hV), va_K.moved hW.alike h.2.1, h.2.2.1, fun k hk => ?_, ?_⟩
  · exact va_T.narrow (va_T.moved hW.alike (va_T.kept (h.2.2.2.1 k hk) kp)) hAB
  · exact va_Z.narrow (va_Z.moved hW.alike (va_Z.kept h.2.2.2.2 kp)) hAB
/-- a body's standing facts: method y, at most d calls deeper -/
def xa_C (K : xa_P) (Z : xa_Z) (d y : Nat) (p : Program) (R : Room) (s : State) (m : MethodId) (meth : Method) (c : Code) (A : Nat → Prop) : Prop :=
  p.tables.exec = Jvm.exec ∧ c.code = (K.1 y).2.1 ∧ c.maxLocals = (K.1 y).2.2.1 ∧ meth.sig.returnType = (K.1 y).2.2.2.1 ∧ meth.locks = false ∧ meth.name = (K.1 y).1.name ∧ s.vm.findClass (K.1 y).1.cls = some m.cls ∧
  c.exceptionTable.toList = tableOf (K.1 y).2.2.2.2 ∧ d + 8 ≤ R.frames ∧ 60 * d + 300 ≤ R.locals ∧ (∀ q, s.heap.size ≤ q → A q) ∧ xa_G K Z A s
theorem xa_C.ts {K : xa_P} {Z : xa_Z} {d y : Nat} {p : Program} {R : Room} {s : State} {m : MethodId} {meth : Method} {c : Code} {A : Nat → Prop} (C : xa_C K Z d y p R s m meth c A) (args : Array Value) : ∀ w ∈ K.2.2.1, w.before args s = true :=
  fun w hw => C.2.2.2.2.2.2.2.2.2.2.2.1 w hw args s (State.WarmedH.refl s)
theorem xa_C.o {K : xa_P} {Z : xa_Z} {d y : Nat} {p : Program} {R : Room} {s : State} {m : MethodId} {meth : Method} {c : Code} {A : Nat → Prop} (C : xa_C K Z d y p R s m meth c A) : s.vm.findClass (K.1 y).1.cls = some m.cls := C.2.2.2.2.2.2.1
theorem xa_C.l {K : xa_P} {Z : xa_Z} {d y : Nat} {p : Program} {R : Room} {s : State} {m : MethodId} {meth : Method} {c : Code} {A : Nat → Prop} (C : xa_C K Z d y p R s m meth c A) : meth.locks = false := C.2.2.2.2.1
theorem xa_C.a {K : xa_P} {Z : xa_Z} {d y : Nat} {p : Program} {R : Room} {s : State} {m : MethodId} {meth : Method} {c : Code} {A : Nat → Prop} (C : xa_C K Z d y p R s m meth c A) : ∀ q, s.heap.size ≤ q → A q := C.2.2.2.2.2.2.2.2.2.2.1
theorem xa_C.g {K : xa_P} {Z : xa_Z} {d y : Nat} {p : Program} {R : Room} {s : State} {m : MethodId} {meth : Method} {c : Code} {A : Nat → Prop} (C : xa_C K Z d y p R s m meth c A) : xa_G K Z A s := C.2.2.2.2.2.2.2.2.2.2.2
theorem xa_C.k {K : xa_P} {Z : xa_Z} {d y : Nat} {p : Program} {R : Room} {s : State} {m : MethodId} {meth : Method} {c : Code} {A : Nat → Prop} (C : xa_C K Z d y p R s m meth c A) : va_K Z.1 K.2.1 Z.2.1 s := C.g.2.1
theorem xa_C.rm {K : xa_P} {Z : xa_Z} {d y : Nat} {p : Program} {R : Room} {s : State} {m : MethodId} {meth : Method} {c : Code} {A : Nat → Prop} (C : xa_C K Z d y p R s m meth c A) : d + 8 ≤ R.frames ∧ 60 * d + 300 ≤ R.locals := ⟨C.2.2.2.2.2.2.2.2.1, C.2.2.2.2.2.2.2.2.2.1⟩
theorem xa_ty {tys : List (ClassId × FieldType)} {t : Nat} {τ : FieldType} (h : (tys.map (·.2))[t]? = some τ) : tys[t]? = some ((tys.getD t (0, .int)).1, τ) := by
  rw [List.getElem?_map] at h
  cases hq : tys[t]? with
  | none => rw [hq] at h; cases h
  | some q =>
    rw [hq] at h
    have e : q.2 = τ := Option.some.inj h
    rw [List.getD_eq_getElem?_getD, hq, ← e]
    rfl
theorem xa_C.ty {K : xa_P} {Z : xa_Z} {d y : Nat} {p : Program} {R : Room} {s : State} {m : MethodId} {meth : Method} {c : Code} {A : Nat → Prop} (C : xa_C K Z d y p R s m meth c A) {t : Nat} {τ : FieldType} (h : ([.int, .boolean, .long, .object K.2.2.2.2.2] : List FieldType)[t]? = some τ) :
    Z.2.1[t]? = some ((Z.2.1.getD t (0, .int)).1, τ) := xa_ty (by rw [C.g.2.2.1]; exact h)
/-- the logical heap lies in the real one -/
def xa_rep (K : xa_P) (Z : xa_Z) (A : Nat → Prop) (s : State) (H : Heap) (locs : List Loc) (ad : Nat → Nat) (h : xa_H) : Prop :=
  va_P Z.1 K.2.1 (xa_w Z.2.1 Z.2.2.1 ad h) H ∧ va_D A (xa_w Z.2.1 Z.2.2.1 ad h) ∧ va_S A s.heap H locs ∧ ∀ i, i < h.1 → xa_okE h.1 (h.2 i)
/-- what came of a method -/
def xa_oc (Z : xa_Z) (s : State) (ad : Nat → Nat) (h : xa_H) (t : State) (o : Outcome) : xa_O → Prop
  | .inl v => o = .returned (v.map (xa_tr Z.2.2.1 ad)) ∧ ∀ w, v = some w → xa_ok h.1 w
  | .inr E => ∃ (q : Addr) (ce : Cell), o = .threw q ∧ t.heap[q]? = some ce ∧ ce.vm = .none ∧ s.vm.findClass E = some ce.cls
def xa_E (K : xa_P) (Z : xa_Z) (below : List Frame) (A : Nat → Prop) (s : State) (ad : Nat → Nat) (n mc ms : Nat) (Q : xa_Q) (t : State) : Prop :=
  ∃ o, t.status = .running ∧ Ended t below o ∧ (∃ L, s.WarmedH t.vm ∧ s.sameButNew ({ t with vm := s.vm } : State) L mc ms ∧ ∀ q ∈ L, A q.base) ∧
    ∃ (ad' : Nat → Nat) (h' : xa_H) (oa : xa_O), n ≤ h'.1 ∧ (∀ i, i < n → ad' i = ad i) ∧ xa_rep K Z A s t.heap [] ad' h' ∧ Q oa h' ∧ xa_oc Z s ad' h' t o oa
theorem xa_E.m {K : xa_P} {Z : xa_Z} {below : List Frame} {A : Nat → Prop} {s : State} {ad ad1 : Nat → Nat} {n n1 mc ms : Nat} {Q : xa_Q} {t : State} (hn : n ≤ n1) (ha : ∀ i, i < n → ad1 i = ad i) (h : xa_E K Z below A s ad1 n1 mc ms Q t) : xa_E K Z below A s ad n mc ms Q t := by
  obtain ⟨o, h1, h2, h3, ad', h', oa, h4, h5, h6⟩ := h
  exact ⟨o, h1, h2, h3, ad', h', oa, Nat.le_trans hn h4, fun i hi => (h5 i (Nat.lt_of_lt_of_le hi hn)).trans (ha i hi), h6⟩
theorem xa_post {p : Program} {l : Launch} {e : Env} {R : Room} {s : State} {m : MethodId} {args : Array Value} {below : List Frame} {meth : Method} {c : Code} {H : Heap} {locs : List Loc} {cells slots : Nat} {Q Q' : State → Prop} {g : JFrame}
    (hq : ∀ t, Q' t → Q t) (k : W p l e R s m args below meth c H locs cells slots Q' g) : W p l e R s m args below meth c H locs cells slots Q g := by
  intro T hT X
  obtain ⟨t, a, b⟩ := k T hT X
  exact ⟨t, a, hq t b⟩
/-- the meaning of a configuration -/
def xa_W (l : Launch) (K : xa_P) (Z : xa_Z) : xa_R := fun d y pc ls st h mc ms Q =>
  ∀ (p : Program) (e : Env) (R : Room) (s : State) (m : MethodId) (args : Array Value) (below : List Frame) (meth : Method) (c : Code) (A : Nat → Prop) (H : Heap) (locs : List Loc) (cells slots : Nat) (ad : Nat → Nat) (sl : Array Slot),
    xa_C K Z d y p R s m meth c A → cells + mc ≤ R.cells → slots + ms ≤ R.slots → xa_rep K Z A s H locs ad h → xa_lv Z.2.2.1 ad h.1 (K.1 y).2.2.1 sl ls → xa_oks h.1 st →
    W p l e R s m args below meth c H locs cells slots (xa_E K Z below A s ad h.1 (cells + mc) (slots + ms) Q) (F0 m pc sl (st.map (xa_tr Z.2.2.1 ad)))
end XRun
end
section
/-! What the words of the tables give the abstract machine: fields, classes, methods. -/
section XLinks
/-- the instruction at pc, its length, the next pc; and where a jump leads -/
def xa_d (K : xa_P) (y pc : Nat) (ins : Instr) (len n : Nat) : Prop := decode (K.1 y).2.1 pc = .ok (ins, len) ∧ pc + len = n
def xa_db (K : xa_P) (y pc : Nat) (ins : Instr) (len n : Nat) (off : Int) (tgt : Nat) : Prop := xa_d K y pc ins len n ∧ (pc : Int) + off = (tgt : Int)
/-- the class with the number ci: its name, its fields, their types -/
def xa_k (K : xa_P) (ci : Nat) (C : String) (T : u_T) (N : Nat) (ty0 : Nat → FieldType) : Prop :=
  K.2.1[ci]? = some (C, T, N) ∧ (∀ w ∈ u_ws C T N, w ∈ K.2.2.1) ∧ (∀ k, k < N → parseFieldDescriptor (T k).2.2.1 = some (ty0 k)) ∧ ∀ a, a < N → ∀ b, b < N → a ≠ b → (T a).2.1 ≠ (T b).2.1
/-- the entry i of the class own leads to the field k of the class ci -/
def xa_fll (K : xa_P) (own : String) (i : Nat) (T : u_T) (k : Nat) : Prop :=
  Cond.fieldLink own i (T k).1 (T k).2.1 (T k).2.2.1 ∈ K.2.2.1 ∨ ∃ host, Cond.fieldLinkNest own i (T k).1 (T k).2.1 (T k).2.2.1 host ∈ K.2.2.1
def xa_fld (K : xa_P) (own : String) (i ci k : Nat) : Prop := ∃ C T N ty0, xa_k K ci C T N ty0 ∧ k < N ∧ xa_fll K own i T k
def xa_fldP (K : xa_P) (own : String) (i ci k : Nat) (ty : FieldType) : Prop := ∃ C T N ty0, xa_k K ci C T N ty0 ∧ k < N ∧ ty0 k = ty ∧ (T k).2.2.2 = false ∧ xa_fll K own i T k
def xa_fldF (K : xa_P) (own : String) (i ci k : Nat) (ty : FieldType) : Prop := ∃ C T N ty0, xa_k K ci C T N ty0 ∧ k < N ∧ ty0 k = ty ∧ (T k).2.2.2 = true ∧ (T k).1 = own ∧ Cond.fieldLink own i (T k).1 (T k).2.1 (T k).2.2.1 ∈ K.2.2.1
def xa_new (K : xa_P) (own : String) (i ci N : Nat) (fs : List Value) : Prop := ∃ C T ty0, xa_k K ci C T N ty0 ∧ Cond.classLink own i C ∈ K.2.2.1 ∧ Cond.instantiable C N ∈ K.2.2.1 ∧ Cond.initialized C ∈ K.2.2.1 ∧ (∀ j, j < N → defaultValue (ty0 j) = vp_V fs j) ∧ fs.all (fun v => match v with | .ref _ => false | .retAddr _ => false | _ => true) = true
/-- the word of a method's code -/
def xa_cw (q : xa_M) : Cond := match q.2.2.2.2 with
  | [] => .code q.1 q.2.1 q.2.2.1 q.2.2.2.1
  | hh => .codeWith q.1 q.2.1 q.2.2.1 q.2.2.2.1 hh
def xa_ml (K : xa_P) (own : String) (i : Nat) (x : MethodName) : Prop := Cond.methodLink own i x ∈ K.2.2.1 ∨ ∃ host, Cond.methodLinkNest own i x host ∈ K.2.2.1
def xa_my (K : xa_P) (y n : Nat) : Prop := xa_cw (K.1 y) ∈ K.2.2.1 ∧ plainName (K.1 y).1.cls = true ∧ ((K.1 y).1.cls ≠ "java/lang/invoke/MethodHandle" ∧ (K.1 y).1.cls ≠ "java/lang/invoke/VarHandle") ∧ (parseMethodDescriptor (K.1 y).1.desc).map (fun d => d.parameters.length) = some n ∧ (K.1 y).2.2.1 ≤ 41
def xa_lkV (K : xa_P) (own : String) (i ci y n : Nat) : Prop := xa_ml K own i (K.1 y).1 ∧ Cond.instanceMethod (K.1 y).1 ∈ K.2.2.1 ∧ (∃ T N, K.2.1[ci]? = some ((K.1 y).1.cls, T, N)) ∧ Cond.selects (K.1 y).1.cls (K.1 y).1 (K.1 y).1 ∈ K.2.2.1 ∧ xa_my K y n ∧ n + 1 ≤ (K.1 y).2.2.1
def xa_lkS (K : xa_P) (own : String) (i y n : Nat) : Prop := xa_ml K own i (K.1 y).1 ∧ Cond.static (K.1 y).1 ∈ K.2.2.1 ∧ Cond.initialized (K.1 y).1.cls ∈ K.2.2.1 ∧ xa_my K y n ∧ n ≤ (K.1 y).2.2.1
def xa_lkI (K : xa_P) (own : String) (i y n : Nat) : Prop := xa_ml K own i (K.1 y).1 ∧ Cond.instanceMethod (K.1 y).1 ∈ K.2.2.1 ∧ (K.1 y).1.name = "<init>" ∧ (K.1 y).2.2.2.1 = none ∧ (K.1 y).2.2.2.2 = [] ∧ xa_my K y n ∧ n + 1 ≤ (K.1 y).2.2.1
end XLinks
end
section
/-! The rules of the abstract machine (printed by wip/whole/gen_machine.py). -/
section XRules
variable (K : xa_P) (tx : Nat → Nat × (Nat → Int32)) (R : xa_R)
def xr_iconst : Prop := ∀ (d y pc : Nat) (ls st : List Value) (h : xa_H) (mc ms : Nat) (Q : xa_Q) (n' : Nat) (n : Int) (v : Int32), (xa_d K y pc (.iconst n) 1 n') → (Int32.ofInt n = v) → (R d y (n') (ls) (.int v :: st) (h) (mc) (ms) Q) → R d y (pc) (ls) (st) (h) (mc) (ms) Q
def xr_bipush : Prop := ∀ (d y pc : Nat) (ls st : List Value) (h : xa_H) (mc ms : Nat) (Q : xa_Q) (n' : Nat) (n : Int) (v : Int32), (xa_d K y pc (.bipush n) 2 n') → ((Int8.ofInt n).toInt32 = v) → (R d y (n') (ls) (.int v :: st) (h) (mc) (ms) Q) → R d y (pc) (ls) (st) (h) (mc) (ms) Q
def xr_sipush : Prop := ∀ (d y pc : Nat) (ls st : List Value) (h : xa_H) (mc ms : Nat) (Q : xa_Q) (n' : Nat) (n : Int) (v : Int32), (xa_d K y pc (.sipush n) 3 n') → ((Int16.ofInt n).toInt32 = v) → (R d y (n') (ls) (.int v :: st) (h) (mc) (ms) Q) → R d y (pc) (ls) (st) (h) (mc) (ms) Q
def xr_ldc : Prop := ∀ (d y pc : Nat) (ls st : List Value) (h : xa_H) (mc ms : Nat) (Q : xa_Q) (n' : Nat) (i : Nat) (v : Int32), (xa_d K y pc (.ldc i) 2 n') → (Jvm.Cond.constant (K.1 y).1.cls i v ∈ K.2.2.1) → (R d y (n') (ls) (.int v :: st) (h) (mc) (ms) Q) → R d y (pc) (ls) (st) (h) (mc) (ms) Q
def xr_iload_n : Prop := ∀ (d y pc : Nat) (ls st : List Value) (h : xa_H) (mc ms : Nat) (Q : xa_Q) (n' : Nat) (n : Fin 4) (i : Nat) (x : Int32), (xa_d K y pc (.iload_n n) 1 n') → ((n : Nat) = i) → (ls[i]? = some (.int x)) → (R d y (n') (ls) (.int x :: st) (h) (mc) (ms) Q) → R d y (pc) (ls) (st) (h) (mc) (ms) Q
def xr_iload : Prop := ∀ (d y pc : Nat) (ls st : List Value) (h : xa_H) (mc ms : Nat) (Q : xa_Q) (n' : Nat) (i : Nat) (x : Int32), (xa_d K y pc (.iload i) 2 n') → (ls[i]? = some (.int x)) → (R d y (n') (ls) (.int x :: st) (h) (mc) (ms) Q) → R d y (pc) (ls) (st) (h) (mc) (ms) Q
def xr_aload_n : Prop := ∀ (d y pc : Nat) (ls st : List Value) (h : xa_H) (mc ms : Nat) (Q : xa_Q) (n' : Nat) (n : Fin 4) (i : Nat) (x : Nat), (xa_d K y pc (.aload_n n) 1 n') → ((n : Nat) = i) → (ls[i]? = some (.ref x)) → (R d y (n') (ls) (.ref x :: st) (h) (mc) (ms) Q) → R d y (pc) (ls) (st) (h) (mc) (ms) Q
def xr_aload_nT : Prop := ∀ (d y pc : Nat) (ls st : List Value) (h : xa_H) (mc ms : Nat) (Q : xa_Q) (n' : Nat) (n : Fin 4) (i : Nat) (x : Nat), (xa_d K y pc (.aload_n n) 1 n') → ((n : Nat) = i) → (ls[i]? = some (.retAddr x)) → (R d y (n') (ls) (.retAddr x :: st) (h) (mc) (ms) Q) → R d y (pc) (ls) (st) (h) (mc) (ms) Q
def xr_aload : Prop := ∀ (d y pc : Nat) (ls st : List Value) (h : xa_H) (mc ms : Nat) (Q : xa_Q) (n' : Nat) (i : Nat) (x : Nat), (xa_d K y pc (.aload i) 2 n') → (ls[i]? = some (.ref x)) → (R d y (n') (ls) (.ref x :: st) (h) (mc) (ms) Q) → R d y (pc) (ls) (st) (h) (mc) (ms) Q
def xr_aloadT : Prop := ∀ (d y pc : Nat) (ls st : List Value) (h : xa_H) (mc ms : Nat) (Q : xa_Q) (n' : Nat) (i : Nat) (x : Nat), (xa_d K y pc (.aload i) 2 n') → (ls[i]? = some (.retAddr x)) → (R d y (n') (ls) (.retAddr x :: st) (h) (mc) (ms) Q) → R d y (pc) (ls) (st) (h) (mc) (ms) Q
def xr_istore_n : Prop := ∀ (d y pc : Nat) (ls st : List Value) (h : xa_H) (mc ms : Nat) (Q : xa_Q) (n' : Nat) (n : Fin 4) (i : Nat) (x : Int32) (w : Value), (xa_d K y pc (.istore_n n) 1 n') → ((n : Nat) = i) → (ls[i]? = some w) → (R d y (n') (ls.set i (.int x)) (st) (h) (mc) (ms) Q) → R d y (pc) (ls) (.int x :: st) (h) (mc) (ms) Q
def xr_istore : Prop := ∀ (d y pc : Nat) (ls st : List Value) (h : xa_H) (mc ms : Nat) (Q : xa_Q) (n' : Nat) (i : Nat) (x : Int32) (w : Value), (xa_d K y pc (.istore i) 2 n') → (ls[i]? = some w) → (R d y (n') (ls.set i (.int x)) (st) (h) (mc) (ms) Q) → R d y (pc) (ls) (.int x :: st) (h) (mc) (ms) Q
def xr_astore_n : Prop := ∀ (d y pc : Nat) (ls st : List Value) (h : xa_H) (mc ms : Nat) (Q : xa_Q) (n' : Nat) (n : Fin 4) (i : Nat) (x : Nat) (w : Value), (xa_d K y pc (.astore_n n) 1 n') → ((n : Nat) = i) → (ls[i]? = some w) → (R d y (n') (ls.set i (.ref x)) (st) (h) (mc) (ms) Q) → R d y (pc) (ls) (.ref x :: st) (h) (mc) (ms) Q
def xr_astore : Prop := ∀ (d y pc : Nat) (ls st : List Value) (h : xa_H) (mc ms : Nat) (Q : xa_Q) (n' : Nat) (i : Nat) (x : Nat) (w : Value), (xa_d K y pc (.astore i) 2 n') → (ls[i]? = some w) → (R d y (n') (ls.set i (.ref x)) (st) (h) (mc) (ms) Q) → R d y (pc) (ls) (.ref x :: st) (h) (mc) (ms) Q
def xr_iinc : Prop := ∀ (d y pc : Nat) (ls st : List Value) (h : xa_H) (mc ms : Nat) (Q : xa_Q) (n' : Nat) (i : Nat) (n : Int) (x : Int32) (v : Int32), (xa_d K y pc (.iinc i n) 3 n') → (ls[i]? = some (.int x)) → (x + Int32.ofInt n = v) → (R d y (n') (ls.set i (.int v)) (st) (h) (mc) (ms) Q) → R d y (pc) (ls) (st) (h) (mc) (ms) Q
def xr_iadd : Prop := ∀ (d y pc : Nat) (ls st : List Value) (h : xa_H) (mc ms : Nat) (Q : xa_Q) (n' : Nat) (x : Int32) (z : Int32), (xa_d K y pc (.iadd) 1 n') → (R d y (n') (ls) (.int (x + z) :: st) (h) (mc) (ms) Q) → R d y (pc) (ls) (.int z :: .int x :: st) (h) (mc) (ms) Q
def xr_isub : Prop := ∀ (d y pc : Nat) (ls st : List Value) (h : xa_H) (mc ms : Nat) (Q : xa_Q) (n' : Nat) (x : Int32) (z : Int32), (xa_d K y pc (.isub) 1 n') → (R d y (n') (ls) (.int (x - z) :: st) (h) (mc) (ms) Q) → R d y (pc) (ls) (.int z :: .int x :: st) (h) (mc) (ms) Q
def xr_imul : Prop := ∀ (d y pc : Nat) (ls st : List Value) (h : xa_H) (mc ms : Nat) (Q : xa_Q) (n' : Nat) (x : Int32) (z : Int32), (xa_d K y pc (.imul) 1 n') → (R d y (n') (ls) (.int (x * z) :: st) (h) (mc) (ms) Q) → R d y (pc) (ls) (.int z :: .int x :: st) (h) (mc) (ms) Q
def xr_iand : Prop := ∀ (d y pc : Nat) (ls st : List Value) (h : xa_H) (mc ms : Nat) (Q : xa_Q) (n' : Nat) (x : Int32) (z : Int32), (xa_d K y pc (.iand) 1 n') → (R d y (n') (ls) (.int (x &&& z) :: st) (h) (mc) (ms) Q) → R d y (pc) (ls) (.int z :: .int x :: st) (h) (mc) (ms) Q
def xr_ior : Prop := ∀ (d y pc : Nat) (ls st : List Value) (h : xa_H) (mc ms : Nat) (Q : xa_Q) (n' : Nat) (x : Int32) (z : Int32), (xa_d K y pc (.ior) 1 n') → (R d y (n') (ls) (.int (x ||| z) :: st) (h) (mc) (ms) Q) → R d y (pc) (ls) (.int z :: .int x :: st) (h) (mc) (ms) Q
def xr_ixor : Prop := ∀ (d y pc : Nat) (ls st : List Value) (h : xa_H) (mc ms : Nat) (Q : xa_Q) (n' : Nat) (x : Int32) (z : Int32), (xa_d K y pc (.ixor) 1 n') → (R d y (n') (ls) (.int (x ^^^ z) :: st) (h) (mc) (ms) Q) → R d y (pc) (ls) (.int z :: .int x :: st) (h) (mc) (ms) Q
def xr_ishl : Prop := ∀ (d y pc : Nat) (ls st : List Value) (h : xa_H) (mc ms : Nat) (Q : xa_Q) (n' : Nat) (x : Int32) (z : Int32), (xa_d K y pc (.ishl) 1 n') → (R d y (n') (ls) (.int (x <<< (z &&& 31)) :: st) (h) (mc) (ms) Q) → R d y (pc) (ls) (.int z :: .int x :: st) (h) (mc) (ms) Q
def xr_ishr : Prop := ∀ (d y pc : Nat) (ls st : List Value) (h : xa_H) (mc ms : Nat) (Q : xa_Q) (n' : Nat) (x : Int32) (z : Int32), (xa_d K y pc (.ishr) 1 n') → (R d y (n') (ls) (.int (x >>> (z &&& 31)) :: st) (h) (mc) (ms) Q) → R d y (pc) (ls) (.int z :: .int x :: st) (h) (mc) (ms) Q
def xr_iushr : Prop := ∀ (d y pc : Nat) (ls st : List Value) (h : xa_H) (mc ms : Nat) (Q : xa_Q) (n' : Nat) (x : Int32) (z : Int32), (xa_d K y pc (.iushr) 1 n') → (R d y (n') (ls) (.int ((x.toUInt32 >>> (z.toUInt32 &&& Int32.toUInt32 31)).toInt32) :: st) (h) (mc) (ms) Q) → R d y (pc) (ls) (.int z :: .int x :: st) (h) (mc) (ms) Q
def xr_idiv : Prop := ∀ (d y pc : Nat) (ls st : List Value) (h : xa_H) (mc ms : Nat) (Q : xa_Q) (n' : Nat) (x : Int32) (z : Int32), (xa_d K y pc (.idiv) 1 n') → (¬ z = 0) → (R d y (n') (ls) (.int (x / z) :: st) (h) (mc) (ms) Q) → R d y (pc) (ls) (.int z :: .int x :: st) (h) (mc) (ms) Q
def xr_irem : Prop := ∀ (d y pc : Nat) (ls st : List Value) (h : xa_H) (mc ms : Nat) (Q : xa_Q) (n' : Nat) (x : Int32) (z : Int32), (xa_d K y pc (.irem) 1 n') → (¬ z = 0) → (R d y (n') (ls) (.int (x - x / z * z) :: st) (h) (mc) (ms) Q) → R d y (pc) (ls) (.int z :: .int x :: st) (h) (mc) (ms) Q
def xr_i2l : Prop := ∀ (d y pc : Nat) (ls st : List Value) (h : xa_H) (mc ms : Nat) (Q : xa_Q) (n' : Nat) (x : Int32), (xa_d K y pc (.i2l) 1 n') → (R d y (n') (ls) (.long x.toInt64 :: st) (h) (mc) (ms) Q) → R d y (pc) (ls) (.int x :: st) (h) (mc) (ms) Q
def xr_lcmp : Prop := ∀ (d y pc : Nat) (ls st : List Value) (h : xa_H) (mc ms : Nat) (Q : xa_Q) (n' : Nat) (x : Int64) (z : Int64), (xa_d K y pc (.lcmp) 1 n') → (R d y (n') (ls) (.int (lg_cmp x z) :: st) (h) (mc) (ms) Q) → R d y (pc) (ls) (.long z :: .long x :: st) (h) (mc) (ms) Q
def xr_dup : Prop := ∀ (d y pc : Nat) (ls st : List Value) (h : xa_H) (mc ms : Nat) (Q : xa_Q) (n' : Nat) (v : Value), (xa_d K y pc (.dup) 1 n') → (v.category = 1) → (R d y (n') (ls) (v :: v :: st) (h) (mc) (ms) Q) → R d y (pc) (ls) (v :: st) (h) (mc) (ms) Q
def xr_pop : Prop := ∀ (d y pc : Nat) (ls st : List Value) (h : xa_H) (mc ms : Nat) (Q : xa_Q) (n' : Nat) (v : Value), (xa_d K y pc (.pop) 1 n') → (v.category = 1) → (R d y (n') (ls) (st) (h) (mc) (ms) Q) → R d y (pc) (ls) (v :: st) (h) (mc) (ms) Q
def xr_dup2 : Prop := ∀ (d y pc : Nat) (ls st : List Value) (h : xa_H) (mc ms : Nat) (Q : xa_Q) (n' : Nat) (v : Value) (w : Value), (xa_d K y pc (.dup2) 1 n') → (v.category = 1) → (w.category = 1) → (R d y (n') (ls) (v :: w :: v :: w :: st) (h) (mc) (ms) Q) → R d y (pc) (ls) (v :: w :: st) (h) (mc) (ms) Q
def xr_dup_x1 : Prop := ∀ (d y pc : Nat) (ls st : List Value) (h : xa_H) (mc ms : Nat) (Q : xa_Q) (n' : Nat) (v : Value) (w : Value), (xa_d K y pc (.dup_x1) 1 n') → (v.category = 1) → (w.category = 1) → (R d y (n') (ls) (v :: w :: v :: st) (h) (mc) (ms) Q) → R d y (pc) (ls) (v :: w :: st) (h) (mc) (ms) Q
def xr_if_eq : Prop := ∀ (d y pc : Nat) (ls st : List Value) (h : xa_H) (mc ms : Nat) (Q : xa_Q) (n' : Nat) (x : Int32) (off : Int) (tgt : Nat), (xa_db K y pc (.ifCond .eq off) 3 n' off tgt) → (x = 0 → R d y (tgt) (ls) (st) (h) (mc) (ms) Q) → (¬ x = 0 → R d y (n') (ls) (st) (h) (mc) (ms) Q) → R d y (pc) (ls) (.int x :: st) (h) (mc) (ms) Q
def xr_if_ne : Prop := ∀ (d y pc : Nat) (ls st : List Value) (h : xa_H) (mc ms : Nat) (Q : xa_Q) (n' : Nat) (x : Int32) (off : Int) (tgt : Nat), (xa_db K y pc (.ifCond .ne off) 3 n' off tgt) → (¬ x = 0 → R d y (tgt) (ls) (st) (h) (mc) (ms) Q) → (x = 0 → R d y (n') (ls) (st) (h) (mc) (ms) Q) → R d y (pc) (ls) (.int x :: st) (h) (mc) (ms) Q
def xr_if_lt : Prop := ∀ (d y pc : Nat) (ls st : List Value) (h : xa_H) (mc ms : Nat) (Q : xa_Q) (n' : Nat) (x : Int32) (off : Int) (tgt : Nat), (xa_db K y pc (.ifCond .lt off) 3 n' off tgt) → (x < 0 → R d y (tgt) (ls) (st) (h) (mc) (ms) Q) → (¬ x < 0 → R d y (n') (ls) (st) (h) (mc) (ms) Q) → R d y (pc) (ls) (.int x :: st) (h) (mc) (ms) Q
def xr_if_ge : Prop := ∀ (d y pc : Nat) (ls st : List Value) (h : xa_H) (mc ms : Nat) (Q : xa_Q) (n' : Nat) (x : Int32) (off : Int) (tgt : Nat), (xa_db K y pc (.ifCond .ge off) 3 n' off tgt) → (0 ≤ x → R d y (tgt) (ls) (st) (h) (mc) (ms) Q) → (¬ 0 ≤ x → R d y (n') (ls) (st) (h) (mc) (ms) Q) → R d y (pc) (ls) (.int x :: st) (h) (mc) (ms) Q
def xr_if_gt : Prop := ∀ (d y pc : Nat) (ls st : List Value) (h : xa_H) (mc ms : Nat) (Q : xa_Q) (n' : Nat) (x : Int32) (off : Int) (tgt : Nat), (xa_db K y pc (.ifCond .gt off) 3 n' off tgt) → (0 < x → R d y (tgt) (ls) (st) (h) (mc) (ms) Q) → (¬ 0 < x → R d y (n') (ls) (st) (h) (mc) (ms) Q) → R d y (pc) (ls) (.int x :: st) (h) (mc) (ms) Q
def xr_if_le : Prop := ∀ (d y pc : Nat) (ls st : List Value) (h : xa_H) (mc ms : Nat) (Q : xa_Q) (n' : Nat) (x : Int32) (off : Int) (tgt : Nat), (xa_db K y pc (.ifCond .le off) 3 n' off tgt) → (x ≤ 0 → R d y (tgt) (ls) (st) (h) (mc) (ms) Q) → (¬ x ≤ 0 → R d y (n') (ls) (st) (h) (mc) (ms) Q) → R d y (pc) (ls) (.int x :: st) (h) (mc) (ms) Q
def xr_icmp_eq : Prop := ∀ (d y pc : Nat) (ls st : List Value) (h : xa_H) (mc ms : Nat) (Q : xa_Q) (n' : Nat) (x : Int32) (z : Int32) (off : Int) (tgt : Nat), (xa_db K y pc (.if_icmp .eq off) 3 n' off tgt) → (x = z → R d y (tgt) (ls) (st) (h) (mc) (ms) Q) → (¬ x = z → R d y (n') (ls) (st) (h) (mc) (ms) Q) → R d y (pc) (ls) (.int z :: .int x :: st) (h) (mc) (ms) Q
def xr_icmp_ne : Prop := ∀ (d y pc : Nat) (ls st : List Value) (h : xa_H) (mc ms : Nat) (Q : xa_Q) (n' : Nat) (x : Int32) (z : Int32) (off : Int) (tgt : Nat), (xa_db K y pc (.if_icmp .ne off) 3 n' off tgt) → (¬ x = z → R d y (tgt) (ls) (st) (h) (mc) (ms) Q) → (x = z → R d y (n') (ls) (st) (h) (mc) (ms) Q) → R d y (pc) (ls) (.int z :: .int x :: st) (h) (mc) (ms) Q
def xr_icmp_lt : Prop := ∀ (d y pc : Nat) (ls st : List Value) (h : xa_H) (mc ms : Nat) (Q : xa_Q) (n' : Nat) (x : Int32) (z : Int32) (off : Int) (tgt : Nat), (xa_db K y pc (.if_icmp .lt off) 3 n' off tgt) → (x < z → R d y (tgt) (ls) (st) (h) (mc) (ms) Q) → (¬ x < z → R d y (n') (ls) (st) (h) (mc) (ms) Q) → R d y (pc) (ls) (.int z :: .int x :: st) (h) (mc) (ms) Q
def xr_icmp_ge : Prop := ∀ (d y pc : Nat) (ls st : List Value) (h : xa_H) (mc ms : Nat) (Q : xa_Q) (n' : Nat) (x : Int32) (z : Int32) (off : Int) (tgt : Nat), (xa_db K y pc (.if_icmp .ge off) 3 n' off tgt) → (z ≤ x → R d y (tgt) (ls) (st) (h) (mc) (ms) Q) → (¬ z ≤ x → R d y (n') (ls) (st) (h) (mc) (ms) Q) → R d y (pc) (ls) (.int z :: .int x :: st) (h) (mc) (ms) Q
def xr_icmp_gt : Prop := ∀ (d y pc : Nat) (ls st : List Value) (h : xa_H) (mc ms : Nat) (Q : xa_Q) (n' : Nat) (x : Int32) (z : Int32) (off : Int) (tgt : Nat), (xa_db K y pc (.if_icmp .gt off) 3 n' off tgt) → (z < x → R d y (tgt) (ls) (st) (h) (mc) (ms) Q) → (¬ z < x → R d y (n') (ls) (st) (h) (mc) (ms) Q) → R d y (pc) (ls) (.int z :: .int x :: st) (h) (mc) (ms) Q
def xr_icmp_le : Prop := ∀ (d y pc : Nat) (ls st : List Value) (h : xa_H) (mc ms : Nat) (Q : xa_Q) (n' : Nat) (x : Int32) (z : Int32) (off : Int) (tgt : Nat), (xa_db K y pc (.if_icmp .le off) 3 n' off tgt) → (x ≤ z → R d y (tgt) (ls) (st) (h) (mc) (ms) Q) → (¬ x ≤ z → R d y (n') (ls) (st) (h) (mc) (ms) Q) → R d y (pc) (ls) (.int z :: .int x :: st) (h) (mc) (ms) Q
def xr_goto : Prop := ∀ (d y pc : Nat) (ls st : List Value) (h : xa_H) (mc ms : Nat) (Q : xa_Q) (n' : Nat) (off : Int) (tgt : Nat), (xa_db K y pc (.goto off) 3 n' off tgt) → (R d y (tgt) (ls) (st) (h) (mc) (ms) Q) → R d y (pc) (ls) (st) (h) (mc) (ms) Q
def xr_tableOut : Prop := ∀ (d y pc : Nat) (ls st : List Value) (h : xa_H) (mc ms : Nat) (Q : xa_Q) (n' : Nat) (dflt : Int) (lo : Int) (hi : Int) (offs : Array Int) (len : Nat) (x : Int32) (tgt : Nat), (xa_d K y pc (.tableswitch dflt lo hi offs) len n') → (x.toInt < lo ∨ hi < x.toInt) → ((pc : Int) + dflt = (tgt : Int)) → (R d y (tgt) (ls) (st) (h) (mc) (ms) Q) → R d y (pc) (ls) (.int x :: st) (h) (mc) (ms) Q
def xr_tableIn : Prop := ∀ (d y pc : Nat) (ls st : List Value) (h : xa_H) (mc ms : Nat) (Q : xa_Q) (n' : Nat) (dflt : Int) (lo : Int) (hi : Int) (offs : Array Int) (len : Nat) (x : Int32) (off : Int) (tgt : Nat), (xa_d K y pc (.tableswitch dflt lo hi offs) len n') → (¬ x.toInt < lo) → (¬ hi < x.toInt) → (offs[(x.toInt - lo).toNat]? = some off) → ((pc : Int) + off = (tgt : Int)) → (R d y (tgt) (ls) (st) (h) (mc) (ms) Q) → R d y (pc) (ls) (.int x :: st) (h) (mc) (ms) Q
def xr_lookup : Prop := ∀ (d y pc : Nat) (ls st : List Value) (h : xa_H) (mc ms : Nat) (Q : xa_Q) (n' : Nat) (dflt : Int) (ps : Array (Int × Int)) (len : Nat) (x : Int32) (off : Int) (tgt : Nat), (xa_d K y pc (.lookupswitch dflt ps) len n') → ((ps.toList.zip (ps.toList.drop 1)).all (fun (a, next) => a.1 < next.1) = true) → (Op.lookupswitch.offset ps.toList dflt x.toInt = off) → ((pc : Int) + off = (tgt : Int)) → (R d y (tgt) (ls) (st) (h) (mc) (ms) Q) → R d y (pc) (ls) (.int x :: st) (h) (mc) (ms) Q
def xr_less : Prop := ∀ (d y pc : Nat) (ls st : List Value) (h : xa_H) (mc ms : Nat) (Q : xa_Q) (ls' : List Value), (xa_le ls ls') → (R d y (pc) (ls') (st) (h) (mc) (ms) Q) → R d y (pc) (ls) (st) (h) (mc) (ms) Q
def xr_wide : Prop := ∀ (d y pc : Nat) (ls st : List Value) (h : xa_H) (mc ms : Nat) (Q : xa_Q) (mc' : Nat) (ms' : Nat), (mc' ≤ mc) → (ms' ≤ ms) → (R d y (pc) (ls) (st) (h) (mc') (ms') Q) → R d y (pc) (ls) (st) (h) (mc) (ms) Q
def xr_get : Prop := ∀ (d y pc : Nat) (ls st : List Value) (h : xa_H) (mc ms : Nat) (Q : xa_Q) (n' : Nat) (i : Nat) (ci : Nat) (k0 : Nat) (a : Nat) (fs : List Value) (v : Value), (xa_d K y pc (.getfield i) 3 n') → (xa_fld K (K.1 y).1.cls i ci k0) → (h.2 a = .inr (ci, fs)) → (fs[k0]? = some v) → (R d y (n') (ls) (v :: st) (h) (mc) (ms) Q) → R d y (pc) (ls) (.ref a :: st) (h) (mc) (ms) Q
def xr_put : Prop := ∀ (d y pc : Nat) (ls st : List Value) (h : xa_H) (mc ms : Nat) (Q : xa_Q) (n' : Nat) (i : Nat) (ci : Nat) (k0 : Nat) (ty : FieldType) (a : Nat) (fs : List Value) (v : Value), (xa_d K y pc (.putfield i) 3 n') → (xa_fldP K (K.1 y).1.cls i ci k0 ty) → (h.2 a = .inr (ci, fs)) → (k0 < fs.length) → (∀ tb ad : Nat → Nat, narrow ty (xa_tr tb ad v) = xa_tr tb ad v ∧ fits ty (xa_tr tb ad v) = true) → (R d y (n') (ls) (st) ((h.1, xa_up h.2 a (.inr (ci, fs.set k0 v)))) (mc) (ms) Q) → R d y (pc) (ls) (v :: .ref a :: st) (h) (mc) (ms) Q
def xr_putF : Prop := ∀ (d y pc : Nat) (ls st : List Value) (h : xa_H) (mc ms : Nat) (Q : xa_Q) (n' : Nat) (i : Nat) (ci : Nat) (k0 : Nat) (ty : FieldType) (a : Nat) (fs : List Value) (v : Value), (xa_d K y pc (.putfield i) 3 n') → (xa_fldF K (K.1 y).1.cls i ci k0 ty) → ((K.1 y).1.name = "<init>") → (h.2 a = .inr (ci, fs)) → (k0 < fs.length) → (∀ tb ad : Nat → Nat, narrow ty (xa_tr tb ad v) = xa_tr tb ad v ∧ fits ty (xa_tr tb ad v) = true) → (R d y (n') (ls) (st) ((h.1, xa_up h.2 a (.inr (ci, fs.set k0 v)))) (mc) (ms) Q) → R d y (pc) (ls) (v :: .ref a :: st) (h) (mc) (ms) Q
def xr_iaload : Prop := ∀ (d y pc : Nat) (ls st : List Value) (h : xa_H) (mc ms : Nat) (Q : xa_Q) (n' : Nat) (a : Nat) (n : Nat) (f : Nat → Int32) (i : Int32), (xa_d K y pc (.iaload) 1 n') → (h.2 a = .inl (0, n, .inl f)) → (vp_in i n) → (R d y (n') (ls) (.int (f i.toNatClampNeg) :: st) (h) (mc) (ms) Q) → R d y (pc) (ls) (.int i :: .ref a :: st) (h) (mc) (ms) Q
def xr_baload : Prop := ∀ (d y pc : Nat) (ls st : List Value) (h : xa_H) (mc ms : Nat) (Q : xa_Q) (n' : Nat) (a : Nat) (n : Nat) (f : Nat → Int32) (i : Int32), (xa_d K y pc (.baload) 1 n') → (h.2 a = .inl (1, n, .inl f)) → (vp_in i n) → (R d y (n') (ls) (.int (f i.toNatClampNeg) :: st) (h) (mc) (ms) Q) → R d y (pc) (ls) (.int i :: .ref a :: st) (h) (mc) (ms) Q
def xr_laload : Prop := ∀ (d y pc : Nat) (ls st : List Value) (h : xa_H) (mc ms : Nat) (Q : xa_Q) (n' : Nat) (a : Nat) (n : Nat) (f : Nat → Int64) (i : Int32), (xa_d K y pc (.laload) 1 n') → (h.2 a = .inl (2, n, .inr (.inl f))) → (vp_in i n) → (R d y (n') (ls) (.long (f i.toNatClampNeg) :: st) (h) (mc) (ms) Q) → R d y (pc) (ls) (.int i :: .ref a :: st) (h) (mc) (ms) Q
def xr_aaload : Prop := ∀ (d y pc : Nat) (ls st : List Value) (h : xa_H) (mc ms : Nat) (Q : xa_Q) (n' : Nat) (a : Nat) (n : Nat) (f : Nat → Option Nat) (i : Int32) (b : Nat), (xa_d K y pc (.aaload) 1 n') → (h.2 a = .inl (3, n, .inr (.inr (.inr (.inr f))))) → (vp_in i n) → (f i.toNatClampNeg = some b) → (R d y (n') (ls) (.ref b :: st) (h) (mc) (ms) Q) → R d y (pc) (ls) (.int i :: .ref a :: st) (h) (mc) (ms) Q
def xr_iastore : Prop := ∀ (d y pc : Nat) (ls st : List Value) (h : xa_H) (mc ms : Nat) (Q : xa_Q) (n' : Nat) (a : Nat) (n : Nat) (f : Nat → Int32) (i : Int32) (x : Int32), (xa_d K y pc (.iastore) 1 n') → (h.2 a = .inl (0, n, .inl (f))) → (vp_in i n) → (R d y (n') (ls) (st) ((h.1, xa_up h.2 a (.inl (0, n, .inl (upd f i.toNatClampNeg x))))) (mc) (ms) Q) → R d y (pc) (ls) (.int x :: .int i :: .ref a :: st) (h) (mc) (ms) Q
def xr_bastore : Prop := ∀ (d y pc : Nat) (ls st : List Value) (h : xa_H) (mc ms : Nat) (Q : xa_Q) (n' : Nat) (a : Nat) (n : Nat) (f : Nat → Int32) (i : Int32) (x : Int32), (xa_d K y pc (.bastore) 1 n') → (h.2 a = .inl (1, n, .inl (f))) → (vp_in i n) → (R d y (n') (ls) (st) ((h.1, xa_up h.2 a (.inl (1, n, .inl (upd f i.toNatClampNeg (vp_nar .boolean x)))))) (mc) (ms) Q) → R d y (pc) (ls) (.int x :: .int i :: .ref a :: st) (h) (mc) (ms) Q
def xr_lastore : Prop := ∀ (d y pc : Nat) (ls st : List Value) (h : xa_H) (mc ms : Nat) (Q : xa_Q) (n' : Nat) (a : Nat) (n : Nat) (f : Nat → Int64) (i : Int32) (x : Int64), (xa_d K y pc (.lastore) 1 n') → (h.2 a = .inl (2, n, .inr (.inl (f)))) → (vp_in i n) → (R d y (n') (ls) (st) ((h.1, xa_up h.2 a (.inl (2, n, .inr (.inl (vp_updL f i.toNatClampNeg x)))))) (mc) (ms) Q) → R d y (pc) (ls) (.long x :: .int i :: .ref a :: st) (h) (mc) (ms) Q
def xr_aastore : Prop := ∀ (d y pc : Nat) (ls st : List Value) (h : xa_H) (mc ms : Nat) (Q : xa_Q) (n' : Nat) (a : Nat) (n : Nat) (f : Nat → Option Nat) (i : Int32) (b : Nat) (ci : Nat) (fs : List Value), (xa_d K y pc (.aastore) 1 n') → (h.2 a = .inl (3, n, .inr (.inr (.inr (.inr f))))) → (vp_in i n) → (h.2 b = .inr (ci, fs)) → (∃ T N, K.2.1[ci]? = some (K.2.2.2.2.2, T, N)) → (R d y (n') (ls) (st) ((h.1, xa_up h.2 a (.inl (3, n, .inr (.inr (.inr (.inr (va_up f i.toNatClampNeg (some b))))))))) (mc) (ms) Q) → R d y (pc) (ls) (.ref b :: .int i :: .ref a :: st) (h) (mc) (ms) Q
def xr_tload : Prop := ∀ (d y pc : Nat) (ls st : List Value) (h : xa_H) (mc ms : Nat) (Q : xa_Q) (n' : Nat) (j : Nat) (i : Int32), (xa_d K y pc (.iaload) 1 n') → (j < 2) → (vp_in i (tx j).1) → (R d y (n') (ls) (.int ((tx j).2 i.toNatClampNeg) :: st) (h) (mc) (ms) Q) → R d y (pc) (ls) (.int i :: .retAddr j :: st) (h) (mc) (ms) Q
def xr_tlen : Prop := ∀ (d y pc : Nat) (ls st : List Value) (h : xa_H) (mc ms : Nat) (Q : xa_Q) (n' : Nat) (j : Nat) (v : Int32), (xa_d K y pc (.arraylength) 1 n') → (j < 2) → (Int32.ofNat (tx j).1 = v) → (R d y (n') (ls) (.int v :: st) (h) (mc) (ms) Q) → R d y (pc) (ls) (.retAddr j :: st) (h) (mc) (ms) Q
def xr_gets : Prop := ∀ (d y pc : Nat) (ls st : List Value) (h : xa_H) (mc ms : Nat) (Q : xa_Q) (n' : Nat) (i : Nat), (xa_d K y pc (.getstatic i) 3 n') → (Cond.fieldLink (K.1 y).1.cls i K.2.2.2.1 K.2.2.2.2.1 "[I" ∈ K.2.2.1 ∨ ∃ host, Cond.fieldLinkNest (K.1 y).1.cls i K.2.2.2.1 K.2.2.2.2.1 "[I" host ∈ K.2.2.1) → (R d y (n') (ls) (.retAddr 0 :: st) (h) (mc) (ms) Q) → R d y (pc) (ls) (st) (h) (mc) (ms) Q
def xr_iret : Prop := ∀ (d y pc : Nat) (ls st : List Value) (h : xa_H) (mc ms : Nat) (Q : xa_Q) (n' : Nat) (v : Int32) (ty : FieldType), (xa_d K y pc (.ireturn) 1 n') → ((K.1 y).2.2.2.1 = some ty) → (narrow ty (.int v) = .int v) → (Q (.inl (some (.int v))) h) → R d y (pc) (ls) ([.int v]) (h) (mc) (ms) Q
def xr_vret : Prop := ∀ (d y pc : Nat) (ls st : List Value) (h : xa_H) (mc ms : Nat) (Q : xa_Q) (n' : Nat), (xa_d K y pc (.return_) 1 n') → ((K.1 y).2.2.2.1 = none) → (Q (.inl none) h) → R d y (pc) (ls) ([]) (h) (mc) (ms) Q
def xr_aret : Prop := ∀ (d y pc : Nat) (ls st : List Value) (h : xa_H) (mc ms : Nat) (Q : xa_Q) (n' : Nat) (a : Nat) (ty : FieldType), (xa_d K y pc (.areturn) 1 n') → ((K.1 y).2.2.2.1 = some ty) → ((∃ n, ty = .object n) ∨ ∃ t, ty = .array t) → (Q (.inl (some (.ref a))) h) → R d y (pc) (ls) ([.ref a]) (h) (mc) (ms) Q
def xr_oinit : Prop := ∀ (d y pc : Nat) (ls st : List Value) (h : xa_H) (mc ms : Nat) (Q : xa_Q) (n' : Nat) (i : Nat) (a : Nat), (xa_d K y pc (.invokespecial i) 3 n') → (Cond.methodLink (K.1 y).1.cls i Lib.objectInit ∈ K.2.2.1) → (Cond.instanceMethod Lib.objectInit ∈ K.2.2.1) → (Cond.code Lib.objectInit ⟨#[0xb1]⟩ 1 none ∈ K.2.2.1) → ((st.map fun v => v.category).sum ≤ 8) → (R d y (n') (ls) (st) (h) (mc) (ms) Q) → R d y (pc) (ls) (.ref a :: st) (h) (mc) (ms) Q
def xr_new : Prop := ∀ (d y pc : Nat) (ls st : List Value) (h : xa_H) (mc ms : Nat) (Q : xa_Q) (n' : Nat) (i : Nat) (ci : Nat) (N : Nat) (fs : List Value), (xa_d K y pc (.new i) 3 n') → (xa_new K (K.1 y).1.cls i ci N fs) → (R d y (n') (ls) (.ref h.1 :: st) ((h.1 + 1, xa_up h.2 h.1 (.inr (ci, fs)))) (mc) (ms) Q) → R d y (pc) (ls) (st) (h) (mc + 1) (ms + N) Q
def xr_newI : Prop := ∀ (d y pc : Nat) (ls st : List Value) (h : xa_H) (mc ms : Nat) (Q : xa_Q) (n' : Nat) (n : Int32) (N : Nat), (xa_d K y pc (.newarray .int) 2 n') → (Cond.arrayClass .int ∈ K.2.2.1) → (¬ n < 0) → (n.toNatClampNeg = N) → (N * componentBytes .int ≤ 536870912) → (R d y (n') (ls) (.ref h.1 :: st) ((h.1 + 1, xa_up h.2 h.1 (.inl (0, N, .inl (fun _ => 0))))) (mc) (ms) Q) → R d y (pc) (ls) (.int n :: st) (h) (mc + 1) (ms + N) Q
def xr_newZ : Prop := ∀ (d y pc : Nat) (ls st : List Value) (h : xa_H) (mc ms : Nat) (Q : xa_Q) (n' : Nat) (n : Int32) (N : Nat), (xa_d K y pc (.newarray .boolean) 2 n') → (Cond.arrayClass .boolean ∈ K.2.2.1) → (¬ n < 0) → (n.toNatClampNeg = N) → (N * componentBytes .boolean ≤ 536870912) → (R d y (n') (ls) (.ref h.1 :: st) ((h.1 + 1, xa_up h.2 h.1 (.inl (1, N, .inl (fun _ => 0))))) (mc) (ms) Q) → R d y (pc) (ls) (.int n :: st) (h) (mc + 1) (ms + N) Q
def xr_newL : Prop := ∀ (d y pc : Nat) (ls st : List Value) (h : xa_H) (mc ms : Nat) (Q : xa_Q) (n' : Nat) (n : Int32) (N : Nat), (xa_d K y pc (.newarray .long) 2 n') → (Cond.arrayClass .long ∈ K.2.2.1) → (¬ n < 0) → (n.toNatClampNeg = N) → (N * componentBytes .long ≤ 536870912) → (R d y (n') (ls) (.ref h.1 :: st) ((h.1 + 1, xa_up h.2 h.1 (.inl (2, N, .inr (.inl (fun _ => 0)))))) (mc) (ms) Q) → R d y (pc) (ls) (.int n :: st) (h) (mc + 1) (ms + N) Q
def xr_newQ : Prop := ∀ (d y pc : Nat) (ls st : List Value) (h : xa_H) (mc ms : Nat) (Q : xa_Q) (n' : Nat) (i : Nat) (n : Int32) (N : Nat), (xa_d K y pc (.anewarray i) 3 n') → (Cond.classLink (K.1 y).1.cls i K.2.2.2.2.2 ∈ K.2.2.1) → (Cond.arrayOver (.object K.2.2.2.2.2) ∈ K.2.2.1) → (¬ n < 0) → (n.toNatClampNeg = N) → (N * 4 ≤ 536870912) → (R d y (n') (ls) (.ref h.1 :: st) ((h.1 + 1, xa_up h.2 h.1 (.inl (3, N, .inr (.inr (.inr (.inr (fun _ => none)))))))) (mc) (ms) Q) → R d y (pc) (ls) (.int n :: st) (h) (mc + 1) (ms + N) Q
def xr_callV : Prop := ∀ (d y pc : Nat) (ls st : List Value) (h : xa_H) (mc ms : Nat) (Q : xa_Q) (n' : Nat) (i : Nat) (y' : Nat) (ci : Nat) (fs : List Value) (a : Nat) (As : List Value) (mc' : Nat) (ms' : Nat) (P : xa_Q), (xa_d K y pc (.invokevirtual i) 3 n') → (xa_lkV K (K.1 y).1.cls i ci y' As.length) → (h.2 a = .inr (ci, fs)) → (∀ v ∈ As, v.category = 1) → ((st.map fun v => v.category).sum ≤ 8) → (∀ E h', ¬ P (.inr E) h') → (R d y' 0 (xa_ent (K.1 y').2.2.1 (.ref a :: As)) [] h mc' ms' P) → (∀ (v : Option Value) (h' : xa_H), P (.inl v) h' → R (d + 1) y n' ls (v.toList ++ st) h' mc ms Q) → R (d + 1) y pc ls (As.reverse ++ .ref a :: st) h (mc + mc') (ms + ms') Q
def xr_callS : Prop := ∀ (d y pc : Nat) (ls st : List Value) (h : xa_H) (mc ms : Nat) (Q : xa_Q) (n' : Nat) (i : Nat) (y' : Nat) (As : List Value) (mc' : Nat) (ms' : Nat) (P : xa_Q), (xa_d K y pc (.invokestatic i) 3 n') → (xa_lkS K (K.1 y).1.cls i y' As.length) → (∀ v ∈ As, v.category = 1) → ((st.map fun v => v.category).sum ≤ 8) → (∀ E h', ¬ P (.inr E) h') → (R d y' 0 (xa_ent (K.1 y').2.2.1 (As)) [] h mc' ms' P) → (∀ (v : Option Value) (h' : xa_H), P (.inl v) h' → R (d + 1) y n' ls (v.toList ++ st) h' mc ms Q) → R (d + 1) y pc ls (As.reverse ++ st) h (mc + mc') (ms + ms') Q
def xr_callI : Prop := ∀ (d y pc : Nat) (ls st : List Value) (h : xa_H) (mc ms : Nat) (Q : xa_Q) (n' : Nat) (i : Nat) (y' : Nat) (a : Nat) (As : List Value) (mc' : Nat) (ms' : Nat) (P : xa_Q), (xa_d K y pc (.invokespecial i) 3 n') → (xa_lkI K (K.1 y).1.cls i y' As.length) → (∀ v ∈ As, v.category = 1) → ((st.map fun v => v.category).sum ≤ 8) → (∀ E h', ¬ P (.inr E) h') → (R d y' 0 (xa_ent (K.1 y').2.2.1 (.ref a :: As)) [] h mc' ms' P) → (∀ (v : Option Value) (h' : xa_H), P (.inl v) h' → R (d + 1) y n' ls (v.toList ++ st) h' mc ms Q) → R (d + 1) y pc ls (As.reverse ++ .ref a :: st) h (mc + mc') (ms + ms') Q
def xr_mmax : Prop := ∀ (d y pc : Nat) (ls st : List Value) (h : xa_H) (mc ms : Nat) (Q : xa_Q) (n' : Nat) (i : Nat) (x : Int32) (z : Int32), (xa_d K y pc (.invokestatic i) 3 n') → (Cond.methodLink (K.1 y).1.cls i Lib.Math.max.name ∈ K.2.2.1) → (Cond.static Lib.Math.max.name ∈ K.2.2.1) → (Cond.initialized "java/lang/Math" ∈ K.2.2.1) → (Cond.code Lib.Math.max.name Lib.Math.max.code 2 (some .int) ∈ K.2.2.1) → ((st.map fun v => v.category).sum ≤ 8) → (R d y (n') (ls) (.int (if x < z then z else x) :: st) (h) (mc) (ms) Q) → R d y (pc) (ls) (.int z :: .int x :: st) (h) (mc) (ms) Q
def xa_cl : Prop := xr_iconst K R ∧ xr_bipush K R ∧ xr_sipush K R ∧ xr_ldc K R ∧ xr_iload_n K R ∧ xr_iload K R ∧ xr_aload_n K R ∧ xr_aload_nT K R ∧ xr_aload K R ∧ xr_aloadT K R ∧ xr_istore_n K R ∧ xr_istore K R ∧ xr_astore_n K R ∧ xr_astore K R ∧ xr_iinc K R ∧ xr_iadd K R ∧ xr_isub K R ∧ xr_imul K R ∧ xr_iand K R ∧ xr_ior K R ∧ xr_ixor K R ∧ xr_ishl K R ∧ xr_ishr K R ∧ xr_iushr K R ∧ xr_idiv K R ∧ xr_irem K R ∧ xr_i2l K R ∧ xr_lcmp K R ∧ xr_dup K R ∧ xr_pop K R ∧ xr_dup2 K R ∧ xr_dup_x1 K R ∧ xr_if_eq K R ∧ xr_if_ne K R ∧ xr_if_lt K R ∧ xr_if_ge K R ∧ xr_if_gt K R ∧ xr_if_le K R ∧ xr_icmp_eq K R ∧ xr_icmp_ne K R ∧ xr_icmp_lt K R ∧ xr_icmp_ge K R ∧ xr_icmp_gt K R ∧ xr_icmp_le K R ∧ xr_goto K R ∧ xr_tableOut K R ∧ xr_tableIn K R ∧ xr_lookup K R ∧ xr_less R ∧ xr_wide R ∧ xr_get K R ∧ xr_put K R ∧ xr_putF K R ∧ xr_iaload K R ∧ xr_baload K R ∧ xr_laload K R ∧ xr_aaload K R ∧ xr_iastore K R ∧ xr_bastore K R ∧ xr_lastore K R ∧ xr_aastore K R ∧ xr_tload K tx R ∧ xr_tlen K tx R ∧ xr_gets K R ∧ xr_iret K R ∧ xr_vret K R ∧ xr_aret K R ∧ xr_oinit K R ∧ xr_new K R ∧ xr_newI K R ∧ xr_newZ K R ∧ xr_newL K R ∧ xr_newQ K R ∧ xr_callV K R ∧ xr_callS K R ∧ xr_callI K R ∧ xr_mmax K R
end XRules
/-- from here the machine ends, and Q holds there -/
def xa_X (K : xa_P) (tx : Nat → Nat × (Nat → Int32)) : xa_R := fun d y pc ls st h mc ms Q => ∀ R : xa_R, xa_cl K tx R → R d y pc ls st h mc ms Q
section XRows
variable {K : xa_P} {tx : Nat → Nat × (Nat → Int32)} {d y pc : Nat} {ls st : List Value} {h : xa_H} {mc ms : Nat} {Q : xa_Q}
theorem xx_iconst {n' : Nat} {n : Int} {v : Int32} (hd : xa_d K y pc (.iconst n) 1 n') (hv : Int32.ofInt n = v) (k : xa_X K tx d y (n') (ls) (.int v :: st) (h) (mc) (ms) Q) : xa_X K tx d y (pc) (ls) (st) (h) (mc) (ms) Q := fun R hR => hR.1 _ _ _ _ _ _ _ _ _ _ _ _ hd hv (k R hR)
theorem xx_bipush {n' : Nat} {n : Int} {v : Int32} (hd : xa_d K y pc (.bipush n) 2 n') (hv : (Int8.ofInt n).toInt32 = v) (k : xa_X K tx d y (n') (ls) (.int v :: st) (h) (mc) (ms) Q) : xa_X K tx d y (pc) (ls) (st) (h) (mc) (ms) Q := fun R hR => hR.2.1 _ _ _ _ _ _ _ _ _ _ _ _ hd hv (k R hR)
theorem xx_sipush {n' : Nat} {n : Int} {v : Int32} (hd : xa_d K y pc (.sipush n) 3 n') (hv : (Int16.ofInt n).toInt32 = v) (k : xa_X K tx d y (n') (ls) (.int v :: st) (h) (mc) (ms) Q) : xa_X K tx d y (pc) (ls) (st) (h) (mc) (ms) Q := fun R hR => hR.2.2.1 _ _ _ _ _ _ _ _ _ _ _ _ hd hv (k R hR)
theorem xx_ldc {n' : Nat} {i : Nat} {v : Int32} (hd : xa_d K y pc (.ldc i) 2 n') (hv : Jvm.Cond.constant (K.1 y).1.cls i v ∈ K.2.2.1) (k : xa_X K tx d y (n') (ls) (.int v :: st) (h) (mc) (ms) Q) : xa_X K tx d y (pc) (ls) (st) (h) (mc) (ms) Q := fun R hR => hR.2.2.2.1 _ _ _ _ _ _ _ _ _ _ _ _ hd hv (k R hR)
theorem xx_iload_n {n' : Nat} {n : Fin 4} {i : Nat} {x : Int32} (hd : xa_d K y pc (.iload_n n) 1 n') (hi : (n : Nat) = i) (hl : ls[i]? = some (.int x)) (k : xa_X K tx d y (n') (ls) (.int x :: st) (h) (mc) (ms) Q) : xa_X K tx d y (pc) (ls) (st) (h) (mc) (ms) Q := fun R hR => hR.2.2.2.2.1 _ _ _ _ _ _ _ _ _ _ _ _ _ hd hi hl (k R hR)
theorem xx_iload {n' : Nat} {i : Nat} {x : Int32} (hd : xa_d K y pc (.iload i) 2 n') (hl : ls[i]? = some (.int x)) (k : xa_X K tx d y (n') (ls) (.int x :: st) (h) (mc) (ms) Q) : xa_X K tx d y (pc) (ls) (st) (h) (mc) (ms) Q := fun R hR => hR.2.2.2.2.2.1 _ _ _ _ _ _ _ _ _ _ _ _ hd hl (k R hR)
theorem xx_aload_n {n' : Nat} {n : Fin 4} {i : Nat} {x : Nat} (hd : xa_d K y pc (.aload_n n) 1 n') (hi : (n : Nat) = i) (hl : ls[i]? = some (.ref x)) (k : xa_X K tx d y (n') (ls) (.ref x :: st) (h) (mc) (ms) Q) : xa_X K tx d y (pc) (ls) (st) (h) (mc) (ms) Q := fun R hR => hR.2.2.2.2.2.2.1 _ _ _ _ _ _ _ _ _ _ _ _ _ hd hi hl (k R hR)
theorem xx_aload_nT {n' : Nat} {n : Fin 4} {i : Nat} {x : Nat} (hd : xa_d K y pc (.aload_n n) 1 n') (hi : (n : Nat) = i) (hl : ls[i]? = some (.retAddr x)) (k : xa_X K tx d y (n') (ls) (.retAddr x :: st) (h) (mc) (ms) Q) : xa_X K tx d y (pc) (ls) (st) (h) (mc) (ms) Q := fun R hR => hR.2.2.2.2.2.2.2.1 _ _ _ _ _ _ _ _ _ _ _ _ _ hd hi hl (k R hR)
theorem xx_aload {n' : Nat} {i : Nat} {x : Nat} (hd : xa_d K y pc (.aload i) 2 n') (hl : ls[i]? = some (.ref x)) (k : xa_X K tx d y (n') (ls) (.ref x :: st) (h) (mc) (ms) Q) : xa_X K tx d y (pc) (ls) (st) (h) (mc) (ms) Q := fun R hR => hR.2.2.2.2.2.2.2.2.1 _ _ _ _ _ _ _ _ _ _ _ _ hd hl (k R hR)
theorem xx_aloadT {n' : Nat} {i : Nat} {x : Nat} (hd : xa_d K y pc (.aload i) 2 n') (hl : ls[i]? = some (.retAddr x)) (k : xa_X K tx d y (n') (ls) (.retAddr x :: st) (h) (mc) (ms) Q) : xa_X K tx d y (pc) (ls) (st) (h) (mc) (ms) Q := fun R hR => hR.2.2.2.2.2.2.2.2.2.1 _ _ _ _ _ _ _ _ _ _ _ _ hd hl (k R hR)
theorem xx_istore_n {n' : Nat} {n : Fin 4} {i : Nat} {x : Int32} {w : Value} (hd : xa_d K y pc (.istore_n n) 1 n') (hi : (n : Nat) = i) (hl : ls[i]? = some w) (k : xa_X K tx d y (n') (ls.set i (.int x)) (st) (h) (mc) (ms) Q) : xa_X K tx d y (pc) (ls) (.int x :: st) (h) (mc) (ms) Q := fun R hR => hR.2.2.2.2.2.2.2.2.2.2.1 _ _ _ _ _ _ _ _ _ _ _ _ _ _ hd hi hl (k R hR)
theorem xx_istore {n' : Nat} {i : Nat} {x : Int32} {w : Value} (hd : xa_d K y pc (.istore i) 2 n') (hl : ls[i]? = some w) (k : xa_X K tx d y (n') (ls.set i (.int x)) (st) (h) (mc) (ms) Q) : xa_X K tx d y (pc) (ls) (.int x :: st) (h) (mc) (ms) Q := fun R hR => hR.2.2.2.2.2.2.2.2.2.2.2.1 _ _ _ _ _ _ _ _ _ _ _ _ _ hd hl (k R hR)
theorem xx_astore_n {n' : Nat} {n : Fin 4} {i : Nat} {x : Nat} {w : Value} (hd : xa_d K y pc (.astore_n n) 1 n') (hi : (n : Nat) = i) (hl : ls[i]? = some w) (k : xa_X K tx d y (n') (ls.set i (.ref x)) (st) (h) (mc) (ms) Q) : xa_X K tx d y (pc) (ls) (.ref x :: st) (h) (mc) (ms) Q := fun R hR => hR.2.2.2.2.2.2.2.2.2.2.2.2.1 _ _ _ _ _ _ _ _ _ _ _ _ _ _ hd hi hl (k R hR)
theorem xx_astore {n' : Nat} {i : Nat} {x : Nat} {w : Value} (hd : xa_d K y pc (.astore i) 2 n') (hl : ls[i]? = some w) (k : xa_X K tx d y (n') (ls.set i (.ref x)) (st) (h) (mc) (ms) Q) : xa_X K tx d y (pc) (ls) (.ref x :: st) (h) (mc) (ms) Q := fun R hR => hR.2.2.2.2.2.2.2.2.2.2.2.2.2.1 _ _ _ _ _ _ _ _ _ _ _ _ _ hd hl (k R hR)
theorem xx_iinc {n' : Nat} {i : Nat} {n : Int} {x : Int32} {v : Int32} (hd : xa_d K y pc (.iinc i n) 3 n') (hl : ls[i]? = some (.int x)) (hv : x + Int32.ofInt n = v) (k : xa_X K tx d y (n') (ls.set i (.int v)) (st) (h) (mc) (ms) Q) : xa_X K tx d y (pc) (ls) (st) (h) (mc) (ms) Q := fun R hR => hR.2.2.2.2.2.2.2.2.2.2.2.2.2.2.1 _ _ _ _ _ _ _ _ _ _ _ _ _ _ hd hl hv (k R hR)
theorem xx_iadd {n' : Nat} {x : Int32} {z : Int32} (hd : xa_d K y pc (.iadd) 1 n') (k : xa_X K tx d y (n') (ls) (.int (x + z) :: st) (h) (mc) (ms) Q) : xa_X K tx d y (pc) (ls) (.int z :: .int x :: st) (h) (mc) (ms) Q := fun R hR => hR.2.2.2.2.2.2.2.2.2.2.2.2.2.2.2.1 _ _ _ _ _ _ _ _ _ _ _ _ hd (k R hR)
theorem xx_isub {n' : Nat} {x : Int32} {z : Int32} (hd : xa_d K y pc (.isub) 1 n') (k : xa_X K tx d y (n') (ls) (.int (x - z) :: st) (h) (mc) (ms) Q) : xa_X K tx d y (pc) (ls) (.int z :: .int x :: st) (h) (mc) (ms) Q := fun R hR => hR.2.2.2.2.2.2.2.2.2.2.2.2.2.2.2.2.1 _ _ _ _ _ _ _ _ _ _ _ _ hd (k R hR)
theorem xx_imul {n' : Nat} {x : Int32} {z : Int32} (hd : xa_d K y pc (.imul) 1 n') (k : xa_X K tx d y (n') (ls) (.int (x * z) :: st) (h) (mc) (ms) Q) : xa_X K tx d y (pc) (ls) (.int z :: .int x :: st) (h) (mc) (ms) Q := fun R hR => hR.2.2.2.2.2.2.2.2.2.2.2.2.2.2.2.2.2.1 _ _ _ _ _ _ _ _ _ _ _ _ hd (k R hR)
theorem xx_iand {n' : Nat} {x : Int32} {z : Int32} (hd : xa_d K y pc (.iand) 1 n') (k : xa_X K tx d y (n') (ls) (.int (x &&& z) :: st) (h) (mc) (ms) Q) : xa_X K tx d y (pc) (ls) (.int z :: .int x :: st) (h) (mc) (ms) Q := fun R hR => hR.2.2.2.2.2.2.2.2.2.2.2.2.2.2.2.2.2.2.1 _ _ _ _ _ _ _ _ _ _ _ _ hd (k R hR)
theorem xx_ior {n' : Nat} {x : Int32} {z : Int32} (hd : xa_d K y pc (.ior) 1 n') (k : xa_X K tx d y (n') (ls) (.int (x ||| z) :: st) (h) (mc) (ms) Q) : xa_X K tx d y (pc) (ls) (.int z :: .int x :: st) (h) (mc) (ms) Q := fun R hR => hR.2.2.2.2.2.2.2.2.2.2.2.2.2.2.2.2.2.2.2.1 _ _ _ _ _ _ _ _ _ _ _ _ hd (k R hR)
theorem xx_ixor {n' : Nat} {x : Int32} {z : Int32} (hd : xa_d K y pc (.ixor) 1 n') (k : xa_X K tx d y (n') (ls) (.int (x ^^^ z) :: st) (h) (mc) (ms) Q) : xa_X K tx d y (pc) (ls) (.int z :: .int x :: st) (h) (mc) (ms) Q := fun R hR => hR.2.2.2.2.2.2.2.2.2.2.2.2.2.2.2.2.2.2.2.2.1 _ _ _ _ _ _ _ _ _ _ _ _ hd (k R hR)
theorem xx_ishl {n' : Nat} {x : Int32} {z : Int32} (hd : xa_d K y pc (.ishl) 1 n') (k : xa_X K tx d y (n') (ls) (.int (x <<< (z &&& 31)) :: st) (h) (mc) (ms) Q) : xa_X K tx d y (pc) (ls) (.int z :: .int x :: st) (h) (mc) (ms) Q := fun R hR => hR.2.2.2.2.2.2.2.2.2.2.2.2.2.2.2.2.2.2.2.2.2.1 _ _ _ _ _ _ _ _ _ _ _ _ hd (k R hR)
theorem xx_ishr {n' : Nat} {x : Int32} {z : Int32} (hd : xa_d K y pc (.ishr) 1 n') (k : xa_X K tx d y (n') (ls) (.int (x >>> (z &&& 31)) :: st) (h) (mc) (ms) Q) : xa_X K tx d y (pc) (ls) (.int z :: .int x :: st) (h) (mc) (ms) Q := fun R hR => hR.2.2.2.2.2.2.2.2.2.2.2.2.2.2.2.2.2.2.2.2.2.2.1 _ _ _ _ _ _ _ _ _ _ _ _ hd (k R hR)
theorem xx_iushr {n' : Nat} {x : Int32} {z : Int32} (hd : xa_d K y pc (.iushr) 1 n') (k : xa_X K tx d y (n') (ls) (.int ((x.toUInt32 >>> (z.toUInt32 &&& Int32.toUInt32 31)).toInt32) :: st) (h) (mc) (ms) Q) : xa_X K tx d y (pc) (ls) (.int z :: .int x :: st) (h) (mc) (ms) Q := fun R hR => hR.2.2.2.2.2.2.2.2.2.2.2.2.2.2.2.2.2.2.2.2.2.2.2.1 _ _ _ _ _ _ _ _ _ _ _ _ hd (k R hR)
theorem xx_idiv {n' : Nat} {x : Int32} {z : Int32} (hd : xa_d K y pc (.idiv) 1 n') (hz : ¬ z = 0) (k : xa_X K tx d y (n') (ls) (.int (x / z) :: st) (h) (mc) (ms) Q) : xa_X K tx d y (pc) (ls) (.int z :: .int x :: st) (h) (mc) (ms) Q := fun R hR => hR.2.2.2.2.2.2.2.2.2.2.2.2.2.2.2.2.2.2.2.2.2.2.2.2.1 _ _ _ _ _ _ _ _ _ _ _ _ hd hz (k R hR)
theorem xx_irem {n' : Nat} {x : Int32} {z : Int32} (hd : xa_d K y pc (.irem) 1 n') (hz : ¬ z = 0) (k : xa_X K tx d y (n') (ls) (.int (x - x / z * z) :: st) (h) (mc) (ms) Q) : xa_X K tx d y (pc) (ls) (.int z :: .int x :: st) (h) (mc) (ms) Q := fun R hR => hR.2.2.2.2.2.2.2.2.2.2.2.2.2.2.2.2.2.2.2.2.2.2.2.2.2.1 _ _ _ _ _ _ _ _ _ _ _ _ hd hz (k R hR)
theorem xx_i2l {n' : Nat} {x : Int32} (hd : xa_d K y pc (.i2l) 1 n') (k : xa_X K tx d y (n') (ls) (.long x.toInt64 :: st) (h) (mc) (ms) Q) : xa_X K tx d y (pc) (ls) (.int x :: st) (h) (mc) (ms) Q := fun R hR => hR.2.2.2.2.2.2.2.2.2.2.2.2.2.2.2.2.2.2.2.2.2.2.2.2.2.2.1 _ _ _ _ _ _ _ _ _ _ _ hd (k R hR)
theorem xx_lcmp {n' : Nat} {x : Int64} {z : Int64} (hd : xa_d K y pc (.lcmp) 1 n') (k : xa_X K tx d y (n') (ls) (.int (lg_cmp x z) :: st) (h) (mc) (ms) Q) : xa_X K tx d y (pc) (ls) (.long z :: .long x :: st) (h) (mc) (ms) Q := fun R hR => hR.2.2.2.2.2.2.2.2.2.2.2.2.2.2.2.2.2.2.2.2.2.2.2.2.2.2.2.1 _ _ _ _ _ _ _ _ _ _ _ _ hd (k R hR)
theorem xx_dup {n' : Nat} {v : Value} (hd : xa_d K y pc (.dup) 1 n') (hv : v.category = 1) (k : xa_X K tx d y (n') (ls) (v :: v :: st) (h) (mc) (ms) Q) : xa_X K tx d y (pc) (ls) (v :: st) (h) (mc) (ms) Q := fun R hR => hR.2.2.2.2.2.2.2.2.2.2.2.2.2.2.2.2.2.2.2.2.2.2.2.2.2.2.2.2.1 _ _ _ _ _ _ _ _ _ _ _ hd hv (k R hR)
theorem xx_pop {n' : Nat} {v : Value} (hd : xa_d K y pc (.pop) 1 n') (hv : v.category = 1) (k : xa_X K tx d y (n') (ls) (st) (h) (mc) (ms) Q) : xa_X K tx d y (pc) (ls) (v :: st) (h) (mc) (ms) Q := fun R hR => hR.2.2.2.2.2.2.2.2.2.2.2.2.2.2.2.2.2.2.2.2.2.2.2.2.2.2.2.2.2.1 _ _ _ _ _ _ _ _ _ _ _ hd hv (k R hR)
theorem xx_dup2 {n' : Nat} {v : Value} {w : Value} (hd : xa_d K y pc (.dup2) 1 n') (hv : v.category = 1) (hw : w.category = 1) (k : xa_X K tx d y (n') (ls) (v :: w :: v :: w :: st) (h) (mc) (ms) Q) : xa_X K tx d y (pc) (ls) (v :: w :: st) (h) (mc) (ms) Q := fun R hR => hR.2.2.2.2.2.2.2.2.2.2.2.2.2.2.2.2.2.2.2.2.2.2.2.2.2.2.2.2.2.2.1 _ _ _ _ _ _ _ _ _ _ _ _ hd hv hw (k R hR)
theorem xx_dup_x1 {n' : Nat} {v : Value} {w : Value} (hd : xa_d K y pc (.dup_x1) 1 n') (hv : v.category = 1) (hw : w.category = 1) (k : xa_X K tx d y (n') (ls) (v :: w :: v :: st) (h) (mc) (ms) Q) : xa_X K tx d y (pc) (ls) (v :: w :: st) (h) (mc) (ms) Q := fun R hR => hR.2.2.2.2.2.2.2.2.2.2.2.2.2.2.2.2.2.2.2.2.2.2.2.2.2.2.2.2.2.2.2.1 _ _ _ _ _ _ _ _ _ _ _ _ hd hv hw (k R hR)
theorem xx_if_eq {n' : Nat} {x : Int32} {off : Int} {tgt : Nat} (hd : xa_db K y pc (.ifCond .eq off) 3 n' off tgt) (kt : (x = 0 → xa_X K tx d y (tgt) (ls) (st) (h) (mc) (ms) Q)) (kf : (¬ x = 0 → xa_X K tx d y (n') (ls) (st) (h) (mc) (ms) Q)) : xa_X K tx d y (pc) (ls) (.int x :: st) (h) (mc) (ms) Q := fun R hR => hR.2.2.2.2.2.2.2.2.2.2.2.2.2.2.2.2.2.2.2.2.2.2.2.2.2.2.2.2.2.2.2.2.1 _ _ _ _ _ _ _ _ _ _ _ _ _ hd (fun q => kt q R hR) (fun q => kf q R hR)
theorem xx_if_ne {n' : Nat} {x : Int32} {off : Int} {tgt : Nat} (hd : xa_db K y pc (.ifCond .ne off) 3 n' off tgt) (kt : (¬ x = 0 → xa_X K tx d y (tgt) (ls) (st) (h) (mc) (ms) Q)) (kf : (x = 0 → xa_X K tx d y (n') (ls) (st) (h) (mc) (ms) Q)) : xa_X K tx d y (pc) (ls) (.int x :: st) (h) (mc) (ms) Q := fun R hR => hR.2.2.2.2.2.2.2.2.2.2.2.2.2.2.2.2.2.2.2.2.2.2.2.2.2.2.2.2.2.2.2.2.2.1 _ _ _ _ _ _ _ _ _ _ _ _ _ hd (fun q => kt q R hR) (fun q => kf q R hR)
theorem xx_if_lt {n' : Nat} {x : Int32} {off : Int} {tgt : Nat} (hd : xa_db K y pc (.ifCond .lt off) 3 n' off tgt) (kt : (x < 0 → xa_X K tx d y (tgt) (ls) (st) (h) (mc) (ms) Q)) (kf : (¬ x < 0 → xa_X K tx d y (n') (ls) (st) (h) (mc) (ms) Q)) : xa_X K tx d y (pc) (ls) (.int x :: st) (h) (mc) (ms) Q := fun R hR => hR.2.2.2.2.2.2.2.2.2.2.2.2.2.2.2.2.2.2.2.2.2.2.2.2.2.2.2.2.2.2.2.2.2.2.1 _ _ _ _ _ _ _ _ _ _ _ _ _ hd (fun q => kt q R hR) (fun q => kf q R hR)
theorem xx_if_ge {n' : Nat} {x : Int32} {off : Int} {tgt : Nat} (hd : xa_db K y pc (.ifCond .ge off) 3 n' off tgt) (kt : (0 ≤ x → xa_X K tx d y (tgt) (ls) (st) (h) (mc) (ms) Q)) (kf : (¬ 0 ≤ x → xa_X K tx d y (n') (ls) (st) (h) (mc) (ms) Q)) : xa_X K tx d y (pc) (ls) (.int x :: st) (h) (mc) (ms) Q := fun R hR => hR.2.2.2.2.2.2.2.2.2.2.2.2.2.2.2.2.2.2.2.2.2.2.2.2.2.2.2.2.2.2.2.2.2.2.2.1 _ _ _ _ _ _ _ _ _ _ _ _ _ hd (fun q => kt q R hR) (fun q => kf q R hR)
theorem xx_if_gt {n' : Nat} {x : Int32} {off : Int} {tgt : Nat} (hd : xa_db K y pc (.ifCond .gt off) 3 n' off tgt) (kt : (0 < x → xa_X K tx d y (tgt) (ls) (st) (h) (mc) (ms) Q)) (kf : (¬ 0 < x → xa_X K tx d y (n') (ls) (st) (h) (mc) (ms) Q)) : xa_X K tx d y (pc) (ls) (.int x :: st) (h) (mc) (ms) Q := fun R hR => hR.2.2.2.2.2.2.2.2.2.2.2.2.2.2.2.2.2.2.2.2.2.2.2.2.2.2.2.2.2.2.2.2.2.2.2.2.1 _ _ _ _ _ _ _ _ _ _ _ _ _ hd (fun q => kt q R hR) (fun q => kf q R hR)
theorem xx_if_le {n' : Nat} {x : Int32} {off : Int} {tgt : Nat} (hd : xa_db K y pc (.ifCond .le off) 3 n' off tgt) (kt : (x ≤ 0 → xa_X K tx d y (tgt) (ls) (st) (h) (mc) (ms) Q)) (kf : (¬ x ≤ 0 → xa_X K tx d y (n') (ls) (st) (h) (mc) (ms) Q)) : xa_X K tx d y (pc) (ls) (.int x :: st) (h) (mc) (ms) Q := fun R hR => hR.2.2.2.2.2.2.2.2.2.2.2.2.2.2.2.2.2.2.2.2.2.2.2.2.2.2.2.2.2.2.2.2.2.2.2.2.2.1 _ _ _ _ _ _ _ _ _ _ _ _ _ hd (fun q => kt q R hR) (fun q => kf q R hR)
theorem xx_icmp_eq {n' : Nat} {x : Int32} {z : Int32} {off : Int} {tgt : Nat} (hd : xa_db K y pc (.if_icmp .eq off) 3 n' off tgt) (kt : (x = z → xa_X K tx d y (tgt) (ls) (st) (h) (mc) (ms) Q)) (kf : (¬ x = z → xa_X K tx d y (n') (ls) (st) (h) (mc) (ms) Q)) : xa_X K tx d y (pc) (ls) (.int z :: .int x :: st) (h) (mc) (ms) Q := fun R hR => hR.2.2.2.2.2.2.2.2.2.2.2.2.2.2.2.2.2.2.2.2.2.2.2.2.2.2.2.2.2.2.2.2.2.2.2.2.2.2.1 _ _ _ _ _ _ _ _ _ _ _ _ _ _ hd (fun q => kt q R hR) (fun q => kf q R hR)
theorem xx_icmp_ne {n' : Nat} {x : Int32} {z : Int32} {off : Int} {tgt : Nat} (hd : xa_db K y pc (.if_icmp .ne off) 3 n' off tgt) (kt : (¬ x = z → xa_X K tx d y (tgt) (ls) (st) (h) (mc) (ms) Q)) (kf : (x = z → xa_X K tx d y (n') (ls) (st) (h) (mc) (ms) Q)) : xa_X K tx d y (pc) (ls) (.int z :: .int x :: st) (h) (mc) (ms) Q := fun R hR => hR.2.2.2.2.2.2.2.2.2.2.2.2.2.2.2.2.2.2.2.2.2.2.2.2.2.2.2.2.2.2.2.2.2.2.2.2.2.2.2.1 _ _ _ _ _ _ _ _ _ _ _ _ _ _ hd (fun q => kt q R hR) (fun q => kf q R hR)
theorem xx_icmp_lt {n' : Nat} {x : Int32} {z : Int32} {off : Int} {tgt : Nat} (hd : xa_db K y pc (.if_icmp .lt off) 3 n' off tgt) (kt : (x < z → xa_X K tx d y (tgt) (ls) (st) (h) (mc) (ms) Q)) (kf : (¬ x < z → xa_X K tx d y (n') (ls) (st) (h) (mc) (ms) Q)) : xa_X K tx d y (pc) (ls) (.int z :: .int x :: st) (h) (mc) (ms) Q := fun R hR => hR.2.2.2.2.2.2.2.2.2.2.2.2.2.2.2.2.2.2.2.2.2.2.2.2.2.2.2.2.2.2.2.2.2.2.2.2.2.2.2.2.1 _ _ _ _ _ _ _ _ _ _ _ _ _ _ hd (fun q => kt q R hR) (fun q => kf q R hR)
theorem xx_icmp_ge {n' : Nat} {x : Int32} {z : Int32} {off : Int} {tgt : Nat} (hd : xa_db K y pc (.if_icmp .ge off) 3 n' off tgt) (kt : (z ≤ x → xa_X K tx d y (tgt) (ls) (st) (h) (mc) (ms) Q)) (kf : (¬ z ≤ x → xa_X K tx d y (n') (ls) (st) (h) (mc) (ms) Q)) : xa_X K tx d y (pc) (ls) (.int z :: .int x :: st) (h) (mc) (ms) Q := fun R hR => hR.2.2.2.2.2.2.2.2.2.2.2.2.2.2.2.2.2.2.2.2.2.2.2.2.2.2.2.2.2.2.2.2.2.2.2.2.2.2.2.2.2.1 _ _ _ _ _ _ _ _ _ _ _ _ _ _ hd (fun q => kt q R hR) (fun q => kf q R hR)
theorem xx_icmp_gt {n' : Nat} {x : Int32} {z : Int32} {off : Int} {tgt : Nat} (hd : xa_db K y pc (.if_icmp .gt off) 3 n' off tgt) (kt : (z < x → xa_X K tx d y (tgt) (ls) (st) (h) (mc) (ms) Q)) (kf : (¬ z < x → xa_X K tx d y (n') (ls) (st) (h) (mc) (ms) Q)) : xa_X K tx d y (pc) (ls) (.int z :: .int x :: st) (h) (mc) (ms) Q := fun R hR => hR.2.2.2.2.2.2.2.2.2.2.2.2.2.2.2.2.2.2.2.2.2.2.2.2.2.2.2.2.2.2.2.2.2.2.2.2.2.2.2.2.2.2.1 _ _ _ _ _ _ _ _ _ _ _ _ _ _ hd (fun q => kt q R hR) (fun q => kf q R hR)
theorem xx_icmp_le {n' : Nat} {x : Int32} {z : Int32} {off : Int} {tgt : Nat} (hd : xa_db K y pc (.if_icmp .le off) 3 n' off tgt) (kt : (x ≤ z → xa_X K tx d y (tgt) (ls) (st) (h) (mc) (ms) Q)) (kf : (¬ x ≤ z → xa_X K tx d y (n') (ls) (st) (h) (mc) (ms) Q)) : xa_X K tx d y (pc) (ls) (.int z :: .int x :: st) (h) (mc) (ms) Q := fun R hR => hR.2.2.2.2.2.2.2.2.2.2.2.2.2.2.2.2.2.2.2.2.2.2.2.2.2.2.2.2.2.2.2.2.2.2.2.2.2.2.2.2.2.2.2.1 _ _ _ _ _ _ _ _ _ _ _ _ _ _ hd (fun q => kt q R hR) (fun q => kf q R hR)
theorem xx_goto {n' : Nat} {off : Int} {tgt : Nat} (hd : xa_db K y pc (.goto off) 3 n' off tgt) (k : xa_X K tx d y (tgt) (ls) (st) (h) (mc) (ms) Q) : xa_X K tx d y (pc) (ls) (st) (h) (mc) (ms) Q := fun R hR => hR.2.2.2.2.2.2.2.2.2.2.2.2.2.2.2.2.2.2.2.2.2.2.2.2.2.2.2.2.2.2.2.2.2.2.2.2.2.2.2.2.2.2.2.2.1 _ _ _ _ _ _ _ _ _ _ _ _ hd (k R hR)
theorem xx_tableOut {n' : Nat} {dflt : Int} {lo : Int} {hi : Int} {offs : Array Int} {len : Nat} {x : Int32} {tgt : Nat} (hd : xa_d K y pc (.tableswitch dflt lo hi offs) len n') (hx : x.toInt < lo ∨ hi < x.toInt) (ht : (pc : Int) + dflt = (tgt : Int)) (k : xa_X K tx d y (tgt) (ls) (st) (h) (mc) (ms) Q) : xa_X K tx d y (pc) (ls) (.int x :: st) (h) (mc) (ms) Q := fun R hR => hR.2.2.2.2.2.2.2.2.2.2.2.2.2.2.2.2.2.2.2.2.2.2.2.2.2.2.2.2.2.2.2.2.2.2.2.2.2.2.2.2.2.2.2.2.2.1 _ _ _ _ _ _ _ _ _ _ _ _ _ _ _ _ _ hd hx ht (k R hR)
theorem xx_tableIn {n' : Nat} {dflt : Int} {lo : Int} {hi : Int} {offs : Array Int} {len : Nat} {x : Int32} {off : Int} {tgt : Nat} (hd : xa_d K y pc (.tableswitch dflt lo hi offs) len n') (h1 : ¬ x.toInt < lo) (h2 : ¬ hi < x.toInt) (ho : offs[(x.toInt - lo).toNat]? = some off) (ht : (pc : Int) + off = (tgt : Int)) (k : xa_X K tx d y (tgt) (ls) (st) (h) (mc) (ms) Q) : xa_X K tx d y (pc) (ls) (.int x :: st) (h) (mc) (ms) Q := fun R hR => hR.2.2.2.2.2.2.2.2.2.2.2.2.2.2.2.2.2.2.2.2.2.2.2.2.2.2.2.2.2.2.2.2.2.2.2.2.2.2.2.2.2.2.2.2.2.2.1 _ _ _ _ _ _ _ _ _ _ _ _ _ _ _ _ _ _ hd h1 h2 ho ht (k R hR)
theorem xx_lookup {n' : Nat} {dflt : Int} {ps : Array (Int × Int)} {len : Nat} {x : Int32} {off : Int} {tgt : Nat} (hd : xa_d K y pc (.lookupswitch dflt ps) len n') (hp : (ps.toList.zip (ps.toList.drop 1)).all (fun (a, next) => a.1 < next.1) = true) (ho : Op.lookupswitch.offset ps.toList dflt x.toInt = off) (ht : (pc : Int) + off = (tgt : Int)) (k : xa_X K tx d y (tgt) (ls) (st) (h) (mc) (ms) Q) : xa_X K tx d y (pc) (ls) (.int x :: st) (h) (mc) (ms) Q := fun R hR => hR.2.2.2.2.2.2.2.2.2.2.2.2.2.2.2.2.2.2.2.2.2.2.2.2.2.2.2.2.2.2.2.2.2.2.2.2.2.2.2.2.2.2.2.2.2.2.2.1 _ _ _ _ _ _ _ _ _ _ _ _ _ _ _ _ hd hp ho ht (k R hR)
theorem xx_less {ls' : List Value} (hl : xa_le ls ls') (k : xa_X K tx d y (pc) (ls') (st) (h) (mc) (ms) Q) : xa_X K tx d y (pc) (ls) (st) (h) (mc) (ms) Q := fun R hR => hR.2.2.2.2.2.2.2.2.2.2.2.2.2.2.2.2.2.2.2.2.2.2.2.2.2.2.2.2.2.2.2.2.2.2.2.2.2.2.2.2.2.2.2.2.2.2.2.2.1 _ _ _ _ _ _ _ _ _ _ hl (k R hR)
theorem xx_wide {mc' : Nat} {ms' : Nat} (h1 : mc' ≤ mc) (h2 : ms' ≤ ms) (k : xa_X K tx d y (pc) (ls) (st) (h) (mc') (ms') Q) : xa_X K tx d y (pc) (ls) (st) (h) (mc) (ms) Q := fun R hR => hR.2.2.2.2.2.2.2.2.2.2.2.2.2.2.2.2.2.2.2.2.2.2.2.2.2.2.2.2.2.2.2.2.2.2.2.2.2.2.2.2.2.2.2.2.2.2.2.2.2.1 _ _ _ _ _ _ _ _ _ _ _ h1 h2 (k R hR)
theorem xx_get {n' : Nat} {i : Nat} {ci : Nat} {k0 : Nat} {a : Nat} {fs : List Value} {v : Value} (hd : xa_d K y pc (.getfield i) 3 n') (hf : xa_fld K (K.1 y).1.cls i ci k0) (hh : h.2 a = .inr (ci, fs)) (hv : fs[k0]? = some v) (k : xa_X K tx d y (n') (ls) (v :: st) (h) (mc) (ms) Q) : xa_X K tx d y (pc) (ls) (.ref a :: st) (h) (mc) (ms) Q := fun R hR => hR.2.2.2.2.2.2.2.2.2.2.2.2.2.2.2.2.2.2.2.2.2.2.2.2.2.2.2.2.2.2.2.2.2.2.2.2.2.2.2.2.2.2.2.2.2.2.2.2.2.2.1 _ _ _ _ _ _ _ _ _ _ _ _ _ _ _ _ hd hf hh hv (k R hR)
theorem xx_put {n' : Nat} {i : Nat} {ci : Nat} {k0 : Nat} {ty : FieldType} {a : Nat} {fs : List Value} {v : Value} (hd : xa_d K y pc (.putfield i) 3 n') (hf : xa_fldP K (K.1 y).1.cls i ci k0 ty) (hh : h.2 a = .inr (ci, fs)) (hl0 : k0 < fs.length) (hfit : ∀ tb ad : Nat → Nat, narrow ty (xa_tr tb ad v) = xa_tr tb ad v ∧ fits ty (xa_tr tb ad v) = true) (k : xa_X K tx d y (n') (ls) (st) ((h.1, xa_up h.2 a (.inr (ci, fs.set k0 v)))) (mc) (ms) Q) : xa_X K tx d y (pc) (ls) (v :: .ref a :: st) (h) (mc) (ms) Q := fun R hR => hR.2.2.2.2.2.2.2.2.2.2.2.2.2.2.2.2.2.2.2.2.2.2.2.2.2.2.2.2.2.2.2.2.2.2.2.2.2.2.2.2.2.2.2.2.2.2.2.2.2.2.2.1 _ _ _ _ _ _ _ _ _ _ _ _ _ _ _ _ _ hd hf hh hl0 hfit (k R hR)
theorem xx_putF {n' : Nat} {i : Nat} {ci : Nat} {k0 : Nat} {ty : FieldType} {a : Nat} {fs : List Value} {v : Value} (hd : xa_d K y pc (.putfield i) 3 n') (hf : xa_fldF K (K.1 y).1.cls i ci k0 ty) (hin : (K.1 y).1.name = "<init>") (hh : h.2 a = .inr (ci, fs)) (hl0 : k0 < fs.length) (hfit : ∀ tb ad : Nat → Nat, narrow ty (xa_tr tb ad v) = xa_tr tb ad v ∧ fits ty (xa_tr tb ad v) = true) (k : xa_X K tx d y (n') (ls) (st) ((h.1, xa_up h.2 a (.inr (ci, fs.set k0 v)))) (mc) (ms) Q) : xa_X K tx d y (pc) (ls) (v :: .ref a :: st) (h) (mc) (ms) Q := fun R hR => hR.2.2.2.2.2.2.2.2.2.2.2.2.2.2.2.2.2.2.2.2.2.2.2.2.2.2.2.2.2.2.2.2.2.2.2.2.2.2.2.2.2.2.2.2.2.2.2.2.2.2.2.2.1 _ _ _ _ _ _ _ _ _ _ _ _ _ _ _ _ _ hd hf hin hh hl0 hfit (k R hR)
theorem xx_iaload {n' : Nat} {a : Nat} {n : Nat} {f : Nat → Int32} {i : Int32} (hd : xa_d K y pc (.iaload) 1 n') (hh : h.2 a = .inl (0, n, .inl f)) (hi : vp_in i n) (k : xa_X K tx d y (n') (ls) (.int (f i.toNatClampNeg) :: st) (h) (mc) (ms) Q) : xa_X K tx d y (pc) (ls) (.int i :: .ref a :: st) (h) (mc) (ms) Q := fun R hR => hR.2.2.2.2.2.2.2.2.2.2.2.2.2.2.2.2.2.2.2.2.2.2.2.2.2.2.2.2.2.2.2.2.2.2.2.2.2.2.2.2.2.2.2.2.2.2.2.2.2.2.2.2.2.1 _ _ _ _ _ _ _ _ _ _ _ _ _ _ hd hh hi (k R hR)
theorem xx_baload {n' : Nat} {a : Nat} {n : Nat} {f : Nat → Int32} {i : Int32} (hd : xa_d K y pc (.baload) 1 n') (hh : h.2 a = .inl (1, n, .inl f)) (hi : vp_in i n) (k : xa_X K tx d y (n') (ls) (.int (f i.toNatClampNeg) :: st) (h) (mc) (ms) Q) : xa_X K tx d y (pc) (ls) (.int i :: .ref a :: st) (h) (mc) (ms) Q := fun R hR => hR.2.2.2.2.2.2.2.2.2.2.2.2.2.2.2.2.2.2.2.2.2.2.2.2.2.2.2.2.2.2.2.2.2.2.2.2.2.2.2.2.2.2.2.2.2.2.2.2.2.2.2.2.2.2.1 _ _ _ _ _ _ _ _ _ _ _ _ _ _ hd hh hi (k R hR)
theorem xx_laload {n' : Nat} {a : Nat} {n : Nat} {f : Nat → Int64} {i : Int32} (hd : xa_d K y pc (.laload) 1 n') (hh : h.2 a = .inl (2, n, .inr (.inl f))) (hi : vp_in i n) (k : xa_X K tx d y (n') (ls) (.long (f i.toNatClampNeg) :: st) (h) (mc) (ms) Q) : xa_X K tx d y (pc) (ls) (.int i :: .ref a :: st) (h) (mc) (ms) Q := fun R hR => hR.2.2.2.2.2.2.2.2.2.2.2.2.2.2.2.2.2.2.2.2.2.2.2.2.2.2.2.2.2.2.2.2.2.2.2.2.2.2.2.2.2.2.2.2.2.2.2.2.2.2.2.2.2.2.2.1 _ _ _ _ _ _ _ _ _ _ _ _ _ _ hd hh hi (k R hR)
theorem xx_aaload {n' : Nat} {a : Nat} {n : Nat} {f : Nat → Option Nat} {i : Int32} {b : Nat} (hd : xa_d K y pc (.aaload) 1 n') (hh : h.2 a = .inl (3, n, .inr (.inr (.inr (.inr f))))) (hi : vp_in i n) (hb : f i.toNatClampNeg = some b) (k : xa_X K tx d y (n') (ls) (.ref b :: st) (h) (mc) (ms) Q) : xa_X K tx d y (pc) (ls) (.int i :: .ref a :: st) (h) (mc) (ms) Q := fun R hR => hR.2.2.2.2.2.2.2.2.2.2.2.2.2.2.2.2.2.2.2.2.2.2.2.2.2.2.2.2.2.2.2.2.2.2.2.2.2.2.2.2.2.2.2.2.2.2.2.2.2.2.2.2.2.2.2.2.1 _ _ _ _ _ _ _ _ _ _ _ _ _ _ _ hd hh hi hb (k R hR)
theorem xx_iastore {n' : Nat} {a : Nat} {n : Nat} {f : Nat → Int32} {i : Int32} {x : Int32} (hd : xa_d K y pc (.iastore) 1 n') (hh : h.2 a = .inl (0, n, .inl (f))) (hi : vp_in i n) (k : xa_X K tx d y (n') (ls) (st) ((h.1, xa_up h.2 a (.inl (0, n, .inl (upd f i.toNatClampNeg x))))) (mc) (ms) Q) : xa_X K tx d y (pc) (ls) (.int x :: .int i :: .ref a :: st) (h) (mc) (ms) Q := fun R hR => hR.2.2.2.2.2.2.2.2.2.2.2.2.2.2.2.2.2.2.2.2.2.2.2.2.2.2.2.2.2.2.2.2.2.2.2.2.2.2.2.2.2.2.2.2.2.2.2.2.2.2.2.2.2.2.2.2.2.1 _ _ _ _ _ _ _ _ _ _ _ _ _ _ _ hd hh hi (k R hR)
theorem xx_bastore {n' : Nat} {a : Nat} {n : Nat} {f : Nat → Int32} {i : Int32} {x : Int32} (hd : xa_d K y pc (.bastore) 1 n') (hh : h.2 a = .inl (1, n, .inl (f))) (hi : vp_in i n) (k : xa_X K tx d y (n') (ls) (st) ((h.1, xa_up h.2 a (.inl (1, n, .inl (upd f i.toNatClampNeg (vp_nar .boolean x)))))) (mc) (ms) Q) : xa_X K tx d y (pc) (ls) (.int x :: .int i :: .ref a :: st) (h) (mc) (ms) Q := fun R hR => hR.2.2.2.2.2.2.2.2.2.2.2.2.2.2.2.2.2.2.2.2.2.2.2.2.2.2.2.2.2.2.2.2.2.2.2.2.2.2.2.2.2.2.2.2.2.2.2.2.2.2.2.2.2.2.2.2.2.2.1 _ _ _ _ _ _ _ _ _ _ _ _ _ _ _ hd hh hi (k R hR)
theorem xx_lastore {n' : Nat} {a : Nat} {n : Nat} {f : Nat → Int64} {i : Int32} {x : Int64} (hd : xa_d K y pc (.lastore) 1 n') (hh : h.2 a = .inl (2, n, .inr (.inl (f)))) (hi : vp_in i n) (k : xa_X K tx d y (n') (ls) (st) ((h.1, xa_up h.2 a (.inl (2, n, .inr (.inl (vp_updL f i.toNatClampNeg x)))))) (mc) (ms) Q) : xa_X K tx d y (pc) (ls) (.long x :: .int i :: .ref a :: st) (h) (mc) (ms) Q := fun R hR => hR.2.2.2.2.2.2.2.2.2.2.2.2.2.2.2.2.2.2.2.2.2.2.2.2.2.2.2.2.2.2.2.2.2.2.2.2.2.2.2.2.2.2.2.2.2.2.2.2.2.2.2.2.2.2.2.2.2.2.2.1 _ _ _ _ _ _ _ _ _ _ _ _ _ _ _ hd hh hi (k R hR)
theorem xx_aastore {n' : Nat} {a : Nat} {n : Nat} {f : Nat → Option Nat} {i : Int32} {b : Nat} {ci : Nat} {fs : List Value} (hd : xa_d K y pc (.aastore) 1 n') (hh : h.2 a = .inl (3, n, .inr (.inr (.inr (.inr f))))) (hi : vp_in i n) (hb : h.2 b = .inr (ci, fs)) (hg : ∃ T N, K.2.1[ci]? = some (K.2.2.2.2.2, T, N)) (k : xa_X K tx d y (n') (ls) (st) ((h.1, xa_up h.2 a (.inl (3, n, .inr (.inr (.inr (.inr (va_up f i.toNatClampNeg (some b))))))))) (mc) (ms) Q) : xa_X K tx d y (pc) (ls) (.ref b :: .int i :: .ref a :: st) (h) (mc) (ms) Q := fun R hR => hR.2.2.2.2.2.2.2.2.2.2.2.2.2.2.2.2.2.2.2.2.2.2.2.2.2.2.2.2.2.2.2.2.2.2.2.2.2.2.2.2.2.2.2.2.2.2.2.2.2.2.2.2.2.2.2.2.2.2.2.2.1 _ _ _ _ _ _ _ _ _ _ _ _ _ _ _ _ _ hd hh hi hb hg (k R hR)
theorem xx_tload {n' : Nat} {j : Nat} {i : Int32} (hd : xa_d K y pc (.iaload) 1 n') (hj : j < 2) (hi : vp_in i (tx j).1) (k : xa_X K tx d y (n') (ls) (.int ((tx j).2 i.toNatClampNeg) :: st) (h) (mc) (ms) Q) : xa_X K tx d y (pc) (ls) (.int i :: .retAddr j :: st) (h) (mc) (ms) Q := fun R hR => hR.2.2.2.2.2.2.2.2.2.2.2.2.2.2.2.2.2.2.2.2.2.2.2.2.2.2.2.2.2.2.2.2.2.2.2.2.2.2.2.2.2.2.2.2.2.2.2.2.2.2.2.2.2.2.2.2.2.2.2.2.2.1 _ _ _ _ _ _ _ _ _ _ _ _ hd hj hi (k R hR)
theorem xx_tlen {n' : Nat} {j : Nat} {v : Int32} (hd : xa_d K y pc (.arraylength) 1 n') (hj : j < 2) (hv : Int32.ofNat (tx j).1 = v) (k : xa_X K tx d y (n') (ls) (.int v :: st) (h) (mc) (ms) Q) : xa_X K tx d y (pc) (ls) (.retAddr j :: st) (h) (mc) (ms) Q := fun R hR => hR.2.2.2.2.2.2.2.2.2.2.2.2.2.2.2.2.2.2.2.2.2.2.2.2.2.2.2.2.2.2.2.2.2.2.2.2.2.2.2.2.2.2.2.2.2.2.2.2.2.2.2.2.2.2.2.2.2.2.2.2.2.2.1 _ _ _ _ _ _ _ _ _ _ _ _ hd hj hv (k R hR)
theorem xx_gets {n' : Nat} {i : Nat} (hd : xa_d K y pc (.getstatic i) 3 n') (hl : Cond.fieldLink (K.1 y).1.cls i K.2.2.2.1 K.2.2.2.2.1 "[I" ∈ K.2.2.1 ∨ ∃ host, Cond.fieldLinkNest (K.1 y).1.cls i K.2.2.2.1 K.2.2.2.2.1 "[I" host ∈ K.2.2.1) (k : xa_X K tx d y (n') (ls) (.retAddr 0 :: st) (h) (mc) (ms) Q) : xa_X K tx d y (pc) (ls) (st) (h) (mc) (ms) Q := fun R hR => hR.2.2.2.2.2.2.2.2.2.2.2.2.2.2.2.2.2.2.2.2.2.2.2.2.2.2.2.2.2.2.2.2.2.2.2.2.2.2.2.2.2.2.2.2.2.2.2.2.2.2.2.2.2.2.2.2.2.2.2.2.2.2.2.1 _ _ _ _ _ _ _ _ _ _ _ hd hl (k R hR)
theorem xx_iret {n' : Nat} {v : Int32} {ty : FieldType} (hd : xa_d K y pc (.ireturn) 1 n') (hr : (K.1 y).2.2.2.1 = some ty) (hn : narrow ty (.int v) = .int v) (hq : Q (.inl (some (.int v))) h)  : xa_X K tx d y (pc) (ls) ([.int v]) (h) (mc) (ms) Q := fun R hR => hR.2.2.2.2.2.2.2.2.2.2.2.2.2.2.2.2.2.2.2.2.2.2.2.2.2.2.2.2.2.2.2.2.2.2.2.2.2.2.2.2.2.2.2.2.2.2.2.2.2.2.2.2.2.2.2.2.2.2.2.2.2.2.2.2.1 _ _ _ _ [] _ _ _ _ _ _ _ hd hr hn hq 
theorem xx_vret {n' : Nat} (hd : xa_d K y pc (.return_) 1 n') (hr : (K.1 y).2.2.2.1 = none) (hq : Q (.inl none) h)  : xa_X K tx d y (pc) (ls) ([]) (h) (mc) (ms) Q := fun R hR => hR.2.2.2.2.2.2.2.2.2.2.2.2.2.2.2.2.2.2.2.2.2.2.2.2.2.2.2.2.2.2.2.2.2.2.2.2.2.2.2.2.2.2.2.2.2.2.2.2.2.2.2.2.2.2.2.2.2.2.2.2.2.2.2.2.2.1 _ _ _ _ [] _ _ _ _ _ hd hr hq 
theorem xx_aret {n' : Nat} {a : Nat} {ty : FieldType} (hd : xa_d K y pc (.areturn) 1 n') (hr : (K.1 y).2.2.2.1 = some ty) (hty : (∃ n, ty = .object n) ∨ ∃ t, ty = .array t) (hq : Q (.inl (some (.ref a))) h)  : xa_X K tx d y (pc) (ls) ([.ref a]) (h) (mc) (ms) Q := fun R hR => hR.2.2.2.2.2.2.2.2.2.2.2.2.2.2.2.2.2.2.2.2.2.2.2.2.2.2.2.2.2.2.2.2.2.2.2.2.2.2.2.2.2.2.2.2.2.2.2.2.2.2.2.2.2.2.2.2.2.2.2.2.2.2.2.2.2.2.1 _ _ _ _ [] _ _ _ _ _ _ _ hd hr hty hq 
theorem xx_oinit {n' : Nat} {i : Nat} {a : Nat} (hd : xa_d K y pc (.invokespecial i) 3 n') (h1 : Cond.methodLink (K.1 y).1.cls i Lib.objectInit ∈ K.2.2.1) (h2 : Cond.instanceMethod Lib.objectInit ∈ K.2.2.1) (h3 : Cond.code Lib.objectInit ⟨#[0xb1]⟩ 1 none ∈ K.2.2.1) (hw : (st.map fun v => v.category).sum ≤ 8) (k : xa_X K tx d y (n') (ls) (st) (h) (mc) (ms) Q) : xa_X K tx d y (pc) (ls) (.ref a :: st) (h) (mc) (ms) Q := fun R hR => hR.2.2.2.2.2.2.2.2.2.2.2.2.2.2.2.2.2.2.2.2.2.2.2.2.2.2.2.2.2.2.2.2.2.2.2.2.2.2.2.2.2.2.2.2.2.2.2.2.2.2.2.2.2.2.2.2.2.2.2.2.2.2.2.2.2.2.2.1 _ _ _ _ _ _ _ _ _ _ _ _ hd h1 h2 h3 hw (k R hR)
theorem xx_new {n' : Nat} {i : Nat} {ci : Nat} {N : Nat} {fs : List Value} (hd : xa_d K y pc (.new i) 3 n') (hn : xa_new K (K.1 y).1.cls i ci N fs) (k : xa_X K tx d y (n') (ls) (.ref h.1 :: st) ((h.1 + 1, xa_up h.2 h.1 (.inr (ci, fs)))) (mc) (ms) Q) : xa_X K tx d y (pc) (ls) (st) (h) (mc + 1) (ms + N) Q := fun R hR => hR.2.2.2.2.2.2.2.2.2.2.2.2.2.2.2.2.2.2.2.2.2.2.2.2.2.2.2.2.2.2.2.2.2.2.2.2.2.2.2.2.2.2.2.2.2.2.2.2.2.2.2.2.2.2.2.2.2.2.2.2.2.2.2.2.2.2.2.2.1 _ _ _ _ _ _ _ _ _ _ _ _ _ _ hd hn (k R hR)
theorem xx_newI {n' : Nat} {n : Int32} {N : Nat} (hd : xa_d K y pc (.newarray .int) 2 n') (hw : Cond.arrayClass .int ∈ K.2.2.1) (hn0 : ¬ n < 0) (hN : n.toNatClampNeg = N) (hb : N * componentBytes .int ≤ 536870912) (k : xa_X K tx d y (n') (ls) (.ref h.1 :: st) ((h.1 + 1, xa_up h.2 h.1 (.inl (0, N, .inl (fun _ => 0))))) (mc) (ms) Q) : xa_X K tx d y (pc) (ls) (.int n :: st) (h) (mc + 1) (ms + N) Q := fun R hR => hR.2.2.2.2.2.2.2.2.2.2.2.2.2.2.2.2.2.2.2.2.2.2.2.2.2.2.2.2.2.2.2.2.2.2.2.2.2.2.2.2.2.2.2.2.2.2.2.2.2.2.2.2.2.2.2.2.2.2.2.2.2.2.2.2.2.2.2.2.2.1 _ _ _ _ _ _ _ _ _ _ _ _ hd hw hn0 hN hb (k R hR)
theorem xx_newZ {n' : Nat} {n : Int32} {N : Nat} (hd : xa_d K y pc (.newarray .boolean) 2 n') (hw : Cond.arrayClass .boolean ∈ K.2.2.1) (hn0 : ¬ n < 0) (hN : n.toNatClampNeg = N) (hb : N * componentBytes .boolean ≤ 536870912) (k : xa_X K tx d y (n') (ls) (.ref h.1 :: st) ((h.1 + 1, xa_up h.2 h.1 (.inl (1, N, .inl (fun _ => 0))))) (mc) (ms) Q) : xa_X K tx d y (pc) (ls) (.int n :: st) (h) (mc + 1) (ms + N) Q := fun R hR => hR.2.2.2.2.2.2.2.2.2.2.2.2.2.2.2.2.2.2.2.2.2.2.2.2.2.2.2.2.2.2.2.2.2.2.2.2.2.2.2.2.2.2.2.2.2.2.2.2.2.2.2.2.2.2.2.2.2.2.2.2.2.2.2.2.2.2.2.2.2.2.1 _ _ _ _ _ _ _ _ _ _ _ _ hd hw hn0 hN hb (k R hR)
theorem xx_newL {n' : Nat} {n : Int32} {N : Nat} (hd : xa_d K y pc (.newarray .long) 2 n') (hw : Cond.arrayClass .long ∈ K.2.2.1) (hn0 : ¬ n < 0) (hN : n.toNatClampNeg = N) (hb : N * componentBytes .long ≤ 536870912) (k : xa_X K tx d y (n') (ls) (.ref h.1 :: st) ((h.1 + 1, xa_up h.2 h.1 (.inl (2, N, .inr (.inl (fun _ => 0)))))) (mc) (ms) Q) : xa_X K tx d y (pc) (ls) (.int n :: st) (h) (mc + 1) (ms + N) Q := fun R hR => hR.2.2.2.2.2.2.2.2.2.2.2.2.2.2.2.2.2.2.2.2.2.2.2.2.2.2.2.2.2.2.2.2.2.2.2.2.2.2.2.2.2.2.2.2.2.2.2.2.2.2.2.2.2.2.2.2.2.2.2.2.2.2.2.2.2.2.2.2.2.2.2.1 _ _ _ _ _ _ _ _ _ _ _ _ hd hw hn0 hN hb (k R hR)
theorem xx_newQ {n' : Nat} {i : Nat} {n : Int32} {N : Nat} (hd : xa_d K y pc (.anewarray i) 3 n') (hw : Cond.classLink (K.1 y).1.cls i K.2.2.2.2.2 ∈ K.2.2.1) (hw2 : Cond.arrayOver (.object K.2.2.2.2.2) ∈ K.2.2.1) (hn0 : ¬ n < 0) (hN : n.toNatClampNeg = N) (hb : N * 4 ≤ 536870912) (k : xa_X K tx d y (n') (ls) (.ref h.1 :: st) ((h.1 + 1, xa_up h.2 h.1 (.inl (3, N, .inr (.inr (.inr (.inr (fun _ => none)))))))) (mc) (ms) Q) : xa_X K tx d y (pc) (ls) (.int n :: st) (h) (mc + 1) (ms + N) Q := fun R hR => hR.2.2.2.2.2.2.2.2.2.2.2.2.2.2.2.2.2.2.2.2.2.2.2.2.2.2.2.2.2.2.2.2.2.2.2.2.2.2.2.2.2.2.2.2.2.2.2.2.2.2.2.2.2.2.2.2.2.2.2.2.2.2.2.2.2.2.2.2.2.2.2.2.1 _ _ _ _ _ _ _ _ _ _ _ _ _ hd hw hw2 hn0 hN hb (k R hR)
theorem xx_callV {n' : Nat} {i : Nat} {y' : Nat} {ci : Nat} {fs : List Value} {a : Nat} {As : List Value} {mc' : Nat} {ms' : Nat} {P : xa_Q} (hd : xa_d K y pc (.invokevirtual i) 3 n') (hl : xa_lkV K (K.1 y).1.cls i ci y' As.length) (hh : h.2 a = .inr (ci, fs)) (hca : ∀ v ∈ As, v.category = 1) (hw : (st.map fun v => v.category).sum ≤ 8) (hP : ∀ E h', ¬ P (.inr E) h') (k1 : xa_X K tx d y' 0 (xa_ent (K.1 y').2.2.1 (.ref a :: As)) [] h mc' ms' P) (k2 : (∀ (v : Option Value) (h' : xa_H), P (.inl v) h' → xa_X K tx (d + 1) y n' ls (v.toList ++ st) h' mc ms Q)) : xa_X K tx (d + 1) y pc ls (As.reverse ++ .ref a :: st) h (mc + mc') (ms + ms') Q := fun R hR => hR.2.2.2.2.2.2.2.2.2.2.2.2.2.2.2.2.2.2.2.2.2.2.2.2.2.2.2.2.2.2.2.2.2.2.2.2.2.2.2.2.2.2.2.2.2.2.2.2.2.2.2.2.2.2.2.2.2.2.2.2.2.2.2.2.2.2.2.2.2.2.2.2.2.1 _ _ _ _ _ _ _ _ _ _ _ _ _ _ _ _ _ _ _ hd hl hh hca hw hP (k1 R hR) (fun v h' q => k2 v h' q R hR)
theorem xx_callS {n' : Nat} {i : Nat} {y' : Nat} {As : List Value} {mc' : Nat} {ms' : Nat} {P : xa_Q} (hd : xa_d K y pc (.invokestatic i) 3 n') (hl : xa_lkS K (K.1 y).1.cls i y' As.length) (hca : ∀ v ∈ As, v.category = 1) (hw : (st.map fun v => v.category).sum ≤ 8) (hP : ∀ E h', ¬ P (.inr E) h') (k1 : xa_X K tx d y' 0 (xa_ent (K.1 y').2.2.1 (As)) [] h mc' ms' P) (k2 : (∀ (v : Option Value) (h' : xa_H), P (.inl v) h' → xa_X K tx (d + 1) y n' ls (v.toList ++ st) h' mc ms Q)) : xa_X K tx (d + 1) y pc ls (As.reverse ++ st) h (mc + mc') (ms + ms') Q := fun R hR => hR.2.2.2.2.2.2.2.2.2.2.2.2.2.2.2.2.2.2.2.2.2.2.2.2.2.2.2.2.2.2.2.2.2.2.2.2.2.2.2.2.2.2.2.2.2.2.2.2.2.2.2.2.2.2.2.2.2.2.2.2.2.2.2.2.2.2.2.2.2.2.2.2.2.2.1 _ _ _ _ _ _ _ _ _ _ _ _ _ _ _ _ hd hl hca hw hP (k1 R hR) (fun v h' q => k2 v h' q R hR)
theorem xx_callI {n' : Nat} {i : Nat} {y' : Nat} {a : Nat} {As : List Value} {mc' : Nat} {ms' : Nat} {P : xa_Q} (hd : xa_d K y pc (.invokespecial i) 3 n') (hl : xa_lkI K (K.1 y).1.cls i y' As.length) (hca : ∀ v ∈ As, v.category = 1) (hw : (st.map fun v => v.category).sum ≤ 8) (hP : ∀ E h', ¬ P (.inr E) h') (k1 : xa_X K tx d y' 0 (xa_ent (K.1 y').2.2.1 (.ref a :: As)) [] h mc' ms' P) (k2 : (∀ (v : Option Value) (h' : xa_H), P (.inl v) h' → xa_X K tx (d + 1) y n' ls (v.toList ++ st) h' mc ms Q)) : xa_X K tx (d + 1) y pc ls (As.reverse ++ .ref a :: st) h (mc + mc') (ms + ms') Q := fun R hR => hR.2.2.2.2.2.2.2.2.2.2.2.2.2.2.2.2.2.2.2.2.2.2.2.2.2.2.2.2.2.2.2.2.2.2.2.2.2.2.2.2.2.2.2.2.2.2.2.2.2.2.2.2.2.2.2.2.2.2.2.2.2.2.2.2.2.2.2.2.2.2.2.2.2.2.2.1 _ _ _ _ _ _ _ _ _ _ _ _ _ _ _ _ _ hd hl hca hw hP (k1 R hR) (fun v h' q => k2 v h' q R hR)
theorem xx_mmax {n' : Nat} {i : Nat} {x : Int32} {z : Int32} (hd : xa_d K y pc (.invokestatic i) 3 n') (h1 : Cond.methodLink (K.1 y).1.cls i Lib.Math.max.name ∈ K.2.2.1) (h2 : Cond.static Lib.Math.max.name ∈ K.2.2.1) (h3 : Cond.initialized "java/lang/Math" ∈ K.2.2.1) (h4 : Cond.code Lib.Math.max.name Lib.Math.max.code 2 (some .int) ∈ K.2.2.1) (hw : (st.map fun v => v.category).sum ≤ 8) (k : xa_X K tx d y (n') (ls) (.int (if x < z then z else x) :: st) (h) (mc) (ms) Q) : xa_X K tx d y (pc) (ls) (.int z :: .int x :: st) (h) (mc) (ms) Q := fun R hR => hR.2.2.2.2.2.2.2.2.2.2.2.2.2.2.2.2.2.2.2.2.2.2.2.2.2.2.2.2.2.2.2.2.2.2.2.2.2.2.2.2.2.2.2.2.2.2.2.2.2.2.2.2.2.2.2.2.2.2.2.2.2.2.2.2.2.2.2.2.2.2.2.2.2.2.2.2 _ _ _ _ _ _ _ _ _ _ _ _ _ hd h1 h2 h3 h4 hw (k R hR)
end XRows
end
section
/-! Laws that the soundness of the rules rests on: ends, new cells, calls. -/
section XCalls
theorem xa_E.w {K : xa_P} {Z : xa_Z} {below : List Frame} {A : Nat → Prop} {s : State} {ad : Nat → Nat} {n mc ms mc' ms' : Nat} {Q : xa_Q} {t : State} (h1 : mc' ≤ mc) (h2 : ms' ≤ ms) (h : xa_E K Z below A s ad n mc' ms' Q t) : xa_E K Z below A s ad n mc ms Q t := by
  obtain ⟨o, g1, g2, ⟨L, g3, g4, g5⟩, g6⟩ := h
  exact ⟨o, g1, g2, ⟨L, g3, g4.mono h1 h2, g5⟩, g6⟩
theorem xa_E.c {K : xa_P} {Z : xa_Z} {below : List Frame} {A : Nat → Prop} {s : State} {ad : Nat → Nat} {n mc ms mc' ms' : Nat} {Q : xa_Q} {t : State} (h1 : mc' = mc) (h2 : ms' = ms) (h : xa_E K Z below A s ad n mc' ms' Q t) : xa_E K Z below A s ad n mc ms Q t := by
  rw [← h1, ← h2]; exact h
theorem xa_sum {tb ad : Nat → Nat} (st : List Value) : ((st.map (xa_tr tb ad)).map fun v => v.category).sum = (st.map fun v => v.category).sum := by
  rw [List.map_map]
  congr 1
  exact List.map_congr_left fun v _ => xa_cat tb ad v
theorem xa_end {K : xa_P} {Z : xa_Z} {d y : Nat} {p : Program} {R : Room} {s : State} {m : MethodId} {meth : Method} {c : Code} {A : Nat → Prop} {below : List Frame} {args : Array Value} {H : Heap} {locs : List Loc} {cells slots mc ms : Nat} {ad : Nat → Nat} {h : xa_H} {Q : xa_Q} {v : Option Value}
    (C : xa_C K Z d y p R s m meth c A) (hc : cells + mc ≤ R.cells) (hs : slots + ms ≤ R.slots) (rp : xa_rep K Z A s H locs ad h) (hq : Q (.inl v) h) (hv : ∀ w, v = some w → xa_ok h.1 w) :
    ∀ t, MQ below (fun _ _ o t => o = .returned (v.map (xa_tr Z.2.2.1 ad)) ∧ t.heap = H) args s cells slots A t → xa_E K Z below A s ad h.1 (cells + mc) (slots + ms) Q t := by
  intro t ht
  obtain ⟨o, h1, h2, ⟨e1, e2⟩, L, ⟨-, h3, h4⟩, h5⟩ := ht
  refine ⟨o, h1, h2, ⟨L, h3, h4.mono (Nat.le_add_right _ _) (Nat.le_add_right _ _), h5⟩, ad, h, .inl v, Nat.le_refl _, fun _ _ => rfl, ?_, hq, e1, hv⟩
  rw [e2]
  exact ⟨rp.1, rp.2.1, ⟨rp.2.2.1.1, rp.2.2.1.2.1, fun q hq => nomatch hq⟩, rp.2.2.2⟩
theorem xa_norefs {tb ad : Nat → Nat} {fs : List Value} (h : fs.all (fun v => match v with | .ref _ => false | .retAddr _ => false | _ => true) = true) : fs.map (xa_tr tb ad) = fs := by
  have : ∀ v ∈ fs, xa_tr tb ad v = v := fun v hv => by
    have := List.all_eq_true.mp h v hv
    cases v with
    | ref a => cases this
    | retAddr k => cases this
    | _ => rfl
  calc fs.map (xa_tr tb ad) = fs.map id := List.map_congr_left this
    _ = fs := List.map_id fs
theorem xa_ok_of_norefs {n : Nat} {fs : List Value} (h : fs.all (fun v => match v with | .ref _ => false | .retAddr _ => false | _ => true) = true) : ∀ v ∈ fs, xa_ok n v := fun v hv a e => by
  have := List.all_eq_true.mp h v hv
  rw [e] at this
  cases this
theorem xa_okpushA {h : xa_H} {e : va_E} (hok : ∀ i, i < h.1 → xa_okE h.1 (h.2 i)) (he : xa_okE (h.1 + 1) e) : ∀ i, i < (h.1 + 1, xa_up h.2 h.1 e).1 → xa_okE (h.1 + 1, xa_up h.2 h.1 e).1 ((h.1 + 1, xa_up h.2 h.1 e).2 i) := by
  intro i hi
  show xa_okE (h.1 + 1) (xa_up h.2 h.1 e i)
  by_cases q : i = h.1
  · rw [q, xa_up_s]; exact he
  · rw [xa_up_n _ _ q]
    have hi : i < h.1 + 1 := hi
    exact xa_okE_m (Nat.le_succ _) (hok i (by omega))
theorem xa_okpush {h : xa_H} {ci : Nat} {fs : List Value} (hok : ∀ i, i < h.1 → xa_okE h.1 (h.2 i)) (hf : ∀ v ∈ fs, xa_ok (h.1 + 1) v) : ∀ i, i < (h.1 + 1, xa_up h.2 h.1 (.inr (ci, fs))).1 → xa_okE (h.1 + 1, xa_up h.2 h.1 (.inr (ci, fs))).1 ((h.1 + 1, xa_up h.2 h.1 (.inr (ci, fs))).2 i) := xa_okpushA hok hf
/-- the locals at a method's entry -/
theorem xa_lva {tb ad : Nat → Nat} : ∀ (vs : List Value) (i : Nat), (∀ v ∈ vs, v.category = 1) → ∀ q ∈ xa_kn tb ad vs i, q ∈ lv_args i (vs.map (xa_tr tb ad))
  | [], _, _, q, h => by cases h
  | v :: r, i, hc, q, h => by
    have hv := hc v List.mem_cons_self
    have hr : ∀ w ∈ r, w.category = 1 := fun w hw => hc w (List.mem_cons_of_mem _ hw)
    rw [xa_kn_c] at h
    show q ∈ (i, xa_tr tb ad v) :: lv_args (if (xa_tr tb ad v).category = 2 then i + 2 else i + 1) (r.map (xa_tr tb ad))
    rw [xa_cat, hv, if_neg (by decide)]
    by_cases hj : xa_isj v = true
    · rw [if_pos hj] at h
      exact List.mem_cons_of_mem _ (xa_lva r (i + 1) hr q h)
    · rw [if_neg hj] at h
      rcases List.mem_cons.mp h with e | e
      · rw [e]; exact List.mem_cons_self
      · exact List.mem_cons_of_mem _ (xa_lva r (i + 1) hr q e)
theorem xa_kn_rep {tb ad : Nat → Nat} : ∀ (k i : Nat), xa_kn tb ad (List.replicate k xa_j) i = []
  | 0, _ => rfl
  | k + 1, i => by
    show xa_kn tb ad (xa_j :: List.replicate k xa_j) i = []
    exact xa_kn_rep k (i + 1)
theorem xa_kn_app {tb ad : Nat → Nat} : ∀ (vs : List Value) (k i : Nat), xa_kn tb ad (vs ++ List.replicate k xa_j) i = xa_kn tb ad vs i
  | [], k, i => xa_kn_rep k i
  | v :: r, k, i => by
    rw [List.cons_append, xa_kn_c, xa_kn_c, xa_kn_app r k (i + 1)]
theorem xa_sl_len {tb ad : Nat → Nat} {vs : List Value} (hc : ∀ v ∈ vs, v.category = 1) : (lg_sl (vs.map (xa_tr tb ad))).length = vs.length := by
  induction vs with
  | nil => rfl
  | cons v r ih =>
    have h1 := ih (fun w hw => hc w (List.mem_cons_of_mem _ hw))
    have h2 : ¬ (xa_tr tb ad v).category = 2 := by rw [xa_cat, hc v List.mem_cons_self]; decide
    show (List.flatMap _ (xa_tr tb ad v :: r.map (xa_tr tb ad))).length = r.length + 1
    rw [List.flatMap_cons, if_neg h2, List.length_append]
    show 1 + (lg_sl (r.map (xa_tr tb ad))).length = r.length + 1
    rw [h1]; omega
theorem xa_lv_ent {tb ad : Nat → Nat} {n nL : Nat} {vs : List Value} (hc : ∀ v ∈ vs, v.category = 1) (ok : xa_oks n vs) (hl : vs.length ≤ nL) :
    xa_lv tb ad n nL ((lg_sl (vs.map (xa_tr tb ad)) ++ List.replicate (nL - (lg_sl (vs.map (xa_tr tb ad))).length) Slot.unset).toArray) (xa_ent nL vs) := by
  have h1 := lv_entry (vs.map (xa_tr tb ad)) (n := nL) (by rw [xa_sl_len hc]; exact hl)
  refine ⟨⟨h1.1, h1.2.1, fun q hq => ?_⟩, by simp [xa_ent]; omega, fun v hv => ?_⟩
  · rw [xa_ent, xa_kn_app] at hq
    exact h1.2.2 q (xa_lva vs 0 hc q hq)
  · rcases List.mem_append.mp hv with e | e
    · exact ⟨ok v e, hc v e⟩
    · rw [(List.mem_replicate.mp e).2]; exact ⟨(fun a q => by cases q), rfl⟩
theorem xa_weak {tb : Tables} {e : Env} {mid below : List Frame} {a b : State} (h : Steps tb e (mid ++ below) a b) : Steps tb e below a b := by
  obtain ⟨n, hn, w⟩ := h
  exact ⟨n, hn, fun k hk => (w k hk).weaken⟩
/-- the callee of a call, out of its words -/
theorem xa_cal {K : xa_P} {y n : Nat} {args : Array Value} {U : State} (hy : xa_my K y n) (hw : (xa_cw (K.1 y)).before args U = true) :
    ∃ mk meth ck, U.methodNamed? (K.1 y).1 = some mk ∧ U.vm.method? mk = some meth ∧ meth.code = some ck ∧ ck.code = (K.1 y).2.1 ∧ ck.maxLocals = (K.1 y).2.2.1 ∧ meth.sig.returnType = (K.1 y).2.2.2.1 ∧ meth.locks = false ∧ ck.exceptionTable.toList = tableOf (K.1 y).2.2.2.2 ∧ meth.sig.parameters.length = n ∧ U.plainMethod mk := by
  obtain ⟨h1, h2, h3, h4, h5⟩ := hy
  have fin : ∀ mk meth, U.methodNamed? (K.1 y).1 = some mk → U.vm.method? mk = some meth → U.plainMethod mk := fun mk meth a b => State.plainMethod.of_named (plainFor_of_name h2) a b
  have par : ∀ meth : Method, parseMethodDescriptor (K.1 y).1.desc = some meth.sig → meth.sig.parameters.length = n := fun meth q => by
    rw [q] at h4
    exact Option.some.inj h4
  unfold xa_cw at hw
  split at hw
  · rename_i e
    obtain ⟨mk, hn⟩ := Cond.code_named hw
    obtain ⟨meth, ck, q1, q2, q3, q4, q5, q6, q7, q8⟩ := Cond.code_spec hn hw
    refine ⟨mk, meth, ck, hn, q1, q2, q3, q4, q5, q6, ?_, par meth q8, fin mk meth hn q1⟩
    rw [e]
    have h0 : ck.exceptionTable.size = 0 := by simpa [Array.isEmpty] using q7
    exact List.eq_nil_of_length_eq_zero (by simpa using h0)
  · obtain ⟨mk, meth, ck, hn, q1, q2, q3, q4, q5, q6, q7, q8⟩ := Cond.codeWith_spec hw
    refine ⟨mk, meth, ck, hn, q1, q2, q3, q4, q6, q7, ?_, par meth q8, fin mk meth hn q1⟩
    rw [← q5, table_eq]
set_option maxRecDepth 10000 in
theorem xa_ar {a b d R : Nat} (h : 60 * (d + 1) + 300 ≤ R) (ha : a ≤ 8) (hb : b ≤ 41) : a + (b + 11) + (60 * d + 300) ≤ R := by omega
/-- a call, from the frame g whose arguments are taken off: the callee runs, and the caller stands again -/
theorem xa_run {l : Launch} {K : xa_P} {Z : xa_Z} {d y y' : Nat} {p : Program} {e : Env} {R : Room} {s : State} {m : MethodId} {args : Array Value} {below : List Frame} {meth : Method} {c : Code} {A : Nat → Prop} {T : State} {locs : List Loc} {cells slots mc' ms' : Nat} {ad : Nat → Nat} {h : xa_H} {P : xa_Q} {As : List Value} {g : JFrame} {ig : Instr} {len : Nat}
    {mk : MethodId} {methk : Method} {ck : Code}
    (k : xa_W l K Z d y' 0 (xa_ent (K.1 y').2.2.1 As) [] h mc' ms' P) (C : xa_C K Z (d + 1) y p R s m meth c A) (X : Stand p l e R s m args below meth c T locs cells slots)
    (hc : cells + mc' ≤ R.cells) (hs : slots + ms' ≤ R.slots) (rp : xa_rep K Z A s T.heap locs ad h) (ok : xa_oks h.1 As) (hca : ∀ v ∈ As, v.category = 1) (hlen : As.length ≤ (K.1 y').2.2.1) (h41 : (K.1 y').2.2.1 ≤ 41)
    (hg : g.method = m) (hsize : g.locals.size = c.maxLocals) (hdg : decode c.code g.pc = .ok (ig, len)) (hw : 2 * g.monitorRoom + (g.stack.map fun v => v.category).sum ≤ 8)
    (hn : T.methodNamed? (K.1 y').1 = some mk) (hmk : T.vm.method? mk = some methk) (hck : methk.code = some ck) (q3 : ck.code = (K.1 y').2.1) (q4 : ck.maxLocals = (K.1 y').2.2.1) (q5 : methk.sig.returnType = (K.1 y').2.2.2.1) (q6 : methk.locks = false) (q7 : ck.exceptionTable.toList = tableOf (K.1 y').2.2.2.2) (q8 : T.plainMethod mk) :
    ∃ (o : Outcome) (t T' : State) (L : List Loc) (ad' : Nat → Nat) (h' : xa_H) (oa : xa_O), Stand p l e R s m args below meth c T' (locs ++ L) (cells + mc') (slots + ms') ∧ h.1 ≤ h'.1 ∧ (∀ i, i < h.1 → ad' i = ad i) ∧ xa_rep K Z A s T'.heap (locs ++ L) ad' h' ∧ P oa h' ∧ xa_oc Z s ad' h' T' o oa ∧
      (∀ acts, Steps p.tables e below (doInvoke e (T.setTop g) acts mk (As.map (xa_tr Z.2.2.1 ad)).toArray).1 t) ∧ (∀ v, o = .returned v → t = T'.setTop { g with pc := g.pc + len, stack := v.toList ++ g.stack }) ∧ (∀ x, o = .threw x → t = (T'.setTop g).pushFrame (.throwing x)) := by
  have r1 : d + 8 + 1 ≤ R.frames := by have := C.rm.1; omega
  have r2 : 2 * g.monitorRoom + (g.stack.map fun v => v.category).sum + (ck.maxLocals + 11) + (60 * d + 300) ≤ R.locals := by rw [q4]; exact xa_ar C.rm.2 hw h41
  obtain ⟨Y, hin⟩ := X.into hg hsize hdg (As.map (xa_tr Z.2.2.1 ad)).toArray (R' := { frames := d + 8, cells := mc', slots := ms', locals := 60 * d + 300 }) hmk hck q6 q8 r1 r2 hc hs
  have hsub : ∀ q, va_A (xa_w Z.2.1 Z.2.2.1 ad h) T.heap.size q → A q := fun q hq => by
    rcases hq with ⟨k9, e9, h9⟩ | h9
    · exact rp.2.1.2 k9 _ h9
    · exact C.a q (Nat.le_trans rp.2.2.1.1 h9)
  have hW0 : s.WarmedH (T.calling g mk (As.map (xa_tr Z.2.2.1 ad)).toArray).vm := X.warmed
  have hG : xa_G K Z (va_A (xa_w Z.2.1 Z.2.2.1 ad h) T.heap.size) (T.calling g mk (As.map (xa_tr Z.2.2.1 ad)).toArray) := C.g.to (locs := locs) rp.2.2.1 hW0 hsub
  have hnm : methk.name = (K.1 y').1.name := (name_of_methodNamed hn hmk).1
  have hown : T.vm.findClass (K.1 y').1.cls = some mk.cls := findClass_of_methodNamed hn
  have C' : xa_C K Z d y' p { frames := d + 8, cells := mc', slots := ms', locals := 60 * d + 300 } (T.calling g mk (As.map (xa_tr Z.2.2.1 ad)).toArray) mk methk ck (va_A (xa_w Z.2.1 Z.2.2.1 ad h) T.heap.size) :=
    ⟨C.1, q3, q4, q5, q6, hnm, hown, q7, Nat.le_refl _, Nat.le_refl _, fun q hq => Or.inr hq, hG⟩
  have rp' : xa_rep K Z (va_A (xa_w Z.2.1 Z.2.2.1 ad h) T.heap.size) (T.calling g mk (As.map (xa_tr Z.2.2.1 ad)).toArray) T.heap [] ad h :=
    ⟨rp.1, rp.2.1.self, va_S.rf, rp.2.2.2⟩
  have kk := k p e _ _ mk (As.map (xa_tr Z.2.2.1 ad)).toArray (.java g :: below) methk ck _ T.heap [] 0 0 ad _ C' (by show 0 + mc' ≤ mc'; omega) (by show 0 + ms' ≤ ms'; omega) rp' (xa_lv_ent hca ok hlen) (fun v hv => nomatch hv)
  obtain ⟨t, hst, o, hrun, hend, ⟨L, hWe, hsm, hL⟩, ad', h', oa, hn', hag, rp2, hP, hoc⟩ := kk ((T.setTop g).pushFrame (.java (entryFrame mk (As.map (xa_tr Z.2.2.1 ad)).toArray ck.maxLocals))) rfl Y
  rw [Nat.zero_add] at hsm
  have hsm : (T.calling g mk (As.map (xa_tr Z.2.2.1 ad)).toArray).sameButNew ({ t with vm := (T.calling g mk (As.map (xa_tr Z.2.2.1 ad)).toArray).vm } : State) L mc' ms' := by
    have := hsm
    rwa [Nat.zero_add] at this
  have hst' : ∀ acts, Steps p.tables e below (doInvoke e (T.setTop g) acts mk (As.map (xa_tr Z.2.2.1 ad)).toArray).1 t := fun acts => by
    rw [hin acts, q4, lg_entry_eq]
    rw [q4, lg_entry_eq] at hst
    exact xa_weak (mid := [.java g]) hst
  have hcall : (T.calling g mk (As.map (xa_tr Z.2.2.1 ad)).toArray).heap = T.heap := rfl
  have hS2 : va_S A s.heap t.heap (locs ++ L) := by
    have h2 := rp2.2.2.1
    refine ⟨Nat.le_trans rp.2.2.1.1 h2.1, fun q hq hA => ?_, fun z hz => ?_⟩
    · exact (h2.2.1 q (Nat.lt_of_lt_of_le hq rp.2.2.1.1) (fun z => hA (hsub q z))).trans (rp.2.2.1.2.1 q hq hA)
    · rcases List.mem_append.mp hz with z1 | z1
      · exact rp.2.2.1.2.2 z z1
      · exact hsub _ (hL z z1)
  have hD2 : va_D A (xa_w Z.2.1 Z.2.2.1 ad' h') := rp2.2.1.weaken (fun _ _ _ z => hsub _ z)
  cases o with
  | returned v =>
    obtain ⟨T', X', hW', -, ht⟩ := X.outOf hg hdg hend hWe hsm
    have hheap : t.heap = T'.heap := by rw [ht]; rfl
    refine ⟨.returned v, t, T', L, ad', h', oa, X', hn', hag, ⟨by rw [← hheap]; exact rp2.1, hD2, by rw [← hheap]; exact hS2, rp2.2.2.2⟩, hP, ?_, hst', (fun v' e1 => by cases e1; exact ht), (fun x e1 => by cases e1)⟩
    cases oa with
    | inl w => exact hoc
    | inr E => obtain ⟨q, ce, e1, -⟩ := hoc; cases e1
  | threw x =>
    obtain ⟨T', X', hW', -, ht⟩ := X.outOfThrown hg hend hWe hsm
    have hheap : t.heap = T'.heap := by rw [ht]; exact Stand.throwing_heap T' g x
    refine ⟨.threw x, t, T', L, ad', h', oa, X', hn', hag, ⟨by rw [← hheap]; exact rp2.1, hD2, by rw [← hheap]; exact hS2, rp2.2.2.2⟩, hP, ?_, hst', (fun v' e1 => by cases e1), (fun x' e1 => by cases e1; exact ht)⟩
    cases oa with
    | inl w => obtain ⟨e1, -⟩ := hoc; cases e1
    | inr E =>
      obtain ⟨q, ce, e1, e2, e3, e4⟩ := hoc
      exact ⟨q, ce, e1, by rw [← hheap]; exact e2, e3, by rw [← hW0.alike.findClass]; exact e4⟩
end XCalls
section XCalls2
variable {l : Launch} {K : xa_P} {Z : xa_Z} {d y y' : Nat} {p : Program} {e : Env} {R : Room} {s : State} {m : MethodId} {args : Array Value} {below : List Frame} {meth : Method} {c : Code} {A : Nat → Prop} {H : Heap} {locs : List Loc} {cells slots mc ms mc' ms' : Nat} {ad : Nat → Nat} {h : xa_H} {P Q : xa_Q} {sl : Array Slot} {ls st : List Value} {pc : Nat}
/-- behind the call: what the callee returned is on the stack -/
theorem xa_ret {Fs : List Value} {T T₁ : State} {g0 : JFrame} {ig : Instr} {mk : MethodId} (hP : ∀ E h', ¬ P (.inr E) h') (k1 : xa_W l K Z d y' 0 (xa_ent (K.1 y').2.2.1 Fs) [] h mc' ms' P) (k2 : ∀ (v : Option Value) (h' : xa_H), P (.inl v) h' → xa_W l K Z (d + 1) y (pc + 3) ls (v.toList ++ st) h' mc ms Q)
    (C : xa_C K Z (d + 1) y p R s m meth c A) (hc : cells + (mc + mc') ≤ R.cells) (hs : slots + (ms + ms') ≤ R.slots) (X : Stand p l e R s m args below meth c T₁ locs cells slots) (hT : T₁.heap = H) (rp : xa_rep K Z A s H locs ad h) (lv : xa_lv Z.2.2.1 ad h.1 (K.1 y).2.2.1 sl ls) (okS : xa_oks h.1 st) (okF : xa_oks h.1 Fs)
    (hca : ∀ v ∈ Fs, v.category = 1) {n : Nat} (hmy : xa_my K y' n) (hlen : Fs.length ≤ (K.1 y').2.2.1) (hd : decode (K.1 y).2.1 pc = .ok (ig, 3)) (hw : (st.map fun v => v.category).sum ≤ 8) (hnm : T₁.methodNamed? (K.1 y').1 = some mk)
    (hstep : ∀ target, (∀ acts, Steps p.tables e below (doInvoke e (T₁.setTop (F0 m pc sl (st.map (xa_tr Z.2.2.1 ad)))) acts mk (Fs.map (xa_tr Z.2.2.1 ad)).toArray).1 target) → Steps p.tables e below (T.setTop g0) target) :
    ∃ t, Steps p.tables e below (T.setTop g0) t ∧ xa_E K Z below A s ad h.1 (cells + (mc + mc')) (slots + (ms + ms')) Q t := by
  subst hT
  obtain ⟨mk1, methk, ck, e1, e2, e3, e4, e5, e6, e7, e8, -, e9⟩ := xa_cal hmy (C.g.1 _ hmy.1 args T₁ X.warmed)
  cases hnm.symm.trans e1
  obtain ⟨o, t, T', L, ad', h', oa, X', hn', hag, rp', hPo, hoc, hst, hret, -⟩ := xa_run (g := F0 m pc sl (st.map (xa_tr Z.2.2.1 ad))) (ig := ig) (len := 3) k1 C X (by omega) (by omega) rp okF hca hlen hmy.2.2.2.2 rfl (lv.1.1.trans C.2.2.1.symm) (by rw [C.2.1]; exact hd) (by rw [xa_sum]; simp only [JFrame.monitorRoom]; omega) hnm e2 e3 e4 e5 e6 e7 e8 e9
  cases oa with
  | inr E => exact absurd hPo (hP E h')
  | inl v =>
    have ht := hret _ hoc.1
    have okv : xa_oks h'.1 (v.toList ++ st) := fun w hw => by
      rcases List.mem_append.mp hw with q | q
      · cases v with
        | none => cases q
        | some u => rw [List.mem_singleton.mp q]; exact hoc.2 u rfl
      · exact xa_ok_m hn' (okS w q)
    obtain ⟨t2, a1, b1⟩ := k2 v h' hPo p e R s m args below meth c A T'.heap (locs ++ L) (cells + mc') (slots + ms') ad' sl C (by omega) (by omega) rp' (xa_lv_m lv hn' hag) okv T' rfl X'
    have est : (v.toList ++ st).map (xa_tr Z.2.2.1 ad') = (v.map (xa_tr Z.2.2.1 ad')).toList ++ st.map (xa_tr Z.2.2.1 ad) := by
      rw [List.map_append, xa_trs_ag hag okS]
      cases v <;> rfl
    rw [est] at a1
    refine ⟨t2, hstep t2 (fun acts => (hst acts).trans ?_), xa_E.m hn' hag (xa_E.c (by omega) (by omega) b1)⟩
    rw [ht]
    exact a1
theorem xa_sV {i ci a : Nat} {fs As : List Value} (hd : decode (K.1 y).2.1 pc = .ok (.invokevirtual i, 3)) (hl : xa_lkV K (K.1 y).1.cls i ci y' As.length) (hh : h.2 a = .inr (ci, fs)) (hca : ∀ v ∈ As, v.category = 1) (hw : (st.map fun v => v.category).sum ≤ 8) (hP : ∀ E h', ¬ P (.inr E) h')
    (k1 : xa_W l K Z d y' 0 (xa_ent (K.1 y').2.2.1 (.ref a :: As)) [] h mc' ms' P) (k2 : ∀ (v : Option Value) (h' : xa_H), P (.inl v) h' → xa_W l K Z (d + 1) y (pc + 3) ls (v.toList ++ st) h' mc ms Q)
    (C : xa_C K Z (d + 1) y p R s m meth c A) (hc : cells + (mc + mc') ≤ R.cells) (hs : slots + (ms + ms') ≤ R.slots) (rp : xa_rep K Z A s H locs ad h) (lv : xa_lv Z.2.2.1 ad h.1 (K.1 y).2.2.1 sl ls) (ok : xa_oks h.1 (As.reverse ++ .ref a :: st)) :
    W p l e R s m args below meth c H locs cells slots (xa_E K Z below A s ad h.1 (cells + (mc + mc')) (slots + (ms + ms')) Q) (F0 m pc sl ((As.reverse ++ .ref a :: st).map (xa_tr Z.2.2.1 ad))) := by
  intro T hT X
  obtain ⟨hml, hinst, ⟨Tc, N, hcl⟩, hsel, hmy, hlen⟩ := hl
  obtain ⟨ok1, ok2⟩ := xa_oks_a ok
  have okA : xa_oks h.1 As := fun v hv => ok1 v (List.mem_reverse.mpr hv)
  have ha : a < h.1 := xa_oks_h ok2 a rfl
  have hwA := xa_w_get (tys := Z.2.1) (tb := Z.2.2.1) (ad := ad) ha
  rw [hh] at hwA
  obtain ⟨cell, hcell, hobj, hcls⟩ := va_recv C.k rp.1 hcl hwA
  obtain ⟨mk, methk, hnamed, hmeth, hstt, hab⟩ := Cond.instanceMethod_spec (C.ts args _ hinst)
  obtain ⟨c2, r2, m2, q1, q2, q3, q4, kP, hkP, hkPi⟩ := Cond.selects_spec (C.ts args _ hsel)
  cases hcls.symm.trans q1
  cases (State.methodFound?_of_named hnamed hmy.2.2.1).symm.trans q2
  cases hnamed.symm.trans q3
  have hselP : selectMethod e.platform s.vm cell.cls mk = .method mk := by rw [Launch.admits_selectMethod X.admits]; exact q4
  obtain ⟨mk0, meth0, ck0, f1, f2, -, -, -, -, -, -, f9, -⟩ := xa_cal hmy (C.ts args _ hmy.1)
  cases hnamed.symm.trans f1
  cases hmeth.symm.trans f2
  have est : (As.reverse ++ .ref a :: st).map (xa_tr Z.2.2.1 ad) = (As.map (xa_tr Z.2.2.1 ad)).reverse ++ .ref (ad a) :: st.map (xa_tr Z.2.2.1 ad) := by
    rw [List.map_append, List.map_reverse]; rfl
  rw [est]
  have key : ∃ vm', Stand p l e R s m args below meth c (T.setVm vm') locs cells slots ∧ ∀ target, (∀ acts, Steps p.tables e below (doInvoke e ((T.setVm vm').setTop { F0 m pc sl ((As.map (xa_tr Z.2.2.1 ad)).reverse ++ .ref (ad a) :: st.map (xa_tr Z.2.2.1 ad)) with stack := st.map (xa_tr Z.2.2.1 ad) }) acts mk (.ref (ad a) :: As.map (xa_tr Z.2.2.1 ad)).toArray).1 target) → Steps p.tables e below (T.setTop (F0 m pc sl ((As.map (xa_tr Z.2.2.1 ad)).reverse ++ .ref (ad a) :: st.map (xa_tr Z.2.2.1 ad)))) target := by
    rcases hml with hl | ⟨host, hl⟩
    · exact X.invokevirtual C.1 C.o (C.ts args _ hl) hnamed hmeth hstt hkP hkPi hmy.2.2.1 (a := ad a) (cell := cell) (by rw [hT]; exact hcell) (fun z q => by rw [q] at hobj; cases hobj) hselP hmeth hab hkP hkPi (g := F0 m pc sl ((As.map (xa_tr Z.2.2.1 ad)).reverse ++ .ref (ad a) :: st.map (xa_tr Z.2.2.1 ad))) rfl (argsL := As.map (xa_tr Z.2.2.1 ad)) (rest := st.map (xa_tr Z.2.2.1 ad)) (by rw [List.length_map]; exact f9.symm) rfl (by rw [C.2.1]; exact hd)
    · exact X.invokevirtualNest C.1 C.o (C.ts args _ hl) hnamed hmeth hstt hkP hkPi hmy.2.2.1 (a := ad a) (cell := cell) (by rw [hT]; exact hcell) (fun z q => by rw [q] at hobj; cases hobj) hselP hmeth hab hkP hkPi (g := F0 m pc sl ((As.map (xa_tr Z.2.2.1 ad)).reverse ++ .ref (ad a) :: st.map (xa_tr Z.2.2.1 ad))) rfl (argsL := As.map (xa_tr Z.2.2.1 ad)) (rest := st.map (xa_tr Z.2.2.1 ad)) (by rw [List.length_map]; exact f9.symm) rfl (by rw [C.2.1]; exact hd)
  obtain ⟨vm', X₁, hstep⟩ := key
  exact xa_ret (Fs := .ref a :: As) hP k1 k2 C hc hs X₁ hT rp lv (xa_oks_t ok2) (xa_oks_c (xa_ok_r ha) okA) (fun v hv => by
    rcases List.mem_cons.mp hv with q | q
    · rw [q]; rfl
    · exact hca v q) hmy (by show As.length + 1 ≤ _; exact hlen) hd hw (X₁.named hnamed) hstep
theorem xa_sS {i : Nat} {As : List Value} (hd : decode (K.1 y).2.1 pc = .ok (.invokestatic i, 3)) (hl : xa_lkS K (K.1 y).1.cls i y' As.length) (hca : ∀ v ∈ As, v.category = 1) (hw : (st.map fun v => v.category).sum ≤ 8) (hP : ∀ E h', ¬ P (.inr E) h')
    (k1 : xa_W l K Z d y' 0 (xa_ent (K.1 y').2.2.1 As) [] h mc' ms' P) (k2 : ∀ (v : Option Value) (h' : xa_H), P (.inl v) h' → xa_W l K Z (d + 1) y (pc + 3) ls (v.toList ++ st) h' mc ms Q)
    (C : xa_C K Z (d + 1) y p R s m meth c A) (hc : cells + (mc + mc') ≤ R.cells) (hs : slots + (ms + ms') ≤ R.slots) (rp : xa_rep K Z A s H locs ad h) (lv : xa_lv Z.2.2.1 ad h.1 (K.1 y).2.2.1 sl ls) (ok : xa_oks h.1 (As.reverse ++ st)) :
    W p l e R s m args below meth c H locs cells slots (xa_E K Z below A s ad h.1 (cells + (mc + mc')) (slots + (ms + ms')) Q) (F0 m pc sl ((As.reverse ++ st).map (xa_tr Z.2.2.1 ad))) := by
  intro T hT X
  obtain ⟨hml, hstat, hini, hmy, hlen⟩ := hl
  obtain ⟨ok1, ok2⟩ := xa_oks_a ok
  have okA : xa_oks h.1 As := fun v hv => ok1 v (List.mem_reverse.mpr hv)
  obtain ⟨mk, methk, ck0, hnamed, hmeth, -, -, -, -, -, -, f9, -⟩ := xa_cal hmy (C.ts args _ hmy.1)
  have hstatic : methk.isStatic = true := Cond.static_spec hnamed hmeth (C.ts args _ hstat)
  obtain ⟨kP, hkP, -⟩ := className_of_methodNamed hnamed
  have hinitP : kP.init = .initialized := Cond.initialized_spec (findClass_of_methodNamed hnamed) hkP (C.ts args _ hini)
  have est : (As.reverse ++ st).map (xa_tr Z.2.2.1 ad) = (As.map (xa_tr Z.2.2.1 ad)).reverse ++ st.map (xa_tr Z.2.2.1 ad) := by
    rw [List.map_append, List.map_reverse]
  rw [est]
  have key : ∃ vm', Stand p l e R s m args below meth c (T.setVm vm') locs cells slots ∧ ∀ target, (∀ acts, Steps p.tables e below (doInvoke e ((T.setVm vm').setTop { F0 m pc sl ((As.map (xa_tr Z.2.2.1 ad)).reverse ++ st.map (xa_tr Z.2.2.1 ad)) with stack := st.map (xa_tr Z.2.2.1 ad) }) acts mk (As.map (xa_tr Z.2.2.1 ad)).toArray).1 target) → Steps p.tables e below (T.setTop (F0 m pc sl ((As.map (xa_tr Z.2.2.1 ad)).reverse ++ st.map (xa_tr Z.2.2.1 ad)))) target := by
    rcases hml with hl | ⟨host, hl⟩
    · exact X.invokestatic C.1 C.o (C.ts args _ hl) hnamed hmeth hstatic hkP hinitP hmy.2.2.1 (g := F0 m pc sl ((As.map (xa_tr Z.2.2.1 ad)).reverse ++ st.map (xa_tr Z.2.2.1 ad))) rfl (argsL := As.map (xa_tr Z.2.2.1 ad)) (rest := st.map (xa_tr Z.2.2.1 ad)) (by rw [List.length_map]; exact f9.symm) rfl (by rw [C.2.1]; exact hd)
    · exact X.invokestaticNest C.1 C.o (C.ts args _ hl) hnamed hmeth hstatic hkP hinitP hmy.2.2.1 (g := F0 m pc sl ((As.map (xa_tr Z.2.2.1 ad)).reverse ++ st.map (xa_tr Z.2.2.1 ad))) rfl (argsL := As.map (xa_tr Z.2.2.1 ad)) (rest := st.map (xa_tr Z.2.2.1 ad)) (by rw [List.length_map]; exact f9.symm) rfl (by rw [C.2.1]; exact hd)
  obtain ⟨vm', X₁, hstep⟩ := key
  exact xa_ret (Fs := As) hP k1 k2 C hc hs X₁ hT rp lv ok2 okA hca hmy hlen hd hw (X₁.named hnamed) hstep
theorem xa_sI {i a : Nat} {As : List Value} (hd : decode (K.1 y).2.1 pc = .ok (.invokespecial i, 3)) (hl : xa_lkI K (K.1 y).1.cls i y' As.length) (hca : ∀ v ∈ As, v.category = 1) (hw : (st.map fun v => v.category).sum ≤ 8) (hP : ∀ E h', ¬ P (.inr E) h')
    (k1 : xa_W l K Z d y' 0 (xa_ent (K.1 y').2.2.1 (.ref a :: As)) [] h mc' ms' P) (k2 : ∀ (v : Option Value) (h' : xa_H), P (.inl v) h' → xa_W l K Z (d + 1) y (pc + 3) ls (v.toList ++ st) h' mc ms Q)
    (C : xa_C K Z (d + 1) y p R s m meth c A) (hc : cells + (mc + mc') ≤ R.cells) (hs : slots + (ms + ms') ≤ R.slots) (rp : xa_rep K Z A s H locs ad h) (lv : xa_lv Z.2.2.1 ad h.1 (K.1 y).2.2.1 sl ls) (ok : xa_oks h.1 (As.reverse ++ .ref a :: st)) :
    W p l e R s m args below meth c H locs cells slots (xa_E K Z below A s ad h.1 (cells + (mc + mc')) (slots + (ms + ms')) Q) (F0 m pc sl ((As.reverse ++ .ref a :: st).map (xa_tr Z.2.2.1 ad))) := by
  intro T hT X
  obtain ⟨hml, hinst, hnm, hrn, hhn, hmy, hlen⟩ := hl
  obtain ⟨ok1, ok2⟩ := xa_oks_a ok
  have okA : xa_oks h.1 As := fun v hv => ok1 v (List.mem_reverse.mpr hv)
  have ha : a < h.1 := xa_oks_h ok2 a rfl
  have hpl : e.platform.magicAccessors = ({} : Platform).magicAccessors := by rw [X.admits.platform]
  have hcode : (Cond.code (K.1 y').1 (K.1 y').2.1 (K.1 y').2.2.1 none).before args s = true := by
    have := C.ts args _ hmy.1
    unfold xa_cw at this
    rw [hhn, hrn] at this
    exact this
  have hpar : ∀ sig, parseMethodDescriptor (K.1 y').1.desc = some sig → (As.map (xa_tr Z.2.2.1 ad)).length = sig.parameters.length := fun sig q => by
    have h2 := hmy.2.2.2.1
    rw [q] at h2
    rw [List.length_map]
    exact (Option.some.inj h2).symm
  have est : (As.reverse ++ .ref a :: st).map (xa_tr Z.2.2.1 ad) = (As.map (xa_tr Z.2.2.1 ad)).reverse ++ .ref (ad a) :: st.map (xa_tr Z.2.2.1 ad) := by
    rw [List.map_append, List.map_reverse]; rfl
  rw [est]
  have key : ∃ mk vm', s.methodNamed? (K.1 y').1 = some mk ∧ s.WarmedH vm' ∧ ∀ target, (∀ acts, Steps p.tables e below (doInvoke e ((T.setVm vm').setTop { F0 m pc sl ((As.map (xa_tr Z.2.2.1 ad)).reverse ++ .ref (ad a) :: st.map (xa_tr Z.2.2.1 ad)) with stack := st.map (xa_tr Z.2.2.1 ad) }) acts mk (.ref (ad a) :: As.map (xa_tr Z.2.2.1 ad)).toArray).1 target) → Steps p.tables e below (T.setTop (F0 m pc sl ((As.map (xa_tr Z.2.2.1 ad)).reverse ++ .ref (ad a) :: st.map (xa_tr Z.2.2.1 ad)))) target := by
    rcases hml with hl | ⟨host, hl⟩
    · obtain ⟨mk, _, _, _, vm', g1, -, -, -, -, -, -, -, g2, g3⟩ := Steps.initColdArgs (e := e) X.here C.1 X.warmed hpl C.o hnm hmy.2.2.1 (C.ts args _ hl) (C.ts args _ hinst) hcode (f := F0 m pc sl ((As.map (xa_tr Z.2.2.1 ad)).reverse ++ .ref (ad a) :: st.map (xa_tr Z.2.2.1 ad))) rfl hpar rfl (by rw [C.2.1]; exact hd)
      exact ⟨mk, vm', g1, g2, g3⟩
    · obtain ⟨mk, _, _, _, vm', g1, -, -, -, -, -, -, -, g2, g3⟩ := Steps.initColdArgsNest (e := e) X.here C.1 X.warmed hpl C.o hnm hmy.2.2.1 (C.ts args _ hl) (C.ts args _ hinst) hcode (f := F0 m pc sl ((As.map (xa_tr Z.2.2.1 ad)).reverse ++ .ref (ad a) :: st.map (xa_tr Z.2.2.1 ad))) rfl hpar rfl (by rw [C.2.1]; exact hd)
      exact ⟨mk, vm', g1, g2, g3⟩
  obtain ⟨mk, vm', hnamed, hW₁, hstep⟩ := key
  have X₁ := X.noted hW₁
  exact xa_ret (Fs := .ref a :: As) hP k1 k2 C hc hs X₁ hT rp lv (xa_oks_t ok2) (xa_oks_c (xa_ok_r ha) okA) (fun v hv => by
    rcases List.mem_cons.mp hv with q | q
    · rw [q]; rfl
    · exact hca v q) hmy (by show As.length + 1 ≤ _; exact hlen) hd hw (X₁.named hnamed) hstep
end XCalls2
end
section
/-! Each rule of the abstract machine is sound (printed by wip/whole/gen_machine.py). -/
section XSound
variable {l : Launch} {K : xa_P} {Z : xa_Z}
set_option maxHeartbeats 2000000 in
theorem xs_iconst : xr_iconst K (xa_W l K Z) := by
  intro d y pc ls st h mc ms Q n' n v hd hv k p e R s m args below meth c A H locs cells slots ad sl C hc hs rp lv ok
  obtain ⟨hd, rfl⟩ := hd
  exact lv_iconst C.1 C.2.1 hd hv (k p e R s m args below meth c A H locs cells slots ad sl C hc hs rp lv (xa_oks_i ok))
set_option maxHeartbeats 2000000 in
theorem xs_bipush : xr_bipush K (xa_W l K Z) := by
  intro d y pc ls st h mc ms Q n' n v hd hv k p e R s m args below meth c A H locs cells slots ad sl C hc hs rp lv ok
  obtain ⟨hd, rfl⟩ := hd
  exact lv_bipush C.1 C.2.1 hd hv (k p e R s m args below meth c A H locs cells slots ad sl C hc hs rp lv (xa_oks_i ok))
set_option maxHeartbeats 2000000 in
theorem xs_sipush : xr_sipush K (xa_W l K Z) := by
  intro d y pc ls st h mc ms Q n' n v hd hv k p e R s m args below meth c A H locs cells slots ad sl C hc hs rp lv ok
  obtain ⟨hd, rfl⟩ := hd
  exact lv_sipush C.1 C.2.1 hd hv (k p e R s m args below meth c A H locs cells slots ad sl C hc hs rp lv (xa_oks_i ok))
set_option maxHeartbeats 2000000 in
theorem xs_ldc : xr_ldc K (xa_W l K Z) := by
  intro d y pc ls st h mc ms Q n' i v hd hv k p e R s m args below meth c A H locs cells slots ad sl C hc hs rp lv ok
  obtain ⟨hd, rfl⟩ := hd
  exact lv_ldc C.1 C.2.1 C.o (C.ts args _ hv) hd (k p e R s m args below meth c A H locs cells slots ad sl C hc hs rp lv (xa_oks_i ok))
set_option maxHeartbeats 2000000 in
theorem xs_iload_n : xr_iload_n K (xa_W l K Z) := by
  intro d y pc ls st h mc ms Q n' n i x hd hi hl k p e R s m args below meth c A H locs cells slots ad sl C hc hs rp lv ok
  obtain ⟨hd, rfl⟩ := hd
  exact lv_iload_n C.1 C.2.1 hd hi (xa_lv_at lv hl rfl) (k p e R s m args below meth c A H locs cells slots ad sl C hc hs rp lv (xa_oks_i ok))
set_option maxHeartbeats 2000000 in
theorem xs_iload : xr_iload K (xa_W l K Z) := by
  intro d y pc ls st h mc ms Q n' i x hd hl k p e R s m args below meth c A H locs cells slots ad sl C hc hs rp lv ok
  obtain ⟨hd, rfl⟩ := hd
  exact lv_iload C.1 C.2.1 hd (xa_lv_at lv hl rfl) (k p e R s m args below meth c A H locs cells slots ad sl C hc hs rp lv (xa_oks_i ok))
set_option maxHeartbeats 2000000 in
theorem xs_aload_n : xr_aload_n K (xa_W l K Z) := by
  intro d y pc ls st h mc ms Q n' n i x hd hi hl k p e R s m args below meth c A H locs cells slots ad sl C hc hs rp lv ok
  obtain ⟨hd, rfl⟩ := hd
  exact lv_aload_n C.1 C.2.1 hd hi (xa_lv_at lv hl rfl) (k p e R s m args below meth c A H locs cells slots ad sl C hc hs rp lv (xa_oks_c (xa_lv_ok lv hl) ok))
set_option maxHeartbeats 2000000 in
theorem xs_aload_nT : xr_aload_nT K (xa_W l K Z) := by
  intro d y pc ls st h mc ms Q n' n i x hd hi hl k p e R s m args below meth c A H locs cells slots ad sl C hc hs rp lv ok
  obtain ⟨hd, rfl⟩ := hd
  exact lv_aload_n C.1 C.2.1 hd hi (xa_lv_at lv hl rfl) (k p e R s m args below meth c A H locs cells slots ad sl C hc hs rp lv (xa_oks_c (xa_lv_ok lv hl) ok))
set_option maxHeartbeats 2000000 in
theorem xs_aload : xr_aload K (xa_W l K Z) := by
  intro d y pc ls st h mc ms Q n' i x hd hl k p e R s m args below meth c A H locs cells slots ad sl C hc hs rp lv ok
  obtain ⟨hd, rfl⟩ := hd
  exact lv_aload C.1 C.2.1 hd (xa_lv_at lv hl rfl) (k p e R s m args below meth c A H locs cells slots ad sl C hc hs rp lv (xa_oks_c (xa_lv_ok lv hl) ok))
set_option maxHeartbeats 2000000 in
theorem xs_aloadT : xr_aloadT K (xa_W l K Z) := by
  intro d y pc ls st h mc ms Q n' i x hd hl k p e R s m args below meth c A H locs cells slots ad sl C hc hs rp lv ok
  obtain ⟨hd, rfl⟩ := hd
  exact lv_aload C.1 C.2.1 hd (xa_lv_at lv hl rfl) (k p e R s m args below meth c A H locs cells slots ad sl C hc hs rp lv (xa_oks_c (xa_lv_ok lv hl) ok))
set_option maxHeartbeats 2000000 in
theorem xs_istore_n : xr_istore_n K (xa_W l K Z) := by
  intro d y pc ls st h mc ms Q n' n i x w hd hi hl k p e R s m args below meth c A H locs cells slots ad sl C hc hs rp lv ok
  obtain ⟨hd, rfl⟩ := hd
  exact lv_istore_n C.1 C.2.1 hd hi lv.1 (xa_lv_lt lv hl) rfl (fun sl2 hl2 => (k p e R s m args below meth c A H locs cells slots ad sl2 C hc hs rp (xa_lv_set lv hl xa_ok_i rfl hl2) (xa_oks_t ok)))
set_option maxHeartbeats 2000000 in
theorem xs_istore : xr_istore K (xa_W l K Z) := by
  intro d y pc ls st h mc ms Q n' i x w hd hl k p e R s m args below meth c A H locs cells slots ad sl C hc hs rp lv ok
  obtain ⟨hd, rfl⟩ := hd
  exact lv_istore C.1 C.2.1 hd lv.1 (xa_lv_lt lv hl) rfl (fun sl2 hl2 => (k p e R s m args below meth c A H locs cells slots ad sl2 C hc hs rp (xa_lv_set lv hl xa_ok_i rfl hl2) (xa_oks_t ok)))
set_option maxHeartbeats 2000000 in
theorem xs_astore_n : xr_astore_n K (xa_W l K Z) := by
  intro d y pc ls st h mc ms Q n' n i x w hd hi hl k p e R s m args below meth c A H locs cells slots ad sl C hc hs rp lv ok
  obtain ⟨hd, rfl⟩ := hd
  exact lv_astore_n C.1 C.2.1 hd hi lv.1 (xa_lv_lt lv hl) rfl (fun sl2 hl2 => (k p e R s m args below meth c A H locs cells slots ad sl2 C hc hs rp (xa_lv_set lv hl (xa_oks_h ok) rfl hl2) (xa_oks_t ok)))
set_option maxHeartbeats 2000000 in
theorem xs_astore : xr_astore K (xa_W l K Z) := by
  intro d y pc ls st h mc ms Q n' i x w hd hl k p e R s m args below meth c A H locs cells slots ad sl C hc hs rp lv ok
  obtain ⟨hd, rfl⟩ := hd
  exact lv_astore C.1 C.2.1 hd lv.1 (xa_lv_lt lv hl) rfl (fun sl2 hl2 => (k p e R s m args below meth c A H locs cells slots ad sl2 C hc hs rp (xa_lv_set lv hl (xa_oks_h ok) rfl hl2) (xa_oks_t ok)))
set_option maxHeartbeats 2000000 in
theorem xs_iinc : xr_iinc K (xa_W l K Z) := by
  intro d y pc ls st h mc ms Q n' i n x v hd hl hv k p e R s m args below meth c A H locs cells slots ad sl C hc hs rp lv ok
  obtain ⟨hd, rfl⟩ := hd
  obtain ⟨j, hj⟩ := List.mem_iff_getElem?.mp (xa_kn_mem (tb := Z.2.2.1) (ad := ad) (v := .int x) rfl ls i 0 hl)
  rw [Nat.zero_add] at hj
  exact lv_iinc C.1 C.2.1 hd lv.1 hj hv (xa_lv_lt lv hl) rfl (fun sl2 hl2 => (k p e R s m args below meth c A H locs cells slots ad sl2 C hc hs rp (xa_lv_set lv hl xa_ok_i rfl hl2) (ok)))
set_option maxHeartbeats 2000000 in
theorem xs_iadd : xr_iadd K (xa_W l K Z) := by
  intro d y pc ls st h mc ms Q n' x z hd k p e R s m args below meth c A H locs cells slots ad sl C hc hs rp lv ok
  obtain ⟨hd, rfl⟩ := hd
  exact lv_iadd C.1 C.2.1 hd (k p e R s m args below meth c A H locs cells slots ad sl C hc hs rp lv (xa_oks_i (xa_oks_t (xa_oks_t ok))))
set_option maxHeartbeats 2000000 in
theorem xs_isub : xr_isub K (xa_W l K Z) := by
  intro d y pc ls st h mc ms Q n' x z hd k p e R s m args below meth c A H locs cells slots ad sl C hc hs rp lv ok
  obtain ⟨hd, rfl⟩ := hd
  exact lv_isub C.1 C.2.1 hd (k p e R s m args below meth c A H locs cells slots ad sl C hc hs rp lv (xa_oks_i (xa_oks_t (xa_oks_t ok))))
set_option maxHeartbeats 2000000 in
theorem xs_imul : xr_imul K (xa_W l K Z) := by
  intro d y pc ls st h mc ms Q n' x z hd k p e R s m args below meth c A H locs cells slots ad sl C hc hs rp lv ok
  obtain ⟨hd, rfl⟩ := hd
  exact lv_imul C.1 C.2.1 hd (k p e R s m args below meth c A H locs cells slots ad sl C hc hs rp lv (xa_oks_i (xa_oks_t (xa_oks_t ok))))
set_option maxHeartbeats 2000000 in
theorem xs_iand : xr_iand K (xa_W l K Z) := by
  intro d y pc ls st h mc ms Q n' x z hd k p e R s m args below meth c A H locs cells slots ad sl C hc hs rp lv ok
  obtain ⟨hd, rfl⟩ := hd
  exact lv_iand C.1 C.2.1 hd (k p e R s m args below meth c A H locs cells slots ad sl C hc hs rp lv (xa_oks_i (xa_oks_t (xa_oks_t ok))))
set_option maxHeartbeats 2000000 in
theorem xs_ior : xr_ior K (xa_W l K Z) := by
  intro d y pc ls st h mc ms Q n' x z hd k p e R s m args below meth c A H locs cells slots ad sl C hc hs rp lv ok
  obtain ⟨hd, rfl⟩ := hd
  exact lv_ior C.1 C.2.1 hd (k p e R s m args below meth c A H locs cells slots ad sl C hc hs rp lv (xa_oks_i (xa_oks_t (xa_oks_t ok))))
set_option maxHeartbeats 2000000 in
theorem xs_ixor : xr_ixor K (xa_W l K Z) := by
  intro d y pc ls st h mc ms Q n' x z hd k p e R s m args below meth c A H locs cells slots ad sl C hc hs rp lv ok
  obtain ⟨hd, rfl⟩ := hd
  exact lv_ixor C.1 C.2.1 hd (k p e R s m args below meth c A H locs cells slots ad sl C hc hs rp lv (xa_oks_i (xa_oks_t (xa_oks_t ok))))
set_option maxHeartbeats 2000000 in
theorem xs_ishl : xr_ishl K (xa_W l K Z) := by
  intro d y pc ls st h mc ms Q n' x z hd k p e R s m args below meth c A H locs cells slots ad sl C hc hs rp lv ok
  obtain ⟨hd, rfl⟩ := hd
  exact lv_ishl C.1 C.2.1 hd (k p e R s m args below meth c A H locs cells slots ad sl C hc hs rp lv (xa_oks_i (xa_oks_t (xa_oks_t ok))))
set_option maxHeartbeats 2000000 in
theorem xs_ishr : xr_ishr K (xa_W l K Z) := by
  intro d y pc ls st h mc ms Q n' x z hd k p e R s m args below meth c A H locs cells slots ad sl C hc hs rp lv ok
  obtain ⟨hd, rfl⟩ := hd
  exact lv_ishr C.1 C.2.1 hd (k p e R s m args below meth c A H locs cells slots ad sl C hc hs rp lv (xa_oks_i (xa_oks_t (xa_oks_t ok))))
set_option maxHeartbeats 2000000 in
theorem xs_iushr : xr_iushr K (xa_W l K Z) := by
  intro d y pc ls st h mc ms Q n' x z hd k p e R s m args below meth c A H locs cells slots ad sl C hc hs rp lv ok
  obtain ⟨hd, rfl⟩ := hd
  exact lv_iushr C.1 C.2.1 hd rfl (k p e R s m args below meth c A H locs cells slots ad sl C hc hs rp lv (xa_oks_i (xa_oks_t (xa_oks_t ok))))
set_option maxHeartbeats 2000000 in
theorem xs_idiv : xr_idiv K (xa_W l K Z) := by
  intro d y pc ls st h mc ms Q n' x z hd hz k p e R s m args below meth c A H locs cells slots ad sl C hc hs rp lv ok
  obtain ⟨hd, rfl⟩ := hd
  exact lv_idiv C.1 C.2.1 hd hz (k p e R s m args below meth c A H locs cells slots ad sl C hc hs rp lv (xa_oks_i (xa_oks_t (xa_oks_t ok))))
set_option maxHeartbeats 2000000 in
theorem xs_irem : xr_irem K (xa_W l K Z) := by
  intro d y pc ls st h mc ms Q n' x z hd hz k p e R s m args below meth c A H locs cells slots ad sl C hc hs rp lv ok
  obtain ⟨hd, rfl⟩ := hd
  exact lv_irem C.1 C.2.1 hd hz (k p e R s m args below meth c A H locs cells slots ad sl C hc hs rp lv (xa_oks_i (xa_oks_t (xa_oks_t ok))))
set_option maxHeartbeats 2000000 in
theorem xs_i2l : xr_i2l K (xa_W l K Z) := by
  intro d y pc ls st h mc ms Q n' x hd k p e R s m args below meth c A H locs cells slots ad sl C hc hs rp lv ok
  obtain ⟨hd, rfl⟩ := hd
  exact lv_i2l C.1 C.2.1 hd rfl (k p e R s m args below meth c A H locs cells slots ad sl C hc hs rp lv (xa_oks_l (xa_oks_t ok)))
set_option maxHeartbeats 2000000 in
theorem xs_lcmp : xr_lcmp K (xa_W l K Z) := by
  intro d y pc ls st h mc ms Q n' x z hd k p e R s m args below meth c A H locs cells slots ad sl C hc hs rp lv ok
  obtain ⟨hd, rfl⟩ := hd
  exact W.lcmp C.1 C.2.1 hd (k p e R s m args below meth c A H locs cells slots ad sl C hc hs rp lv (xa_oks_i (xa_oks_t (xa_oks_t ok))))
set_option maxHeartbeats 2000000 in
theorem xs_dup : xr_dup K (xa_W l K Z) := by
  intro d y pc ls st h mc ms Q n' v hd hv k p e R s m args below meth c A H locs cells slots ad sl C hc hs rp lv ok
  obtain ⟨hd, rfl⟩ := hd
  exact lv_dup C.1 C.2.1 hd (by rw [xa_cat]; exact hv) (k p e R s m args below meth c A H locs cells slots ad sl C hc hs rp lv (xa_oks_c (xa_oks_h ok) ok))
set_option maxHeartbeats 2000000 in
theorem xs_pop : xr_pop K (xa_W l K Z) := by
  intro d y pc ls st h mc ms Q n' v hd hv k p e R s m args below meth c A H locs cells slots ad sl C hc hs rp lv ok
  obtain ⟨hd, rfl⟩ := hd
  exact lv_pop C.1 C.2.1 hd (by rw [xa_cat]; exact hv) (k p e R s m args below meth c A H locs cells slots ad sl C hc hs rp lv (xa_oks_t ok))
set_option maxHeartbeats 2000000 in
theorem xs_dup2 : xr_dup2 K (xa_W l K Z) := by
  intro d y pc ls st h mc ms Q n' v w hd hv hw k p e R s m args below meth c A H locs cells slots ad sl C hc hs rp lv ok
  obtain ⟨hd, rfl⟩ := hd
  exact lv_dup2_11 C.1 C.2.1 hd (by rw [xa_cat]; exact hv) (by rw [xa_cat]; exact hw) (k p e R s m args below meth c A H locs cells slots ad sl C hc hs rp lv (xa_oks_c (xa_oks_h ok) (xa_oks_c (xa_oks_h (xa_oks_t ok)) ok)))
set_option maxHeartbeats 2000000 in
theorem xs_dup_x1 : xr_dup_x1 K (xa_W l K Z) := by
  intro d y pc ls st h mc ms Q n' v w hd hv hw k p e R s m args below meth c A H locs cells slots ad sl C hc hs rp lv ok
  obtain ⟨hd, rfl⟩ := hd
  exact lv_dup_x1 C.1 C.2.1 hd (by rw [xa_cat]; exact hv) (by rw [xa_cat]; exact hw) (k p e R s m args below meth c A H locs cells slots ad sl C hc hs rp lv (xa_oks_c (xa_oks_h ok) (xa_oks_c (xa_oks_h (xa_oks_t ok)) (xa_oks_c (xa_oks_h ok) (xa_oks_t (xa_oks_t ok))))))
set_option maxHeartbeats 2000000 in
theorem xs_if_eq : xr_if_eq K (xa_W l K Z) := by
  intro d y pc ls st h mc ms Q n' x off tgt hd kt kf p e R s m args below meth c A H locs cells slots ad sl C hc hs rp lv ok
  obtain ⟨⟨hd, rfl⟩, ht⟩ := hd
  exact lv_if_eq C.1 C.2.1 hd ht (fun q => (kt q p e R s m args below meth c A H locs cells slots ad sl C hc hs rp lv (xa_oks_t ok))) (fun q => (kf q p e R s m args below meth c A H locs cells slots ad sl C hc hs rp lv (xa_oks_t ok)))
set_option maxHeartbeats 2000000 in
theorem xs_if_ne : xr_if_ne K (xa_W l K Z) := by
  intro d y pc ls st h mc ms Q n' x off tgt hd kt kf p e R s m args below meth c A H locs cells slots ad sl C hc hs rp lv ok
  obtain ⟨⟨hd, rfl⟩, ht⟩ := hd
  exact lv_if_ne C.1 C.2.1 hd ht (fun q => (kt q p e R s m args below meth c A H locs cells slots ad sl C hc hs rp lv (xa_oks_t ok))) (fun q => (kf q p e R s m args below meth c A H locs cells slots ad sl C hc hs rp lv (xa_oks_t ok)))
set_option maxHeartbeats 2000000 in
theorem xs_if_lt : xr_if_lt K (xa_W l K Z) := by
  intro d y pc ls st h mc ms Q n' x off tgt hd kt kf p e R s m args below meth c A H locs cells slots ad sl C hc hs rp lv ok
  obtain ⟨⟨hd, rfl⟩, ht⟩ := hd
  exact lv_if_lt C.1 C.2.1 hd ht (fun q => (kt q p e R s m args below meth c A H locs cells slots ad sl C hc hs rp lv (xa_oks_t ok))) (fun q => (kf q p e R s m args below meth c A H locs cells slots ad sl C hc hs rp lv (xa_oks_t ok)))
set_option maxHeartbeats 2000000 in
theorem xs_if_ge : xr_if_ge K (xa_W l K Z) := by
  intro d y pc ls st h mc ms Q n' x off tgt hd kt kf p e R s m args below meth c A H locs cells slots ad sl C hc hs rp lv ok
  obtain ⟨⟨hd, rfl⟩, ht⟩ := hd
  exact lv_if_ge C.1 C.2.1 hd ht (fun q => (kt q p e R s m args below meth c A H locs cells slots ad sl C hc hs rp lv (xa_oks_t ok))) (fun q => (kf q p e R s m args below meth c A H locs cells slots ad sl C hc hs rp lv (xa_oks_t ok)))
set_option maxHeartbeats 2000000 in
theorem xs_if_gt : xr_if_gt K (xa_W l K Z) := by
  intro d y pc ls st h mc ms Q n' x off tgt hd kt kf p e R s m args below meth c A H locs cells slots ad sl C hc hs rp lv ok
  obtain ⟨⟨hd, rfl⟩, ht⟩ := hd
  exact lv_if_gt C.1 C.2.1 hd ht (fun q => (kt q p e R s m args below meth c A H locs cells slots ad sl C hc hs rp lv (xa_oks_t ok))) (fun q => (kf q p e R s m args below meth c A H locs cells slots ad sl C hc hs rp lv (xa_oks_t ok)))
set_option maxHeartbeats 2000000 in
theorem xs_if_le : xr_if_le K (xa_W l K Z) := by
  intro d y pc ls st h mc ms Q n' x off tgt hd kt kf p e R s m args below meth c A H locs cells slots ad sl C hc hs rp lv ok
  obtain ⟨⟨hd, rfl⟩, ht⟩ := hd
  exact lv_if_le C.1 C.2.1 hd ht (fun q => (kt q p e R s m args below meth c A H locs cells slots ad sl C hc hs rp lv (xa_oks_t ok))) (fun q => (kf q p e R s m args below meth c A H locs cells slots ad sl C hc hs rp lv (xa_oks_t ok)))
set_option maxHeartbeats 2000000 in
theorem xs_icmp_eq : xr_icmp_eq K (xa_W l K Z) := by
  intro d y pc ls st h mc ms Q n' x z off tgt hd kt kf p e R s m args below meth c A H locs cells slots ad sl C hc hs rp lv ok
  obtain ⟨⟨hd, rfl⟩, ht⟩ := hd
  exact lv_icmp_eq C.1 C.2.1 hd ht (fun q => (kt q p e R s m args below meth c A H locs cells slots ad sl C hc hs rp lv (xa_oks_t (xa_oks_t ok)))) (fun q => (kf q p e R s m args below meth c A H locs cells slots ad sl C hc hs rp lv (xa_oks_t (xa_oks_t ok))))
set_option maxHeartbeats 2000000 in
theorem xs_icmp_ne : xr_icmp_ne K (xa_W l K Z) := by
  intro d y pc ls st h mc ms Q n' x z off tgt hd kt kf p e R s m args below meth c A H locs cells slots ad sl C hc hs rp lv ok
  obtain ⟨⟨hd, rfl⟩, ht⟩ := hd
  exact lv_icmp_ne C.1 C.2.1 hd ht (fun q => (kt q p e R s m args below meth c A H locs cells slots ad sl C hc hs rp lv (xa_oks_t (xa_oks_t ok)))) (fun q => (kf q p e R s m args below meth c A H locs cells slots ad sl C hc hs rp lv (xa_oks_t (xa_oks_t ok))))
set_option maxHeartbeats 2000000 in
theorem xs_icmp_lt : xr_icmp_lt K (xa_W l K Z) := by
  intro d y pc ls st h mc ms Q n' x z off tgt hd kt kf p e R s m args below meth c A H locs cells slots ad sl C hc hs rp lv ok
  obtain ⟨⟨hd, rfl⟩, ht⟩ := hd
  exact lv_icmp_lt C.1 C.2.1 hd ht (fun q => (kt q p e R s m args below meth c A H locs cells slots ad sl C hc hs rp lv (xa_oks_t (xa_oks_t ok)))) (fun q => (kf q p e R s m args below meth c A H locs cells slots ad sl C hc hs rp lv (xa_oks_t (xa_oks_t ok))))
set_option maxHeartbeats 2000000 in
theorem xs_icmp_ge : xr_icmp_ge K (xa_W l K Z) := by
  intro d y pc ls st h mc ms Q n' x z off tgt hd kt kf p e R s m args below meth c A H locs cells slots ad sl C hc hs rp lv ok
  obtain ⟨⟨hd, rfl⟩, ht⟩ := hd
  exact lv_icmp_ge C.1 C.2.1 hd ht (fun q => (kt q p e R s m args below meth c A H locs cells slots ad sl C hc hs rp lv (xa_oks_t (xa_oks_t ok)))) (fun q => (kf q p e R s m args below meth c A H locs cells slots ad sl C hc hs rp lv (xa_oks_t (xa_oks_t ok))))
set_option maxHeartbeats 2000000 in
theorem xs_icmp_gt : xr_icmp_gt K (xa_W l K Z) := by
  intro d y pc ls st h mc ms Q n' x z off tgt hd kt kf p e R s m args below meth c A H locs cells slots ad sl C hc hs rp lv ok
  obtain ⟨⟨hd, rfl⟩, ht⟩ := hd
  exact lv_icmp_gt C.1 C.2.1 hd ht (fun q => (kt q p e R s m args below meth c A H locs cells slots ad sl C hc hs rp lv (xa_oks_t (xa_oks_t ok)))) (fun q => (kf q p e R s m args below meth c A H locs cells slots ad sl C hc hs rp lv (xa_oks_t (xa_oks_t ok))))
set_option maxHeartbeats 2000000 in
theorem xs_icmp_le : xr_icmp_le K (xa_W l K Z) := by
  intro d y pc ls st h mc ms Q n' x z off tgt hd kt kf p e R s m args below meth c A H locs cells slots ad sl C hc hs rp lv ok
  obtain ⟨⟨hd, rfl⟩, ht⟩ := hd
  exact lv_icmp_le C.1 C.2.1 hd ht (fun q => (kt q p e R s m args below meth c A H locs cells slots ad sl C hc hs rp lv (xa_oks_t (xa_oks_t ok)))) (fun q => (kf q p e R s m args below meth c A H locs cells slots ad sl C hc hs rp lv (xa_oks_t (xa_oks_t ok))))
set_option maxHeartbeats 2000000 in
theorem xs_goto : xr_goto K (xa_W l K Z) := by
  intro d y pc ls st h mc ms Q n' off tgt hd k p e R s m args below meth c A H locs cells slots ad sl C hc hs rp lv ok
  obtain ⟨⟨hd, rfl⟩, ht⟩ := hd
  exact lv_goto C.1 C.2.1 hd ht (k p e R s m args below meth c A H locs cells slots ad sl C hc hs rp lv (ok))
set_option maxHeartbeats 2000000 in
theorem xs_tableOut : xr_tableOut K (xa_W l K Z) := by
  intro d y pc ls st h mc ms Q n' dflt lo hi offs len x tgt hd hx ht k p e R s m args below meth c A H locs cells slots ad sl C hc hs rp lv ok
  obtain ⟨hd, rfl⟩ := hd
  exact lv_tableOut C.1 C.2.1 hd hx ht (k p e R s m args below meth c A H locs cells slots ad sl C hc hs rp lv (xa_oks_t ok))
set_option maxHeartbeats 2000000 in
theorem xs_tableIn : xr_tableIn K (xa_W l K Z) := by
  intro d y pc ls st h mc ms Q n' dflt lo hi offs len x off tgt hd h1 h2 ho ht k p e R s m args below meth c A H locs cells slots ad sl C hc hs rp lv ok
  obtain ⟨hd, rfl⟩ := hd
  exact lv_tableIn C.1 C.2.1 hd h1 h2 ho ht (k p e R s m args below meth c A H locs cells slots ad sl C hc hs rp lv (xa_oks_t ok))
set_option maxHeartbeats 2000000 in
theorem xs_lookup : xr_lookup K (xa_W l K Z) := by
  intro d y pc ls st h mc ms Q n' dflt ps len x off tgt hd hp ho ht k p e R s m args below meth c A H locs cells slots ad sl C hc hs rp lv ok
  obtain ⟨hd, rfl⟩ := hd
  exact lv_lookup C.1 C.2.1 hd hp ho ht (k p e R s m args below meth c A H locs cells slots ad sl C hc hs rp lv (xa_oks_t ok))
set_option maxHeartbeats 2000000 in
theorem xs_less : xr_less (xa_W l K Z) := by
  intro d y pc ls st h mc ms Q ls' hl k p e R s m args below meth c A H locs cells slots ad sl C hc hs rp lv ok
  exact (k p e R s m args below meth c A H locs cells slots ad sl C hc hs rp (xa_lv_le lv hl) (ok))
set_option maxHeartbeats 2000000 in
theorem xs_wide : xr_wide (xa_W l K Z) := by
  intro d y pc ls st h mc ms Q mc' ms' h1 h2 k p e R s m args below meth c A H locs cells slots ad sl C hc hs rp lv ok
  exact xa_post (fun t q => xa_E.w (Nat.add_le_add_left h1 _) (Nat.add_le_add_left h2 _) q) (k p e R s m args below meth c A H locs cells slots ad sl C (Nat.le_trans (Nat.add_le_add_left h1 _) hc) (Nat.le_trans (Nat.add_le_add_left h2 _) hs) rp lv (ok))
set_option maxHeartbeats 2000000 in
theorem xs_get : xr_get K (xa_W l K Z) := by
  intro d y pc ls st h mc ms Q n' i ci k0 a fs v hd hf hh hv k p e R s m args below meth c A H locs cells slots ad sl C hc hs rp lv ok
  obtain ⟨hd, rfl⟩ := hd
  have ha : a < h.1 := ok _ List.mem_cons_self a rfl
  have hv' : (fs.map (xa_tr Z.2.2.1 ad))[k0]? = some (xa_tr Z.2.2.1 ad v) := by rw [List.getElem?_map, hv]; rfl
  have hw := xa_w_get (tys := Z.2.1) (tb := Z.2.2.1) (ad := ad) ha
  rw [hh] at hw
  have hok : xa_ok h.1 v := by
    have := rp.2.2.2 a ha
    rw [hh] at this
    exact this v (List.mem_of_getElem? hv)
  obtain ⟨Cn, T, N, ty0, hk, hkN, hl⟩ := hf
  rcases hl with hl | ⟨host, hl⟩
  · exact va_get (cl := K.2.1) C.1 C.2.1 (C.ts args) hk.2.1 C.o C.k rp.1 a hw hk.1 k0 hkN (C.ts args _ hl) (fun _ q => q) hv' hd (k p e R s m args below meth c A H locs cells slots ad sl C hc hs rp lv (xa_oks_c hok (xa_oks_t ok)))
  · exact va_getN (cl := K.2.1) C.1 C.2.1 (C.ts args) hk.2.1 C.o C.k rp.1 a hw hk.1 k0 hkN (C.ts args _ hl) (fun _ q => q) hv' hd (k p e R s m args below meth c A H locs cells slots ad sl C hc hs rp lv (xa_oks_c hok (xa_oks_t ok)))
set_option maxHeartbeats 2000000 in
theorem xs_put : xr_put K (xa_W l K Z) := by
  intro d y pc ls st h mc ms Q n' i ci k0 ty a fs v hd hf hh hl0 hfit k p e R s m args below meth c A H locs cells slots ad sl C hc hs rp lv ok
  obtain ⟨hd, rfl⟩ := hd
  have ha : a < h.1 := ok _ (List.mem_cons_of_mem _ List.mem_cons_self) a rfl
  have hw := xa_w_get (tys := Z.2.1) (tb := Z.2.2.1) (ad := ad) ha
  rw [hh] at hw
  have hokv : xa_ok h.1 v := xa_oks_h ok
  have hcl := rp.2.2.2
  have ecl : ∀ i, i < h.1 → xa_okE h.1 (xa_up h.2 a (.inr (ci, fs.set k0 v)) i) := fun i hi => by
    by_cases e : i = a
    · rw [e, xa_up_s]
      intro w hw
      rcases List.mem_or_eq_of_mem_set hw with q | q
      · have := hcl a ha
        rw [hh] at this
        exact this w q
      · rw [q]; exact hokv
    · rw [xa_up_n _ _ e]; exact hcl i hi
  have eset : (xa_w Z.2.1 Z.2.2.1 ad h).set a (ad a, .inr (ci, (fs.map (xa_tr Z.2.2.1 ad)).set k0 (xa_tr Z.2.2.1 ad v))) = xa_w Z.2.1 Z.2.2.1 ad (h.1, xa_up h.2 a (.inr (ci, fs.set k0 v))) := by
    rw [← xa_w_set]
    show _ = (xa_w Z.2.1 Z.2.2.1 ad h).set a (ad a, .inr (ci, (fs.set k0 v).map (xa_tr Z.2.2.1 ad)))
    rw [List.map_set]
  obtain ⟨Cn, T, N, ty0, hk, hkN, hty, hfin, hl⟩ := hf
  rcases hl with hl | ⟨host, hl⟩
  · exact va_put (cl := K.2.1) (A := A) C.1 C.2.1 (C.ts args) hk.2.1 ty0 hk.2.2.1 hk.2.2.2 C.o C.k rp.1 rp.2.1 rp.2.2.1 a hw hk.1 k0 hkN (C.ts args _ hl) (fun _ q => q) hfin ((hk.2.2.1 k0 hkN).trans (congrArg some hty)) (hfit _ _).1 (hfit _ _).2 (by rw [List.length_map]; exact hl0) hd (fun H1 locs1 hP1 hD1 hS1 => by
      rw [eset] at hP1 hD1
      exact (k p e R s m args below meth c A H1 locs1 cells slots ad sl C hc hs ⟨hP1, hD1, hS1, ecl⟩ lv (xa_oks_t (xa_oks_t ok))))
  · exact va_putN (cl := K.2.1) (A := A) C.1 C.2.1 (C.ts args) hk.2.1 ty0 hk.2.2.1 hk.2.2.2 C.o C.k rp.1 rp.2.1 rp.2.2.1 a hw hk.1 k0 hkN (C.ts args _ hl) (fun _ q => q) hfin ((hk.2.2.1 k0 hkN).trans (congrArg some hty)) (hfit _ _).1 (hfit _ _).2 (by rw [List.length_map]; exact hl0) hd (fun H1 locs1 hP1 hD1 hS1 => by
      rw [eset] at hP1 hD1
      exact (k p e R s m args below meth c A H1 locs1 cells slots ad sl C hc hs ⟨hP1, hD1, hS1, ecl⟩ lv (xa_oks_t (xa_oks_t ok))))
set_option maxHeartbeats 2000000 in
theorem xs_putF : xr_putF K (xa_W l K Z) := by
  intro d y pc ls st h mc ms Q n' i ci k0 ty a fs v hd hf hin hh hl0 hfit k p e R s m args below meth c A H locs cells slots ad sl C hc hs rp lv ok
  obtain ⟨hd, rfl⟩ := hd
  have ha : a < h.1 := ok _ (List.mem_cons_of_mem _ List.mem_cons_self) a rfl
  have hw := xa_w_get (tys := Z.2.1) (tb := Z.2.2.1) (ad := ad) ha
  rw [hh] at hw
  have hokv : xa_ok h.1 v := xa_oks_h ok
  have hcl := rp.2.2.2
  have ecl : ∀ i, i < h.1 → xa_okE h.1 (xa_up h.2 a (.inr (ci, fs.set k0 v)) i) := fun i hi => by
    by_cases e : i = a
    · rw [e, xa_up_s]
      intro w hw
      rcases List.mem_or_eq_of_mem_set hw with q | q
      · have := hcl a ha
        rw [hh] at this
        exact this w q
      · rw [q]; exact hokv
    · rw [xa_up_n _ _ e]; exact hcl i hi
  have eset : (xa_w Z.2.1 Z.2.2.1 ad h).set a (ad a, .inr (ci, (fs.map (xa_tr Z.2.2.1 ad)).set k0 (xa_tr Z.2.2.1 ad v))) = xa_w Z.2.1 Z.2.2.1 ad (h.1, xa_up h.2 a (.inr (ci, fs.set k0 v))) := by
    rw [← xa_w_set]
    show _ = (xa_w Z.2.1 Z.2.2.1 ad h).set a (ad a, .inr (ci, (fs.set k0 v).map (xa_tr Z.2.2.1 ad)))
    rw [List.map_set]
  obtain ⟨Cn, T, N, ty0, hk, hkN, hty, hfin, hdec, hl⟩ := hf
  exact va_putF (cl := K.2.1) (A := A) C.1 C.2.1 (C.ts args) hk.2.1 ty0 hk.2.2.1 hk.2.2.2 C.o C.k rp.1 rp.2.1 rp.2.2.1 a hw hk.1 k0 hkN (C.ts args _ hl) (fun _ q => q) hfin (C.2.2.2.2.2.1.trans hin) hdec ((hk.2.2.1 k0 hkN).trans (congrArg some hty)) (hfit _ _).1 (hfit _ _).2 (by rw [List.length_map]; exact hl0) hd (fun H1 locs1 hP1 hD1 hS1 => by
      rw [eset] at hP1 hD1
      exact (k p e R s m args below meth c A H1 locs1 cells slots ad sl C hc hs ⟨hP1, hD1, hS1, ecl⟩ lv (xa_oks_t (xa_oks_t ok))))
set_option maxHeartbeats 2000000 in
theorem xs_iaload : xr_iaload K (xa_W l K Z) := by
  intro d y pc ls st h mc ms Q n' a n f i hd hh hi k p e R s m args below meth c A H locs cells slots ad sl C hc hs rp lv ok
  obtain ⟨hd, rfl⟩ := hd
  have ha : a < h.1 := ok _ (List.mem_cons_of_mem _ List.mem_cons_self) a rfl
  have hw := xa_w_get (tys := Z.2.1) (tb := Z.2.2.1) (ad := ad) ha
  rw [hh] at hw
  exact va_iald (cl := K.2.1) C.1 C.2.1 C.k rp.1 a 0 hw (C.ty rfl) hi hd (k p e R s m args below meth c A H locs cells slots ad sl C hc hs rp lv (xa_oks_c (fun _ q => by cases q) (xa_oks_t (xa_oks_t ok))))
set_option maxHeartbeats 2000000 in
theorem xs_baload : xr_baload K (xa_W l K Z) := by
  intro d y pc ls st h mc ms Q n' a n f i hd hh hi k p e R s m args below meth c A H locs cells slots ad sl C hc hs rp lv ok
  obtain ⟨hd, rfl⟩ := hd
  have ha : a < h.1 := ok _ (List.mem_cons_of_mem _ List.mem_cons_self) a rfl
  have hw := xa_w_get (tys := Z.2.1) (tb := Z.2.2.1) (ad := ad) ha
  rw [hh] at hw
  exact va_zald (cl := K.2.1) C.1 C.2.1 C.k rp.1 a 1 hw (C.ty rfl) hi hd (k p e R s m args below meth c A H locs cells slots ad sl C hc hs rp lv (xa_oks_c (fun _ q => by cases q) (xa_oks_t (xa_oks_t ok))))
set_option maxHeartbeats 2000000 in
theorem xs_laload : xr_laload K (xa_W l K Z) := by
  intro d y pc ls st h mc ms Q n' a n f i hd hh hi k p e R s m args below meth c A H locs cells slots ad sl C hc hs rp lv ok
  obtain ⟨hd, rfl⟩ := hd
  have ha : a < h.1 := ok _ (List.mem_cons_of_mem _ List.mem_cons_self) a rfl
  have hw := xa_w_get (tys := Z.2.1) (tb := Z.2.2.1) (ad := ad) ha
  rw [hh] at hw
  exact va_lald (cl := K.2.1) C.1 C.2.1 C.k rp.1 a 2 hw (C.ty rfl) hi hd (k p e R s m args below meth c A H locs cells slots ad sl C hc hs rp lv (xa_oks_c (fun _ q => by cases q) (xa_oks_t (xa_oks_t ok))))
set_option maxHeartbeats 2000000 in
theorem xs_aaload : xr_aaload K (xa_W l K Z) := by
  intro d y pc ls st h mc ms Q n' a n f i b hd hh hi hb k p e R s m args below meth c A H locs cells slots ad sl C hc hs rp lv ok
  obtain ⟨hd, rfl⟩ := hd
  have ha : a < h.1 := ok _ (List.mem_cons_of_mem _ List.mem_cons_self) a rfl
  have hw := xa_w_get (tys := Z.2.1) (tb := Z.2.2.1) (ad := ad) ha
  rw [hh] at hw
  have hok : xa_ok h.1 (.ref b) := by
    have := rp.2.2.2 a ha
    rw [hh] at this
    exact xa_ok_r (this _ _ hb)
  refine va_aldq (cl := K.2.1) C.1 C.2.1 C.k rp.1 a 3 hw (C.ty rfl) hi hd ?_
  show W p l e R s m args below meth c H locs cells slots _ (F0 m (pc + 1) sl (va_rf ((f i.toNatClampNeg).map ad) :: st.map (xa_tr Z.2.2.1 ad)))
  rw [hb]
  exact (k p e R s m args below meth c A H locs cells slots ad sl C hc hs rp lv (xa_oks_c hok (xa_oks_t (xa_oks_t ok))))
set_option maxHeartbeats 2000000 in
theorem xs_iastore : xr_iastore K (xa_W l K Z) := by
  intro d y pc ls st h mc ms Q n' a n f i x hd hh hi k p e R s m args below meth c A H locs cells slots ad sl C hc hs rp lv ok
  obtain ⟨hd, rfl⟩ := hd
  have ha : a < h.1 := ok _ (List.mem_cons_of_mem _ (List.mem_cons_of_mem _ List.mem_cons_self)) a rfl
  have hw := xa_w_get (tys := Z.2.1) (tb := Z.2.2.1) (ad := ad) ha
  rw [hh] at hw
  have hcl := rp.2.2.2
  have ecl : ∀ j, j < h.1 → xa_okE h.1 (xa_up h.2 a (.inl (0, n, .inl (upd f i.toNatClampNeg x))) j) := fun j hj => by
    by_cases e : j = a
    · rw [e, xa_up_s]; trivial
    · rw [xa_up_n _ _ e]; exact hcl j hj
  exact va_iast (cl := K.2.1) (A := A) C.1 C.2.1 C.k rp.1 rp.2.1 rp.2.2.1 a 0 hw (C.ty rfl) hi hd (fun H1 locs1 hP1 hD1 hS1 => by
    have eset : (xa_w Z.2.1 Z.2.2.1 ad h).set a (ad a, .inl ((Z.2.1.getD 0 (0, .int)).1, n, .inl (upd f i.toNatClampNeg x))) = xa_w Z.2.1 Z.2.2.1 ad (h.1, xa_up h.2 a (.inl (0, n, .inl (upd f i.toNatClampNeg x)))) := by
      rw [← xa_w_set]; rfl
    rw [eset] at hP1 hD1
    exact (k p e R s m args below meth c A H1 locs1 cells slots ad sl C hc hs ⟨hP1, hD1, hS1, ecl⟩ lv (xa_oks_t (xa_oks_t (xa_oks_t ok)))))
set_option maxHeartbeats 2000000 in
theorem xs_bastore : xr_bastore K (xa_W l K Z) := by
  intro d y pc ls st h mc ms Q n' a n f i x hd hh hi k p e R s m args below meth c A H locs cells slots ad sl C hc hs rp lv ok
  obtain ⟨hd, rfl⟩ := hd
  have ha : a < h.1 := ok _ (List.mem_cons_of_mem _ (List.mem_cons_of_mem _ List.mem_cons_self)) a rfl
  have hw := xa_w_get (tys := Z.2.1) (tb := Z.2.2.1) (ad := ad) ha
  rw [hh] at hw
  have hcl := rp.2.2.2
  have ecl : ∀ j, j < h.1 → xa_okE h.1 (xa_up h.2 a (.inl (1, n, .inl (upd f i.toNatClampNeg (vp_nar .boolean x)))) j) := fun j hj => by
    by_cases e : j = a
    · rw [e, xa_up_s]; trivial
    · rw [xa_up_n _ _ e]; exact hcl j hj
  exact va_zast (cl := K.2.1) (A := A) C.1 C.2.1 C.k rp.1 rp.2.1 rp.2.2.1 a 1 hw (C.ty rfl) hi hd (fun H1 locs1 hP1 hD1 hS1 => by
    have eset : (xa_w Z.2.1 Z.2.2.1 ad h).set a (ad a, .inl ((Z.2.1.getD 1 (0, .int)).1, n, .inl (upd f i.toNatClampNeg (vp_nar .boolean x)))) = xa_w Z.2.1 Z.2.2.1 ad (h.1, xa_up h.2 a (.inl (1, n, .inl (upd f i.toNatClampNeg (vp_nar .boolean x))))) := by
      rw [← xa_w_set]; rfl
    rw [eset] at hP1 hD1
    exact (k p e R s m args below meth c A H1 locs1 cells slots ad sl C hc hs ⟨hP1, hD1, hS1, ecl⟩ lv (xa_oks_t (xa_oks_t (xa_oks_t ok)))))
set_option maxHeartbeats 2000000 in
theorem xs_lastore : xr_lastore K (xa_W l K Z) := by
  intro d y pc ls st h mc ms Q n' a n f i x hd hh hi k p e R s m args below meth c A H locs cells slots ad sl C hc hs rp lv ok
  obtain ⟨hd, rfl⟩ := hd
  have ha : a < h.1 := ok _ (List.mem_cons_of_mem _ (List.mem_cons_of_mem _ List.mem_cons_self)) a rfl
  have hw := xa_w_get (tys := Z.2.1) (tb := Z.2.2.1) (ad := ad) ha
  rw [hh] at hw
  have hcl := rp.2.2.2
  have ecl : ∀ j, j < h.1 → xa_okE h.1 (xa_up h.2 a (.inl (2, n, .inr (.inl (vp_updL f i.toNatClampNeg x)))) j) := fun j hj => by
    by_cases e : j = a
    · rw [e, xa_up_s]; trivial
    · rw [xa_up_n _ _ e]; exact hcl j hj
  exact va_last (cl := K.2.1) (A := A) C.1 C.2.1 C.k rp.1 rp.2.1 rp.2.2.1 a 2 hw (C.ty rfl) hi hd (fun H1 locs1 hP1 hD1 hS1 => by
    have eset : (xa_w Z.2.1 Z.2.2.1 ad h).set a (ad a, .inl ((Z.2.1.getD 2 (0, .int)).1, n, .inr (.inl (vp_updL f i.toNatClampNeg x)))) = xa_w Z.2.1 Z.2.2.1 ad (h.1, xa_up h.2 a (.inl (2, n, .inr (.inl (vp_updL f i.toNatClampNeg x))))) := by
      rw [← xa_w_set]; rfl
    rw [eset] at hP1 hD1
    exact (k p e R s m args below meth c A H1 locs1 cells slots ad sl C hc hs ⟨hP1, hD1, hS1, ecl⟩ lv (xa_oks_t (xa_oks_t (xa_oks_t ok)))))
set_option maxHeartbeats 2000000 in
theorem xs_aastore : xr_aastore K (xa_W l K Z) := by
  intro d y pc ls st h mc ms Q n' a n f i b ci fs hd hh hi hb hg k p e R s m args below meth c A H locs cells slots ad sl C hc hs rp lv ok
  obtain ⟨hd, rfl⟩ := hd
  have hb1 : b < h.1 := ok _ List.mem_cons_self b rfl
  have ha : a < h.1 := ok _ (List.mem_cons_of_mem _ (List.mem_cons_of_mem _ List.mem_cons_self)) a rfl
  have hw := xa_w_get (tys := Z.2.1) (tb := Z.2.2.1) (ad := ad) ha
  rw [hh] at hw
  have hwb := xa_w_get (tys := Z.2.1) (tb := Z.2.2.1) (ad := ad) hb1
  rw [hb] at hwb
  have hcl := rp.2.2.2
  have ecl : ∀ j, j < h.1 → xa_okE h.1 (xa_up h.2 a (.inl (3, n, .inr (.inr (.inr (.inr (va_up f i.toNatClampNeg (some b))))))) j) := fun j hj => by
    by_cases e : j = a
    · rw [e, xa_up_s]
      intro j2 a2 q
      have h9 := hcl a ha
      rw [hh] at h9
      by_cases e2 : j2 = i.toNatClampNeg
      · rw [e2, va_up_self] at q
        cases q
        exact hb1
      · rw [va_up_ne _ _ e2] at q
        exact h9 _ _ q
    · rw [xa_up_n _ _ e]; exact hcl j hj
  obtain ⟨T, N, hg⟩ := hg
  exact va_astq (cl := K.2.1) (A := A) (r := (K.2.2.2.2.2, T, N)) C.1 C.2.1 C.k rp.1 rp.2.1 rp.2.2.1 a 3 b ci hw (C.ty rfl) hwb hg hi hd (fun H1 locs1 hP1 hD1 hS1 => by
    have efun : va_up (fun j => (f j).map ad) i.toNatClampNeg (some (ad b)) = fun j => (va_up f i.toNatClampNeg (some b) j).map ad := by
      funext j
      by_cases e : j = i.toNatClampNeg
      · rw [e, va_up_self, va_up_self]; rfl
      · rw [va_up_ne _ _ e, va_up_ne _ _ e]
    have eset : (xa_w Z.2.1 Z.2.2.1 ad h).set a (ad a, .inl ((Z.2.1.getD 3 (0, .int)).1, n, .inr (.inr (.inr (.inr (va_up (fun j => (f j).map ad) i.toNatClampNeg (some (ad b)))))))) = xa_w Z.2.1 Z.2.2.1 ad (h.1, xa_up h.2 a (.inl (3, n, .inr (.inr (.inr (.inr (va_up f i.toNatClampNeg (some b)))))))) := by
      rw [← xa_w_set, efun]; rfl
    rw [eset] at hP1 hD1
    exact (k p e R s m args below meth c A H1 locs1 cells slots ad sl C hc hs ⟨hP1, hD1, hS1, ecl⟩ lv (xa_oks_t (xa_oks_t (xa_oks_t ok)))))
set_option maxHeartbeats 2000000 in
theorem xs_tload : xr_tload K Z.2.2.2 (xa_W l K Z) := by
  intro d y pc ls st h mc ms Q n' j i hd hj hi k p e R s m args below meth c A H locs cells slots ad sl C hc hs rp lv ok
  obtain ⟨hd, rfl⟩ := hd
  exact va_ti C.1 C.2.1 (C.g.2.2.2.1 j hj) rp.2.2.1 hi rfl hd (k p e R s m args below meth c A H locs cells slots ad sl C hc hs rp lv (xa_oks_i (xa_oks_t (xa_oks_t ok))))
set_option maxHeartbeats 2000000 in
theorem xs_tlen : xr_tlen K Z.2.2.2 (xa_W l K Z) := by
  intro d y pc ls st h mc ms Q n' j v hd hj hv k p e R s m args below meth c A H locs cells slots ad sl C hc hs rp lv ok
  obtain ⟨hd, rfl⟩ := hd
  exact va_tlen C.1 C.2.1 (C.g.2.2.2.1 j hj) rp.2.2.1 hv hd (k p e R s m args below meth c A H locs cells slots ad sl C hc hs rp lv (xa_oks_i (xa_oks_t ok)))
set_option maxHeartbeats 2000000 in
theorem xs_gets : xr_gets K (xa_W l K Z) := by
  intro d y pc ls st h mc ms Q n' i hd hl k p e R s m args below meth c A H locs cells slots ad sl C hc hs rp lv ok
  obtain ⟨hd, rfl⟩ := hd
  rcases hl with hl | ⟨host, hl⟩
  · exact va_gets C.1 C.2.1 C.g.2.2.2.2 rp.2.2.1 C.o (C.ts args _ hl) (fun _ q => q) hd (k p e R s m args below meth c A H locs cells slots ad sl C hc hs rp lv (xa_oks_c xa_ok_t ok))
  · exact va_getsN C.1 C.2.1 C.g.2.2.2.2 rp.2.2.1 C.o (C.ts args _ hl) (fun _ q => q) hd (k p e R s m args below meth c A H locs cells slots ad sl C hc hs rp lv (xa_oks_c xa_ok_t ok))
set_option maxHeartbeats 2000000 in
theorem xs_iret : xr_iret K (xa_W l K Z) := by
  intro d y pc ls st h mc ms Q n' v ty hd hr hn hq p e R s m args below meth c A H locs cells slots ad sl C hc hs rp lv ok
  obtain ⟨hd, rfl⟩ := hd
  exact xa_post (xa_end C hc hs rp (v := some (.int v)) hq (fun w e => by cases e; exact xa_ok_i)) (W.zret (Qc := fun _ _ o t => o = .returned (some (.int v)) ∧ t.heap = H) (free := A) C.1 C.2.1 (C.2.2.2.1.trans hr) hn (fun t ht _ => ⟨rfl, ht⟩) rp.2.2.1.2.2 hd C.l)
set_option maxHeartbeats 2000000 in
theorem xs_vret : xr_vret K (xa_W l K Z) := by
  intro d y pc ls st h mc ms Q n' hd hr hq p e R s m args below meth c A H locs cells slots ad sl C hc hs rp lv ok
  obtain ⟨hd, rfl⟩ := hd
  exact xa_post (xa_end C hc hs rp (v := none) hq (fun w e => by cases e)) (W.vret (Qc := fun _ _ o t => o = .returned none ∧ t.heap = H) (free := A) C.1 C.2.1 (C.2.2.2.1.trans hr) (fun t ht _ => ⟨rfl, ht⟩) rp.2.2.1.2.2 hd C.l)
set_option maxHeartbeats 2000000 in
theorem xs_aret : xr_aret K (xa_W l K Z) := by
  intro d y pc ls st h mc ms Q n' a ty hd hr hty hq p e R s m args below meth c A H locs cells slots ad sl C hc hs rp lv ok
  obtain ⟨hd, rfl⟩ := hd
  exact xa_post (xa_end C hc hs rp (v := some (.ref a)) hq (fun w e => by cases e; exact xa_oks_h ok)) (W.aret (Qc := fun _ _ o t => o = .returned (some (.ref (ad a))) ∧ t.heap = H) (free := A) C.1 C.2.1 (C.2.2.2.1.trans hr) hty (Or.inr ⟨_, rfl⟩) (fun t ht _ => ⟨rfl, ht⟩) rp.2.2.1.2.2 hd C.l)
set_option maxHeartbeats 2000000 in
theorem xs_oinit : xr_oinit K (xa_W l K Z) := by
  intro d y pc ls st h mc ms Q n' i a hd h1 h2 h3 hw k p e R s m args below meth c A H locs cells slots ad sl C hc hs rp lv ok
  obtain ⟨hd, rfl⟩ := hd
  refine W.objInit C.1 C.2.1 C.o (C.ts args _ h1) (C.ts args _ h2) (C.ts args _ h3) rfl (lv.1.1.trans C.2.2.1.symm) rfl hd (by have := C.rm.1; omega) (by have := C.rm.2; rw [xa_sum]; simp only [JFrame.monitorRoom]; omega) ?_
  exact (k p e R s m args below meth c A H locs cells slots ad sl C hc hs rp lv (xa_oks_t ok))
set_option maxHeartbeats 2000000 in
theorem xs_new : xr_new K (xa_W l K Z) := by
  intro d y pc ls st h mc ms Q n' i ci N fs hd hn k p e R s m args below meth c A H locs cells slots ad sl C hc hs rp lv ok
  obtain ⟨hd, rfl⟩ := hd
  obtain ⟨Cn, T, ty0, hk, hcl, hinst, hini, hfs, hnr⟩ := hn
  refine xa_post (fun t q => q) (va_new (cl := K.2.1) (A := A) C.1 C.2.1 (C.ts args) hk.2.1 ty0 hk.2.2.1 C.o (C.ts args _ hcl) (C.ts args _ hinst) (C.ts args _ hini) C.k rp.1 rp.2.1 rp.2.2.1 C.a hk.1 hfs (by omega) (by omega) hd (fun q H1 hP1 hD1 hS1 => ?_))
  have e1 : fs.map (xa_tr Z.2.2.1 (xa_up ad h.1 q)) = fs := xa_norefs hnr
  have ew := xa_w_push (tys := Z.2.1) (tb := Z.2.2.1) (ad := ad) (h := h) (q := q) (e := .inr (ci, fs)) rp.2.2.2
  rw [show xa_trE Z.2.1 Z.2.2.1 (xa_up ad h.1 q) (.inr (ci, fs)) = .inr (ci, fs) from congrArg (fun z => (Sum.inr (ci, z) : va_E)) e1] at ew
  rw [ew] at hP1 hD1
  have hag : ∀ j, j < h.1 → xa_up ad h.1 q j = ad j := fun j hj => xa_up_n ad q (Nat.ne_of_lt hj)
  refine xa_post (fun t z => xa_E.m (ad := ad) (n := h.1) (Nat.le_succ _) hag (xa_E.c (mc' := cells + 1 + mc) (ms' := slots + N + ms) (by omega) (by omega) z)) ?_
  have kk := k p e R s m args below meth c A H1 locs (cells + 1) (slots + N) (xa_up ad h.1 q) sl C (by omega) (by omega) ⟨hP1, hD1, hS1, xa_okpush rp.2.2.2 (fun v hv => xa_ok_of_norefs hnr v hv)⟩ (xa_lv_m lv (Nat.le_succ _) hag) (xa_oks_c (xa_ok_r (Nat.lt_succ_self _)) (xa_oks_m (Nat.le_succ _) ok))
  have e2 : (Value.ref h.1 :: st).map (xa_tr Z.2.2.1 (xa_up ad h.1 q)) = .ref q :: st.map (xa_tr Z.2.2.1 ad) := by
    show Value.ref (xa_up ad h.1 q h.1) :: st.map (xa_tr Z.2.2.1 (xa_up ad h.1 q)) = _
    rw [xa_up_s, xa_trs_ag hag ok]
  rw [e2] at kk
  exact kk
set_option maxHeartbeats 2000000 in
theorem xs_newI : xr_newI K (xa_W l K Z) := by
  intro d y pc ls st h mc ms Q n' n N hd hw hn0 hN hb k p e R s m args below meth c A H locs cells slots ad sl C hc hs rp lv ok
  obtain ⟨hd, rfl⟩ := hd
  have hty := C.ty (t := 0) rfl
  refine va_newaK C.1 C.2.1 (atype := .int) (C.ts args _ hw) rfl hd rfl hn0 hN hb (by omega) (by omega) rfl (fun H1 cA e1 z1 o1 hAr hNm => ?_)
  have ecA : cA = (Z.2.1.getD 0 (0, .int)).1 := Option.some.inj (hNm.symm.trans (C.k.2 0 _ hty).2)
  have hk9 : ∀ (j : Nat) (x : Nat × va_E), (xa_w Z.2.1 Z.2.2.1 ad h)[j]? = some x → H1[x.1]? = H[x.1]? := fun j x hx => o1 x.1 ((rp.1 j x hx).lt)
  have hP1 : va_P Z.1 K.2.1 (xa_w Z.2.1 Z.2.2.1 ad h ++ [(H.size, .inl (cA, N, .inl (fun _ => 0)))]) H1 := (rp.1.kept hk9).app (fun j x hx => by
    have hz : j < 1 := (List.getElem?_eq_some_iff.mp hx).1
    rw [show j = 0 by omega] at hx
    cases hx
    show H1[H.size]? = some (vp_cell cA (N, .inl (fun _ => 0)))
    rw [e1]; rfl)
  have hD1 : va_D A (xa_w Z.2.1 Z.2.2.1 ad h ++ [(H.size, .inl (cA, N, .inl (fun _ => 0)))]) := rp.2.1.push rp.1 rfl (C.a _ rp.2.2.1.1)
  have hS1 : va_S A s.heap H1 locs := ⟨Nat.le_trans rp.2.2.1.1 (by omega), fun x h1 h2 => (o1 x (Nat.lt_of_lt_of_le h1 rp.2.2.1.1)).trans (rp.2.2.1.2.1 x h1 h2), rp.2.2.1.2.2⟩
  have ew := xa_w_push (tys := Z.2.1) (tb := Z.2.2.1) (ad := ad) (h := h) (q := H.size) (e := .inl (0, N, .inl (fun _ => 0))) rp.2.2.2
  rw [show xa_trE Z.2.1 Z.2.2.1 (xa_up ad h.1 H.size) (.inl (0, N, .inl (fun _ => 0))) = .inl (cA, N, .inl (fun _ => 0)) by rw [ecA]; rfl] at ew
  rw [ew] at hP1 hD1
  have hag : ∀ j, j < h.1 → xa_up ad h.1 H.size j = ad j := fun j hj => xa_up_n ad H.size (Nat.ne_of_lt hj)
  refine xa_post (fun t z => xa_E.m (ad := ad) (n := h.1) (Nat.le_succ _) hag (xa_E.c (mc' := cells + 1 + mc) (ms' := slots + N + ms) (by omega) (by omega) z)) ?_
  have kk := k p e R s m args below meth c A H1 locs (cells + 1) (slots + N) (xa_up ad h.1 H.size) sl C (by omega) (by omega) ⟨hP1, hD1, hS1, xa_okpushA rp.2.2.2 trivial⟩ (xa_lv_m lv (Nat.le_succ _) hag) (xa_oks_c (xa_ok_r (Nat.lt_succ_self _)) (xa_oks_m (Nat.le_succ _) (xa_oks_t ok)))
  have e2 : (Value.ref h.1 :: st).map (xa_tr Z.2.2.1 (xa_up ad h.1 H.size)) = .ref H.size :: st.map (xa_tr Z.2.2.1 ad) := by
    show Value.ref (xa_up ad h.1 H.size h.1) :: st.map (xa_tr Z.2.2.1 (xa_up ad h.1 H.size)) = _
    rw [xa_up_s, xa_trs_ag hag (xa_oks_t ok)]
  rw [e2] at kk
  exact kk
set_option maxHeartbeats 2000000 in
theorem xs_newZ : xr_newZ K (xa_W l K Z) := by
  intro d y pc ls st h mc ms Q n' n N hd hw hn0 hN hb k p e R s m args below meth c A H locs cells slots ad sl C hc hs rp lv ok
  obtain ⟨hd, rfl⟩ := hd
  have hty := C.ty (t := 1) rfl
  refine va_newaK C.1 C.2.1 (atype := .boolean) (C.ts args _ hw) rfl hd rfl hn0 hN hb (by omega) (by omega) rfl (fun H1 cA e1 z1 o1 hAr hNm => ?_)
  have ecA : cA = (Z.2.1.getD 1 (0, .int)).1 := Option.some.inj (hNm.symm.trans (C.k.2 1 _ hty).2)
  have hk9 : ∀ (j : Nat) (x : Nat × va_E), (xa_w Z.2.1 Z.2.2.1 ad h)[j]? = some x → H1[x.1]? = H[x.1]? := fun j x hx => o1 x.1 ((rp.1 j x hx).lt)
  have hP1 : va_P Z.1 K.2.1 (xa_w Z.2.1 Z.2.2.1 ad h ++ [(H.size, .inl (cA, N, .inl (fun _ => 0)))]) H1 := (rp.1.kept hk9).app (fun j x hx => by
    have hz : j < 1 := (List.getElem?_eq_some_iff.mp hx).1
    rw [show j = 0 by omega] at hx
    cases hx
    show H1[H.size]? = some (vp_cell cA (N, .inl (fun _ => 0)))
    rw [e1]; rfl)
  have hD1 : va_D A (xa_w Z.2.1 Z.2.2.1 ad h ++ [(H.size, .inl (cA, N, .inl (fun _ => 0)))]) := rp.2.1.push rp.1 rfl (C.a _ rp.2.2.1.1)
  have hS1 : va_S A s.heap H1 locs := ⟨Nat.le_trans rp.2.2.1.1 (by omega), fun x h1 h2 => (o1 x (Nat.lt_of_lt_of_le h1 rp.2.2.1.1)).trans (rp.2.2.1.2.1 x h1 h2), rp.2.2.1.2.2⟩
  have ew := xa_w_push (tys := Z.2.1) (tb := Z.2.2.1) (ad := ad) (h := h) (q := H.size) (e := .inl (1, N, .inl (fun _ => 0))) rp.2.2.2
  rw [show xa_trE Z.2.1 Z.2.2.1 (xa_up ad h.1 H.size) (.inl (1, N, .inl (fun _ => 0))) = .inl (cA, N, .inl (fun _ => 0)) by rw [ecA]; rfl] at ew
  rw [ew] at hP1 hD1
  have hag : ∀ j, j < h.1 → xa_up ad h.1 H.size j = ad j := fun j hj => xa_up_n ad H.size (Nat.ne_of_lt hj)
  refine xa_post (fun t z => xa_E.m (ad := ad) (n := h.1) (Nat.le_succ _) hag (xa_E.c (mc' := cells + 1 + mc) (ms' := slots + N + ms) (by omega) (by omega) z)) ?_
  have kk := k p e R s m args below meth c A H1 locs (cells + 1) (slots + N) (xa_up ad h.1 H.size) sl C (by omega) (by omega) ⟨hP1, hD1, hS1, xa_okpushA rp.2.2.2 trivial⟩ (xa_lv_m lv (Nat.le_succ _) hag) (xa_oks_c (xa_ok_r (Nat.lt_succ_self _)) (xa_oks_m (Nat.le_succ _) (xa_oks_t ok)))
  have e2 : (Value.ref h.1 :: st).map (xa_tr Z.2.2.1 (xa_up ad h.1 H.size)) = .ref H.size :: st.map (xa_tr Z.2.2.1 ad) := by
    show Value.ref (xa_up ad h.1 H.size h.1) :: st.map (xa_tr Z.2.2.1 (xa_up ad h.1 H.size)) = _
    rw [xa_up_s, xa_trs_ag hag (xa_oks_t ok)]
  rw [e2] at kk
  exact kk
set_option maxHeartbeats 2000000 in
theorem xs_newL : xr_newL K (xa_W l K Z) := by
  intro d y pc ls st h mc ms Q n' n N hd hw hn0 hN hb k p e R s m args below meth c A H locs cells slots ad sl C hc hs rp lv ok
  obtain ⟨hd, rfl⟩ := hd
  have hty := C.ty (t := 2) rfl
  refine va_newaK C.1 C.2.1 (atype := .long) (C.ts args _ hw) rfl hd rfl hn0 hN hb (by omega) (by omega) rfl (fun H1 cA e1 z1 o1 hAr hNm => ?_)
  have ecA : cA = (Z.2.1.getD 2 (0, .int)).1 := Option.some.inj (hNm.symm.trans (C.k.2 2 _ hty).2)
  have hk9 : ∀ (j : Nat) (x : Nat × va_E), (xa_w Z.2.1 Z.2.2.1 ad h)[j]? = some x → H1[x.1]? = H[x.1]? := fun j x hx => o1 x.1 ((rp.1 j x hx).lt)
  have hP1 : va_P Z.1 K.2.1 (xa_w Z.2.1 Z.2.2.1 ad h ++ [(H.size, .inl (cA, N, .inr (.inl (fun _ => 0))))]) H1 := (rp.1.kept hk9).app (fun j x hx => by
    have hz : j < 1 := (List.getElem?_eq_some_iff.mp hx).1
    rw [show j = 0 by omega] at hx
    cases hx
    show H1[H.size]? = some (vp_cell cA (N, .inr (.inl (fun _ => 0))))
    rw [e1]; rfl)
  have hD1 : va_D A (xa_w Z.2.1 Z.2.2.1 ad h ++ [(H.size, .inl (cA, N, .inr (.inl (fun _ => 0))))]) := rp.2.1.push rp.1 rfl (C.a _ rp.2.2.1.1)
  have hS1 : va_S A s.heap H1 locs := ⟨Nat.le_trans rp.2.2.1.1 (by omega), fun x h1 h2 => (o1 x (Nat.lt_of_lt_of_le h1 rp.2.2.1.1)).trans (rp.2.2.1.2.1 x h1 h2), rp.2.2.1.2.2⟩
  have ew := xa_w_push (tys := Z.2.1) (tb := Z.2.2.1) (ad := ad) (h := h) (q := H.size) (e := .inl (2, N, .inr (.inl (fun _ => 0)))) rp.2.2.2
  rw [show xa_trE Z.2.1 Z.2.2.1 (xa_up ad h.1 H.size) (.inl (2, N, .inr (.inl (fun _ => 0)))) = .inl (cA, N, .inr (.inl (fun _ => 0))) by rw [ecA]; rfl] at ew
  rw [ew] at hP1 hD1
  have hag : ∀ j, j < h.1 → xa_up ad h.1 H.size j = ad j := fun j hj => xa_up_n ad H.size (Nat.ne_of_lt hj)
  refine xa_post (fun t z => xa_E.m (ad := ad) (n := h.1) (Nat.le_succ _) hag (xa_E.c (mc' := cells + 1 + mc) (ms' := slots + N + ms) (by omega) (by omega) z)) ?_
  have kk := k p e R s m args below meth c A H1 locs (cells + 1) (slots + N) (xa_up ad h.1 H.size) sl C (by omega) (by omega) ⟨hP1, hD1, hS1, xa_okpushA rp.2.2.2 trivial⟩ (xa_lv_m lv (Nat.le_succ _) hag) (xa_oks_c (xa_ok_r (Nat.lt_succ_self _)) (xa_oks_m (Nat.le_succ _) (xa_oks_t ok)))
  have e2 : (Value.ref h.1 :: st).map (xa_tr Z.2.2.1 (xa_up ad h.1 H.size)) = .ref H.size :: st.map (xa_tr Z.2.2.1 ad) := by
    show Value.ref (xa_up ad h.1 H.size h.1) :: st.map (xa_tr Z.2.2.1 (xa_up ad h.1 H.size)) = _
    rw [xa_up_s, xa_trs_ag hag (xa_oks_t ok)]
  rw [e2] at kk
  exact kk
set_option maxHeartbeats 2000000 in
theorem xs_newQ : xr_newQ K (xa_W l K Z) := by
  intro d y pc ls st h mc ms Q n' i n N hd hw hw2 hn0 hN hb k p e R s m args below meth c A H locs cells slots ad sl C hc hs rp lv ok
  obtain ⟨hd, rfl⟩ := hd
  have hty := C.ty (t := 3) rfl
  refine va_newq (cl := K.2.1) (A := A) C.1 C.2.1 C.o (C.ts args _ hw) (va_AO.of (C.ts args _ hw2)) C.k rp.1 rp.2.1 rp.2.2.1 C.a hn0 hN hb (by omega) (by omega) hd (fun q cA H1 hK1 hP1 hD1 hS1 => ?_)
  have ecA : cA = (Z.2.1.getD 3 (0, .int)).1 := by
    have h1 := (hK1.2 Z.2.1.length (cA, .object K.2.2.2.2.2) (by simp)).2
    have h2 := (C.k.2 3 _ hty).2
    obtain ⟨_, _, _, _, _, h3⟩ := h1
    obtain ⟨_, _, _, _, _, h4⟩ := h2
    exact Option.some.inj (h3.symm.trans h4)
  have ew := xa_w_push (tys := Z.2.1) (tb := Z.2.2.1) (ad := ad) (h := h) (q := q) (e := .inl (3, N, .inr (.inr (.inr (.inr (fun _ => none)))))) rp.2.2.2
  rw [show xa_trE Z.2.1 Z.2.2.1 (xa_up ad h.1 q) (.inl (3, N, .inr (.inr (.inr (.inr (fun _ => none)))))) = .inl (cA, N, .inr (.inr (.inr (.inr (fun _ => none))))) by rw [ecA]; rfl] at ew
  rw [ew] at hP1 hD1
  have hag : ∀ j, j < h.1 → xa_up ad h.1 q j = ad j := fun j hj => xa_up_n ad q (Nat.ne_of_lt hj)
  refine xa_post (fun t z => xa_E.m (ad := ad) (n := h.1) (Nat.le_succ _) hag (xa_E.c (mc' := cells + 1 + mc) (ms' := slots + N + ms) (by omega) (by omega) z)) ?_
  have kk := k p e R s m args below meth c A H1 locs (cells + 1) (slots + N) (xa_up ad h.1 q) sl C (by omega) (by omega) ⟨hP1, hD1, hS1, xa_okpushA rp.2.2.2 (fun j a z => by cases z)⟩ (xa_lv_m lv (Nat.le_succ _) hag) (xa_oks_c (xa_ok_r (Nat.lt_succ_self _)) (xa_oks_m (Nat.le_succ _) (xa_oks_t ok)))
  have e2 : (Value.ref h.1 :: st).map (xa_tr Z.2.2.1 (xa_up ad h.1 q)) = .ref q :: st.map (xa_tr Z.2.2.1 ad) := by
    show Value.ref (xa_up ad h.1 q h.1) :: st.map (xa_tr Z.2.2.1 (xa_up ad h.1 q)) = _
    rw [xa_up_s, xa_trs_ag hag (xa_oks_t ok)]
  rw [e2] at kk
  exact kk
set_option maxHeartbeats 2000000 in
theorem xs_callV : xr_callV K (xa_W l K Z) := by
  intro d y pc ls st h mc ms Q n' i y' ci fs a As mc' ms' P hd hl hh hca hw hP k1 k2 p e R s m args below meth c A H locs cells slots ad sl C hc hs rp lv ok
  obtain ⟨hd, rfl⟩ := hd
  exact xa_sV hd hl hh hca hw hP k1 k2 C hc hs rp lv ok
set_option maxHeartbeats 2000000 in
theorem xs_callS : xr_callS K (xa_W l K Z) := by
  intro d y pc ls st h mc ms Q n' i y' As mc' ms' P hd hl hca hw hP k1 k2 p e R s m args below meth c A H locs cells slots ad sl C hc hs rp lv ok
  obtain ⟨hd, rfl⟩ := hd
  exact xa_sS hd hl hca hw hP k1 k2 C hc hs rp lv ok
set_option maxHeartbeats 2000000 in
theorem xs_callI : xr_callI K (xa_W l K Z) := by
  intro d y pc ls st h mc ms Q n' i y' a As mc' ms' P hd hl hca hw hP k1 k2 p e R s m args below meth c A H locs cells slots ad sl C hc hs rp lv ok
  obtain ⟨hd, rfl⟩ := hd
  exact xa_sI hd hl hca hw hP k1 k2 C hc hs rp lv ok
set_option maxHeartbeats 2000000 in
theorem xs_mmax : xr_mmax K (xa_W l K Z) := by
  intro d y pc ls st h mc ms Q n' i x z hd h1 h2 h3 h4 hw k p e R s m args below meth c A H locs cells slots ad sl C hc hs rp lv ok
  obtain ⟨hd, rfl⟩ := hd
  refine va_mmax C.1 C.2.1 (C.2.2.1.trans lv.1.1.symm) C.o (C.ts args _ h1) (C.ts args _ h2) (C.ts args _ h3) (C.ts args _ h4) (by have := C.rm.1; omega) (by have := C.rm.2; rw [xa_sum]; omega) (by omega) (by omega) hd ?_
  exact (k p e R s m args below meth c A H locs cells slots ad sl C hc hs rp lv (xa_oks_i (xa_oks_t (xa_oks_t ok))))
theorem xa_sound : xa_cl K Z.2.2.2 (xa_W l K Z) := ⟨xs_iconst, xs_bipush, xs_sipush, xs_ldc, xs_iload_n, xs_iload, xs_aload_n, xs_aload_nT, xs_aload, xs_aloadT, xs_istore_n, xs_istore, xs_astore_n, xs_astore, xs_iinc, xs_iadd, xs_isub, xs_imul, xs_iand, xs_ior, xs_ixor, xs_ishl, xs_ishr, xs_iushr, xs_idiv, xs_irem, xs_i2l, xs_lcmp, xs_dup, xs_pop, xs_dup2, xs_dup_x1, xs_if_eq, xs_if_ne, xs_if_lt, xs_if_ge, xs_if_gt, xs_if_le, xs_icmp_eq, xs_icmp_ne, xs_icmp_lt, xs_icmp_ge, xs_icmp_gt, xs_icmp_le, xs_goto, xs_tableOut, xs_tableIn, xs_lookup, xs_less, xs_wide, xs_get, xs_put, xs_putF, xs_iaload, xs_baload, xs_laload, xs_aaload, xs_iastore, xs_bastore, xs_lastore, xs_aastore, xs_tload, xs_tlen, xs_gets, xs_iret, xs_vret, xs_aret, xs_oinit, xs_new, xs_newI, xs_newZ, xs_newL, xs_newQ, xs_callV, xs_callS, xs_callI, xs_mmax⟩
end XSound
end
section
/-! A heap whose shape is fixed: its numbers alone change. -/
section XWorld
/-- what lies at an address: an object of the class ci, whose field is a number (none) or leads to a fixed cell; or an array: its type's number, its length -/
abbrev xl_S : Type := (Nat × List (Option Nat)) ⊕ (Nat × Nat)
/-- the numbers: fields (by address and place), arrays of numbers (by address and place), arrays of references, the law's own array -/
abbrev xl_V : Type := (Nat → Nat → Int32) × (Nat → Nat → Int32) × (Nat → Nat → Option Nat) × (Nat → Int64)
def xl_f (I : Nat → Int32) : List (Option Nat) → Nat → List Value
  | [], _ => []
  | none :: r, k => .int (I k) :: xl_f I r (k + 1)
  | some b :: r, k => .ref b :: xl_f I r (k + 1)
def xl_c (lay : List xl_S) (V : xl_V) (a : Nat) : va_E := match lay[a]? with
  | some (.inl (ci, fl)) => .inr (ci, xl_f (V.1 a) fl 0)
  | some (.inr (0, n)) => .inl (0, n, .inl (V.2.1 a))
  | some (.inr (1, n)) => .inl (1, n, .inl (V.2.1 a))
  | some (.inr (2, n)) => .inl (2, n, .inr (.inl V.2.2.2))
  | some (.inr (_, n)) => .inl (3, n, .inr (.inr (.inr (.inr (V.2.2.1 a)))))
  | none => .inr (0, [])
def xl_H (lay : List xl_S) (V : xl_V) : xa_H := (lay.length, xl_c lay V)
/-- a field set, an array's place set -/
def xl_i (V : xl_V) (a k : Nat) (x : Int32) : xl_V := (fun b j => if b = a ∧ j = k then x else V.1 b j, V.2)
def xl_a (V : xl_V) (a : Nat) (f : Nat → Int32) : xl_V := (V.1, xa_up V.2.1 a f, V.2.2)
def xl_g (V : xl_V) (a : Nat) (f : Nat → Option Nat) : xl_V := (V.1, V.2.1, xa_up V.2.2.1 a f, V.2.2.2)
def xl_o (V : xl_V) (f : Nat → Int64) : xl_V := (V.1, V.2.1, V.2.2.1, f)
theorem xl_f_get {I : Nat → Int32} : ∀ (fl : List (Option Nat)) (b k : Nat), fl[k]? = some none → (xl_f I fl b)[k]? = some (.int (I (b + k)))
  | [], b, k, h => by simp at h
  | o :: r, b, 0, h => by
    have e : o = none := by simpa using h
    subst e
    rfl
  | o :: r, b, k + 1, h => by
    have h1 : r[k]? = some none := by simpa using h
    have h2 := xl_f_get (I := I) r (b + 1) k h1
    have e : b + 1 + k = b + (k + 1) := by omega
    rw [e] at h2
    cases o <;> exact h2
theorem xl_f_getR {I : Nat → Int32} {x : Nat} : ∀ (fl : List (Option Nat)) (b k : Nat), fl[k]? = some (some x) → (xl_f I fl b)[k]? = some (.ref x)
  | [], b, k, h => by simp at h
  | o :: r, b, 0, h => by
    have e : o = some x := by simpa using h
    subst e
    rfl
  | o :: r, b, k + 1, h => by
    have h1 : r[k]? = some (some x) := by simpa using h
    have h2 := xl_f_getR (I := I) r (b + 1) k h1
    cases o <;> exact h2
theorem xl_f_len {I : Nat → Int32} : ∀ (fl : List (Option Nat)) (b : Nat), (xl_f I fl b).length = fl.length
  | [], _ => rfl
  | none :: r, b => by show (xl_f I r (b + 1)).length + 1 = _; rw [xl_f_len r (b + 1)]; rfl
  | some x :: r, b => by show (xl_f I r (b + 1)).length + 1 = _; rw [xl_f_len r (b + 1)]; rfl
theorem xl_f_cg {I J : Nat → Int32} : ∀ (fl : List (Option Nat)) (b : Nat), (∀ j, b ≤ j → I j = J j) → xl_f I fl b = xl_f J fl b
  | [], _, _ => rfl
  | none :: r, b, h => by
    show Value.int (I b) :: xl_f I r (b + 1) = .int (J b) :: xl_f J r (b + 1)
    rw [h b (Nat.le_refl b), xl_f_cg r (b + 1) (fun j hj => h j (by omega))]
  | some x :: r, b, h => by
    show Value.ref x :: xl_f I r (b + 1) = .ref x :: xl_f J r (b + 1)
    rw [xl_f_cg r (b + 1) (fun j hj => h j (by omega))]
theorem xl_f_set {I : Nat → Int32} {x : Int32} : ∀ (fl : List (Option Nat)) (b k : Nat), fl[k]? = some none → (xl_f I fl b).set k (.int x) = xl_f (fun j => if j = b + k then x else I j) fl b
  | [], b, k, h => by simp at h
  | o :: r, b, 0, h => by
    have e : o = none := by simpa using h
    subst e
    show Value.int x :: xl_f I r (b + 1) = .int (if b = b + 0 then x else I b) :: xl_f _ r (b + 1)
    rw [if_pos (Nat.add_zero b).symm]
    congr 1
    exact xl_f_cg r (b + 1) (fun j hj => (if_neg (by omega)).symm)
  | o :: r, b, k + 1, h => by
    have h1 : r[k]? = some none := by simpa using h
    have h2 := xl_f_set (I := I) (x := x) r (b + 1) k h1
    have e : b + 1 + k = b + (k + 1) := by omega
    rw [e] at h2
    cases o with
    | none =>
      show Value.int (I b) :: (xl_f I r (b + 1)).set k (.int x) = .int (if b = b + (k + 1) then x else I b) :: xl_f _ r (b + 1)
      rw [h2, if_neg (by omega)]
    | some z =>
      show Value.ref z :: (xl_f I r (b + 1)).set k (.int x) = .ref z :: xl_f _ r (b + 1)
      rw [h2]
theorem xl_put {lay : List xl_S} {V : xl_V} {a ci k : Nat} {fl : List (Option Nat)} {x : Int32} (ha : lay[a]? = some (.inl (ci, fl))) (hk : fl[k]? = some none) :
    ((xl_H lay V).1, xa_up (xl_H lay V).2 a (.inr (ci, (xl_f (V.1 a) fl 0).set k (.int x)))) = xl_H lay (xl_i V a k x) := by
  show (lay.length, xa_up (xl_c lay V) a _) = (lay.length, xl_c lay (xl_i V a k x))
  congr 1
  funext b
  by_cases e : b = a
  · subst e
    rw [xa_up_s, xl_f_set fl 0 k hk]
    unfold xl_c
    rw [ha]
    show (Sum.inr (ci, _) : va_E) = .inr (ci, _)
    congr 2
    refine xl_f_cg fl 0 (fun j _ => ?_)
    show (if j = 0 + k then x else V.1 b j) = (if b = b ∧ j = k then x else V.1 b j)
    rw [Nat.zero_add]
    by_cases q : j = k
    · rw [if_pos q, if_pos ⟨rfl, q⟩]
    · rw [if_neg q, if_neg (fun z => q z.2)]
  · rw [xa_up_n _ _ e]
    unfold xl_c
    have hI : (xl_i V a k x).1 b = V.1 b := by
      funext j
      show (if b = a ∧ j = k then x else V.1 b j) = _
      rw [if_neg (fun z => e z.1)]
    rw [hI]
    rfl
theorem xl_aset {lay : List xl_S} {V : xl_V} {a n t : Nat} {f : Nat → Int32} (ht : t = 0 ∨ t = 1) (ha : lay[a]? = some (.inr (t, n))) :
    ((xl_H lay V).1, xa_up (xl_H lay V).2 a (.inl (t, n, .inl f))) = xl_H lay (xl_a V a f) := by
  show (lay.length, xa_up (xl_c lay V) a _) = (lay.length, xl_c lay (xl_a V a f))
  congr 1
  funext b
  by_cases e : b = a
  · subst e
    rw [xa_up_s]
    unfold xl_c
    rw [ha]
    have e1 : (xl_a V b f).2.1 b = f := xa_up_s V.2.1 b f
    rcases ht with rfl | rfl
    · show (Sum.inl (0, n, .inl f) : va_E) = .inl (0, n, .inl ((xl_a V b f).2.1 b)); rw [e1]
    · show (Sum.inl (1, n, .inl f) : va_E) = .inl (1, n, .inl ((xl_a V b f).2.1 b)); rw [e1]
  · rw [xa_up_n _ _ e]
    unfold xl_c
    have e1 : (xl_a V a f).2.1 b = V.2.1 b := xa_up_n V.2.1 f e
    rw [e1]
    rfl
theorem xl_gset {lay : List xl_S} {V : xl_V} {a n : Nat} {f : Nat → Option Nat} (ha : lay[a]? = some (.inr (3, n))) :
    ((xl_H lay V).1, xa_up (xl_H lay V).2 a (.inl (3, n, .inr (.inr (.inr (.inr f)))))) = xl_H lay (xl_g V a f) := by
  show (lay.length, xa_up (xl_c lay V) a _) = (lay.length, xl_c lay (xl_g V a f))
  congr 1
  funext b
  by_cases e : b = a
  · subst e
    rw [xa_up_s]
    unfold xl_c
    rw [ha]
    have e1 : (xl_g V b f).2.2.1 b = f := xa_up_s V.2.2.1 b f
    show (Sum.inl (3, n, .inr (.inr (.inr (.inr f)))) : va_E) = .inl (3, n, .inr (.inr (.inr (.inr ((xl_g V b f).2.2.1 b))))); rw [e1]
  · rw [xa_up_n _ _ e]
    unfold xl_c
    have e1 : (xl_g V a f).2.2.1 b = V.2.2.1 b := xa_up_n V.2.2.1 f e
    rw [e1]
    rfl
theorem xl_oset {lay : List xl_S} {V : xl_V} {a n : Nat} {f : Nat → Int64} (ha : lay[a]? = some (.inr (2, n))) (hu : ∀ b m, lay[b]? = some (.inr (2, m)) → b = a) :
    ((xl_H lay V).1, xa_up (xl_H lay V).2 a (.inl (2, n, .inr (.inl f)))) = xl_H lay (xl_o V f) := by
  show (lay.length, xa_up (xl_c lay V) a _) = (lay.length, xl_c lay (xl_o V f))
  congr 1
  funext b
  by_cases e : b = a
  · subst e
    rw [xa_up_s]
    unfold xl_c
    rw [ha]
    rfl
  · rw [xa_up_n _ _ e]
    unfold xl_c
    split
    · rfl
    · rfl
    · rfl
    · rename_i m hm; exact absurd (hu b m hm) e
    · rfl
    · rfl
end XWorld
end
section
/-! The rows of the abstract machine over a heap of a fixed shape, and calls of methods whose answer is known. -/
section XHRows
def xq (v : Option Value) (h : xa_H) : xa_Q := fun o h' => o = .inl v ∧ h' = h
theorem xq_n {v : Option Value} {h : xa_H} : ∀ E h', ¬ xq v h (.inr E) h' := fun E h' q => by cases q.1
variable {K : xa_P} {tx : Nat → Nat × (Nat → Int32)} {d y pc n' : Nat} {ls st : List Value} {h : xa_H} {mc ms : Nat} {Q : xa_Q} {lay : List xl_S} {V : xl_V}
theorem xl_obj {a ci : Nat} {fl : List (Option Nat)} (ha : lay[a]? = some (.inl (ci, fl))) : (xl_H lay V).2 a = .inr (ci, xl_f (V.1 a) fl 0) := by
  show xl_c lay V a = _
  unfold xl_c
  rw [ha]
theorem xh_get {i ci k0 a : Nat} {fl : List (Option Nat)} (hd : xa_d K y pc (.getfield i) 3 n') (hf : xa_fld K (K.1 y).1.cls i ci k0) (ha : lay[a]? = some (.inl (ci, fl))) (hk : fl[k0]? = some none) (k : xa_X K tx d y n' ls (.int (V.1 a k0) :: st) (xl_H lay V) mc ms Q) : xa_X K tx d y pc ls (.ref a :: st) (xl_H lay V) mc ms Q :=
  xx_get hd hf (xl_obj ha) (by have := xl_f_get (I := V.1 a) fl 0 k0 hk; rwa [Nat.zero_add] at this) k
theorem xh_getR {i ci k0 a b : Nat} {fl : List (Option Nat)} (hd : xa_d K y pc (.getfield i) 3 n') (hf : xa_fld K (K.1 y).1.cls i ci k0) (ha : lay[a]? = some (.inl (ci, fl))) (hk : fl[k0]? = some (some b)) (k : xa_X K tx d y n' ls (.ref b :: st) (xl_H lay V) mc ms Q) : xa_X K tx d y pc ls (.ref a :: st) (xl_H lay V) mc ms Q :=
  xx_get hd hf (xl_obj ha) (xl_f_getR fl 0 k0 hk) k
theorem xh_put {i ci k0 a : Nat} {ty : FieldType} {fl : List (Option Nat)} {x : Int32} (hd : xa_d K y pc (.putfield i) 3 n') (hf : xa_fldP K (K.1 y).1.cls i ci k0 ty) (ha : lay[a]? = some (.inl (ci, fl))) (hk : fl[k0]? = some none) (hn : narrow ty (.int x) = .int x ∧ fits ty (.int x) = true) (k : xa_X K tx d y n' ls st (xl_H lay (xl_i V a k0 x)) mc ms Q) : xa_X K tx d y pc ls (.int x :: .ref a :: st) (xl_H lay V) mc ms Q :=
  xx_put hd hf (xl_obj ha) (by rw [xl_f_len]; exact (List.getElem?_eq_some_iff.mp hk).1) (fun _ _ => hn) (by rw [xl_put ha hk]; exact k)
theorem xl_arr {a n t : Nat} (ht : t = 0 ∨ t = 1) (ha : lay[a]? = some (.inr (t, n))) : (xl_H lay V).2 a = .inl (t, n, .inl (V.2.1 a)) := by
  show xl_c lay V a = _
  unfold xl_c
  rw [ha]
  rcases ht with rfl | rfl <;> rfl
theorem xh_iald {a n : Nat} {i : Int32} (hd : xa_d K y pc (.iaload) 1 n') (ha : lay[a]? = some (.inr (0, n))) (hi : vp_in i n) (k : xa_X K tx d y n' ls (.int (V.2.1 a i.toNatClampNeg) :: st) (xl_H lay V) mc ms Q) : xa_X K tx d y pc ls (.int i :: .ref a :: st) (xl_H lay V) mc ms Q :=
  xx_iaload hd (xl_arr (Or.inl rfl) ha) hi k
theorem xh_bald {a n : Nat} {i : Int32} (hd : xa_d K y pc (.baload) 1 n') (ha : lay[a]? = some (.inr (1, n))) (hi : vp_in i n) (k : xa_X K tx d y n' ls (.int (V.2.1 a i.toNatClampNeg) :: st) (xl_H lay V) mc ms Q) : xa_X K tx d y pc ls (.int i :: .ref a :: st) (xl_H lay V) mc ms Q :=
  xx_baload hd (xl_arr (Or.inr rfl) ha) hi k
theorem xh_iast {a n : Nat} {i x : Int32} (hd : xa_d K y pc (.iastore) 1 n') (ha : lay[a]? = some (.inr (0, n))) (hi : vp_in i n) (k : xa_X K tx d y n' ls st (xl_H lay (xl_a V a (upd (V.2.1 a) i.toNatClampNeg x))) mc ms Q) : xa_X K tx d y pc ls (.int x :: .int i :: .ref a :: st) (xl_H lay V) mc ms Q :=
  xx_iastore hd (xl_arr (Or.inl rfl) ha) hi (by rw [xl_aset (Or.inl rfl) ha]; exact k)
theorem xh_bast {a n : Nat} {i x : Int32} (hd : xa_d K y pc (.bastore) 1 n') (ha : lay[a]? = some (.inr (1, n))) (hi : vp_in i n) (k : xa_X K tx d y n' ls st (xl_H lay (xl_a V a (upd (V.2.1 a) i.toNatClampNeg (vp_nar .boolean x)))) mc ms Q) : xa_X K tx d y pc ls (.int x :: .int i :: .ref a :: st) (xl_H lay V) mc ms Q :=
  xx_bastore hd (xl_arr (Or.inr rfl) ha) hi (by rw [xl_aset (Or.inr rfl) ha]; exact k)
theorem xl_arrG {a n : Nat} (ha : lay[a]? = some (.inr (3, n))) : (xl_H lay V).2 a = .inl (3, n, .inr (.inr (.inr (.inr (V.2.2.1 a))))) := by
  show xl_c lay V a = _
  unfold xl_c
  rw [ha]
  rfl
theorem xh_aald {a n b : Nat} {i : Int32} (hd : xa_d K y pc (.aaload) 1 n') (ha : lay[a]? = some (.inr (3, n))) (hi : vp_in i n) (hb : V.2.2.1 a i.toNatClampNeg = some b) (k : xa_X K tx d y n' ls (.ref b :: st) (xl_H lay V) mc ms Q) : xa_X K tx d y pc ls (.int i :: .ref a :: st) (xl_H lay V) mc ms Q :=
  xx_aaload hd (xl_arrG ha) hi hb k
theorem xh_aast {a n b ci : Nat} {fl : List (Option Nat)} {i : Int32} (hd : xa_d K y pc (.aastore) 1 n') (ha : lay[a]? = some (.inr (3, n))) (hi : vp_in i n) (hb : lay[b]? = some (.inl (ci, fl))) (hg : ∃ T N, K.2.1[ci]? = some (K.2.2.2.2.2, T, N)) (k : xa_X K tx d y n' ls st (xl_H lay (xl_g V a (va_up (V.2.2.1 a) i.toNatClampNeg (some b)))) mc ms Q) : xa_X K tx d y pc ls (.ref b :: .int i :: .ref a :: st) (xl_H lay V) mc ms Q :=
  xx_aastore hd (xl_arrG ha) hi (xl_obj hb) hg (by rw [xl_gset ha]; exact k)
theorem xl_arrO {a n : Nat} (ha : lay[a]? = some (.inr (2, n))) : (xl_H lay V).2 a = .inl (2, n, .inr (.inl V.2.2.2)) := by
  show xl_c lay V a = _
  unfold xl_c
  rw [ha]
  rfl
theorem xh_lald {a n : Nat} {i : Int32} (hd : xa_d K y pc (.laload) 1 n') (ha : lay[a]? = some (.inr (2, n))) (hi : vp_in i n) (k : xa_X K tx d y n' ls (.long (V.2.2.2 i.toNatClampNeg) :: st) (xl_H lay V) mc ms Q) : xa_X K tx d y pc ls (.int i :: .ref a :: st) (xl_H lay V) mc ms Q :=
  xx_laload hd (xl_arrO ha) hi k
theorem xh_last {a n : Nat} {i : Int32} {x : Int64} (hu : ∀ b m, lay[b]? = some (.inr (2, m)) → b = a) (hd : xa_d K y pc (.lastore) 1 n') (ha : lay[a]? = some (.inr (2, n))) (hi : vp_in i n) (k : xa_X K tx d y n' ls st (xl_H lay (xl_o V (vp_updL V.2.2.2 i.toNatClampNeg x))) mc ms Q) : xa_X K tx d y pc ls (.long x :: .int i :: .ref a :: st) (xl_H lay V) mc ms Q :=
  xx_lastore hd (xl_arrO ha) hi (by rw [xl_oset ha hu]; exact k)
theorem xc_V0 {i y' mc' ms' : Nat} {fs : List Value} {ci : Nat} {a : Nat} {P : xa_Q} (hd : xa_d K y pc (.invokevirtual i) 3 n') (hl : xa_lkV K (K.1 y).1.cls i ci y' 0) (hh : h.2 a = .inr (ci, fs)) (hP : ∀ E h', ¬ P (.inr E) h') (k1 : xa_X K tx d y' 0 (xa_ent (K.1 y').2.2.1 (.ref a :: [])) [] h mc' ms' P) (k2 : ∀ (v : Option Value) (h' : xa_H), P (.inl v) h' → xa_X K tx (d + 1) y n' ls (v.toList ++ st) h' mc ms Q)  (hw : (st.map fun v => v.category).sum ≤ 8 := by exact Nat.le_of_ble_eq_true rfl) : xa_X K tx (d + 1) y pc ls (.ref a :: st) h (mc + mc') (ms + ms') Q :=
  xx_callV (As := []) hd hl hh (by intro v hv; cases hv) hw hP k1 k2
theorem xc_V0i {i y' : Nat} {ci : Nat} {fs : List Value} {a : Nat} {r : Int32} {h1 : xa_H} (hd : xa_d K y pc (.invokevirtual i) 3 n') (hl : xa_lkV K (K.1 y).1.cls i ci y' 0) (hh : h.2 a = .inr (ci, fs)) (k1 : xa_X K tx d y' 0 (xa_ent (K.1 y').2.2.1 (.ref a :: [])) [] h 0 0 (xq (some (.int r)) h1)) (k2 : xa_X K tx (d + 1) y n' ls (.int r :: st) h1 mc ms Q)  (hw : (st.map fun v => v.category).sum ≤ 8 := by exact Nat.le_of_ble_eq_true rfl) : xa_X K tx (d + 1) y pc ls (.ref a :: st) h mc ms Q :=
  xx_callV (As := []) (mc' := 0) (ms' := 0) hd hl hh (by intro v hv; cases hv) hw xq_n k1 (fun v h' q => by obtain ⟨e1, e2⟩ := q; cases e1; cases e2; exact k2)
theorem xc_V0v {i y' : Nat} {ci : Nat} {fs : List Value} {a : Nat} {h1 : xa_H} (hd : xa_d K y pc (.invokevirtual i) 3 n') (hl : xa_lkV K (K.1 y).1.cls i ci y' 0) (hh : h.2 a = .inr (ci, fs)) (k1 : xa_X K tx d y' 0 (xa_ent (K.1 y').2.2.1 (.ref a :: [])) [] h 0 0 (xq none h1)) (k2 : xa_X K tx (d + 1) y n' ls (st) h1 mc ms Q)  (hw : (st.map fun v => v.category).sum ≤ 8 := by exact Nat.le_of_ble_eq_true rfl) : xa_X K tx (d + 1) y pc ls (.ref a :: st) h mc ms Q :=
  xx_callV (As := []) (mc' := 0) (ms' := 0) hd hl hh (by intro v hv; cases hv) hw xq_n k1 (fun v h' q => by obtain ⟨e1, e2⟩ := q; cases e1; cases e2; exact k2)
theorem xc_V0r {i y' : Nat} {ci : Nat} {fs : List Value} {a : Nat} {r : Nat} {h1 : xa_H} (hd : xa_d K y pc (.invokevirtual i) 3 n') (hl : xa_lkV K (K.1 y).1.cls i ci y' 0) (hh : h.2 a = .inr (ci, fs)) (k1 : xa_X K tx d y' 0 (xa_ent (K.1 y').2.2.1 (.ref a :: [])) [] h 0 0 (xq (some (.ref r)) h1)) (k2 : xa_X K tx (d + 1) y n' ls (.ref r :: st) h1 mc ms Q)  (hw : (st.map fun v => v.category).sum ≤ 8 := by exact Nat.le_of_ble_eq_true rfl) : xa_X K tx (d + 1) y pc ls (.ref a :: st) h mc ms Q :=
  xx_callV (As := []) (mc' := 0) (ms' := 0) hd hl hh (by intro v hv; cases hv) hw xq_n k1 (fun v h' q => by obtain ⟨e1, e2⟩ := q; cases e1; cases e2; exact k2)
theorem xc_S0 {i y' mc' ms' : Nat} {P : xa_Q} (hd : xa_d K y pc (.invokestatic i) 3 n') (hl : xa_lkS K (K.1 y).1.cls i y' 0) (hP : ∀ E h', ¬ P (.inr E) h') (k1 : xa_X K tx d y' 0 (xa_ent (K.1 y').2.2.1 ([])) [] h mc' ms' P) (k2 : ∀ (v : Option Value) (h' : xa_H), P (.inl v) h' → xa_X K tx (d + 1) y n' ls (v.toList ++ st) h' mc ms Q)  (hw : (st.map fun v => v.category).sum ≤ 8 := by exact Nat.le_of_ble_eq_true rfl) : xa_X K tx (d + 1) y pc ls (st) h (mc + mc') (ms + ms') Q :=
  xx_callS (As := []) hd hl (by intro v hv; cases hv) hw hP k1 k2
theorem xc_S0i {i y' : Nat} {r : Int32} {h1 : xa_H} (hd : xa_d K y pc (.invokestatic i) 3 n') (hl : xa_lkS K (K.1 y).1.cls i y' 0) (k1 : xa_X K tx d y' 0 (xa_ent (K.1 y').2.2.1 ([])) [] h 0 0 (xq (some (.int r)) h1)) (k2 : xa_X K tx (d + 1) y n' ls (.int r :: st) h1 mc ms Q)  (hw : (st.map fun v => v.category).sum ≤ 8 := by exact Nat.le_of_ble_eq_true rfl) : xa_X K tx (d + 1) y pc ls (st) h mc ms Q :=
  xx_callS (As := []) (mc' := 0) (ms' := 0) hd hl (by intro v hv; cases hv) hw xq_n k1 (fun v h' q => by obtain ⟨e1, e2⟩ := q; cases e1; cases e2; exact k2)
theorem xc_S0v {i y' : Nat} {h1 : xa_H} (hd : xa_d K y pc (.invokestatic i) 3 n') (hl : xa_lkS K (K.1 y).1.cls i y' 0) (k1 : xa_X K tx d y' 0 (xa_ent (K.1 y').2.2.1 ([])) [] h 0 0 (xq none h1)) (k2 : xa_X K tx (d + 1) y n' ls (st) h1 mc ms Q)  (hw : (st.map fun v => v.category).sum ≤ 8 := by exact Nat.le_of_ble_eq_true rfl) : xa_X K tx (d + 1) y pc ls (st) h mc ms Q :=
  xx_callS (As := []) (mc' := 0) (ms' := 0) hd hl (by intro v hv; cases hv) hw xq_n k1 (fun v h' q => by obtain ⟨e1, e2⟩ := q; cases e1; cases e2; exact k2)
theorem xc_S0r {i y' : Nat} {r : Nat} {h1 : xa_H} (hd : xa_d K y pc (.invokestatic i) 3 n') (hl : xa_lkS K (K.1 y).1.cls i y' 0) (k1 : xa_X K tx d y' 0 (xa_ent (K.1 y').2.2.1 ([])) [] h 0 0 (xq (some (.ref r)) h1)) (k2 : xa_X K tx (d + 1) y n' ls (.ref r :: st) h1 mc ms Q)  (hw : (st.map fun v => v.category).sum ≤ 8 := by exact Nat.le_of_ble_eq_true rfl) : xa_X K tx (d + 1) y pc ls (st) h mc ms Q :=
  xx_callS (As := []) (mc' := 0) (ms' := 0) hd hl (by intro v hv; cases hv) hw xq_n k1 (fun v h' q => by obtain ⟨e1, e2⟩ := q; cases e1; cases e2; exact k2)
theorem xc_I0 {i y' mc' ms' : Nat} {a : Nat} {P : xa_Q} (hd : xa_d K y pc (.invokespecial i) 3 n') (hl : xa_lkI K (K.1 y).1.cls i y' 0) (hP : ∀ E h', ¬ P (.inr E) h') (k1 : xa_X K tx d y' 0 (xa_ent (K.1 y').2.2.1 (.ref a :: [])) [] h mc' ms' P) (k2 : ∀ (v : Option Value) (h' : xa_H), P (.inl v) h' → xa_X K tx (d + 1) y n' ls (v.toList ++ st) h' mc ms Q)  (hw : (st.map fun v => v.category).sum ≤ 8 := by exact Nat.le_of_ble_eq_true rfl) : xa_X K tx (d + 1) y pc ls (.ref a :: st) h (mc + mc') (ms + ms') Q :=
  xx_callI (As := []) hd hl (by intro v hv; cases hv) hw hP k1 k2
theorem xc_I0i {i y' : Nat} {a : Nat} {r : Int32} {h1 : xa_H} (hd : xa_d K y pc (.invokespecial i) 3 n') (hl : xa_lkI K (K.1 y).1.cls i y' 0) (k1 : xa_X K tx d y' 0 (xa_ent (K.1 y').2.2.1 (.ref a :: [])) [] h 0 0 (xq (some (.int r)) h1)) (k2 : xa_X K tx (d + 1) y n' ls (.int r :: st) h1 mc ms Q)  (hw : (st.map fun v => v.category).sum ≤ 8 := by exact Nat.le_of_ble_eq_true rfl) : xa_X K tx (d + 1) y pc ls (.ref a :: st) h mc ms Q :=
  xx_callI (As := []) (mc' := 0) (ms' := 0) hd hl (by intro v hv; cases hv) hw xq_n k1 (fun v h' q => by obtain ⟨e1, e2⟩ := q; cases e1; cases e2; exact k2)
theorem xc_I0v {i y' : Nat} {a : Nat} {h1 : xa_H} (hd : xa_d K y pc (.invokespecial i) 3 n') (hl : xa_lkI K (K.1 y).1.cls i y' 0) (k1 : xa_X K tx d y' 0 (xa_ent (K.1 y').2.2.1 (.ref a :: [])) [] h 0 0 (xq none h1)) (k2 : xa_X K tx (d + 1) y n' ls (st) h1 mc ms Q)  (hw : (st.map fun v => v.category).sum ≤ 8 := by exact Nat.le_of_ble_eq_true rfl) : xa_X K tx (d + 1) y pc ls (.ref a :: st) h mc ms Q :=
  xx_callI (As := []) (mc' := 0) (ms' := 0) hd hl (by intro v hv; cases hv) hw xq_n k1 (fun v h' q => by obtain ⟨e1, e2⟩ := q; cases e1; cases e2; exact k2)
theorem xc_I0r {i y' : Nat} {a : Nat} {r : Nat} {h1 : xa_H} (hd : xa_d K y pc (.invokespecial i) 3 n') (hl : xa_lkI K (K.1 y).1.cls i y' 0) (k1 : xa_X K tx d y' 0 (xa_ent (K.1 y').2.2.1 (.ref a :: [])) [] h 0 0 (xq (some (.ref r)) h1)) (k2 : xa_X K tx (d + 1) y n' ls (.ref r :: st) h1 mc ms Q)  (hw : (st.map fun v => v.category).sum ≤ 8 := by exact Nat.le_of_ble_eq_true rfl) : xa_X K tx (d + 1) y pc ls (.ref a :: st) h mc ms Q :=
  xx_callI (As := []) (mc' := 0) (ms' := 0) hd hl (by intro v hv; cases hv) hw xq_n k1 (fun v h' q => by obtain ⟨e1, e2⟩ := q; cases e1; cases e2; exact k2)
theorem xc_V1 {i y' mc' ms' : Nat} {fs : List Value} {ci : Nat} {a : Nat} {w1 : Value} {P : xa_Q} (hd : xa_d K y pc (.invokevirtual i) 3 n') (hl : xa_lkV K (K.1 y).1.cls i ci y' 1) (hh : h.2 a = .inr (ci, fs)) (hP : ∀ E h', ¬ P (.inr E) h') (k1 : xa_X K tx d y' 0 (xa_ent (K.1 y').2.2.1 (.ref a :: [w1])) [] h mc' ms' P) (k2 : ∀ (v : Option Value) (h' : xa_H), P (.inl v) h' → xa_X K tx (d + 1) y n' ls (v.toList ++ st) h' mc ms Q) (c1 : w1.category = 1 := by rfl) (hw : (st.map fun v => v.category).sum ≤ 8 := by exact Nat.le_of_ble_eq_true rfl) : xa_X K tx (d + 1) y pc ls (w1 :: .ref a :: st) h (mc + mc') (ms + ms') Q :=
  xx_callV (As := [w1]) hd hl hh (by intro v hv; rw [List.mem_singleton.mp hv]; exact c1) hw hP k1 k2
theorem xc_V1i {i y' : Nat} {ci : Nat} {fs : List Value} {a : Nat} {w1 : Value} {r : Int32} {h1 : xa_H} (hd : xa_d K y pc (.invokevirtual i) 3 n') (hl : xa_lkV K (K.1 y).1.cls i ci y' 1) (hh : h.2 a = .inr (ci, fs)) (k1 : xa_X K tx d y' 0 (xa_ent (K.1 y').2.2.1 (.ref a :: [w1])) [] h 0 0 (xq (some (.int r)) h1)) (k2 : xa_X K tx (d + 1) y n' ls (.int r :: st) h1 mc ms Q) (c1 : w1.category = 1 := by rfl) (hw : (st.map fun v => v.category).sum ≤ 8 := by exact Nat.le_of_ble_eq_true rfl) : xa_X K tx (d + 1) y pc ls (w1 :: .ref a :: st) h mc ms Q :=
  xx_callV (As := [w1]) (mc' := 0) (ms' := 0) hd hl hh (by intro v hv; rw [List.mem_singleton.mp hv]; exact c1) hw xq_n k1 (fun v h' q => by obtain ⟨e1, e2⟩ := q; cases e1; cases e2; exact k2)
theorem xc_V1v {i y' : Nat} {ci : Nat} {fs : List Value} {a : Nat} {w1 : Value} {h1 : xa_H} (hd : xa_d K y pc (.invokevirtual i) 3 n') (hl : xa_lkV K (K.1 y).1.cls i ci y' 1) (hh : h.2 a = .inr (ci, fs)) (k1 : xa_X K tx d y' 0 (xa_ent (K.1 y').2.2.1 (.ref a :: [w1])) [] h 0 0 (xq none h1)) (k2 : xa_X K tx (d + 1) y n' ls (st) h1 mc ms Q) (c1 : w1.category = 1 := by rfl) (hw : (st.map fun v => v.category).sum ≤ 8 := by exact Nat.le_of_ble_eq_true rfl) : xa_X K tx (d + 1) y pc ls (w1 :: .ref a :: st) h mc ms Q :=
  xx_callV (As := [w1]) (mc' := 0) (ms' := 0) hd hl hh (by intro v hv; rw [List.mem_singleton.mp hv]; exact c1) hw xq_n k1 (fun v h' q => by obtain ⟨e1, e2⟩ := q; cases e1; cases e2; exact k2)
theorem xc_V1r {i y' : Nat} {ci : Nat} {fs : List Value} {a : Nat} {w1 : Value} {r : Nat} {h1 : xa_H} (hd : xa_d K y pc (.invokevirtual i) 3 n') (hl : xa_lkV K (K.1 y).1.cls i ci y' 1) (hh : h.2 a = .inr (ci, fs)) (k1 : xa_X K tx d y' 0 (xa_ent (K.1 y').2.2.1 (.ref a :: [w1])) [] h 0 0 (xq (some (.ref r)) h1)) (k2 : xa_X K tx (d + 1) y n' ls (.ref r :: st) h1 mc ms Q) (c1 : w1.category = 1 := by rfl) (hw : (st.map fun v => v.category).sum ≤ 8 := by exact Nat.le_of_ble_eq_true rfl) : xa_X K tx (d + 1) y pc ls (w1 :: .ref a :: st) h mc ms Q :=
  xx_callV (As := [w1]) (mc' := 0) (ms' := 0) hd hl hh (by intro v hv; rw [List.mem_singleton.mp hv]; exact c1) hw xq_n k1 (fun v h' q => by obtain ⟨e1, e2⟩ := q; cases e1; cases e2; exact k2)
theorem xc_S1 {i y' mc' ms' : Nat} {w1 : Value} {P : xa_Q} (hd : xa_d K y pc (.invokestatic i) 3 n') (hl : xa_lkS K (K.1 y).1.cls i y' 1) (hP : ∀ E h', ¬ P (.inr E) h') (k1 : xa_X K tx d y' 0 (xa_ent (K.1 y').2.2.1 ([w1])) [] h mc' ms' P) (k2 : ∀ (v : Option Value) (h' : xa_H), P (.inl v) h' → xa_X K tx (d + 1) y n' ls (v.toList ++ st) h' mc ms Q) (c1 : w1.category = 1 := by rfl) (hw : (st.map fun v => v.category).sum ≤ 8 := by exact Nat.le_of_ble_eq_true rfl) : xa_X K tx (d + 1) y pc ls (w1 :: st) h (mc + mc') (ms + ms') Q :=
  xx_callS (As := [w1]) hd hl (by intro v hv; rw [List.mem_singleton.mp hv]; exact c1) hw hP k1 k2
theorem xc_S1i {i y' : Nat} {w1 : Value} {r : Int32} {h1 : xa_H} (hd : xa_d K y pc (.invokestatic i) 3 n') (hl : xa_lkS K (K.1 y).1.cls i y' 1) (k1 : xa_X K tx d y' 0 (xa_ent (K.1 y').2.2.1 ([w1])) [] h 0 0 (xq (some (.int r)) h1)) (k2 : xa_X K tx (d + 1) y n' ls (.int r :: st) h1 mc ms Q) (c1 : w1.category = 1 := by rfl) (hw : (st.map fun v => v.category).sum ≤ 8 := by exact Nat.le_of_ble_eq_true rfl) : xa_X K tx (d + 1) y pc ls (w1 :: st) h mc ms Q :=
  xx_callS (As := [w1]) (mc' := 0) (ms' := 0) hd hl (by intro v hv; rw [List.mem_singleton.mp hv]; exact c1) hw xq_n k1 (fun v h' q => by obtain ⟨e1, e2⟩ := q; cases e1; cases e2; exact k2)
theorem xc_S1v {i y' : Nat} {w1 : Value} {h1 : xa_H} (hd : xa_d K y pc (.invokestatic i) 3 n') (hl : xa_lkS K (K.1 y).1.cls i y' 1) (k1 : xa_X K tx d y' 0 (xa_ent (K.1 y').2.2.1 ([w1])) [] h 0 0 (xq none h1)) (k2 : xa_X K tx (d + 1) y n' ls (st) h1 mc ms Q) (c1 : w1.category = 1 := by rfl) (hw : (st.map fun v => v.category).sum ≤ 8 := by exact Nat.le_of_ble_eq_true rfl) : xa_X K tx (d + 1) y pc ls (w1 :: st) h mc ms Q :=
  xx_callS (As := [w1]) (mc' := 0) (ms' := 0) hd hl (by intro v hv; rw [List.mem_singleton.mp hv]; exact c1) hw xq_n k1 (fun v h' q => by obtain ⟨e1, e2⟩ := q; cases e1; cases e2; exact k2)
theorem xc_S1r {i y' : Nat} {w1 : Value} {r : Nat} {h1 : xa_H} (hd : xa_d K y pc (.invokestatic i) 3 n') (hl : xa_lkS K (K.1 y).1.cls i y' 1) (k1 : xa_X K tx d y' 0 (xa_ent (K.1 y').2.2.1 ([w1])) [] h 0 0 (xq (some (.ref r)) h1)) (k2 : xa_X K tx (d + 1) y n' ls (.ref r :: st) h1 mc ms Q) (c1 : w1.category = 1 := by rfl) (hw : (st.map fun v => v.category).sum ≤ 8 := by exact Nat.le_of_ble_eq_true rfl) : xa_X K tx (d + 1) y pc ls (w1 :: st) h mc ms Q :=
  xx_callS (As := [w1]) (mc' := 0) (ms' := 0) hd hl (by intro v hv; rw [List.mem_singleton.mp hv]; exact c1) hw xq_n k1 (fun v h' q => by obtain ⟨e1, e2⟩ := q; cases e1; cases e2; exact k2)
theorem xc_I1 {i y' mc' ms' : Nat} {a : Nat} {w1 : Value} {P : xa_Q} (hd : xa_d K y pc (.invokespecial i) 3 n') (hl : xa_lkI K (K.1 y).1.cls i y' 1) (hP : ∀ E h', ¬ P (.inr E) h') (k1 : xa_X K tx d y' 0 (xa_ent (K.1 y').2.2.1 (.ref a :: [w1])) [] h mc' ms' P) (k2 : ∀ (v : Option Value) (h' : xa_H), P (.inl v) h' → xa_X K tx (d + 1) y n' ls (v.toList ++ st) h' mc ms Q) (c1 : w1.category = 1 := by rfl) (hw : (st.map fun v => v.category).sum ≤ 8 := by exact Nat.le_of_ble_eq_true rfl) : xa_X K tx (d + 1) y pc ls (w1 :: .ref a :: st) h (mc + mc') (ms + ms') Q :=
  xx_callI (As := [w1]) hd hl (by intro v hv; rw [List.mem_singleton.mp hv]; exact c1) hw hP k1 k2
theorem xc_I1i {i y' : Nat} {a : Nat} {w1 : Value} {r : Int32} {h1 : xa_H} (hd : xa_d K y pc (.invokespecial i) 3 n') (hl : xa_lkI K (K.1 y).1.cls i y' 1) (k1 : xa_X K tx d y' 0 (xa_ent (K.1 y').2.2.1 (.ref a :: [w1])) [] h 0 0 (xq (some (.int r)) h1)) (k2 : xa_X K tx (d + 1) y n' ls (.int r :: st) h1 mc ms Q) (c1 : w1.category = 1 := by rfl) (hw : (st.map fun v => v.category).sum ≤ 8 := by exact Nat.le_of_ble_eq_true rfl) : xa_X K tx (d + 1) y pc ls (w1 :: .ref a :: st) h mc ms Q :=
  xx_callI (As := [w1]) (mc' := 0) (ms' := 0) hd hl (by intro v hv; rw [List.mem_singleton.mp hv]; exact c1) hw xq_n k1 (fun v h' q => by obtain ⟨e1, e2⟩ := q; cases e1; cases e2; exact k2)
theorem xc_I1v {i y' : Nat} {a : Nat} {w1 : Value} {h1 : xa_H} (hd : xa_d K y pc (.invokespecial i) 3 n') (hl : xa_lkI K (K.1 y).1.cls i y' 1) (k1 : xa_X K tx d y' 0 (xa_ent (K.1 y').2.2.1 (.ref a :: [w1])) [] h 0 0 (xq none h1)) (k2 : xa_X K tx (d + 1) y n' ls (st) h1 mc ms Q) (c1 : w1.category = 1 := by rfl) (hw : (st.map fun v => v.category).sum ≤ 8 := by exact Nat.le_of_ble_eq_true rfl) : xa_X K tx (d + 1) y pc ls (w1 :: .ref a :: st) h mc ms Q :=
  xx_callI (As := [w1]) (mc' := 0) (ms' := 0) hd hl (by intro v hv; rw [List.mem_singleton.mp hv]; exact c1) hw xq_n k1 (fun v h' q => by obtain ⟨e1, e2⟩ := q; cases e1; cases e2; exact k2)
theorem xc_I1r {i y' : Nat} {a : Nat} {w1 : Value} {r : Nat} {h1 : xa_H} (hd : xa_d K y pc (.invokespecial i) 3 n') (hl : xa_lkI K (K.1 y).1.cls i y' 1) (k1 : xa_X K tx d y' 0 (xa_ent (K.1 y').2.2.1 (.ref a :: [w1])) [] h 0 0 (xq (some (.ref r)) h1)) (k2 : xa_X K tx (d + 1) y n' ls (.ref r :: st) h1 mc ms Q) (c1 : w1.category = 1 := by rfl) (hw : (st.map fun v => v.category).sum ≤ 8 := by exact Nat.le_of_ble_eq_true rfl) : xa_X K tx (d + 1) y pc ls (w1 :: .ref a :: st) h mc ms Q :=
  xx_callI (As := [w1]) (mc' := 0) (ms' := 0) hd hl (by intro v hv; rw [List.mem_singleton.mp hv]; exact c1) hw xq_n k1 (fun v h' q => by obtain ⟨e1, e2⟩ := q; cases e1; cases e2; exact k2)
theorem xc_V2 {i y' mc' ms' : Nat} {fs : List Value} {ci : Nat} {a : Nat} {w1 w2 : Value} {P : xa_Q} (hd : xa_d K y pc (.invokevirtual i) 3 n') (hl : xa_lkV K (K.1 y).1.cls i ci y' 2) (hh : h.2 a = .inr (ci, fs)) (hP : ∀ E h', ¬ P (.inr E) h') (k1 : xa_X K tx d y' 0 (xa_ent (K.1 y').2.2.1 (.ref a :: [w1, w2])) [] h mc' ms' P) (k2 : ∀ (v : Option Value) (h' : xa_H), P (.inl v) h' → xa_X K tx (d + 1) y n' ls (v.toList ++ st) h' mc ms Q) (c1 : w1.category = 1 := by rfl) (c2 : w2.category = 1 := by rfl) (hw : (st.map fun v => v.category).sum ≤ 8 := by exact Nat.le_of_ble_eq_true rfl) : xa_X K tx (d + 1) y pc ls (w2 :: w1 :: .ref a :: st) h (mc + mc') (ms + ms') Q :=
  xx_callV (As := [w1, w2]) hd hl hh (by intro v hv; simp only [List.mem_cons, List.not_mem_nil, or_false] at hv; rcases hv with rfl | rfl <;> assumption) hw hP k1 k2
theorem xc_V2i {i y' : Nat} {ci : Nat} {fs : List Value} {a : Nat} {w1 w2 : Value} {r : Int32} {h1 : xa_H} (hd : xa_d K y pc (.invokevirtual i) 3 n') (hl : xa_lkV K (K.1 y).1.cls i ci y' 2) (hh : h.2 a = .inr (ci, fs)) (k1 : xa_X K tx d y' 0 (xa_ent (K.1 y').2.2.1 (.ref a :: [w1, w2])) [] h 0 0 (xq (some (.int r)) h1)) (k2 : xa_X K tx (d + 1) y n' ls (.int r :: st) h1 mc ms Q) (c1 : w1.category = 1 := by rfl) (c2 : w2.category = 1 := by rfl) (hw : (st.map fun v => v.category).sum ≤ 8 := by exact Nat.le_of_ble_eq_true rfl) : xa_X K tx (d + 1) y pc ls (w2 :: w1 :: .ref a :: st) h mc ms Q :=
  xx_callV (As := [w1, w2]) (mc' := 0) (ms' := 0) hd hl hh (by intro v hv; simp only [List.mem_cons, List.not_mem_nil, or_false] at hv; rcases hv with rfl | rfl <;> assumption) hw xq_n k1 (fun v h' q => by obtain ⟨e1, e2⟩ := q; cases e1; cases e2; exact k2)
theorem xc_V2v {i y' : Nat} {ci : Nat} {fs : List Value} {a : Nat} {w1 w2 : Value} {h1 : xa_H} (hd : xa_d K y pc (.invokevirtual i) 3 n') (hl : xa_lkV K (K.1 y).1.cls i ci y' 2) (hh : h.2 a = .inr (ci, fs)) (k1 : xa_X K tx d y' 0 (xa_ent (K.1 y').2.2.1 (.ref a :: [w1, w2])) [] h 0 0 (xq none h1)) (k2 : xa_X K tx (d + 1) y n' ls (st) h1 mc ms Q) (c1 : w1.category = 1 := by rfl) (c2 : w2.category = 1 := by rfl) (hw : (st.map fun v => v.category).sum ≤ 8 := by exact Nat.le_of_ble_eq_true rfl) : xa_X K tx (d + 1) y pc ls (w2 :: w1 :: .ref a :: st) h mc ms Q :=
  xx_callV (As := [w1, w2]) (mc' := 0) (ms' := 0) hd hl hh (by intro v hv; simp only [List.mem_cons, List.not_mem_nil, or_false] at hv; rcases hv with rfl | rfl <;> assumption) hw xq_n k1 (fun v h' q => by obtain ⟨e1, e2⟩ := q; cases e1; cases e2; exact k2)
theorem xc_V2r {i y' : Nat} {ci : Nat} {fs : List Value} {a : Nat} {w1 w2 : Value} {r : Nat} {h1 : xa_H} (hd : xa_d K y pc (.invokevirtual i) 3 n') (hl : xa_lkV K (K.1 y).1.cls i ci y' 2) (hh : h.2 a = .inr (ci, fs)) (k1 : xa_X K tx d y' 0 (xa_ent (K.1 y').2.2.1 (.ref a :: [w1, w2])) [] h 0 0 (xq (some (.ref r)) h1)) (k2 : xa_X K tx (d + 1) y n' ls (.ref r :: st) h1 mc ms Q) (c1 : w1.category = 1 := by rfl) (c2 : w2.category = 1 := by rfl) (hw : (st.map fun v => v.category).sum ≤ 8 := by exact Nat.le_of_ble_eq_true rfl) : xa_X K tx (d + 1) y pc ls (w2 :: w1 :: .ref a :: st) h mc ms Q :=
  xx_callV (As := [w1, w2]) (mc' := 0) (ms' := 0) hd hl hh (by intro v hv; simp only [List.mem_cons, List.not_mem_nil, or_false] at hv; rcases hv with rfl | rfl <;> assumption) hw xq_n k1 (fun v h' q => by obtain ⟨e1, e2⟩ := q; cases e1; cases e2; exact k2)
theorem xc_S2 {i y' mc' ms' : Nat} {w1 w2 : Value} {P : xa_Q} (hd : xa_d K y pc (.invokestatic i) 3 n') (hl : xa_lkS K (K.1 y).1.cls i y' 2) (hP : ∀ E h', ¬ P (.inr E) h') (k1 : xa_X K tx d y' 0 (xa_ent (K.1 y').2.2.1 ([w1, w2])) [] h mc' ms' P) (k2 : ∀ (v : Option Value) (h' : xa_H), P (.inl v) h' → xa_X K tx (d + 1) y n' ls (v.toList ++ st) h' mc ms Q) (c1 : w1.category = 1 := by rfl) (c2 : w2.category = 1 := by rfl) (hw : (st.map fun v => v.category).sum ≤ 8 := by exact Nat.le_of_ble_eq_true rfl) : xa_X K tx (d + 1) y pc ls (w2 :: w1 :: st) h (mc + mc') (ms + ms') Q :=
  xx_callS (As := [w1, w2]) hd hl (by intro v hv; simp only [List.mem_cons, List.not_mem_nil, or_false] at hv; rcases hv with rfl | rfl <;> assumption) hw hP k1 k2
theorem xc_S2i {i y' : Nat} {w1 w2 : Value} {r : Int32} {h1 : xa_H} (hd : xa_d K y pc (.invokestatic i) 3 n') (hl : xa_lkS K (K.1 y).1.cls i y' 2) (k1 : xa_X K tx d y' 0 (xa_ent (K.1 y').2.2.1 ([w1, w2])) [] h 0 0 (xq (some (.int r)) h1)) (k2 : xa_X K tx (d + 1) y n' ls (.int r :: st) h1 mc ms Q) (c1 : w1.category = 1 := by rfl) (c2 : w2.category = 1 := by rfl) (hw : (st.map fun v => v.category).sum ≤ 8 := by exact Nat.le_of_ble_eq_true rfl) : xa_X K tx (d + 1) y pc ls (w2 :: w1 :: st) h mc ms Q :=
  xx_callS (As := [w1, w2]) (mc' := 0) (ms' := 0) hd hl (by intro v hv; simp only [List.mem_cons, List.not_mem_nil, or_false] at hv; rcases hv with rfl | rfl <;> assumption) hw xq_n k1 (fun v h' q => by obtain ⟨e1, e2⟩ := q; cases e1; cases e2; exact k2)
theorem xc_S2v {i y' : Nat} {w1 w2 : Value} {h1 : xa_H} (hd : xa_d K y pc (.invokestatic i) 3 n') (hl : xa_lkS K (K.1 y).1.cls i y' 2) (k1 : xa_X K tx d y' 0 (xa_ent (K.1 y').2.2.1 ([w1, w2])) [] h 0 0 (xq none h1)) (k2 : xa_X K tx (d + 1) y n' ls (st) h1 mc ms Q) (c1 : w1.category = 1 := by rfl) (c2 : w2.category = 1 := by rfl) (hw : (st.map fun v => v.category).sum ≤ 8 := by exact Nat.le_of_ble_eq_true rfl) : xa_X K tx (d + 1) y pc ls (w2 :: w1 :: st) h mc ms Q :=
  xx_callS (As := [w1, w2]) (mc' := 0) (ms' := 0) hd hl (by intro v hv; simp only [List.mem_cons, List.not_mem_nil, or_false] at hv; rcases hv with rfl | rfl <;> assumption) hw xq_n k1 (fun v h' q => by obtain ⟨e1, e2⟩ := q; cases e1; cases e2; exact k2)
theorem xc_S2r {i y' : Nat} {w1 w2 : Value} {r : Nat} {h1 : xa_H} (hd : xa_d K y pc (.invokestatic i) 3 n') (hl : xa_lkS K (K.1 y).1.cls i y' 2) (k1 : xa_X K tx d y' 0 (xa_ent (K.1 y').2.2.1 ([w1, w2])) [] h 0 0 (xq (some (.ref r)) h1)) (k2 : xa_X K tx (d + 1) y n' ls (.ref r :: st) h1 mc ms Q) (c1 : w1.category = 1 := by rfl) (c2 : w2.category = 1 := by rfl) (hw : (st.map fun v => v.category).sum ≤ 8 := by exact Nat.le_of_ble_eq_true rfl) : xa_X K tx (d + 1) y pc ls (w2 :: w1 :: st) h mc ms Q :=
  xx_callS (As := [w1, w2]) (mc' := 0) (ms' := 0) hd hl (by intro v hv; simp only [List.mem_cons, List.not_mem_nil, or_false] at hv; rcases hv with rfl | rfl <;> assumption) hw xq_n k1 (fun v h' q => by obtain ⟨e1, e2⟩ := q; cases e1; cases e2; exact k2)
theorem xc_I2 {i y' mc' ms' : Nat} {a : Nat} {w1 w2 : Value} {P : xa_Q} (hd : xa_d K y pc (.invokespecial i) 3 n') (hl : xa_lkI K (K.1 y).1.cls i y' 2) (hP : ∀ E h', ¬ P (.inr E) h') (k1 : xa_X K tx d y' 0 (xa_ent (K.1 y').2.2.1 (.ref a :: [w1, w2])) [] h mc' ms' P) (k2 : ∀ (v : Option Value) (h' : xa_H), P (.inl v) h' → xa_X K tx (d + 1) y n' ls (v.toList ++ st) h' mc ms Q) (c1 : w1.category = 1 := by rfl) (c2 : w2.category = 1 := by rfl) (hw : (st.map fun v => v.category).sum ≤ 8 := by exact Nat.le_of_ble_eq_true rfl) : xa_X K tx (d + 1) y pc ls (w2 :: w1 :: .ref a :: st) h (mc + mc') (ms + ms') Q :=
  xx_callI (As := [w1, w2]) hd hl (by intro v hv; simp only [List.mem_cons, List.not_mem_nil, or_false] at hv; rcases hv with rfl | rfl <;> assumption) hw hP k1 k2
theorem xc_I2i {i y' : Nat} {a : Nat} {w1 w2 : Value} {r : Int32} {h1 : xa_H} (hd : xa_d K y pc (.invokespecial i) 3 n') (hl : xa_lkI K (K.1 y).1.cls i y' 2) (k1 : xa_X K tx d y' 0 (xa_ent (K.1 y').2.2.1 (.ref a :: [w1, w2])) [] h 0 0 (xq (some (.int r)) h1)) (k2 : xa_X K tx (d + 1) y n' ls (.int r :: st) h1 mc ms Q) (c1 : w1.category = 1 := by rfl) (c2 : w2.category = 1 := by rfl) (hw : (st.map fun v => v.category).sum ≤ 8 := by exact Nat.le_of_ble_eq_true rfl) : xa_X K tx (d + 1) y pc ls (w2 :: w1 :: .ref a :: st) h mc ms Q :=
  xx_callI (As := [w1, w2]) (mc' := 0) (ms' := 0) hd hl (by intro v hv; simp only [List.mem_cons, List.not_mem_nil, or_false] at hv; rcases hv with rfl | rfl <;> assumption) hw xq_n k1 (fun v h' q => by obtain ⟨e1, e2⟩ := q; cases e1; cases e2; exact k2)
theorem xc_I2v {i y' : Nat} {a : Nat} {w1 w2 : Value} {h1 : xa_H} (hd : xa_d K y pc (.invokespecial i) 3 n') (hl : xa_lkI K (K.1 y).1.cls i y' 2) (k1 : xa_X K tx d y' 0 (xa_ent (K.1 y').2.2.1 (.ref a :: [w1, w2])) [] h 0 0 (xq none h1)) (k2 : xa_X K tx (d + 1) y n' ls (st) h1 mc ms Q) (c1 : w1.category = 1 := by rfl) (c2 : w2.category = 1 := by rfl) (hw : (st.map fun v => v.category).sum ≤ 8 := by exact Nat.le_of_ble_eq_true rfl) : xa_X K tx (d + 1) y pc ls (w2 :: w1 :: .ref a :: st) h mc ms Q :=
  xx_callI (As := [w1, w2]) (mc' := 0) (ms' := 0) hd hl (by intro v hv; simp only [List.mem_cons, List.not_mem_nil, or_false] at hv; rcases hv with rfl | rfl <;> assumption) hw xq_n k1 (fun v h' q => by obtain ⟨e1, e2⟩ := q; cases e1; cases e2; exact k2)
theorem xc_I2r {i y' : Nat} {a : Nat} {w1 w2 : Value} {r : Nat} {h1 : xa_H} (hd : xa_d K y pc (.invokespecial i) 3 n') (hl : xa_lkI K (K.1 y).1.cls i y' 2) (k1 : xa_X K tx d y' 0 (xa_ent (K.1 y').2.2.1 (.ref a :: [w1, w2])) [] h 0 0 (xq (some (.ref r)) h1)) (k2 : xa_X K tx (d + 1) y n' ls (.ref r :: st) h1 mc ms Q) (c1 : w1.category = 1 := by rfl) (c2 : w2.category = 1 := by rfl) (hw : (st.map fun v => v.category).sum ≤ 8 := by exact Nat.le_of_ble_eq_true rfl) : xa_X K tx (d + 1) y pc ls (w2 :: w1 :: .ref a :: st) h mc ms Q :=
  xx_callI (As := [w1, w2]) (mc' := 0) (ms' := 0) hd hl (by intro v hv; simp only [List.mem_cons, List.not_mem_nil, or_false] at hv; rcases hv with rfl | rfl <;> assumption) hw xq_n k1 (fun v h' q => by obtain ⟨e1, e2⟩ := q; cases e1; cases e2; exact k2)
theorem xc_V3 {i y' mc' ms' : Nat} {fs : List Value} {ci : Nat} {a : Nat} {w1 w2 w3 : Value} {P : xa_Q} (hd : xa_d K y pc (.invokevirtual i) 3 n') (hl : xa_lkV K (K.1 y).1.cls i ci y' 3) (hh : h.2 a = .inr (ci, fs)) (hP : ∀ E h', ¬ P (.inr E) h') (k1 : xa_X K tx d y' 0 (xa_ent (K.1 y').2.2.1 (.ref a :: [w1, w2, w3])) [] h mc' ms' P) (k2 : ∀ (v : Option Value) (h' : xa_H), P (.inl v) h' → xa_X K tx (d + 1) y n' ls (v.toList ++ st) h' mc ms Q) (c1 : w1.category = 1 := by rfl) (c2 : w2.category = 1 := by rfl) (c3 : w3.category = 1 := by rfl) (hw : (st.map fun v => v.category).sum ≤ 8 := by exact Nat.le_of_ble_eq_true rfl) : xa_X K tx (d + 1) y pc ls (w3 :: w2 :: w1 :: .ref a :: st) h (mc + mc') (ms + ms') Q :=
  xx_callV (As := [w1, w2, w3]) hd hl hh (by intro v hv; simp only [List.mem_cons, List.not_mem_nil, or_false] at hv; rcases hv with rfl | rfl | rfl <;> assumption) hw hP k1 k2
theorem xc_V3i {i y' : Nat} {ci : Nat} {fs : List Value} {a : Nat} {w1 w2 w3 : Value} {r : Int32} {h1 : xa_H} (hd : xa_d K y pc (.invokevirtual i) 3 n') (hl : xa_lkV K (K.1 y).1.cls i ci y' 3) (hh : h.2 a = .inr (ci, fs)) (k1 : xa_X K tx d y' 0 (xa_ent (K.1 y').2.2.1 (.ref a :: [w1, w2, w3])) [] h 0 0 (xq (some (.int r)) h1)) (k2 : xa_X K tx (d + 1) y n' ls (.int r :: st) h1 mc ms Q) (c1 : w1.category = 1 := by rfl) (c2 : w2.category = 1 := by rfl) (c3 : w3.category = 1 := by rfl) (hw : (st.map fun v => v.category).sum ≤ 8 := by exact Nat.le_of_ble_eq_true rfl) : xa_X K tx (d + 1) y pc ls (w3 :: w2 :: w1 :: .ref a :: st) h mc ms Q :=
  xx_callV (As := [w1, w2, w3]) (mc' := 0) (ms' := 0) hd hl hh (by intro v hv; simp only [List.mem_cons, List.not_mem_nil, or_false] at hv; rcases hv with rfl | rfl | rfl <;> assumption) hw xq_n k1 (fun v h' q => by obtain ⟨e1, e2⟩ := q; cases e1; cases e2; exact k2)
theorem xc_V3v {i y' : Nat} {ci : Nat} {fs : List Value} {a : Nat} {w1 w2 w3 : Value} {h1 : xa_H} (hd : xa_d K y pc (.invokevirtual i) 3 n') (hl : xa_lkV K (K.1 y).1.cls i ci y' 3) (hh : h.2 a = .inr (ci, fs)) (k1 : xa_X K tx d y' 0 (xa_ent (K.1 y').2.2.1 (.ref a :: [w1, w2, w3])) [] h 0 0 (xq none h1)) (k2 : xa_X K tx (d + 1) y n' ls (st) h1 mc ms Q) (c1 : w1.category = 1 := by rfl) (c2 : w2.category = 1 := by rfl) (c3 : w3.category = 1 := by rfl) (hw : (st.map fun v => v.category).sum ≤ 8 := by exact Nat.le_of_ble_eq_true rfl) : xa_X K tx (d + 1) y pc ls (w3 :: w2 :: w1 :: .ref a :: st) h mc ms Q :=
  xx_callV (As := [w1, w2, w3]) (mc' := 0) (ms' := 0) hd hl hh (by intro v hv; simp only [List.mem_cons, List.not_mem_nil, or_false] at hv; rcases hv with rfl | rfl | rfl <;> assumption) hw xq_n k1 (fun v h' q => by obtain ⟨e1, e2⟩ := q; cases e1; cases e2; exact k2)
theorem xc_V3r {i y' : Nat} {ci : Nat} {fs : List Value} {a : Nat} {w1 w2 w3 : Value} {r : Nat} {h1 : xa_H} (hd : xa_d K y pc (.invokevirtual i) 3 n') (hl : xa_lkV K (K.1 y).1.cls i ci y' 3) (hh : h.2 a = .inr (ci, fs)) (k1 : xa_X K tx d y' 0 (xa_ent (K.1 y').2.2.1 (.ref a :: [w1, w2, w3])) [] h 0 0 (xq (some (.ref r)) h1)) (k2 : xa_X K tx (d + 1) y n' ls (.ref r :: st) h1 mc ms Q) (c1 : w1.category = 1 := by rfl) (c2 : w2.category = 1 := by rfl) (c3 : w3.category = 1 := by rfl) (hw : (st.map fun v => v.category).sum ≤ 8 := by exact Nat.le_of_ble_eq_true rfl) : xa_X K tx (d + 1) y pc ls (w3 :: w2 :: w1 :: .ref a :: st) h mc ms Q :=
  xx_callV (As := [w1, w2, w3]) (mc' := 0) (ms' := 0) hd hl hh (by intro v hv; simp only [List.mem_cons, List.not_mem_nil, or_false] at hv; rcases hv with rfl | rfl | rfl <;> assumption) hw xq_n k1 (fun v h' q => by obtain ⟨e1, e2⟩ := q; cases e1; cases e2; exact k2)
theorem xc_S3 {i y' mc' ms' : Nat} {w1 w2 w3 : Value} {P : xa_Q} (hd : xa_d K y pc (.invokestatic i) 3 n') (hl : xa_lkS K (K.1 y).1.cls i y' 3) (hP : ∀ E h', ¬ P (.inr E) h') (k1 : xa_X K tx d y' 0 (xa_ent (K.1 y').2.2.1 ([w1, w2, w3])) [] h mc' ms' P) (k2 : ∀ (v : Option Value) (h' : xa_H), P (.inl v) h' → xa_X K tx (d + 1) y n' ls (v.toList ++ st) h' mc ms Q) (c1 : w1.category = 1 := by rfl) (c2 : w2.category = 1 := by rfl) (c3 : w3.category = 1 := by rfl) (hw : (st.map fun v => v.category).sum ≤ 8 := by exact Nat.le_of_ble_eq_true rfl) : xa_X K tx (d + 1) y pc ls (w3 :: w2 :: w1 :: st) h (mc + mc') (ms + ms') Q :=
  xx_callS (As := [w1, w2, w3]) hd hl (by intro v hv; simp only [List.mem_cons, List.not_mem_nil, or_false] at hv; rcases hv with rfl | rfl | rfl <;> assumption) hw hP k1 k2
theorem xc_S3i {i y' : Nat} {w1 w2 w3 : Value} {r : Int32} {h1 : xa_H} (hd : xa_d K y pc (.invokestatic i) 3 n') (hl : xa_lkS K (K.1 y).1.cls i y' 3) (k1 : xa_X K tx d y' 0 (xa_ent (K.1 y').2.2.1 ([w1, w2, w3])) [] h 0 0 (xq (some (.int r)) h1)) (k2 : xa_X K tx (d + 1) y n' ls (.int r :: st) h1 mc ms Q) (c1 : w1.category = 1 := by rfl) (c2 : w2.category = 1 := by rfl) (c3 : w3.category = 1 := by rfl) (hw : (st.map fun v => v.category).sum ≤ 8 := by exact Nat.le_of_ble_eq_true rfl) : xa_X K tx (d + 1) y pc ls (w3 :: w2 :: w1 :: st) h mc ms Q :=
  xx_callS (As := [w1, w2, w3]) (mc' := 0) (ms' := 0) hd hl (by intro v hv; simp only [List.mem_cons, List.not_mem_nil, or_false] at hv; rcases hv with rfl | rfl | rfl <;> assumption) hw xq_n k1 (fun v h' q => by obtain ⟨e1, e2⟩ := q; cases e1; cases e2; exact k2)
theorem xc_S3v {i y' : Nat} {w1 w2 w3 : Value} {h1 : xa_H} (hd : xa_d K y pc (.invokestatic i) 3 n') (hl : xa_lkS K (K.1 y).1.cls i y' 3) (k1 : xa_X K tx d y' 0 (xa_ent (K.1 y').2.2.1 ([w1, w2, w3])) [] h 0 0 (xq none h1)) (k2 : xa_X K tx (d + 1) y n' ls (st) h1 mc ms Q) (c1 : w1.category = 1 := by rfl) (c2 : w2.category = 1 := by rfl) (c3 : w3.category = 1 := by rfl) (hw : (st.map fun v => v.category).sum ≤ 8 := by exact Nat.le_of_ble_eq_true rfl) : xa_X K tx (d + 1) y pc ls (w3 :: w2 :: w1 :: st) h mc ms Q :=
  xx_callS (As := [w1, w2, w3]) (mc' := 0) (ms' := 0) hd hl (by intro v hv; simp only [List.mem_cons, List.not_mem_nil, or_false] at hv; rcases hv with rfl | rfl | rfl <;> assumption) hw xq_n k1 (fun v h' q => by obtain ⟨e1, e2⟩ := q; cases e1; cases e2; exact k2)
theorem xc_S3r {i y' : Nat} {w1 w2 w3 : Value} {r : Nat} {h1 : xa_H} (hd : xa_d K y pc (.invokestatic i) 3 n') (hl : xa_lkS K (K.1 y).1.cls i y' 3) (k1 : xa_X K tx d y' 0 (xa_ent (K.1 y').2.2.1 ([w1, w2, w3])) [] h 0 0 (xq (some (.ref r)) h1)) (k2 : xa_X K tx (d + 1) y n' ls (.ref r :: st) h1 mc ms Q) (c1 : w1.category = 1 := by rfl) (c2 : w2.category = 1 := by rfl) (c3 : w3.category = 1 := by rfl) (hw : (st.map fun v => v.category).sum ≤ 8 := by exact Nat.le_of_ble_eq_true rfl) : xa_X K tx (d + 1) y pc ls (w3 :: w2 :: w1 :: st) h mc ms Q :=
  xx_callS (As := [w1, w2, w3]) (mc' := 0) (ms' := 0) hd hl (by intro v hv; simp only [List.mem_cons, List.not_mem_nil, or_false] at hv; rcases hv with rfl | rfl | rfl <;> assumption) hw xq_n k1 (fun v h' q => by obtain ⟨e1, e2⟩ := q; cases e1; cases e2; exact k2)
theorem xc_I3 {i y' mc' ms' : Nat} {a : Nat} {w1 w2 w3 : Value} {P : xa_Q} (hd : xa_d K y pc (.invokespecial i) 3 n') (hl : xa_lkI K (K.1 y).1.cls i y' 3) (hP : ∀ E h', ¬ P (.inr E) h') (k1 : xa_X K tx d y' 0 (xa_ent (K.1 y').2.2.1 (.ref a :: [w1, w2, w3])) [] h mc' ms' P) (k2 : ∀ (v : Option Value) (h' : xa_H), P (.inl v) h' → xa_X K tx (d + 1) y n' ls (v.toList ++ st) h' mc ms Q) (c1 : w1.category = 1 := by rfl) (c2 : w2.category = 1 := by rfl) (c3 : w3.category = 1 := by rfl) (hw : (st.map fun v => v.category).sum ≤ 8 := by exact Nat.le_of_ble_eq_true rfl) : xa_X K tx (d + 1) y pc ls (w3 :: w2 :: w1 :: .ref a :: st) h (mc + mc') (ms + ms') Q :=
  xx_callI (As := [w1, w2, w3]) hd hl (by intro v hv; simp only [List.mem_cons, List.not_mem_nil, or_false] at hv; rcases hv with rfl | rfl | rfl <;> assumption) hw hP k1 k2
theorem xc_I3i {i y' : Nat} {a : Nat} {w1 w2 w3 : Value} {r : Int32} {h1 : xa_H} (hd : xa_d K y pc (.invokespecial i) 3 n') (hl : xa_lkI K (K.1 y).1.cls i y' 3) (k1 : xa_X K tx d y' 0 (xa_ent (K.1 y').2.2.1 (.ref a :: [w1, w2, w3])) [] h 0 0 (xq (some (.int r)) h1)) (k2 : xa_X K tx (d + 1) y n' ls (.int r :: st) h1 mc ms Q) (c1 : w1.category = 1 := by rfl) (c2 : w2.category = 1 := by rfl) (c3 : w3.category = 1 := by rfl) (hw : (st.map fun v => v.category).sum ≤ 8 := by exact Nat.le_of_ble_eq_true rfl) : xa_X K tx (d + 1) y pc ls (w3 :: w2 :: w1 :: .ref a :: st) h mc ms Q :=
  xx_callI (As := [w1, w2, w3]) (mc' := 0) (ms' := 0) hd hl (by intro v hv; simp only [List.mem_cons, List.not_mem_nil, or_false] at hv; rcases hv with rfl | rfl | rfl <;> assumption) hw xq_n k1 (fun v h' q => by obtain ⟨e1, e2⟩ := q; cases e1; cases e2; exact k2)
theorem xc_I3v {i y' : Nat} {a : Nat} {w1 w2 w3 : Value} {h1 : xa_H} (hd : xa_d K y pc (.invokespecial i) 3 n') (hl : xa_lkI K (K.1 y).1.cls i y' 3) (k1 : xa_X K tx d y' 0 (xa_ent (K.1 y').2.2.1 (.ref a :: [w1, w2, w3])) [] h 0 0 (xq none h1)) (k2 : xa_X K tx (d + 1) y n' ls (st) h1 mc ms Q) (c1 : w1.category = 1 := by rfl) (c2 : w2.category = 1 := by rfl) (c3 : w3.category = 1 := by rfl) (hw : (st.map fun v => v.category).sum ≤ 8 := by exact Nat.le_of_ble_eq_true rfl) : xa_X K tx (d + 1) y pc ls (w3 :: w2 :: w1 :: .ref a :: st) h mc ms Q :=
  xx_callI (As := [w1, w2, w3]) (mc' := 0) (ms' := 0) hd hl (by intro v hv; simp only [List.mem_cons, List.not_mem_nil, or_false] at hv; rcases hv with rfl | rfl | rfl <;> assumption) hw xq_n k1 (fun v h' q => by obtain ⟨e1, e2⟩ := q; cases e1; cases e2; exact k2)
theorem xc_I3r {i y' : Nat} {a : Nat} {w1 w2 w3 : Value} {r : Nat} {h1 : xa_H} (hd : xa_d K y pc (.invokespecial i) 3 n') (hl : xa_lkI K (K.1 y).1.cls i y' 3) (k1 : xa_X K tx d y' 0 (xa_ent (K.1 y').2.2.1 (.ref a :: [w1, w2, w3])) [] h 0 0 (xq (some (.ref r)) h1)) (k2 : xa_X K tx (d + 1) y n' ls (.ref r :: st) h1 mc ms Q) (c1 : w1.category = 1 := by rfl) (c2 : w2.category = 1 := by rfl) (c3 : w3.category = 1 := by rfl) (hw : (st.map fun v => v.category).sum ≤ 8 := by exact Nat.le_of_ble_eq_true rfl) : xa_X K tx (d + 1) y pc ls (w3 :: w2 :: w1 :: .ref a :: st) h mc ms Q :=
  xx_callI (As := [w1, w2, w3]) (mc' := 0) (ms' := 0) hd hl (by intro v hv; simp only [List.mem_cons, List.not_mem_nil, or_false] at hv; rcases hv with rfl | rfl | rfl <;> assumption) hw xq_n k1 (fun v h' q => by obtain ⟨e1, e2⟩ := q; cases e1; cases e2; exact k2)
theorem xc_V4 {i y' mc' ms' : Nat} {fs : List Value} {ci : Nat} {a : Nat} {w1 w2 w3 w4 : Value} {P : xa_Q} (hd : xa_d K y pc (.invokevirtual i) 3 n') (hl : xa_lkV K (K.1 y).1.cls i ci y' 4) (hh : h.2 a = .inr (ci, fs)) (hP : ∀ E h', ¬ P (.inr E) h') (k1 : xa_X K tx d y' 0 (xa_ent (K.1 y').2.2.1 (.ref a :: [w1, w2, w3, w4])) [] h mc' ms' P) (k2 : ∀ (v : Option Value) (h' : xa_H), P (.inl v) h' → xa_X K tx (d + 1) y n' ls (v.toList ++ st) h' mc ms Q) (c1 : w1.category = 1 := by rfl) (c2 : w2.category = 1 := by rfl) (c3 : w3.category = 1 := by rfl) (c4 : w4.category = 1 := by rfl) (hw : (st.map fun v => v.category).sum ≤ 8 := by exact Nat.le_of_ble_eq_true rfl) : xa_X K tx (d + 1) y pc ls (w4 :: w3 :: w2 :: w1 :: .ref a :: st) h (mc + mc') (ms + ms') Q :=
  xx_callV (As := [w1, w2, w3, w4]) hd hl hh (by intro v hv; simp only [List.mem_cons, List.not_mem_nil, or_false] at hv; rcases hv with rfl | rfl | rfl | rfl <;> assumption) hw hP k1 k2
theorem xc_V4i {i y' : Nat} {ci : Nat} {fs : List Value} {a : Nat} {w1 w2 w3 w4 : Value} {r : Int32} {h1 : xa_H} (hd : xa_d K y pc (.invokevirtual i) 3 n') (hl : xa_lkV K (K.1 y).1.cls i ci y' 4) (hh : h.2 a = .inr (ci, fs)) (k1 : xa_X K tx d y' 0 (xa_ent (K.1 y').2.2.1 (.ref a :: [w1, w2, w3, w4])) [] h 0 0 (xq (some (.int r)) h1)) (k2 : xa_X K tx (d + 1) y n' ls (.int r :: st) h1 mc ms Q) (c1 : w1.category = 1 := by rfl) (c2 : w2.category = 1 := by rfl) (c3 : w3.category = 1 := by rfl) (c4 : w4.category = 1 := by rfl) (hw : (st.map fun v => v.category).sum ≤ 8 := by exact Nat.le_of_ble_eq_true rfl) : xa_X K tx (d + 1) y pc ls (w4 :: w3 :: w2 :: w1 :: .ref a :: st) h mc ms Q :=
  xx_callV (As := [w1, w2, w3, w4]) (mc' := 0) (ms' := 0) hd hl hh (by intro v hv; simp only [List.mem_cons, List.not_mem_nil, or_false] at hv; rcases hv with rfl | rfl | rfl | rfl <;> assumption) hw xq_n k1 (fun v h' q => by obtain ⟨e1, e2⟩ := q; cases e1; cases e2; exact k2)
theorem xc_V4v {i y' : Nat} {ci : Nat} {fs : List Value} {a : Nat} {w1 w2 w3 w4 : Value} {h1 : xa_H} (hd : xa_d K y pc (.invokevirtual i) 3 n') (hl : xa_lkV K (K.1 y).1.cls i ci y' 4) (hh : h.2 a = .inr (ci, fs)) (k1 : xa_X K tx d y' 0 (xa_ent (K.1 y').2.2.1 (.ref a :: [w1, w2, w3, w4])) [] h 0 0 (xq none h1)) (k2 : xa_X K tx (d + 1) y n' ls (st) h1 mc ms Q) (c1 : w1.category = 1 := by rfl) (c2 : w2.category = 1 := by rfl) (c3 : w3.category = 1 := by rfl) (c4 : w4.category = 1 := by rfl) (hw : (st.map fun v => v.category).sum ≤ 8 := by exact Nat.le_of_ble_eq_true rfl) : xa_X K tx (d + 1) y pc ls (w4 :: w3 :: w2 :: w1 :: .ref a :: st) h mc ms Q :=
  xx_callV (As := [w1, w2, w3, w4]) (mc' := 0) (ms' := 0) hd hl hh (by intro v hv; simp only [List.mem_cons, List.not_mem_nil, or_false] at hv; rcases hv with rfl | rfl | rfl | rfl <;> assumption) hw xq_n k1 (fun v h' q => by obtain ⟨e1, e2⟩ := q; cases e1; cases e2; exact k2)
theorem xc_V4r {i y' : Nat} {ci : Nat} {fs : List Value} {a : Nat} {w1 w2 w3 w4 : Value} {r : Nat} {h1 : xa_H} (hd : xa_d K y pc (.invokevirtual i) 3 n') (hl : xa_lkV K (K.1 y).1.cls i ci y' 4) (hh : h.2 a = .inr (ci, fs)) (k1 : xa_X K tx d y' 0 (xa_ent (K.1 y').2.2.1 (.ref a :: [w1, w2, w3, w4])) [] h 0 0 (xq (some (.ref r)) h1)) (k2 : xa_X K tx (d + 1) y n' ls (.ref r :: st) h1 mc ms Q) (c1 : w1.category = 1 := by rfl) (c2 : w2.category = 1 := by rfl) (c3 : w3.category = 1 := by rfl) (c4 : w4.category = 1 := by rfl) (hw : (st.map fun v => v.category).sum ≤ 8 := by exact Nat.le_of_ble_eq_true rfl) : xa_X K tx (d + 1) y pc ls (w4 :: w3 :: w2 :: w1 :: .ref a :: st) h mc ms Q :=
  xx_callV (As := [w1, w2, w3, w4]) (mc' := 0) (ms' := 0) hd hl hh (by intro v hv; simp only [List.mem_cons, List.not_mem_nil, or_false] at hv; rcases hv with rfl | rfl | rfl | rfl <;> assumption) hw xq_n k1 (fun v h' q => by obtain ⟨e1, e2⟩ := q; cases e1; cases e2; exact k2)
theorem xc_S4 {i y' mc' ms' : Nat} {w1 w2 w3 w4 : Value} {P : xa_Q} (hd : xa_d K y pc (.invokestatic i) 3 n') (hl : xa_lkS K (K.1 y).1.cls i y' 4) (hP : ∀ E h', ¬ P (.inr E) h') (k1 : xa_X K tx d y' 0 (xa_ent (K.1 y').2.2.1 ([w1, w2, w3, w4])) [] h mc' ms' P) (k2 : ∀ (v : Option Value) (h' : xa_H), P (.inl v) h' → xa_X K tx (d + 1) y n' ls (v.toList ++ st) h' mc ms Q) (c1 : w1.category = 1 := by rfl) (c2 : w2.category = 1 := by rfl) (c3 : w3.category = 1 := by rfl) (c4 : w4.category = 1 := by rfl) (hw : (st.map fun v => v.category).sum ≤ 8 := by exact Nat.le_of_ble_eq_true rfl) : xa_X K tx (d + 1) y pc ls (w4 :: w3 :: w2 :: w1 :: st) h (mc + mc') (ms + ms') Q :=
  xx_callS (As := [w1, w2, w3, w4]) hd hl (by intro v hv; simp only [List.mem_cons, List.not_mem_nil, or_false] at hv; rcases hv with rfl | rfl | rfl | rfl <;> assumption) hw hP k1 k2
theorem xc_S4i {i y' : Nat} {w1 w2 w3 w4 : Value} {r : Int32} {h1 : xa_H} (hd : xa_d K y pc (.invokestatic i) 3 n') (hl : xa_lkS K (K.1 y).1.cls i y' 4) (k1 : xa_X K tx d y' 0 (xa_ent (K.1 y').2.2.1 ([w1, w2, w3, w4])) [] h 0 0 (xq (some (.int r)) h1)) (k2 : xa_X K tx (d + 1) y n' ls (.int r :: st) h1 mc ms Q) (c1 : w1.category = 1 := by rfl) (c2 : w2.category = 1 := by rfl) (c3 : w3.category = 1 := by rfl) (c4 : w4.category = 1 := by rfl) (hw : (st.map fun v => v.category).sum ≤ 8 := by exact Nat.le_of_ble_eq_true rfl) : xa_X K tx (d + 1) y pc ls (w4 :: w3 :: w2 :: w1 :: st) h mc ms Q :=
  xx_callS (As := [w1, w2, w3, w4]) (mc' := 0) (ms' := 0) hd hl (by intro v hv; simp only [List.mem_cons, List.not_mem_nil, or_false] at hv; rcases hv with rfl | rfl | rfl | rfl <;> assumption) hw xq_n k1 (fun v h' q => by obtain ⟨e1, e2⟩ := q; cases e1; cases e2; exact k2)
theorem xc_S4v {i y' : Nat} {w1 w2 w3 w4 : Value} {h1 : xa_H} (hd : xa_d K y pc (.invokestatic i) 3 n') (hl : xa_lkS K (K.1 y).1.cls i y' 4) (k1 : xa_X K tx d y' 0 (xa_ent (K.1 y').2.2.1 ([w1, w2, w3, w4])) [] h 0 0 (xq none h1)) (k2 : xa_X K tx (d + 1) y n' ls (st) h1 mc ms Q) (c1 : w1.category = 1 := by rfl) (c2 : w2.category = 1 := by rfl) (c3 : w3.category = 1 := by rfl) (c4 : w4.category = 1 := by rfl) (hw : (st.map fun v => v.category).sum ≤ 8 := by exact Nat.le_of_ble_eq_true rfl) : xa_X K tx (d + 1) y pc ls (w4 :: w3 :: w2 :: w1 :: st) h mc ms Q :=
  xx_callS (As := [w1, w2, w3, w4]) (mc' := 0) (ms' := 0) hd hl (by intro v hv; simp only [List.mem_cons, List.not_mem_nil, or_false] at hv; rcases hv with rfl | rfl | rfl | rfl <;> assumption) hw xq_n k1 (fun v h' q => by obtain ⟨e1, e2⟩ := q; cases e1; cases e2; exact k2)
theorem xc_S4r {i y' : Nat} {w1 w2 w3 w4 : Value} {r : Nat} {h1 : xa_H} (hd : xa_d K y pc (.invokestatic i) 3 n') (hl : xa_lkS K (K.1 y).1.cls i y' 4) (k1 : xa_X K tx d y' 0 (xa_ent (K.1 y').2.2.1 ([w1, w2, w3, w4])) [] h 0 0 (xq (some (.ref r)) h1)) (k2 : xa_X K tx (d + 1) y n' ls (.ref r :: st) h1 mc ms Q) (c1 : w1.category = 1 := by rfl) (c2 : w2.category = 1 := by rfl) (c3 : w3.category = 1 := by rfl) (c4 : w4.category = 1 := by rfl) (hw : (st.map fun v => v.category).sum ≤ 8 := by exact Nat.le_of_ble_eq_true rfl) : xa_X K tx (d + 1) y pc ls (w4 :: w3 :: w2 :: w1 :: st) h mc ms Q :=
  xx_callS (As := [w1, w2, w3, w4]) (mc' := 0) (ms' := 0) hd hl (by intro v hv; simp only [List.mem_cons, List.not_mem_nil, or_false] at hv; rcases hv with rfl | rfl | rfl | rfl <;> assumption) hw xq_n k1 (fun v h' q => by obtain ⟨e1, e2⟩ := q; cases e1; cases e2; exact k2)
theorem xc_I4 {i y' mc' ms' : Nat} {a : Nat} {w1 w2 w3 w4 : Value} {P : xa_Q} (hd : xa_d K y pc (.invokespecial i) 3 n') (hl : xa_lkI K (K.1 y).1.cls i y' 4) (hP : ∀ E h', ¬ P (.inr E) h') (k1 : xa_X K tx d y' 0 (xa_ent (K.1 y').2.2.1 (.ref a :: [w1, w2, w3, w4])) [] h mc' ms' P) (k2 : ∀ (v : Option Value) (h' : xa_H), P (.inl v) h' → xa_X K tx (d + 1) y n' ls (v.toList ++ st) h' mc ms Q) (c1 : w1.category = 1 := by rfl) (c2 : w2.category = 1 := by rfl) (c3 : w3.category = 1 := by rfl) (c4 : w4.category = 1 := by rfl) (hw : (st.map fun v => v.category).sum ≤ 8 := by exact Nat.le_of_ble_eq_true rfl) : xa_X K tx (d + 1) y pc ls (w4 :: w3 :: w2 :: w1 :: .ref a :: st) h (mc + mc') (ms + ms') Q :=
  xx_callI (As := [w1, w2, w3, w4]) hd hl (by intro v hv; simp only [List.mem_cons, List.not_mem_nil, or_false] at hv; rcases hv with rfl | rfl | rfl | rfl <;> assumption) hw hP k1 k2
theorem xc_I4i {i y' : Nat} {a : Nat} {w1 w2 w3 w4 : Value} {r : Int32} {h1 : xa_H} (hd : xa_d K y pc (.invokespecial i) 3 n') (hl : xa_lkI K (K.1 y).1.cls i y' 4) (k1 : xa_X K tx d y' 0 (xa_ent (K.1 y').2.2.1 (.ref a :: [w1, w2, w3, w4])) [] h 0 0 (xq (some (.int r)) h1)) (k2 : xa_X K tx (d + 1) y n' ls (.int r :: st) h1 mc ms Q) (c1 : w1.category = 1 := by rfl) (c2 : w2.category = 1 := by rfl) (c3 : w3.category = 1 := by rfl) (c4 : w4.category = 1 := by rfl) (hw : (st.map fun v => v.category).sum ≤ 8 := by exact Nat.le_of_ble_eq_true rfl) : xa_X K tx (d + 1) y pc ls (w4 :: w3 :: w2 :: w1 :: .ref a :: st) h mc ms Q :=
  xx_callI (As := [w1, w2, w3, w4]) (mc' := 0) (ms' := 0) hd hl (by intro v hv; simp only [List.mem_cons, List.not_mem_nil, or_false] at hv; rcases hv with rfl | rfl | rfl | rfl <;> assumption) hw xq_n k1 (fun v h' q => by obtain ⟨e1, e2⟩ := q; cases e1; cases e2; exact k2)
theorem xc_I4v {i y' : Nat} {a : Nat} {w1 w2 w3 w4 : Value} {h1 : xa_H} (hd : xa_d K y pc (.invokespecial i) 3 n') (hl : xa_lkI K (K.1 y).1.cls i y' 4) (k1 : xa_X K tx d y' 0 (xa_ent (K.1 y').2.2.1 (.ref a :: [w1, w2, w3, w4])) [] h 0 0 (xq none h1)) (k2 : xa_X K tx (d + 1) y n' ls (st) h1 mc ms Q) (c1 : w1.category = 1 := by rfl) (c2 : w2.category = 1 := by rfl) (c3 : w3.category = 1 := by rfl) (c4 : w4.category = 1 := by rfl) (hw : (st.map fun v => v.category).sum ≤ 8 := by exact Nat.le_of_ble_eq_true rfl) : xa_X K tx (d + 1) y pc ls (w4 :: w3 :: w2 :: w1 :: .ref a :: st) h mc ms Q :=
  xx_callI (As := [w1, w2, w3, w4]) (mc' := 0) (ms' := 0) hd hl (by intro v hv; simp only [List.mem_cons, List.not_mem_nil, or_false] at hv; rcases hv with rfl | rfl | rfl | rfl <;> assumption) hw xq_n k1 (fun v h' q => by obtain ⟨e1, e2⟩ := q; cases e1; cases e2; exact k2)
theorem xc_I4r {i y' : Nat} {a : Nat} {w1 w2 w3 w4 : Value} {r : Nat} {h1 : xa_H} (hd : xa_d K y pc (.invokespecial i) 3 n') (hl : xa_lkI K (K.1 y).1.cls i y' 4) (k1 : xa_X K tx d y' 0 (xa_ent (K.1 y').2.2.1 (.ref a :: [w1, w2, w3, w4])) [] h 0 0 (xq (some (.ref r)) h1)) (k2 : xa_X K tx (d + 1) y n' ls (.ref r :: st) h1 mc ms Q) (c1 : w1.category = 1 := by rfl) (c2 : w2.category = 1 := by rfl) (c3 : w3.category = 1 := by rfl) (c4 : w4.category = 1 := by rfl) (hw : (st.map fun v => v.category).sum ≤ 8 := by exact Nat.le_of_ble_eq_true rfl) : xa_X K tx (d + 1) y pc ls (w4 :: w3 :: w2 :: w1 :: .ref a :: st) h mc ms Q :=
  xx_callI (As := [w1, w2, w3, w4]) (mc' := 0) (ms' := 0) hd hl (by intro v hv; simp only [List.mem_cons, List.not_mem_nil, or_false] at hv; rcases hv with rfl | rfl | rfl | rfl <;> assumption) hw xq_n k1 (fun v h' q => by obtain ⟨e1, e2⟩ := q; cases e1; cases e2; exact k2)
theorem xc_V5 {i y' mc' ms' : Nat} {fs : List Value} {ci : Nat} {a : Nat} {w1 w2 w3 w4 w5 : Value} {P : xa_Q} (hd : xa_d K y pc (.invokevirtual i) 3 n') (hl : xa_lkV K (K.1 y).1.cls i ci y' 5) (hh : h.2 a = .inr (ci, fs)) (hP : ∀ E h', ¬ P (.inr E) h') (k1 : xa_X K tx d y' 0 (xa_ent (K.1 y').2.2.1 (.ref a :: [w1, w2, w3, w4, w5])) [] h mc' ms' P) (k2 : ∀ (v : Option Value) (h' : xa_H), P (.inl v) h' → xa_X K tx (d + 1) y n' ls (v.toList ++ st) h' mc ms Q) (c1 : w1.category = 1 := by rfl) (c2 : w2.category = 1 := by rfl) (c3 : w3.category = 1 := by rfl) (c4 : w4.category = 1 := by rfl) (c5 : w5.category = 1 := by rfl) (hw : (st.map fun v => v.category).sum ≤ 8 := by exact Nat.le_of_ble_eq_true rfl) : xa_X K tx (d + 1) y pc ls (w5 :: w4 :: w3 :: w2 :: w1 :: .ref a :: st) h (mc + mc') (ms + ms') Q :=
  xx_callV (As := [w1, w2, w3, w4, w5]) hd hl hh (by intro v hv; simp only [List.mem_cons, List.not_mem_nil, or_false] at hv; rcases hv with rfl | rfl | rfl | rfl | rfl <;> assumption) hw hP k1 k2
theorem xc_V5i {i y' : Nat} {ci : Nat} {fs : List Value} {a : Nat} {w1 w2 w3 w4 w5 : Value} {r : Int32} {h1 : xa_H} (hd : xa_d K y pc (.invokevirtual i) 3 n') (hl : xa_lkV K (K.1 y).1.cls i ci y' 5) (hh : h.2 a = .inr (ci, fs)) (k1 : xa_X K tx d y' 0 (xa_ent (K.1 y').2.2.1 (.ref a :: [w1, w2, w3, w4, w5])) [] h 0 0 (xq (some (.int r)) h1)) (k2 : xa_X K tx (d + 1) y n' ls (.int r :: st) h1 mc ms Q) (c1 : w1.category = 1 := by rfl) (c2 : w2.category = 1 := by rfl) (c3 : w3.category = 1 := by rfl) (c4 : w4.category = 1 := by rfl) (c5 : w5.category = 1 := by rfl) (hw : (st.map fun v => v.category).sum ≤ 8 := by exact Nat.le_of_ble_eq_true rfl) : xa_X K tx (d + 1) y pc ls (w5 :: w4 :: w3 :: w2 :: w1 :: .ref a :: st) h mc ms Q :=
  xx_callV (As := [w1, w2, w3, w4, w5]) (mc' := 0) (ms' := 0) hd hl hh (by intro v hv; simp only [List.mem_cons, List.not_mem_nil, or_false] at hv; rcases hv with rfl | rfl | rfl | rfl | rfl <;> assumption) hw xq_n k1 (fun v h' q => by obtain ⟨e1, e2⟩ := q; cases e1; cases e2; exact k2)
theorem xc_V5v {i y' : Nat} {ci : Nat} {fs : List Value} {a : Nat} {w1 w2 w3 w4 w5 : Value} {h1 : xa_H} (hd : xa_d K y pc (.invokevirtual i) 3 n') (hl : xa_lkV K (K.1 y).1.cls i ci y' 5) (hh : h.2 a = .inr (ci, fs)) (k1 : xa_X K tx d y' 0 (xa_ent (K.1 y').2.2.1 (.ref a :: [w1, w2, w3, w4, w5])) [] h 0 0 (xq none h1)) (k2 : xa_X K tx (d + 1) y n' ls (st) h1 mc ms Q) (c1 : w1.category = 1 := by rfl) (c2 : w2.category = 1 := by rfl) (c3 : w3.category = 1 := by rfl) (c4 : w4.category = 1 := by rfl) (c5 : w5.category = 1 := by rfl) (hw : (st.map fun v => v.category).sum ≤ 8 := by exact Nat.le_of_ble_eq_true rfl) : xa_X K tx (d + 1) y pc ls (w5 :: w4 :: w3 :: w2 :: w1 :: .ref a :: st) h mc ms Q :=
  xx_callV (As := [w1, w2, w3, w4, w5]) (mc' := 0) (ms' := 0) hd hl hh (by intro v hv; simp only [List.mem_cons, List.not_mem_nil, or_false] at hv; rcases hv with rfl | rfl | rfl | rfl | rfl <;> assumption) hw xq_n k1 (fun v h' q => by obtain ⟨e1, e2⟩ := q; cases e1; cases e2; exact k2)
theorem xc_V5r {i y' : Nat} {ci : Nat} {fs : List Value} {a : Nat} {w1 w2 w3 w4 w5 : Value} {r : Nat} {h1 : xa_H} (hd : xa_d K y pc (.invokevirtual i) 3 n') (hl : xa_lkV K (K.1 y).1.cls i ci y' 5) (hh : h.2 a = .inr (ci, fs)) (k1 : xa_X K tx d y' 0 (xa_ent (K.1 y').2.2.1 (.ref a :: [w1, w2, w3, w4, w5])) [] h 0 0 (xq (some (.ref r)) h1)) (k2 : xa_X K tx (d + 1) y n' ls (.ref r :: st) h1 mc ms Q) (c1 : w1.category = 1 := by rfl) (c2 : w2.category = 1 := by rfl) (c3 : w3.category = 1 := by rfl) (c4 : w4.category = 1 := by rfl) (c5 : w5.category = 1 := by rfl) (hw : (st.map fun v => v.category).sum ≤ 8 := by exact Nat.le_of_ble_eq_true rfl) : xa_X K tx (d + 1) y pc ls (w5 :: w4 :: w3 :: w2 :: w1 :: .ref a :: st) h mc ms Q :=
  xx_callV (As := [w1, w2, w3, w4, w5]) (mc' := 0) (ms' := 0) hd hl hh (by intro v hv; simp only [List.mem_cons, List.not_mem_nil, or_false] at hv; rcases hv with rfl | rfl | rfl | rfl | rfl <;> assumption) hw xq_n k1 (fun v h' q => by obtain ⟨e1, e2⟩ := q; cases e1; cases e2; exact k2)
theorem xc_S5 {i y' mc' ms' : Nat} {w1 w2 w3 w4 w5 : Value} {P : xa_Q} (hd : xa_d K y pc (.invokestatic i) 3 n') (hl : xa_lkS K (K.1 y).1.cls i y' 5) (hP : ∀ E h', ¬ P (.inr E) h') (k1 : xa_X K tx d y' 0 (xa_ent (K.1 y').2.2.1 ([w1, w2, w3, w4, w5])) [] h mc' ms' P) (k2 : ∀ (v : Option Value) (h' : xa_H), P (.inl v) h' → xa_X K tx (d + 1) y n' ls (v.toList ++ st) h' mc ms Q) (c1 : w1.category = 1 := by rfl) (c2 : w2.category = 1 := by rfl) (c3 : w3.category = 1 := by rfl) (c4 : w4.category = 1 := by rfl) (c5 : w5.category = 1 := by rfl) (hw : (st.map fun v => v.category).sum ≤ 8 := by exact Nat.le_of_ble_eq_true rfl) : xa_X K tx (d + 1) y pc ls (w5 :: w4 :: w3 :: w2 :: w1 :: st) h (mc + mc') (ms + ms') Q :=
  xx_callS (As := [w1, w2, w3, w4, w5]) hd hl (by intro v hv; simp only [List.mem_cons, List.not_mem_nil, or_false] at hv; rcases hv with rfl | rfl | rfl | rfl | rfl <;> assumption) hw hP k1 k2
theorem xc_S5i {i y' : Nat} {w1 w2 w3 w4 w5 : Value} {r : Int32} {h1 : xa_H} (hd : xa_d K y pc (.invokestatic i) 3 n') (hl : xa_lkS K (K.1 y).1.cls i y' 5) (k1 : xa_X K tx d y' 0 (xa_ent (K.1 y').2.2.1 ([w1, w2, w3, w4, w5])) [] h 0 0 (xq (some (.int r)) h1)) (k2 : xa_X K tx (d + 1) y n' ls (.int r :: st) h1 mc ms Q) (c1 : w1.category = 1 := by rfl) (c2 : w2.category = 1 := by rfl) (c3 : w3.category = 1 := by rfl) (c4 : w4.category = 1 := by rfl) (c5 : w5.category = 1 := by rfl) (hw : (st.map fun v => v.category).sum ≤ 8 := by exact Nat.le_of_ble_eq_true rfl) : xa_X K tx (d + 1) y pc ls (w5 :: w4 :: w3 :: w2 :: w1 :: st) h mc ms Q :=
  xx_callS (As := [w1, w2, w3, w4, w5]) (mc' := 0) (ms' := 0) hd hl (by intro v hv; simp only [List.mem_cons, List.not_mem_nil, or_false] at hv; rcases hv with rfl | rfl | rfl | rfl | rfl <;> assumption) hw xq_n k1 (fun v h' q => by obtain ⟨e1, e2⟩ := q; cases e1; cases e2; exact k2)
theorem xc_S5v {i y' : Nat} {w1 w2 w3 w4 w5 : Value} {h1 : xa_H} (hd : xa_d K y pc (.invokestatic i) 3 n') (hl : xa_lkS K (K.1 y).1.cls i y' 5) (k1 : xa_X K tx d y' 0 (xa_ent (K.1 y').2.2.1 ([w1, w2, w3, w4, w5])) [] h 0 0 (xq none h1)) (k2 : xa_X K tx (d + 1) y n' ls (st) h1 mc ms Q) (c1 : w1.category = 1 := by rfl) (c2 : w2.category = 1 := by rfl) (c3 : w3.category = 1 := by rfl) (c4 : w4.category = 1 := by rfl) (c5 : w5.category = 1 := by rfl) (hw : (st.map fun v => v.category).sum ≤ 8 := by exact Nat.le_of_ble_eq_true rfl) : xa_X K tx (d + 1) y pc ls (w5 :: w4 :: w3 :: w2 :: w1 :: st) h mc ms Q :=
  xx_callS (As := [w1, w2, w3, w4, w5]) (mc' := 0) (ms' := 0) hd hl (by intro v hv; simp only [List.mem_cons, List.not_mem_nil, or_false] at hv; rcases hv with rfl | rfl | rfl | rfl | rfl <;> assumption) hw xq_n k1 (fun v h' q => by obtain ⟨e1, e2⟩ := q; cases e1; cases e2; exact k2)
theorem xc_S5r {i y' : Nat} {w1 w2 w3 w4 w5 : Value} {r : Nat} {h1 : xa_H} (hd : xa_d K y pc (.invokestatic i) 3 n') (hl : xa_lkS K (K.1 y).1.cls i y' 5) (k1 : xa_X K tx d y' 0 (xa_ent (K.1 y').2.2.1 ([w1, w2, w3, w4, w5])) [] h 0 0 (xq (some (.ref r)) h1)) (k2 : xa_X K tx (d + 1) y n' ls (.ref r :: st) h1 mc ms Q) (c1 : w1.category = 1 := by rfl) (c2 : w2.category = 1 := by rfl) (c3 : w3.category = 1 := by rfl) (c4 : w4.category = 1 := by rfl) (c5 : w5.category = 1 := by rfl) (hw : (st.map fun v => v.category).sum ≤ 8 := by exact Nat.le_of_ble_eq_true rfl) : xa_X K tx (d + 1) y pc ls (w5 :: w4 :: w3 :: w2 :: w1 :: st) h mc ms Q :=
  xx_callS (As := [w1, w2, w3, w4, w5]) (mc' := 0) (ms' := 0) hd hl (by intro v hv; simp only [List.mem_cons, List.not_mem_nil, or_false] at hv; rcases hv with rfl | rfl | rfl | rfl | rfl <;> assumption) hw xq_n k1 (fun v h' q => by obtain ⟨e1, e2⟩ := q; cases e1; cases e2; exact k2)
theorem xc_I5 {i y' mc' ms' : Nat} {a : Nat} {w1 w2 w3 w4 w5 : Value} {P : xa_Q} (hd : xa_d K y pc (.invokespecial i) 3 n') (hl : xa_lkI K (K.1 y).1.cls i y' 5) (hP : ∀ E h', ¬ P (.inr E) h') (k1 : xa_X K tx d y' 0 (xa_ent (K.1 y').2.2.1 (.ref a :: [w1, w2, w3, w4, w5])) [] h mc' ms' P) (k2 : ∀ (v : Option Value) (h' : xa_H), P (.inl v) h' → xa_X K tx (d + 1) y n' ls (v.toList ++ st) h' mc ms Q) (c1 : w1.category = 1 := by rfl) (c2 : w2.category = 1 := by rfl) (c3 : w3.category = 1 := by rfl) (c4 : w4.category = 1 := by rfl) (c5 : w5.category = 1 := by rfl) (hw : (st.map fun v => v.category).sum ≤ 8 := by exact Nat.le_of_ble_eq_true rfl) : xa_X K tx (d + 1) y pc ls (w5 :: w4 :: w3 :: w2 :: w1 :: .ref a :: st) h (mc + mc') (ms + ms') Q :=
  xx_callI (As := [w1, w2, w3, w4, w5]) hd hl (by intro v hv; simp only [List.mem_cons, List.not_mem_nil, or_false] at hv; rcases hv with rfl | rfl | rfl | rfl | rfl <;> assumption) hw hP k1 k2
theorem xc_I5i {i y' : Nat} {a : Nat} {w1 w2 w3 w4 w5 : Value} {r : Int32} {h1 : xa_H} (hd : xa_d K y pc (.invokespecial i) 3 n') (hl : xa_lkI K (K.1 y).1.cls i y' 5) (k1 : xa_X K tx d y' 0 (xa_ent (K.1 y').2.2.1 (.ref a :: [w1, w2, w3, w4, w5])) [] h 0 0 (xq (some (.int r)) h1)) (k2 : xa_X K tx (d + 1) y n' ls (.int r :: st) h1 mc ms Q) (c1 : w1.category = 1 := by rfl) (c2 : w2.category = 1 := by rfl) (c3 : w3.category = 1 := by rfl) (c4 : w4.category = 1 := by rfl) (c5 : w5.category = 1 := by rfl) (hw : (st.map fun v => v.category).sum ≤ 8 := by exact Nat.le_of_ble_eq_true rfl) : xa_X K tx (d + 1) y pc ls (w5 :: w4 :: w3 :: w2 :: w1 :: .ref a :: st) h mc ms Q :=
  xx_callI (As := [w1, w2, w3, w4, w5]) (mc' := 0) (ms' := 0) hd hl (by intro v hv; simp only [List.mem_cons, List.not_mem_nil, or_false] at hv; rcases hv with rfl | rfl | rfl | rfl | rfl <;> assumption) hw xq_n k1 (fun v h' q => by obtain ⟨e1, e2⟩ := q; cases e1; cases e2; exact k2)
theorem xc_I5v {i y' : Nat} {a : Nat} {w1 w2 w3 w4 w5 : Value} {h1 : xa_H} (hd : xa_d K y pc (.invokespecial i) 3 n') (hl : xa_lkI K (K.1 y).1.cls i y' 5) (k1 : xa_X K tx d y' 0 (xa_ent (K.1 y').2.2.1 (.ref a :: [w1, w2, w3, w4, w5])) [] h 0 0 (xq none h1)) (k2 : xa_X K tx (d + 1) y n' ls (st) h1 mc ms Q) (c1 : w1.category = 1 := by rfl) (c2 : w2.category = 1 := by rfl) (c3 : w3.category = 1 := by rfl) (c4 : w4.category = 1 := by rfl) (c5 : w5.category = 1 := by rfl) (hw : (st.map fun v => v.category).sum ≤ 8 := by exact Nat.le_of_ble_eq_true rfl) : xa_X K tx (d + 1) y pc ls (w5 :: w4 :: w3 :: w2 :: w1 :: .ref a :: st) h mc ms Q :=
  xx_callI (As := [w1, w2, w3, w4, w5]) (mc' := 0) (ms' := 0) hd hl (by intro v hv; simp only [List.mem_cons, List.not_mem_nil, or_false] at hv; rcases hv with rfl | rfl | rfl | rfl | rfl <;> assumption) hw xq_n k1 (fun v h' q => by obtain ⟨e1, e2⟩ := q; cases e1; cases e2; exact k2)
theorem xc_I5r {i y' : Nat} {a : Nat} {w1 w2 w3 w4 w5 : Value} {r : Nat} {h1 : xa_H} (hd : xa_d K y pc (.invokespecial i) 3 n') (hl : xa_lkI K (K.1 y).1.cls i y' 5) (k1 : xa_X K tx d y' 0 (xa_ent (K.1 y').2.2.1 (.ref a :: [w1, w2, w3, w4, w5])) [] h 0 0 (xq (some (.ref r)) h1)) (k2 : xa_X K tx (d + 1) y n' ls (.ref r :: st) h1 mc ms Q) (c1 : w1.category = 1 := by rfl) (c2 : w2.category = 1 := by rfl) (c3 : w3.category = 1 := by rfl) (c4 : w4.category = 1 := by rfl) (c5 : w5.category = 1 := by rfl) (hw : (st.map fun v => v.category).sum ≤ 8 := by exact Nat.le_of_ble_eq_true rfl) : xa_X K tx (d + 1) y pc ls (w5 :: w4 :: w3 :: w2 :: w1 :: .ref a :: st) h mc ms Q :=
  xx_callI (As := [w1, w2, w3, w4, w5]) (mc' := 0) (ms' := 0) hd hl (by intro v hv; simp only [List.mem_cons, List.not_mem_nil, or_false] at hv; rcases hv with rfl | rfl | rfl | rfl | rfl <;> assumption) hw xq_n k1 (fun v h' q => by obtain ⟨e1, e2⟩ := q; cases e1; cases e2; exact k2)
end XHRows
end
section
/-! The program: its classes, its methods, the words it rests on (printed by wip/whole/gen_prog.py). -/
def xgood : Cond → Bool
  | .methodLinkNest .. => true
  | .fieldLinkNest .. => true
  | .arrayOver _ => true
  | .stringRef .. => true
  | .castable .. => true
  | w => goodWord w
def xws : List Cond := lw_tbl.filter xgood
theorem xw_t {i : Nat} {w : Cond} (h : tables_1[i]? = some w) (hg : xgood w = true) : w ∈ xws := List.mem_filter.mpr ⟨List.mem_append_right _ (List.mem_of_getElem? h), hg⟩
theorem xw_s {i : Nat} {q : MethodName × Nat} (h : lw_privs[i]? = some q) (hg : xgood (Cond.selects q.1.cls q.1 q.1) = true) : Cond.selects q.1.cls q.1 q.1 ∈ xws := List.mem_filter.mpr ⟨List.mem_append_left _ (List.mem_map.mpr ⟨q, List.mem_of_getElem? h, rfl⟩), hg⟩
def xT_CG : u_T := fun k => match k with
  | 0 => ("ClocklessGates", "net", "LClocklessGates$Net;", true)
  | 1 => ("ClocklessGates", "graph", "LClocklessGates$Graph;", true)
  | 2 => ("ClocklessGates", "circuit", "LClocklessGates$Circuit;", true)
  | 3 => ("ClocklessGates", "leastSum", "LClocklessGates$LeastSum;", true)
  | 4 => ("ClocklessGates", "verdict", "I", false)
  | _ => ("ClocklessGates", "latestFault", "I", false)
def xt_CG : Nat → FieldType := fun k => match k with
  | 0 => .object "ClocklessGates$Net"
  | 1 => .object "ClocklessGates$Graph"
  | 2 => .object "ClocklessGates$Circuit"
  | 3 => .object "ClocklessGates$LeastSum"
  | 4 => .int
  | _ => .int
def xT_N : u_T := fun k => match k with
  | 0 => ("ClocklessGates$Net", "signalCount", "I", false)
  | 1 => ("ClocklessGates$Net", "edgeCount", "I", false)
  | 2 => ("ClocklessGates$Net", "placeCount", "I", false)
  | 3 => ("ClocklessGates$Net", "firstCode", "I", false)
  | 4 => ("ClocklessGates$Net", "firstMarking", "I", false)
  | 5 => ("ClocklessGates$Net", "outputEdges", "I", false)
  | 6 => ("ClocklessGates$Net", "inputs", "I", false)
  | 7 => ("ClocklessGates$Net", "edgeSignals", "[I", true)
  | 8 => ("ClocklessGates$Net", "edgeRises", "[Z", true)
  | 9 => ("ClocklessGates$Net", "placesBefore", "[I", true)
  | _ => ("ClocklessGates$Net", "placesBehind", "[I", true)
def xt_N : Nat → FieldType := fun k => match k with
  | 0 => .int
  | 1 => .int
  | 2 => .int
  | 3 => .int
  | 4 => .int
  | 5 => .int
  | 6 => .int
  | 7 => .array .int
  | 8 => .array .boolean
  | 9 => .array .int
  | _ => .array .int
def xT_G : u_T := fun k => match k with
  | 0 => ("ClocklessGates$Graph", "count", "I", false)
  | 1 => ("ClocklessGates$Graph", "faultState", "I", false)
  | 2 => ("ClocklessGates$Graph", "markings", "[I", true)
  | 3 => ("ClocklessGates$Graph", "codes", "[I", true)
  | 4 => ("ClocklessGates$Graph", "origins", "[I", true)
  | 5 => ("ClocklessGates$Graph", "excitedOutputs", "[I", true)
  | 6 => ("ClocklessGates$Graph", "enabledEdges", "[I", true)
  | 7 => ("ClocklessGates$Graph", "successors", "[I", true)
  | 8 => ("ClocklessGates$Graph", "tooBig", "Z", false)
  | 9 => ("ClocklessGates$Graph", "unsafeState", "I", false)
  | _ => ("ClocklessGates$Graph", "wrongState", "I", false)
def xt_G : Nat → FieldType := fun k => match k with
  | 0 => .int
  | 1 => .int
  | 2 => .array .int
  | 3 => .array .int
  | 4 => .array .int
  | 5 => .array .int
  | 6 => .array .int
  | 7 => .array .int
  | 8 => .boolean
  | 9 => .int
  | _ => .int
def xT_Ci : u_T := fun k => match k with
  | 0 => ("ClocklessGates$Circuit", "faultState", "I", false)
  | 1 => ("ClocklessGates$Circuit", "gates", "[LClocklessGates$Gate;", true)
  | 2 => ("ClocklessGates$Circuit", "drafts", "[LClocklessGates$Gate;", true)
  | 3 => ("ClocklessGates$Circuit", "reached", "[Z", true)
  | 4 => ("ClocklessGates$Circuit", "waiting", "[I", true)
  | _ => ("ClocklessGates$Circuit", "waitingCount", "I", false)
def xt_Ci : Nat → FieldType := fun k => match k with
  | 0 => .int
  | 1 => .array (.object "ClocklessGates$Gate")
  | 2 => .array (.object "ClocklessGates$Gate")
  | 3 => .array .boolean
  | 4 => .array .int
  | _ => .int
def xT_Ga : u_T := fun k => match k with
  | 0 => ("ClocklessGates$Gate", "count", "I", false)
  | 1 => ("ClocklessGates$Gate", "numbers", "[I", true)
  | _ => ("ClocklessGates$Gate", "covered", "I", false)
def xt_Ga : Nat → FieldType := fun k => match k with
  | 0 => .int
  | 1 => .array .int
  | _ => .int
def xT_L : u_T := fun k => match k with
  | 0 => ("ClocklessGates$LeastSum", "spans", "[I", true)
  | 1 => ("ClocklessGates$LeastSum", "primes", "[I", true)
  | 2 => ("ClocklessGates$LeastSum", "covers", "[I", true)
  | 3 => ("ClocklessGates$LeastSum", "costs", "[I", true)
  | 4 => ("ClocklessGates$LeastSum", "barredAt", "[I", true)
  | 5 => ("ClocklessGates$LeastSum", "taken", "[Z", true)
  | 6 => ("ClocklessGates$LeastSum", "best", "[Z", true)
  | 7 => ("ClocklessGates$LeastSum", "rivals", "[I", true)
  | 8 => ("ClocklessGates$LeastSum", "primeCount", "I", false)
  | 9 => ("ClocklessGates$LeastSum", "widestCover", "I", false)
  | _ => ("ClocklessGates$LeastSum", "bestCost", "I", false)
def xt_L : Nat → FieldType := fun k => match k with
  | 0 => .array .int
  | 1 => .array .int
  | 2 => .array .int
  | 3 => .array .int
  | 4 => .array .int
  | 5 => .array .boolean
  | 6 => .array .boolean
  | 7 => .array .int
  | 8 => .int
  | 9 => .int
  | _ => .int
def xT_M : u_T := fun k => match k with
  | 0 => ("ClocklessGatesModel", "code", "I", false)
  | 1 => ("ClocklessGatesModel", "signals", "I", false)
  | 2 => ("ClocklessGatesModel", "input", "[Z", true)
  | 3 => ("ClocklessGatesModel", "high", "[Z", true)
  | 4 => ("ClocklessGatesModel", "edges", "I", false)
  | 5 => ("ClocklessGatesModel", "of", "[I", true)
  | 6 => ("ClocklessGatesModel", "rises", "[Z", true)
  | 7 => ("ClocklessGatesModel", "before", "[I", true)
  | 8 => ("ClocklessGatesModel", "behind", "[I", true)
  | 9 => ("ClocklessGatesModel", "places", "I", false)
  | 10 => ("ClocklessGatesModel", "tokens", "I", false)
  | 11 => ("ClocklessGatesModel", "verdict", "I", false)
  | 12 => ("ClocklessGatesModel", "fault", "I", false)
  | 13 => ("ClocklessGatesModel", "count", "I", false)
  | 14 => ("ClocklessGatesModel", "marks", "[I", true)
  | 15 => ("ClocklessGatesModel", "codes", "[I", true)
  | 16 => ("ClocklessGatesModel", "ways", "[I", true)
  | 17 => ("ClocklessGatesModel", "many", "[I", true)
  | 18 => ("ClocklessGatesModel", "gate", "[I", true)
  | 19 => ("ClocklessGatesModel", "covered", "[I", true)
  | 20 => ("ClocklessGatesModel", "prime", "[Z", true)
  | 21 => ("ClocklessGatesModel", "chosen", "[I", true)
  | 22 => ("ClocklessGatesModel", "reached", "[I", true)
  | 23 => ("ClocklessGatesModel", "sorted", "[I", true)
  | 24 => ("ClocklessGatesModel", "best", "[I", true)
  | 25 => ("ClocklessGatesModel", "bestDigits", "I", false)
  | 26 => ("ClocklessGatesModel", "some", "Z", false)
  | 27 => ("ClocklessGatesModel", "newMany", "[I", true)
  | 28 => ("ClocklessGatesModel", "newGate", "[I", true)
  | _ => ("ClocklessGatesModel", "come", "[Z", true)
def xt_M : Nat → FieldType := fun k => match k with
  | 0 => .int
  | 1 => .int
  | 2 => .array .boolean
  | 3 => .array .boolean
  | 4 => .int
  | 5 => .array .int
  | 6 => .array .boolean
  | 7 => .array .int
  | 8 => .array .int
  | 9 => .int
  | 10 => .int
  | 11 => .int
  | 12 => .int
  | 13 => .int
  | 14 => .array .int
  | 15 => .array .int
  | 16 => .array .int
  | 17 => .array .int
  | 18 => .array .int
  | 19 => .array .int
  | 20 => .array .boolean
  | 21 => .array .int
  | 22 => .array .int
  | 23 => .array .int
  | 24 => .array .int
  | 25 => .int
  | 26 => .boolean
  | 27 => .array .int
  | 28 => .array .int
  | _ => .array .boolean
def xcl : List vw_C := [("ClocklessGates", xT_CG, 6), ("ClocklessGates$Net", xT_N, 11), ("ClocklessGates$Graph", xT_G, 11), ("ClocklessGates$Circuit", xT_Ci, 6), ("ClocklessGates$Gate", xT_Ga, 3), ("ClocklessGates$LeastSum", xT_L, 11), ("ClocklessGatesModel", xT_M, 30)]
def xMl : List xa_M := [
  (⟨"ClocklessGates", "<init>", "()V"⟩, prog_1_method_1_code, 1, none, []),
  (⟨"ClocklessGates$Net", "<init>", "()V"⟩, prog_6_method_1_code, 1, none, []),
  (⟨"ClocklessGates$Graph", "<init>", "()V"⟩, prog_4_method_1_code, 1, none, []),
  (⟨"ClocklessGates$Circuit", "<init>", "()V"⟩, prog_2_method_1_code, 2, none, []),
  (⟨"ClocklessGates$Gate", "<init>", "()V"⟩, prog_3_method_1_code, 1, none, []),
  (⟨"ClocklessGates$LeastSum", "<init>", "()V"⟩, prog_5_method_1_code, 1, none, []),
  (⟨"ClocklessGates$LeastSum", "spansOfAllProducts", "()[I"⟩, prog_5_method_2_code, 5, (some (Jvm.ClassFile.FieldType.array Jvm.ClassFile.FieldType.int)), []),
  (⟨"ClocklessGates", "analyse", "()I"⟩, prog_1_method_6_code, 1, (some Jvm.ClassFile.FieldType.int), []),
  (⟨"ClocklessGates", "discardResults", "()V"⟩, prog_1_method_21_code, 1, none, []),
  (⟨"ClocklessGates$Circuit", "clear", "()V"⟩, prog_2_method_2_code, 2, none, []),
  (⟨"ClocklessGates$Gate", "clear", "()V"⟩, prog_3_method_2_code, 1, none, []),
  (⟨"ClocklessGates$Graph", "build", "(LClocklessGates$Net;)V"⟩, prog_4_method_4_code, 3, none, []),
  (⟨"ClocklessGates$Graph", "addState", "(III)I"⟩, prog_4_method_8_code, 4, (some Jvm.ClassFile.FieldType.int), []),
  (⟨"ClocklessGates$Graph", "expand", "(LClocklessGates$Net;I)V"⟩, prog_4_method_5_code, 6, none, []),
  (⟨"ClocklessGates$Net", "isEnabled", "(II)Z"⟩, prog_6_method_11_code, 3, (some Jvm.ClassFile.FieldType.boolean), []),
  (⟨"ClocklessGates$Graph", "noteEnabled", "(LClocklessGates$Net;II)V"⟩, prog_4_method_6_code, 4, none, []),
  (⟨"ClocklessGates$Net", "edgeBit", "(I)I"⟩, prog_6_method_10_code, 2, (some Jvm.ClassFile.FieldType.int), []),
  (⟨"ClocklessGates$Net", "levelAfter", "(I)I"⟩, prog_6_method_9_code, 2, (some Jvm.ClassFile.FieldType.int), []),
  (⟨"ClocklessGates$Net", "signalOf", "(I)I"⟩, prog_6_method_8_code, 2, (some Jvm.ClassFile.FieldType.int), []),
  (⟨"ClocklessGates$Net", "isInput", "(I)Z"⟩, prog_6_method_7_code, 2, (some Jvm.ClassFile.FieldType.boolean), []),
  (⟨"ClocklessGates$Net", "isSafe", "(II)Z"⟩, prog_6_method_12_code, 3, (some Jvm.ClassFile.FieldType.boolean), []),
  (⟨"ClocklessGates$Net", "isRight", "(II)Z"⟩, prog_6_method_13_code, 3, (some Jvm.ClassFile.FieldType.boolean), []),
  (⟨"ClocklessGates$Graph", "fire", "(LClocklessGates$Net;II)I"⟩, prog_4_method_7_code, 7, (some Jvm.ClassFile.FieldType.int), []),
  (⟨"ClocklessGates$Net", "markingAfter", "(II)I"⟩, prog_6_method_14_code, 3, (some Jvm.ClassFile.FieldType.int), []),
  (⟨"ClocklessGates$Net", "codeAfter", "(II)I"⟩, prog_6_method_15_code, 4, (some Jvm.ClassFile.FieldType.int), []),
  (⟨"ClocklessGates$Graph", "judge", "(LClocklessGates$Net;)I"⟩, prog_4_method_9_code, 2, (some Jvm.ClassFile.FieldType.int), []),
  (⟨"ClocklessGates$Graph", "leastDisablingState", "(LClocklessGates$Net;)I"⟩, prog_4_method_10_code, 4, (some Jvm.ClassFile.FieldType.int), []),
  (⟨"ClocklessGates$Graph", "successor", "(II)I"⟩, prog_4_method_2_code, 3, (some Jvm.ClassFile.FieldType.int), []),
  (⟨"ClocklessGates$Graph", "losesEdge", "(LClocklessGates$Net;II)Z"⟩, prog_4_method_11_code, 5, (some Jvm.ClassFile.FieldType.boolean), []),
  (⟨"ClocklessGates$Graph", "leastConflictingState", "()I"⟩, prog_4_method_12_code, 3, (some Jvm.ClassFile.FieldType.int), []),
  (⟨"ClocklessGates", "fault", "()I"⟩, prog_1_method_12_code, 1, (some Jvm.ClassFile.FieldType.int), []),
  (⟨"ClocklessGatesLaw", "signal", "(LClocklessGates;ZZ[J)I"⟩, method_3_code, 5, (some Jvm.ClassFile.FieldType.int), [(0, 10, 13, 13)]),
  (⟨"ClocklessGates", "signal", "(ZZ)I"⟩, prog_1_method_2_code, 3, (some Jvm.ClassFile.FieldType.int), []),
  (⟨"ClocklessGates$Net", "addSignal", "(ZZ)I"⟩, prog_6_method_2_code, 4, (some Jvm.ClassFile.FieldType.int), []),
  (⟨"ClocklessGatesLaw", "edge", "(LClocklessGates;IZ[J)I"⟩, method_4_code, 5, (some Jvm.ClassFile.FieldType.int), [(0, 10, 13, 19), (0, 10, 17, 13)]),
  (⟨"ClocklessGates", "edge", "(IZ)I"⟩, prog_1_method_3_code, 3, (some Jvm.ClassFile.FieldType.int), []),
  (⟨"ClocklessGates", "requireSignal", "(I)V"⟩, prog_1_method_22_code, 2, none, []),
  (⟨"ClocklessGates$Net", "addEdge", "(IZ)I"⟩, prog_6_method_3_code, 3, (some Jvm.ClassFile.FieldType.int), []),
  (⟨"ClocklessGatesLaw", "place", "(LClocklessGates;Z[J)I"⟩, method_5_code, 4, (some Jvm.ClassFile.FieldType.int), [(0, 9, 12, 13)]),
  (⟨"ClocklessGates", "place", "(Z)I"⟩, prog_1_method_4_code, 2, (some Jvm.ClassFile.FieldType.int), []),
  (⟨"ClocklessGates$Net", "addPlace", "(Z)I"⟩, prog_6_method_4_code, 2, (some Jvm.ClassFile.FieldType.int), []),
  (⟨"ClocklessGatesLaw", "arc", "(LClocklessGates;IIZ)I"⟩, method_6_code, 5, (some Jvm.ClassFile.FieldType.int), [(0, 7, 10, 19), (0, 7, 14, 29)]),
  (⟨"ClocklessGates", "arc", "(IIZ)V"⟩, prog_1_method_5_code, 4, none, []),
  (⟨"ClocklessGates$Net", "hasArc", "(IIZ)Z"⟩, prog_6_method_6_code, 5, (some Jvm.ClassFile.FieldType.boolean), []),
  (⟨"ClocklessGates$Net", "addArc", "(IIZ)V"⟩, prog_6_method_5_code, 4, none, []),
  (⟨"ClocklessGatesLaw", "states", "(LClocklessGates;[J)I"⟩, method_7_code, 3, (some Jvm.ClassFile.FieldType.int), [(0, 8, 11, 13)]),
  (⟨"ClocklessGates", "states", "()I"⟩, prog_1_method_7_code, 1, (some Jvm.ClassFile.FieldType.int), []),
  (⟨"ClocklessGates", "requireGraph", "()V"⟩, prog_1_method_23_code, 1, none, []),
  (⟨"ClocklessGatesLaw", "code", "(LClocklessGates;I[J)I"⟩, method_8_code, 4, (some Jvm.ClassFile.FieldType.int), [(0, 9, 12, 13), (0, 9, 15, 19)]),
  (⟨"ClocklessGates", "code", "(I)I"⟩, prog_1_method_8_code, 2, (some Jvm.ClassFile.FieldType.int), []),
  (⟨"ClocklessGates", "requireState", "(I)V"⟩, prog_1_method_24_code, 2, none, []),
  (⟨"ClocklessGatesLaw", "marking", "(LClocklessGates;I[J)I"⟩, method_9_code, 4, (some Jvm.ClassFile.FieldType.int), [(0, 9, 12, 13), (0, 9, 15, 19)]),
  (⟨"ClocklessGates", "marking", "(I)I"⟩, prog_1_method_9_code, 2, (some Jvm.ClassFile.FieldType.int), []),
  (⟨"ClocklessGatesLaw", "found", "(LClocklessGates;I[J)I"⟩, method_10_code, 4, (some Jvm.ClassFile.FieldType.int), [(0, 9, 12, 13), (0, 9, 15, 19)]),
  (⟨"ClocklessGates", "found", "(I)I"⟩, prog_1_method_10_code, 2, (some Jvm.ClassFile.FieldType.int), []),
  (⟨"ClocklessGatesLaw", "excited", "(LClocklessGates;I[J)I"⟩, method_11_code, 4, (some Jvm.ClassFile.FieldType.int), [(0, 9, 12, 13), (0, 9, 15, 19)]),
  (⟨"ClocklessGates", "excited", "(I)I"⟩, prog_1_method_11_code, 2, (some Jvm.ClassFile.FieldType.int), []),
  (⟨"ClocklessGatesLaw", "synthesise", "(LClocklessGates;[J)I"⟩, method_12_code, 3, (some Jvm.ClassFile.FieldType.int), [(0, 8, 11, 13), (0, 8, 14, 51)]),
  (⟨"ClocklessGates", "synthesise", "()I"⟩, prog_1_method_13_code, 3, (some Jvm.ClassFile.FieldType.int), []),
  (⟨"ClocklessGates", "requireFine", "()V"⟩, prog_1_method_25_code, 1, none, []),
  (⟨"ClocklessGates", "makeDraft", "(I)Z"⟩, prog_1_method_20_code, 4, (some Jvm.ClassFile.FieldType.boolean), []),
  (⟨"ClocklessGates$Graph", "codesWithNext", "(II)I"⟩, prog_4_method_13_code, 7, (some Jvm.ClassFile.FieldType.int), []),
  (⟨"ClocklessGates$Graph", "isExcited", "(II)Z"⟩, prog_4_method_3_code, 3, (some Jvm.ClassFile.FieldType.boolean), []),
  (⟨"ClocklessGates$LeastSum", "find", "(III)Z"⟩, prog_5_method_4_code, 4, (some Jvm.ClassFile.FieldType.boolean), []),
  (⟨"ClocklessGates$LeastSum", "collectPrimes", "(III)V"⟩, prog_5_method_6_code, 6, none, []),
  (⟨"ClocklessGates$LeastSum", "isPrime", "(III)Z"⟩, prog_5_method_7_code, 6, (some Jvm.ClassFile.FieldType.boolean), []),
  (⟨"ClocklessGates$LeastSum", "digit", "(II)I"⟩, prog_5_method_9_code, 2, (some Jvm.ClassFile.FieldType.int), []),
  (⟨"ClocklessGates$LeastSum", "fixedDigits", "(II)I"⟩, prog_5_method_8_code, 4, (some Jvm.ClassFile.FieldType.int), []),
  (⟨"java/lang/Integer", "bitCount", "(I)I"⟩, prog_13_method_49_code, 1, (some Jvm.ClassFile.FieldType.int), []),
  (⟨"ClocklessGates$LeastSum", "countRivals", "()V"⟩, prog_5_method_10_code, 3, none, []),
  (⟨"ClocklessGates$LeastSum", "search", "(LClocklessGates$LeastSum;III)V"⟩, prog_5_method_11_code, 6, none, []),
  (⟨"ClocklessGates$LeastSum", "keepIfLess", "(I)V"⟩, prog_5_method_15_code, 3, none, []),
  (⟨"ClocklessGates$LeastSum", "takenComesFirst", "()Z"⟩, prog_5_method_16_code, 2, (some Jvm.ClassFile.FieldType.boolean), []),
  (⟨"ClocklessGates$LeastSum", "leastCostOf", "(I)I"⟩, prog_5_method_13_code, 2, (some Jvm.ClassFile.FieldType.int), []),
  (⟨"ClocklessGates$LeastSum", "codeWithFewestRivals", "(I)I"⟩, prog_5_method_14_code, 5, (some Jvm.ClassFile.FieldType.int), []),
  (⟨"ClocklessGates$LeastSum", "liftBars", "(I)V"⟩, prog_5_method_12_code, 3, none, []),
  (⟨"ClocklessGates$LeastSum", "giveTo", "(LClocklessGates$Gate;)V"⟩, prog_5_method_5_code, 3, none, []),
  (⟨"ClocklessGates$Gate", "add", "(II)I"⟩, prog_3_method_3_code, 3, (some Jvm.ClassFile.FieldType.int), []),
  (⟨"ClocklessGates$Circuit", "adoptDrafts", "()V"⟩, prog_2_method_3_code, 3, none, []),
  (⟨"ClocklessGatesLaw", "products", "(LClocklessGates;I[J)I"⟩, method_13_code, 4, (some Jvm.ClassFile.FieldType.int), [(0, 9, 12, 19)]),
  (⟨"ClocklessGates", "products", "(I)I"⟩, prog_1_method_14_code, 2, (some Jvm.ClassFile.FieldType.int), []),
  (⟨"ClocklessGatesLaw", "product", "(LClocklessGates;II[J)I"⟩, method_14_code, 5, (some Jvm.ClassFile.FieldType.int), [(0, 10, 13, 19)]),
  (⟨"ClocklessGates", "product", "(II)I"⟩, prog_1_method_15_code, 3, (some Jvm.ClassFile.FieldType.int), []),
  (⟨"ClocklessGatesLaw", "append", "(LClocklessGates;II[J)I"⟩, method_15_code, 5, (some Jvm.ClassFile.FieldType.int), [(0, 10, 13, 19), (0, 10, 17, 29), (0, 10, 21, 13)]),
  (⟨"ClocklessGates", "append", "(II)I"⟩, prog_1_method_16_code, 3, (some Jvm.ClassFile.FieldType.int), []),
  (⟨"ClocklessGates$LeastSum", "spanOf", "(I)I"⟩, prog_5_method_3_code, 2, (some Jvm.ClassFile.FieldType.int), []),
  (⟨"ClocklessGatesLaw", "strip", "(LClocklessGates;I)I"⟩, method_16_code, 3, (some Jvm.ClassFile.FieldType.int), [(0, 5, 8, 19)]),
  (⟨"ClocklessGates", "strip", "(I)V"⟩, prog_1_method_17_code, 2, none, []),
  (⟨"ClocklessGatesLaw", "value", "(LClocklessGates;II[J)I"⟩, method_17_code, 5, (some Jvm.ClassFile.FieldType.int), [(0, 10, 13, 19)]),
  (⟨"ClocklessGates", "value", "(II)I"⟩, prog_1_method_18_code, 3, (some Jvm.ClassFile.FieldType.int), []),
  (⟨"ClocklessGates$Gate", "output", "(I)I"⟩, prog_3_method_4_code, 2, (some Jvm.ClassFile.FieldType.int), []),
  (⟨"ClocklessGatesLaw", "check", "(LClocklessGates;[J)I"⟩, method_18_code, 3, (some Jvm.ClassFile.FieldType.int), [(0, 8, 11, 13)]),
  (⟨"ClocklessGates", "check", "()I"⟩, prog_1_method_19_code, 2, (some Jvm.ClassFile.FieldType.int), []),
  (⟨"ClocklessGates$Circuit", "explore", "(LClocklessGates$Net;LClocklessGates$Graph;)I"⟩, prog_2_method_4_code, 4, (some Jvm.ClassFile.FieldType.int), []),
  (⟨"ClocklessGates$Circuit", "reachStates", "(LClocklessGates$Net;LClocklessGates$Graph;)V"⟩, prog_2_method_5_code, 6, none, []),
  (⟨"ClocklessGates$Circuit", "reach", "(I)V"⟩, prog_2_method_6_code, 2, none, []),
  (⟨"ClocklessGates$Circuit", "mayFire", "(LClocklessGates$Net;LClocklessGates$Graph;II)Z"⟩, prog_2_method_7_code, 6, (some Jvm.ClassFile.FieldType.boolean), []),
  (⟨"ClocklessGates$Circuit", "leastFaultyState", "(LClocklessGates$Net;LClocklessGates$Graph;I)I"⟩, prog_2_method_9_code, 6, (some Jvm.ClassFile.FieldType.int), []),
  (⟨"ClocklessGates$Circuit", "isFaulty", "(LClocklessGates$Net;LClocklessGates$Graph;III)Z"⟩, prog_2_method_10_code, 7, (some Jvm.ClassFile.FieldType.boolean), []),
  (⟨"ClocklessGates$Circuit", "acts", "(II)Z"⟩, prog_2_method_8_code, 3, (some Jvm.ClassFile.FieldType.boolean), []),
  (⟨"ClocklessGates$Circuit", "mayStopActing", "(LClocklessGates$Net;LClocklessGates$Graph;II)Z"⟩, prog_2_method_11_code, 6, (some Jvm.ClassFile.FieldType.boolean), []),
  (⟨"ClocklessGatesModel", "<init>", "()V"⟩, prog_8_method_1_code, 1, none, []),
  (⟨"ClocklessGatesModel", "thrown", "()I"⟩, prog_8_method_2_code, 1, (some Jvm.ClassFile.FieldType.int), []),
  (⟨"ClocklessGatesModel", "signal", "(ZZ)I"⟩, prog_8_method_4_code, 3, (some Jvm.ClassFile.FieldType.int), []),
  (⟨"ClocklessGatesModel", "discard", "()V"⟩, prog_8_method_3_code, 2, none, []),
  (⟨"ClocklessGatesModel", "edge", "(IZ)I"⟩, prog_8_method_6_code, 3, (some Jvm.ClassFile.FieldType.int), []),
  (⟨"ClocklessGatesModel", "noSignal", "(I)Z"⟩, prog_8_method_5_code, 2, (some Jvm.ClassFile.FieldType.boolean), []),
  (⟨"ClocklessGatesModel", "place", "(Z)I"⟩, prog_8_method_7_code, 2, (some Jvm.ClassFile.FieldType.int), []),
  (⟨"ClocklessGatesModel", "arc", "(IIZ)V"⟩, prog_8_method_8_code, 6, none, []),
  (⟨"ClocklessGatesModel", "analyse", "()I"⟩, prog_8_method_22_code, 3, (some Jvm.ClassFile.FieldType.int), []),
  (⟨"ClocklessGatesModel", "explore", "()V"⟩, prog_8_method_15_code, 3, none, []),
  (⟨"ClocklessGatesModel", "enabled", "(II)Z"⟩, prog_8_method_9_code, 3, (some Jvm.ClassFile.FieldType.boolean), []),
  (⟨"ClocklessGatesModel", "safe", "(II)Z"⟩, prog_8_method_10_code, 3, (some Jvm.ClassFile.FieldType.boolean), []),
  (⟨"ClocklessGatesModel", "right", "(II)Z"⟩, prog_8_method_11_code, 3, (some Jvm.ClassFile.FieldType.boolean), []),
  (⟨"ClocklessGatesModel", "markAfter", "(II)I"⟩, prog_8_method_12_code, 3, (some Jvm.ClassFile.FieldType.int), []),
  (⟨"ClocklessGatesModel", "codeAfter", "(II)I"⟩, prog_8_method_13_code, 3, (some Jvm.ClassFile.FieldType.int), []),
  (⟨"ClocklessGatesModel", "find", "(II)I"⟩, prog_8_method_14_code, 4, (some Jvm.ClassFile.FieldType.int), []),
  (⟨"ClocklessGatesModel", "bad", "(II)Z"⟩, prog_8_method_21_code, 4, (some Jvm.ClassFile.FieldType.boolean), []),
  (⟨"ClocklessGatesModel", "loses", "(I)Z"⟩, prog_8_method_18_code, 5, (some Jvm.ClassFile.FieldType.boolean), []),
  (⟨"ClocklessGatesModel", "sameEdge", "(II)Z"⟩, prog_8_method_16_code, 3, (some Jvm.ClassFile.FieldType.boolean), []),
  (⟨"ClocklessGatesModel", "edgeEnabled", "(II)Z"⟩, prog_8_method_17_code, 4, (some Jvm.ClassFile.FieldType.boolean), []),
  (⟨"ClocklessGatesModel", "conflicts", "(I)Z"⟩, prog_8_method_20_code, 3, (some Jvm.ClassFile.FieldType.boolean), []),
  (⟨"ClocklessGatesModel", "excitedIn", "(I)I"⟩, prog_8_method_19_code, 4, (some Jvm.ClassFile.FieldType.int), []),
  (⟨"ClocklessGatesModel", "states", "()I"⟩, prog_8_method_24_code, 1, (some Jvm.ClassFile.FieldType.int), []),
  (⟨"ClocklessGatesModel", "noGraph", "()Z"⟩, prog_8_method_23_code, 1, (some Jvm.ClassFile.FieldType.boolean), []),
  (⟨"ClocklessGatesModel", "code", "(I)I"⟩, prog_8_method_26_code, 2, (some Jvm.ClassFile.FieldType.int), []),
  (⟨"ClocklessGatesModel", "noState", "(I)Z"⟩, prog_8_method_25_code, 2, (some Jvm.ClassFile.FieldType.boolean), []),
  (⟨"ClocklessGatesModel", "marking", "(I)I"⟩, prog_8_method_27_code, 2, (some Jvm.ClassFile.FieldType.int), []),
  (⟨"ClocklessGatesModel", "found", "(I)I"⟩, prog_8_method_28_code, 2, (some Jvm.ClassFile.FieldType.int), []),
  (⟨"ClocklessGatesModel", "excited", "(I)I"⟩, prog_8_method_29_code, 2, (some Jvm.ClassFile.FieldType.int), []),
  (⟨"ClocklessGatesModel", "fault", "()I"⟩, prog_8_method_30_code, 1, (some Jvm.ClassFile.FieldType.int), []),
  (⟨"ClocklessGatesModel", "synthesise", "()I"⟩, prog_8_method_41_code, 4, (some Jvm.ClassFile.FieldType.int), []),
  (⟨"ClocklessGatesModel", "leastSum", "(I)I"⟩, prog_8_method_40_code, 4, (some Jvm.ClassFile.FieldType.int), []),
  (⟨"ClocklessGatesModel", "codesOf", "(II)I"⟩, prog_8_method_34_code, 6, (some Jvm.ClassFile.FieldType.int), []),
  (⟨"ClocklessGatesModel", "tabulate", "(I)V"⟩, prog_8_method_35_code, 7, none, []),
  (⟨"ClocklessGatesModel", "three", "(I)I"⟩, prog_8_method_31_code, 3, (some Jvm.ClassFile.FieldType.int), []),
  (⟨"ClocklessGatesModel", "covers", "(II)Z"⟩, prog_8_method_32_code, 5, (some Jvm.ClassFile.FieldType.boolean), []),
  (⟨"ClocklessGatesModel", "tryCovers", "(II)V"⟩, prog_8_method_39_code, 6, none, []),
  (⟨"ClocklessGatesModel", "open", "(II)I"⟩, prog_8_method_37_code, 3, (some Jvm.ClassFile.FieldType.int), []),
  (⟨"ClocklessGatesModel", "nextPrime", "(II)I"⟩, prog_8_method_36_code, 5, (some Jvm.ClassFile.FieldType.int), []),
  (⟨"ClocklessGatesModel", "judge", "(I)V"⟩, prog_8_method_38_code, 5, none, []),
  (⟨"ClocklessGatesModel", "digits", "(I)I"⟩, prog_8_method_33_code, 4, (some Jvm.ClassFile.FieldType.int), []),
  (⟨"ClocklessGatesModel", "products", "(I)I"⟩, prog_8_method_42_code, 2, (some Jvm.ClassFile.FieldType.int), []),
  (⟨"ClocklessGatesModel", "product", "(II)I"⟩, prog_8_method_43_code, 3, (some Jvm.ClassFile.FieldType.int), []),
  (⟨"ClocklessGatesModel", "append", "(II)I"⟩, prog_8_method_44_code, 3, (some Jvm.ClassFile.FieldType.int), []),
  (⟨"ClocklessGatesModel", "strip", "(I)V"⟩, prog_8_method_45_code, 2, none, []),
  (⟨"ClocklessGatesModel", "value", "(II)I"⟩, prog_8_method_47_code, 3, (some Jvm.ClassFile.FieldType.int), []),
  (⟨"ClocklessGatesModel", "valueOf", "(II)I"⟩, prog_8_method_46_code, 4, (some Jvm.ClassFile.FieldType.int), []),
  (⟨"ClocklessGatesModel", "check", "()I"⟩, prog_8_method_54_code, 3, (some Jvm.ClassFile.FieldType.int), []),
  (⟨"ClocklessGatesModel", "comeTo", "()V"⟩, prog_8_method_50_code, 5, none, []),
  (⟨"ClocklessGatesModel", "fires", "(II)Z"⟩, prog_8_method_49_code, 3, (some Jvm.ClassFile.FieldType.boolean), []),
  (⟨"ClocklessGatesModel", "acts", "(II)Z"⟩, prog_8_method_48_code, 3, (some Jvm.ClassFile.FieldType.boolean), []),
  (⟨"ClocklessGatesModel", "hazard", "(I)Z"⟩, prog_8_method_53_code, 5, (some Jvm.ClassFile.FieldType.boolean), []),
  (⟨"ClocklessGatesModel", "unexpected", "(I)Z"⟩, prog_8_method_51_code, 3, (some Jvm.ClassFile.FieldType.boolean), []),
  (⟨"ClocklessGatesModel", "missing", "(I)Z"⟩, prog_8_method_52_code, 3, (some Jvm.ClassFile.FieldType.boolean), []),
  (⟨"ClocklessGatesLaw", "law", "([I)Z"⟩, code, 7, ret, [])]
def xM (i : Nat) : xa_M := xMl.getD i (⟨"", "", ""⟩, ⟨#[]⟩, 0, none, [])
def xP : xa_P := (xM, xcl, xws, "ClocklessGates", "POWER_OF_THREE", "ClocklessGates$Gate")
theorem k_CG : xa_k xP 0 "ClocklessGates" xT_CG 6 xt_CG := ⟨rfl, by decide +kernel, by decide +kernel, by decide +kernel⟩
theorem k_N : xa_k xP 1 "ClocklessGates$Net" xT_N 11 xt_N := ⟨rfl, by decide +kernel, by decide +kernel, by decide +kernel⟩
theorem k_G : xa_k xP 2 "ClocklessGates$Graph" xT_G 11 xt_G := ⟨rfl, by decide +kernel, by decide +kernel, by decide +kernel⟩
theorem k_Ci : xa_k xP 3 "ClocklessGates$Circuit" xT_Ci 6 xt_Ci := ⟨rfl, by decide +kernel, by decide +kernel, by decide +kernel⟩
theorem k_Ga : xa_k xP 4 "ClocklessGates$Gate" xT_Ga 3 xt_Ga := ⟨rfl, by decide +kernel, by decide +kernel, by decide +kernel⟩
theorem k_L : xa_k xP 5 "ClocklessGates$LeastSum" xT_L 11 xt_L := ⟨rfl, by decide +kernel, by decide +kernel, by decide +kernel⟩
theorem k_M : xa_k xP 6 "ClocklessGatesModel" xT_M 30 xt_M := ⟨rfl, by decide +kernel, by decide +kernel, by decide +kernel⟩
end
section
/-! Where the entries of the constant pools lead (printed by wip/whole/gen_prog.py). -/
set_option maxRecDepth 100000 in
theorem my_CG_init : xa_my xP 0 0 := ⟨xw_t (i := 21) rfl (by decide +kernel), by decide +kernel, by decide +kernel, by decide +kernel, by decide +kernel⟩
set_option maxRecDepth 100000 in
theorem my_N_init : xa_my xP 1 0 := ⟨xw_t (i := 29) rfl (by decide +kernel), by decide +kernel, by decide +kernel, by decide +kernel, by decide +kernel⟩
set_option maxRecDepth 100000 in
theorem my_G_init : xa_my xP 2 0 := ⟨xw_t (i := 80) rfl (by decide +kernel), by decide +kernel, by decide +kernel, by decide +kernel, by decide +kernel⟩
set_option maxRecDepth 100000 in
theorem my_Ci_init : xa_my xP 3 0 := ⟨xw_t (i := 128) rfl (by decide +kernel), by decide +kernel, by decide +kernel, by decide +kernel, by decide +kernel⟩
set_option maxRecDepth 100000 in
theorem my_Ga_init : xa_my xP 4 0 := ⟨xw_t (i := 135) rfl (by decide +kernel), by decide +kernel, by decide +kernel, by decide +kernel, by decide +kernel⟩
set_option maxRecDepth 100000 in
theorem my_L_init : xa_my xP 5 0 := ⟨xw_t (i := 175) rfl (by decide +kernel), by decide +kernel, by decide +kernel, by decide +kernel, by decide +kernel⟩
set_option maxRecDepth 100000 in
theorem my_L_spansOfAllProducts : xa_my xP 6 0 := ⟨xw_t (i := 179) rfl (by decide +kernel), by decide +kernel, by decide +kernel, by decide +kernel, by decide +kernel⟩
set_option maxRecDepth 100000 in
theorem my_CG_analyse : xa_my xP 7 0 := ⟨xw_t (i := 238) rfl (by decide +kernel), by decide +kernel, by decide +kernel, by decide +kernel, by decide +kernel⟩
set_option maxRecDepth 100000 in
theorem my_CG_discardResults : xa_my xP 8 0 := ⟨xw_t (i := 242) rfl (by decide +kernel), by decide +kernel, by decide +kernel, by decide +kernel, by decide +kernel⟩
set_option maxRecDepth 100000 in
theorem my_Ci_clear : xa_my xP 9 0 := ⟨xw_t (i := 246) rfl (by decide +kernel), by decide +kernel, by decide +kernel, by decide +kernel, by decide +kernel⟩
set_option maxRecDepth 100000 in
theorem my_Ga_clear : xa_my xP 10 0 := ⟨xw_t (i := 250) rfl (by decide +kernel), by decide +kernel, by decide +kernel, by decide +kernel, by decide +kernel⟩
set_option maxRecDepth 100000 in
theorem my_G_build : xa_my xP 11 1 := ⟨xw_t (i := 254) rfl (by decide +kernel), by decide +kernel, by decide +kernel, by decide +kernel, by decide +kernel⟩
set_option maxRecDepth 100000 in
theorem my_G_addState : xa_my xP 12 3 := ⟨xw_t (i := 258) rfl (by decide +kernel), by decide +kernel, by decide +kernel, by decide +kernel, by decide +kernel⟩
set_option maxRecDepth 100000 in
theorem my_G_expand : xa_my xP 13 2 := ⟨xw_t (i := 262) rfl (by decide +kernel), by decide +kernel, by decide +kernel, by decide +kernel, by decide +kernel⟩
set_option maxRecDepth 100000 in
theorem my_N_isEnabled : xa_my xP 14 2 := ⟨xw_t (i := 266) rfl (by decide +kernel), by decide +kernel, by decide +kernel, by decide +kernel, by decide +kernel⟩
set_option maxRecDepth 100000 in
theorem my_G_noteEnabled : xa_my xP 15 3 := ⟨xw_t (i := 270) rfl (by decide +kernel), by decide +kernel, by decide +kernel, by decide +kernel, by decide +kernel⟩
set_option maxRecDepth 100000 in
theorem my_N_edgeBit : xa_my xP 16 1 := ⟨xw_t (i := 274) rfl (by decide +kernel), by decide +kernel, by decide +kernel, by decide +kernel, by decide +kernel⟩
set_option maxRecDepth 100000 in
theorem my_N_levelAfter : xa_my xP 17 1 := ⟨xw_t (i := 278) rfl (by decide +kernel), by decide +kernel, by decide +kernel, by decide +kernel, by decide +kernel⟩
set_option maxRecDepth 100000 in
theorem my_N_signalOf : xa_my xP 18 1 := ⟨xw_t (i := 282) rfl (by decide +kernel), by decide +kernel, by decide +kernel, by decide +kernel, by decide +kernel⟩
set_option maxRecDepth 100000 in
theorem my_N_isInput : xa_my xP 19 1 := ⟨xw_t (i := 286) rfl (by decide +kernel), by decide +kernel, by decide +kernel, by decide +kernel, by decide +kernel⟩
set_option maxRecDepth 100000 in
theorem my_N_isSafe : xa_my xP 20 2 := ⟨xw_t (i := 290) rfl (by decide +kernel), by decide +kernel, by decide +kernel, by decide +kernel, by decide +kernel⟩
set_option maxRecDepth 100000 in
theorem my_N_isRight : xa_my xP 21 2 := ⟨xw_t (i := 294) rfl (by decide +kernel), by decide +kernel, by decide +kernel, by decide +kernel, by decide +kernel⟩
set_option maxRecDepth 100000 in
theorem my_G_fire : xa_my xP 22 3 := ⟨xw_t (i := 298) rfl (by decide +kernel), by decide +kernel, by decide +kernel, by decide +kernel, by decide +kernel⟩
set_option maxRecDepth 100000 in
theorem my_N_markingAfter : xa_my xP 23 2 := ⟨xw_t (i := 302) rfl (by decide +kernel), by decide +kernel, by decide +kernel, by decide +kernel, by decide +kernel⟩
set_option maxRecDepth 100000 in
theorem my_N_codeAfter : xa_my xP 24 2 := ⟨xw_t (i := 306) rfl (by decide +kernel), by decide +kernel, by decide +kernel, by decide +kernel, by decide +kernel⟩
set_option maxRecDepth 100000 in
theorem my_G_judge : xa_my xP 25 1 := ⟨xw_t (i := 310) rfl (by decide +kernel), by decide +kernel, by decide +kernel, by decide +kernel, by decide +kernel⟩
set_option maxRecDepth 100000 in
theorem my_G_leastDisablingState : xa_my xP 26 1 := ⟨xw_t (i := 314) rfl (by decide +kernel), by decide +kernel, by decide +kernel, by decide +kernel, by decide +kernel⟩
set_option maxRecDepth 100000 in
theorem my_G_successor : xa_my xP 27 2 := ⟨xw_t (i := 318) rfl (by decide +kernel), by decide +kernel, by decide +kernel, by decide +kernel, by decide +kernel⟩
set_option maxRecDepth 100000 in
theorem my_G_losesEdge : xa_my xP 28 3 := ⟨xw_t (i := 322) rfl (by decide +kernel), by decide +kernel, by decide +kernel, by decide +kernel, by decide +kernel⟩
set_option maxRecDepth 100000 in
theorem my_G_leastConflictingState : xa_my xP 29 0 := ⟨xw_t (i := 326) rfl (by decide +kernel), by decide +kernel, by decide +kernel, by decide +kernel, by decide +kernel⟩
set_option maxRecDepth 100000 in
theorem my_CG_fault : xa_my xP 30 0 := ⟨xw_t (i := 330) rfl (by decide +kernel), by decide +kernel, by decide +kernel, by decide +kernel, by decide +kernel⟩
set_option maxRecDepth 100000 in
theorem my_W_signal : xa_my xP 31 4 := ⟨xw_t (i := 333) rfl (by decide +kernel), by decide +kernel, by decide +kernel, by decide +kernel, by decide +kernel⟩
set_option maxRecDepth 100000 in
theorem my_CG_signal : xa_my xP 32 2 := ⟨xw_t (i := 338) rfl (by decide +kernel), by decide +kernel, by decide +kernel, by decide +kernel, by decide +kernel⟩
set_option maxRecDepth 100000 in
theorem my_N_addSignal : xa_my xP 33 2 := ⟨xw_t (i := 411) rfl (by decide +kernel), by decide +kernel, by decide +kernel, by decide +kernel, by decide +kernel⟩
set_option maxRecDepth 100000 in
theorem my_W_edge : xa_my xP 34 4 := ⟨xw_t (i := 414) rfl (by decide +kernel), by decide +kernel, by decide +kernel, by decide +kernel, by decide +kernel⟩
set_option maxRecDepth 100000 in
theorem my_CG_edge : xa_my xP 35 2 := ⟨xw_t (i := 419) rfl (by decide +kernel), by decide +kernel, by decide +kernel, by decide +kernel, by decide +kernel⟩
set_option maxRecDepth 100000 in
theorem my_CG_requireSignal : xa_my xP 36 1 := ⟨xw_t (i := 423) rfl (by decide +kernel), by decide +kernel, by decide +kernel, by decide +kernel, by decide +kernel⟩
set_option maxRecDepth 100000 in
theorem my_N_addEdge : xa_my xP 37 2 := ⟨xw_t (i := 444) rfl (by decide +kernel), by decide +kernel, by decide +kernel, by decide +kernel, by decide +kernel⟩
set_option maxRecDepth 100000 in
theorem my_W_place : xa_my xP 38 3 := ⟨xw_t (i := 447) rfl (by decide +kernel), by decide +kernel, by decide +kernel, by decide +kernel, by decide +kernel⟩
set_option maxRecDepth 100000 in
theorem my_CG_place : xa_my xP 39 1 := ⟨xw_t (i := 451) rfl (by decide +kernel), by decide +kernel, by decide +kernel, by decide +kernel, by decide +kernel⟩
set_option maxRecDepth 100000 in
theorem my_N_addPlace : xa_my xP 40 1 := ⟨xw_t (i := 456) rfl (by decide +kernel), by decide +kernel, by decide +kernel, by decide +kernel, by decide +kernel⟩
set_option maxRecDepth 100000 in
theorem my_W_arc : xa_my xP 41 4 := ⟨xw_t (i := 459) rfl (by decide +kernel), by decide +kernel, by decide +kernel, by decide +kernel, by decide +kernel⟩
set_option maxRecDepth 100000 in
theorem my_CG_arc : xa_my xP 42 3 := ⟨xw_t (i := 464) rfl (by decide +kernel), by decide +kernel, by decide +kernel, by decide +kernel, by decide +kernel⟩
set_option maxRecDepth 100000 in
theorem my_N_hasArc : xa_my xP 43 3 := ⟨xw_t (i := 470) rfl (by decide +kernel), by decide +kernel, by decide +kernel, by decide +kernel, by decide +kernel⟩
set_option maxRecDepth 100000 in
theorem my_N_addArc : xa_my xP 44 3 := ⟨xw_t (i := 490) rfl (by decide +kernel), by decide +kernel, by decide +kernel, by decide +kernel, by decide +kernel⟩
set_option maxRecDepth 100000 in
theorem my_W_states : xa_my xP 45 2 := ⟨xw_t (i := 493) rfl (by decide +kernel), by decide +kernel, by decide +kernel, by decide +kernel, by decide +kernel⟩
set_option maxRecDepth 100000 in
theorem my_CG_states : xa_my xP 46 0 := ⟨xw_t (i := 497) rfl (by decide +kernel), by decide +kernel, by decide +kernel, by decide +kernel, by decide +kernel⟩
set_option maxRecDepth 100000 in
theorem my_CG_requireGraph : xa_my xP 47 0 := ⟨xw_t (i := 501) rfl (by decide +kernel), by decide +kernel, by decide +kernel, by decide +kernel, by decide +kernel⟩
set_option maxRecDepth 100000 in
theorem my_W_code : xa_my xP 48 3 := ⟨xw_t (i := 505) rfl (by decide +kernel), by decide +kernel, by decide +kernel, by decide +kernel, by decide +kernel⟩
set_option maxRecDepth 100000 in
theorem my_CG_code : xa_my xP 49 1 := ⟨xw_t (i := 509) rfl (by decide +kernel), by decide +kernel, by decide +kernel, by decide +kernel, by decide +kernel⟩
set_option maxRecDepth 100000 in
theorem my_CG_requireState : xa_my xP 50 1 := ⟨xw_t (i := 513) rfl (by decide +kernel), by decide +kernel, by decide +kernel, by decide +kernel, by decide +kernel⟩
set_option maxRecDepth 100000 in
theorem my_W_marking : xa_my xP 51 3 := ⟨xw_t (i := 517) rfl (by decide +kernel), by decide +kernel, by decide +kernel, by decide +kernel, by decide +kernel⟩
set_option maxRecDepth 100000 in
theorem my_CG_marking : xa_my xP 52 1 := ⟨xw_t (i := 521) rfl (by decide +kernel), by decide +kernel, by decide +kernel, by decide +kernel, by decide +kernel⟩
set_option maxRecDepth 100000 in
theorem my_W_found : xa_my xP 53 3 := ⟨xw_t (i := 524) rfl (by decide +kernel), by decide +kernel, by decide +kernel, by decide +kernel, by decide +kernel⟩
set_option maxRecDepth 100000 in
theorem my_CG_found : xa_my xP 54 1 := ⟨xw_t (i := 528) rfl (by decide +kernel), by decide +kernel, by decide +kernel, by decide +kernel, by decide +kernel⟩
set_option maxRecDepth 100000 in
theorem my_W_excited : xa_my xP 55 3 := ⟨xw_t (i := 531) rfl (by decide +kernel), by decide +kernel, by decide +kernel, by decide +kernel, by decide +kernel⟩
set_option maxRecDepth 100000 in
theorem my_CG_excited : xa_my xP 56 1 := ⟨xw_t (i := 535) rfl (by decide +kernel), by decide +kernel, by decide +kernel, by decide +kernel, by decide +kernel⟩
set_option maxRecDepth 100000 in
theorem my_W_synthesise : xa_my xP 57 2 := ⟨xw_t (i := 538) rfl (by decide +kernel), by decide +kernel, by decide +kernel, by decide +kernel, by decide +kernel⟩
set_option maxRecDepth 100000 in
theorem my_CG_synthesise : xa_my xP 58 0 := ⟨xw_t (i := 543) rfl (by decide +kernel), by decide +kernel, by decide +kernel, by decide +kernel, by decide +kernel⟩
set_option maxRecDepth 100000 in
theorem my_CG_requireFine : xa_my xP 59 0 := ⟨xw_t (i := 547) rfl (by decide +kernel), by decide +kernel, by decide +kernel, by decide +kernel, by decide +kernel⟩
set_option maxRecDepth 100000 in
theorem my_CG_makeDraft : xa_my xP 60 1 := ⟨xw_t (i := 552) rfl (by decide +kernel), by decide +kernel, by decide +kernel, by decide +kernel, by decide +kernel⟩
set_option maxRecDepth 100000 in
theorem my_G_codesWithNext : xa_my xP 61 2 := ⟨xw_t (i := 558) rfl (by decide +kernel), by decide +kernel, by decide +kernel, by decide +kernel, by decide +kernel⟩
set_option maxRecDepth 100000 in
theorem my_G_isExcited : xa_my xP 62 2 := ⟨xw_t (i := 562) rfl (by decide +kernel), by decide +kernel, by decide +kernel, by decide +kernel, by decide +kernel⟩
set_option maxRecDepth 100000 in
theorem my_L_find : xa_my xP 63 3 := ⟨xw_t (i := 566) rfl (by decide +kernel), by decide +kernel, by decide +kernel, by decide +kernel, by decide +kernel⟩
set_option maxRecDepth 100000 in
theorem my_L_collectPrimes : xa_my xP 64 3 := ⟨xw_t (i := 570) rfl (by decide +kernel), by decide +kernel, by decide +kernel, by decide +kernel, by decide +kernel⟩
set_option maxRecDepth 100000 in
theorem my_L_isPrime : xa_my xP 65 3 := ⟨xw_t (i := 574) rfl (by decide +kernel), by decide +kernel, by decide +kernel, by decide +kernel, by decide +kernel⟩
set_option maxRecDepth 100000 in
theorem my_L_digit : xa_my xP 66 2 := ⟨xw_t (i := 577) rfl (by decide +kernel), by decide +kernel, by decide +kernel, by decide +kernel, by decide +kernel⟩
set_option maxRecDepth 100000 in
theorem my_L_fixedDigits : xa_my xP 67 2 := ⟨xw_t (i := 580) rfl (by decide +kernel), by decide +kernel, by decide +kernel, by decide +kernel, by decide +kernel⟩
set_option maxRecDepth 100000 in
theorem my_JI_bitCount : xa_my xP 68 1 := ⟨xw_t (i := 583) rfl (by decide +kernel), by decide +kernel, by decide +kernel, by decide +kernel, by decide +kernel⟩
set_option maxRecDepth 100000 in
theorem my_L_countRivals : xa_my xP 69 0 := ⟨xw_t (i := 593) rfl (by decide +kernel), by decide +kernel, by decide +kernel, by decide +kernel, by decide +kernel⟩
set_option maxRecDepth 100000 in
theorem my_L_search : xa_my xP 70 4 := ⟨xw_t (i := 596) rfl (by decide +kernel), by decide +kernel, by decide +kernel, by decide +kernel, by decide +kernel⟩
set_option maxRecDepth 100000 in
theorem my_L_keepIfLess : xa_my xP 71 1 := ⟨xw_t (i := 600) rfl (by decide +kernel), by decide +kernel, by decide +kernel, by decide +kernel, by decide +kernel⟩
set_option maxRecDepth 100000 in
theorem my_L_takenComesFirst : xa_my xP 72 0 := ⟨xw_t (i := 604) rfl (by decide +kernel), by decide +kernel, by decide +kernel, by decide +kernel, by decide +kernel⟩
set_option maxRecDepth 100000 in
theorem my_L_leastCostOf : xa_my xP 73 1 := ⟨xw_t (i := 608) rfl (by decide +kernel), by decide +kernel, by decide +kernel, by decide +kernel, by decide +kernel⟩
set_option maxRecDepth 100000 in
theorem my_L_codeWithFewestRivals : xa_my xP 74 1 := ⟨xw_t (i := 612) rfl (by decide +kernel), by decide +kernel, by decide +kernel, by decide +kernel, by decide +kernel⟩
set_option maxRecDepth 100000 in
theorem my_L_liftBars : xa_my xP 75 1 := ⟨xw_t (i := 616) rfl (by decide +kernel), by decide +kernel, by decide +kernel, by decide +kernel, by decide +kernel⟩
set_option maxRecDepth 100000 in
theorem my_L_giveTo : xa_my xP 76 1 := ⟨xw_t (i := 620) rfl (by decide +kernel), by decide +kernel, by decide +kernel, by decide +kernel, by decide +kernel⟩
set_option maxRecDepth 100000 in
theorem my_Ga_add : xa_my xP 77 2 := ⟨xw_t (i := 624) rfl (by decide +kernel), by decide +kernel, by decide +kernel, by decide +kernel, by decide +kernel⟩
set_option maxRecDepth 100000 in
theorem my_Ci_adoptDrafts : xa_my xP 78 0 := ⟨xw_t (i := 644) rfl (by decide +kernel), by decide +kernel, by decide +kernel, by decide +kernel, by decide +kernel⟩
set_option maxRecDepth 100000 in
theorem my_W_products : xa_my xP 79 3 := ⟨xw_t (i := 647) rfl (by decide +kernel), by decide +kernel, by decide +kernel, by decide +kernel, by decide +kernel⟩
set_option maxRecDepth 100000 in
theorem my_CG_products : xa_my xP 80 1 := ⟨xw_t (i := 651) rfl (by decide +kernel), by decide +kernel, by decide +kernel, by decide +kernel, by decide +kernel⟩
set_option maxRecDepth 100000 in
theorem my_W_product : xa_my xP 81 4 := ⟨xw_t (i := 654) rfl (by decide +kernel), by decide +kernel, by decide +kernel, by decide +kernel, by decide +kernel⟩
set_option maxRecDepth 100000 in
theorem my_CG_product : xa_my xP 82 2 := ⟨xw_t (i := 658) rfl (by decide +kernel), by decide +kernel, by decide +kernel, by decide +kernel, by decide +kernel⟩
set_option maxRecDepth 100000 in
theorem my_W_append : xa_my xP 83 4 := ⟨xw_t (i := 662) rfl (by decide +kernel), by decide +kernel, by decide +kernel, by decide +kernel, by decide +kernel⟩
set_option maxRecDepth 100000 in
theorem my_CG_append : xa_my xP 84 2 := ⟨xw_t (i := 666) rfl (by decide +kernel), by decide +kernel, by decide +kernel, by decide +kernel, by decide +kernel⟩
set_option maxRecDepth 100000 in
theorem my_L_spanOf : xa_my xP 85 1 := ⟨xw_t (i := 674) rfl (by decide +kernel), by decide +kernel, by decide +kernel, by decide +kernel, by decide +kernel⟩
set_option maxRecDepth 100000 in
theorem my_W_strip : xa_my xP 86 2 := ⟨xw_t (i := 678) rfl (by decide +kernel), by decide +kernel, by decide +kernel, by decide +kernel, by decide +kernel⟩
set_option maxRecDepth 100000 in
theorem my_CG_strip : xa_my xP 87 1 := ⟨xw_t (i := 682) rfl (by decide +kernel), by decide +kernel, by decide +kernel, by decide +kernel, by decide +kernel⟩
set_option maxRecDepth 100000 in
theorem my_W_value : xa_my xP 88 4 := ⟨xw_t (i := 685) rfl (by decide +kernel), by decide +kernel, by decide +kernel, by decide +kernel, by decide +kernel⟩
set_option maxRecDepth 100000 in
theorem my_CG_value : xa_my xP 89 2 := ⟨xw_t (i := 689) rfl (by decide +kernel), by decide +kernel, by decide +kernel, by decide +kernel, by decide +kernel⟩
set_option maxRecDepth 100000 in
theorem my_Ga_output : xa_my xP 90 1 := ⟨xw_t (i := 694) rfl (by decide +kernel), by decide +kernel, by decide +kernel, by decide +kernel, by decide +kernel⟩
set_option maxRecDepth 100000 in
theorem my_W_check : xa_my xP 91 2 := ⟨xw_t (i := 697) rfl (by decide +kernel), by decide +kernel, by decide +kernel, by decide +kernel, by decide +kernel⟩
set_option maxRecDepth 100000 in
theorem my_CG_check : xa_my xP 92 0 := ⟨xw_t (i := 701) rfl (by decide +kernel), by decide +kernel, by decide +kernel, by decide +kernel, by decide +kernel⟩
set_option maxRecDepth 100000 in
theorem my_Ci_explore : xa_my xP 93 2 := ⟨xw_t (i := 705) rfl (by decide +kernel), by decide +kernel, by decide +kernel, by decide +kernel, by decide +kernel⟩
set_option maxRecDepth 100000 in
theorem my_Ci_reachStates : xa_my xP 94 2 := ⟨xw_t (i := 709) rfl (by decide +kernel), by decide +kernel, by decide +kernel, by decide +kernel, by decide +kernel⟩
set_option maxRecDepth 100000 in
theorem my_Ci_reach : xa_my xP 95 1 := ⟨xw_t (i := 713) rfl (by decide +kernel), by decide +kernel, by decide +kernel, by decide +kernel, by decide +kernel⟩
set_option maxRecDepth 100000 in
theorem my_Ci_mayFire : xa_my xP 96 4 := ⟨xw_t (i := 717) rfl (by decide +kernel), by decide +kernel, by decide +kernel, by decide +kernel, by decide +kernel⟩
set_option maxRecDepth 100000 in
theorem my_Ci_leastFaultyState : xa_my xP 97 3 := ⟨xw_t (i := 726) rfl (by decide +kernel), by decide +kernel, by decide +kernel, by decide +kernel, by decide +kernel⟩
set_option maxRecDepth 100000 in
theorem my_Ci_isFaulty : xa_my xP 98 5 := ⟨xw_t (i := 730) rfl (by decide +kernel), by decide +kernel, by decide +kernel, by decide +kernel, by decide +kernel⟩
set_option maxRecDepth 100000 in
theorem my_Ci_acts : xa_my xP 99 2 := ⟨xw_t (i := 734) rfl (by decide +kernel), by decide +kernel, by decide +kernel, by decide +kernel, by decide +kernel⟩
set_option maxRecDepth 100000 in
theorem my_Ci_mayStopActing : xa_my xP 100 4 := ⟨xw_t (i := 738) rfl (by decide +kernel), by decide +kernel, by decide +kernel, by decide +kernel, by decide +kernel⟩
set_option maxRecDepth 100000 in
theorem my_M_init : xa_my xP 101 0 := ⟨xw_t (i := 744) rfl (by decide +kernel), by decide +kernel, by decide +kernel, by decide +kernel, by decide +kernel⟩
set_option maxRecDepth 100000 in
theorem my_M_thrown : xa_my xP 102 0 := ⟨xw_t (i := 840) rfl (by decide +kernel), by decide +kernel, by decide +kernel, by decide +kernel, by decide +kernel⟩
set_option maxRecDepth 100000 in
theorem my_M_signal : xa_my xP 103 2 := ⟨xw_t (i := 844) rfl (by decide +kernel), by decide +kernel, by decide +kernel, by decide +kernel, by decide +kernel⟩
set_option maxRecDepth 100000 in
theorem my_M_discard : xa_my xP 104 0 := ⟨xw_t (i := 848) rfl (by decide +kernel), by decide +kernel, by decide +kernel, by decide +kernel, by decide +kernel⟩
set_option maxRecDepth 100000 in
theorem my_M_edge : xa_my xP 105 2 := ⟨xw_t (i := 852) rfl (by decide +kernel), by decide +kernel, by decide +kernel, by decide +kernel, by decide +kernel⟩
set_option maxRecDepth 100000 in
theorem my_M_noSignal : xa_my xP 106 1 := ⟨xw_t (i := 856) rfl (by decide +kernel), by decide +kernel, by decide +kernel, by decide +kernel, by decide +kernel⟩
set_option maxRecDepth 100000 in
theorem my_M_place : xa_my xP 107 1 := ⟨xw_t (i := 860) rfl (by decide +kernel), by decide +kernel, by decide +kernel, by decide +kernel, by decide +kernel⟩
set_option maxRecDepth 100000 in
theorem my_M_arc : xa_my xP 108 3 := ⟨xw_t (i := 864) rfl (by decide +kernel), by decide +kernel, by decide +kernel, by decide +kernel, by decide +kernel⟩
set_option maxRecDepth 100000 in
theorem my_M_analyse : xa_my xP 109 0 := ⟨xw_t (i := 868) rfl (by decide +kernel), by decide +kernel, by decide +kernel, by decide +kernel, by decide +kernel⟩
set_option maxRecDepth 100000 in
theorem my_M_explore : xa_my xP 110 0 := ⟨xw_t (i := 872) rfl (by decide +kernel), by decide +kernel, by decide +kernel, by decide +kernel, by decide +kernel⟩
set_option maxRecDepth 100000 in
theorem my_M_enabled : xa_my xP 111 2 := ⟨xw_t (i := 876) rfl (by decide +kernel), by decide +kernel, by decide +kernel, by decide +kernel, by decide +kernel⟩
set_option maxRecDepth 100000 in
theorem my_M_safe : xa_my xP 112 2 := ⟨xw_t (i := 880) rfl (by decide +kernel), by decide +kernel, by decide +kernel, by decide +kernel, by decide +kernel⟩
set_option maxRecDepth 100000 in
theorem my_M_right : xa_my xP 113 2 := ⟨xw_t (i := 884) rfl (by decide +kernel), by decide +kernel, by decide +kernel, by decide +kernel, by decide +kernel⟩
set_option maxRecDepth 100000 in
theorem my_M_markAfter : xa_my xP 114 2 := ⟨xw_t (i := 888) rfl (by decide +kernel), by decide +kernel, by decide +kernel, by decide +kernel, by decide +kernel⟩
set_option maxRecDepth 100000 in
theorem my_M_codeAfter : xa_my xP 115 2 := ⟨xw_t (i := 892) rfl (by decide +kernel), by decide +kernel, by decide +kernel, by decide +kernel, by decide +kernel⟩
set_option maxRecDepth 100000 in
theorem my_M_find : xa_my xP 116 2 := ⟨xw_t (i := 896) rfl (by decide +kernel), by decide +kernel, by decide +kernel, by decide +kernel, by decide +kernel⟩
set_option maxRecDepth 100000 in
theorem my_M_bad : xa_my xP 117 2 := ⟨xw_t (i := 900) rfl (by decide +kernel), by decide +kernel, by decide +kernel, by decide +kernel, by decide +kernel⟩
set_option maxRecDepth 100000 in
theorem my_M_loses : xa_my xP 118 1 := ⟨xw_t (i := 904) rfl (by decide +kernel), by decide +kernel, by decide +kernel, by decide +kernel, by decide +kernel⟩
set_option maxRecDepth 100000 in
theorem my_M_sameEdge : xa_my xP 119 2 := ⟨xw_t (i := 908) rfl (by decide +kernel), by decide +kernel, by decide +kernel, by decide +kernel, by decide +kernel⟩
set_option maxRecDepth 100000 in
theorem my_M_edgeEnabled : xa_my xP 120 2 := ⟨xw_t (i := 912) rfl (by decide +kernel), by decide +kernel, by decide +kernel, by decide +kernel, by decide +kernel⟩
set_option maxRecDepth 100000 in
theorem my_M_conflicts : xa_my xP 121 1 := ⟨xw_t (i := 916) rfl (by decide +kernel), by decide +kernel, by decide +kernel, by decide +kernel, by decide +kernel⟩
set_option maxRecDepth 100000 in
theorem my_M_excitedIn : xa_my xP 122 1 := ⟨xw_t (i := 920) rfl (by decide +kernel), by decide +kernel, by decide +kernel, by decide +kernel, by decide +kernel⟩
set_option maxRecDepth 100000 in
theorem my_M_states : xa_my xP 123 0 := ⟨xw_t (i := 924) rfl (by decide +kernel), by decide +kernel, by decide +kernel, by decide +kernel, by decide +kernel⟩
set_option maxRecDepth 100000 in
theorem my_M_noGraph : xa_my xP 124 0 := ⟨xw_t (i := 928) rfl (by decide +kernel), by decide +kernel, by decide +kernel, by decide +kernel, by decide +kernel⟩
set_option maxRecDepth 100000 in
theorem my_M_code : xa_my xP 125 1 := ⟨xw_t (i := 932) rfl (by decide +kernel), by decide +kernel, by decide +kernel, by decide +kernel, by decide +kernel⟩
set_option maxRecDepth 100000 in
theorem my_M_noState : xa_my xP 126 1 := ⟨xw_t (i := 936) rfl (by decide +kernel), by decide +kernel, by decide +kernel, by decide +kernel, by decide +kernel⟩
set_option maxRecDepth 100000 in
theorem my_M_marking : xa_my xP 127 1 := ⟨xw_t (i := 940) rfl (by decide +kernel), by decide +kernel, by decide +kernel, by decide +kernel, by decide +kernel⟩
set_option maxRecDepth 100000 in
theorem my_M_found : xa_my xP 128 1 := ⟨xw_t (i := 944) rfl (by decide +kernel), by decide +kernel, by decide +kernel, by decide +kernel, by decide +kernel⟩
set_option maxRecDepth 100000 in
theorem my_M_excited : xa_my xP 129 1 := ⟨xw_t (i := 948) rfl (by decide +kernel), by decide +kernel, by decide +kernel, by decide +kernel, by decide +kernel⟩
set_option maxRecDepth 100000 in
theorem my_M_fault : xa_my xP 130 0 := ⟨xw_t (i := 952) rfl (by decide +kernel), by decide +kernel, by decide +kernel, by decide +kernel, by decide +kernel⟩
set_option maxRecDepth 100000 in
theorem my_M_synthesise : xa_my xP 131 0 := ⟨xw_t (i := 956) rfl (by decide +kernel), by decide +kernel, by decide +kernel, by decide +kernel, by decide +kernel⟩
set_option maxRecDepth 100000 in
theorem my_M_leastSum : xa_my xP 132 1 := ⟨xw_t (i := 960) rfl (by decide +kernel), by decide +kernel, by decide +kernel, by decide +kernel, by decide +kernel⟩
set_option maxRecDepth 100000 in
theorem my_M_codesOf : xa_my xP 133 2 := ⟨xw_t (i := 964) rfl (by decide +kernel), by decide +kernel, by decide +kernel, by decide +kernel, by decide +kernel⟩
set_option maxRecDepth 100000 in
theorem my_M_tabulate : xa_my xP 134 1 := ⟨xw_t (i := 968) rfl (by decide +kernel), by decide +kernel, by decide +kernel, by decide +kernel, by decide +kernel⟩
set_option maxRecDepth 100000 in
theorem my_M_three : xa_my xP 135 1 := ⟨xw_t (i := 971) rfl (by decide +kernel), by decide +kernel, by decide +kernel, by decide +kernel, by decide +kernel⟩
set_option maxRecDepth 100000 in
theorem my_M_covers : xa_my xP 136 2 := ⟨xw_t (i := 975) rfl (by decide +kernel), by decide +kernel, by decide +kernel, by decide +kernel, by decide +kernel⟩
set_option maxRecDepth 100000 in
theorem my_M_tryCovers : xa_my xP 137 2 := ⟨xw_t (i := 979) rfl (by decide +kernel), by decide +kernel, by decide +kernel, by decide +kernel, by decide +kernel⟩
set_option maxRecDepth 100000 in
theorem my_M_open : xa_my xP 138 2 := ⟨xw_t (i := 982) rfl (by decide +kernel), by decide +kernel, by decide +kernel, by decide +kernel, by decide +kernel⟩
set_option maxRecDepth 100000 in
theorem my_M_nextPrime : xa_my xP 139 2 := ⟨xw_t (i := 986) rfl (by decide +kernel), by decide +kernel, by decide +kernel, by decide +kernel, by decide +kernel⟩
set_option maxRecDepth 100000 in
theorem my_M_judge : xa_my xP 140 1 := ⟨xw_t (i := 990) rfl (by decide +kernel), by decide +kernel, by decide +kernel, by decide +kernel, by decide +kernel⟩
set_option maxRecDepth 100000 in
theorem my_M_digits : xa_my xP 141 1 := ⟨xw_t (i := 994) rfl (by decide +kernel), by decide +kernel, by decide +kernel, by decide +kernel, by decide +kernel⟩
set_option maxRecDepth 100000 in
theorem my_M_products : xa_my xP 142 1 := ⟨xw_t (i := 998) rfl (by decide +kernel), by decide +kernel, by decide +kernel, by decide +kernel, by decide +kernel⟩
set_option maxRecDepth 100000 in
theorem my_M_product : xa_my xP 143 2 := ⟨xw_t (i := 1002) rfl (by decide +kernel), by decide +kernel, by decide +kernel, by decide +kernel, by decide +kernel⟩
set_option maxRecDepth 100000 in
theorem my_M_append : xa_my xP 144 2 := ⟨xw_t (i := 1006) rfl (by decide +kernel), by decide +kernel, by decide +kernel, by decide +kernel, by decide +kernel⟩
set_option maxRecDepth 100000 in
theorem my_M_strip : xa_my xP 145 1 := ⟨xw_t (i := 1010) rfl (by decide +kernel), by decide +kernel, by decide +kernel, by decide +kernel, by decide +kernel⟩
set_option maxRecDepth 100000 in
theorem my_M_value : xa_my xP 146 2 := ⟨xw_t (i := 1014) rfl (by decide +kernel), by decide +kernel, by decide +kernel, by decide +kernel, by decide +kernel⟩
set_option maxRecDepth 100000 in
theorem my_M_valueOf : xa_my xP 147 2 := ⟨xw_t (i := 1018) rfl (by decide +kernel), by decide +kernel, by decide +kernel, by decide +kernel, by decide +kernel⟩
set_option maxRecDepth 100000 in
theorem my_M_check : xa_my xP 148 0 := ⟨xw_t (i := 1022) rfl (by decide +kernel), by decide +kernel, by decide +kernel, by decide +kernel, by decide +kernel⟩
set_option maxRecDepth 100000 in
theorem my_M_comeTo : xa_my xP 149 0 := ⟨xw_t (i := 1026) rfl (by decide +kernel), by decide +kernel, by decide +kernel, by decide +kernel, by decide +kernel⟩
set_option maxRecDepth 100000 in
theorem my_M_fires : xa_my xP 150 2 := ⟨xw_t (i := 1030) rfl (by decide +kernel), by decide +kernel, by decide +kernel, by decide +kernel, by decide +kernel⟩
set_option maxRecDepth 100000 in
theorem my_M_acts : xa_my xP 151 2 := ⟨xw_t (i := 1034) rfl (by decide +kernel), by decide +kernel, by decide +kernel, by decide +kernel, by decide +kernel⟩
set_option maxRecDepth 100000 in
theorem my_M_hazard : xa_my xP 152 1 := ⟨xw_t (i := 1038) rfl (by decide +kernel), by decide +kernel, by decide +kernel, by decide +kernel, by decide +kernel⟩
set_option maxRecDepth 100000 in
theorem my_M_unexpected : xa_my xP 153 1 := ⟨xw_t (i := 1042) rfl (by decide +kernel), by decide +kernel, by decide +kernel, by decide +kernel, by decide +kernel⟩
set_option maxRecDepth 100000 in
theorem my_M_missing : xa_my xP 154 1 := ⟨xw_t (i := 1046) rfl (by decide +kernel), by decide +kernel, by decide +kernel, by decide +kernel, by decide +kernel⟩
theorem ki_CG_9 : xa_lkI xP "ClocklessGates" 9 1 0 := ⟨Or.inr ⟨"ClocklessGates", xw_t (i := 27) (by decide +kernel) (by decide +kernel)⟩, xw_t (i := 28) (by decide +kernel) (by decide +kernel), rfl, rfl, rfl, my_N_init, by decide +kernel⟩
theorem fg_CG_10 : xa_fld xP "ClocklessGates" 10 0 0 := ⟨_, _, _, _, k_CG, by decide, Or.inl (xw_t (i := 216) (by decide +kernel) (by decide +kernel))⟩
theorem ff_CG_10 : xa_fldF xP "ClocklessGates" 10 0 0 (.object "ClocklessGates$Net") := ⟨_, _, _, _, k_CG, by decide, rfl, rfl, rfl, xw_t (i := 216) (by decide +kernel) (by decide +kernel)⟩
theorem ki_CG_18 : xa_lkI xP "ClocklessGates" 18 2 0 := ⟨Or.inr ⟨"ClocklessGates", xw_t (i := 78) (by decide +kernel) (by decide +kernel)⟩, xw_t (i := 79) (by decide +kernel) (by decide +kernel), rfl, rfl, rfl, my_G_init, by decide +kernel⟩
theorem fg_CG_19 : xa_fld xP "ClocklessGates" 19 0 1 := ⟨_, _, _, _, k_CG, by decide, Or.inl (xw_t (i := 217) (by decide +kernel) (by decide +kernel))⟩
theorem ff_CG_19 : xa_fldF xP "ClocklessGates" 19 0 1 (.object "ClocklessGates$Graph") := ⟨_, _, _, _, k_CG, by decide, rfl, rfl, rfl, xw_t (i := 217) (by decide +kernel) (by decide +kernel)⟩
theorem ki_CG_25 : xa_lkI xP "ClocklessGates" 25 3 0 := ⟨Or.inl (xw_t (i := 126) (by decide +kernel) (by decide +kernel)), xw_t (i := 127) (by decide +kernel) (by decide +kernel), rfl, rfl, rfl, my_Ci_init, by decide +kernel⟩
theorem fg_CG_26 : xa_fld xP "ClocklessGates" 26 0 2 := ⟨_, _, _, _, k_CG, by decide, Or.inl (xw_t (i := 218) (by decide +kernel) (by decide +kernel))⟩
theorem ff_CG_26 : xa_fldF xP "ClocklessGates" 26 0 2 (.object "ClocklessGates$Circuit") := ⟨_, _, _, _, k_CG, by decide, rfl, rfl, rfl, xw_t (i := 218) (by decide +kernel) (by decide +kernel)⟩
theorem ki_CG_32 : xa_lkI xP "ClocklessGates" 32 5 0 := ⟨Or.inl (xw_t (i := 173) (by decide +kernel) (by decide +kernel)), xw_t (i := 174) (by decide +kernel) (by decide +kernel), rfl, rfl, rfl, my_L_init, by decide +kernel⟩
theorem fg_CG_33 : xa_fld xP "ClocklessGates" 33 0 3 := ⟨_, _, _, _, k_CG, by decide, Or.inl (xw_t (i := 219) (by decide +kernel) (by decide +kernel))⟩
theorem ff_CG_33 : xa_fldF xP "ClocklessGates" 33 0 3 (.object "ClocklessGates$LeastSum") := ⟨_, _, _, _, k_CG, by decide, rfl, rfl, rfl, xw_t (i := 219) (by decide +kernel) (by decide +kernel)⟩
theorem fg_CG_37 : xa_fld xP "ClocklessGates" 37 0 4 := ⟨_, _, _, _, k_CG, by decide, Or.inl (xw_t (i := 220) (by decide +kernel) (by decide +kernel))⟩
theorem fp_CG_37 : xa_fldP xP "ClocklessGates" 37 0 4 (.int) := ⟨_, _, _, _, k_CG, by decide, rfl, rfl, Or.inl (xw_t (i := 220) (by decide +kernel) (by decide +kernel))⟩
theorem fg_CG_41 : xa_fld xP "ClocklessGates" 41 0 5 := ⟨_, _, _, _, k_CG, by decide, Or.inl (xw_t (i := 221) (by decide +kernel) (by decide +kernel))⟩
theorem fp_CG_41 : xa_fldP xP "ClocklessGates" 41 0 5 (.int) := ⟨_, _, _, _, k_CG, by decide, rfl, rfl, Or.inl (xw_t (i := 221) (by decide +kernel) (by decide +kernel))⟩
theorem fg_CG_44 : xa_fld xP "ClocklessGates" 44 1 0 := ⟨_, _, _, _, k_N, by decide, Or.inl (xw_t (i := 32) (by decide +kernel) (by decide +kernel))⟩
theorem kv_CG_54 : xa_lkV xP "ClocklessGates" 54 0 8 0 := ⟨Or.inl (xw_t (i := 239) (by decide +kernel) (by decide +kernel)), xw_t (i := 241) (by decide +kernel) (by decide +kernel), ⟨_, _, rfl⟩, xw_s (i := 0) (q := (⟨"ClocklessGates", "discardResults", "()V"⟩, 6)) (by decide +kernel) (by decide +kernel), my_CG_discardResults, by decide +kernel⟩
theorem kv_CG_57 : xa_lkV xP "ClocklessGates" 57 1 33 2 := ⟨Or.inl (xw_t (i := 408) (by decide +kernel) (by decide +kernel)), xw_t (i := 409) (by decide +kernel) (by decide +kernel), ⟨_, _, rfl⟩, xw_t (i := 410) (by decide +kernel) (by decide +kernel), my_N_addSignal, by decide +kernel⟩
theorem kv_CG_61 : xa_lkV xP "ClocklessGates" 61 0 36 1 := ⟨Or.inl (xw_t (i := 420) (by decide +kernel) (by decide +kernel)), xw_t (i := 422) (by decide +kernel) (by decide +kernel), ⟨_, _, rfl⟩, xw_s (i := 9) (q := (⟨"ClocklessGates", "requireSignal", "(I)V"⟩, 6)) (by decide +kernel) (by decide +kernel), my_CG_requireSignal, by decide +kernel⟩
theorem fg_CG_65 : xa_fld xP "ClocklessGates" 65 1 1 := ⟨_, _, _, _, k_N, by decide, Or.inl (xw_t (i := 35) (by decide +kernel) (by decide +kernel))⟩
theorem kv_CG_70 : xa_lkV xP "ClocklessGates" 70 1 37 2 := ⟨Or.inl (xw_t (i := 441) (by decide +kernel) (by decide +kernel)), xw_t (i := 442) (by decide +kernel) (by decide +kernel), ⟨_, _, rfl⟩, xw_t (i := 443) (by decide +kernel) (by decide +kernel), my_N_addEdge, by decide +kernel⟩
theorem fg_CG_74 : xa_fld xP "ClocklessGates" 74 1 2 := ⟨_, _, _, _, k_N, by decide, Or.inl (xw_t (i := 38) (by decide +kernel) (by decide +kernel))⟩
theorem kv_CG_79 : xa_lkV xP "ClocklessGates" 79 1 40 1 := ⟨Or.inl (xw_t (i := 453) (by decide +kernel) (by decide +kernel)), xw_t (i := 454) (by decide +kernel) (by decide +kernel), ⟨_, _, rfl⟩, xw_t (i := 455) (by decide +kernel) (by decide +kernel), my_N_addPlace, by decide +kernel⟩
theorem kv_CG_90 : xa_lkV xP "ClocklessGates" 90 1 43 3 := ⟨Or.inl (xw_t (i := 467) (by decide +kernel) (by decide +kernel)), xw_t (i := 468) (by decide +kernel) (by decide +kernel), ⟨_, _, rfl⟩, xw_t (i := 469) (by decide +kernel) (by decide +kernel), my_N_hasArc, by decide +kernel⟩
theorem kv_CG_99 : xa_lkV xP "ClocklessGates" 99 1 44 3 := ⟨Or.inl (xw_t (i := 487) (by decide +kernel) (by decide +kernel)), xw_t (i := 488) (by decide +kernel) (by decide +kernel), ⟨_, _, rfl⟩, xw_t (i := 489) (by decide +kernel) (by decide +kernel), my_N_addArc, by decide +kernel⟩
theorem kv_CG_103 : xa_lkV xP "ClocklessGates" 103 2 11 1 := ⟨Or.inl (xw_t (i := 251) (by decide +kernel) (by decide +kernel)), xw_t (i := 252) (by decide +kernel) (by decide +kernel), ⟨_, _, rfl⟩, xw_t (i := 253) (by decide +kernel) (by decide +kernel), my_G_build, by decide +kernel⟩
theorem kv_CG_107 : xa_lkV xP "ClocklessGates" 107 2 25 1 := ⟨Or.inl (xw_t (i := 307) (by decide +kernel) (by decide +kernel)), xw_t (i := 308) (by decide +kernel) (by decide +kernel), ⟨_, _, rfl⟩, xw_t (i := 309) (by decide +kernel) (by decide +kernel), my_G_judge, by decide +kernel⟩
theorem fg_CG_111 : xa_fld xP "ClocklessGates" 111 2 1 := ⟨_, _, _, _, k_G, by decide, Or.inl (xw_t (i := 85) (by decide +kernel) (by decide +kernel))⟩
theorem kv_CG_114 : xa_lkV xP "ClocklessGates" 114 0 47 0 := ⟨Or.inl (xw_t (i := 498) (by decide +kernel) (by decide +kernel)), xw_t (i := 500) (by decide +kernel) (by decide +kernel), ⟨_, _, rfl⟩, xw_s (i := 10) (q := (⟨"ClocklessGates", "requireGraph", "()V"⟩, 6)) (by decide +kernel) (by decide +kernel), my_CG_requireGraph, by decide +kernel⟩
theorem fg_CG_117 : xa_fld xP "ClocklessGates" 117 2 0 := ⟨_, _, _, _, k_G, by decide, Or.inl (xw_t (i := 83) (by decide +kernel) (by decide +kernel))⟩
theorem fp_CG_117 : xa_fldP xP "ClocklessGates" 117 2 0 (.int) := ⟨_, _, _, _, k_G, by decide, rfl, rfl, Or.inl (xw_t (i := 83) (by decide +kernel) (by decide +kernel))⟩
theorem kv_CG_120 : xa_lkV xP "ClocklessGates" 120 0 50 1 := ⟨Or.inl (xw_t (i := 510) (by decide +kernel) (by decide +kernel)), xw_t (i := 512) (by decide +kernel) (by decide +kernel), ⟨_, _, rfl⟩, xw_s (i := 11) (q := (⟨"ClocklessGates", "requireState", "(I)V"⟩, 6)) (by decide +kernel) (by decide +kernel), my_CG_requireState, by decide +kernel⟩
theorem fg_CG_123 : xa_fld xP "ClocklessGates" 123 2 3 := ⟨_, _, _, _, k_G, by decide, Or.inl (xw_t (i := 91) (by decide +kernel) (by decide +kernel))⟩
theorem fg_CG_127 : xa_fld xP "ClocklessGates" 127 2 2 := ⟨_, _, _, _, k_G, by decide, Or.inl (xw_t (i := 88) (by decide +kernel) (by decide +kernel))⟩
theorem fg_CG_130 : xa_fld xP "ClocklessGates" 130 2 4 := ⟨_, _, _, _, k_G, by decide, Or.inl (xw_t (i := 93) (by decide +kernel) (by decide +kernel))⟩
theorem fg_CG_133 : xa_fld xP "ClocklessGates" 133 2 5 := ⟨_, _, _, _, k_G, by decide, Or.inl (xw_t (i := 95) (by decide +kernel) (by decide +kernel))⟩
theorem kv_CG_136 : xa_lkV xP "ClocklessGates" 136 0 59 0 := ⟨Or.inl (xw_t (i := 544) (by decide +kernel) (by decide +kernel)), xw_t (i := 546) (by decide +kernel) (by decide +kernel), ⟨_, _, rfl⟩, xw_s (i := 12) (q := (⟨"ClocklessGates", "requireFine", "()V"⟩, 6)) (by decide +kernel) (by decide +kernel), my_CG_requireFine, by decide +kernel⟩
theorem kv_CG_139 : xa_lkV xP "ClocklessGates" 139 0 60 1 := ⟨Or.inl (xw_t (i := 549) (by decide +kernel) (by decide +kernel)), xw_t (i := 551) (by decide +kernel) (by decide +kernel), ⟨_, _, rfl⟩, xw_s (i := 13) (q := (⟨"ClocklessGates", "makeDraft", "(I)Z"⟩, 6)) (by decide +kernel) (by decide +kernel), my_CG_makeDraft, by decide +kernel⟩
theorem fg_CG_148 : xa_fld xP "ClocklessGates" 148 3 2 := ⟨_, _, _, _, k_Ci, by decide, Or.inl (xw_t (i := 154) (by decide +kernel) (by decide +kernel))⟩
theorem fg_CG_152 : xa_fld xP "ClocklessGates" 152 4 0 := ⟨_, _, _, _, k_Ga, by decide, Or.inl (xw_t (i := 138) (by decide +kernel) (by decide +kernel))⟩
theorem kv_CG_155 : xa_lkV xP "ClocklessGates" 155 3 78 0 := ⟨Or.inl (xw_t (i := 641) (by decide +kernel) (by decide +kernel)), xw_t (i := 642) (by decide +kernel) (by decide +kernel), ⟨_, _, rfl⟩, xw_t (i := 643) (by decide +kernel) (by decide +kernel), my_Ci_adoptDrafts, by decide +kernel⟩
theorem fg_CG_158 : xa_fld xP "ClocklessGates" 158 3 1 := ⟨_, _, _, _, k_Ci, by decide, Or.inl (xw_t (i := 152) (by decide +kernel) (by decide +kernel))⟩
theorem fg_CG_163 : xa_fld xP "ClocklessGates" 163 4 1 := ⟨_, _, _, _, k_Ga, by decide, Or.inl (xw_t (i := 140) (by decide +kernel) (by decide +kernel))⟩
theorem kv_CG_166 : xa_lkV xP "ClocklessGates" 166 1 19 1 := ⟨Or.inl (xw_t (i := 554) (by decide +kernel) (by decide +kernel)), xw_t (i := 284) (by decide +kernel) (by decide +kernel), ⟨_, _, rfl⟩, xw_t (i := 285) (by decide +kernel) (by decide +kernel), my_N_isInput, by decide +kernel⟩
theorem gs_CG_171 : Cond.fieldLink "ClocklessGates" 171 xP.2.2.2.1 xP.2.2.2.2.1 "[I" ∈ xP.2.2.1 ∨ ∃ host, Cond.fieldLinkNest "ClocklessGates" 171 xP.2.2.2.1 xP.2.2.2.2.1 "[I" host ∈ xP.2.2.1 := Or.inl (xw_t (i := 668) (by decide +kernel) (by decide +kernel))
theorem kv_CG_178 : xa_lkV xP "ClocklessGates" 178 5 85 1 := ⟨Or.inl (xw_t (i := 671) (by decide +kernel) (by decide +kernel)), xw_t (i := 672) (by decide +kernel) (by decide +kernel), ⟨_, _, rfl⟩, xw_t (i := 673) (by decide +kernel) (by decide +kernel), my_L_spanOf, by decide +kernel⟩
theorem kv_CG_182 : xa_lkV xP "ClocklessGates" 182 4 77 2 := ⟨Or.inl (xw_t (i := 675) (by decide +kernel) (by decide +kernel)), xw_t (i := 622) (by decide +kernel) (by decide +kernel), ⟨_, _, rfl⟩, xw_t (i := 623) (by decide +kernel) (by decide +kernel), my_Ga_add, by decide +kernel⟩
theorem kv_CG_186 : xa_lkV xP "ClocklessGates" 186 4 10 0 := ⟨Or.inl (xw_t (i := 553) (by decide +kernel) (by decide +kernel)), xw_t (i := 248) (by decide +kernel) (by decide +kernel), ⟨_, _, rfl⟩, xw_t (i := 249) (by decide +kernel) (by decide +kernel), my_Ga_clear, by decide +kernel⟩
theorem kv_CG_191 : xa_lkV xP "ClocklessGates" 191 4 90 1 := ⟨Or.inl (xw_t (i := 691) (by decide +kernel) (by decide +kernel)), xw_t (i := 692) (by decide +kernel) (by decide +kernel), ⟨_, _, rfl⟩, xw_t (i := 693) (by decide +kernel) (by decide +kernel), my_Ga_output, by decide +kernel⟩
theorem kv_CG_194 : xa_lkV xP "ClocklessGates" 194 3 93 2 := ⟨Or.inl (xw_t (i := 702) (by decide +kernel) (by decide +kernel)), xw_t (i := 703) (by decide +kernel) (by decide +kernel), ⟨_, _, rfl⟩, xw_t (i := 704) (by decide +kernel) (by decide +kernel), my_Ci_explore, by decide +kernel⟩
theorem fg_CG_198 : xa_fld xP "ClocklessGates" 198 3 0 := ⟨_, _, _, _, k_Ci, by decide, Or.inl (xw_t (i := 150) (by decide +kernel) (by decide +kernel))⟩
theorem kv_CG_199 : xa_lkV xP "ClocklessGates" 199 2 61 2 := ⟨Or.inl (xw_t (i := 555) (by decide +kernel) (by decide +kernel)), xw_t (i := 556) (by decide +kernel) (by decide +kernel), ⟨_, _, rfl⟩, xw_t (i := 557) (by decide +kernel) (by decide +kernel), my_G_codesWithNext, by decide +kernel⟩
theorem kv_CG_202 : xa_lkV xP "ClocklessGates" 202 5 63 3 := ⟨Or.inl (xw_t (i := 563) (by decide +kernel) (by decide +kernel)), xw_t (i := 564) (by decide +kernel) (by decide +kernel), ⟨_, _, rfl⟩, xw_t (i := 565) (by decide +kernel) (by decide +kernel), my_L_find, by decide +kernel⟩
theorem kv_CG_206 : xa_lkV xP "ClocklessGates" 206 5 76 1 := ⟨Or.inl (xw_t (i := 617) (by decide +kernel) (by decide +kernel)), xw_t (i := 618) (by decide +kernel) (by decide +kernel), ⟨_, _, rfl⟩, xw_t (i := 619) (by decide +kernel) (by decide +kernel), my_L_giveTo, by decide +kernel⟩
theorem kv_CG_210 : xa_lkV xP "ClocklessGates" 210 3 9 0 := ⟨Or.inl (xw_t (i := 243) (by decide +kernel) (by decide +kernel)), xw_t (i := 244) (by decide +kernel) (by decide +kernel), ⟨_, _, rfl⟩, xw_t (i := 245) (by decide +kernel) (by decide +kernel), my_Ci_clear, by decide +kernel⟩
theorem fg_Ci_11 : xa_fld xP "ClocklessGates$Circuit" 11 3 1 := ⟨_, _, _, _, k_Ci, by decide, Or.inl (xw_t (i := 151) (by decide +kernel) (by decide +kernel))⟩
theorem ff_Ci_11 : xa_fldF xP "ClocklessGates$Circuit" 11 3 1 (.array (.object "ClocklessGates$Gate")) := ⟨_, _, _, _, k_Ci, by decide, rfl, rfl, rfl, xw_t (i := 151) (by decide +kernel) (by decide +kernel)⟩
theorem fg_Ci_17 : xa_fld xP "ClocklessGates$Circuit" 17 3 2 := ⟨_, _, _, _, k_Ci, by decide, Or.inl (xw_t (i := 153) (by decide +kernel) (by decide +kernel))⟩
theorem ff_Ci_17 : xa_fldF xP "ClocklessGates$Circuit" 17 3 2 (.array (.object "ClocklessGates$Gate")) := ⟨_, _, _, _, k_Ci, by decide, rfl, rfl, rfl, xw_t (i := 153) (by decide +kernel) (by decide +kernel)⟩
theorem fg_Ci_20 : xa_fld xP "ClocklessGates$Circuit" 20 3 3 := ⟨_, _, _, _, k_Ci, by decide, Or.inl (xw_t (i := 155) (by decide +kernel) (by decide +kernel))⟩
theorem ff_Ci_20 : xa_fldF xP "ClocklessGates$Circuit" 20 3 3 (.array .boolean) := ⟨_, _, _, _, k_Ci, by decide, rfl, rfl, rfl, xw_t (i := 155) (by decide +kernel) (by decide +kernel)⟩
theorem fg_Ci_24 : xa_fld xP "ClocklessGates$Circuit" 24 3 4 := ⟨_, _, _, _, k_Ci, by decide, Or.inl (xw_t (i := 156) (by decide +kernel) (by decide +kernel))⟩
theorem ff_Ci_24 : xa_fldF xP "ClocklessGates$Circuit" 24 3 4 (.array .int) := ⟨_, _, _, _, k_Ci, by decide, rfl, rfl, rfl, xw_t (i := 156) (by decide +kernel) (by decide +kernel)⟩
theorem ki_Ci_28 : xa_lkI xP "ClocklessGates$Circuit" 28 4 0 := ⟨Or.inr ⟨"ClocklessGates", xw_t (i := 133) (by decide +kernel) (by decide +kernel)⟩, xw_t (i := 134) (by decide +kernel) (by decide +kernel), rfl, rfl, rfl, my_Ga_init, by decide +kernel⟩
theorem kv_Ci_29 : xa_lkV xP "ClocklessGates$Circuit" 29 4 10 0 := ⟨Or.inl (xw_t (i := 247) (by decide +kernel) (by decide +kernel)), xw_t (i := 248) (by decide +kernel) (by decide +kernel), ⟨_, _, rfl⟩, xw_t (i := 249) (by decide +kernel) (by decide +kernel), my_Ga_clear, by decide +kernel⟩
theorem kv_Ci_32 : xa_lkV xP "ClocklessGates$Circuit" 32 3 94 2 := ⟨Or.inl (xw_t (i := 706) (by decide +kernel) (by decide +kernel)), xw_t (i := 708) (by decide +kernel) (by decide +kernel), ⟨_, _, rfl⟩, xw_s (i := 22) (q := (⟨"ClocklessGates$Circuit", "reachStates", "(LClocklessGates$Net;LClocklessGates$Graph;)V"⟩, 6)) (by decide +kernel) (by decide +kernel), my_Ci_reachStates, by decide +kernel⟩
theorem kv_Ci_36 : xa_lkV xP "ClocklessGates$Circuit" 36 3 97 3 := ⟨Or.inl (xw_t (i := 723) (by decide +kernel) (by decide +kernel)), xw_t (i := 725) (by decide +kernel) (by decide +kernel), ⟨_, _, rfl⟩, xw_s (i := 25) (q := (⟨"ClocklessGates$Circuit", "leastFaultyState", "(LClocklessGates$Net;LClocklessGates$Graph;I)I"⟩, 6)) (by decide +kernel) (by decide +kernel), my_Ci_leastFaultyState, by decide +kernel⟩
theorem fg_Ci_40 : xa_fld xP "ClocklessGates$Circuit" 40 3 0 := ⟨_, _, _, _, k_Ci, by decide, Or.inl (xw_t (i := 149) (by decide +kernel) (by decide +kernel))⟩
theorem fp_Ci_40 : xa_fldP xP "ClocklessGates$Circuit" 40 3 0 (.int) := ⟨_, _, _, _, k_Ci, by decide, rfl, rfl, Or.inl (xw_t (i := 149) (by decide +kernel) (by decide +kernel))⟩
theorem fg_Ci_44 : xa_fld xP "ClocklessGates$Circuit" 44 3 5 := ⟨_, _, _, _, k_Ci, by decide, Or.inl (xw_t (i := 157) (by decide +kernel) (by decide +kernel))⟩
theorem fp_Ci_44 : xa_fldP xP "ClocklessGates$Circuit" 44 3 5 (.int) := ⟨_, _, _, _, k_Ci, by decide, rfl, rfl, Or.inl (xw_t (i := 157) (by decide +kernel) (by decide +kernel))⟩
theorem kv_Ci_47 : xa_lkV xP "ClocklessGates$Circuit" 47 3 95 1 := ⟨Or.inl (xw_t (i := 710) (by decide +kernel) (by decide +kernel)), xw_t (i := 712) (by decide +kernel) (by decide +kernel), ⟨_, _, rfl⟩, xw_s (i := 23) (q := (⟨"ClocklessGates$Circuit", "reach", "(I)V"⟩, 6)) (by decide +kernel) (by decide +kernel), my_Ci_reach, by decide +kernel⟩
theorem fg_Ci_51 : xa_fld xP "ClocklessGates$Circuit" 51 1 1 := ⟨_, _, _, _, k_N, by decide, Or.inl (xw_t (i := 37) (by decide +kernel) (by decide +kernel))⟩
theorem kv_Ci_56 : xa_lkV xP "ClocklessGates$Circuit" 56 3 96 4 := ⟨Or.inl (xw_t (i := 714) (by decide +kernel) (by decide +kernel)), xw_t (i := 716) (by decide +kernel) (by decide +kernel), ⟨_, _, rfl⟩, xw_s (i := 24) (q := (⟨"ClocklessGates$Circuit", "mayFire", "(LClocklessGates$Net;LClocklessGates$Graph;II)Z"⟩, 6)) (by decide +kernel) (by decide +kernel), my_Ci_mayFire, by decide +kernel⟩
theorem kv_Ci_60 : xa_lkV xP "ClocklessGates$Circuit" 60 2 27 2 := ⟨Or.inl (xw_t (i := 718) (by decide +kernel) (by decide +kernel)), xw_t (i := 316) (by decide +kernel) (by decide +kernel), ⟨_, _, rfl⟩, xw_t (i := 317) (by decide +kernel) (by decide +kernel), my_G_successor, by decide +kernel⟩
theorem kv_Ci_66 : xa_lkV xP "ClocklessGates$Circuit" 66 1 18 1 := ⟨Or.inl (xw_t (i := 719) (by decide +kernel) (by decide +kernel)), xw_t (i := 280) (by decide +kernel) (by decide +kernel), ⟨_, _, rfl⟩, xw_t (i := 281) (by decide +kernel) (by decide +kernel), my_N_signalOf, by decide +kernel⟩
theorem kv_Ci_70 : xa_lkV xP "ClocklessGates$Circuit" 70 1 19 1 := ⟨Or.inl (xw_t (i := 720) (by decide +kernel) (by decide +kernel)), xw_t (i := 284) (by decide +kernel) (by decide +kernel), ⟨_, _, rfl⟩, xw_t (i := 285) (by decide +kernel) (by decide +kernel), my_N_isInput, by decide +kernel⟩
theorem fg_Ci_74 : xa_fld xP "ClocklessGates$Circuit" 74 2 3 := ⟨_, _, _, _, k_G, by decide, Or.inl (xw_t (i := 90) (by decide +kernel) (by decide +kernel))⟩
theorem kv_Ci_77 : xa_lkV xP "ClocklessGates$Circuit" 77 4 90 1 := ⟨Or.inl (xw_t (i := 721) (by decide +kernel) (by decide +kernel)), xw_t (i := 692) (by decide +kernel) (by decide +kernel), ⟨_, _, rfl⟩, xw_t (i := 693) (by decide +kernel) (by decide +kernel), my_Ga_output, by decide +kernel⟩
theorem kv_Ci_80 : xa_lkV xP "ClocklessGates$Circuit" 80 1 17 1 := ⟨Or.inl (xw_t (i := 722) (by decide +kernel) (by decide +kernel)), xw_t (i := 276) (by decide +kernel) (by decide +kernel), ⟨_, _, rfl⟩, xw_t (i := 277) (by decide +kernel) (by decide +kernel), my_N_levelAfter, by decide +kernel⟩
theorem fg_Ci_83 : xa_fld xP "ClocklessGates$Circuit" 83 2 0 := ⟨_, _, _, _, k_G, by decide, Or.inl (xw_t (i := 84) (by decide +kernel) (by decide +kernel))⟩
theorem fg_Ci_86 : xa_fld xP "ClocklessGates$Circuit" 86 1 0 := ⟨_, _, _, _, k_N, by decide, Or.inl (xw_t (i := 33) (by decide +kernel) (by decide +kernel))⟩
theorem kv_Ci_89 : xa_lkV xP "ClocklessGates$Circuit" 89 3 98 5 := ⟨Or.inl (xw_t (i := 727) (by decide +kernel) (by decide +kernel)), xw_t (i := 729) (by decide +kernel) (by decide +kernel), ⟨_, _, rfl⟩, xw_s (i := 26) (q := (⟨"ClocklessGates$Circuit", "isFaulty", "(LClocklessGates$Net;LClocklessGates$Graph;III)Z"⟩, 6)) (by decide +kernel) (by decide +kernel), my_Ci_isFaulty, by decide +kernel⟩
theorem kv_Ci_93 : xa_lkV xP "ClocklessGates$Circuit" 93 3 99 2 := ⟨Or.inl (xw_t (i := 731) (by decide +kernel) (by decide +kernel)), xw_t (i := 733) (by decide +kernel) (by decide +kernel), ⟨_, _, rfl⟩, xw_s (i := 27) (q := (⟨"ClocklessGates$Circuit", "acts", "(II)Z"⟩, 6)) (by decide +kernel) (by decide +kernel), my_Ci_acts, by decide +kernel⟩
theorem kv_Ci_97 : xa_lkV xP "ClocklessGates$Circuit" 97 3 100 4 := ⟨Or.inl (xw_t (i := 735) (by decide +kernel) (by decide +kernel)), xw_t (i := 737) (by decide +kernel) (by decide +kernel), ⟨_, _, rfl⟩, xw_s (i := 28) (q := (⟨"ClocklessGates$Circuit", "mayStopActing", "(LClocklessGates$Net;LClocklessGates$Graph;II)Z"⟩, 6)) (by decide +kernel) (by decide +kernel), my_Ci_mayStopActing, by decide +kernel⟩
theorem kv_Ci_100 : xa_lkV xP "ClocklessGates$Circuit" 100 2 62 2 := ⟨Or.inl (xw_t (i := 739) (by decide +kernel) (by decide +kernel)), xw_t (i := 560) (by decide +kernel) (by decide +kernel), ⟨_, _, rfl⟩, xw_t (i := 561) (by decide +kernel) (by decide +kernel), my_G_isExcited, by decide +kernel⟩
theorem fg_Ga_9 : xa_fld xP "ClocklessGates$Gate" 9 4 1 := ⟨_, _, _, _, k_Ga, by decide, Or.inl (xw_t (i := 139) (by decide +kernel) (by decide +kernel))⟩
theorem ff_Ga_9 : xa_fldF xP "ClocklessGates$Gate" 9 4 1 (.array .int) := ⟨_, _, _, _, k_Ga, by decide, rfl, rfl, rfl, xw_t (i := 139) (by decide +kernel) (by decide +kernel)⟩
theorem fg_Ga_15 : xa_fld xP "ClocklessGates$Gate" 15 4 0 := ⟨_, _, _, _, k_Ga, by decide, Or.inl (xw_t (i := 137) (by decide +kernel) (by decide +kernel))⟩
theorem fp_Ga_15 : xa_fldP xP "ClocklessGates$Gate" 15 4 0 (.int) := ⟨_, _, _, _, k_Ga, by decide, rfl, rfl, Or.inl (xw_t (i := 137) (by decide +kernel) (by decide +kernel))⟩
theorem fg_Ga_19 : xa_fld xP "ClocklessGates$Gate" 19 4 2 := ⟨_, _, _, _, k_Ga, by decide, Or.inl (xw_t (i := 141) (by decide +kernel) (by decide +kernel))⟩
theorem fp_Ga_19 : xa_fldP xP "ClocklessGates$Gate" 19 4 2 (.int) := ⟨_, _, _, _, k_Ga, by decide, rfl, rfl, Or.inl (xw_t (i := 141) (by decide +kernel) (by decide +kernel))⟩
theorem fg_G_9 : xa_fld xP "ClocklessGates$Graph" 9 2 2 := ⟨_, _, _, _, k_G, by decide, Or.inl (xw_t (i := 87) (by decide +kernel) (by decide +kernel))⟩
theorem ff_G_9 : xa_fldF xP "ClocklessGates$Graph" 9 2 2 (.array .int) := ⟨_, _, _, _, k_G, by decide, rfl, rfl, rfl, xw_t (i := 87) (by decide +kernel) (by decide +kernel)⟩
theorem fg_G_15 : xa_fld xP "ClocklessGates$Graph" 15 2 3 := ⟨_, _, _, _, k_G, by decide, Or.inl (xw_t (i := 89) (by decide +kernel) (by decide +kernel))⟩
theorem ff_G_15 : xa_fldF xP "ClocklessGates$Graph" 15 2 3 (.array .int) := ⟨_, _, _, _, k_G, by decide, rfl, rfl, rfl, xw_t (i := 89) (by decide +kernel) (by decide +kernel)⟩
theorem fg_G_18 : xa_fld xP "ClocklessGates$Graph" 18 2 4 := ⟨_, _, _, _, k_G, by decide, Or.inl (xw_t (i := 92) (by decide +kernel) (by decide +kernel))⟩
theorem ff_G_18 : xa_fldF xP "ClocklessGates$Graph" 18 2 4 (.array .int) := ⟨_, _, _, _, k_G, by decide, rfl, rfl, rfl, xw_t (i := 92) (by decide +kernel) (by decide +kernel)⟩
theorem fg_G_21 : xa_fld xP "ClocklessGates$Graph" 21 2 5 := ⟨_, _, _, _, k_G, by decide, Or.inl (xw_t (i := 94) (by decide +kernel) (by decide +kernel))⟩
theorem ff_G_21 : xa_fldF xP "ClocklessGates$Graph" 21 2 5 (.array .int) := ⟨_, _, _, _, k_G, by decide, rfl, rfl, rfl, xw_t (i := 94) (by decide +kernel) (by decide +kernel)⟩
theorem fg_G_24 : xa_fld xP "ClocklessGates$Graph" 24 2 6 := ⟨_, _, _, _, k_G, by decide, Or.inl (xw_t (i := 96) (by decide +kernel) (by decide +kernel))⟩
theorem ff_G_24 : xa_fldF xP "ClocklessGates$Graph" 24 2 6 (.array .int) := ⟨_, _, _, _, k_G, by decide, rfl, rfl, rfl, xw_t (i := 96) (by decide +kernel) (by decide +kernel)⟩
theorem fg_G_27 : xa_fld xP "ClocklessGates$Graph" 27 2 7 := ⟨_, _, _, _, k_G, by decide, Or.inl (xw_t (i := 97) (by decide +kernel) (by decide +kernel))⟩
theorem ff_G_27 : xa_fldF xP "ClocklessGates$Graph" 27 2 7 (.array .int) := ⟨_, _, _, _, k_G, by decide, rfl, rfl, rfl, xw_t (i := 97) (by decide +kernel) (by decide +kernel)⟩
theorem fg_G_30 : xa_fld xP "ClocklessGates$Graph" 30 2 8 := ⟨_, _, _, _, k_G, by decide, Or.inl (xw_t (i := 98) (by decide +kernel) (by decide +kernel))⟩
theorem fp_G_30 : xa_fldP xP "ClocklessGates$Graph" 30 2 8 (.boolean) := ⟨_, _, _, _, k_G, by decide, rfl, rfl, Or.inl (xw_t (i := 98) (by decide +kernel) (by decide +kernel))⟩
theorem fg_G_34 : xa_fld xP "ClocklessGates$Graph" 34 2 9 := ⟨_, _, _, _, k_G, by decide, Or.inl (xw_t (i := 99) (by decide +kernel) (by decide +kernel))⟩
theorem fp_G_34 : xa_fldP xP "ClocklessGates$Graph" 34 2 9 (.int) := ⟨_, _, _, _, k_G, by decide, rfl, rfl, Or.inl (xw_t (i := 99) (by decide +kernel) (by decide +kernel))⟩
theorem fg_G_38 : xa_fld xP "ClocklessGates$Graph" 38 2 10 := ⟨_, _, _, _, k_G, by decide, Or.inl (xw_t (i := 100) (by decide +kernel) (by decide +kernel))⟩
theorem fp_G_38 : xa_fldP xP "ClocklessGates$Graph" 38 2 10 (.int) := ⟨_, _, _, _, k_G, by decide, rfl, rfl, Or.inl (xw_t (i := 100) (by decide +kernel) (by decide +kernel))⟩
theorem fg_G_41 : xa_fld xP "ClocklessGates$Graph" 41 2 0 := ⟨_, _, _, _, k_G, by decide, Or.inl (xw_t (i := 82) (by decide +kernel) (by decide +kernel))⟩
theorem fp_G_41 : xa_fldP xP "ClocklessGates$Graph" 41 2 0 (.int) := ⟨_, _, _, _, k_G, by decide, rfl, rfl, Or.inl (xw_t (i := 82) (by decide +kernel) (by decide +kernel))⟩
theorem fg_G_44 : xa_fld xP "ClocklessGates$Graph" 44 1 4 := ⟨_, _, _, _, k_N, by decide, Or.inl (xw_t (i := 43) (by decide +kernel) (by decide +kernel))⟩
theorem fg_G_49 : xa_fld xP "ClocklessGates$Graph" 49 1 3 := ⟨_, _, _, _, k_N, by decide, Or.inl (xw_t (i := 41) (by decide +kernel) (by decide +kernel))⟩
theorem kv_G_52 : xa_lkV xP "ClocklessGates$Graph" 52 2 12 3 := ⟨Or.inl (xw_t (i := 255) (by decide +kernel) (by decide +kernel)), xw_t (i := 257) (by decide +kernel) (by decide +kernel), ⟨_, _, rfl⟩, xw_s (i := 1) (q := (⟨"ClocklessGates$Graph", "addState", "(III)I"⟩, 11)) (by decide +kernel) (by decide +kernel), my_G_addState, by decide +kernel⟩
theorem kv_G_56 : xa_lkV xP "ClocklessGates$Graph" 56 2 13 2 := ⟨Or.inl (xw_t (i := 259) (by decide +kernel) (by decide +kernel)), xw_t (i := 261) (by decide +kernel) (by decide +kernel), ⟨_, _, rfl⟩, xw_s (i := 2) (q := (⟨"ClocklessGates$Graph", "expand", "(LClocklessGates$Net;I)V"⟩, 11)) (by decide +kernel) (by decide +kernel), my_G_expand, by decide +kernel⟩
theorem fg_G_60 : xa_fld xP "ClocklessGates$Graph" 60 1 1 := ⟨_, _, _, _, k_N, by decide, Or.inl (xw_t (i := 36) (by decide +kernel) (by decide +kernel))⟩
theorem kv_G_63 : xa_lkV xP "ClocklessGates$Graph" 63 1 14 2 := ⟨Or.inl (xw_t (i := 263) (by decide +kernel) (by decide +kernel)), xw_t (i := 264) (by decide +kernel) (by decide +kernel), ⟨_, _, rfl⟩, xw_t (i := 265) (by decide +kernel) (by decide +kernel), my_N_isEnabled, by decide +kernel⟩
theorem kv_G_67 : xa_lkV xP "ClocklessGates$Graph" 67 2 15 3 := ⟨Or.inl (xw_t (i := 267) (by decide +kernel) (by decide +kernel)), xw_t (i := 269) (by decide +kernel) (by decide +kernel), ⟨_, _, rfl⟩, xw_s (i := 3) (q := (⟨"ClocklessGates$Graph", "noteEnabled", "(LClocklessGates$Net;II)V"⟩, 11)) (by decide +kernel) (by decide +kernel), my_G_noteEnabled, by decide +kernel⟩
theorem kv_G_71 : xa_lkV xP "ClocklessGates$Graph" 71 1 20 2 := ⟨Or.inl (xw_t (i := 287) (by decide +kernel) (by decide +kernel)), xw_t (i := 288) (by decide +kernel) (by decide +kernel), ⟨_, _, rfl⟩, xw_t (i := 289) (by decide +kernel) (by decide +kernel), my_N_isSafe, by decide +kernel⟩
theorem kv_G_74 : xa_lkV xP "ClocklessGates$Graph" 74 1 21 2 := ⟨Or.inl (xw_t (i := 291) (by decide +kernel) (by decide +kernel)), xw_t (i := 292) (by decide +kernel) (by decide +kernel), ⟨_, _, rfl⟩, xw_t (i := 293) (by decide +kernel) (by decide +kernel), my_N_isRight, by decide +kernel⟩
theorem kv_G_77 : xa_lkV xP "ClocklessGates$Graph" 77 2 22 3 := ⟨Or.inl (xw_t (i := 295) (by decide +kernel) (by decide +kernel)), xw_t (i := 297) (by decide +kernel) (by decide +kernel), ⟨_, _, rfl⟩, xw_s (i := 4) (q := (⟨"ClocklessGates$Graph", "fire", "(LClocklessGates$Net;II)I"⟩, 11)) (by decide +kernel) (by decide +kernel), my_G_fire, by decide +kernel⟩
theorem kv_G_81 : xa_lkV xP "ClocklessGates$Graph" 81 1 16 1 := ⟨Or.inl (xw_t (i := 271) (by decide +kernel) (by decide +kernel)), xw_t (i := 272) (by decide +kernel) (by decide +kernel), ⟨_, _, rfl⟩, xw_t (i := 273) (by decide +kernel) (by decide +kernel), my_N_edgeBit, by decide +kernel⟩
theorem kv_G_85 : xa_lkV xP "ClocklessGates$Graph" 85 1 18 1 := ⟨Or.inl (xw_t (i := 279) (by decide +kernel) (by decide +kernel)), xw_t (i := 280) (by decide +kernel) (by decide +kernel), ⟨_, _, rfl⟩, xw_t (i := 281) (by decide +kernel) (by decide +kernel), my_N_signalOf, by decide +kernel⟩
theorem kv_G_88 : xa_lkV xP "ClocklessGates$Graph" 88 1 19 1 := ⟨Or.inl (xw_t (i := 283) (by decide +kernel) (by decide +kernel)), xw_t (i := 284) (by decide +kernel) (by decide +kernel), ⟨_, _, rfl⟩, xw_t (i := 285) (by decide +kernel) (by decide +kernel), my_N_isInput, by decide +kernel⟩
theorem kv_G_92 : xa_lkV xP "ClocklessGates$Graph" 92 1 23 2 := ⟨Or.inl (xw_t (i := 299) (by decide +kernel) (by decide +kernel)), xw_t (i := 300) (by decide +kernel) (by decide +kernel), ⟨_, _, rfl⟩, xw_t (i := 301) (by decide +kernel) (by decide +kernel), my_N_markingAfter, by decide +kernel⟩
theorem kv_G_96 : xa_lkV xP "ClocklessGates$Graph" 96 1 24 2 := ⟨Or.inl (xw_t (i := 303) (by decide +kernel) (by decide +kernel)), xw_t (i := 304) (by decide +kernel) (by decide +kernel), ⟨_, _, rfl⟩, xw_t (i := 305) (by decide +kernel) (by decide +kernel), my_N_codeAfter, by decide +kernel⟩
theorem fg_G_99 : xa_fld xP "ClocklessGates$Graph" 99 2 1 := ⟨_, _, _, _, k_G, by decide, Or.inl (xw_t (i := 86) (by decide +kernel) (by decide +kernel))⟩
theorem fp_G_99 : xa_fldP xP "ClocklessGates$Graph" 99 2 1 (.int) := ⟨_, _, _, _, k_G, by decide, rfl, rfl, Or.inl (xw_t (i := 86) (by decide +kernel) (by decide +kernel))⟩
theorem kv_G_102 : xa_lkV xP "ClocklessGates$Graph" 102 2 26 1 := ⟨Or.inl (xw_t (i := 311) (by decide +kernel) (by decide +kernel)), xw_t (i := 313) (by decide +kernel) (by decide +kernel), ⟨_, _, rfl⟩, xw_s (i := 5) (q := (⟨"ClocklessGates$Graph", "leastDisablingState", "(LClocklessGates$Net;)I"⟩, 11)) (by decide +kernel) (by decide +kernel), my_G_leastDisablingState, by decide +kernel⟩
theorem kv_G_106 : xa_lkV xP "ClocklessGates$Graph" 106 2 29 0 := ⟨Or.inl (xw_t (i := 323) (by decide +kernel) (by decide +kernel)), xw_t (i := 325) (by decide +kernel) (by decide +kernel), ⟨_, _, rfl⟩, xw_s (i := 7) (q := (⟨"ClocklessGates$Graph", "leastConflictingState", "()I"⟩, 11)) (by decide +kernel) (by decide +kernel), my_G_leastConflictingState, by decide +kernel⟩
theorem kv_G_110 : xa_lkV xP "ClocklessGates$Graph" 110 2 27 2 := ⟨Or.inl (xw_t (i := 315) (by decide +kernel) (by decide +kernel)), xw_t (i := 316) (by decide +kernel) (by decide +kernel), ⟨_, _, rfl⟩, xw_t (i := 317) (by decide +kernel) (by decide +kernel), my_G_successor, by decide +kernel⟩
theorem kv_G_113 : xa_lkV xP "ClocklessGates$Graph" 113 2 28 3 := ⟨Or.inl (xw_t (i := 319) (by decide +kernel) (by decide +kernel)), xw_t (i := 321) (by decide +kernel) (by decide +kernel), ⟨_, _, rfl⟩, xw_s (i := 6) (q := (⟨"ClocklessGates$Graph", "losesEdge", "(LClocklessGates$Net;II)Z"⟩, 11)) (by decide +kernel) (by decide +kernel), my_G_losesEdge, by decide +kernel⟩
theorem fg_G_117 : xa_fld xP "ClocklessGates$Graph" 117 1 5 := ⟨_, _, _, _, k_N, by decide, Or.inl (xw_t (i := 45) (by decide +kernel) (by decide +kernel))⟩
theorem kv_G_120 : xa_lkV xP "ClocklessGates$Graph" 120 2 62 2 := ⟨Or.inl (xw_t (i := 559) (by decide +kernel) (by decide +kernel)), xw_t (i := 560) (by decide +kernel) (by decide +kernel), ⟨_, _, rfl⟩, xw_t (i := 561) (by decide +kernel) (by decide +kernel), my_G_isExcited, by decide +kernel⟩
theorem fg_L_9 : xa_fld xP "ClocklessGates$LeastSum" 9 5 1 := ⟨_, _, _, _, k_L, by decide, Or.inl (xw_t (i := 183) (by decide +kernel) (by decide +kernel))⟩
theorem ff_L_9 : xa_fldF xP "ClocklessGates$LeastSum" 9 5 1 (.array .int) := ⟨_, _, _, _, k_L, by decide, rfl, rfl, rfl, xw_t (i := 183) (by decide +kernel) (by decide +kernel)⟩
theorem fg_L_15 : xa_fld xP "ClocklessGates$LeastSum" 15 5 2 := ⟨_, _, _, _, k_L, by decide, Or.inl (xw_t (i := 184) (by decide +kernel) (by decide +kernel))⟩
theorem ff_L_15 : xa_fldF xP "ClocklessGates$LeastSum" 15 5 2 (.array .int) := ⟨_, _, _, _, k_L, by decide, rfl, rfl, rfl, xw_t (i := 184) (by decide +kernel) (by decide +kernel)⟩
theorem fg_L_18 : xa_fld xP "ClocklessGates$LeastSum" 18 5 3 := ⟨_, _, _, _, k_L, by decide, Or.inl (xw_t (i := 185) (by decide +kernel) (by decide +kernel))⟩
theorem ff_L_18 : xa_fldF xP "ClocklessGates$LeastSum" 18 5 3 (.array .int) := ⟨_, _, _, _, k_L, by decide, rfl, rfl, rfl, xw_t (i := 185) (by decide +kernel) (by decide +kernel)⟩
theorem fg_L_21 : xa_fld xP "ClocklessGates$LeastSum" 21 5 4 := ⟨_, _, _, _, k_L, by decide, Or.inl (xw_t (i := 186) (by decide +kernel) (by decide +kernel))⟩
theorem ff_L_21 : xa_fldF xP "ClocklessGates$LeastSum" 21 5 4 (.array .int) := ⟨_, _, _, _, k_L, by decide, rfl, rfl, rfl, xw_t (i := 186) (by decide +kernel) (by decide +kernel)⟩
theorem fg_L_24 : xa_fld xP "ClocklessGates$LeastSum" 24 5 5 := ⟨_, _, _, _, k_L, by decide, Or.inl (xw_t (i := 187) (by decide +kernel) (by decide +kernel))⟩
theorem ff_L_24 : xa_fldF xP "ClocklessGates$LeastSum" 24 5 5 (.array .boolean) := ⟨_, _, _, _, k_L, by decide, rfl, rfl, rfl, xw_t (i := 187) (by decide +kernel) (by decide +kernel)⟩
theorem fg_L_28 : xa_fld xP "ClocklessGates$LeastSum" 28 5 6 := ⟨_, _, _, _, k_L, by decide, Or.inl (xw_t (i := 188) (by decide +kernel) (by decide +kernel))⟩
theorem ff_L_28 : xa_fldF xP "ClocklessGates$LeastSum" 28 5 6 (.array .boolean) := ⟨_, _, _, _, k_L, by decide, rfl, rfl, rfl, xw_t (i := 188) (by decide +kernel) (by decide +kernel)⟩
theorem fg_L_31 : xa_fld xP "ClocklessGates$LeastSum" 31 5 7 := ⟨_, _, _, _, k_L, by decide, Or.inl (xw_t (i := 189) (by decide +kernel) (by decide +kernel))⟩
theorem ff_L_31 : xa_fldF xP "ClocklessGates$LeastSum" 31 5 7 (.array .int) := ⟨_, _, _, _, k_L, by decide, rfl, rfl, rfl, xw_t (i := 189) (by decide +kernel) (by decide +kernel)⟩
theorem ks_L_34 : xa_lkS xP "ClocklessGates$LeastSum" 34 6 0 := ⟨Or.inl (xw_t (i := 177) (by decide +kernel) (by decide +kernel)), xw_t (i := 178) (by decide +kernel) (by decide +kernel), xw_t (i := 6) (by decide +kernel) (by decide +kernel), my_L_spansOfAllProducts, by decide +kernel⟩
theorem fg_L_38 : xa_fld xP "ClocklessGates$LeastSum" 38 5 0 := ⟨_, _, _, _, k_L, by decide, Or.inl (xw_t (i := 182) (by decide +kernel) (by decide +kernel))⟩
theorem ff_L_38 : xa_fldF xP "ClocklessGates$LeastSum" 38 5 0 (.array .int) := ⟨_, _, _, _, k_L, by decide, rfl, rfl, rfl, xw_t (i := 182) (by decide +kernel) (by decide +kernel)⟩
theorem gs_L_41 : Cond.fieldLink "ClocklessGates$LeastSum" 41 xP.2.2.2.1 xP.2.2.2.2.1 "[I" ∈ xP.2.2.1 ∨ ∃ host, Cond.fieldLinkNest "ClocklessGates$LeastSum" 41 xP.2.2.2.1 xP.2.2.2.2.1 "[I" host ∈ xP.2.2.1 := Or.inr ⟨"ClocklessGates", xw_t (i := 180) (by decide +kernel) (by decide +kernel)⟩
theorem kv_L_44 : xa_lkV xP "ClocklessGates$LeastSum" 44 5 64 3 := ⟨Or.inl (xw_t (i := 567) (by decide +kernel) (by decide +kernel)), xw_t (i := 569) (by decide +kernel) (by decide +kernel), ⟨_, _, rfl⟩, xw_s (i := 14) (q := (⟨"ClocklessGates$LeastSum", "collectPrimes", "(III)V"⟩, 11)) (by decide +kernel) (by decide +kernel), my_L_collectPrimes, by decide +kernel⟩
theorem kv_L_48 : xa_lkV xP "ClocklessGates$LeastSum" 48 5 69 0 := ⟨Or.inl (xw_t (i := 590) (by decide +kernel) (by decide +kernel)), xw_t (i := 592) (by decide +kernel) (by decide +kernel), ⟨_, _, rfl⟩, xw_s (i := 16) (q := (⟨"ClocklessGates$LeastSum", "countRivals", "()V"⟩, 11)) (by decide +kernel) (by decide +kernel), my_L_countRivals, by decide +kernel⟩
theorem fg_L_51 : xa_fld xP "ClocklessGates$LeastSum" 51 5 10 := ⟨_, _, _, _, k_L, by decide, Or.inl (xw_t (i := 192) (by decide +kernel) (by decide +kernel))⟩
theorem fp_L_51 : xa_fldP xP "ClocklessGates$LeastSum" 51 5 10 (.int) := ⟨_, _, _, _, k_L, by decide, rfl, rfl, Or.inl (xw_t (i := 192) (by decide +kernel) (by decide +kernel))⟩
theorem ks_L_55 : xa_lkS xP "ClocklessGates$LeastSum" 55 70 4 := ⟨Or.inl (xw_t (i := 594) (by decide +kernel) (by decide +kernel)), xw_t (i := 595) (by decide +kernel) (by decide +kernel), xw_t (i := 6) (by decide +kernel) (by decide +kernel), my_L_search, by decide +kernel⟩
theorem fg_L_59 : xa_fld xP "ClocklessGates$LeastSum" 59 5 8 := ⟨_, _, _, _, k_L, by decide, Or.inl (xw_t (i := 190) (by decide +kernel) (by decide +kernel))⟩
theorem fp_L_59 : xa_fldP xP "ClocklessGates$LeastSum" 59 5 8 (.int) := ⟨_, _, _, _, k_L, by decide, rfl, rfl, Or.inl (xw_t (i := 190) (by decide +kernel) (by decide +kernel))⟩
theorem kv_L_62 : xa_lkV xP "ClocklessGates$LeastSum" 62 4 77 2 := ⟨Or.inl (xw_t (i := 621) (by decide +kernel) (by decide +kernel)), xw_t (i := 622) (by decide +kernel) (by decide +kernel), ⟨_, _, rfl⟩, xw_t (i := 623) (by decide +kernel) (by decide +kernel), my_Ga_add, by decide +kernel⟩
theorem fg_L_68 : xa_fld xP "ClocklessGates$LeastSum" 68 5 9 := ⟨_, _, _, _, k_L, by decide, Or.inl (xw_t (i := 191) (by decide +kernel) (by decide +kernel))⟩
theorem fp_L_68 : xa_fldP xP "ClocklessGates$LeastSum" 68 5 9 (.int) := ⟨_, _, _, _, k_L, by decide, rfl, rfl, Or.inl (xw_t (i := 191) (by decide +kernel) (by decide +kernel))⟩
theorem kv_L_71 : xa_lkV xP "ClocklessGates$LeastSum" 71 5 65 3 := ⟨Or.inl (xw_t (i := 571) (by decide +kernel) (by decide +kernel)), xw_t (i := 573) (by decide +kernel) (by decide +kernel), ⟨_, _, rfl⟩, xw_s (i := 15) (q := (⟨"ClocklessGates$LeastSum", "isPrime", "(III)Z"⟩, 11)) (by decide +kernel) (by decide +kernel), my_L_isPrime, by decide +kernel⟩
theorem ks_L_75 : xa_lkS xP "ClocklessGates$LeastSum" 75 67 2 := ⟨Or.inl (xw_t (i := 578) (by decide +kernel) (by decide +kernel)), xw_t (i := 579) (by decide +kernel) (by decide +kernel), xw_t (i := 6) (by decide +kernel) (by decide +kernel), my_L_fixedDigits, by decide +kernel⟩
theorem ks_L_78 : xa_lkS xP "ClocklessGates$LeastSum" 78 68 1 := ⟨Or.inl (xw_t (i := 581) (by decide +kernel) (by decide +kernel)), xw_t (i := 582) (by decide +kernel) (by decide +kernel), xw_t (i := 14) (by decide +kernel) (by decide +kernel), my_JI_bitCount, by decide +kernel⟩
theorem ks_L_89 : xa_lkS xP "ClocklessGates$LeastSum" 89 66 2 := ⟨Or.inl (xw_t (i := 575) (by decide +kernel) (by decide +kernel)), xw_t (i := 576) (by decide +kernel) (by decide +kernel), xw_t (i := 6) (by decide +kernel) (by decide +kernel), my_L_digit, by decide +kernel⟩
theorem kv_L_92 : xa_lkV xP "ClocklessGates$LeastSum" 92 5 71 1 := ⟨Or.inl (xw_t (i := 597) (by decide +kernel) (by decide +kernel)), xw_t (i := 599) (by decide +kernel) (by decide +kernel), ⟨_, _, rfl⟩, xw_s (i := 17) (q := (⟨"ClocklessGates$LeastSum", "keepIfLess", "(I)V"⟩, 11)) (by decide +kernel) (by decide +kernel), my_L_keepIfLess, by decide +kernel⟩
theorem kv_L_96 : xa_lkV xP "ClocklessGates$LeastSum" 96 5 73 1 := ⟨Or.inl (xw_t (i := 605) (by decide +kernel) (by decide +kernel)), xw_t (i := 607) (by decide +kernel) (by decide +kernel), ⟨_, _, rfl⟩, xw_s (i := 19) (q := (⟨"ClocklessGates$LeastSum", "leastCostOf", "(I)I"⟩, 11)) (by decide +kernel) (by decide +kernel), my_L_leastCostOf, by decide +kernel⟩
theorem kv_L_99 : xa_lkV xP "ClocklessGates$LeastSum" 99 5 74 1 := ⟨Or.inl (xw_t (i := 609) (by decide +kernel) (by decide +kernel)), xw_t (i := 611) (by decide +kernel) (by decide +kernel), ⟨_, _, rfl⟩, xw_s (i := 20) (q := (⟨"ClocklessGates$LeastSum", "codeWithFewestRivals", "(I)I"⟩, 11)) (by decide +kernel) (by decide +kernel), my_L_codeWithFewestRivals, by decide +kernel⟩
theorem kv_L_102 : xa_lkV xP "ClocklessGates$LeastSum" 102 5 75 1 := ⟨Or.inl (xw_t (i := 613) (by decide +kernel) (by decide +kernel)), xw_t (i := 615) (by decide +kernel) (by decide +kernel), ⟨_, _, rfl⟩, xw_s (i := 21) (q := (⟨"ClocklessGates$LeastSum", "liftBars", "(I)V"⟩, 11)) (by decide +kernel) (by decide +kernel), my_L_liftBars, by decide +kernel⟩
theorem kv_L_105 : xa_lkV xP "ClocklessGates$LeastSum" 105 5 72 0 := ⟨Or.inl (xw_t (i := 601) (by decide +kernel) (by decide +kernel)), xw_t (i := 603) (by decide +kernel) (by decide +kernel), ⟨_, _, rfl⟩, xw_s (i := 18) (q := (⟨"ClocklessGates$LeastSum", "takenComesFirst", "()Z"⟩, 11)) (by decide +kernel) (by decide +kernel), my_L_takenComesFirst, by decide +kernel⟩
theorem fg_N_9 : xa_fld xP "ClocklessGates$Net" 9 1 7 := ⟨_, _, _, _, k_N, by decide, Or.inl (xw_t (i := 47) (by decide +kernel) (by decide +kernel))⟩
theorem ff_N_9 : xa_fldF xP "ClocklessGates$Net" 9 1 7 (.array .int) := ⟨_, _, _, _, k_N, by decide, rfl, rfl, rfl, xw_t (i := 47) (by decide +kernel) (by decide +kernel)⟩
theorem fg_N_15 : xa_fld xP "ClocklessGates$Net" 15 1 8 := ⟨_, _, _, _, k_N, by decide, Or.inl (xw_t (i := 48) (by decide +kernel) (by decide +kernel))⟩
theorem ff_N_15 : xa_fldF xP "ClocklessGates$Net" 15 1 8 (.array .boolean) := ⟨_, _, _, _, k_N, by decide, rfl, rfl, rfl, xw_t (i := 48) (by decide +kernel) (by decide +kernel)⟩
theorem fg_N_19 : xa_fld xP "ClocklessGates$Net" 19 1 9 := ⟨_, _, _, _, k_N, by decide, Or.inl (xw_t (i := 49) (by decide +kernel) (by decide +kernel))⟩
theorem ff_N_19 : xa_fldF xP "ClocklessGates$Net" 19 1 9 (.array .int) := ⟨_, _, _, _, k_N, by decide, rfl, rfl, rfl, xw_t (i := 49) (by decide +kernel) (by decide +kernel)⟩
theorem fg_N_22 : xa_fld xP "ClocklessGates$Net" 22 1 10 := ⟨_, _, _, _, k_N, by decide, Or.inl (xw_t (i := 50) (by decide +kernel) (by decide +kernel))⟩
theorem ff_N_22 : xa_fldF xP "ClocklessGates$Net" 22 1 10 (.array .int) := ⟨_, _, _, _, k_N, by decide, rfl, rfl, rfl, xw_t (i := 50) (by decide +kernel) (by decide +kernel)⟩
theorem fg_N_25 : xa_fld xP "ClocklessGates$Net" 25 1 0 := ⟨_, _, _, _, k_N, by decide, Or.inl (xw_t (i := 31) (by decide +kernel) (by decide +kernel))⟩
theorem fp_N_25 : xa_fldP xP "ClocklessGates$Net" 25 1 0 (.int) := ⟨_, _, _, _, k_N, by decide, rfl, rfl, Or.inl (xw_t (i := 31) (by decide +kernel) (by decide +kernel))⟩
theorem fg_N_29 : xa_fld xP "ClocklessGates$Net" 29 1 6 := ⟨_, _, _, _, k_N, by decide, Or.inl (xw_t (i := 46) (by decide +kernel) (by decide +kernel))⟩
theorem fp_N_29 : xa_fldP xP "ClocklessGates$Net" 29 1 6 (.int) := ⟨_, _, _, _, k_N, by decide, rfl, rfl, Or.inl (xw_t (i := 46) (by decide +kernel) (by decide +kernel))⟩
theorem fg_N_32 : xa_fld xP "ClocklessGates$Net" 32 1 5 := ⟨_, _, _, _, k_N, by decide, Or.inl (xw_t (i := 44) (by decide +kernel) (by decide +kernel))⟩
theorem fp_N_32 : xa_fldP xP "ClocklessGates$Net" 32 1 5 (.int) := ⟨_, _, _, _, k_N, by decide, rfl, rfl, Or.inl (xw_t (i := 44) (by decide +kernel) (by decide +kernel))⟩
theorem fg_N_35 : xa_fld xP "ClocklessGates$Net" 35 1 3 := ⟨_, _, _, _, k_N, by decide, Or.inl (xw_t (i := 40) (by decide +kernel) (by decide +kernel))⟩
theorem fp_N_35 : xa_fldP xP "ClocklessGates$Net" 35 1 3 (.int) := ⟨_, _, _, _, k_N, by decide, rfl, rfl, Or.inl (xw_t (i := 40) (by decide +kernel) (by decide +kernel))⟩
theorem fg_N_38 : xa_fld xP "ClocklessGates$Net" 38 1 1 := ⟨_, _, _, _, k_N, by decide, Or.inl (xw_t (i := 34) (by decide +kernel) (by decide +kernel))⟩
theorem fp_N_38 : xa_fldP xP "ClocklessGates$Net" 38 1 1 (.int) := ⟨_, _, _, _, k_N, by decide, rfl, rfl, Or.inl (xw_t (i := 34) (by decide +kernel) (by decide +kernel))⟩
theorem fg_N_41 : xa_fld xP "ClocklessGates$Net" 41 1 4 := ⟨_, _, _, _, k_N, by decide, Or.inl (xw_t (i := 42) (by decide +kernel) (by decide +kernel))⟩
theorem fp_N_41 : xa_fldP xP "ClocklessGates$Net" 41 1 4 (.int) := ⟨_, _, _, _, k_N, by decide, rfl, rfl, Or.inl (xw_t (i := 42) (by decide +kernel) (by decide +kernel))⟩
theorem fg_N_44 : xa_fld xP "ClocklessGates$Net" 44 1 2 := ⟨_, _, _, _, k_N, by decide, Or.inl (xw_t (i := 39) (by decide +kernel) (by decide +kernel))⟩
theorem fp_N_44 : xa_fldP xP "ClocklessGates$Net" 44 1 2 (.int) := ⟨_, _, _, _, k_N, by decide, rfl, rfl, Or.inl (xw_t (i := 39) (by decide +kernel) (by decide +kernel))⟩
theorem kv_N_47 : xa_lkV xP "ClocklessGates$Net" 47 1 17 1 := ⟨Or.inl (xw_t (i := 275) (by decide +kernel) (by decide +kernel)), xw_t (i := 276) (by decide +kernel) (by decide +kernel), ⟨_, _, rfl⟩, xw_t (i := 277) (by decide +kernel) (by decide +kernel), my_N_levelAfter, by decide +kernel⟩
theorem kv_W_7 : xa_lkV xP "ClocklessGatesLaw" 7 0 32 2 := ⟨Or.inl (xw_t (i := 335) (by decide +kernel) (by decide +kernel)), xw_t (i := 336) (by decide +kernel) (by decide +kernel), ⟨_, _, rfl⟩, xw_t (i := 337) (by decide +kernel) (by decide +kernel), my_CG_signal, by decide +kernel⟩
theorem kv_W_15 : xa_lkV xP "ClocklessGatesLaw" 15 0 35 2 := ⟨Or.inl (xw_t (i := 416) (by decide +kernel) (by decide +kernel)), xw_t (i := 417) (by decide +kernel) (by decide +kernel), ⟨_, _, rfl⟩, xw_t (i := 418) (by decide +kernel) (by decide +kernel), my_CG_edge, by decide +kernel⟩
theorem kv_W_21 : xa_lkV xP "ClocklessGatesLaw" 21 0 39 1 := ⟨Or.inl (xw_t (i := 448) (by decide +kernel) (by decide +kernel)), xw_t (i := 449) (by decide +kernel) (by decide +kernel), ⟨_, _, rfl⟩, xw_t (i := 450) (by decide +kernel) (by decide +kernel), my_CG_place, by decide +kernel⟩
theorem kv_W_25 : xa_lkV xP "ClocklessGatesLaw" 25 0 42 3 := ⟨Or.inl (xw_t (i := 461) (by decide +kernel) (by decide +kernel)), xw_t (i := 462) (by decide +kernel) (by decide +kernel), ⟨_, _, rfl⟩, xw_t (i := 463) (by decide +kernel) (by decide +kernel), my_CG_arc, by decide +kernel⟩
theorem kv_W_31 : xa_lkV xP "ClocklessGatesLaw" 31 0 46 0 := ⟨Or.inl (xw_t (i := 494) (by decide +kernel) (by decide +kernel)), xw_t (i := 495) (by decide +kernel) (by decide +kernel), ⟨_, _, rfl⟩, xw_t (i := 496) (by decide +kernel) (by decide +kernel), my_CG_states, by decide +kernel⟩
theorem kv_W_35 : xa_lkV xP "ClocklessGatesLaw" 35 0 49 1 := ⟨Or.inl (xw_t (i := 506) (by decide +kernel) (by decide +kernel)), xw_t (i := 507) (by decide +kernel) (by decide +kernel), ⟨_, _, rfl⟩, xw_t (i := 508) (by decide +kernel) (by decide +kernel), my_CG_code, by decide +kernel⟩
theorem kv_W_39 : xa_lkV xP "ClocklessGatesLaw" 39 0 52 1 := ⟨Or.inl (xw_t (i := 518) (by decide +kernel) (by decide +kernel)), xw_t (i := 519) (by decide +kernel) (by decide +kernel), ⟨_, _, rfl⟩, xw_t (i := 520) (by decide +kernel) (by decide +kernel), my_CG_marking, by decide +kernel⟩
theorem kv_W_42 : xa_lkV xP "ClocklessGatesLaw" 42 0 54 1 := ⟨Or.inl (xw_t (i := 525) (by decide +kernel) (by decide +kernel)), xw_t (i := 526) (by decide +kernel) (by decide +kernel), ⟨_, _, rfl⟩, xw_t (i := 527) (by decide +kernel) (by decide +kernel), my_CG_found, by decide +kernel⟩
theorem kv_W_45 : xa_lkV xP "ClocklessGatesLaw" 45 0 56 1 := ⟨Or.inl (xw_t (i := 532) (by decide +kernel) (by decide +kernel)), xw_t (i := 533) (by decide +kernel) (by decide +kernel), ⟨_, _, rfl⟩, xw_t (i := 534) (by decide +kernel) (by decide +kernel), my_CG_excited, by decide +kernel⟩
theorem kv_W_48 : xa_lkV xP "ClocklessGatesLaw" 48 0 58 0 := ⟨Or.inl (xw_t (i := 540) (by decide +kernel) (by decide +kernel)), xw_t (i := 541) (by decide +kernel) (by decide +kernel), ⟨_, _, rfl⟩, xw_t (i := 542) (by decide +kernel) (by decide +kernel), my_CG_synthesise, by decide +kernel⟩
theorem kv_W_53 : xa_lkV xP "ClocklessGatesLaw" 53 0 80 1 := ⟨Or.inl (xw_t (i := 648) (by decide +kernel) (by decide +kernel)), xw_t (i := 649) (by decide +kernel) (by decide +kernel), ⟨_, _, rfl⟩, xw_t (i := 650) (by decide +kernel) (by decide +kernel), my_CG_products, by decide +kernel⟩
theorem kv_W_56 : xa_lkV xP "ClocklessGatesLaw" 56 0 82 2 := ⟨Or.inl (xw_t (i := 655) (by decide +kernel) (by decide +kernel)), xw_t (i := 656) (by decide +kernel) (by decide +kernel), ⟨_, _, rfl⟩, xw_t (i := 657) (by decide +kernel) (by decide +kernel), my_CG_product, by decide +kernel⟩
theorem kv_W_60 : xa_lkV xP "ClocklessGatesLaw" 60 0 84 2 := ⟨Or.inl (xw_t (i := 663) (by decide +kernel) (by decide +kernel)), xw_t (i := 664) (by decide +kernel) (by decide +kernel), ⟨_, _, rfl⟩, xw_t (i := 665) (by decide +kernel) (by decide +kernel), my_CG_append, by decide +kernel⟩
theorem kv_W_63 : xa_lkV xP "ClocklessGatesLaw" 63 0 87 1 := ⟨Or.inl (xw_t (i := 679) (by decide +kernel) (by decide +kernel)), xw_t (i := 680) (by decide +kernel) (by decide +kernel), ⟨_, _, rfl⟩, xw_t (i := 681) (by decide +kernel) (by decide +kernel), my_CG_strip, by decide +kernel⟩
theorem kv_W_67 : xa_lkV xP "ClocklessGatesLaw" 67 0 89 2 := ⟨Or.inl (xw_t (i := 686) (by decide +kernel) (by decide +kernel)), xw_t (i := 687) (by decide +kernel) (by decide +kernel), ⟨_, _, rfl⟩, xw_t (i := 688) (by decide +kernel) (by decide +kernel), my_CG_value, by decide +kernel⟩
theorem kv_W_70 : xa_lkV xP "ClocklessGatesLaw" 70 0 92 0 := ⟨Or.inl (xw_t (i := 698) (by decide +kernel) (by decide +kernel)), xw_t (i := 699) (by decide +kernel) (by decide +kernel), ⟨_, _, rfl⟩, xw_t (i := 700) (by decide +kernel) (by decide +kernel), my_CG_check, by decide +kernel⟩
theorem ki_W_73 : xa_lkI xP "ClocklessGatesLaw" 73 0 0 := ⟨Or.inl (xw_t (i := 19) (by decide +kernel) (by decide +kernel)), xw_t (i := 20) (by decide +kernel) (by decide +kernel), rfl, rfl, rfl, my_CG_init, by decide +kernel⟩
theorem ki_W_76 : xa_lkI xP "ClocklessGatesLaw" 76 101 0 := ⟨Or.inl (xw_t (i := 742) (by decide +kernel) (by decide +kernel)), xw_t (i := 743) (by decide +kernel) (by decide +kernel), rfl, rfl, rfl, my_M_init, by decide +kernel⟩
theorem ks_W_77 : xa_lkS xP "ClocklessGatesLaw" 77 31 4 := ⟨Or.inl (xw_t (i := 331) (by decide +kernel) (by decide +kernel)), xw_t (i := 332) (by decide +kernel) (by decide +kernel), xw_t (i := 0) (by decide +kernel) (by decide +kernel), my_W_signal, by decide +kernel⟩
theorem kv_W_82 : xa_lkV xP "ClocklessGatesLaw" 82 6 103 2 := ⟨Or.inl (xw_t (i := 841) (by decide +kernel) (by decide +kernel)), xw_t (i := 842) (by decide +kernel) (by decide +kernel), ⟨_, _, rfl⟩, xw_t (i := 843) (by decide +kernel) (by decide +kernel), my_M_signal, by decide +kernel⟩
theorem kv_W_83 : xa_lkV xP "ClocklessGatesLaw" 83 6 102 0 := ⟨Or.inl (xw_t (i := 837) (by decide +kernel) (by decide +kernel)), xw_t (i := 838) (by decide +kernel) (by decide +kernel), ⟨_, _, rfl⟩, xw_t (i := 839) (by decide +kernel) (by decide +kernel), my_M_thrown, by decide +kernel⟩
theorem ks_W_86 : xa_lkS xP "ClocklessGatesLaw" 86 34 4 := ⟨Or.inl (xw_t (i := 412) (by decide +kernel) (by decide +kernel)), xw_t (i := 413) (by decide +kernel) (by decide +kernel), xw_t (i := 0) (by decide +kernel) (by decide +kernel), my_W_edge, by decide +kernel⟩
theorem kv_W_89 : xa_lkV xP "ClocklessGatesLaw" 89 6 105 2 := ⟨Or.inl (xw_t (i := 849) (by decide +kernel) (by decide +kernel)), xw_t (i := 850) (by decide +kernel) (by decide +kernel), ⟨_, _, rfl⟩, xw_t (i := 851) (by decide +kernel) (by decide +kernel), my_M_edge, by decide +kernel⟩
theorem ks_W_90 : xa_lkS xP "ClocklessGatesLaw" 90 38 3 := ⟨Or.inl (xw_t (i := 445) (by decide +kernel) (by decide +kernel)), xw_t (i := 446) (by decide +kernel) (by decide +kernel), xw_t (i := 0) (by decide +kernel) (by decide +kernel), my_W_place, by decide +kernel⟩
theorem kv_W_93 : xa_lkV xP "ClocklessGatesLaw" 93 6 107 1 := ⟨Or.inl (xw_t (i := 857) (by decide +kernel) (by decide +kernel)), xw_t (i := 858) (by decide +kernel) (by decide +kernel), ⟨_, _, rfl⟩, xw_t (i := 859) (by decide +kernel) (by decide +kernel), my_M_place, by decide +kernel⟩
theorem ks_W_94 : xa_lkS xP "ClocklessGatesLaw" 94 41 4 := ⟨Or.inl (xw_t (i := 457) (by decide +kernel) (by decide +kernel)), xw_t (i := 458) (by decide +kernel) (by decide +kernel), xw_t (i := 0) (by decide +kernel) (by decide +kernel), my_W_arc, by decide +kernel⟩
theorem kv_W_97 : xa_lkV xP "ClocklessGatesLaw" 97 6 108 3 := ⟨Or.inl (xw_t (i := 861) (by decide +kernel) (by decide +kernel)), xw_t (i := 862) (by decide +kernel) (by decide +kernel), ⟨_, _, rfl⟩, xw_t (i := 863) (by decide +kernel) (by decide +kernel), my_M_arc, by decide +kernel⟩
theorem kv_W_98 : xa_lkV xP "ClocklessGatesLaw" 98 0 7 0 := ⟨Or.inl (xw_t (i := 235) (by decide +kernel) (by decide +kernel)), xw_t (i := 236) (by decide +kernel) (by decide +kernel), ⟨_, _, rfl⟩, xw_t (i := 237) (by decide +kernel) (by decide +kernel), my_CG_analyse, by decide +kernel⟩
theorem kv_W_101 : xa_lkV xP "ClocklessGatesLaw" 101 6 109 0 := ⟨Or.inl (xw_t (i := 865) (by decide +kernel) (by decide +kernel)), xw_t (i := 866) (by decide +kernel) (by decide +kernel), ⟨_, _, rfl⟩, xw_t (i := 867) (by decide +kernel) (by decide +kernel), my_M_analyse, by decide +kernel⟩
theorem ks_W_102 : xa_lkS xP "ClocklessGatesLaw" 102 45 2 := ⟨Or.inl (xw_t (i := 491) (by decide +kernel) (by decide +kernel)), xw_t (i := 492) (by decide +kernel) (by decide +kernel), xw_t (i := 0) (by decide +kernel) (by decide +kernel), my_W_states, by decide +kernel⟩
theorem kv_W_105 : xa_lkV xP "ClocklessGatesLaw" 105 6 123 0 := ⟨Or.inl (xw_t (i := 921) (by decide +kernel) (by decide +kernel)), xw_t (i := 922) (by decide +kernel) (by decide +kernel), ⟨_, _, rfl⟩, xw_t (i := 923) (by decide +kernel) (by decide +kernel), my_M_states, by decide +kernel⟩
theorem ks_W_106 : xa_lkS xP "ClocklessGatesLaw" 106 48 3 := ⟨Or.inl (xw_t (i := 503) (by decide +kernel) (by decide +kernel)), xw_t (i := 504) (by decide +kernel) (by decide +kernel), xw_t (i := 0) (by decide +kernel) (by decide +kernel), my_W_code, by decide +kernel⟩
theorem kv_W_109 : xa_lkV xP "ClocklessGatesLaw" 109 6 125 1 := ⟨Or.inl (xw_t (i := 929) (by decide +kernel) (by decide +kernel)), xw_t (i := 930) (by decide +kernel) (by decide +kernel), ⟨_, _, rfl⟩, xw_t (i := 931) (by decide +kernel) (by decide +kernel), my_M_code, by decide +kernel⟩
theorem ks_W_110 : xa_lkS xP "ClocklessGatesLaw" 110 51 3 := ⟨Or.inl (xw_t (i := 515) (by decide +kernel) (by decide +kernel)), xw_t (i := 516) (by decide +kernel) (by decide +kernel), xw_t (i := 0) (by decide +kernel) (by decide +kernel), my_W_marking, by decide +kernel⟩
theorem kv_W_112 : xa_lkV xP "ClocklessGatesLaw" 112 6 127 1 := ⟨Or.inl (xw_t (i := 937) (by decide +kernel) (by decide +kernel)), xw_t (i := 938) (by decide +kernel) (by decide +kernel), ⟨_, _, rfl⟩, xw_t (i := 939) (by decide +kernel) (by decide +kernel), my_M_marking, by decide +kernel⟩
theorem ks_W_113 : xa_lkS xP "ClocklessGatesLaw" 113 53 3 := ⟨Or.inl (xw_t (i := 522) (by decide +kernel) (by decide +kernel)), xw_t (i := 523) (by decide +kernel) (by decide +kernel), xw_t (i := 0) (by decide +kernel) (by decide +kernel), my_W_found, by decide +kernel⟩
theorem kv_W_115 : xa_lkV xP "ClocklessGatesLaw" 115 6 128 1 := ⟨Or.inl (xw_t (i := 941) (by decide +kernel) (by decide +kernel)), xw_t (i := 942) (by decide +kernel) (by decide +kernel), ⟨_, _, rfl⟩, xw_t (i := 943) (by decide +kernel) (by decide +kernel), my_M_found, by decide +kernel⟩
theorem ks_W_116 : xa_lkS xP "ClocklessGatesLaw" 116 55 3 := ⟨Or.inl (xw_t (i := 529) (by decide +kernel) (by decide +kernel)), xw_t (i := 530) (by decide +kernel) (by decide +kernel), xw_t (i := 0) (by decide +kernel) (by decide +kernel), my_W_excited, by decide +kernel⟩
theorem kv_W_118 : xa_lkV xP "ClocklessGatesLaw" 118 6 129 1 := ⟨Or.inl (xw_t (i := 945) (by decide +kernel) (by decide +kernel)), xw_t (i := 946) (by decide +kernel) (by decide +kernel), ⟨_, _, rfl⟩, xw_t (i := 947) (by decide +kernel) (by decide +kernel), my_M_excited, by decide +kernel⟩
theorem kv_W_119 : xa_lkV xP "ClocklessGatesLaw" 119 0 30 0 := ⟨Or.inl (xw_t (i := 327) (by decide +kernel) (by decide +kernel)), xw_t (i := 328) (by decide +kernel) (by decide +kernel), ⟨_, _, rfl⟩, xw_t (i := 329) (by decide +kernel) (by decide +kernel), my_CG_fault, by decide +kernel⟩
theorem kv_W_122 : xa_lkV xP "ClocklessGatesLaw" 122 6 130 0 := ⟨Or.inl (xw_t (i := 949) (by decide +kernel) (by decide +kernel)), xw_t (i := 950) (by decide +kernel) (by decide +kernel), ⟨_, _, rfl⟩, xw_t (i := 951) (by decide +kernel) (by decide +kernel), my_M_fault, by decide +kernel⟩
theorem ks_W_123 : xa_lkS xP "ClocklessGatesLaw" 123 57 2 := ⟨Or.inl (xw_t (i := 536) (by decide +kernel) (by decide +kernel)), xw_t (i := 537) (by decide +kernel) (by decide +kernel), xw_t (i := 0) (by decide +kernel) (by decide +kernel), my_W_synthesise, by decide +kernel⟩
theorem kv_W_125 : xa_lkV xP "ClocklessGatesLaw" 125 6 131 0 := ⟨Or.inl (xw_t (i := 953) (by decide +kernel) (by decide +kernel)), xw_t (i := 954) (by decide +kernel) (by decide +kernel), ⟨_, _, rfl⟩, xw_t (i := 955) (by decide +kernel) (by decide +kernel), my_M_synthesise, by decide +kernel⟩
theorem ks_W_126 : xa_lkS xP "ClocklessGatesLaw" 126 79 3 := ⟨Or.inl (xw_t (i := 645) (by decide +kernel) (by decide +kernel)), xw_t (i := 646) (by decide +kernel) (by decide +kernel), xw_t (i := 0) (by decide +kernel) (by decide +kernel), my_W_products, by decide +kernel⟩
theorem kv_W_128 : xa_lkV xP "ClocklessGatesLaw" 128 6 142 1 := ⟨Or.inl (xw_t (i := 995) (by decide +kernel) (by decide +kernel)), xw_t (i := 996) (by decide +kernel) (by decide +kernel), ⟨_, _, rfl⟩, xw_t (i := 997) (by decide +kernel) (by decide +kernel), my_M_products, by decide +kernel⟩
theorem ks_W_129 : xa_lkS xP "ClocklessGatesLaw" 129 81 4 := ⟨Or.inl (xw_t (i := 652) (by decide +kernel) (by decide +kernel)), xw_t (i := 653) (by decide +kernel) (by decide +kernel), xw_t (i := 0) (by decide +kernel) (by decide +kernel), my_W_product, by decide +kernel⟩
theorem kv_W_132 : xa_lkV xP "ClocklessGatesLaw" 132 6 143 2 := ⟨Or.inl (xw_t (i := 999) (by decide +kernel) (by decide +kernel)), xw_t (i := 1000) (by decide +kernel) (by decide +kernel), ⟨_, _, rfl⟩, xw_t (i := 1001) (by decide +kernel) (by decide +kernel), my_M_product, by decide +kernel⟩
theorem ks_W_133 : xa_lkS xP "ClocklessGatesLaw" 133 83 4 := ⟨Or.inl (xw_t (i := 660) (by decide +kernel) (by decide +kernel)), xw_t (i := 661) (by decide +kernel) (by decide +kernel), xw_t (i := 0) (by decide +kernel) (by decide +kernel), my_W_append, by decide +kernel⟩
theorem kv_W_135 : xa_lkV xP "ClocklessGatesLaw" 135 6 144 2 := ⟨Or.inl (xw_t (i := 1003) (by decide +kernel) (by decide +kernel)), xw_t (i := 1004) (by decide +kernel) (by decide +kernel), ⟨_, _, rfl⟩, xw_t (i := 1005) (by decide +kernel) (by decide +kernel), my_M_append, by decide +kernel⟩
theorem ks_W_136 : xa_lkS xP "ClocklessGatesLaw" 136 86 2 := ⟨Or.inl (xw_t (i := 676) (by decide +kernel) (by decide +kernel)), xw_t (i := 677) (by decide +kernel) (by decide +kernel), xw_t (i := 0) (by decide +kernel) (by decide +kernel), my_W_strip, by decide +kernel⟩
theorem kv_W_139 : xa_lkV xP "ClocklessGatesLaw" 139 6 145 1 := ⟨Or.inl (xw_t (i := 1007) (by decide +kernel) (by decide +kernel)), xw_t (i := 1008) (by decide +kernel) (by decide +kernel), ⟨_, _, rfl⟩, xw_t (i := 1009) (by decide +kernel) (by decide +kernel), my_M_strip, by decide +kernel⟩
theorem ks_W_140 : xa_lkS xP "ClocklessGatesLaw" 140 88 4 := ⟨Or.inl (xw_t (i := 683) (by decide +kernel) (by decide +kernel)), xw_t (i := 684) (by decide +kernel) (by decide +kernel), xw_t (i := 0) (by decide +kernel) (by decide +kernel), my_W_value, by decide +kernel⟩
theorem kv_W_142 : xa_lkV xP "ClocklessGatesLaw" 142 6 146 2 := ⟨Or.inl (xw_t (i := 1011) (by decide +kernel) (by decide +kernel)), xw_t (i := 1012) (by decide +kernel) (by decide +kernel), ⟨_, _, rfl⟩, xw_t (i := 1013) (by decide +kernel) (by decide +kernel), my_M_value, by decide +kernel⟩
theorem ks_W_143 : xa_lkS xP "ClocklessGatesLaw" 143 91 2 := ⟨Or.inl (xw_t (i := 695) (by decide +kernel) (by decide +kernel)), xw_t (i := 696) (by decide +kernel) (by decide +kernel), xw_t (i := 0) (by decide +kernel) (by decide +kernel), my_W_check, by decide +kernel⟩
theorem kv_W_145 : xa_lkV xP "ClocklessGatesLaw" 145 6 148 0 := ⟨Or.inl (xw_t (i := 1019) (by decide +kernel) (by decide +kernel)), xw_t (i := 1020) (by decide +kernel) (by decide +kernel), ⟨_, _, rfl⟩, xw_t (i := 1021) (by decide +kernel) (by decide +kernel), my_M_check, by decide +kernel⟩
theorem fg_M_7 : xa_fld xP "ClocklessGatesModel" 7 6 2 := ⟨_, _, _, _, k_M, by decide, Or.inl (xw_t (i := 748) (by decide +kernel) (by decide +kernel))⟩
theorem ff_M_7 : xa_fldF xP "ClocklessGatesModel" 7 6 2 (.array .boolean) := ⟨_, _, _, _, k_M, by decide, rfl, rfl, rfl, xw_t (i := 748) (by decide +kernel) (by decide +kernel)⟩
theorem fg_M_13 : xa_fld xP "ClocklessGatesModel" 13 6 3 := ⟨_, _, _, _, k_M, by decide, Or.inl (xw_t (i := 749) (by decide +kernel) (by decide +kernel))⟩
theorem ff_M_13 : xa_fldF xP "ClocklessGatesModel" 13 6 3 (.array .boolean) := ⟨_, _, _, _, k_M, by decide, rfl, rfl, rfl, xw_t (i := 749) (by decide +kernel) (by decide +kernel)⟩
theorem fg_M_16 : xa_fld xP "ClocklessGatesModel" 16 6 5 := ⟨_, _, _, _, k_M, by decide, Or.inl (xw_t (i := 751) (by decide +kernel) (by decide +kernel))⟩
theorem ff_M_16 : xa_fldF xP "ClocklessGatesModel" 16 6 5 (.array .int) := ⟨_, _, _, _, k_M, by decide, rfl, rfl, rfl, xw_t (i := 751) (by decide +kernel) (by decide +kernel)⟩
theorem fg_M_20 : xa_fld xP "ClocklessGatesModel" 20 6 6 := ⟨_, _, _, _, k_M, by decide, Or.inl (xw_t (i := 752) (by decide +kernel) (by decide +kernel))⟩
theorem ff_M_20 : xa_fldF xP "ClocklessGatesModel" 20 6 6 (.array .boolean) := ⟨_, _, _, _, k_M, by decide, rfl, rfl, rfl, xw_t (i := 752) (by decide +kernel) (by decide +kernel)⟩
theorem fg_M_23 : xa_fld xP "ClocklessGatesModel" 23 6 7 := ⟨_, _, _, _, k_M, by decide, Or.inl (xw_t (i := 753) (by decide +kernel) (by decide +kernel))⟩
theorem ff_M_23 : xa_fldF xP "ClocklessGatesModel" 23 6 7 (.array .int) := ⟨_, _, _, _, k_M, by decide, rfl, rfl, rfl, xw_t (i := 753) (by decide +kernel) (by decide +kernel)⟩
theorem fg_M_26 : xa_fld xP "ClocklessGatesModel" 26 6 8 := ⟨_, _, _, _, k_M, by decide, Or.inl (xw_t (i := 754) (by decide +kernel) (by decide +kernel))⟩
theorem ff_M_26 : xa_fldF xP "ClocklessGatesModel" 26 6 8 (.array .int) := ⟨_, _, _, _, k_M, by decide, rfl, rfl, rfl, xw_t (i := 754) (by decide +kernel) (by decide +kernel)⟩
theorem fg_M_29 : xa_fld xP "ClocklessGatesModel" 29 6 11 := ⟨_, _, _, _, k_M, by decide, Or.inl (xw_t (i := 757) (by decide +kernel) (by decide +kernel))⟩
theorem fp_M_29 : xa_fldP xP "ClocklessGatesModel" 29 6 11 (.int) := ⟨_, _, _, _, k_M, by decide, rfl, rfl, Or.inl (xw_t (i := 757) (by decide +kernel) (by decide +kernel))⟩
theorem fg_M_33 : xa_fld xP "ClocklessGatesModel" 33 6 12 := ⟨_, _, _, _, k_M, by decide, Or.inl (xw_t (i := 758) (by decide +kernel) (by decide +kernel))⟩
theorem fp_M_33 : xa_fldP xP "ClocklessGatesModel" 33 6 12 (.int) := ⟨_, _, _, _, k_M, by decide, rfl, rfl, Or.inl (xw_t (i := 758) (by decide +kernel) (by decide +kernel))⟩
theorem fg_M_36 : xa_fld xP "ClocklessGatesModel" 36 6 14 := ⟨_, _, _, _, k_M, by decide, Or.inl (xw_t (i := 760) (by decide +kernel) (by decide +kernel))⟩
theorem ff_M_36 : xa_fldF xP "ClocklessGatesModel" 36 6 14 (.array .int) := ⟨_, _, _, _, k_M, by decide, rfl, rfl, rfl, xw_t (i := 760) (by decide +kernel) (by decide +kernel)⟩
theorem fg_M_39 : xa_fld xP "ClocklessGatesModel" 39 6 15 := ⟨_, _, _, _, k_M, by decide, Or.inl (xw_t (i := 761) (by decide +kernel) (by decide +kernel))⟩
theorem ff_M_39 : xa_fldF xP "ClocklessGatesModel" 39 6 15 (.array .int) := ⟨_, _, _, _, k_M, by decide, rfl, rfl, rfl, xw_t (i := 761) (by decide +kernel) (by decide +kernel)⟩
theorem fg_M_42 : xa_fld xP "ClocklessGatesModel" 42 6 16 := ⟨_, _, _, _, k_M, by decide, Or.inl (xw_t (i := 762) (by decide +kernel) (by decide +kernel))⟩
theorem ff_M_42 : xa_fldF xP "ClocklessGatesModel" 42 6 16 (.array .int) := ⟨_, _, _, _, k_M, by decide, rfl, rfl, rfl, xw_t (i := 762) (by decide +kernel) (by decide +kernel)⟩
theorem fg_M_45 : xa_fld xP "ClocklessGatesModel" 45 6 17 := ⟨_, _, _, _, k_M, by decide, Or.inl (xw_t (i := 763) (by decide +kernel) (by decide +kernel))⟩
theorem ff_M_45 : xa_fldF xP "ClocklessGatesModel" 45 6 17 (.array .int) := ⟨_, _, _, _, k_M, by decide, rfl, rfl, rfl, xw_t (i := 763) (by decide +kernel) (by decide +kernel)⟩
theorem fg_M_48 : xa_fld xP "ClocklessGatesModel" 48 6 18 := ⟨_, _, _, _, k_M, by decide, Or.inl (xw_t (i := 764) (by decide +kernel) (by decide +kernel))⟩
theorem ff_M_48 : xa_fldF xP "ClocklessGatesModel" 48 6 18 (.array .int) := ⟨_, _, _, _, k_M, by decide, rfl, rfl, rfl, xw_t (i := 764) (by decide +kernel) (by decide +kernel)⟩
theorem fg_M_51 : xa_fld xP "ClocklessGatesModel" 51 6 19 := ⟨_, _, _, _, k_M, by decide, Or.inl (xw_t (i := 765) (by decide +kernel) (by decide +kernel))⟩
theorem ff_M_51 : xa_fldF xP "ClocklessGatesModel" 51 6 19 (.array .int) := ⟨_, _, _, _, k_M, by decide, rfl, rfl, rfl, xw_t (i := 765) (by decide +kernel) (by decide +kernel)⟩
theorem fg_M_54 : xa_fld xP "ClocklessGatesModel" 54 6 20 := ⟨_, _, _, _, k_M, by decide, Or.inl (xw_t (i := 766) (by decide +kernel) (by decide +kernel))⟩
theorem ff_M_54 : xa_fldF xP "ClocklessGatesModel" 54 6 20 (.array .boolean) := ⟨_, _, _, _, k_M, by decide, rfl, rfl, rfl, xw_t (i := 766) (by decide +kernel) (by decide +kernel)⟩
theorem fg_M_57 : xa_fld xP "ClocklessGatesModel" 57 6 21 := ⟨_, _, _, _, k_M, by decide, Or.inl (xw_t (i := 767) (by decide +kernel) (by decide +kernel))⟩
theorem ff_M_57 : xa_fldF xP "ClocklessGatesModel" 57 6 21 (.array .int) := ⟨_, _, _, _, k_M, by decide, rfl, rfl, rfl, xw_t (i := 767) (by decide +kernel) (by decide +kernel)⟩
theorem fg_M_60 : xa_fld xP "ClocklessGatesModel" 60 6 22 := ⟨_, _, _, _, k_M, by decide, Or.inl (xw_t (i := 768) (by decide +kernel) (by decide +kernel))⟩
theorem ff_M_60 : xa_fldF xP "ClocklessGatesModel" 60 6 22 (.array .int) := ⟨_, _, _, _, k_M, by decide, rfl, rfl, rfl, xw_t (i := 768) (by decide +kernel) (by decide +kernel)⟩
theorem fg_M_63 : xa_fld xP "ClocklessGatesModel" 63 6 23 := ⟨_, _, _, _, k_M, by decide, Or.inl (xw_t (i := 769) (by decide +kernel) (by decide +kernel))⟩
theorem ff_M_63 : xa_fldF xP "ClocklessGatesModel" 63 6 23 (.array .int) := ⟨_, _, _, _, k_M, by decide, rfl, rfl, rfl, xw_t (i := 769) (by decide +kernel) (by decide +kernel)⟩
theorem fg_M_66 : xa_fld xP "ClocklessGatesModel" 66 6 24 := ⟨_, _, _, _, k_M, by decide, Or.inl (xw_t (i := 770) (by decide +kernel) (by decide +kernel))⟩
theorem ff_M_66 : xa_fldF xP "ClocklessGatesModel" 66 6 24 (.array .int) := ⟨_, _, _, _, k_M, by decide, rfl, rfl, rfl, xw_t (i := 770) (by decide +kernel) (by decide +kernel)⟩
theorem fg_M_69 : xa_fld xP "ClocklessGatesModel" 69 6 27 := ⟨_, _, _, _, k_M, by decide, Or.inl (xw_t (i := 773) (by decide +kernel) (by decide +kernel))⟩
theorem ff_M_69 : xa_fldF xP "ClocklessGatesModel" 69 6 27 (.array .int) := ⟨_, _, _, _, k_M, by decide, rfl, rfl, rfl, xw_t (i := 773) (by decide +kernel) (by decide +kernel)⟩
theorem fg_M_72 : xa_fld xP "ClocklessGatesModel" 72 6 28 := ⟨_, _, _, _, k_M, by decide, Or.inl (xw_t (i := 774) (by decide +kernel) (by decide +kernel))⟩
theorem ff_M_72 : xa_fldF xP "ClocklessGatesModel" 72 6 28 (.array .int) := ⟨_, _, _, _, k_M, by decide, rfl, rfl, rfl, xw_t (i := 774) (by decide +kernel) (by decide +kernel)⟩
theorem fg_M_75 : xa_fld xP "ClocklessGatesModel" 75 6 29 := ⟨_, _, _, _, k_M, by decide, Or.inl (xw_t (i := 775) (by decide +kernel) (by decide +kernel))⟩
theorem ff_M_75 : xa_fldF xP "ClocklessGatesModel" 75 6 29 (.array .boolean) := ⟨_, _, _, _, k_M, by decide, rfl, rfl, rfl, xw_t (i := 775) (by decide +kernel) (by decide +kernel)⟩
theorem fg_M_78 : xa_fld xP "ClocklessGatesModel" 78 6 0 := ⟨_, _, _, _, k_M, by decide, Or.inl (xw_t (i := 746) (by decide +kernel) (by decide +kernel))⟩
theorem fp_M_78 : xa_fldP xP "ClocklessGatesModel" 78 6 0 (.int) := ⟨_, _, _, _, k_M, by decide, rfl, rfl, Or.inl (xw_t (i := 746) (by decide +kernel) (by decide +kernel))⟩
theorem fg_M_81 : xa_fld xP "ClocklessGatesModel" 81 6 13 := ⟨_, _, _, _, k_M, by decide, Or.inl (xw_t (i := 759) (by decide +kernel) (by decide +kernel))⟩
theorem fp_M_81 : xa_fldP xP "ClocklessGatesModel" 81 6 13 (.int) := ⟨_, _, _, _, k_M, by decide, rfl, rfl, Or.inl (xw_t (i := 759) (by decide +kernel) (by decide +kernel))⟩
theorem fg_M_84 : xa_fld xP "ClocklessGatesModel" 84 6 1 := ⟨_, _, _, _, k_M, by decide, Or.inl (xw_t (i := 747) (by decide +kernel) (by decide +kernel))⟩
theorem fp_M_84 : xa_fldP xP "ClocklessGatesModel" 84 6 1 (.int) := ⟨_, _, _, _, k_M, by decide, rfl, rfl, Or.inl (xw_t (i := 747) (by decide +kernel) (by decide +kernel))⟩
theorem kv_M_87 : xa_lkV xP "ClocklessGatesModel" 87 6 104 0 := ⟨Or.inl (xw_t (i := 845) (by decide +kernel) (by decide +kernel)), xw_t (i := 847) (by decide +kernel) (by decide +kernel), ⟨_, _, rfl⟩, xw_s (i := 29) (q := (⟨"ClocklessGatesModel", "discard", "()V"⟩, 30)) (by decide +kernel) (by decide +kernel), my_M_discard, by decide +kernel⟩
theorem kv_M_90 : xa_lkV xP "ClocklessGatesModel" 90 6 106 1 := ⟨Or.inl (xw_t (i := 853) (by decide +kernel) (by decide +kernel)), xw_t (i := 855) (by decide +kernel) (by decide +kernel), ⟨_, _, rfl⟩, xw_s (i := 30) (q := (⟨"ClocklessGatesModel", "noSignal", "(I)Z"⟩, 30)) (by decide +kernel) (by decide +kernel), my_M_noSignal, by decide +kernel⟩
theorem fg_M_94 : xa_fld xP "ClocklessGatesModel" 94 6 4 := ⟨_, _, _, _, k_M, by decide, Or.inl (xw_t (i := 750) (by decide +kernel) (by decide +kernel))⟩
theorem fp_M_94 : xa_fldP xP "ClocklessGatesModel" 94 6 4 (.int) := ⟨_, _, _, _, k_M, by decide, rfl, rfl, Or.inl (xw_t (i := 750) (by decide +kernel) (by decide +kernel))⟩
theorem fg_M_97 : xa_fld xP "ClocklessGatesModel" 97 6 9 := ⟨_, _, _, _, k_M, by decide, Or.inl (xw_t (i := 755) (by decide +kernel) (by decide +kernel))⟩
theorem fp_M_97 : xa_fldP xP "ClocklessGatesModel" 97 6 9 (.int) := ⟨_, _, _, _, k_M, by decide, rfl, rfl, Or.inl (xw_t (i := 755) (by decide +kernel) (by decide +kernel))⟩
theorem fg_M_100 : xa_fld xP "ClocklessGatesModel" 100 6 10 := ⟨_, _, _, _, k_M, by decide, Or.inl (xw_t (i := 756) (by decide +kernel) (by decide +kernel))⟩
theorem fp_M_100 : xa_fldP xP "ClocklessGatesModel" 100 6 10 (.int) := ⟨_, _, _, _, k_M, by decide, rfl, rfl, Or.inl (xw_t (i := 756) (by decide +kernel) (by decide +kernel))⟩
theorem kv_M_103 : xa_lkV xP "ClocklessGatesModel" 103 6 111 2 := ⟨Or.inl (xw_t (i := 873) (by decide +kernel) (by decide +kernel)), xw_t (i := 875) (by decide +kernel) (by decide +kernel), ⟨_, _, rfl⟩, xw_s (i := 32) (q := (⟨"ClocklessGatesModel", "enabled", "(II)Z"⟩, 30)) (by decide +kernel) (by decide +kernel), my_M_enabled, by decide +kernel⟩
theorem kv_M_107 : xa_lkV xP "ClocklessGatesModel" 107 6 112 2 := ⟨Or.inl (xw_t (i := 877) (by decide +kernel) (by decide +kernel)), xw_t (i := 879) (by decide +kernel) (by decide +kernel), ⟨_, _, rfl⟩, xw_s (i := 33) (q := (⟨"ClocklessGatesModel", "safe", "(II)Z"⟩, 30)) (by decide +kernel) (by decide +kernel), my_M_safe, by decide +kernel⟩
theorem kv_M_110 : xa_lkV xP "ClocklessGatesModel" 110 6 113 2 := ⟨Or.inl (xw_t (i := 881) (by decide +kernel) (by decide +kernel)), xw_t (i := 883) (by decide +kernel) (by decide +kernel), ⟨_, _, rfl⟩, xw_s (i := 34) (q := (⟨"ClocklessGatesModel", "right", "(II)Z"⟩, 30)) (by decide +kernel) (by decide +kernel), my_M_right, by decide +kernel⟩
theorem kv_M_113 : xa_lkV xP "ClocklessGatesModel" 113 6 114 2 := ⟨Or.inl (xw_t (i := 885) (by decide +kernel) (by decide +kernel)), xw_t (i := 887) (by decide +kernel) (by decide +kernel), ⟨_, _, rfl⟩, xw_s (i := 35) (q := (⟨"ClocklessGatesModel", "markAfter", "(II)I"⟩, 30)) (by decide +kernel) (by decide +kernel), my_M_markAfter, by decide +kernel⟩
theorem kv_M_117 : xa_lkV xP "ClocklessGatesModel" 117 6 115 2 := ⟨Or.inl (xw_t (i := 889) (by decide +kernel) (by decide +kernel)), xw_t (i := 891) (by decide +kernel) (by decide +kernel), ⟨_, _, rfl⟩, xw_s (i := 36) (q := (⟨"ClocklessGatesModel", "codeAfter", "(II)I"⟩, 30)) (by decide +kernel) (by decide +kernel), my_M_codeAfter, by decide +kernel⟩
theorem kv_M_120 : xa_lkV xP "ClocklessGatesModel" 120 6 116 2 := ⟨Or.inl (xw_t (i := 893) (by decide +kernel) (by decide +kernel)), xw_t (i := 895) (by decide +kernel) (by decide +kernel), ⟨_, _, rfl⟩, xw_s (i := 37) (q := (⟨"ClocklessGatesModel", "find", "(II)I"⟩, 30)) (by decide +kernel) (by decide +kernel), my_M_find, by decide +kernel⟩
theorem kv_M_123 : xa_lkV xP "ClocklessGatesModel" 123 6 119 2 := ⟨Or.inl (xw_t (i := 905) (by decide +kernel) (by decide +kernel)), xw_t (i := 907) (by decide +kernel) (by decide +kernel), ⟨_, _, rfl⟩, xw_s (i := 40) (q := (⟨"ClocklessGatesModel", "sameEdge", "(II)Z"⟩, 30)) (by decide +kernel) (by decide +kernel), my_M_sameEdge, by decide +kernel⟩
theorem kv_M_126 : xa_lkV xP "ClocklessGatesModel" 126 6 120 2 := ⟨Or.inl (xw_t (i := 909) (by decide +kernel) (by decide +kernel)), xw_t (i := 911) (by decide +kernel) (by decide +kernel), ⟨_, _, rfl⟩, xw_s (i := 41) (q := (⟨"ClocklessGatesModel", "edgeEnabled", "(II)Z"⟩, 30)) (by decide +kernel) (by decide +kernel), my_M_edgeEnabled, by decide +kernel⟩
theorem kv_M_129 : xa_lkV xP "ClocklessGatesModel" 129 6 122 1 := ⟨Or.inl (xw_t (i := 917) (by decide +kernel) (by decide +kernel)), xw_t (i := 919) (by decide +kernel) (by decide +kernel), ⟨_, _, rfl⟩, xw_s (i := 43) (q := (⟨"ClocklessGatesModel", "excitedIn", "(I)I"⟩, 30)) (by decide +kernel) (by decide +kernel), my_M_excitedIn, by decide +kernel⟩
theorem kv_M_133 : xa_lkV xP "ClocklessGatesModel" 133 6 118 1 := ⟨Or.inl (xw_t (i := 901) (by decide +kernel) (by decide +kernel)), xw_t (i := 903) (by decide +kernel) (by decide +kernel), ⟨_, _, rfl⟩, xw_s (i := 39) (q := (⟨"ClocklessGatesModel", "loses", "(I)Z"⟩, 30)) (by decide +kernel) (by decide +kernel), my_M_loses, by decide +kernel⟩
theorem kv_M_136 : xa_lkV xP "ClocklessGatesModel" 136 6 121 1 := ⟨Or.inl (xw_t (i := 913) (by decide +kernel) (by decide +kernel)), xw_t (i := 915) (by decide +kernel) (by decide +kernel), ⟨_, _, rfl⟩, xw_s (i := 42) (q := (⟨"ClocklessGatesModel", "conflicts", "(I)Z"⟩, 30)) (by decide +kernel) (by decide +kernel), my_M_conflicts, by decide +kernel⟩
theorem kv_M_139 : xa_lkV xP "ClocklessGatesModel" 139 6 110 0 := ⟨Or.inl (xw_t (i := 869) (by decide +kernel) (by decide +kernel)), xw_t (i := 871) (by decide +kernel) (by decide +kernel), ⟨_, _, rfl⟩, xw_s (i := 31) (q := (⟨"ClocklessGatesModel", "explore", "()V"⟩, 30)) (by decide +kernel) (by decide +kernel), my_M_explore, by decide +kernel⟩
theorem kv_M_142 : xa_lkV xP "ClocklessGatesModel" 142 6 117 2 := ⟨Or.inl (xw_t (i := 897) (by decide +kernel) (by decide +kernel)), xw_t (i := 899) (by decide +kernel) (by decide +kernel), ⟨_, _, rfl⟩, xw_s (i := 38) (q := (⟨"ClocklessGatesModel", "bad", "(II)Z"⟩, 30)) (by decide +kernel) (by decide +kernel), my_M_bad, by decide +kernel⟩
theorem kv_M_145 : xa_lkV xP "ClocklessGatesModel" 145 6 124 0 := ⟨Or.inl (xw_t (i := 925) (by decide +kernel) (by decide +kernel)), xw_t (i := 927) (by decide +kernel) (by decide +kernel), ⟨_, _, rfl⟩, xw_s (i := 44) (q := (⟨"ClocklessGatesModel", "noGraph", "()Z"⟩, 30)) (by decide +kernel) (by decide +kernel), my_M_noGraph, by decide +kernel⟩
theorem kv_M_149 : xa_lkV xP "ClocklessGatesModel" 149 6 126 1 := ⟨Or.inl (xw_t (i := 933) (by decide +kernel) (by decide +kernel)), xw_t (i := 935) (by decide +kernel) (by decide +kernel), ⟨_, _, rfl⟩, xw_s (i := 45) (q := (⟨"ClocklessGatesModel", "noState", "(I)Z"⟩, 30)) (by decide +kernel) (by decide +kernel), my_M_noState, by decide +kernel⟩
theorem ks_M_152 : xa_lkS xP "ClocklessGatesModel" 152 135 1 := ⟨Or.inl (xw_t (i := 969) (by decide +kernel) (by decide +kernel)), xw_t (i := 970) (by decide +kernel) (by decide +kernel), xw_t (i := 7) (by decide +kernel) (by decide +kernel), my_M_three, by decide +kernel⟩
theorem kv_M_155 : xa_lkV xP "ClocklessGatesModel" 155 6 136 2 := ⟨Or.inl (xw_t (i := 972) (by decide +kernel) (by decide +kernel)), xw_t (i := 974) (by decide +kernel) (by decide +kernel), ⟨_, _, rfl⟩, xw_s (i := 49) (q := (⟨"ClocklessGatesModel", "covers", "(II)Z"⟩, 30)) (by decide +kernel) (by decide +kernel), my_M_covers, by decide +kernel⟩
theorem kv_M_158 : xa_lkV xP "ClocklessGatesModel" 158 6 141 1 := ⟨Or.inl (xw_t (i := 991) (by decide +kernel) (by decide +kernel)), xw_t (i := 993) (by decide +kernel) (by decide +kernel), ⟨_, _, rfl⟩, xw_s (i := 53) (q := (⟨"ClocklessGatesModel", "digits", "(I)I"⟩, 30)) (by decide +kernel) (by decide +kernel), my_M_digits, by decide +kernel⟩
theorem fg_M_161 : xa_fld xP "ClocklessGatesModel" 161 6 26 := ⟨_, _, _, _, k_M, by decide, Or.inl (xw_t (i := 772) (by decide +kernel) (by decide +kernel))⟩
theorem fp_M_161 : xa_fldP xP "ClocklessGatesModel" 161 6 26 (.boolean) := ⟨_, _, _, _, k_M, by decide, rfl, rfl, Or.inl (xw_t (i := 772) (by decide +kernel) (by decide +kernel))⟩
theorem fg_M_165 : xa_fld xP "ClocklessGatesModel" 165 6 25 := ⟨_, _, _, _, k_M, by decide, Or.inl (xw_t (i := 771) (by decide +kernel) (by decide +kernel))⟩
theorem fp_M_165 : xa_fldP xP "ClocklessGatesModel" 165 6 25 (.int) := ⟨_, _, _, _, k_M, by decide, rfl, rfl, Or.inl (xw_t (i := 771) (by decide +kernel) (by decide +kernel))⟩
theorem ks_M_168 : xa_lkS xP "ClocklessGatesModel" 168 138 2 := ⟨Or.inl (xw_t (i := 980) (by decide +kernel) (by decide +kernel)), xw_t (i := 981) (by decide +kernel) (by decide +kernel), xw_t (i := 7) (by decide +kernel) (by decide +kernel), my_M_open, by decide +kernel⟩
theorem kv_M_171 : xa_lkV xP "ClocklessGatesModel" 171 6 139 2 := ⟨Or.inl (xw_t (i := 983) (by decide +kernel) (by decide +kernel)), xw_t (i := 985) (by decide +kernel) (by decide +kernel), ⟨_, _, rfl⟩, xw_s (i := 51) (q := (⟨"ClocklessGatesModel", "nextPrime", "(II)I"⟩, 30)) (by decide +kernel) (by decide +kernel), my_M_nextPrime, by decide +kernel⟩
theorem kv_M_174 : xa_lkV xP "ClocklessGatesModel" 174 6 140 1 := ⟨Or.inl (xw_t (i := 987) (by decide +kernel) (by decide +kernel)), xw_t (i := 989) (by decide +kernel) (by decide +kernel), ⟨_, _, rfl⟩, xw_s (i := 52) (q := (⟨"ClocklessGatesModel", "judge", "(I)V"⟩, 30)) (by decide +kernel) (by decide +kernel), my_M_judge, by decide +kernel⟩
theorem kv_M_178 : xa_lkV xP "ClocklessGatesModel" 178 6 133 2 := ⟨Or.inl (xw_t (i := 961) (by decide +kernel) (by decide +kernel)), xw_t (i := 963) (by decide +kernel) (by decide +kernel), ⟨_, _, rfl⟩, xw_s (i := 47) (q := (⟨"ClocklessGatesModel", "codesOf", "(II)I"⟩, 30)) (by decide +kernel) (by decide +kernel), my_M_codesOf, by decide +kernel⟩
theorem kv_M_181 : xa_lkV xP "ClocklessGatesModel" 181 6 134 1 := ⟨Or.inl (xw_t (i := 965) (by decide +kernel) (by decide +kernel)), xw_t (i := 967) (by decide +kernel) (by decide +kernel), ⟨_, _, rfl⟩, xw_s (i := 48) (q := (⟨"ClocklessGatesModel", "tabulate", "(I)V"⟩, 30)) (by decide +kernel) (by decide +kernel), my_M_tabulate, by decide +kernel⟩
theorem kv_M_184 : xa_lkV xP "ClocklessGatesModel" 184 6 137 2 := ⟨Or.inl (xw_t (i := 976) (by decide +kernel) (by decide +kernel)), xw_t (i := 978) (by decide +kernel) (by decide +kernel), ⟨_, _, rfl⟩, xw_s (i := 50) (q := (⟨"ClocklessGatesModel", "tryCovers", "(II)V"⟩, 30)) (by decide +kernel) (by decide +kernel), my_M_tryCovers, by decide +kernel⟩
theorem kv_M_188 : xa_lkV xP "ClocklessGatesModel" 188 6 132 1 := ⟨Or.inl (xw_t (i := 957) (by decide +kernel) (by decide +kernel)), xw_t (i := 959) (by decide +kernel) (by decide +kernel), ⟨_, _, rfl⟩, xw_s (i := 46) (q := (⟨"ClocklessGatesModel", "leastSum", "(I)I"⟩, 30)) (by decide +kernel) (by decide +kernel), my_M_leastSum, by decide +kernel⟩
theorem kv_M_191 : xa_lkV xP "ClocklessGatesModel" 191 6 147 2 := ⟨Or.inl (xw_t (i := 1015) (by decide +kernel) (by decide +kernel)), xw_t (i := 1017) (by decide +kernel) (by decide +kernel), ⟨_, _, rfl⟩, xw_s (i := 54) (q := (⟨"ClocklessGatesModel", "valueOf", "(II)I"⟩, 30)) (by decide +kernel) (by decide +kernel), my_M_valueOf, by decide +kernel⟩
theorem kv_M_194 : xa_lkV xP "ClocklessGatesModel" 194 6 151 2 := ⟨Or.inl (xw_t (i := 1031) (by decide +kernel) (by decide +kernel)), xw_t (i := 1033) (by decide +kernel) (by decide +kernel), ⟨_, _, rfl⟩, xw_s (i := 57) (q := (⟨"ClocklessGatesModel", "acts", "(II)Z"⟩, 30)) (by decide +kernel) (by decide +kernel), my_M_acts, by decide +kernel⟩
theorem kv_M_197 : xa_lkV xP "ClocklessGatesModel" 197 6 150 2 := ⟨Or.inl (xw_t (i := 1027) (by decide +kernel) (by decide +kernel)), xw_t (i := 1029) (by decide +kernel) (by decide +kernel), ⟨_, _, rfl⟩, xw_s (i := 56) (q := (⟨"ClocklessGatesModel", "fires", "(II)Z"⟩, 30)) (by decide +kernel) (by decide +kernel), my_M_fires, by decide +kernel⟩
theorem kv_M_200 : xa_lkV xP "ClocklessGatesModel" 200 6 149 0 := ⟨Or.inl (xw_t (i := 1023) (by decide +kernel) (by decide +kernel)), xw_t (i := 1025) (by decide +kernel) (by decide +kernel), ⟨_, _, rfl⟩, xw_s (i := 55) (q := (⟨"ClocklessGatesModel", "comeTo", "()V"⟩, 30)) (by decide +kernel) (by decide +kernel), my_M_comeTo, by decide +kernel⟩
theorem kv_M_203 : xa_lkV xP "ClocklessGatesModel" 203 6 152 1 := ⟨Or.inl (xw_t (i := 1035) (by decide +kernel) (by decide +kernel)), xw_t (i := 1037) (by decide +kernel) (by decide +kernel), ⟨_, _, rfl⟩, xw_s (i := 58) (q := (⟨"ClocklessGatesModel", "hazard", "(I)Z"⟩, 30)) (by decide +kernel) (by decide +kernel), my_M_hazard, by decide +kernel⟩
theorem kv_M_206 : xa_lkV xP "ClocklessGatesModel" 206 6 153 1 := ⟨Or.inl (xw_t (i := 1039) (by decide +kernel) (by decide +kernel)), xw_t (i := 1041) (by decide +kernel) (by decide +kernel), ⟨_, _, rfl⟩, xw_s (i := 59) (q := (⟨"ClocklessGatesModel", "unexpected", "(I)Z"⟩, 30)) (by decide +kernel) (by decide +kernel), my_M_unexpected, by decide +kernel⟩
theorem kv_M_209 : xa_lkV xP "ClocklessGatesModel" 209 6 154 1 := ⟨Or.inl (xw_t (i := 1043) (by decide +kernel) (by decide +kernel)), xw_t (i := 1045) (by decide +kernel) (by decide +kernel), ⟨_, _, rfl⟩, xw_s (i := 60) (q := (⟨"ClocklessGatesModel", "missing", "(I)Z"⟩, 30)) (by decide +kernel) (by decide +kernel), my_M_missing, by decide +kernel⟩
end
