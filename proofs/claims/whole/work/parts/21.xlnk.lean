/-! Where the entries of the constant pools lead (printed by wip/whole/gen_prog.py). -/
set_option maxRecDepth 100000 in
theorem my_CG_init : xa_my xP 0 0 := ⟨xw_t (i := 21) rfl (by decide +kernel), by decide +kernel, by decide +kernel, by decide +kernel, by decide +kernel⟩
set_option maxRecDepth 100000 in
theorem my_N_init : xa_my xP 1 0 := ⟨xw_t (i := 29) rfl (by decide +kernel), by decide +kernel, by decide +kernel, by decide +kernel, by decide +kernel⟩
set_option maxRecDepth 100000 in
theorem my_G_init : xa_my xP 2 0 := ⟨xw_t (i := 80) rfl (by decide +kernel), by decide +kernel, by decide +kernel, by decide +kernel, by decide +kernel⟩
set_option maxRecDepth 100000 in
theorem my_Ci_init : xa_my xP 3 0 := ⟨xw_t (i := 128) rfl (by decide +kernel), by decide +kernel, by decide +kernel, by decide +kernel, by decide +kernel⟩
set_option maxRecDepth 100000 in
theorem my_Ga_init : xa_my xP 4 0 := ⟨xw_t (i := 135) rfl (by decide +kernel), by decide +kernel, by decide +kernel, by decide +kernel, by decide +kernel⟩
set_option maxRecDepth 100000 in
theorem my_L_init : xa_my xP 5 0 := ⟨xw_t (i := 175) rfl (by decide +kernel), by decide +kernel, by decide +kernel, by decide +kernel, by decide +kernel⟩
set_option maxRecDepth 100000 in
theorem my_L_spansOfAllProducts : xa_my xP 6 0 := ⟨xw_t (i := 179) rfl (by decide +kernel), by decide +kernel, by decide +kernel, by decide +kernel, by decide +kernel⟩
set_option maxRecDepth 100000 in
theorem my_CG_analyse : xa_my xP 7 0 := ⟨xw_t (i := 238) rfl (by decide +kernel), by decide +kernel, by decide +kernel, by decide +kernel, by decide +kernel⟩
set_option maxRecDepth 100000 in
theorem my_CG_discardResults : xa_my xP 8 0 := ⟨xw_t (i := 242) rfl (by decide +kernel), by decide +kernel, by decide +kernel, by decide +kernel, by decide +kernel⟩
set_option maxRecDepth 100000 in
theorem my_Ci_clear : xa_my xP 9 0 := ⟨xw_t (i := 246) rfl (by decide +kernel), by decide +kernel, by decide +kernel, by decide +kernel, by decide +kernel⟩
set_option maxRecDepth 100000 in
theorem my_Ga_clear : xa_my xP 10 0 := ⟨xw_t (i := 250) rfl (by decide +kernel), by decide +kernel, by decide +kernel, by decide +kernel, by decide +kernel⟩
set_option maxRecDepth 100000 in
theorem my_G_build : xa_my xP 11 1 := ⟨xw_t (i := 254) rfl (by decide +kernel), by decide +kernel, by decide +kernel, by decide +kernel, by decide +kernel⟩
set_option maxRecDepth 100000 in
theorem my_G_addState : xa_my xP 12 3 := ⟨xw_t (i := 258) rfl (by decide +kernel), by decide +kernel, by decide +kernel, by decide +kernel, by decide +kernel⟩
set_option maxRecDepth 100000 in
theorem my_G_expand : xa_my xP 13 2 := ⟨xw_t (i := 262) rfl (by decide +kernel), by decide +kernel, by decide +kernel, by decide +kernel, by decide +kernel⟩
set_option maxRecDepth 100000 in
theorem my_N_isEnabled : xa_my xP 14 2 := ⟨xw_t (i := 266) rfl (by decide +kernel), by decide +kernel, by decide +kernel, by decide +kernel, by decide +kernel⟩
set_option maxRecDepth 100000 in
theorem my_G_noteEnabled : xa_my xP 15 3 := ⟨xw_t (i := 270) rfl (by decide +kernel), by decide +kernel, by decide +kernel, by decide +kernel, by decide +kernel⟩
set_option maxRecDepth 100000 in
theorem my_N_edgeBit : xa_my xP 16 1 := ⟨xw_t (i := 274) rfl (by decide +kernel), by decide +kernel, by decide +kernel, by decide +kernel, by decide +kernel⟩
set_option maxRecDepth 100000 in
theorem my_N_levelAfter : xa_my xP 17 1 := ⟨xw_t (i := 278) rfl (by decide +kernel), by decide +kernel, by decide +kernel, by decide +kernel, by decide +kernel⟩
set_option maxRecDepth 100000 in
theorem my_N_signalOf : xa_my xP 18 1 := ⟨xw_t (i := 282) rfl (by decide +kernel), by decide +kernel, by decide +kernel, by decide +kernel, by decide +kernel⟩
set_option maxRecDepth 100000 in
theorem my_N_isInput : xa_my xP 19 1 := ⟨xw_t (i := 286) rfl (by decide +kernel), by decide +kernel, by decide +kernel, by decide +kernel, by decide +kernel⟩
set_option maxRecDepth 100000 in
theorem my_N_isSafe : xa_my xP 20 2 := ⟨xw_t (i := 290) rfl (by decide +kernel), by decide +kernel, by decide +kernel, by decide +kernel, by decide +kernel⟩
set_option maxRecDepth 100000 in
theorem my_N_isRight : xa_my xP 21 2 := ⟨xw_t (i := 294) rfl (by decide +kernel), by decide +kernel, by decide +kernel, by decide +kernel, by decide +kernel⟩
set_option maxRecDepth 100000 in
theorem my_G_fire : xa_my xP 22 3 := ⟨xw_t (i := 298) rfl (by decide +kernel), by decide +kernel, by decide +kernel, by decide +kernel, by decide +kernel⟩
set_option maxRecDepth 100000 in
theorem my_N_markingAfter : xa_my xP 23 2 := ⟨xw_t (i := 302) rfl (by decide +kernel), by decide +kernel, by decide +kernel, by decide +kernel, by decide +kernel⟩
set_option maxRecDepth 100000 in
theorem my_N_codeAfter : xa_my xP 24 2 := ⟨xw_t (i := 306) rfl (by decide +kernel), by decide +kernel, by decide +kernel, by decide +kernel, by decide +kernel⟩
set_option maxRecDepth 100000 in
theorem my_G_judge : xa_my xP 25 1 := ⟨xw_t (i := 310) rfl (by decide +kernel), by decide +kernel, by decide +kernel, by decide +kernel, by decide +kernel⟩
set_option maxRecDepth 100000 in
theorem my_G_leastDisablingState : xa_my xP 26 1 := ⟨xw_t (i := 314) rfl (by decide +kernel), by decide +kernel, by decide +kernel, by decide +kernel, by decide +kernel⟩
set_option maxRecDepth 100000 in
theorem my_G_successor : xa_my xP 27 2 := ⟨xw_t (i := 318) rfl (by decide +kernel), by decide +kernel, by decide +kernel, by decide +kernel, by decide +kernel⟩
set_option maxRecDepth 100000 in
theorem my_G_losesEdge : xa_my xP 28 3 := ⟨xw_t (i := 322) rfl (by decide +kernel), by decide +kernel, by decide +kernel, by decide +kernel, by decide +kernel⟩
set_option maxRecDepth 100000 in
theorem my_G_leastConflictingState : xa_my xP 29 0 := ⟨xw_t (i := 326) rfl (by decide +kernel), by decide +kernel, by decide +kernel, by decide +kernel, by decide +kernel⟩
set_option maxRecDepth 100000 in
theorem my_CG_fault : xa_my xP 30 0 := ⟨xw_t (i := 330) rfl (by decide +kernel), by decide +kernel, by decide +kernel, by decide +kernel, by decide +kernel⟩
set_option maxRecDepth 100000 in
theorem my_W_signal : xa_my xP 31 4 := ⟨xw_t (i := 333) rfl (by decide +kernel), by decide +kernel, by decide +kernel, by decide +kernel, by decide +kernel⟩
set_option maxRecDepth 100000 in
theorem my_CG_signal : xa_my xP 32 2 := ⟨xw_t (i := 338) rfl (by decide +kernel), by decide +kernel, by decide +kernel, by decide +kernel, by decide +kernel⟩
set_option maxRecDepth 100000 in
theorem my_N_addSignal : xa_my xP 33 2 := ⟨xw_t (i := 411) rfl (by decide +kernel), by decide +kernel, by decide +kernel, by decide +kernel, by decide +kernel⟩
set_option maxRecDepth 100000 in
theorem my_W_edge : xa_my xP 34 4 := ⟨xw_t (i := 414) rfl (by decide +kernel), by decide +kernel, by decide +kernel, by decide +kernel, by decide +kernel⟩
set_option maxRecDepth 100000 in
theorem my_CG_edge : xa_my xP 35 2 := ⟨xw_t (i := 419) rfl (by decide +kernel), by decide +kernel, by decide +kernel, by decide +kernel, by decide +kernel⟩
set_option maxRecDepth 100000 in
theorem my_CG_requireSignal : xa_my xP 36 1 := ⟨xw_t (i := 423) rfl (by decide +kernel), by decide +kernel, by decide +kernel, by decide +kernel, by decide +kernel⟩
set_option maxRecDepth 100000 in
theorem my_N_addEdge : xa_my xP 37 2 := ⟨xw_t (i := 444) rfl (by decide +kernel), by decide +kernel, by decide +kernel, by decide +kernel, by decide +kernel⟩
set_option maxRecDepth 100000 in
theorem my_W_place : xa_my xP 38 3 := ⟨xw_t (i := 447) rfl (by decide +kernel), by decide +kernel, by decide +kernel, by decide +kernel, by decide +kernel⟩
set_option maxRecDepth 100000 in
theorem my_CG_place : xa_my xP 39 1 := ⟨xw_t (i := 451) rfl (by decide +kernel), by decide +kernel, by decide +kernel, by decide +kernel, by decide +kernel⟩
set_option maxRecDepth 100000 in
theorem my_N_addPlace : xa_my xP 40 1 := ⟨xw_t (i := 456) rfl (by decide +kernel), by decide +kernel, by decide +kernel, by decide +kernel, by decide +kernel⟩
set_option maxRecDepth 100000 in
theorem my_W_arc : xa_my xP 41 4 := ⟨xw_t (i := 459) rfl (by decide +kernel), by decide +kernel, by decide +kernel, by decide +kernel, by decide +kernel⟩
set_option maxRecDepth 100000 in
theorem my_CG_arc : xa_my xP 42 3 := ⟨xw_t (i := 464) rfl (by decide +kernel), by decide +kernel, by decide +kernel, by decide +kernel, by decide +kernel⟩
set_option maxRecDepth 100000 in
theorem my_N_hasArc : xa_my xP 43 3 := ⟨xw_t (i := 470) rfl (by decide +kernel), by decide +kernel, by decide +kernel, by decide +kernel, by decide +kernel⟩
set_option maxRecDepth 100000 in
theorem my_N_addArc : xa_my xP 44 3 := ⟨xw_t (i := 490) rfl (by decide +kernel), by decide +kernel, by decide +kernel, by decide +kernel, by decide +kernel⟩
set_option maxRecDepth 100000 in
theorem my_W_states : xa_my xP 45 2 := ⟨xw_t (i := 493) rfl (by decide +kernel), by decide +kernel, by decide +kernel, by decide +kernel, by decide +kernel⟩
set_option maxRecDepth 100000 in
theorem my_CG_states : xa_my xP 46 0 := ⟨xw_t (i := 497) rfl (by decide +kernel), by decide +kernel, by decide +kernel, by decide +kernel, by decide +kernel⟩
set_option maxRecDepth 100000 in
theorem my_CG_requireGraph : xa_my xP 47 0 := ⟨xw_t (i := 501) rfl (by decide +kernel), by decide +kernel, by decide +kernel, by decide +kernel, by decide +kernel⟩
set_option maxRecDepth 100000 in
theorem my_W_code : xa_my xP 48 3 := ⟨xw_t (i := 505) rfl (by decide +kernel), by decide +kernel, by decide +kernel, by decide +kernel, by decide +kernel⟩
set_option maxRecDepth 100000 in
theorem my_CG_code : xa_my xP 49 1 := ⟨xw_t (i := 509) rfl (by decide +kernel), by decide +kernel, by decide +kernel, by decide +kernel, by decide +kernel⟩
set_option maxRecDepth 100000 in
theorem my_CG_requireState : xa_my xP 50 1 := ⟨xw_t (i := 513) rfl (by decide +kernel), by decide +kernel, by decide +kernel, by decide +kernel, by decide +kernel⟩
set_option maxRecDepth 100000 in
theorem my_W_marking : xa_my xP 51 3 := ⟨xw_t (i := 517) rfl (by decide +kernel), by decide +kernel, by decide +kernel, by decide +kernel, by decide +kernel⟩
set_option maxRecDepth 100000 in
theorem my_CG_marking : xa_my xP 52 1 := ⟨xw_t (i := 521) rfl (by decide +kernel), by decide +kernel, by decide +kernel, by decide +kernel, by decide +kernel⟩
set_option maxRecDepth 100000 in
theorem my_W_found : xa_my xP 53 3 := ⟨xw_t (i := 524) rfl (by decide +kernel), by decide +kernel, by decide +kernel, by decide +kernel, by decide +kernel⟩
set_option maxRecDepth 100000 in
theorem my_CG_found : xa_my xP 54 1 := ⟨xw_t (i := 528) rfl (by decide +kernel), by decide +kernel, by decide +kernel, by decide +kernel, by decide +kernel⟩
set_option maxRecDepth 100000 in
theorem my_W_excited : xa_my xP 55 3 := ⟨xw_t (i := 531) rfl (by decide +kernel), by decide +kernel, by decide +kernel, by decide +kernel, by decide +kernel⟩
set_option maxRecDepth 100000 in
theorem my_CG_excited : xa_my xP 56 1 := ⟨xw_t (i := 535) rfl (by decide +kernel), by decide +kernel, by decide +kernel, by decide +kernel, by decide +kernel⟩
set_option maxRecDepth 100000 in
theorem my_W_synthesise : xa_my xP 57 2 := ⟨xw_t (i := 538) rfl (by decide +kernel), by decide +kernel, by decide +kernel, by decide +kernel, by decide +kernel⟩
set_option maxRecDepth 100000 in
theorem my_CG_synthesise : xa_my xP 58 0 := ⟨xw_t (i := 543) rfl (by decide +kernel), by decide +kernel, by decide +kernel, by decide +kernel, by decide +kernel⟩
set_option maxRecDepth 100000 in
theorem my_CG_requireFine : xa_my xP 59 0 := ⟨xw_t (i := 547) rfl (by decide +kernel), by decide +kernel, by decide +kernel, by decide +kernel, by decide +kernel⟩
set_option maxRecDepth 100000 in
theorem my_CG_makeDraft : xa_my xP 60 1 := ⟨xw_t (i := 552) rfl (by decide +kernel), by decide +kernel, by decide +kernel, by decide +kernel, by decide +kernel⟩
set_option maxRecDepth 100000 in
theorem my_G_codesWithNext : xa_my xP 61 2 := ⟨xw_t (i := 558) rfl (by decide +kernel), by decide +kernel, by decide +kernel, by decide +kernel, by decide +kernel⟩
set_option maxRecDepth 100000 in
theorem my_G_isExcited : xa_my xP 62 2 := ⟨xw_t (i := 562) rfl (by decide +kernel), by decide +kernel, by decide +kernel, by decide +kernel, by decide +kernel⟩
set_option maxRecDepth 100000 in
theorem my_L_find : xa_my xP 63 3 := ⟨xw_t (i := 566) rfl (by decide +kernel), by decide +kernel, by decide +kernel, by decide +kernel, by decide +kernel⟩
set_option maxRecDepth 100000 in
theorem my_L_collectPrimes : xa_my xP 64 3 := ⟨xw_t (i := 570) rfl (by decide +kernel), by decide +kernel, by decide +kernel, by decide +kernel, by decide +kernel⟩
set_option maxRecDepth 100000 in
theorem my_L_isPrime : xa_my xP 65 3 := ⟨xw_t (i := 574) rfl (by decide +kernel), by decide +kernel, by decide +kernel, by decide +kernel, by decide +kernel⟩
set_option maxRecDepth 100000 in
theorem my_L_digit : xa_my xP 66 2 := ⟨xw_t (i := 577) rfl (by decide +kernel), by decide +kernel, by decide +kernel, by decide +kernel, by decide +kernel⟩
set_option maxRecDepth 100000 in
theorem my_L_fixedDigits : xa_my xP 67 2 := ⟨xw_t (i := 580) rfl (by decide +kernel), by decide +kernel, by decide +kernel, by decide +kernel, by decide +kernel⟩
set_option maxRecDepth 100000 in
theorem my_JI_bitCount : xa_my xP 68 1 := ⟨xw_t (i := 583) rfl (by decide +kernel), by decide +kernel, by decide +kernel, by decide +kernel, by decide +kernel⟩
set_option maxRecDepth 100000 in
theorem my_L_countRivals : xa_my xP 69 0 := ⟨xw_t (i := 593) rfl (by decide +kernel), by decide +kernel, by decide +kernel, by decide +kernel, by decide +kernel⟩
set_option maxRecDepth 100000 in
theorem my_L_search : xa_my xP 70 4 := ⟨xw_t (i := 596) rfl (by decide +kernel), by decide +kernel, by decide +kernel, by decide +kernel, by decide +kernel⟩
set_option maxRecDepth 100000 in
theorem my_L_keepIfLess : xa_my xP 71 1 := ⟨xw_t (i := 600) rfl (by decide +kernel), by decide +kernel, by decide +kernel, by decide +kernel, by decide +kernel⟩
set_option maxRecDepth 100000 in
theorem my_L_takenComesFirst : xa_my xP 72 0 := ⟨xw_t (i := 604) rfl (by decide +kernel), by decide +kernel, by decide +kernel, by decide +kernel, by decide +kernel⟩
set_option maxRecDepth 100000 in
theorem my_L_leastCostOf : xa_my xP 73 1 := ⟨xw_t (i := 608) rfl (by decide +kernel), by decide +kernel, by decide +kernel, by decide +kernel, by decide +kernel⟩
set_option maxRecDepth 100000 in
theorem my_L_codeWithFewestRivals : xa_my xP 74 1 := ⟨xw_t (i := 612) rfl (by decide +kernel), by decide +kernel, by decide +kernel, by decide +kernel, by decide +kernel⟩
set_option maxRecDepth 100000 in
theorem my_L_liftBars : xa_my xP 75 1 := ⟨xw_t (i := 616) rfl (by decide +kernel), by decide +kernel, by decide +kernel, by decide +kernel, by decide +kernel⟩
set_option maxRecDepth 100000 in
theorem my_L_giveTo : xa_my xP 76 1 := ⟨xw_t (i := 620) rfl (by decide +kernel), by decide +kernel, by decide +kernel, by decide +kernel, by decide +kernel⟩
set_option maxRecDepth 100000 in
theorem my_Ga_add : xa_my xP 77 2 := ⟨xw_t (i := 624) rfl (by decide +kernel), by decide +kernel, by decide +kernel, by decide +kernel, by decide +kernel⟩
set_option maxRecDepth 100000 in
theorem my_Ci_adoptDrafts : xa_my xP 78 0 := ⟨xw_t (i := 644) rfl (by decide +kernel), by decide +kernel, by decide +kernel, by decide +kernel, by decide +kernel⟩
set_option maxRecDepth 100000 in
theorem my_W_products : xa_my xP 79 3 := ⟨xw_t (i := 647) rfl (by decide +kernel), by decide +kernel, by decide +kernel, by decide +kernel, by decide +kernel⟩
set_option maxRecDepth 100000 in
theorem my_CG_products : xa_my xP 80 1 := ⟨xw_t (i := 651) rfl (by decide +kernel), by decide +kernel, by decide +kernel, by decide +kernel, by decide +kernel⟩
set_option maxRecDepth 100000 in
theorem my_W_product : xa_my xP 81 4 := ⟨xw_t (i := 654) rfl (by decide +kernel), by decide +kernel, by decide +kernel, by decide +kernel, by decide +kernel⟩
set_option maxRecDepth 100000 in
theorem my_CG_product : xa_my xP 82 2 := ⟨xw_t (i := 658) rfl (by decide +kernel), by decide +kernel, by decide +kernel, by decide +kernel, by decide +kernel⟩
set_option maxRecDepth 100000 in
theorem my_W_append : xa_my xP 83 4 := ⟨xw_t (i := 662) rfl (by decide +kernel), by decide +kernel, by decide +kernel, by decide +kernel, by decide +kernel⟩
set_option maxRecDepth 100000 in
theorem my_CG_append : xa_my xP 84 2 := ⟨xw_t (i := 666) rfl (by decide +kernel), by decide +kernel, by decide +kernel, by decide +kernel, by decide +kernel⟩
set_option maxRecDepth 100000 in
theorem my_L_spanOf : xa_my xP 85 1 := ⟨xw_t (i := 674) rfl (by decide +kernel), by decide +kernel, by decide +kernel, by decide +kernel, by decide +kernel⟩
set_option maxRecDepth 100000 in
theorem my_W_strip : xa_my xP 86 2 := ⟨xw_t (i := 678) rfl (by decide +kernel), by decide +kernel, by decide +kernel, by decide +kernel, by decide +kernel⟩
set_option maxRecDepth 100000 in
theorem my_CG_strip : xa_my xP 87 1 := ⟨xw_t (i := 682) rfl (by decide +kernel), by decide +kernel, by decide +kernel, by decide +kernel, by decide +kernel⟩
set_option maxRecDepth 100000 in
theorem my_W_value : xa_my xP 88 4 := ⟨xw_t (i := 685) rfl (by decide +kernel), by decide +kernel, by decide +kernel, by decide +kernel, by decide +kernel⟩
set_option maxRecDepth 100000 in
theorem my_CG_value : xa_my xP 89 2 := ⟨xw_t (i := 689) rfl (by decide +kernel), by decide +kernel, by decide +kernel, by decide +kernel, by decide +kernel⟩
set_option maxRecDepth 100000 in
theorem my_Ga_output : xa_my xP 90 1 := ⟨xw_t (i := 694) rfl (by decide +kernel), by decide +kernel, by decide +kernel, by decide +kernel, by decide +kernel⟩
set_option maxRecDepth 100000 in
theorem my_W_check : xa_my xP 91 2 := ⟨xw_t (i := 697) rfl (by decide +kernel), by decide +kernel, by decide +kernel, by decide +kernel, by decide +kernel⟩
set_option maxRecDepth 100000 in
theorem my_CG_check : xa_my xP 92 0 := ⟨xw_t (i := 701) rfl (by decide +kernel), by decide +kernel, by decide +kernel, by decide +kernel, by decide +kernel⟩
set_option maxRecDepth 100000 in
theorem my_Ci_explore : xa_my xP 93 2 := ⟨xw_t (i := 705) rfl (by decide +kernel), by decide +kernel, by decide +kernel, by decide +kernel, by decide +kernel⟩
set_option maxRecDepth 100000 in
theorem my_Ci_reachStates : xa_my xP 94 2 := ⟨xw_t (i := 709) rfl (by decide +kernel), by decide +kernel, by decide +kernel, by decide +kernel, by decide +kernel⟩
set_option maxRecDepth 100000 in
theorem my_Ci_reach : xa_my xP 95 1 := ⟨xw_t (i := 713) rfl (by decide +kernel), by decide +kernel, by decide +kernel, by decide +kernel, by decide +kernel⟩
set_option maxRecDepth 100000 in
theorem my_Ci_mayFire : xa_my xP 96 4 := ⟨xw_t (i := 717) rfl (by decide +kernel), by decide +kernel, by decide +kernel, by decide +kernel, by decide +kernel⟩
set_option maxRecDepth 100000 in
theorem my_Ci_leastFaultyState : xa_my xP 97 3 := ⟨xw_t (i := 726) rfl (by decide +kernel), by decide +kernel, by decide +kernel, by decide +kernel, by decide +kernel⟩
set_option maxRecDepth 100000 in
theorem my_Ci_isFaulty : xa_my xP 98 5 := ⟨xw_t (i := 730) rfl (by decide +kernel), by decide +kernel, by decide +kernel, by decide +kernel, by decide +kernel⟩
set_option maxRecDepth 100000 in
theorem my_Ci_acts : xa_my xP 99 2 := ⟨xw_t (i := 734) rfl (by decide +kernel), by decide +kernel, by decide +kernel, by decide +kernel, by decide +kernel⟩
set_option maxRecDepth 100000 in
theorem my_Ci_mayStopActing : xa_my xP 100 4 := ⟨xw_t (i := 738) rfl (by decide +kernel), by decide +kernel, by decide +kernel, by decide +kernel, by decide +kernel⟩
set_option maxRecDepth 100000 in
theorem my_M_init : xa_my xP 101 0 := ⟨xw_t (i := 744) rfl (by decide +kernel), by decide +kernel, by decide +kernel, by decide +kernel, by decide +kernel⟩
set_option maxRecDepth 100000 in
theorem my_M_thrown : xa_my xP 102 0 := ⟨xw_t (i := 840) rfl (by decide +kernel), by decide +kernel, by decide +kernel, by decide +kernel, by decide +kernel⟩
set_option maxRecDepth 100000 in
theorem my_M_signal : xa_my xP 103 2 := ⟨xw_t (i := 844) rfl (by decide +kernel), by decide +kernel, by decide +kernel, by decide +kernel, by decide +kernel⟩
set_option maxRecDepth 100000 in
theorem my_M_discard : xa_my xP 104 0 := ⟨xw_t (i := 848) rfl (by decide +kernel), by decide +kernel, by decide +kernel, by decide +kernel, by decide +kernel⟩
set_option maxRecDepth 100000 in
theorem my_M_edge : xa_my xP 105 2 := ⟨xw_t (i := 852) rfl (by decide +kernel), by decide +kernel, by decide +kernel, by decide +kernel, by decide +kernel⟩
set_option maxRecDepth 100000 in
theorem my_M_noSignal : xa_my xP 106 1 := ⟨xw_t (i := 856) rfl (by decide +kernel), by decide +kernel, by decide +kernel, by decide +kernel, by decide +kernel⟩
set_option maxRecDepth 100000 in
theorem my_M_place : xa_my xP 107 1 := ⟨xw_t (i := 860) rfl (by decide +kernel), by decide +kernel, by decide +kernel, by decide +kernel, by decide +kernel⟩
set_option maxRecDepth 100000 in
theorem my_M_arc : xa_my xP 108 3 := ⟨xw_t (i := 864) rfl (by decide +kernel), by decide +kernel, by decide +kernel, by decide +kernel, by decide +kernel⟩
set_option maxRecDepth 100000 in
theorem my_M_analyse : xa_my xP 109 0 := ⟨xw_t (i := 868) rfl (by decide +kernel), by decide +kernel, by decide +kernel, by decide +kernel, by decide +kernel⟩
set_option maxRecDepth 100000 in
theorem my_M_explore : xa_my xP 110 0 := ⟨xw_t (i := 872) rfl (by decide +kernel), by decide +kernel, by decide +kernel, by decide +kernel, by decide +kernel⟩
set_option maxRecDepth 100000 in
theorem my_M_enabled : xa_my xP 111 2 := ⟨xw_t (i := 876) rfl (by decide +kernel), by decide +kernel, by decide +kernel, by decide +kernel, by decide +kernel⟩
set_option maxRecDepth 100000 in
theorem my_M_safe : xa_my xP 112 2 := ⟨xw_t (i := 880) rfl (by decide +kernel), by decide +kernel, by decide +kernel, by decide +kernel, by decide +kernel⟩
set_option maxRecDepth 100000 in
theorem my_M_right : xa_my xP 113 2 := ⟨xw_t (i := 884) rfl (by decide +kernel), by decide +kernel, by decide +kernel, by decide +kernel, by decide +kernel⟩
set_option maxRecDepth 100000 in
theorem my_M_markAfter : xa_my xP 114 2 := ⟨xw_t (i := 888) rfl (by decide +kernel), by decide +kernel, by decide +kernel, by decide +kernel, by decide +kernel⟩
set_option maxRecDepth 100000 in
theorem my_M_codeAfter : xa_my xP 115 2 := ⟨xw_t (i := 892) rfl (by decide +kernel), by decide +kernel, by decide +kernel, by decide +kernel, by decide +kernel⟩
set_option maxRecDepth 100000 in
theorem my_M_find : xa_my xP 116 2 := ⟨xw_t (i := 896) rfl (by decide +kernel), by decide +kernel, by decide +kernel, by decide +kernel, by decide +kernel⟩
set_option maxRecDepth 100000 in
theorem my_M_bad : xa_my xP 117 2 := ⟨xw_t (i := 900) rfl (by decide +kernel), by decide +kernel, by decide +kernel, by decide +kernel, by decide +kernel⟩
set_option maxRecDepth 100000 in
theorem my_M_loses : xa_my xP 118 1 := ⟨xw_t (i := 904) rfl (by decide +kernel), by decide +kernel, by decide +kernel, by decide +kernel, by decide +kernel⟩
set_option maxRecDepth 100000 in
theorem my_M_sameEdge : xa_my xP 119 2 := ⟨xw_t (i := 908) rfl (by decide +kernel), by decide +kernel, by decide +kernel, by decide +kernel, by decide +kernel⟩
set_option maxRecDepth 100000 in
theorem my_M_edgeEnabled : xa_my xP 120 2 := ⟨xw_t (i := 912) rfl (by decide +kernel), by decide +kernel, by decide +kernel, by decide +kernel, by decide +kernel⟩
set_option maxRecDepth 100000 in
theorem my_M_conflicts : xa_my xP 121 1 := ⟨xw_t (i := 916) rfl (by decide +kernel), by decide +kernel, by decide +kernel, by decide +kernel, by decide +kernel⟩
set_option maxRecDepth 100000 in
theorem my_M_excitedIn : xa_my xP 122 1 := ⟨xw_t (i := 920) rfl (by decide +kernel), by decide +kernel, by decide +kernel, by decide +kernel, by decide +kernel⟩
set_option maxRecDepth 100000 in
theorem my_M_states : xa_my xP 123 0 := ⟨xw_t (i := 924) rfl (by decide +kernel), by decide +kernel, by decide +kernel, by decide +kernel, by decide +kernel⟩
set_option maxRecDepth 100000 in
theorem my_M_noGraph : xa_my xP 124 0 := ⟨xw_t (i := 928) rfl (by decide +kernel), by decide +kernel, by decide +kernel, by decide +kernel, by decide +kernel⟩
set_option maxRecDepth 100000 in
theorem my_M_code : xa_my xP 125 1 := ⟨xw_t (i := 932) rfl (by decide +kernel), by decide +kernel, by decide +kernel, by decide +kernel, by decide +kernel⟩
set_option maxRecDepth 100000 in
theorem my_M_noState : xa_my xP 126 1 := ⟨xw_t (i := 936) rfl (by decide +kernel), by decide +kernel, by decide +kernel, by decide +kernel, by decide +kernel⟩
set_option maxRecDepth 100000 in
theorem my_M_marking : xa_my xP 127 1 := ⟨xw_t (i := 940) rfl (by decide +kernel), by decide +kernel, by decide +kernel, by decide +kernel, by decide +kernel⟩
set_option maxRecDepth 100000 in
theorem my_M_found : xa_my xP 128 1 := ⟨xw_t (i := 944) rfl (by decide +kernel), by decide +kernel, by decide +kernel, by decide +kernel, by decide +kernel⟩
set_option maxRecDepth 100000 in
theorem my_M_excited : xa_my xP 129 1 := ⟨xw_t (i := 948) rfl (by decide +kernel), by decide +kernel, by decide +kernel, by decide +kernel, by decide +kernel⟩
set_option maxRecDepth 100000 in
theorem my_M_fault : xa_my xP 130 0 := ⟨xw_t (i := 952) rfl (by decide +kernel), by decide +kernel, by decide +kernel, by decide +kernel, by decide +kernel⟩
set_option maxRecDepth 100000 in
theorem my_M_synthesise : xa_my xP 131 0 := ⟨xw_t (i := 956) rfl (by decide +kernel), by decide +kernel, by decide +kernel, by decide +kernel, by decide +kernel⟩
set_option maxRecDepth 100000 in
theorem my_M_leastSum : xa_my xP 132 1 := ⟨xw_t (i := 960) rfl (by decide +kernel), by decide +kernel, by decide +kernel, by decide +kernel, by decide +kernel⟩
set_option maxRecDepth 100000 in
theorem my_M_codesOf : xa_my xP 133 2 := ⟨xw_t (i := 964) rfl (by decide +kernel), by decide +kernel, by decide +kernel, by decide +kernel, by decide +kernel⟩
set_option maxRecDepth 100000 in
theorem my_M_tabulate : xa_my xP 134 1 := ⟨xw_t (i := 968) rfl (by decide +kernel), by decide +kernel, by decide +kernel, by decide +kernel, by decide +kernel⟩
set_option maxRecDepth 100000 in
theorem my_M_three : xa_my xP 135 1 := ⟨xw_t (i := 971) rfl (by decide +kernel), by decide +kernel, by decide +kernel, by decide +kernel, by decide +kernel⟩
set_option maxRecDepth 100000 in
theorem my_M_covers : xa_my xP 136 2 := ⟨xw_t (i := 975) rfl (by decide +kernel), by decide +kernel, by decide +kernel, by decide +kernel, by decide +kernel⟩
set_option maxRecDepth 100000 in
theorem my_M_tryCovers : xa_my xP 137 2 := ⟨xw_t (i := 979) rfl (by decide +kernel), by decide +kernel, by decide +kernel, by decide +kernel, by decide +kernel⟩
set_option maxRecDepth 100000 in
theorem my_M_open : xa_my xP 138 2 := ⟨xw_t (i := 982) rfl (by decide +kernel), by decide +kernel, by decide +kernel, by decide +kernel, by decide +kernel⟩
set_option maxRecDepth 100000 in
theorem my_M_nextPrime : xa_my xP 139 2 := ⟨xw_t (i := 986) rfl (by decide +kernel), by decide +kernel, by decide +kernel, by decide +kernel, by decide +kernel⟩
set_option maxRecDepth 100000 in
theorem my_M_judge : xa_my xP 140 1 := ⟨xw_t (i := 990) rfl (by decide +kernel), by decide +kernel, by decide +kernel, by decide +kernel, by decide +kernel⟩
set_option maxRecDepth 100000 in
theorem my_M_digits : xa_my xP 141 1 := ⟨xw_t (i := 994) rfl (by decide +kernel), by decide +kernel, by decide +kernel, by decide +kernel, by decide +kernel⟩
set_option maxRecDepth 100000 in
theorem my_M_products : xa_my xP 142 1 := ⟨xw_t (i := 998) rfl (by decide +kernel), by decide +kernel, by decide +kernel, by decide +kernel, by decide +kernel⟩
set_option maxRecDepth 100000 in
theorem my_M_product : xa_my xP 143 2 := ⟨xw_t (i := 1002) rfl (by decide +kernel), by decide +kernel, by decide +kernel, by decide +kernel, by decide +kernel⟩
set_option maxRecDepth 100000 in
theorem my_M_append : xa_my xP 144 2 := ⟨xw_t (i := 1006) rfl (by decide +kernel), by decide +kernel, by decide +kernel, by decide +kernel, by decide +kernel⟩
set_option maxRecDepth 100000 in
theorem my_M_strip : xa_my xP 145 1 := ⟨xw_t (i := 1010) rfl (by decide +kernel), by decide +kernel, by decide +kernel, by decide +kernel, by decide +kernel⟩
set_option maxRecDepth 100000 in
theorem my_M_value : xa_my xP 146 2 := ⟨xw_t (i := 1014) rfl (by decide +kernel), by decide +kernel, by decide +kernel, by decide +kernel, by decide +kernel⟩
set_option maxRecDepth 100000 in
theorem my_M_valueOf : xa_my xP 147 2 := ⟨xw_t (i := 1018) rfl (by decide +kernel), by decide +kernel, by decide +kernel, by decide +kernel, by decide +kernel⟩
set_option maxRecDepth 100000 in
theorem my_M_check : xa_my xP 148 0 := ⟨xw_t (i := 1022) rfl (by decide +kernel), by decide +kernel, by decide +kernel, by decide +kernel, by decide +kernel⟩
set_option maxRecDepth 100000 in
theorem my_M_comeTo : xa_my xP 149 0 := ⟨xw_t (i := 1026) rfl (by decide +kernel), by decide +kernel, by decide +kernel, by decide +kernel, by decide +kernel⟩
set_option maxRecDepth 100000 in
theorem my_M_fires : xa_my xP 150 2 := ⟨xw_t (i := 1030) rfl (by decide +kernel), by decide +kernel, by decide +kernel, by decide +kernel, by decide +kernel⟩
set_option maxRecDepth 100000 in
theorem my_M_acts : xa_my xP 151 2 := ⟨xw_t (i := 1034) rfl (by decide +kernel), by decide +kernel, by decide +kernel, by decide +kernel, by decide +kernel⟩
set_option maxRecDepth 100000 in
theorem my_M_hazard : xa_my xP 152 1 := ⟨xw_t (i := 1038) rfl (by decide +kernel), by decide +kernel, by decide +kernel, by decide +kernel, by decide +kernel⟩
set_option maxRecDepth 100000 in
theorem my_M_unexpected : xa_my xP 153 1 := ⟨xw_t (i := 1042) rfl (by decide +kernel), by decide +kernel, by decide +kernel, by decide +kernel, by decide +kernel⟩
set_option maxRecDepth 100000 in
theorem my_M_missing : xa_my xP 154 1 := ⟨xw_t (i := 1046) rfl (by decide +kernel), by decide +kernel, by decide +kernel, by decide +kernel, by decide +kernel⟩
theorem ki_CG_9 : xa_lkI xP "ClocklessGates" 9 1 0 := ⟨Or.inr ⟨"ClocklessGates", xw_t (i := 27) (by decide +kernel) (by decide +kernel)⟩, xw_t (i := 28) (by decide +kernel) (by decide +kernel), rfl, rfl, rfl, my_N_init, by decide +kernel⟩
theorem fg_CG_10 : xa_fld xP "ClocklessGates" 10 0 0 := ⟨_, _, _, _, k_CG, by decide, Or.inl (xw_t (i := 216) (by decide +kernel) (by decide +kernel))⟩
theorem ff_CG_10 : xa_fldF xP "ClocklessGates" 10 0 0 (.object "ClocklessGates$Net") := ⟨_, _, _, _, k_CG, by decide, rfl, rfl, rfl, xw_t (i := 216) (by decide +kernel) (by decide +kernel)⟩
theorem ki_CG_18 : xa_lkI xP "ClocklessGates" 18 2 0 := ⟨Or.inr ⟨"ClocklessGates", xw_t (i := 78) (by decide +kernel) (by decide +kernel)⟩, xw_t (i := 79) (by decide +kernel) (by decide +kernel), rfl, rfl, rfl, my_G_init, by decide +kernel⟩
theorem fg_CG_19 : xa_fld xP "ClocklessGates" 19 0 1 := ⟨_, _, _, _, k_CG, by decide, Or.inl (xw_t (i := 217) (by decide +kernel) (by decide +kernel))⟩
theorem ff_CG_19 : xa_fldF xP "ClocklessGates" 19 0 1 (.object "ClocklessGates$Graph") := ⟨_, _, _, _, k_CG, by decide, rfl, rfl, rfl, xw_t (i := 217) (by decide +kernel) (by decide +kernel)⟩
theorem ki_CG_25 : xa_lkI xP "ClocklessGates" 25 3 0 := ⟨Or.inl (xw_t (i := 126) (by decide +kernel) (by decide +kernel)), xw_t (i := 127) (by decide +kernel) (by decide +kernel), rfl, rfl, rfl, my_Ci_init, by decide +kernel⟩
theorem fg_CG_26 : xa_fld xP "ClocklessGates" 26 0 2 := ⟨_, _, _, _, k_CG, by decide, Or.inl (xw_t (i := 218) (by decide +kernel) (by decide +kernel))⟩
theorem ff_CG_26 : xa_fldF xP "ClocklessGates" 26 0 2 (.object "ClocklessGates$Circuit") := ⟨_, _, _, _, k_CG, by decide, rfl, rfl, rfl, xw_t (i := 218) (by decide +kernel) (by decide +kernel)⟩
theorem ki_CG_32 : xa_lkI xP "ClocklessGates" 32 5 0 := ⟨Or.inl (xw_t (i := 173) (by decide +kernel) (by decide +kernel)), xw_t (i := 174) (by decide +kernel) (by decide +kernel), rfl, rfl, rfl, my_L_init, by decide +kernel⟩
theorem fg_CG_33 : xa_fld xP "ClocklessGates" 33 0 3 := ⟨_, _, _, _, k_CG, by decide, Or.inl (xw_t (i := 219) (by decide +kernel) (by decide +kernel))⟩
theorem ff_CG_33 : xa_fldF xP "ClocklessGates" 33 0 3 (.object "ClocklessGates$LeastSum") := ⟨_, _, _, _, k_CG, by decide, rfl, rfl, rfl, xw_t (i := 219) (by decide +kernel) (by decide +kernel)⟩
theorem fg_CG_37 : xa_fld xP "ClocklessGates" 37 0 4 := ⟨_, _, _, _, k_CG, by decide, Or.inl (xw_t (i := 220) (by decide +kernel) (by decide +kernel))⟩
theorem fp_CG_37 : xa_fldP xP "ClocklessGates" 37 0 4 (.int) := ⟨_, _, _, _, k_CG, by decide, rfl, rfl, Or.inl (xw_t (i := 220) (by decide +kernel) (by decide +kernel))⟩
theorem fg_CG_41 : xa_fld xP "ClocklessGates" 41 0 5 := ⟨_, _, _, _, k_CG, by decide, Or.inl (xw_t (i := 221) (by decide +kernel) (by decide +kernel))⟩
theorem fp_CG_41 : xa_fldP xP "ClocklessGates" 41 0 5 (.int) := ⟨_, _, _, _, k_CG, by decide, rfl, rfl, Or.inl (xw_t (i := 221) (by decide +kernel) (by decide +kernel))⟩
theorem fg_CG_44 : xa_fld xP "ClocklessGates" 44 1 0 := ⟨_, _, _, _, k_N, by decide, Or.inl (xw_t (i := 32) (by decide +kernel) (by decide +kernel))⟩
theorem kv_CG_54 : xa_lkV xP "ClocklessGates" 54 0 8 0 := ⟨Or.inl (xw_t (i := 239) (by decide +kernel) (by decide +kernel)), xw_t (i := 241) (by decide +kernel) (by decide +kernel), ⟨_, _, rfl⟩, xw_s (i := 0) (q := (⟨"ClocklessGates", "discardResults", "()V"⟩, 6)) (by decide +kernel) (by decide +kernel), my_CG_discardResults, by decide +kernel⟩
theorem kv_CG_57 : xa_lkV xP "ClocklessGates" 57 1 33 2 := ⟨Or.inl (xw_t (i := 408) (by decide +kernel) (by decide +kernel)), xw_t (i := 409) (by decide +kernel) (by decide +kernel), ⟨_, _, rfl⟩, xw_t (i := 410) (by decide +kernel) (by decide +kernel), my_N_addSignal, by decide +kernel⟩
theorem kv_CG_61 : xa_lkV xP "ClocklessGates" 61 0 36 1 := ⟨Or.inl (xw_t (i := 420) (by decide +kernel) (by decide +kernel)), xw_t (i := 422) (by decide +kernel) (by decide +kernel), ⟨_, _, rfl⟩, xw_s (i := 9) (q := (⟨"ClocklessGates", "requireSignal", "(I)V"⟩, 6)) (by decide +kernel) (by decide +kernel), my_CG_requireSignal, by decide +kernel⟩
theorem fg_CG_65 : xa_fld xP "ClocklessGates" 65 1 1 := ⟨_, _, _, _, k_N, by decide, Or.inl (xw_t (i := 35) (by decide +kernel) (by decide +kernel))⟩
theorem kv_CG_70 : xa_lkV xP "ClocklessGates" 70 1 37 2 := ⟨Or.inl (xw_t (i := 441) (by decide +kernel) (by decide +kernel)), xw_t (i := 442) (by decide +kernel) (by decide +kernel), ⟨_, _, rfl⟩, xw_t (i := 443) (by decide +kernel) (by decide +kernel), my_N_addEdge, by decide +kernel⟩
theorem fg_CG_74 : xa_fld xP "ClocklessGates" 74 1 2 := ⟨_, _, _, _, k_N, by decide, Or.inl (xw_t (i := 38) (by decide +kernel) (by decide +kernel))⟩
theorem kv_CG_79 : xa_lkV xP "ClocklessGates" 79 1 40 1 := ⟨Or.inl (xw_t (i := 453) (by decide +kernel) (by decide +kernel)), xw_t (i := 454) (by decide +kernel) (by decide +kernel), ⟨_, _, rfl⟩, xw_t (i := 455) (by decide +kernel) (by decide +kernel), my_N_addPlace, by decide +kernel⟩
theorem kv_CG_90 : xa_lkV xP "ClocklessGates" 90 1 43 3 := ⟨Or.inl (xw_t (i := 467) (by decide +kernel) (by decide +kernel)), xw_t (i := 468) (by decide +kernel) (by decide +kernel), ⟨_, _, rfl⟩, xw_t (i := 469) (by decide +kernel) (by decide +kernel), my_N_hasArc, by decide +kernel⟩
theorem kv_CG_99 : xa_lkV xP "ClocklessGates" 99 1 44 3 := ⟨Or.inl (xw_t (i := 487) (by decide +kernel) (by decide +kernel)), xw_t (i := 488) (by decide +kernel) (by decide +kernel), ⟨_, _, rfl⟩, xw_t (i := 489) (by decide +kernel) (by decide +kernel), my_N_addArc, by decide +kernel⟩
theorem kv_CG_103 : xa_lkV xP "ClocklessGates" 103 2 11 1 := ⟨Or.inl (xw_t (i := 251) (by decide +kernel) (by decide +kernel)), xw_t (i := 252) (by decide +kernel) (by decide +kernel), ⟨_, _, rfl⟩, xw_t (i := 253) (by decide +kernel) (by decide +kernel), my_G_build, by decide +kernel⟩
theorem kv_CG_107 : xa_lkV xP "ClocklessGates" 107 2 25 1 := ⟨Or.inl (xw_t (i := 307) (by decide +kernel) (by decide +kernel)), xw_t (i := 308) (by decide +kernel) (by decide +kernel), ⟨_, _, rfl⟩, xw_t (i := 309) (by decide +kernel) (by decide +kernel), my_G_judge, by decide +kernel⟩
theorem fg_CG_111 : xa_fld xP "ClocklessGates" 111 2 1 := ⟨_, _, _, _, k_G, by decide, Or.inl (xw_t (i := 85) (by decide +kernel) (by decide +kernel))⟩
theorem kv_CG_114 : xa_lkV xP "ClocklessGates" 114 0 47 0 := ⟨Or.inl (xw_t (i := 498) (by decide +kernel) (by decide +kernel)), xw_t (i := 500) (by decide +kernel) (by decide +kernel), ⟨_, _, rfl⟩, xw_s (i := 10) (q := (⟨"ClocklessGates", "requireGraph", "()V"⟩, 6)) (by decide +kernel) (by decide +kernel), my_CG_requireGraph, by decide +kernel⟩
theorem fg_CG_117 : xa_fld xP "ClocklessGates" 117 2 0 := ⟨_, _, _, _, k_G, by decide, Or.inl (xw_t (i := 83) (by decide +kernel) (by decide +kernel))⟩
theorem fp_CG_117 : xa_fldP xP "ClocklessGates" 117 2 0 (.int) := ⟨_, _, _, _, k_G, by decide, rfl, rfl, Or.inl (xw_t (i := 83) (by decide +kernel) (by decide +kernel))⟩
theorem kv_CG_120 : xa_lkV xP "ClocklessGates" 120 0 50 1 := ⟨Or.inl (xw_t (i := 510) (by decide +kernel) (by decide +kernel)), xw_t (i := 512) (by decide +kernel) (by decide +kernel), ⟨_, _, rfl⟩, xw_s (i := 11) (q := (⟨"ClocklessGates", "requireState", "(I)V"⟩, 6)) (by decide +kernel) (by decide +kernel), my_CG_requireState, by decide +kernel⟩
theorem fg_CG_123 : xa_fld xP "ClocklessGates" 123 2 3 := ⟨_, _, _, _, k_G, by decide, Or.inl (xw_t (i := 91) (by decide +kernel) (by decide +kernel))⟩
theorem fg_CG_127 : xa_fld xP "ClocklessGates" 127 2 2 := ⟨_, _, _, _, k_G, by decide, Or.inl (xw_t (i := 88) (by decide +kernel) (by decide +kernel))⟩
theorem fg_CG_130 : xa_fld xP "ClocklessGates" 130 2 4 := ⟨_, _, _, _, k_G, by decide, Or.inl (xw_t (i := 93) (by decide +kernel) (by decide +kernel))⟩
theorem fg_CG_133 : xa_fld xP "ClocklessGates" 133 2 5 := ⟨_, _, _, _, k_G, by decide, Or.inl (xw_t (i := 95) (by decide +kernel) (by decide +kernel))⟩
theorem kv_CG_136 : xa_lkV xP "ClocklessGates" 136 0 59 0 := ⟨Or.inl (xw_t (i := 544) (by decide +kernel) (by decide +kernel)), xw_t (i := 546) (by decide +kernel) (by decide +kernel), ⟨_, _, rfl⟩, xw_s (i := 12) (q := (⟨"ClocklessGates", "requireFine", "()V"⟩, 6)) (by decide +kernel) (by decide +kernel), my_CG_requireFine, by decide +kernel⟩
theorem kv_CG_139 : xa_lkV xP "ClocklessGates" 139 0 60 1 := ⟨Or.inl (xw_t (i := 549) (by decide +kernel) (by decide +kernel)), xw_t (i := 551) (by decide +kernel) (by decide +kernel), ⟨_, _, rfl⟩, xw_s (i := 13) (q := (⟨"ClocklessGates", "makeDraft", "(I)Z"⟩, 6)) (by decide +kernel) (by decide +kernel), my_CG_makeDraft, by decide +kernel⟩
theorem fg_CG_148 : xa_fld xP "ClocklessGates" 148 3 2 := ⟨_, _, _, _, k_Ci, by decide, Or.inl (xw_t (i := 154) (by decide +kernel) (by decide +kernel))⟩
theorem fg_CG_152 : xa_fld xP "ClocklessGates" 152 4 0 := ⟨_, _, _, _, k_Ga, by decide, Or.inl (xw_t (i := 138) (by decide +kernel) (by decide +kernel))⟩
theorem kv_CG_155 : xa_lkV xP "ClocklessGates" 155 3 78 0 := ⟨Or.inl (xw_t (i := 641) (by decide +kernel) (by decide +kernel)), xw_t (i := 642) (by decide +kernel) (by decide +kernel), ⟨_, _, rfl⟩, xw_t (i := 643) (by decide +kernel) (by decide +kernel), my_Ci_adoptDrafts, by decide +kernel⟩
theorem fg_CG_158 : xa_fld xP "ClocklessGates" 158 3 1 := ⟨_, _, _, _, k_Ci, by decide, Or.inl (xw_t (i := 152) (by decide +kernel) (by decide +kernel))⟩
theorem fg_CG_163 : xa_fld xP "ClocklessGates" 163 4 1 := ⟨_, _, _, _, k_Ga, by decide, Or.inl (xw_t (i := 140) (by decide +kernel) (by decide +kernel))⟩
theorem kv_CG_166 : xa_lkV xP "ClocklessGates" 166 1 19 1 := ⟨Or.inl (xw_t (i := 554) (by decide +kernel) (by decide +kernel)), xw_t (i := 284) (by decide +kernel) (by decide +kernel), ⟨_, _, rfl⟩, xw_t (i := 285) (by decide +kernel) (by decide +kernel), my_N_isInput, by decide +kernel⟩
theorem gs_CG_171 : Cond.fieldLink "ClocklessGates" 171 xP.2.2.2.1 xP.2.2.2.2.1 "[I" ∈ xP.2.2.1 ∨ ∃ host, Cond.fieldLinkNest "ClocklessGates" 171 xP.2.2.2.1 xP.2.2.2.2.1 "[I" host ∈ xP.2.2.1 := Or.inl (xw_t (i := 668) (by decide +kernel) (by decide +kernel))
theorem kv_CG_178 : xa_lkV xP "ClocklessGates" 178 5 85 1 := ⟨Or.inl (xw_t (i := 671) (by decide +kernel) (by decide +kernel)), xw_t (i := 672) (by decide +kernel) (by decide +kernel), ⟨_, _, rfl⟩, xw_t (i := 673) (by decide +kernel) (by decide +kernel), my_L_spanOf, by decide +kernel⟩
theorem kv_CG_182 : xa_lkV xP "ClocklessGates" 182 4 77 2 := ⟨Or.inl (xw_t (i := 675) (by decide +kernel) (by decide +kernel)), xw_t (i := 622) (by decide +kernel) (by decide +kernel), ⟨_, _, rfl⟩, xw_t (i := 623) (by decide +kernel) (by decide +kernel), my_Ga_add, by decide +kernel⟩
theorem kv_CG_186 : xa_lkV xP "ClocklessGates" 186 4 10 0 := ⟨Or.inl (xw_t (i := 553) (by decide +kernel) (by decide +kernel)), xw_t (i := 248) (by decide +kernel) (by decide +kernel), ⟨_, _, rfl⟩, xw_t (i := 249) (by decide +kernel) (by decide +kernel), my_Ga_clear, by decide +kernel⟩
theorem kv_CG_191 : xa_lkV xP "ClocklessGates" 191 4 90 1 := ⟨Or.inl (xw_t (i := 691) (by decide +kernel) (by decide +kernel)), xw_t (i := 692) (by decide +kernel) (by decide +kernel), ⟨_, _, rfl⟩, xw_t (i := 693) (by decide +kernel) (by decide +kernel), my_Ga_output, by decide +kernel⟩
theorem kv_CG_194 : xa_lkV xP "ClocklessGates" 194 3 93 2 := ⟨Or.inl (xw_t (i := 702) (by decide +kernel) (by decide +kernel)), xw_t (i := 703) (by decide +kernel) (by decide +kernel), ⟨_, _, rfl⟩, xw_t (i := 704) (by decide +kernel) (by decide +kernel), my_Ci_explore, by decide +kernel⟩
theorem fg_CG_198 : xa_fld xP "ClocklessGates" 198 3 0 := ⟨_, _, _, _, k_Ci, by decide, Or.inl (xw_t (i := 150) (by decide +kernel) (by decide +kernel))⟩
theorem kv_CG_199 : xa_lkV xP "ClocklessGates" 199 2 61 2 := ⟨Or.inl (xw_t (i := 555) (by decide +kernel) (by decide +kernel)), xw_t (i := 556) (by decide +kernel) (by decide +kernel), ⟨_, _, rfl⟩, xw_t (i := 557) (by decide +kernel) (by decide +kernel), my_G_codesWithNext, by decide +kernel⟩
theorem kv_CG_202 : xa_lkV xP "ClocklessGates" 202 5 63 3 := ⟨Or.inl (xw_t (i := 563) (by decide +kernel) (by decide +kernel)), xw_t (i := 564) (by decide +kernel) (by decide +kernel), ⟨_, _, rfl⟩, xw_t (i := 565) (by decide +kernel) (by decide +kernel), my_L_find, by decide +kernel⟩
theorem kv_CG_206 : xa_lkV xP "ClocklessGates" 206 5 76 1 := ⟨Or.inl (xw_t (i := 617) (by decide +kernel) (by decide +kernel)), xw_t (i := 618) (by decide +kernel) (by decide +kernel), ⟨_, _, rfl⟩, xw_t (i := 619) (by decide +kernel) (by decide +kernel), my_L_giveTo, by decide +kernel⟩
theorem kv_CG_210 : xa_lkV xP "ClocklessGates" 210 3 9 0 := ⟨Or.inl (xw_t (i := 243) (by decide +kernel) (by decide +kernel)), xw_t (i := 244) (by decide +kernel) (by decide +kernel), ⟨_, _, rfl⟩, xw_t (i := 245) (by decide +kernel) (by decide +kernel), my_Ci_clear, by decide +kernel⟩
theorem fg_Ci_11 : xa_fld xP "ClocklessGates$Circuit" 11 3 1 := ⟨_, _, _, _, k_Ci, by decide, Or.inl (xw_t (i := 151) (by decide +kernel) (by decide +kernel))⟩
theorem ff_Ci_11 : xa_fldF xP "ClocklessGates$Circuit" 11 3 1 (.array (.object "ClocklessGates$Gate")) := ⟨_, _, _, _, k_Ci, by decide, rfl, rfl, rfl, xw_t (i := 151) (by decide +kernel) (by decide +kernel)⟩
theorem fg_Ci_17 : xa_fld xP "ClocklessGates$Circuit" 17 3 2 := ⟨_, _, _, _, k_Ci, by decide, Or.inl (xw_t (i := 153) (by decide +kernel) (by decide +kernel))⟩
theorem ff_Ci_17 : xa_fldF xP "ClocklessGates$Circuit" 17 3 2 (.array (.object "ClocklessGates$Gate")) := ⟨_, _, _, _, k_Ci, by decide, rfl, rfl, rfl, xw_t (i := 153) (by decide +kernel) (by decide +kernel)⟩
theorem fg_Ci_20 : xa_fld xP "ClocklessGates$Circuit" 20 3 3 := ⟨_, _, _, _, k_Ci, by decide, Or.inl (xw_t (i := 155) (by decide +kernel) (by decide +kernel))⟩
theorem ff_Ci_20 : xa_fldF xP "ClocklessGates$Circuit" 20 3 3 (.array .boolean) := ⟨_, _, _, _, k_Ci, by decide, rfl, rfl, rfl, xw_t (i := 155) (by decide +kernel) (by decide +kernel)⟩
theorem fg_Ci_24 : xa_fld xP "ClocklessGates$Circuit" 24 3 4 := ⟨_, _, _, _, k_Ci, by decide, Or.inl (xw_t (i := 156) (by decide +kernel) (by decide +kernel))⟩
theorem ff_Ci_24 : xa_fldF xP "ClocklessGates$Circuit" 24 3 4 (.array .int) := ⟨_, _, _, _, k_Ci, by decide, rfl, rfl, rfl, xw_t (i := 156) (by decide +kernel) (by decide +kernel)⟩
theorem ki_Ci_28 : xa_lkI xP "ClocklessGates$Circuit" 28 4 0 := ⟨Or.inr ⟨"ClocklessGates", xw_t (i := 133) (by decide +kernel) (by decide +kernel)⟩, xw_t (i := 134) (by decide +kernel) (by decide +kernel), rfl, rfl, rfl, my_Ga_init, by decide +kernel⟩
theorem kv_Ci_29 : xa_lkV xP "ClocklessGates$Circuit" 29 4 10 0 := ⟨Or.inl (xw_t (i := 247) (by decide +kernel) (by decide +kernel)), xw_t (i := 248) (by decide +kernel) (by decide +kernel), ⟨_, _, rfl⟩, xw_t (i := 249) (by decide +kernel) (by decide +kernel), my_Ga_clear, by decide +kernel⟩
theorem kv_Ci_32 : xa_lkV xP "ClocklessGates$Circuit" 32 3 94 2 := ⟨Or.inl (xw_t (i := 706) (by decide +kernel) (by decide +kernel)), xw_t (i := 708) (by decide +kernel) (by decide +kernel), ⟨_, _, rfl⟩, xw_s (i := 22) (q := (⟨"ClocklessGates$Circuit", "reachStates", "(LClocklessGates$Net;LClocklessGates$Graph;)V"⟩, 6)) (by decide +kernel) (by decide +kernel), my_Ci_reachStates, by decide +kernel⟩
theorem kv_Ci_36 : xa_lkV xP "ClocklessGates$Circuit" 36 3 97 3 := ⟨Or.inl (xw_t (i := 723) (by decide +kernel) (by decide +kernel)), xw_t (i := 725) (by decide +kernel) (by decide +kernel), ⟨_, _, rfl⟩, xw_s (i := 25) (q := (⟨"ClocklessGates$Circuit", "leastFaultyState", "(LClocklessGates$Net;LClocklessGates$Graph;I)I"⟩, 6)) (by decide +kernel) (by decide +kernel), my_Ci_leastFaultyState, by decide +kernel⟩
theorem fg_Ci_40 : xa_fld xP "ClocklessGates$Circuit" 40 3 0 := ⟨_, _, _, _, k_Ci, by decide, Or.inl (xw_t (i := 149) (by decide +kernel) (by decide +kernel))⟩
theorem fp_Ci_40 : xa_fldP xP "ClocklessGates$Circuit" 40 3 0 (.int) := ⟨_, _, _, _, k_Ci, by decide, rfl, rfl, Or.inl (xw_t (i := 149) (by decide +kernel) (by decide +kernel))⟩
theorem fg_Ci_44 : xa_fld xP "ClocklessGates$Circuit" 44 3 5 := ⟨_, _, _, _, k_Ci, by decide, Or.inl (xw_t (i := 157) (by decide +kernel) (by decide +kernel))⟩
theorem fp_Ci_44 : xa_fldP xP "ClocklessGates$Circuit" 44 3 5 (.int) := ⟨_, _, _, _, k_Ci, by decide, rfl, rfl, Or.inl (xw_t (i := 157) (by decide +kernel) (by decide +kernel))⟩
theorem kv_Ci_47 : xa_lkV xP "ClocklessGates$Circuit" 47 3 95 1 := ⟨Or.inl (xw_t (i := 710) (by decide +kernel) (by decide +kernel)), xw_t (i := 712) (by decide +kernel) (by decide +kernel), ⟨_, _, rfl⟩, xw_s (i := 23) (q := (⟨"ClocklessGates$Circuit", "reach", "(I)V"⟩, 6)) (by decide +kernel) (by decide +kernel), my_Ci_reach, by decide +kernel⟩
theorem fg_Ci_51 : xa_fld xP "ClocklessGates$Circuit" 51 1 1 := ⟨_, _, _, _, k_N, by decide, Or.inl (xw_t (i := 37) (by decide +kernel) (by decide +kernel))⟩
theorem kv_Ci_56 : xa_lkV xP "ClocklessGates$Circuit" 56 3 96 4 := ⟨Or.inl (xw_t (i := 714) (by decide +kernel) (by decide +kernel)), xw_t (i := 716) (by decide +kernel) (by decide +kernel), ⟨_, _, rfl⟩, xw_s (i := 24) (q := (⟨"ClocklessGates$Circuit", "mayFire", "(LClocklessGates$Net;LClocklessGates$Graph;II)Z"⟩, 6)) (by decide +kernel) (by decide +kernel), my_Ci_mayFire, by decide +kernel⟩
theorem kv_Ci_60 : xa_lkV xP "ClocklessGates$Circuit" 60 2 27 2 := ⟨Or.inl (xw_t (i := 718) (by decide +kernel) (by decide +kernel)), xw_t (i := 316) (by decide +kernel) (by decide +kernel), ⟨_, _, rfl⟩, xw_t (i := 317) (by decide +kernel) (by decide +kernel), my_G_successor, by decide +kernel⟩
theorem kv_Ci_66 : xa_lkV xP "ClocklessGates$Circuit" 66 1 18 1 := ⟨Or.inl (xw_t (i := 719) (by decide +kernel) (by decide +kernel)), xw_t (i := 280) (by decide +kernel) (by decide +kernel), ⟨_, _, rfl⟩, xw_t (i := 281) (by decide +kernel) (by decide +kernel), my_N_signalOf, by decide +kernel⟩
theorem kv_Ci_70 : xa_lkV xP "ClocklessGates$Circuit" 70 1 19 1 := ⟨Or.inl (xw_t (i := 720) (by decide +kernel) (by decide +kernel)), xw_t (i := 284) (by decide +kernel) (by decide +kernel), ⟨_, _, rfl⟩, xw_t (i := 285) (by decide +kernel) (by decide +kernel), my_N_isInput, by decide +kernel⟩
theorem fg_Ci_74 : xa_fld xP "ClocklessGates$Circuit" 74 2 3 := ⟨_, _, _, _, k_G, by decide, Or.inl (xw_t (i := 90) (by decide +kernel) (by decide +kernel))⟩
theorem kv_Ci_77 : xa_lkV xP "ClocklessGates$Circuit" 77 4 90 1 := ⟨Or.inl (xw_t (i := 721) (by decide +kernel) (by decide +kernel)), xw_t (i := 692) (by decide +kernel) (by decide +kernel), ⟨_, _, rfl⟩, xw_t (i := 693) (by decide +kernel) (by decide +kernel), my_Ga_output, by decide +kernel⟩
theorem kv_Ci_80 : xa_lkV xP "ClocklessGates$Circuit" 80 1 17 1 := ⟨Or.inl (xw_t (i := 722) (by decide +kernel) (by decide +kernel)), xw_t (i := 276) (by decide +kernel) (by decide +kernel), ⟨_, _, rfl⟩, xw_t (i := 277) (by decide +kernel) (by decide +kernel), my_N_levelAfter, by decide +kernel⟩
theorem fg_Ci_83 : xa_fld xP "ClocklessGates$Circuit" 83 2 0 := ⟨_, _, _, _, k_G, by decide, Or.inl (xw_t (i := 84) (by decide +kernel) (by decide +kernel))⟩
theorem fg_Ci_86 : xa_fld xP "ClocklessGates$Circuit" 86 1 0 := ⟨_, _, _, _, k_N, by decide, Or.inl (xw_t (i := 33) (by decide +kernel) (by decide +kernel))⟩
theorem kv_Ci_89 : xa_lkV xP "ClocklessGates$Circuit" 89 3 98 5 := ⟨Or.inl (xw_t (i := 727) (by decide +kernel) (by decide +kernel)), xw_t (i := 729) (by decide +kernel) (by decide +kernel), ⟨_, _, rfl⟩, xw_s (i := 26) (q := (⟨"ClocklessGates$Circuit", "isFaulty", "(LClocklessGates$Net;LClocklessGates$Graph;III)Z"⟩, 6)) (by decide +kernel) (by decide +kernel), my_Ci_isFaulty, by decide +kernel⟩
theorem kv_Ci_93 : xa_lkV xP "ClocklessGates$Circuit" 93 3 99 2 := ⟨Or.inl (xw_t (i := 731) (by decide +kernel) (by decide +kernel)), xw_t (i := 733) (by decide +kernel) (by decide +kernel), ⟨_, _, rfl⟩, xw_s (i := 27) (q := (⟨"ClocklessGates$Circuit", "acts", "(II)Z"⟩, 6)) (by decide +kernel) (by decide +kernel), my_Ci_acts, by decide +kernel⟩
theorem kv_Ci_97 : xa_lkV xP "ClocklessGates$Circuit" 97 3 100 4 := ⟨Or.inl (xw_t (i := 735) (by decide +kernel) (by decide +kernel)), xw_t (i := 737) (by decide +kernel) (by decide +kernel), ⟨_, _, rfl⟩, xw_s (i := 28) (q := (⟨"ClocklessGates$Circuit", "mayStopActing", "(LClocklessGates$Net;LClocklessGates$Graph;II)Z"⟩, 6)) (by decide +kernel) (by decide +kernel), my_Ci_mayStopActing, by decide +kernel⟩
theorem kv_Ci_100 : xa_lkV xP "ClocklessGates$Circuit" 100 2 62 2 := ⟨Or.inl (xw_t (i := 739) (by decide +kernel) (by decide +kernel)), xw_t (i := 560) (by decide +kernel) (by decide +kernel), ⟨_, _, rfl⟩, xw_t (i := 561) (by decide +kernel) (by decide +kernel), my_G_isExcited, by decide +kernel⟩
theorem fg_Ga_9 : xa_fld xP "ClocklessGates$Gate" 9 4 1 := ⟨_, _, _, _, k_Ga, by decide, Or.inl (xw_t (i := 139) (by decide +kernel) (by decide +kernel))⟩
theorem ff_Ga_9 : xa_fldF xP "ClocklessGates$Gate" 9 4 1 (.array .int) := ⟨_, _, _, _, k_Ga, by decide, rfl, rfl, rfl, xw_t (i := 139) (by decide +kernel) (by decide +kernel)⟩
theorem fg_Ga_15 : xa_fld xP "ClocklessGates$Gate" 15 4 0 := ⟨_, _, _, _, k_Ga, by decide, Or.inl (xw_t (i := 137) (by decide +kernel) (by decide +kernel))⟩
theorem fp_Ga_15 : xa_fldP xP "ClocklessGates$Gate" 15 4 0 (.int) := ⟨_, _, _, _, k_Ga, by decide, rfl, rfl, Or.inl (xw_t (i := 137) (by decide +kernel) (by decide +kernel))⟩
theorem fg_Ga_19 : xa_fld xP "ClocklessGates$Gate" 19 4 2 := ⟨_, _, _, _, k_Ga, by decide, Or.inl (xw_t (i := 141) (by decide +kernel) (by decide +kernel))⟩
theorem fp_Ga_19 : xa_fldP xP "ClocklessGates$Gate" 19 4 2 (.int) := ⟨_, _, _, _, k_Ga, by decide, rfl, rfl, Or.inl (xw_t (i := 141) (by decide +kernel) (by decide +kernel))⟩
theorem fg_G_9 : xa_fld xP "ClocklessGates$Graph" 9 2 2 := ⟨_, _, _, _, k_G, by decide, Or.inl (xw_t (i := 87) (by decide +kernel) (by decide +kernel))⟩
theorem ff_G_9 : xa_fldF xP "ClocklessGates$Graph" 9 2 2 (.array .int) := ⟨_, _, _, _, k_G, by decide, rfl, rfl, rfl, xw_t (i := 87) (by decide +kernel) (by decide +kernel)⟩
theorem fg_G_15 : xa_fld xP "ClocklessGates$Graph" 15 2 3 := ⟨_, _, _, _, k_G, by decide, Or.inl (xw_t (i := 89) (by decide +kernel) (by decide +kernel))⟩
theorem ff_G_15 : xa_fldF xP "ClocklessGates$Graph" 15 2 3 (.array .int) := ⟨_, _, _, _, k_G, by decide, rfl, rfl, rfl, xw_t (i := 89) (by decide +kernel) (by decide +kernel)⟩
theorem fg_G_18 : xa_fld xP "ClocklessGates$Graph" 18 2 4 := ⟨_, _, _, _, k_G, by decide, Or.inl (xw_t (i := 92) (by decide +kernel) (by decide +kernel))⟩
theorem ff_G_18 : xa_fldF xP "ClocklessGates$Graph" 18 2 4 (.array .int) := ⟨_, _, _, _, k_G, by decide, rfl, rfl, rfl, xw_t (i := 92) (by decide +kernel) (by decide +kernel)⟩
theorem fg_G_21 : xa_fld xP "ClocklessGates$Graph" 21 2 5 := ⟨_, _, _, _, k_G, by decide, Or.inl (xw_t (i := 94) (by decide +kernel) (by decide +kernel))⟩
theorem ff_G_21 : xa_fldF xP "ClocklessGates$Graph" 21 2 5 (.array .int) := ⟨_, _, _, _, k_G, by decide, rfl, rfl, rfl, xw_t (i := 94) (by decide +kernel) (by decide +kernel)⟩
theorem fg_G_24 : xa_fld xP "ClocklessGates$Graph" 24 2 6 := ⟨_, _, _, _, k_G, by decide, Or.inl (xw_t (i := 96) (by decide +kernel) (by decide +kernel))⟩
theorem ff_G_24 : xa_fldF xP "ClocklessGates$Graph" 24 2 6 (.array .int) := ⟨_, _, _, _, k_G, by decide, rfl, rfl, rfl, xw_t (i := 96) (by decide +kernel) (by decide +kernel)⟩
theorem fg_G_27 : xa_fld xP "ClocklessGates$Graph" 27 2 7 := ⟨_, _, _, _, k_G, by decide, Or.inl (xw_t (i := 97) (by decide +kernel) (by decide +kernel))⟩
theorem ff_G_27 : xa_fldF xP "ClocklessGates$Graph" 27 2 7 (.array .int) := ⟨_, _, _, _, k_G, by decide, rfl, rfl, rfl, xw_t (i := 97) (by decide +kernel) (by decide +kernel)⟩
theorem fg_G_30 : xa_fld xP "ClocklessGates$Graph" 30 2 8 := ⟨_, _, _, _, k_G, by decide, Or.inl (xw_t (i := 98) (by decide +kernel) (by decide +kernel))⟩
theorem fp_G_30 : xa_fldP xP "ClocklessGates$Graph" 30 2 8 (.boolean) := ⟨_, _, _, _, k_G, by decide, rfl, rfl, Or.inl (xw_t (i := 98) (by decide +kernel) (by decide +kernel))⟩
theorem fg_G_34 : xa_fld xP "ClocklessGates$Graph" 34 2 9 := ⟨_, _, _, _, k_G, by decide, Or.inl (xw_t (i := 99) (by decide +kernel) (by decide +kernel))⟩
theorem fp_G_34 : xa_fldP xP "ClocklessGates$Graph" 34 2 9 (.int) := ⟨_, _, _, _, k_G, by decide, rfl, rfl, Or.inl (xw_t (i := 99) (by decide +kernel) (by decide +kernel))⟩
theorem fg_G_38 : xa_fld xP "ClocklessGates$Graph" 38 2 10 := ⟨_, _, _, _, k_G, by decide, Or.inl (xw_t (i := 100) (by decide +kernel) (by decide +kernel))⟩
theorem fp_G_38 : xa_fldP xP "ClocklessGates$Graph" 38 2 10 (.int) := ⟨_, _, _, _, k_G, by decide, rfl, rfl, Or.inl (xw_t (i := 100) (by decide +kernel) (by decide +kernel))⟩
theorem fg_G_41 : xa_fld xP "ClocklessGates$Graph" 41 2 0 := ⟨_, _, _, _, k_G, by decide, Or.inl (xw_t (i := 82) (by decide +kernel) (by decide +kernel))⟩
theorem fp_G_41 : xa_fldP xP "ClocklessGates$Graph" 41 2 0 (.int) := ⟨_, _, _, _, k_G, by decide, rfl, rfl, Or.inl (xw_t (i := 82) (by decide +kernel) (by decide +kernel))⟩
theorem fg_G_44 : xa_fld xP "ClocklessGates$Graph" 44 1 4 := ⟨_, _, _, _, k_N, by decide, Or.inl (xw_t (i := 43) (by decide +kernel) (by decide +kernel))⟩
theorem fg_G_49 : xa_fld xP "ClocklessGates$Graph" 49 1 3 := ⟨_, _, _, _, k_N, by decide, Or.inl (xw_t (i := 41) (by decide +kernel) (by decide +kernel))⟩
theorem kv_G_52 : xa_lkV xP "ClocklessGates$Graph" 52 2 12 3 := ⟨Or.inl (xw_t (i := 255) (by decide +kernel) (by decide +kernel)), xw_t (i := 257) (by decide +kernel) (by decide +kernel), ⟨_, _, rfl⟩, xw_s (i := 1) (q := (⟨"ClocklessGates$Graph", "addState", "(III)I"⟩, 11)) (by decide +kernel) (by decide +kernel), my_G_addState, by decide +kernel⟩
theorem kv_G_56 : xa_lkV xP "ClocklessGates$Graph" 56 2 13 2 := ⟨Or.inl (xw_t (i := 259) (by decide +kernel) (by decide +kernel)), xw_t (i := 261) (by decide +kernel) (by decide +kernel), ⟨_, _, rfl⟩, xw_s (i := 2) (q := (⟨"ClocklessGates$Graph", "expand", "(LClocklessGates$Net;I)V"⟩, 11)) (by decide +kernel) (by decide +kernel), my_G_expand, by decide +kernel⟩
theorem fg_G_60 : xa_fld xP "ClocklessGates$Graph" 60 1 1 := ⟨_, _, _, _, k_N, by decide, Or.inl (xw_t (i := 36) (by decide +kernel) (by decide +kernel))⟩
theorem kv_G_63 : xa_lkV xP "ClocklessGates$Graph" 63 1 14 2 := ⟨Or.inl (xw_t (i := 263) (by decide +kernel) (by decide +kernel)), xw_t (i := 264) (by decide +kernel) (by decide +kernel), ⟨_, _, rfl⟩, xw_t (i := 265) (by decide +kernel) (by decide +kernel), my_N_isEnabled, by decide +kernel⟩
theorem kv_G_67 : xa_lkV xP "ClocklessGates$Graph" 67 2 15 3 := ⟨Or.inl (xw_t (i := 267) (by decide +kernel) (by decide +kernel)), xw_t (i := 269) (by decide +kernel) (by decide +kernel), ⟨_, _, rfl⟩, xw_s (i := 3) (q := (⟨"ClocklessGates$Graph", "noteEnabled", "(LClocklessGates$Net;II)V"⟩, 11)) (by decide +kernel) (by decide +kernel), my_G_noteEnabled, by decide +kernel⟩
theorem kv_G_71 : xa_lkV xP "ClocklessGates$Graph" 71 1 20 2 := ⟨Or.inl (xw_t (i := 287) (by decide +kernel) (by decide +kernel)), xw_t (i := 288) (by decide +kernel) (by decide +kernel), ⟨_, _, rfl⟩, xw_t (i := 289) (by decide +kernel) (by decide +kernel), my_N_isSafe, by decide +kernel⟩
theorem kv_G_74 : xa_lkV xP "ClocklessGates$Graph" 74 1 21 2 := ⟨Or.inl (xw_t (i := 291) (by decide +kernel) (by decide +kernel)), xw_t (i := 292) (by decide +kernel) (by decide +kernel), ⟨_, _, rfl⟩, xw_t (i := 293) (by decide +kernel) (by decide +kernel), my_N_isRight, by decide +kernel⟩
theorem kv_G_77 : xa_lkV xP "ClocklessGates$Graph" 77 2 22 3 := ⟨Or.inl (xw_t (i := 295) (by decide +kernel) (by decide +kernel)), xw_t (i := 297) (by decide +kernel) (by decide +kernel), ⟨_, _, rfl⟩, xw_s (i := 4) (q := (⟨"ClocklessGates$Graph", "fire", "(LClocklessGates$Net;II)I"⟩, 11)) (by decide +kernel) (by decide +kernel), my_G_fire, by decide +kernel⟩
theorem kv_G_81 : xa_lkV xP "ClocklessGates$Graph" 81 1 16 1 := ⟨Or.inl (xw_t (i := 271) (by decide +kernel) (by decide +kernel)), xw_t (i := 272) (by decide +kernel) (by decide +kernel), ⟨_, _, rfl⟩, xw_t (i := 273) (by decide +kernel) (by decide +kernel), my_N_edgeBit, by decide +kernel⟩
theorem kv_G_85 : xa_lkV xP "ClocklessGates$Graph" 85 1 18 1 := ⟨Or.inl (xw_t (i := 279) (by decide +kernel) (by decide +kernel)), xw_t (i := 280) (by decide +kernel) (by decide +kernel), ⟨_, _, rfl⟩, xw_t (i := 281) (by decide +kernel) (by decide +kernel), my_N_signalOf, by decide +kernel⟩
theorem kv_G_88 : xa_lkV xP "ClocklessGates$Graph" 88 1 19 1 := ⟨Or.inl (xw_t (i := 283) (by decide +kernel) (by decide +kernel)), xw_t (i := 284) (by decide +kernel) (by decide +kernel), ⟨_, _, rfl⟩, xw_t (i := 285) (by decide +kernel) (by decide +kernel), my_N_isInput, by decide +kernel⟩
theorem kv_G_92 : xa_lkV xP "ClocklessGates$Graph" 92 1 23 2 := ⟨Or.inl (xw_t (i := 299) (by decide +kernel) (by decide +kernel)), xw_t (i := 300) (by decide +kernel) (by decide +kernel), ⟨_, _, rfl⟩, xw_t (i := 301) (by decide +kernel) (by decide +kernel), my_N_markingAfter, by decide +kernel⟩
theorem kv_G_96 : xa_lkV xP "ClocklessGates$Graph" 96 1 24 2 := ⟨Or.inl (xw_t (i := 303) (by decide +kernel) (by decide +kernel)), xw_t (i := 304) (by decide +kernel) (by decide +kernel), ⟨_, _, rfl⟩, xw_t (i := 305) (by decide +kernel) (by decide +kernel), my_N_codeAfter, by decide +kernel⟩
theorem fg_G_99 : xa_fld xP "ClocklessGates$Graph" 99 2 1 := ⟨_, _, _, _, k_G, by decide, Or.inl (xw_t (i := 86) (by decide +kernel) (by decide +kernel))⟩
theorem fp_G_99 : xa_fldP xP "ClocklessGates$Graph" 99 2 1 (.int) := ⟨_, _, _, _, k_G, by decide, rfl, rfl, Or.inl (xw_t (i := 86) (by decide +kernel) (by decide +kernel))⟩
theorem kv_G_102 : xa_lkV xP "ClocklessGates$Graph" 102 2 26 1 := ⟨Or.inl (xw_t (i := 311) (by decide +kernel) (by decide +kernel)), xw_t (i := 313) (by decide +kernel) (by decide +kernel), ⟨_, _, rfl⟩, xw_s (i := 5) (q := (⟨"ClocklessGates$Graph", "leastDisablingState", "(LClocklessGates$Net;)I"⟩, 11)) (by decide +kernel) (by decide +kernel), my_G_leastDisablingState, by decide +kernel⟩
theorem kv_G_106 : xa_lkV xP "ClocklessGates$Graph" 106 2 29 0 := ⟨Or.inl (xw_t (i := 323) (by decide +kernel) (by decide +kernel)), xw_t (i := 325) (by decide +kernel) (by decide +kernel), ⟨_, _, rfl⟩, xw_s (i := 7) (q := (⟨"ClocklessGates$Graph", "leastConflictingState", "()I"⟩, 11)) (by decide +kernel) (by decide +kernel), my_G_leastConflictingState, by decide +kernel⟩
theorem kv_G_110 : xa_lkV xP "ClocklessGates$Graph" 110 2 27 2 := ⟨Or.inl (xw_t (i := 315) (by decide +kernel) (by decide +kernel)), xw_t (i := 316) (by decide +kernel) (by decide +kernel), ⟨_, _, rfl⟩, xw_t (i := 317) (by decide +kernel) (by decide +kernel), my_G_successor, by decide +kernel⟩
theorem kv_G_113 : xa_lkV xP "ClocklessGates$Graph" 113 2 28 3 := ⟨Or.inl (xw_t (i := 319) (by decide +kernel) (by decide +kernel)), xw_t (i := 321) (by decide +kernel) (by decide +kernel), ⟨_, _, rfl⟩, xw_s (i := 6) (q := (⟨"ClocklessGates$Graph", "losesEdge", "(LClocklessGates$Net;II)Z"⟩, 11)) (by decide +kernel) (by decide +kernel), my_G_losesEdge, by decide +kernel⟩
theorem fg_G_117 : xa_fld xP "ClocklessGates$Graph" 117 1 5 := ⟨_, _, _, _, k_N, by decide, Or.inl (xw_t (i := 45) (by decide +kernel) (by decide +kernel))⟩
theorem kv_G_120 : xa_lkV xP "ClocklessGates$Graph" 120 2 62 2 := ⟨Or.inl (xw_t (i := 559) (by decide +kernel) (by decide +kernel)), xw_t (i := 560) (by decide +kernel) (by decide +kernel), ⟨_, _, rfl⟩, xw_t (i := 561) (by decide +kernel) (by decide +kernel), my_G_isExcited, by decide +kernel⟩
theorem fg_L_9 : xa_fld xP "ClocklessGates$LeastSum" 9 5 1 := ⟨_, _, _, _, k_L, by decide, Or.inl (xw_t (i := 183) (by decide +kernel) (by decide +kernel))⟩
theorem ff_L_9 : xa_fldF xP "ClocklessGates$LeastSum" 9 5 1 (.array .int) := ⟨_, _, _, _, k_L, by decide, rfl, rfl, rfl, xw_t (i := 183) (by decide +kernel) (by decide +kernel)⟩
theorem fg_L_15 : xa_fld xP "ClocklessGates$LeastSum" 15 5 2 := ⟨_, _, _, _, k_L, by decide, Or.inl (xw_t (i := 184) (by decide +kernel) (by decide +kernel))⟩
theorem ff_L_15 : xa_fldF xP "ClocklessGates$LeastSum" 15 5 2 (.array .int) := ⟨_, _, _, _, k_L, by decide, rfl, rfl, rfl, xw_t (i := 184) (by decide +kernel) (by decide +kernel)⟩
theorem fg_L_18 : xa_fld xP "ClocklessGates$LeastSum" 18 5 3 := ⟨_, _, _, _, k_L, by decide, Or.inl (xw_t (i := 185) (by decide +kernel) (by decide +kernel))⟩
theorem ff_L_18 : xa_fldF xP "ClocklessGates$LeastSum" 18 5 3 (.array .int) := ⟨_, _, _, _, k_L, by decide, rfl, rfl, rfl, xw_t (i := 185) (by decide +kernel) (by decide +kernel)⟩
theorem fg_L_21 : xa_fld xP "ClocklessGates$LeastSum" 21 5 4 := ⟨_, _, _, _, k_L, by decide, Or.inl (xw_t (i := 186) (by decide +kernel) (by decide +kernel))⟩
theorem ff_L_21 : xa_fldF xP "ClocklessGates$LeastSum" 21 5 4 (.array .int) := ⟨_, _, _, _, k_L, by decide, rfl, rfl, rfl, xw_t (i := 186) (by decide +kernel) (by decide +kernel)⟩
theorem fg_L_24 : xa_fld xP "ClocklessGates$LeastSum" 24 5 5 := ⟨_, _, _, _, k_L, by decide, Or.inl (xw_t (i := 187) (by decide +kernel) (by decide +kernel))⟩
theorem ff_L_24 : xa_fldF xP "ClocklessGates$LeastSum" 24 5 5 (.array .boolean) := ⟨_, _, _, _, k_L, by decide, rfl, rfl, rfl, xw_t (i := 187) (by decide +kernel) (by decide +kernel)⟩
theorem fg_L_28 : xa_fld xP "ClocklessGates$LeastSum" 28 5 6 := ⟨_, _, _, _, k_L, by decide, Or.inl (xw_t (i := 188) (by decide +kernel) (by decide +kernel))⟩
theorem ff_L_28 : xa_fldF xP "ClocklessGates$LeastSum" 28 5 6 (.array .boolean) := ⟨_, _, _, _, k_L, by decide, rfl, rfl, rfl, xw_t (i := 188) (by decide +kernel) (by decide +kernel)⟩
theorem fg_L_31 : xa_fld xP "ClocklessGates$LeastSum" 31 5 7 := ⟨_, _, _, _, k_L, by decide, Or.inl (xw_t (i := 189) (by decide +kernel) (by decide +kernel))⟩
theorem ff_L_31 : xa_fldF xP "ClocklessGates$LeastSum" 31 5 7 (.array .int) := ⟨_, _, _, _, k_L, by decide, rfl, rfl, rfl, xw_t (i := 189) (by decide +kernel) (by decide +kernel)⟩
theorem ks_L_34 : xa_lkS xP "ClocklessGates$LeastSum" 34 6 0 := ⟨Or.inl (xw_t (i := 177) (by decide +kernel) (by decide +kernel)), xw_t (i := 178) (by decide +kernel) (by decide +kernel), xw_t (i := 6) (by decide +kernel) (by decide +kernel), my_L_spansOfAllProducts, by decide +kernel⟩
theorem fg_L_38 : xa_fld xP "ClocklessGates$LeastSum" 38 5 0 := ⟨_, _, _, _, k_L, by decide, Or.inl (xw_t (i := 182) (by decide +kernel) (by decide +kernel))⟩
theorem ff_L_38 : xa_fldF xP "ClocklessGates$LeastSum" 38 5 0 (.array .int) := ⟨_, _, _, _, k_L, by decide, rfl, rfl, rfl, xw_t (i := 182) (by decide +kernel) (by decide +kernel)⟩
theorem gs_L_41 : Cond.fieldLink "ClocklessGates$LeastSum" 41 xP.2.2.2.1 xP.2.2.2.2.1 "[I" ∈ xP.2.2.1 ∨ ∃ host, Cond.fieldLinkNest "ClocklessGates$LeastSum" 41 xP.2.2.2.1 xP.2.2.2.2.1 "[I" host ∈ xP.2.2.1 := Or.inr ⟨"ClocklessGates", xw_t (i := 180) (by decide +kernel) (by decide +kernel)⟩
theorem kv_L_44 : xa_lkV xP "ClocklessGates$LeastSum" 44 5 64 3 := ⟨Or.inl (xw_t (i := 567) (by decide +kernel) (by decide +kernel)), xw_t (i := 569) (by decide +kernel) (by decide +kernel), ⟨_, _, rfl⟩, xw_s (i := 14) (q := (⟨"ClocklessGates$LeastSum", "collectPrimes", "(III)V"⟩, 11)) (by decide +kernel) (by decide +kernel), my_L_collectPrimes, by decide +kernel⟩
theorem kv_L_48 : xa_lkV xP "ClocklessGates$LeastSum" 48 5 69 0 := ⟨Or.inl (xw_t (i := 590) (by decide +kernel) (by decide +kernel)), xw_t (i := 592) (by decide +kernel) (by decide +kernel), ⟨_, _, rfl⟩, xw_s (i := 16) (q := (⟨"ClocklessGates$LeastSum", "countRivals", "()V"⟩, 11)) (by decide +kernel) (by decide +kernel), my_L_countRivals, by decide +kernel⟩
theorem fg_L_51 : xa_fld xP "ClocklessGates$LeastSum" 51 5 10 := ⟨_, _, _, _, k_L, by decide, Or.inl (xw_t (i := 192) (by decide +kernel) (by decide +kernel))⟩
theorem fp_L_51 : xa_fldP xP "ClocklessGates$LeastSum" 51 5 10 (.int) := ⟨_, _, _, _, k_L, by decide, rfl, rfl, Or.inl (xw_t (i := 192) (by decide +kernel) (by decide +kernel))⟩
theorem ks_L_55 : xa_lkS xP "ClocklessGates$LeastSum" 55 70 4 := ⟨Or.inl (xw_t (i := 594) (by decide +kernel) (by decide +kernel)), xw_t (i := 595) (by decide +kernel) (by decide +kernel), xw_t (i := 6) (by decide +kernel) (by decide +kernel), my_L_search, by decide +kernel⟩
theorem fg_L_59 : xa_fld xP "ClocklessGates$LeastSum" 59 5 8 := ⟨_, _, _, _, k_L, by decide, Or.inl (xw_t (i := 190) (by decide +kernel) (by decide +kernel))⟩
theorem fp_L_59 : xa_fldP xP "ClocklessGates$LeastSum" 59 5 8 (.int) := ⟨_, _, _, _, k_L, by decide, rfl, rfl, Or.inl (xw_t (i := 190) (by decide +kernel) (by decide +kernel))⟩
theorem kv_L_62 : xa_lkV xP "ClocklessGates$LeastSum" 62 4 77 2 := ⟨Or.inl (xw_t (i := 621) (by decide +kernel) (by decide +kernel)), xw_t (i := 622) (by decide +kernel) (by decide +kernel), ⟨_, _, rfl⟩, xw_t (i := 623) (by decide +kernel) (by decide +kernel), my_Ga_add, by decide +kernel⟩
theorem fg_L_68 : xa_fld xP "ClocklessGates$LeastSum" 68 5 9 := ⟨_, _, _, _, k_L, by decide, Or.inl (xw_t (i := 191) (by decide +kernel) (by decide +kernel))⟩
theorem fp_L_68 : xa_fldP xP "ClocklessGates$LeastSum" 68 5 9 (.int) := ⟨_, _, _, _, k_L, by decide, rfl, rfl, Or.inl (xw_t (i := 191) (by decide +kernel) (by decide +kernel))⟩
theorem kv_L_71 : xa_lkV xP "ClocklessGates$LeastSum" 71 5 65 3 := ⟨Or.inl (xw_t (i := 571) (by decide +kernel) (by decide +kernel)), xw_t (i := 573) (by decide +kernel) (by decide +kernel), ⟨_, _, rfl⟩, xw_s (i := 15) (q := (⟨"ClocklessGates$LeastSum", "isPrime", "(III)Z"⟩, 11)) (by decide +kernel) (by decide +kernel), my_L_isPrime, by decide +kernel⟩
theorem ks_L_75 : xa_lkS xP "ClocklessGates$LeastSum" 75 67 2 := ⟨Or.inl (xw_t (i := 578) (by decide +kernel) (by decide +kernel)), xw_t (i := 579) (by decide +kernel) (by decide +kernel), xw_t (i := 6) (by decide +kernel) (by decide +kernel), my_L_fixedDigits, by decide +kernel⟩
theorem ks_L_78 : xa_lkS xP "ClocklessGates$LeastSum" 78 68 1 := ⟨Or.inl (xw_t (i := 581) (by decide +kernel) (by decide +kernel)), xw_t (i := 582) (by decide +kernel) (by decide +kernel), xw_t (i := 14) (by decide +kernel) (by decide +kernel), my_JI_bitCount, by decide +kernel⟩
theorem ks_L_89 : xa_lkS xP "ClocklessGates$LeastSum" 89 66 2 := ⟨Or.inl (xw_t (i := 575) (by decide +kernel) (by decide +kernel)), xw_t (i := 576) (by decide +kernel) (by decide +kernel), xw_t (i := 6) (by decide +kernel) (by decide +kernel), my_L_digit, by decide +kernel⟩
theorem kv_L_92 : xa_lkV xP "ClocklessGates$LeastSum" 92 5 71 1 := ⟨Or.inl (xw_t (i := 597) (by decide +kernel) (by decide +kernel)), xw_t (i := 599) (by decide +kernel) (by decide +kernel), ⟨_, _, rfl⟩, xw_s (i := 17) (q := (⟨"ClocklessGates$LeastSum", "keepIfLess", "(I)V"⟩, 11)) (by decide +kernel) (by decide +kernel), my_L_keepIfLess, by decide +kernel⟩
theorem kv_L_96 : xa_lkV xP "ClocklessGates$LeastSum" 96 5 73 1 := ⟨Or.inl (xw_t (i := 605) (by decide +kernel) (by decide +kernel)), xw_t (i := 607) (by decide +kernel) (by decide +kernel), ⟨_, _, rfl⟩, xw_s (i := 19) (q := (⟨"ClocklessGates$LeastSum", "leastCostOf", "(I)I"⟩, 11)) (by decide +kernel) (by decide +kernel), my_L_leastCostOf, by decide +kernel⟩
theorem kv_L_99 : xa_lkV xP "ClocklessGates$LeastSum" 99 5 74 1 := ⟨Or.inl (xw_t (i := 609) (by decide +kernel) (by decide +kernel)), xw_t (i := 611) (by decide +kernel) (by decide +kernel), ⟨_, _, rfl⟩, xw_s (i := 20) (q := (⟨"ClocklessGates$LeastSum", "codeWithFewestRivals", "(I)I"⟩, 11)) (by decide +kernel) (by decide +kernel), my_L_codeWithFewestRivals, by decide +kernel⟩
theorem kv_L_102 : xa_lkV xP "ClocklessGates$LeastSum" 102 5 75 1 := ⟨Or.inl (xw_t (i := 613) (by decide +kernel) (by decide +kernel)), xw_t (i := 615) (by decide +kernel) (by decide +kernel), ⟨_, _, rfl⟩, xw_s (i := 21) (q := (⟨"ClocklessGates$LeastSum", "liftBars", "(I)V"⟩, 11)) (by decide +kernel) (by decide +kernel), my_L_liftBars, by decide +kernel⟩
theorem kv_L_105 : xa_lkV xP "ClocklessGates$LeastSum" 105 5 72 0 := ⟨Or.inl (xw_t (i := 601) (by decide +kernel) (by decide +kernel)), xw_t (i := 603) (by decide +kernel) (by decide +kernel), ⟨_, _, rfl⟩, xw_s (i := 18) (q := (⟨"ClocklessGates$LeastSum", "takenComesFirst", "()Z"⟩, 11)) (by decide +kernel) (by decide +kernel), my_L_takenComesFirst, by decide +kernel⟩
theorem fg_N_9 : xa_fld xP "ClocklessGates$Net" 9 1 7 := ⟨_, _, _, _, k_N, by decide, Or.inl (xw_t (i := 47) (by decide +kernel) (by decide +kernel))⟩
theorem ff_N_9 : xa_fldF xP "ClocklessGates$Net" 9 1 7 (.array .int) := ⟨_, _, _, _, k_N, by decide, rfl, rfl, rfl, xw_t (i := 47) (by decide +kernel) (by decide +kernel)⟩
theorem fg_N_15 : xa_fld xP "ClocklessGates$Net" 15 1 8 := ⟨_, _, _, _, k_N, by decide, Or.inl (xw_t (i := 48) (by decide +kernel) (by decide +kernel))⟩
theorem ff_N_15 : xa_fldF xP "ClocklessGates$Net" 15 1 8 (.array .boolean) := ⟨_, _, _, _, k_N, by decide, rfl, rfl, rfl, xw_t (i := 48) (by decide +kernel) (by decide +kernel)⟩
theorem fg_N_19 : xa_fld xP "ClocklessGates$Net" 19 1 9 := ⟨_, _, _, _, k_N, by decide, Or.inl (xw_t (i := 49) (by decide +kernel) (by decide +kernel))⟩
theorem ff_N_19 : xa_fldF xP "ClocklessGates$Net" 19 1 9 (.array .int) := ⟨_, _, _, _, k_N, by decide, rfl, rfl, rfl, xw_t (i := 49) (by decide +kernel) (by decide +kernel)⟩
theorem fg_N_22 : xa_fld xP "ClocklessGates$Net" 22 1 10 := ⟨_, _, _, _, k_N, by decide, Or.inl (xw_t (i := 50) (by decide +kernel) (by decide +kernel))⟩
theorem ff_N_22 : xa_fldF xP "ClocklessGates$Net" 22 1 10 (.array .int) := ⟨_, _, _, _, k_N, by decide, rfl, rfl, rfl, xw_t (i := 50) (by decide +kernel) (by decide +kernel)⟩
theorem fg_N_25 : xa_fld xP "ClocklessGates$Net" 25 1 0 := ⟨_, _, _, _, k_N, by decide, Or.inl (xw_t (i := 31) (by decide +kernel) (by decide +kernel))⟩
theorem fp_N_25 : xa_fldP xP "ClocklessGates$Net" 25 1 0 (.int) := ⟨_, _, _, _, k_N, by decide, rfl, rfl, Or.inl (xw_t (i := 31) (by decide +kernel) (by decide +kernel))⟩
theorem fg_N_29 : xa_fld xP "ClocklessGates$Net" 29 1 6 := ⟨_, _, _, _, k_N, by decide, Or.inl (xw_t (i := 46) (by decide +kernel) (by decide +kernel))⟩
theorem fp_N_29 : xa_fldP xP "ClocklessGates$Net" 29 1 6 (.int) := ⟨_, _, _, _, k_N, by decide, rfl, rfl, Or.inl (xw_t (i := 46) (by decide +kernel) (by decide +kernel))⟩
theorem fg_N_32 : xa_fld xP "ClocklessGates$Net" 32 1 5 := ⟨_, _, _, _, k_N, by decide, Or.inl (xw_t (i := 44) (by decide +kernel) (by decide +kernel))⟩
theorem fp_N_32 : xa_fldP xP "ClocklessGates$Net" 32 1 5 (.int) := ⟨_, _, _, _, k_N, by decide, rfl, rfl, Or.inl (xw_t (i := 44) (by decide +kernel) (by decide +kernel))⟩
theorem fg_N_35 : xa_fld xP "ClocklessGates$Net" 35 1 3 := ⟨_, _, _, _, k_N, by decide, Or.inl (xw_t (i := 40) (by decide +kernel) (by decide +kernel))⟩
theorem fp_N_35 : xa_fldP xP "ClocklessGates$Net" 35 1 3 (.int) := ⟨_, _, _, _, k_N, by decide, rfl, rfl, Or.inl (xw_t (i := 40) (by decide +kernel) (by decide +kernel))⟩
theorem fg_N_38 : xa_fld xP "ClocklessGates$Net" 38 1 1 := ⟨_, _, _, _, k_N, by decide, Or.inl (xw_t (i := 34) (by decide +kernel) (by decide +kernel))⟩
theorem fp_N_38 : xa_fldP xP "ClocklessGates$Net" 38 1 1 (.int) := ⟨_, _, _, _, k_N, by decide, rfl, rfl, Or.inl (xw_t (i := 34) (by decide +kernel) (by decide +kernel))⟩
theorem fg_N_41 : xa_fld xP "ClocklessGates$Net" 41 1 4 := ⟨_, _, _, _, k_N, by decide, Or.inl (xw_t (i := 42) (by decide +kernel) (by decide +kernel))⟩
theorem fp_N_41 : xa_fldP xP "ClocklessGates$Net" 41 1 4 (.int) := ⟨_, _, _, _, k_N, by decide, rfl, rfl, Or.inl (xw_t (i := 42) (by decide +kernel) (by decide +kernel))⟩
theorem fg_N_44 : xa_fld xP "ClocklessGates$Net" 44 1 2 := ⟨_, _, _, _, k_N, by decide, Or.inl (xw_t (i := 39) (by decide +kernel) (by decide +kernel))⟩
theorem fp_N_44 : xa_fldP xP "ClocklessGates$Net" 44 1 2 (.int) := ⟨_, _, _, _, k_N, by decide, rfl, rfl, Or.inl (xw_t (i := 39) (by decide +kernel) (by decide +kernel))⟩
theorem kv_N_47 : xa_lkV xP "ClocklessGates$Net" 47 1 17 1 := ⟨Or.inl (xw_t (i := 275) (by decide +kernel) (by decide +kernel)), xw_t (i := 276) (by decide +kernel) (by decide +kernel), ⟨_, _, rfl⟩, xw_t (i := 277) (by decide +kernel) (by decide +kernel), my_N_levelAfter, by decide +kernel⟩
theorem kv_W_7 : xa_lkV xP "ClocklessGatesLaw" 7 0 32 2 := ⟨Or.inl (xw_t (i := 335) (by decide +kernel) (by decide +kernel)), xw_t (i := 336) (by decide +kernel) (by decide +kernel), ⟨_, _, rfl⟩, xw_t (i := 337) (by decide +kernel) (by decide +kernel), my_CG_signal, by decide +kernel⟩
theorem kv_W_15 : xa_lkV xP "ClocklessGatesLaw" 15 0 35 2 := ⟨Or.inl (xw_t (i := 416) (by decide +kernel) (by decide +kernel)), xw_t (i := 417) (by decide +kernel) (by decide +kernel), ⟨_, _, rfl⟩, xw_t (i := 418) (by decide +kernel) (by decide +kernel), my_CG_edge, by decide +kernel⟩
theorem kv_W_21 : xa_lkV xP "ClocklessGatesLaw" 21 0 39 1 := ⟨Or.inl (xw_t (i := 448) (by decide +kernel) (by decide +kernel)), xw_t (i := 449) (by decide +kernel) (by decide +kernel), ⟨_, _, rfl⟩, xw_t (i := 450) (by decide +kernel) (by decide +kernel), my_CG_place, by decide +kernel⟩
theorem kv_W_25 : xa_lkV xP "ClocklessGatesLaw" 25 0 42 3 := ⟨Or.inl (xw_t (i := 461) (by decide +kernel) (by decide +kernel)), xw_t (i := 462) (by decide +kernel) (by decide +kernel), ⟨_, _, rfl⟩, xw_t (i := 463) (by decide +kernel) (by decide +kernel), my_CG_arc, by decide +kernel⟩
theorem kv_W_31 : xa_lkV xP "ClocklessGatesLaw" 31 0 46 0 := ⟨Or.inl (xw_t (i := 494) (by decide +kernel) (by decide +kernel)), xw_t (i := 495) (by decide +kernel) (by decide +kernel), ⟨_, _, rfl⟩, xw_t (i := 496) (by decide +kernel) (by decide +kernel), my_CG_states, by decide +kernel⟩
theorem kv_W_35 : xa_lkV xP "ClocklessGatesLaw" 35 0 49 1 := ⟨Or.inl (xw_t (i := 506) (by decide +kernel) (by decide +kernel)), xw_t (i := 507) (by decide +kernel) (by decide +kernel), ⟨_, _, rfl⟩, xw_t (i := 508) (by decide +kernel) (by decide +kernel), my_CG_code, by decide +kernel⟩
theorem kv_W_39 : xa_lkV xP "ClocklessGatesLaw" 39 0 52 1 := ⟨Or.inl (xw_t (i := 518) (by decide +kernel) (by decide +kernel)), xw_t (i := 519) (by decide +kernel) (by decide +kernel), ⟨_, _, rfl⟩, xw_t (i := 520) (by decide +kernel) (by decide +kernel), my_CG_marking, by decide +kernel⟩
theorem kv_W_42 : xa_lkV xP "ClocklessGatesLaw" 42 0 54 1 := ⟨Or.inl (xw_t (i := 525) (by decide +kernel) (by decide +kernel)), xw_t (i := 526) (by decide +kernel) (by decide +kernel), ⟨_, _, rfl⟩, xw_t (i := 527) (by decide +kernel) (by decide +kernel), my_CG_found, by decide +kernel⟩
theorem kv_W_45 : xa_lkV xP "ClocklessGatesLaw" 45 0 56 1 := ⟨Or.inl (xw_t (i := 532) (by decide +kernel) (by decide +kernel)), xw_t (i := 533) (by decide +kernel) (by decide +kernel), ⟨_, _, rfl⟩, xw_t (i := 534) (by decide +kernel) (by decide +kernel), my_CG_excited, by decide +kernel⟩
theorem kv_W_48 : xa_lkV xP "ClocklessGatesLaw" 48 0 58 0 := ⟨Or.inl (xw_t (i := 540) (by decide +kernel) (by decide +kernel)), xw_t (i := 541) (by decide +kernel) (by decide +kernel), ⟨_, _, rfl⟩, xw_t (i := 542) (by decide +kernel) (by decide +kernel), my_CG_synthesise, by decide +kernel⟩
theorem kv_W_53 : xa_lkV xP "ClocklessGatesLaw" 53 0 80 1 := ⟨Or.inl (xw_t (i := 648) (by decide +kernel) (by decide +kernel)), xw_t (i := 649) (by decide +kernel) (by decide +kernel), ⟨_, _, rfl⟩, xw_t (i := 650) (by decide +kernel) (by decide +kernel), my_CG_products, by decide +kernel⟩
theorem kv_W_56 : xa_lkV xP "ClocklessGatesLaw" 56 0 82 2 := ⟨Or.inl (xw_t (i := 655) (by decide +kernel) (by decide +kernel)), xw_t (i := 656) (by decide +kernel) (by decide +kernel), ⟨_, _, rfl⟩, xw_t (i := 657) (by decide +kernel) (by decide +kernel), my_CG_product, by decide +kernel⟩
theorem kv_W_60 : xa_lkV xP "ClocklessGatesLaw" 60 0 84 2 := ⟨Or.inl (xw_t (i := 663) (by decide +kernel) (by decide +kernel)), xw_t (i := 664) (by decide +kernel) (by decide +kernel), ⟨_, _, rfl⟩, xw_t (i := 665) (by decide +kernel) (by decide +kernel), my_CG_append, by decide +kernel⟩
theorem kv_W_63 : xa_lkV xP "ClocklessGatesLaw" 63 0 87 1 := ⟨Or.inl (xw_t (i := 679) (by decide +kernel) (by decide +kernel)), xw_t (i := 680) (by decide +kernel) (by decide +kernel), ⟨_, _, rfl⟩, xw_t (i := 681) (by decide +kernel) (by decide +kernel), my_CG_strip, by decide +kernel⟩
theorem kv_W_67 : xa_lkV xP "ClocklessGatesLaw" 67 0 89 2 := ⟨Or.inl (xw_t (i := 686) (by decide +kernel) (by decide +kernel)), xw_t (i := 687) (by decide +kernel) (by decide +kernel), ⟨_, _, rfl⟩, xw_t (i := 688) (by decide +kernel) (by decide +kernel), my_CG_value, by decide +kernel⟩
theorem kv_W_70 : xa_lkV xP "ClocklessGatesLaw" 70 0 92 0 := ⟨Or.inl (xw_t (i := 698) (by decide +kernel) (by decide +kernel)), xw_t (i := 699) (by decide +kernel) (by decide +kernel), ⟨_, _, rfl⟩, xw_t (i := 700) (by decide +kernel) (by decide +kernel), my_CG_check, by decide +kernel⟩
theorem ki_W_73 : xa_lkI xP "ClocklessGatesLaw" 73 0 0 := ⟨Or.inl (xw_t (i := 19) (by decide +kernel) (by decide +kernel)), xw_t (i := 20) (by decide +kernel) (by decide +kernel), rfl, rfl, rfl, my_CG_init, by decide +kernel⟩
theorem ki_W_76 : xa_lkI xP "ClocklessGatesLaw" 76 101 0 := ⟨Or.inl (xw_t (i := 742) (by decide +kernel) (by decide +kernel)), xw_t (i := 743) (by decide +kernel) (by decide +kernel), rfl, rfl, rfl, my_M_init, by decide +kernel⟩
theorem ks_W_77 : xa_lkS xP "ClocklessGatesLaw" 77 31 4 := ⟨Or.inl (xw_t (i := 331) (by decide +kernel) (by decide +kernel)), xw_t (i := 332) (by decide +kernel) (by decide +kernel), xw_t (i := 0) (by decide +kernel) (by decide +kernel), my_W_signal, by decide +kernel⟩
theorem kv_W_82 : xa_lkV xP "ClocklessGatesLaw" 82 6 103 2 := ⟨Or.inl (xw_t (i := 841) (by decide +kernel) (by decide +kernel)), xw_t (i := 842) (by decide +kernel) (by decide +kernel), ⟨_, _, rfl⟩, xw_t (i := 843) (by decide +kernel) (by decide +kernel), my_M_signal, by decide +kernel⟩
theorem kv_W_83 : xa_lkV xP "ClocklessGatesLaw" 83 6 102 0 := ⟨Or.inl (xw_t (i := 837) (by decide +kernel) (by decide +kernel)), xw_t (i := 838) (by decide +kernel) (by decide +kernel), ⟨_, _, rfl⟩, xw_t (i := 839) (by decide +kernel) (by decide +kernel), my_M_thrown, by decide +kernel⟩
theorem ks_W_86 : xa_lkS xP "ClocklessGatesLaw" 86 34 4 := ⟨Or.inl (xw_t (i := 412) (by decide +kernel) (by decide +kernel)), xw_t (i := 413) (by decide +kernel) (by decide +kernel), xw_t (i := 0) (by decide +kernel) (by decide +kernel), my_W_edge, by decide +kernel⟩
theorem kv_W_89 : xa_lkV xP "ClocklessGatesLaw" 89 6 105 2 := ⟨Or.inl (xw_t (i := 849) (by decide +kernel) (by decide +kernel)), xw_t (i := 850) (by decide +kernel) (by decide +kernel), ⟨_, _, rfl⟩, xw_t (i := 851) (by decide +kernel) (by decide +kernel), my_M_edge, by decide +kernel⟩
theorem ks_W_90 : xa_lkS xP "ClocklessGatesLaw" 90 38 3 := ⟨Or.inl (xw_t (i := 445) (by decide +kernel) (by decide +kernel)), xw_t (i := 446) (by decide +kernel) (by decide +kernel), xw_t (i := 0) (by decide +kernel) (by decide +kernel), my_W_place, by decide +kernel⟩
theorem kv_W_93 : xa_lkV xP "ClocklessGatesLaw" 93 6 107 1 := ⟨Or.inl (xw_t (i := 857) (by decide +kernel) (by decide +kernel)), xw_t (i := 858) (by decide +kernel) (by decide +kernel), ⟨_, _, rfl⟩, xw_t (i := 859) (by decide +kernel) (by decide +kernel), my_M_place, by decide +kernel⟩
theorem ks_W_94 : xa_lkS xP "ClocklessGatesLaw" 94 41 4 := ⟨Or.inl (xw_t (i := 457) (by decide +kernel) (by decide +kernel)), xw_t (i := 458) (by decide +kernel) (by decide +kernel), xw_t (i := 0) (by decide +kernel) (by decide +kernel), my_W_arc, by decide +kernel⟩
theorem kv_W_97 : xa_lkV xP "ClocklessGatesLaw" 97 6 108 3 := ⟨Or.inl (xw_t (i := 861) (by decide +kernel) (by decide +kernel)), xw_t (i := 862) (by decide +kernel) (by decide +kernel), ⟨_, _, rfl⟩, xw_t (i := 863) (by decide +kernel) (by decide +kernel), my_M_arc, by decide +kernel⟩
theorem kv_W_98 : xa_lkV xP "ClocklessGatesLaw" 98 0 7 0 := ⟨Or.inl (xw_t (i := 235) (by decide +kernel) (by decide +kernel)), xw_t (i := 236) (by decide +kernel) (by decide +kernel), ⟨_, _, rfl⟩, xw_t (i := 237) (by decide +kernel) (by decide +kernel), my_CG_analyse, by decide +kernel⟩
theorem kv_W_101 : xa_lkV xP "ClocklessGatesLaw" 101 6 109 0 := ⟨Or.inl (xw_t (i := 865) (by decide +kernel) (by decide +kernel)), xw_t (i := 866) (by decide +kernel) (by decide +kernel), ⟨_, _, rfl⟩, xw_t (i := 867) (by decide +kernel) (by decide +kernel), my_M_analyse, by decide +kernel⟩
theorem ks_W_102 : xa_lkS xP "ClocklessGatesLaw" 102 45 2 := ⟨Or.inl (xw_t (i := 491) (by decide +kernel) (by decide +kernel)), xw_t (i := 492) (by decide +kernel) (by decide +kernel), xw_t (i := 0) (by decide +kernel) (by decide +kernel), my_W_states, by decide +kernel⟩
theorem kv_W_105 : xa_lkV xP "ClocklessGatesLaw" 105 6 123 0 := ⟨Or.inl (xw_t (i := 921) (by decide +kernel) (by decide +kernel)), xw_t (i := 922) (by decide +kernel) (by decide +kernel), ⟨_, _, rfl⟩, xw_t (i := 923) (by decide +kernel) (by decide +kernel), my_M_states, by decide +kernel⟩
theorem ks_W_106 : xa_lkS xP "ClocklessGatesLaw" 106 48 3 := ⟨Or.inl (xw_t (i := 503) (by decide +kernel) (by decide +kernel)), xw_t (i := 504) (by decide +kernel) (by decide +kernel), xw_t (i := 0) (by decide +kernel) (by decide +kernel), my_W_code, by decide +kernel⟩
theorem kv_W_109 : xa_lkV xP "ClocklessGatesLaw" 109 6 125 1 := ⟨Or.inl (xw_t (i := 929) (by decide +kernel) (by decide +kernel)), xw_t (i := 930) (by decide +kernel) (by decide +kernel), ⟨_, _, rfl⟩, xw_t (i := 931) (by decide +kernel) (by decide +kernel), my_M_code, by decide +kernel⟩
theorem ks_W_110 : xa_lkS xP "ClocklessGatesLaw" 110 51 3 := ⟨Or.inl (xw_t (i := 515) (by decide +kernel) (by decide +kernel)), xw_t (i := 516) (by decide +kernel) (by decide +kernel), xw_t (i := 0) (by decide +kernel) (by decide +kernel), my_W_marking, by decide +kernel⟩
theorem kv_W_112 : xa_lkV xP "ClocklessGatesLaw" 112 6 127 1 := ⟨Or.inl (xw_t (i := 937) (by decide +kernel) (by decide +kernel)), xw_t (i := 938) (by decide +kernel) (by decide +kernel), ⟨_, _, rfl⟩, xw_t (i := 939) (by decide +kernel) (by decide +kernel), my_M_marking, by decide +kernel⟩
theorem ks_W_113 : xa_lkS xP "ClocklessGatesLaw" 113 53 3 := ⟨Or.inl (xw_t (i := 522) (by decide +kernel) (by decide +kernel)), xw_t (i := 523) (by decide +kernel) (by decide +kernel), xw_t (i := 0) (by decide +kernel) (by decide +kernel), my_W_found, by decide +kernel⟩
theorem kv_W_115 : xa_lkV xP "ClocklessGatesLaw" 115 6 128 1 := ⟨Or.inl (xw_t (i := 941) (by decide +kernel) (by decide +kernel)), xw_t (i := 942) (by decide +kernel) (by decide +kernel), ⟨_, _, rfl⟩, xw_t (i := 943) (by decide +kernel) (by decide +kernel), my_M_found, by decide +kernel⟩
theorem ks_W_116 : xa_lkS xP "ClocklessGatesLaw" 116 55 3 := ⟨Or.inl (xw_t (i := 529) (by decide +kernel) (by decide +kernel)), xw_t (i := 530) (by decide +kernel) (by decide +kernel), xw_t (i := 0) (by decide +kernel) (by decide +kernel), my_W_excited, by decide +kernel⟩
theorem kv_W_118 : xa_lkV xP "ClocklessGatesLaw" 118 6 129 1 := ⟨Or.inl (xw_t (i := 945) (by decide +kernel) (by decide +kernel)), xw_t (i := 946) (by decide +kernel) (by decide +kernel), ⟨_, _, rfl⟩, xw_t (i := 947) (by decide +kernel) (by decide +kernel), my_M_excited, by decide +kernel⟩
theorem kv_W_119 : xa_lkV xP "ClocklessGatesLaw" 119 0 30 0 := ⟨Or.inl (xw_t (i := 327) (by decide +kernel) (by decide +kernel)), xw_t (i := 328) (by decide +kernel) (by decide +kernel), ⟨_, _, rfl⟩, xw_t (i := 329) (by decide +kernel) (by decide +kernel), my_CG_fault, by decide +kernel⟩
theorem kv_W_122 : xa_lkV xP "ClocklessGatesLaw" 122 6 130 0 := ⟨Or.inl (xw_t (i := 949) (by decide +kernel) (by decide +kernel)), xw_t (i := 950) (by decide +kernel) (by decide +kernel), ⟨_, _, rfl⟩, xw_t (i := 951) (by decide +kernel) (by decide +kernel), my_M_fault, by decide +kernel⟩
theorem ks_W_123 : xa_lkS xP "ClocklessGatesLaw" 123 57 2 := ⟨Or.inl (xw_t (i := 536) (by decide +kernel) (by decide +kernel)), xw_t (i := 537) (by decide +kernel) (by decide +kernel), xw_t (i := 0) (by decide +kernel) (by decide +kernel), my_W_synthesise, by decide +kernel⟩
theorem kv_W_125 : xa_lkV xP "ClocklessGatesLaw" 125 6 131 0 := ⟨Or.inl (xw_t (i := 953) (by decide +kernel) (by decide +kernel)), xw_t (i := 954) (by decide +kernel) (by decide +kernel), ⟨_, _, rfl⟩, xw_t (i := 955) (by decide +kernel) (by decide +kernel), my_M_synthesise, by decide +kernel⟩
theorem ks_W_126 : xa_lkS xP "ClocklessGatesLaw" 126 79 3 := ⟨Or.inl (xw_t (i := 645) (by decide +kernel) (by decide +kernel)), xw_t (i := 646) (by decide +kernel) (by decide +kernel), xw_t (i := 0) (by decide +kernel) (by decide +kernel), my_W_products, by decide +kernel⟩
theorem kv_W_128 : xa_lkV xP "ClocklessGatesLaw" 128 6 142 1 := ⟨Or.inl (xw_t (i := 995) (by decide +kernel) (by decide +kernel)), xw_t (i := 996) (by decide +kernel) (by decide +kernel), ⟨_, _, rfl⟩, xw_t (i := 997) (by decide +kernel) (by decide +kernel), my_M_products, by decide +kernel⟩
theorem ks_W_129 : xa_lkS xP "ClocklessGatesLaw" 129 81 4 := ⟨Or.inl (xw_t (i := 652) (by decide +kernel) (by decide +kernel)), xw_t (i := 653) (by decide +kernel) (by decide +kernel), xw_t (i := 0) (by decide +kernel) (by decide +kernel), my_W_product, by decide +kernel⟩
theorem kv_W_132 : xa_lkV xP "ClocklessGatesLaw" 132 6 143 2 := ⟨Or.inl (xw_t (i := 999) (by decide +kernel) (by decide +kernel)), xw_t (i := 1000) (by decide +kernel) (by decide +kernel), ⟨_, _, rfl⟩, xw_t (i := 1001) (by decide +kernel) (by decide +kernel), my_M_product, by decide +kernel⟩
theorem ks_W_133 : xa_lkS xP "ClocklessGatesLaw" 133 83 4 := ⟨Or.inl (xw_t (i := 660) (by decide +kernel) (by decide +kernel)), xw_t (i := 661) (by decide +kernel) (by decide +kernel), xw_t (i := 0) (by decide +kernel) (by decide +kernel), my_W_append, by decide +kernel⟩
theorem kv_W_135 : xa_lkV xP "ClocklessGatesLaw" 135 6 144 2 := ⟨Or.inl (xw_t (i := 1003) (by decide +kernel) (by decide +kernel)), xw_t (i := 1004) (by decide +kernel) (by decide +kernel), ⟨_, _, rfl⟩, xw_t (i := 1005) (by decide +kernel) (by decide +kernel), my_M_append, by decide +kernel⟩
theorem ks_W_136 : xa_lkS xP "ClocklessGatesLaw" 136 86 2 := ⟨Or.inl (xw_t (i := 676) (by decide +kernel) (by decide +kernel)), xw_t (i := 677) (by decide +kernel) (by decide +kernel), xw_t (i := 0) (by decide +kernel) (by decide +kernel), my_W_strip, by decide +kernel⟩
theorem kv_W_139 : xa_lkV xP "ClocklessGatesLaw" 139 6 145 1 := ⟨Or.inl (xw_t (i := 1007) (by decide +kernel) (by decide +kernel)), xw_t (i := 1008) (by decide +kernel) (by decide +kernel), ⟨_, _, rfl⟩, xw_t (i := 1009) (by decide +kernel) (by decide +kernel), my_M_strip, by decide +kernel⟩
theorem ks_W_140 : xa_lkS xP "ClocklessGatesLaw" 140 88 4 := ⟨Or.inl (xw_t (i := 683) (by decide +kernel) (by decide +kernel)), xw_t (i := 684) (by decide +kernel) (by decide +kernel), xw_t (i := 0) (by decide +kernel) (by decide +kernel), my_W_value, by decide +kernel⟩
theorem kv_W_142 : xa_lkV xP "ClocklessGatesLaw" 142 6 146 2 := ⟨Or.inl (xw_t (i := 1011) (by decide +kernel) (by decide +kernel)), xw_t (i := 1012) (by decide +kernel) (by decide +kernel), ⟨_, _, rfl⟩, xw_t (i := 1013) (by decide +kernel) (by decide +kernel), my_M_value, by decide +kernel⟩
theorem ks_W_143 : xa_lkS xP "ClocklessGatesLaw" 143 91 2 := ⟨Or.inl (xw_t (i := 695) (by decide +kernel) (by decide +kernel)), xw_t (i := 696) (by decide +kernel) (by decide +kernel), xw_t (i := 0) (by decide +kernel) (by decide +kernel), my_W_check, by decide +kernel⟩
theorem kv_W_145 : xa_lkV xP "ClocklessGatesLaw" 145 6 148 0 := ⟨Or.inl (xw_t (i := 1019) (by decide +kernel) (by decide +kernel)), xw_t (i := 1020) (by decide +kernel) (by decide +kernel), ⟨_, _, rfl⟩, xw_t (i := 1021) (by decide +kernel) (by decide +kernel), my_M_check, by decide +kernel⟩
theorem fg_M_7 : xa_fld xP "ClocklessGatesModel" 7 6 2 := ⟨_, _, _, _, k_M, by decide, Or.inl (xw_t (i := 748) (by decide +kernel) (by decide +kernel))⟩
theorem ff_M_7 : xa_fldF xP "ClocklessGatesModel" 7 6 2 (.array .boolean) := ⟨_, _, _, _, k_M, by decide, rfl, rfl, rfl, xw_t (i := 748) (by decide +kernel) (by decide +kernel)⟩
theorem fg_M_13 : xa_fld xP "ClocklessGatesModel" 13 6 3 := ⟨_, _, _, _, k_M, by decide, Or.inl (xw_t (i := 749) (by decide +kernel) (by decide +kernel))⟩
theorem ff_M_13 : xa_fldF xP "ClocklessGatesModel" 13 6 3 (.array .boolean) := ⟨_, _, _, _, k_M, by decide, rfl, rfl, rfl, xw_t (i := 749) (by decide +kernel) (by decide +kernel)⟩
theorem fg_M_16 : xa_fld xP "ClocklessGatesModel" 16 6 5 := ⟨_, _, _, _, k_M, by decide, Or.inl (xw_t (i := 751) (by decide +kernel) (by decide +kernel))⟩
theorem ff_M_16 : xa_fldF xP "ClocklessGatesModel" 16 6 5 (.array .int) := ⟨_, _, _, _, k_M, by decide, rfl, rfl, rfl, xw_t (i := 751) (by decide +kernel) (by decide +kernel)⟩
theorem fg_M_20 : xa_fld xP "ClocklessGatesModel" 20 6 6 := ⟨_, _, _, _, k_M, by decide, Or.inl (xw_t (i := 752) (by decide +kernel) (by decide +kernel))⟩
theorem ff_M_20 : xa_fldF xP "ClocklessGatesModel" 20 6 6 (.array .boolean) := ⟨_, _, _, _, k_M, by decide, rfl, rfl, rfl, xw_t (i := 752) (by decide +kernel) (by decide +kernel)⟩
theorem fg_M_23 : xa_fld xP "ClocklessGatesModel" 23 6 7 := ⟨_, _, _, _, k_M, by decide, Or.inl (xw_t (i := 753) (by decide +kernel) (by decide +kernel))⟩
theorem ff_M_23 : xa_fldF xP "ClocklessGatesModel" 23 6 7 (.array .int) := ⟨_, _, _, _, k_M, by decide, rfl, rfl, rfl, xw_t (i := 753) (by decide +kernel) (by decide +kernel)⟩
theorem fg_M_26 : xa_fld xP "ClocklessGatesModel" 26 6 8 := ⟨_, _, _, _, k_M, by decide, Or.inl (xw_t (i := 754) (by decide +kernel) (by decide +kernel))⟩
theorem ff_M_26 : xa_fldF xP "ClocklessGatesModel" 26 6 8 (.array .int) := ⟨_, _, _, _, k_M, by decide, rfl, rfl, rfl, xw_t (i := 754) (by decide +kernel) (by decide +kernel)⟩
theorem fg_M_29 : xa_fld xP "ClocklessGatesModel" 29 6 11 := ⟨_, _, _, _, k_M, by decide, Or.inl (xw_t (i := 757) (by decide +kernel) (by decide +kernel))⟩
theorem fp_M_29 : xa_fldP xP "ClocklessGatesModel" 29 6 11 (.int) := ⟨_, _, _, _, k_M, by decide, rfl, rfl, Or.inl (xw_t (i := 757) (by decide +kernel) (by decide +kernel))⟩
theorem fg_M_33 : xa_fld xP "ClocklessGatesModel" 33 6 12 := ⟨_, _, _, _, k_M, by decide, Or.inl (xw_t (i := 758) (by decide +kernel) (by decide +kernel))⟩
theorem fp_M_33 : xa_fldP xP "ClocklessGatesModel" 33 6 12 (.int) := ⟨_, _, _, _, k_M, by decide, rfl, rfl, Or.inl (xw_t (i := 758) (by decide +kernel) (by decide +kernel))⟩
theorem fg_M_36 : xa_fld xP "ClocklessGatesModel" 36 6 14 := ⟨_, _, _, _, k_M, by decide, Or.inl (xw_t (i := 760) (by decide +kernel) (by decide +kernel))⟩
theorem ff_M_36 : xa_fldF xP "ClocklessGatesModel" 36 6 14 (.array .int) := ⟨_, _, _, _, k_M, by decide, rfl, rfl, rfl, xw_t (i := 760) (by decide +kernel) (by decide +kernel)⟩
theorem fg_M_39 : xa_fld xP "ClocklessGatesModel" 39 6 15 := ⟨_, _, _, _, k_M, by decide, Or.inl (xw_t (i := 761) (by decide +kernel) (by decide +kernel))⟩
theorem ff_M_39 : xa_fldF xP "ClocklessGatesModel" 39 6 15 (.array .int) := ⟨_, _, _, _, k_M, by decide, rfl, rfl, rfl, xw_t (i := 761) (by decide +kernel) (by decide +kernel)⟩
theorem fg_M_42 : xa_fld xP "ClocklessGatesModel" 42 6 16 := ⟨_, _, _, _, k_M, by decide, Or.inl (xw_t (i := 762) (by decide +kernel) (by decide +kernel))⟩
theorem ff_M_42 : xa_fldF xP "ClocklessGatesModel" 42 6 16 (.array .int) := ⟨_, _, _, _, k_M, by decide, rfl, rfl, rfl, xw_t (i := 762) (by decide +kernel) (by decide +kernel)⟩
theorem fg_M_45 : xa_fld xP "ClocklessGatesModel" 45 6 17 := ⟨_, _, _, _, k_M, by decide, Or.inl (xw_t (i := 763) (by decide +kernel) (by decide +kernel))⟩
theorem ff_M_45 : xa_fldF xP "ClocklessGatesModel" 45 6 17 (.array .int) := ⟨_, _, _, _, k_M, by decide, rfl, rfl, rfl, xw_t (i := 763) (by decide +kernel) (by decide +kernel)⟩
theorem fg_M_48 : xa_fld xP "ClocklessGatesModel" 48 6 18 := ⟨_, _, _, _, k_M, by decide, Or.inl (xw_t (i := 764) (by decide +kernel) (by decide +kernel))⟩
theorem ff_M_48 : xa_fldF xP "ClocklessGatesModel" 48 6 18 (.array .int) := ⟨_, _, _, _, k_M, by decide, rfl, rfl, rfl, xw_t (i := 764) (by decide +kernel) (by decide +kernel)⟩
theorem fg_M_51 : xa_fld xP "ClocklessGatesModel" 51 6 19 := ⟨_, _, _, _, k_M, by decide, Or.inl (xw_t (i := 765) (by decide +kernel) (by decide +kernel))⟩
theorem ff_M_51 : xa_fldF xP "ClocklessGatesModel" 51 6 19 (.array .int) := ⟨_, _, _, _, k_M, by decide, rfl, rfl, rfl, xw_t (i := 765) (by decide +kernel) (by decide +kernel)⟩
theorem fg_M_54 : xa_fld xP "ClocklessGatesModel" 54 6 20 := ⟨_, _, _, _, k_M, by decide, Or.inl (xw_t (i := 766) (by decide +kernel) (by decide +kernel))⟩
theorem ff_M_54 : xa_fldF xP "ClocklessGatesModel" 54 6 20 (.array .boolean) := ⟨_, _, _, _, k_M, by decide, rfl, rfl, rfl, xw_t (i := 766) (by decide +kernel) (by decide +kernel)⟩
theorem fg_M_57 : xa_fld xP "ClocklessGatesModel" 57 6 21 := ⟨_, _, _, _, k_M, by decide, Or.inl (xw_t (i := 767) (by decide +kernel) (by decide +kernel))⟩
theorem ff_M_57 : xa_fldF xP "ClocklessGatesModel" 57 6 21 (.array .int) := ⟨_, _, _, _, k_M, by decide, rfl, rfl, rfl, xw_t (i := 767) (by decide +kernel) (by decide +kernel)⟩
theorem fg_M_60 : xa_fld xP "ClocklessGatesModel" 60 6 22 := ⟨_, _, _, _, k_M, by decide, Or.inl (xw_t (i := 768) (by decide +kernel) (by decide +kernel))⟩
theorem ff_M_60 : xa_fldF xP "ClocklessGatesModel" 60 6 22 (.array .int) := ⟨_, _, _, _, k_M, by decide, rfl, rfl, rfl, xw_t (i := 768) (by decide +kernel) (by decide +kernel)⟩
theorem fg_M_63 : xa_fld xP "ClocklessGatesModel" 63 6 23 := ⟨_, _, _, _, k_M, by decide, Or.inl (xw_t (i := 769) (by decide +kernel) (by decide +kernel))⟩
theorem ff_M_63 : xa_fldF xP "ClocklessGatesModel" 63 6 23 (.array .int) := ⟨_, _, _, _, k_M, by decide, rfl, rfl, rfl, xw_t (i := 769) (by decide +kernel) (by decide +kernel)⟩
theorem fg_M_66 : xa_fld xP "ClocklessGatesModel" 66 6 24 := ⟨_, _, _, _, k_M, by decide, Or.inl (xw_t (i := 770) (by decide +kernel) (by decide +kernel))⟩
theorem ff_M_66 : xa_fldF xP "ClocklessGatesModel" 66 6 24 (.array .int) := ⟨_, _, _, _, k_M, by decide, rfl, rfl, rfl, xw_t (i := 770) (by decide +kernel) (by decide +kernel)⟩
theorem fg_M_69 : xa_fld xP "ClocklessGatesModel" 69 6 27 := ⟨_, _, _, _, k_M, by decide, Or.inl (xw_t (i := 773) (by decide +kernel) (by decide +kernel))⟩
theorem ff_M_69 : xa_fldF xP "ClocklessGatesModel" 69 6 27 (.array .int) := ⟨_, _, _, _, k_M, by decide, rfl, rfl, rfl, xw_t (i := 773) (by decide +kernel) (by decide +kernel)⟩
theorem fg_M_72 : xa_fld xP "ClocklessGatesModel" 72 6 28 := ⟨_, _, _, _, k_M, by decide, Or.inl (xw_t (i := 774) (by decide +kernel) (by decide +kernel))⟩
theorem ff_M_72 : xa_fldF xP "ClocklessGatesModel" 72 6 28 (.array .int) := ⟨_, _, _, _, k_M, by decide, rfl, rfl, rfl, xw_t (i := 774) (by decide +kernel) (by decide +kernel)⟩
theorem fg_M_75 : xa_fld xP "ClocklessGatesModel" 75 6 29 := ⟨_, _, _, _, k_M, by decide, Or.inl (xw_t (i := 775) (by decide +kernel) (by decide +kernel))⟩
theorem ff_M_75 : xa_fldF xP "ClocklessGatesModel" 75 6 29 (.array .boolean) := ⟨_, _, _, _, k_M, by decide, rfl, rfl, rfl, xw_t (i := 775) (by decide +kernel) (by decide +kernel)⟩
theorem fg_M_78 : xa_fld xP "ClocklessGatesModel" 78 6 0 := ⟨_, _, _, _, k_M, by decide, Or.inl (xw_t (i := 746) (by decide +kernel) (by decide +kernel))⟩
theorem fp_M_78 : xa_fldP xP "ClocklessGatesModel" 78 6 0 (.int) := ⟨_, _, _, _, k_M, by decide, rfl, rfl, Or.inl (xw_t (i := 746) (by decide +kernel) (by decide +kernel))⟩
theorem fg_M_81 : xa_fld xP "ClocklessGatesModel" 81 6 13 := ⟨_, _, _, _, k_M, by decide, Or.inl (xw_t (i := 759) (by decide +kernel) (by decide +kernel))⟩
theorem fp_M_81 : xa_fldP xP "ClocklessGatesModel" 81 6 13 (.int) := ⟨_, _, _, _, k_M, by decide, rfl, rfl, Or.inl (xw_t (i := 759) (by decide +kernel) (by decide +kernel))⟩
theorem fg_M_84 : xa_fld xP "ClocklessGatesModel" 84 6 1 := ⟨_, _, _, _, k_M, by decide, Or.inl (xw_t (i := 747) (by decide +kernel) (by decide +kernel))⟩
theorem fp_M_84 : xa_fldP xP "ClocklessGatesModel" 84 6 1 (.int) := ⟨_, _, _, _, k_M, by decide, rfl, rfl, Or.inl (xw_t (i := 747) (by decide +kernel) (by decide +kernel))⟩
theorem kv_M_87 : xa_lkV xP "ClocklessGatesModel" 87 6 104 0 := ⟨Or.inl (xw_t (i := 845) (by decide +kernel) (by decide +kernel)), xw_t (i := 847) (by decide +kernel) (by decide +kernel), ⟨_, _, rfl⟩, xw_s (i := 29) (q := (⟨"ClocklessGatesModel", "discard", "()V"⟩, 30)) (by decide +kernel) (by decide +kernel), my_M_discard, by decide +kernel⟩
theorem kv_M_90 : xa_lkV xP "ClocklessGatesModel" 90 6 106 1 := ⟨Or.inl (xw_t (i := 853) (by decide +kernel) (by decide +kernel)), xw_t (i := 855) (by decide +kernel) (by decide +kernel), ⟨_, _, rfl⟩, xw_s (i := 30) (q := (⟨"ClocklessGatesModel", "noSignal", "(I)Z"⟩, 30)) (by decide +kernel) (by decide +kernel), my_M_noSignal, by decide +kernel⟩
theorem fg_M_94 : xa_fld xP "ClocklessGatesModel" 94 6 4 := ⟨_, _, _, _, k_M, by decide, Or.inl (xw_t (i := 750) (by decide +kernel) (by decide +kernel))⟩
theorem fp_M_94 : xa_fldP xP "ClocklessGatesModel" 94 6 4 (.int) := ⟨_, _, _, _, k_M, by decide, rfl, rfl, Or.inl (xw_t (i := 750) (by decide +kernel) (by decide +kernel))⟩
theorem fg_M_97 : xa_fld xP "ClocklessGatesModel" 97 6 9 := ⟨_, _, _, _, k_M, by decide, Or.inl (xw_t (i := 755) (by decide +kernel) (by decide +kernel))⟩
theorem fp_M_97 : xa_fldP xP "ClocklessGatesModel" 97 6 9 (.int) := ⟨_, _, _, _, k_M, by decide, rfl, rfl, Or.inl (xw_t (i := 755) (by decide +kernel) (by decide +kernel))⟩
theorem fg_M_100 : xa_fld xP "ClocklessGatesModel" 100 6 10 := ⟨_, _, _, _, k_M, by decide, Or.inl (xw_t (i := 756) (by decide +kernel) (by decide +kernel))⟩
theorem fp_M_100 : xa_fldP xP "ClocklessGatesModel" 100 6 10 (.int) := ⟨_, _, _, _, k_M, by decide, rfl, rfl, Or.inl (xw_t (i := 756) (by decide +kernel) (by decide +kernel))⟩
theorem kv_M_103 : xa_lkV xP "ClocklessGatesModel" 103 6 111 2 := ⟨Or.inl (xw_t (i := 873) (by decide +kernel) (by decide +kernel)), xw_t (i := 875) (by decide +kernel) (by decide +kernel), ⟨_, _, rfl⟩, xw_s (i := 32) (q := (⟨"ClocklessGatesModel", "enabled", "(II)Z"⟩, 30)) (by decide +kernel) (by decide +kernel), my_M_enabled, by decide +kernel⟩
theorem kv_M_107 : xa_lkV xP "ClocklessGatesModel" 107 6 112 2 := ⟨Or.inl (xw_t (i := 877) (by decide +kernel) (by decide +kernel)), xw_t (i := 879) (by decide +kernel) (by decide +kernel), ⟨_, _, rfl⟩, xw_s (i := 33) (q := (⟨"ClocklessGatesModel", "safe", "(II)Z"⟩, 30)) (by decide +kernel) (by decide +kernel), my_M_safe, by decide +kernel⟩
theorem kv_M_110 : xa_lkV xP "ClocklessGatesModel" 110 6 113 2 := ⟨Or.inl (xw_t (i := 881) (by decide +kernel) (by decide +kernel)), xw_t (i := 883) (by decide +kernel) (by decide +kernel), ⟨_, _, rfl⟩, xw_s (i := 34) (q := (⟨"ClocklessGatesModel", "right", "(II)Z"⟩, 30)) (by decide +kernel) (by decide +kernel), my_M_right, by decide +kernel⟩
theorem kv_M_113 : xa_lkV xP "ClocklessGatesModel" 113 6 114 2 := ⟨Or.inl (xw_t (i := 885) (by decide +kernel) (by decide +kernel)), xw_t (i := 887) (by decide +kernel) (by decide +kernel), ⟨_, _, rfl⟩, xw_s (i := 35) (q := (⟨"ClocklessGatesModel", "markAfter", "(II)I"⟩, 30)) (by decide +kernel) (by decide +kernel), my_M_markAfter, by decide +kernel⟩
theorem kv_M_117 : xa_lkV xP "ClocklessGatesModel" 117 6 115 2 := ⟨Or.inl (xw_t (i := 889) (by decide +kernel) (by decide +kernel)), xw_t (i := 891) (by decide +kernel) (by decide +kernel), ⟨_, _, rfl⟩, xw_s (i := 36) (q := (⟨"ClocklessGatesModel", "codeAfter", "(II)I"⟩, 30)) (by decide +kernel) (by decide +kernel), my_M_codeAfter, by decide +kernel⟩
theorem kv_M_120 : xa_lkV xP "ClocklessGatesModel" 120 6 116 2 := ⟨Or.inl (xw_t (i := 893) (by decide +kernel) (by decide +kernel)), xw_t (i := 895) (by decide +kernel) (by decide +kernel), ⟨_, _, rfl⟩, xw_s (i := 37) (q := (⟨"ClocklessGatesModel", "find", "(II)I"⟩, 30)) (by decide +kernel) (by decide +kernel), my_M_find, by decide +kernel⟩
theorem kv_M_123 : xa_lkV xP "ClocklessGatesModel" 123 6 119 2 := ⟨Or.inl (xw_t (i := 905) (by decide +kernel) (by decide +kernel)), xw_t (i := 907) (by decide +kernel) (by decide +kernel), ⟨_, _, rfl⟩, xw_s (i := 40) (q := (⟨"ClocklessGatesModel", "sameEdge", "(II)Z"⟩, 30)) (by decide +kernel) (by decide +kernel), my_M_sameEdge, by decide +kernel⟩
theorem kv_M_126 : xa_lkV xP "ClocklessGatesModel" 126 6 120 2 := ⟨Or.inl (xw_t (i := 909) (by decide +kernel) (by decide +kernel)), xw_t (i := 911) (by decide +kernel) (by decide +kernel), ⟨_, _, rfl⟩, xw_s (i := 41) (q := (⟨"ClocklessGatesModel", "edgeEnabled", "(II)Z"⟩, 30)) (by decide +kernel) (by decide +kernel), my_M_edgeEnabled, by decide +kernel⟩
theorem kv_M_129 : xa_lkV xP "ClocklessGatesModel" 129 6 122 1 := ⟨Or.inl (xw_t (i := 917) (by decide +kernel) (by decide +kernel)), xw_t (i := 919) (by decide +kernel) (by decide +kernel), ⟨_, _, rfl⟩, xw_s (i := 43) (q := (⟨"ClocklessGatesModel", "excitedIn", "(I)I"⟩, 30)) (by decide +kernel) (by decide +kernel), my_M_excitedIn, by decide +kernel⟩
theorem kv_M_133 : xa_lkV xP "ClocklessGatesModel" 133 6 118 1 := ⟨Or.inl (xw_t (i := 901) (by decide +kernel) (by decide +kernel)), xw_t (i := 903) (by decide +kernel) (by decide +kernel), ⟨_, _, rfl⟩, xw_s (i := 39) (q := (⟨"ClocklessGatesModel", "loses", "(I)Z"⟩, 30)) (by decide +kernel) (by decide +kernel), my_M_loses, by decide +kernel⟩
theorem kv_M_136 : xa_lkV xP "ClocklessGatesModel" 136 6 121 1 := ⟨Or.inl (xw_t (i := 913) (by decide +kernel) (by decide +kernel)), xw_t (i := 915) (by decide +kernel) (by decide +kernel), ⟨_, _, rfl⟩, xw_s (i := 42) (q := (⟨"ClocklessGatesModel", "conflicts", "(I)Z"⟩, 30)) (by decide +kernel) (by decide +kernel), my_M_conflicts, by decide +kernel⟩
theorem kv_M_139 : xa_lkV xP "ClocklessGatesModel" 139 6 110 0 := ⟨Or.inl (xw_t (i := 869) (by decide +kernel) (by decide +kernel)), xw_t (i := 871) (by decide +kernel) (by decide +kernel), ⟨_, _, rfl⟩, xw_s (i := 31) (q := (⟨"ClocklessGatesModel", "explore", "()V"⟩, 30)) (by decide +kernel) (by decide +kernel), my_M_explore, by decide +kernel⟩
theorem kv_M_142 : xa_lkV xP "ClocklessGatesModel" 142 6 117 2 := ⟨Or.inl (xw_t (i := 897) (by decide +kernel) (by decide +kernel)), xw_t (i := 899) (by decide +kernel) (by decide +kernel), ⟨_, _, rfl⟩, xw_s (i := 38) (q := (⟨"ClocklessGatesModel", "bad", "(II)Z"⟩, 30)) (by decide +kernel) (by decide +kernel), my_M_bad, by decide +kernel⟩
theorem kv_M_145 : xa_lkV xP "ClocklessGatesModel" 145 6 124 0 := ⟨Or.inl (xw_t (i := 925) (by decide +kernel) (by decide +kernel)), xw_t (i := 927) (by decide +kernel) (by decide +kernel), ⟨_, _, rfl⟩, xw_s (i := 44) (q := (⟨"ClocklessGatesModel", "noGraph", "()Z"⟩, 30)) (by decide +kernel) (by decide +kernel), my_M_noGraph, by decide +kernel⟩
theorem kv_M_149 : xa_lkV xP "ClocklessGatesModel" 149 6 126 1 := ⟨Or.inl (xw_t (i := 933) (by decide +kernel) (by decide +kernel)), xw_t (i := 935) (by decide +kernel) (by decide +kernel), ⟨_, _, rfl⟩, xw_s (i := 45) (q := (⟨"ClocklessGatesModel", "noState", "(I)Z"⟩, 30)) (by decide +kernel) (by decide +kernel), my_M_noState, by decide +kernel⟩
theorem ks_M_152 : xa_lkS xP "ClocklessGatesModel" 152 135 1 := ⟨Or.inl (xw_t (i := 969) (by decide +kernel) (by decide +kernel)), xw_t (i := 970) (by decide +kernel) (by decide +kernel), xw_t (i := 7) (by decide +kernel) (by decide +kernel), my_M_three, by decide +kernel⟩
theorem kv_M_155 : xa_lkV xP "ClocklessGatesModel" 155 6 136 2 := ⟨Or.inl (xw_t (i := 972) (by decide +kernel) (by decide +kernel)), xw_t (i := 974) (by decide +kernel) (by decide +kernel), ⟨_, _, rfl⟩, xw_s (i := 49) (q := (⟨"ClocklessGatesModel", "covers", "(II)Z"⟩, 30)) (by decide +kernel) (by decide +kernel), my_M_covers, by decide +kernel⟩
theorem kv_M_158 : xa_lkV xP "ClocklessGatesModel" 158 6 141 1 := ⟨Or.inl (xw_t (i := 991) (by decide +kernel) (by decide +kernel)), xw_t (i := 993) (by decide +kernel) (by decide +kernel), ⟨_, _, rfl⟩, xw_s (i := 53) (q := (⟨"ClocklessGatesModel", "digits", "(I)I"⟩, 30)) (by decide +kernel) (by decide +kernel), my_M_digits, by decide +kernel⟩
theorem fg_M_161 : xa_fld xP "ClocklessGatesModel" 161 6 26 := ⟨_, _, _, _, k_M, by decide, Or.inl (xw_t (i := 772) (by decide +kernel) (by decide +kernel))⟩
theorem fp_M_161 : xa_fldP xP "ClocklessGatesModel" 161 6 26 (.boolean) := ⟨_, _, _, _, k_M, by decide, rfl, rfl, Or.inl (xw_t (i := 772) (by decide +kernel) (by decide +kernel))⟩
theorem fg_M_165 : xa_fld xP "ClocklessGatesModel" 165 6 25 := ⟨_, _, _, _, k_M, by decide, Or.inl (xw_t (i := 771) (by decide +kernel) (by decide +kernel))⟩
theorem fp_M_165 : xa_fldP xP "ClocklessGatesModel" 165 6 25 (.int) := ⟨_, _, _, _, k_M, by decide, rfl, rfl, Or.inl (xw_t (i := 771) (by decide +kernel) (by decide +kernel))⟩
theorem ks_M_168 : xa_lkS xP "ClocklessGatesModel" 168 138 2 := ⟨Or.inl (xw_t (i := 980) (by decide +kernel) (by decide +kernel)), xw_t (i := 981) (by decide +kernel) (by decide +kernel), xw_t (i := 7) (by decide +kernel) (by decide +kernel), my_M_open, by decide +kernel⟩
theorem kv_M_171 : xa_lkV xP "ClocklessGatesModel" 171 6 139 2 := ⟨Or.inl (xw_t (i := 983) (by decide +kernel) (by decide +kernel)), xw_t (i := 985) (by decide +kernel) (by decide +kernel), ⟨_, _, rfl⟩, xw_s (i := 51) (q := (⟨"ClocklessGatesModel", "nextPrime", "(II)I"⟩, 30)) (by decide +kernel) (by decide +kernel), my_M_nextPrime, by decide +kernel⟩
theorem kv_M_174 : xa_lkV xP "ClocklessGatesModel" 174 6 140 1 := ⟨Or.inl (xw_t (i := 987) (by decide +kernel) (by decide +kernel)), xw_t (i := 989) (by decide +kernel) (by decide +kernel), ⟨_, _, rfl⟩, xw_s (i := 52) (q := (⟨"ClocklessGatesModel", "judge", "(I)V"⟩, 30)) (by decide +kernel) (by decide +kernel), my_M_judge, by decide +kernel⟩
theorem kv_M_178 : xa_lkV xP "ClocklessGatesModel" 178 6 133 2 := ⟨Or.inl (xw_t (i := 961) (by decide +kernel) (by decide +kernel)), xw_t (i := 963) (by decide +kernel) (by decide +kernel), ⟨_, _, rfl⟩, xw_s (i := 47) (q := (⟨"ClocklessGatesModel", "codesOf", "(II)I"⟩, 30)) (by decide +kernel) (by decide +kernel), my_M_codesOf, by decide +kernel⟩
theorem kv_M_181 : xa_lkV xP "ClocklessGatesModel" 181 6 134 1 := ⟨Or.inl (xw_t (i := 965) (by decide +kernel) (by decide +kernel)), xw_t (i := 967) (by decide +kernel) (by decide +kernel), ⟨_, _, rfl⟩, xw_s (i := 48) (q := (⟨"ClocklessGatesModel", "tabulate", "(I)V"⟩, 30)) (by decide +kernel) (by decide +kernel), my_M_tabulate, by decide +kernel⟩
theorem kv_M_184 : xa_lkV xP "ClocklessGatesModel" 184 6 137 2 := ⟨Or.inl (xw_t (i := 976) (by decide +kernel) (by decide +kernel)), xw_t (i := 978) (by decide +kernel) (by decide +kernel), ⟨_, _, rfl⟩, xw_s (i := 50) (q := (⟨"ClocklessGatesModel", "tryCovers", "(II)V"⟩, 30)) (by decide +kernel) (by decide +kernel), my_M_tryCovers, by decide +kernel⟩
theorem kv_M_188 : xa_lkV xP "ClocklessGatesModel" 188 6 132 1 := ⟨Or.inl (xw_t (i := 957) (by decide +kernel) (by decide +kernel)), xw_t (i := 959) (by decide +kernel) (by decide +kernel), ⟨_, _, rfl⟩, xw_s (i := 46) (q := (⟨"ClocklessGatesModel", "leastSum", "(I)I"⟩, 30)) (by decide +kernel) (by decide +kernel), my_M_leastSum, by decide +kernel⟩
theorem kv_M_191 : xa_lkV xP "ClocklessGatesModel" 191 6 147 2 := ⟨Or.inl (xw_t (i := 1015) (by decide +kernel) (by decide +kernel)), xw_t (i := 1017) (by decide +kernel) (by decide +kernel), ⟨_, _, rfl⟩, xw_s (i := 54) (q := (⟨"ClocklessGatesModel", "valueOf", "(II)I"⟩, 30)) (by decide +kernel) (by decide +kernel), my_M_valueOf, by decide +kernel⟩
theorem kv_M_194 : xa_lkV xP "ClocklessGatesModel" 194 6 151 2 := ⟨Or.inl (xw_t (i := 1031) (by decide +kernel) (by decide +kernel)), xw_t (i := 1033) (by decide +kernel) (by decide +kernel), ⟨_, _, rfl⟩, xw_s (i := 57) (q := (⟨"ClocklessGatesModel", "acts", "(II)Z"⟩, 30)) (by decide +kernel) (by decide +kernel), my_M_acts, by decide +kernel⟩
theorem kv_M_197 : xa_lkV xP "ClocklessGatesModel" 197 6 150 2 := ⟨Or.inl (xw_t (i := 1027) (by decide +kernel) (by decide +kernel)), xw_t (i := 1029) (by decide +kernel) (by decide +kernel), ⟨_, _, rfl⟩, xw_s (i := 56) (q := (⟨"ClocklessGatesModel", "fires", "(II)Z"⟩, 30)) (by decide +kernel) (by decide +kernel), my_M_fires, by decide +kernel⟩
theorem kv_M_200 : xa_lkV xP "ClocklessGatesModel" 200 6 149 0 := ⟨Or.inl (xw_t (i := 1023) (by decide +kernel) (by decide +kernel)), xw_t (i := 1025) (by decide +kernel) (by decide +kernel), ⟨_, _, rfl⟩, xw_s (i := 55) (q := (⟨"ClocklessGatesModel", "comeTo", "()V"⟩, 30)) (by decide +kernel) (by decide +kernel), my_M_comeTo, by decide +kernel⟩
theorem kv_M_203 : xa_lkV xP "ClocklessGatesModel" 203 6 152 1 := ⟨Or.inl (xw_t (i := 1035) (by decide +kernel) (by decide +kernel)), xw_t (i := 1037) (by decide +kernel) (by decide +kernel), ⟨_, _, rfl⟩, xw_s (i := 58) (q := (⟨"ClocklessGatesModel", "hazard", "(I)Z"⟩, 30)) (by decide +kernel) (by decide +kernel), my_M_hazard, by decide +kernel⟩
theorem kv_M_206 : xa_lkV xP "ClocklessGatesModel" 206 6 153 1 := ⟨Or.inl (xw_t (i := 1039) (by decide +kernel) (by decide +kernel)), xw_t (i := 1041) (by decide +kernel) (by decide +kernel), ⟨_, _, rfl⟩, xw_s (i := 59) (q := (⟨"ClocklessGatesModel", "unexpected", "(I)Z"⟩, 30)) (by decide +kernel) (by decide +kernel), my_M_unexpected, by decide +kernel⟩
theorem kv_M_209 : xa_lkV xP "ClocklessGatesModel" 209 6 154 1 := ⟨Or.inl (xw_t (i := 1043) (by decide +kernel) (by decide +kernel)), xw_t (i := 1045) (by decide +kernel) (by decide +kernel), ⟨_, _, rfl⟩, xw_s (i := 60) (q := (⟨"ClocklessGatesModel", "missing", "(I)Z"⟩, 30)) (by decide +kernel) (by decide +kernel), my_M_missing, by decide +kernel⟩
