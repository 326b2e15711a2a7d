/-! The program: its classes, its methods, the words it rests on (printed by wip/whole/gen_prog.py). -/
def xgood : Cond → Bool
  | .methodLinkNest .. => true
  | .fieldLinkNest .. => true
  | .arrayOver _ => true
  | .stringRef .. => true
  | .castable .. => true
  | w => goodWord w
def xws : List Cond := lw_tbl.filter xgood
theorem xw_t {i : Nat} {w : Cond} (h : tables_1[i]? = some w) (hg : xgood w = true) : w ∈ xws := List.mem_filter.mpr ⟨List.mem_append_right _ (List.mem_of_getElem? h), hg⟩
theorem xw_s {i : Nat} {q : MethodName × Nat} (h : lw_privs[i]? = some q) (hg : xgood (Cond.selects q.1.cls q.1 q.1) = true) : Cond.selects q.1.cls q.1 q.1 ∈ xws := List.mem_filter.mpr ⟨List.mem_append_left _ (List.mem_map.mpr ⟨q, List.mem_of_getElem? h, rfl⟩), hg⟩
def xT_CG : u_T := fun k => match k with
  | 0 => ("ClocklessGates", "net", "LClocklessGates$Net;", true)
  | 1 => ("ClocklessGates", "graph", "LClocklessGates$Graph;", true)
  | 2 => ("ClocklessGates", "circuit", "LClocklessGates$Circuit;", true)
  | 3 => ("ClocklessGates", "leastSum", "LClocklessGates$LeastSum;", true)
  | 4 => ("ClocklessGates", "verdict", "I", false)
  | _ => ("ClocklessGates", "latestFault", "I", false)
def xt_CG : Nat → FieldType := fun k => match k with
  | 0 => .object "ClocklessGates$Net"
  | 1 => .object "ClocklessGates$Graph"
  | 2 => .object "ClocklessGates$Circuit"
  | 3 => .object "ClocklessGates$LeastSum"
  | 4 => .int
  | _ => .int
def xT_N : u_T := fun k => match k with
  | 0 => ("ClocklessGates$Net", "signalCount", "I", false)
  | 1 => ("ClocklessGates$Net", "edgeCount", "I", false)
  | 2 => ("ClocklessGates$Net", "placeCount", "I", false)
  | 3 => ("ClocklessGates$Net", "firstCode", "I", false)
  | 4 => ("ClocklessGates$Net", "firstMarking", "I", false)
  | 5 => ("ClocklessGates$Net", "outputEdges", "I", false)
  | 6 => ("ClocklessGates$Net", "inputs", "I", false)
  | 7 => ("ClocklessGates$Net", "edgeSignals", "[I", true)
  | 8 => ("ClocklessGates$Net", "edgeRises", "[Z", true)
  | 9 => ("ClocklessGates$Net", "placesBefore", "[I", true)
  | _ => ("ClocklessGates$Net", "placesBehind", "[I", true)
def xt_N : Nat → FieldType := fun k => match k with
  | 0 => .int
  | 1 => .int
  | 2 => .int
  | 3 => .int
  | 4 => .int
  | 5 => .int
  | 6 => .int
  | 7 => .array .int
  | 8 => .array .boolean
  | 9 => .array .int
  | _ => .array .int
def xT_G : u_T := fun k => match k with
  | 0 => ("ClocklessGates$Graph", "count", "I", false)
  | 1 => ("ClocklessGates$Graph", "faultState", "I", false)
  | 2 => ("ClocklessGates$Graph", "markings", "[I", true)
  | 3 => ("ClocklessGates$Graph", "codes", "[I", true)
  | 4 => ("ClocklessGates$Graph", "origins", "[I", true)
  | 5 => ("ClocklessGates$Graph", "excitedOutputs", "[I", true)
  | 6 => ("ClocklessGates$Graph", "enabledEdges", "[I", true)
  | 7 => ("ClocklessGates$Graph", "successors", "[I", true)
  | 8 => ("ClocklessGates$Graph", "tooBig", "Z", false)
  | 9 => ("ClocklessGates$Graph", "unsafeState", "I", false)
  | _ => ("ClocklessGates$Graph", "wrongState", "I", false)
def xt_G : Nat → FieldType := fun k => match k with
  | 0 => .int
  | 1 => .int
  | 2 => .array .int
  | 3 => .array .int
  | 4 => .array .int
  | 5 => .array .int
  | 6 => .array .int
  | 7 => .array .int
  | 8 => .boolean
  | 9 => .int
  | _ => .int
def xT_Ci : u_T := fun k => match k with
  | 0 => ("ClocklessGates$Circuit", "faultState", "I", false)
  | 1 => ("ClocklessGates$Circuit", "gates", "[LClocklessGates$Gate;", true)
  | 2 => ("ClocklessGates$Circuit", "drafts", "[LClocklessGates$Gate;", true)
  | 3 => ("ClocklessGates$Circuit", "reached", "[Z", true)
  | 4 => ("ClocklessGates$Circuit", "waiting", "[I", true)
  | _ => ("ClocklessGates$Circuit", "waitingCount", "I", false)
def xt_Ci : Nat → FieldType := fun k => match k with
  | 0 => .int
  | 1 => .array (.object "ClocklessGates$Gate")
  | 2 => .array (.object "ClocklessGates$Gate")
  | 3 => .array .boolean
  | 4 => .array .int
  | _ => .int
def xT_Ga : u_T := fun k => match k with
  | 0 => ("ClocklessGates$Gate", "count", "I", false)
  | 1 => ("ClocklessGates$Gate", "numbers", "[I", true)
  | _ => ("ClocklessGates$Gate", "covered", "I", false)
def xt_Ga : Nat → FieldType := fun k => match k with
  | 0 => .int
  | 1 => .array .int
  | _ => .int
def xT_L : u_T := fun k => match k with
  | 0 => ("ClocklessGates$LeastSum", "spans", "[I", true)
  | 1 => ("ClocklessGates$LeastSum", "primes", "[I", true)
  | 2 => ("ClocklessGates$LeastSum", "covers", "[I", true)
  | 3 => ("ClocklessGates$LeastSum", "costs", "[I", true)
  | 4 => ("ClocklessGates$LeastSum", "barredAt", "[I", true)
  | 5 => ("ClocklessGates$LeastSum", "taken", "[Z", true)
  | 6 => ("ClocklessGates$LeastSum", "best", "[Z", true)
  | 7 => ("ClocklessGates$LeastSum", "rivals", "[I", true)
  | 8 => ("ClocklessGates$LeastSum", "primeCount", "I", false)
  | 9 => ("ClocklessGates$LeastSum", "widestCover", "I", false)
  | _ => ("ClocklessGates$LeastSum", "bestCost", "I", false)
def xt_L : Nat → FieldType := fun k => match k with
  | 0 => .array .int
  | 1 => .array .int
  | 2 => .array .int
  | 3 => .array .int
  | 4 => .array .int
  | 5 => .array .boolean
  | 6 => .array .boolean
  | 7 => .array .int
  | 8 => .int
  | 9 => .int
  | _ => .int
def xT_M : u_T := fun k => match k with
  | 0 => ("ClocklessGatesModel", "code", "I", false)
  | 1 => ("ClocklessGatesModel", "signals", "I", false)
  | 2 => ("ClocklessGatesModel", "input", "[Z", true)
  | 3 => ("ClocklessGatesModel", "high", "[Z", true)
  | 4 => ("ClocklessGatesModel", "edges", "I", false)
  | 5 => ("ClocklessGatesModel", "of", "[I", true)
  | 6 => ("ClocklessGatesModel", "rises", "[Z", true)
  | 7 => ("ClocklessGatesModel", "before", "[I", true)
  | 8 => ("ClocklessGatesModel", "behind", "[I", true)
  | 9 => ("ClocklessGatesModel", "places", "I", false)
  | 10 => ("ClocklessGatesModel", "tokens", "I", false)
  | 11 => ("ClocklessGatesModel", "verdict", "I", false)
  | 12 => ("ClocklessGatesModel", "fault", "I", false)
  | 13 => ("ClocklessGatesModel", "count", "I", false)
  | 14 => ("ClocklessGatesModel", "marks", "[I", true)
  | 15 => ("ClocklessGatesModel", "codes", "[I", true)
  | 16 => ("ClocklessGatesModel", "ways", "[I", true)
  | 17 => ("ClocklessGatesModel", "many", "[I", true)
  | 18 => ("ClocklessGatesModel", "gate", "[I", true)
  | 19 => ("ClocklessGatesModel", "covered", "[I", true)
  | 20 => ("ClocklessGatesModel", "prime", "[Z", true)
  | 21 => ("ClocklessGatesModel", "chosen", "[I", true)
  | 22 => ("ClocklessGatesModel", "reached", "[I", true)
  | 23 => ("ClocklessGatesModel", "sorted", "[I", true)
  | 24 => ("ClocklessGatesModel", "best", "[I", true)
  | 25 => ("ClocklessGatesModel", "bestDigits", "I", false)
  | 26 => ("ClocklessGatesModel", "some", "Z", false)
  | 27 => ("ClocklessGatesModel", "newMany", "[I", true)
  | 28 => ("ClocklessGatesModel", "newGate", "[I", true)
  | _ => ("ClocklessGatesModel", "come", "[Z", true)
def xt_M : Nat → FieldType := fun k => match k with
  | 0 => .int
  | 1 => .int
  | 2 => .array .boolean
  | 3 => .array .boolean
  | 4 => .int
  | 5 => .array .int
  | 6 => .array .boolean
  | 7 => .array .int
  | 8 => .array .int
  | 9 => .int
  | 10 => .int
  | 11 => .int
  | 12 => .int
  | 13 => .int
  | 14 => .array .int
  | 15 => .array .int
  | 16 => .array .int
  | 17 => .array .int
  | 18 => .array .int
  | 19 => .array .int
  | 20 => .array .boolean
  | 21 => .array .int
  | 22 => .array .int
  | 23 => .array .int
  | 24 => .array .int
  | 25 => .int
  | 26 => .boolean
  | 27 => .array .int
  | 28 => .array .int
  | _ => .array .boolean
def xcl : List vw_C := [("ClocklessGates", xT_CG, 6), ("ClocklessGates$Net", xT_N, 11), ("ClocklessGates$Graph", xT_G, 11), ("ClocklessGates$Circuit", xT_Ci, 6), ("ClocklessGates$Gate", xT_Ga, 3), ("ClocklessGates$LeastSum", xT_L, 11), ("ClocklessGatesModel", xT_M, 30)]
def xMl : List xa_M := [
  (⟨"ClocklessGates", "<init>", "()V"⟩, prog_1_method_1_code, 1, none, []),
  (⟨"ClocklessGates$Net", "<init>", "()V"⟩, prog_6_method_1_code, 1, none, []),
  (⟨"ClocklessGates$Graph", "<init>", "()V"⟩, prog_4_method_1_code, 1, none, []),
  (⟨"ClocklessGates$Circuit", "<init>", "()V"⟩, prog_2_method_1_code, 2, none, []),
  (⟨"ClocklessGates$Gate", "<init>", "()V"⟩, prog_3_method_1_code, 1, none, []),
  (⟨"ClocklessGates$LeastSum", "<init>", "()V"⟩, prog_5_method_1_code, 1, none, []),
  (⟨"ClocklessGates$LeastSum", "spansOfAllProducts", "()[I"⟩, prog_5_method_2_code, 5, (some (Jvm.ClassFile.FieldType.array Jvm.ClassFile.FieldType.int)), []),
  (⟨"ClocklessGates", "analyse", "()I"⟩, prog_1_method_6_code, 1, (some Jvm.ClassFile.FieldType.int), []),
  (⟨"ClocklessGates", "discardResults", "()V"⟩, prog_1_method_21_code, 1, none, []),
  (⟨"ClocklessGates$Circuit", "clear", "()V"⟩, prog_2_method_2_code, 2, none, []),
  (⟨"ClocklessGates$Gate", "clear", "()V"⟩, prog_3_method_2_code, 1, none, []),
  (⟨"ClocklessGates$Graph", "build", "(LClocklessGates$Net;)V"⟩, prog_4_method_4_code, 3, none, []),
  (⟨"ClocklessGates$Graph", "addState", "(III)I"⟩, prog_4_method_8_code, 4, (some Jvm.ClassFile.FieldType.int), []),
  (⟨"ClocklessGates$Graph", "expand", "(LClocklessGates$Net;I)V"⟩, prog_4_method_5_code, 6, none, []),
  (⟨"ClocklessGates$Net", "isEnabled", "(II)Z"⟩, prog_6_method_11_code, 3, (some Jvm.ClassFile.FieldType.boolean), []),
  (⟨"ClocklessGates$Graph", "noteEnabled", "(LClocklessGates$Net;II)V"⟩, prog_4_method_6_code, 4, none, []),
  (⟨"ClocklessGates$Net", "edgeBit", "(I)I"⟩, prog_6_method_10_code, 2, (some Jvm.ClassFile.FieldType.int), []),
  (⟨"ClocklessGates$Net", "levelAfter", "(I)I"⟩, prog_6_method_9_code, 2, (some Jvm.ClassFile.FieldType.int), []),
  (⟨"ClocklessGates$Net", "signalOf", "(I)I"⟩, prog_6_method_8_code, 2, (some Jvm.ClassFile.FieldType.int), []),
  (⟨"ClocklessGates$Net", "isInput", "(I)Z"⟩, prog_6_method_7_code, 2, (some Jvm.ClassFile.FieldType.boolean), []),
  (⟨"ClocklessGates$Net", "isSafe", "(II)Z"⟩, prog_6_method_12_code, 3, (some Jvm.ClassFile.FieldType.boolean), []),
  (⟨"ClocklessGates$Net", "isRight", "(II)Z"⟩, prog_6_method_13_code, 3, (some Jvm.ClassFile.FieldType.boolean), []),
  (⟨"ClocklessGates$Graph", "fire", "(LClocklessGates$Net;II)I"⟩, prog_4_method_7_code, 7, (some Jvm.ClassFile.FieldType.int), []),
  (⟨"ClocklessGates$Net", "markingAfter", "(II)I"⟩, prog_6_method_14_code, 3, (some Jvm.ClassFile.FieldType.int), []),
  (⟨"ClocklessGates$Net", "codeAfter", "(II)I"⟩, prog_6_method_15_code, 4, (some Jvm.ClassFile.FieldType.int), []),
  (⟨"ClocklessGates$Graph", "judge", "(LClocklessGates$Net;)I"⟩, prog_4_method_9_code, 2, (some Jvm.ClassFile.FieldType.int), []),
  (⟨"ClocklessGates$Graph", "leastDisablingState", "(LClocklessGates$Net;)I"⟩, prog_4_method_10_code, 4, (some Jvm.ClassFile.FieldType.int), []),
  (⟨"ClocklessGates$Graph", "successor", "(II)I"⟩, prog_4_method_2_code, 3, (some Jvm.ClassFile.FieldType.int), []),
  (⟨"ClocklessGates$Graph", "losesEdge", "(LClocklessGates$Net;II)Z"⟩, prog_4_method_11_code, 5, (some Jvm.ClassFile.FieldType.boolean), []),
  (⟨"ClocklessGates$Graph", "leastConflictingState", "()I"⟩, prog_4_method_12_code, 3, (some Jvm.ClassFile.FieldType.int), []),
  (⟨"ClocklessGates", "fault", "()I"⟩, prog_1_method_12_code, 1, (some Jvm.ClassFile.FieldType.int), []),
  (⟨"ClocklessGatesLaw", "signal", "(LClocklessGates;ZZ[J)I"⟩, method_3_code, 5, (some Jvm.ClassFile.FieldType.int), [(0, 10, 13, 13)]),
  (⟨"ClocklessGates", "signal", "(ZZ)I"⟩, prog_1_method_2_code, 3, (some Jvm.ClassFile.FieldType.int), []),
  (⟨"ClocklessGates$Net", "addSignal", "(ZZ)I"⟩, prog_6_method_2_code, 4, (some Jvm.ClassFile.FieldType.int), []),
  (⟨"ClocklessGatesLaw", "edge", "(LClocklessGates;IZ[J)I"⟩, method_4_code, 5, (some Jvm.ClassFile.FieldType.int), [(0, 10, 13, 19), (0, 10, 17, 13)]),
  (⟨"ClocklessGates", "edge", "(IZ)I"⟩, prog_1_method_3_code, 3, (some Jvm.ClassFile.FieldType.int), []),
  (⟨"ClocklessGates", "requireSignal", "(I)V"⟩, prog_1_method_22_code, 2, none, []),
  (⟨"ClocklessGates$Net", "addEdge", "(IZ)I"⟩, prog_6_method_3_code, 3, (some Jvm.ClassFile.FieldType.int), []),
  (⟨"ClocklessGatesLaw", "place", "(LClocklessGates;Z[J)I"⟩, method_5_code, 4, (some Jvm.ClassFile.FieldType.int), [(0, 9, 12, 13)]),
  (⟨"ClocklessGates", "place", "(Z)I"⟩, prog_1_method_4_code, 2, (some Jvm.ClassFile.FieldType.int), []),
  (⟨"ClocklessGates$Net", "addPlace", "(Z)I"⟩, prog_6_method_4_code, 2, (some Jvm.ClassFile.FieldType.int), []),
  (⟨"ClocklessGatesLaw", "arc", "(LClocklessGates;IIZ)I"⟩, method_6_code, 5, (some Jvm.ClassFile.FieldType.int), [(0, 7, 10, 19), (0, 7, 14, 29)]),
  (⟨"ClocklessGates", "arc", "(IIZ)V"⟩, prog_1_method_5_code, 4, none, []),
  (⟨"ClocklessGates$Net", "hasArc", "(IIZ)Z"⟩, prog_6_method_6_code, 5, (some Jvm.ClassFile.FieldType.boolean), []),
  (⟨"ClocklessGates$Net", "addArc", "(IIZ)V"⟩, prog_6_method_5_code, 4, none, []),
  (⟨"ClocklessGatesLaw", "states", "(LClocklessGates;[J)I"⟩, method_7_code, 3, (some Jvm.ClassFile.FieldType.int), [(0, 8, 11, 13)]),
  (⟨"ClocklessGates", "states", "()I"⟩, prog_1_method_7_code, 1, (some Jvm.ClassFile.FieldType.int), []),
  (⟨"ClocklessGates", "requireGraph", "()V"⟩, prog_1_method_23_code, 1, none, []),
  (⟨"ClocklessGatesLaw", "code", "(LClocklessGates;I[J)I"⟩, method_8_code, 4, (some Jvm.ClassFile.FieldType.int), [(0, 9, 12, 13), (0, 9, 15, 19)]),
  (⟨"ClocklessGates", "code", "(I)I"⟩, prog_1_method_8_code, 2, (some Jvm.ClassFile.FieldType.int), []),
  (⟨"ClocklessGates", "requireState", "(I)V"⟩, prog_1_method_24_code, 2, none, []),
  (⟨"ClocklessGatesLaw", "marking", "(LClocklessGates;I[J)I"⟩, method_9_code, 4, (some Jvm.ClassFile.FieldType.int), [(0, 9, 12, 13), (0, 9, 15, 19)]),
  (⟨"ClocklessGates", "marking", "(I)I"⟩, prog_1_method_9_code, 2, (some Jvm.ClassFile.FieldType.int), []),
  (⟨"ClocklessGatesLaw", "found", "(LClocklessGates;I[J)I"⟩, method_10_code, 4, (some Jvm.ClassFile.FieldType.int), [(0, 9, 12, 13), (0, 9, 15, 19)]),
  (⟨"ClocklessGates", "found", "(I)I"⟩, prog_1_method_10_code, 2, (some Jvm.ClassFile.FieldType.int), []),
  (⟨"ClocklessGatesLaw", "excited", "(LClocklessGates;I[J)I"⟩, method_11_code, 4, (some Jvm.ClassFile.FieldType.int), [(0, 9, 12, 13), (0, 9, 15, 19)]),
  (⟨"ClocklessGates", "excited", "(I)I"⟩, prog_1_method_11_code, 2, (some Jvm.ClassFile.FieldType.int), []),
  (⟨"ClocklessGatesLaw", "synthesise", "(LClocklessGates;[J)I"⟩, method_12_code, 3, (some Jvm.ClassFile.FieldType.int), [(0, 8, 11, 13), (0, 8, 14, 51)]),
  (⟨"ClocklessGates", "synthesise", "()I"⟩, prog_1_method_13_code, 3, (some Jvm.ClassFile.FieldType.int), []),
  (⟨"ClocklessGates", "requireFine", "()V"⟩, prog_1_method_25_code, 1, none, []),
  (⟨"ClocklessGates", "makeDraft", "(I)Z"⟩, prog_1_method_20_code, 4, (some Jvm.ClassFile.FieldType.boolean), []),
  (⟨"ClocklessGates$Graph", "codesWithNext", "(II)I"⟩, prog_4_method_13_code, 7, (some Jvm.ClassFile.FieldType.int), []),
  (⟨"ClocklessGates$Graph", "isExcited", "(II)Z"⟩, prog_4_method_3_code, 3, (some Jvm.ClassFile.FieldType.boolean), []),
  (⟨"ClocklessGates$LeastSum", "find", "(III)Z"⟩, prog_5_method_4_code, 4, (some Jvm.ClassFile.FieldType.boolean), []),
  (⟨"ClocklessGates$LeastSum", "collectPrimes", "(III)V"⟩, prog_5_method_6_code, 6, none, []),
  (⟨"ClocklessGates$LeastSum", "isPrime", "(III)Z"⟩, prog_5_method_7_code, 6, (some Jvm.ClassFile.FieldType.boolean), []),
  (⟨"ClocklessGates$LeastSum", "digit", "(II)I"⟩, prog_5_method_9_code, 2, (some Jvm.ClassFile.FieldType.int), []),
  (⟨"ClocklessGates$LeastSum", "fixedDigits", "(II)I"⟩, prog_5_method_8_code, 4, (some Jvm.ClassFile.FieldType.int), []),
  (⟨"java/lang/Integer", "bitCount", "(I)I"⟩, prog_13_method_49_code, 1, (some Jvm.ClassFile.FieldType.int), []),
  (⟨"ClocklessGates$LeastSum", "countRivals", "()V"⟩, prog_5_method_10_code, 3, none, []),
  (⟨"ClocklessGates$LeastSum", "search", "(LClocklessGates$LeastSum;III)V"⟩, prog_5_method_11_code, 6, none, []),
  (⟨"ClocklessGates$LeastSum", "keepIfLess", "(I)V"⟩, prog_5_method_15_code, 3, none, []),
  (⟨"ClocklessGates$LeastSum", "takenComesFirst", "()Z"⟩, prog_5_method_16_code, 2, (some Jvm.ClassFile.FieldType.boolean), []),
  (⟨"ClocklessGates$LeastSum", "leastCostOf", "(I)I"⟩, prog_5_method_13_code, 2, (some Jvm.ClassFile.FieldType.int), []),
  (⟨"ClocklessGates$LeastSum", "codeWithFewestRivals", "(I)I"⟩, prog_5_method_14_code, 5, (some Jvm.ClassFile.FieldType.int), []),
  (⟨"ClocklessGates$LeastSum", "liftBars", "(I)V"⟩, prog_5_method_12_code, 3, none, []),
  (⟨"ClocklessGates$LeastSum", "giveTo", "(LClocklessGates$Gate;)V"⟩, prog_5_method_5_code, 3, none, []),
  (⟨"ClocklessGates$Gate", "add", "(II)I"⟩, prog_3_method_3_code, 3, (some Jvm.ClassFile.FieldType.int), []),
  (⟨"ClocklessGates$Circuit", "adoptDrafts", "()V"⟩, prog_2_method_3_code, 3, none, []),
  (⟨"ClocklessGatesLaw", "products", "(LClocklessGates;I[J)I"⟩, method_13_code, 4, (some Jvm.ClassFile.FieldType.int), [(0, 9, 12, 19)]),
  (⟨"ClocklessGates", "products", "(I)I"⟩, prog_1_method_14_code, 2, (some Jvm.ClassFile.FieldType.int), []),
  (⟨"ClocklessGatesLaw", "product", "(LClocklessGates;II[J)I"⟩, method_14_code, 5, (some Jvm.ClassFile.FieldType.int), [(0, 10, 13, 19)]),
  (⟨"ClocklessGates", "product", "(II)I"⟩, prog_1_method_15_code, 3, (some Jvm.ClassFile.FieldType.int), []),
  (⟨"ClocklessGatesLaw", "append", "(LClocklessGates;II[J)I"⟩, method_15_code, 5, (some Jvm.ClassFile.FieldType.int), [(0, 10, 13, 19), (0, 10, 17, 29), (0, 10, 21, 13)]),
  (⟨"ClocklessGates", "append", "(II)I"⟩, prog_1_method_16_code, 3, (some Jvm.ClassFile.FieldType.int), []),
  (⟨"ClocklessGates$LeastSum", "spanOf", "(I)I"⟩, prog_5_method_3_code, 2, (some Jvm.ClassFile.FieldType.int), []),
  (⟨"ClocklessGatesLaw", "strip", "(LClocklessGates;I)I"⟩, method_16_code, 3, (some Jvm.ClassFile.FieldType.int), [(0, 5, 8, 19)]),
  (⟨"ClocklessGates", "strip", "(I)V"⟩, prog_1_method_17_code, 2, none, []),
  (⟨"ClocklessGatesLaw", "value", "(LClocklessGates;II[J)I"⟩, method_17_code, 5, (some Jvm.ClassFile.FieldType.int), [(0, 10, 13, 19)]),
  (⟨"ClocklessGates", "value", "(II)I"⟩, prog_1_method_18_code, 3, (some Jvm.ClassFile.FieldType.int), []),
  (⟨"ClocklessGates$Gate", "output", "(I)I"⟩, prog_3_method_4_code, 2, (some Jvm.ClassFile.FieldType.int), []),
  (⟨"ClocklessGatesLaw", "check", "(LClocklessGates;[J)I"⟩, method_18_code, 3, (some Jvm.ClassFile.FieldType.int), [(0, 8, 11, 13)]),
  (⟨"ClocklessGates", "check", "()I"⟩, prog_1_method_19_code, 2, (some Jvm.ClassFile.FieldType.int), []),
  (⟨"ClocklessGates$Circuit", "explore", "(LClocklessGates$Net;LClocklessGates$Graph;)I"⟩, prog_2_method_4_code, 4, (some Jvm.ClassFile.FieldType.int), []),
  (⟨"ClocklessGates$Circuit", "reachStates", "(LClocklessGates$Net;LClocklessGates$Graph;)V"⟩, prog_2_method_5_code, 6, none, []),
  (⟨"ClocklessGates$Circuit", "reach", "(I)V"⟩, prog_2_method_6_code, 2, none, []),
  (⟨"ClocklessGates$Circuit", "mayFire", "(LClocklessGates$Net;LClocklessGates$Graph;II)Z"⟩, prog_2_method_7_code, 6, (some Jvm.ClassFile.FieldType.boolean), []),
  (⟨"ClocklessGates$Circuit", "leastFaultyState", "(LClocklessGates$Net;LClocklessGates$Graph;I)I"⟩, prog_2_method_9_code, 6, (some Jvm.ClassFile.FieldType.int), []),
  (⟨"ClocklessGates$Circuit", "isFaulty", "(LClocklessGates$Net;LClocklessGates$Graph;III)Z"⟩, prog_2_method_10_code, 7, (some Jvm.ClassFile.FieldType.boolean), []),
  (⟨"ClocklessGates$Circuit", "acts", "(II)Z"⟩, prog_2_method_8_code, 3, (some Jvm.ClassFile.FieldType.boolean), []),
  (⟨"ClocklessGates$Circuit", "mayStopActing", "(LClocklessGates$Net;LClocklessGates$Graph;II)Z"⟩, prog_2_method_11_code, 6, (some Jvm.ClassFile.FieldType.boolean), []),
  (⟨"ClocklessGatesModel", "<init>", "()V"⟩, prog_8_method_1_code, 1, none, []),
  (⟨"ClocklessGatesModel", "thrown", "()I"⟩, prog_8_method_2_code, 1, (some Jvm.ClassFile.FieldType.int), []),
  (⟨"ClocklessGatesModel", "signal", "(ZZ)I"⟩, prog_8_method_4_code, 3, (some Jvm.ClassFile.FieldType.int), []),
  (⟨"ClocklessGatesModel", "discard", "()V"⟩, prog_8_method_3_code, 2, none, []),
  (⟨"ClocklessGatesModel", "edge", "(IZ)I"⟩, prog_8_method_6_code, 3, (some Jvm.ClassFile.FieldType.int), []),
  (⟨"ClocklessGatesModel", "noSignal", "(I)Z"⟩, prog_8_method_5_code, 2, (some Jvm.ClassFile.FieldType.boolean), []),
  (⟨"ClocklessGatesModel", "place", "(Z)I"⟩, prog_8_method_7_code, 2, (some Jvm.ClassFile.FieldType.int), []),
  (⟨"ClocklessGatesModel", "arc", "(IIZ)V"⟩, prog_8_method_8_code, 6, none, []),
  (⟨"ClocklessGatesModel", "analyse", "()I"⟩, prog_8_method_22_code, 3, (some Jvm.ClassFile.FieldType.int), []),
  (⟨"ClocklessGatesModel", "explore", "()V"⟩, prog_8_method_15_code, 3, none, []),
  (⟨"ClocklessGatesModel", "enabled", "(II)Z"⟩, prog_8_method_9_code, 3, (some Jvm.ClassFile.FieldType.boolean), []),
  (⟨"ClocklessGatesModel", "safe", "(II)Z"⟩, prog_8_method_10_code, 3, (some Jvm.ClassFile.FieldType.boolean), []),
  (⟨"ClocklessGatesModel", "right", "(II)Z"⟩, prog_8_method_11_code, 3, (some Jvm.ClassFile.FieldType.boolean), []),
  (⟨"ClocklessGatesModel", "markAfter", "(II)I"⟩, prog_8_method_12_code, 3, (some Jvm.ClassFile.FieldType.int), []),
  (⟨"ClocklessGatesModel", "codeAfter", "(II)I"⟩, prog_8_method_13_code, 3, (some Jvm.ClassFile.FieldType.int), []),
  (⟨"ClocklessGatesModel", "find", "(II)I"⟩, prog_8_method_14_code, 4, (some Jvm.ClassFile.FieldType.int), []),
  (⟨"ClocklessGatesModel", "bad", "(II)Z"⟩, prog_8_method_21_code, 4, (some Jvm.ClassFile.FieldType.boolean), []),
  (⟨"ClocklessGatesModel", "loses", "(I)Z"⟩, prog_8_method_18_code, 5, (some Jvm.ClassFile.FieldType.boolean), []),
  (⟨"ClocklessGatesModel", "sameEdge", "(II)Z"⟩, prog_8_method_16_code, 3, (some Jvm.ClassFile.FieldType.boolean), []),
  (⟨"ClocklessGatesModel", "edgeEnabled", "(II)Z"⟩, prog_8_method_17_code, 4, (some Jvm.ClassFile.FieldType.boolean), []),
  (⟨"ClocklessGatesModel", "conflicts", "(I)Z"⟩, prog_8_method_20_code, 3, (some Jvm.ClassFile.FieldType.boolean), []),
  (⟨"ClocklessGatesModel", "excitedIn", "(I)I"⟩, prog_8_method_19_code, 4, (some Jvm.ClassFile.FieldType.int), []),
  (⟨"ClocklessGatesModel", "states", "()I"⟩, prog_8_method_24_code, 1, (some Jvm.ClassFile.FieldType.int), []),
  (⟨"ClocklessGatesModel", "noGraph", "()Z"⟩, prog_8_method_23_code, 1, (some Jvm.ClassFile.FieldType.boolean), []),
  (⟨"ClocklessGatesModel", "code", "(I)I"⟩, prog_8_method_26_code, 2, (some Jvm.ClassFile.FieldType.int), []),
  (⟨"ClocklessGatesModel", "noState", "(I)Z"⟩, prog_8_method_25_code, 2, (some Jvm.ClassFile.FieldType.boolean), []),
  (⟨"ClocklessGatesModel", "marking", "(I)I"⟩, prog_8_method_27_code, 2, (some Jvm.ClassFile.FieldType.int), []),
  (⟨"ClocklessGatesModel", "found", "(I)I"⟩, prog_8_method_28_code, 2, (some Jvm.ClassFile.FieldType.int), []),
  (⟨"ClocklessGatesModel", "excited", "(I)I"⟩, prog_8_method_29_code, 2, (some Jvm.ClassFile.FieldType.int), []),
  (⟨"ClocklessGatesModel", "fault", "()I"⟩, prog_8_method_30_code, 1, (some Jvm.ClassFile.FieldType.int), []),
  (⟨"ClocklessGatesModel", "synthesise", "()I"⟩, prog_8_method_41_code, 4, (some Jvm.ClassFile.FieldType.int), []),
  (⟨"ClocklessGatesModel", "leastSum", "(I)I"⟩, prog_8_method_40_code, 4, (some Jvm.ClassFile.FieldType.int), []),
  (⟨"ClocklessGatesModel", "codesOf", "(II)I"⟩, prog_8_method_34_code, 6, (some Jvm.ClassFile.FieldType.int), []),
  (⟨"ClocklessGatesModel", "tabulate", "(I)V"⟩, prog_8_method_35_code, 7, none, []),
  (⟨"ClocklessGatesModel", "three", "(I)I"⟩, prog_8_method_31_code, 3, (some Jvm.ClassFile.FieldType.int), []),
  (⟨"ClocklessGatesModel", "covers", "(II)Z"⟩, prog_8_method_32_code, 5, (some Jvm.ClassFile.FieldType.boolean), []),
  (⟨"ClocklessGatesModel", "tryCovers", "(II)V"⟩, prog_8_method_39_code, 6, none, []),
  (⟨"ClocklessGatesModel", "open", "(II)I"⟩, prog_8_method_37_code, 3, (some Jvm.ClassFile.FieldType.int), []),
  (⟨"ClocklessGatesModel", "nextPrime", "(II)I"⟩, prog_8_method_36_code, 5, (some Jvm.ClassFile.FieldType.int), []),
  (⟨"ClocklessGatesModel", "judge", "(I)V"⟩, prog_8_method_38_code, 5, none, []),
  (⟨"ClocklessGatesModel", "digits", "(I)I"⟩, prog_8_method_33_code, 4, (some Jvm.ClassFile.FieldType.int), []),
  (⟨"ClocklessGatesModel", "products", "(I)I"⟩, prog_8_method_42_code, 2, (some Jvm.ClassFile.FieldType.int), []),
  (⟨"ClocklessGatesModel", "product", "(II)I"⟩, prog_8_method_43_code, 3, (some Jvm.ClassFile.FieldType.int), []),
  (⟨"ClocklessGatesModel", "append", "(II)I"⟩, prog_8_method_44_code, 3, (some Jvm.ClassFile.FieldType.int), []),
  (⟨"ClocklessGatesModel", "strip", "(I)V"⟩, prog_8_method_45_code, 2, none, []),
  (⟨"ClocklessGatesModel", "value", "(II)I"⟩, prog_8_method_47_code, 3, (some Jvm.ClassFile.FieldType.int), []),
  (⟨"ClocklessGatesModel", "valueOf", "(II)I"⟩, prog_8_method_46_code, 4, (some Jvm.ClassFile.FieldType.int), []),
  (⟨"ClocklessGatesModel", "check", "()I"⟩, prog_8_method_54_code, 3, (some Jvm.ClassFile.FieldType.int), []),
  (⟨"ClocklessGatesModel", "comeTo", "()V"⟩, prog_8_method_50_code, 5, none, []),
  (⟨"ClocklessGatesModel", "fires", "(II)Z"⟩, prog_8_method_49_code, 3, (some Jvm.ClassFile.FieldType.boolean), []),
  (⟨"ClocklessGatesModel", "acts", "(II)Z"⟩, prog_8_method_48_code, 3, (some Jvm.ClassFile.FieldType.boolean), []),
  (⟨"ClocklessGatesModel", "hazard", "(I)Z"⟩, prog_8_method_53_code, 5, (some Jvm.ClassFile.FieldType.boolean), []),
  (⟨"ClocklessGatesModel", "unexpected", "(I)Z"⟩, prog_8_method_51_code, 3, (some Jvm.ClassFile.FieldType.boolean), []),
  (⟨"ClocklessGatesModel", "missing", "(I)Z"⟩, prog_8_method_52_code, 3, (some Jvm.ClassFile.FieldType.boolean), []),
  (⟨"ClocklessGatesLaw", "law", "([I)Z"⟩, code, 7, ret, [])]
def xM (i : Nat) : xa_M := xMl.getD i (⟨"", "", ""⟩, ⟨#[]⟩, 0, none, [])
def xP : xa_P := (xM, xcl, xws, "ClocklessGates", "POWER_OF_THREE", "ClocklessGates$Gate")
theorem k_CG : xa_k xP 0 "ClocklessGates" xT_CG 6 xt_CG := ⟨rfl, by decide +kernel, by decide +kernel, by decide +kernel⟩
theorem k_N : xa_k xP 1 "ClocklessGates$Net" xT_N 11 xt_N := ⟨rfl, by decide +kernel, by decide +kernel, by decide +kernel⟩
theorem k_G : xa_k xP 2 "ClocklessGates$Graph" xT_G 11 xt_G := ⟨rfl, by decide +kernel, by decide +kernel, by decide +kernel⟩
theorem k_Ci : xa_k xP 3 "ClocklessGates$Circuit" xT_Ci 6 xt_Ci := ⟨rfl, by decide +kernel, by decide +kernel, by decide +kernel⟩
theorem k_Ga : xa_k xP 4 "ClocklessGates$Gate" xT_Ga 3 xt_Ga := ⟨rfl, by decide +kernel, by decide +kernel, by decide +kernel⟩
theorem k_L : xa_k xP 5 "ClocklessGates$LeastSum" xT_L 11 xt_L := ⟨rfl, by decide +kernel, by decide +kernel, by decide +kernel⟩
theorem k_M : xa_k xP 6 "ClocklessGatesModel" xT_M 30 xt_M := ⟨rfl, by decide +kernel, by decide +kernel, by decide +kernel⟩
