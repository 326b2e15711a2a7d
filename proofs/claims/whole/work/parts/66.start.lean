/-! The start: words that hold on, the state at the law's entry, the law's first steps. -/
section XWords
/-- a word that holds from s on, whatever was noted and made since, where the old cells outside A are as they were -/
def xkw (A : Nat → Prop) (s : State) (w : Cond) : Prop := ∀ (a' : Array Value) (U : State), s.WarmedH U.vm → (∀ q : Nat, q < s.heap.size → ¬ A q → U.heap[q]? = s.heap[q]?) → w.before a' U = true
theorem xkw_k {A : Nat → Prop} {s : State} {w : Cond} {args : Array Value} (h1 : w.onTables = true) (h2 : w.keepsH = true) (h : w.before args s = true) : xkw A s w := fun a' U hW _ => Cond.onTables_warmH (T := U) hW h1 h2 h
theorem xkw_ca {A : Nat → Prop} {s : State} {args : Array Value} {C D : String} (h : (Cond.castable C D).before args s = true) : xkw A s (.castable C D) := fun a' U hW _ => by
  simp only [Cond.before, Cond.holds, Cond.value, hW.alike.findClass, hW.alike.assignable] at h ⊢
  exact h
theorem xkw_nc {A : Nat → Prop} {s : State} {args : Array Value} {C D : String} (h : (Cond.not (.castable C D)).before args s = true) : xkw A s (.not (.castable C D)) := fun a' U hW _ => by
  simp only [Cond.before, Cond.holds, Cond.value, hW.alike.findClass, hW.alike.assignable] at h ⊢
  exact h
theorem xkw_ao {A : Nat → Prop} {s : State} {args : Array Value} {C : String} (h : (Cond.arrayOver (.object C)).before args s = true) : xkw A s (.arrayOver (.object C)) := fun a' U hW _ => va_AO.use (va_AO.moved hW.alike (va_AO.of h))
theorem xkw_ac {A : Nat → Prop} {s : State} {args : Array Value} {t : FieldType} (h : (Cond.arrayClass t).before args s = true) : xkw A s (.arrayClass t) := fun a' U hW _ => word_at hW (Or.inr ⟨t, rfl⟩) h
theorem xkw_sr {A : Nat → Prop} {s : State} {args : Array Value} {C t : String} {i : Nat} (h : (Cond.stringRef C i t).before args s = true) : xkw A s (.stringRef C i t) := fun a' U hW _ => by
  have h1 := Cond.stringRef_warmed hW h
  exact h1
theorem xkw_de {A : Nat → Prop} {s : State} {args : Array Value} {x : MethodName} (h : (Cond.declares x).before args s = true) : xkw A s (.declares x) := fun a' U hW _ => by
  have h2 : (Cond.declares x).before args (s.setVm U.vm) = true := by
    simp only [Cond.before, Cond.holds, Cond.value, State.vm_setVm, State.methodNamed?_setVm hW.alike, hW.alike.method?] at h ⊢
    have e : U.vm.method? = s.vm.method? := by funext m; exact hW.alike.method? m
    rw [e]
    exact h
  exact h2
theorem xkw_ls {A : Nat → Prop} {s : State} {args : Array Value} {C n d : String} (hA : ∀ q, q < s.heap.size → ¬ A q) (h : (Cond.laysStatic C n d).before args s = true) : xkw A s (.laysStatic C n d) := fun a' U hW hk => by
  have h1 : (Cond.laysStatic C n d).holds args (s.setVm U.vm) none (s.setVm U.vm) [] = true := Cond.holds_shiftedH (State.Shifted.of_warmed hW) (fun m x hx => by rw [hW.hostNow]; exact hx) _ [] rfl h
  obtain ⟨c, k, i, f, a, cell, e1, e2, e3, e4, e5, e6, e7, e8, e9⟩ := Cond.laysStatic_spec h1
  have e5' : s.heap[a]? = some cell := e5
  have e1' : U.vm.findClass C = some c := e1
  have e2' : U.fieldFound? C n d = some (c, k, i, f) := e2
  have e10 : U.heap[a]? = some cell := by
    rw [hk a (Array.getElem?_eq_some_iff.mp e5').1 (hA a (Array.getElem?_eq_some_iff.mp e5').1)]; exact e5'
  simp [Cond.before, Cond.holds, Cond.value, e1', e2', e3, e4, e10, e6, e7, e8, e9]
theorem xkw_ir {A : Nat → Prop} {s : State} {args : Array Value} {C n d : String} (hA : ∀ q, q < s.heap.size → ¬ A q) (h : (Cond.isRef (.static C n d)).before args s = true) : xkw A s (.isRef (.static C n d)) := fun a' U hW hk => by
  have h1 : (Cond.isRef (.static C n d)).holds args (s.setVm U.vm) none (s.setVm U.vm) [] = true := Cond.holds_shiftedH (State.Shifted.of_warmed hW) (fun m x hx => by rw [hW.hostNow]; exact hx) _ [] rfl h
  simp only [Cond.before, Cond.holds, Cond.value, Term.eval, Option.bind_eq_bind] at h1 ⊢
  have ef : U.fieldNamed? C n d true = (s.setVm U.vm).fieldNamed? C n d true := rfl
  rw [ef]
  cases hf : (s.setVm U.vm).fieldNamed? C n d true with
  | none => rw [hf] at h1; simp at h1
  | some x =>
    obtain ⟨c, k, sl⟩ := x
    rw [hf] at h1
    simp only [Option.bind_some] at h1 ⊢
    cases hs : k.statics with
    | none => rw [hs] at h1; simp at h1
    | some a =>
      rw [hs] at h1
      simp only [Option.bind_some] at h1 ⊢
      cases hh : s.heap[a]? with
      | none =>
        have hh' : (s.setVm U.vm).heap[a]? = none := hh
        rw [hh'] at h1; simp at h1
      | some cell =>
        have hh' : (s.setVm U.vm).heap[a]? = some cell := hh
        have hl := (Array.getElem?_eq_some_iff.mp hh).1
        rw [hh'] at h1
        rw [hk a hl (hA a hl), hh]
        exact h1
end XWords
section XStart
/-- the kinds of words that hold on -/
def xok : Cond → Bool
  | .arrayClass _ => true
  | .stringRef .. => true
  | .castable .. => true
  | .not (.castable ..) => true
  | .arrayOver (.object _) => true
  | .declares _ => true
  | .laysStatic .. => true
  | .isRef (.static ..) => true
  | w => w.onTables && w.keepsH
theorem xok_cl {A : Nat → Prop} {s : State} {w : Cond} {args : Array Value} (hA : ∀ q, q < s.heap.size → ¬ A q) (h : xok w = true) (hb : w.before args s = true) : xkw A s w := by
  unfold xok at h
  split at h
  · exact xkw_ac hb
  · exact xkw_sr hb
  · exact xkw_ca hb
  · exact xkw_nc hb
  · exact xkw_ao hb
  · exact xkw_de hb
  · exact xkw_ls hA hb
  · exact xkw_ir hA hb
  · rw [Bool.and_eq_true] at h
    exact xkw_k h.1 h.2 hb
set_option maxRecDepth 100000 in
theorem xgood_ok : lw_tbl.all (fun w => !xgood w || xok w) = true := by decide +kernel
/-- xgood words, whatever the heap -/
def xok2 : Cond → Bool
  | .arrayClass _ => true
  | .stringRef .. => true
  | .castable .. => true
  | .arrayOver (.object _) => true
  | w => w.onTables && w.keepsH
set_option maxRecDepth 100000 in
theorem xgood_ok2 : lw_tbl.all (fun w => !xgood w || xok2 w) = true := by decide +kernel
theorem xws_cl {s : State} {args : Array Value} (hts : ∀ w ∈ lw_tbl, w.before args s = true) : ∀ w ∈ xws, ∀ (a' : Array Value) (U : State), s.WarmedH U.vm → w.before a' U = true := by
  intro w hw a' U hW
  obtain ⟨h1, h2⟩ := List.mem_filter.mp hw
  have h3 := List.all_eq_true.mp xgood_ok2 w h1
  rw [h2] at h3
  have h3 : xok2 w = true := h3
  have hb := hts w h1
  unfold xok2 at h3
  split at h3
  · exact word_at hW (Or.inr ⟨_, rfl⟩) hb
  · exact Cond.stringRef_warmed hW hb
  · simp only [Cond.before, Cond.holds, Cond.value, hW.alike.findClass, hW.alike.assignable] at hb ⊢
    exact hb
  · exact va_AO.use (va_AO.moved hW.alike (va_AO.of hb))
  · rw [Bool.and_eq_true] at h3
    exact Cond.onTables_warmH (T := U) hW h3.1 h3.2 hb
set_option maxRecDepth 100000 in
theorem xtws_ok : xa_tws.all xok = true := by decide +kernel
end XStart
set_option maxRecDepth 100000 in
theorem xtws_in : xa_tws.all (fun w => decide (w ∈ tables_1) || decide (w ∈ flatC (Jvm.Cond.and given_1 narrow_1))) = true := by decide +kernel
section XStart2
/-- what is known of the law's entry -/
def xw_At (p : Program) (s : State) (m : MethodId) (meth : Method) (c : Code) (b L : Nat) (xs : Nat → Int32) : Prop :=
  p.tables.exec = Jvm.exec ∧ c.code = code ∧ meth.sig.returnType = ret ∧ c.maxLocals = 7 ∧ s.vm.findClass "ClocklessGatesLaw" = some m.cls ∧ (∀ w ∈ lw_tbl, w.before #[Value.ref b] s = true) ∧ va_X b L xs s s.heap ∧ b < s.heap.size ∧ meth.locks = false ∧ (Jvm.Cond.and given_1 narrow_1).before #[Value.ref b] s = true ∧ meth.name = "law" ∧ c.exceptionTable.toList = []
theorem xa_isa {s : State} {cA comp : ClassId} {kA : Class} {ty : FieldType} (h1 : s.vm.classes[cA]? = some kA) (h2 : kA.kind = .array comp ty) : ArrOfT s cA ty := fun n z => ⟨fun k h => (by cases h), kA, h1, comp, h2⟩
set_option maxRecDepth 100000 in
theorem xg_start {p : Program} {s : State} {m : MethodId} {meth : Method} {c : Code} {b L : Nat} {xs : Nat → Int32} (hL : L ≤ 2048) (C0 : xw_At p s m meth c b L xs) :
    ∃ Z : xa_Z, xa_G xP Z (fun q => s.heap.size ≤ q) s ∧ Z.2.2.1 1 = b ∧ Z.2.2.2 = xtx (L, xs) := by
  obtain ⟨hx, hcode, hret, hml, hown, hts, hX, hbl, hlk, hgn, hnm, het⟩ := C0
  have hA : ∀ q, q < s.heap.size → ¬ (s.heap.size ≤ q) := fun q h1 h2 => Nat.lt_irrefl _ (Nat.lt_of_lt_of_le h1 h2)
  have hfl := flat_of_before _ hgn
  have hxw : ∀ w ∈ xws, w.before #[Value.ref b] s = true := fun w hw => hts w (List.mem_filter.mp hw).1
  have hkn : ∀ k : Nat, ∃ q : ClassId × (Nat → Nat), ∀ r, xcl[k]? = some r → u_Kn s r.1 r.2.1 r.2.2 q.1 q.2 := by
    have mk : ∀ {C : String} {T : u_T} {N i : Nat} {ci : Nat} {ty0 : Nat → FieldType}, xa_k xP ci C T N ty0 → tables_1[i]? = some (Cond.instantiable C N) → ∃ q : ClassId × (Nat → Nat), u_Kn s C T N q.1 q.2 := fun hk hi => by
      obtain ⟨cC, iS, h⟩ := u_known (ws := xws) (args := #[Value.ref b]) hxw hk.2.1 (hts _ (List.mem_append_right _ (List.mem_of_getElem? hi)))
      exact ⟨(cC, iS), h⟩
    intro k
    by_cases h7 : k < 7
    · have hc : k = 0 ∨ k = 1 ∨ k = 2 ∨ k = 3 ∨ k = 4 ∨ k = 5 ∨ k = 6 := by omega
      rcases hc with rfl | rfl | rfl | rfl | rfl | rfl | rfl
      · obtain ⟨q, h⟩ := mk k_CG (i := 18) (by decide +kernel); exact ⟨q, fun r hr => by cases hr; exact h⟩
      · obtain ⟨q, h⟩ := mk k_N (i := 26) (by decide +kernel); exact ⟨q, fun r hr => by cases hr; exact h⟩
      · obtain ⟨q, h⟩ := mk k_G (i := 77) (by decide +kernel); exact ⟨q, fun r hr => by cases hr; exact h⟩
      · obtain ⟨q, h⟩ := mk k_Ci (i := 125) (by decide +kernel); exact ⟨q, fun r hr => by cases hr; exact h⟩
      · obtain ⟨q, h⟩ := mk k_Ga (i := 132) (by decide +kernel); exact ⟨q, fun r hr => by cases hr; exact h⟩
      · obtain ⟨q, h⟩ := mk k_L (i := 172) (by decide +kernel); exact ⟨q, fun r hr => by cases hr; exact h⟩
      · obtain ⟨q, h⟩ := mk k_M (i := 741) (by decide +kernel); exact ⟨q, fun r hr => by cases hr; exact h⟩
    · refine ⟨(0, fun _ => 0), fun r hr => ?_⟩
      have := (List.getElem?_eq_some_iff.mp hr).1
      exact absurd this h7
  have tw : ∀ {i : Nat} {w : Cond}, tables_1[i]? = some w → w.before #[Value.ref b] s = true := fun h => hts _ (List.mem_append_right _ (List.mem_of_getElem? h))
  obtain ⟨cI, kI, pI, i1, i2, i3⟩ := Cond.arrayClass_spec (tw (i := 74) (w := .arrayClass .int) (by decide +kernel))
  obtain ⟨cZ, kZ, pZ, z1, z2, z3⟩ := Cond.arrayClass_spec (tw (i := 75) (w := .arrayClass .boolean) (by decide +kernel))
  obtain ⟨cL, kL, pL, l1, l2, l3⟩ := Cond.arrayClass_spec (tw (i := 1047) (w := .arrayClass .long) (by decide +kernel))
  obtain ⟨pQ, cQ, kQ, g1, g2, g3, g4, g5⟩ := Cond.arrayOver_spec (tw (i := 131) (w := .arrayOver (.object "ClocklessGates$Gate")) (by decide +kernel))
  have fw : ∀ w : Cond, w ∈ flatC (Jvm.Cond.and given_1 narrow_1) → w.before #[Value.ref b] s = true := hfl
  obtain ⟨t0, ht0, hT0⟩ := va_Tof (args := #[Value.ref b]) (s := s) (tm := .static "ClocklessGates" "POWER_OF_THREE" "[I") (ty := .int) (N := 6) (f := fun j => .int (xp3 j)) (A := fun q => s.heap.size ≤ q) (by decide)
    (fw _ (by decide +kernel)) (va_eqt (fw (.eq (.length (.static "ClocklessGates" "POWER_OF_THREE" "[I")) (.int 6)) (by decide +kernel)))
    (fun j hj => va_eqt (fw (.eq (.elem (.static "ClocklessGates" "POWER_OF_THREE" "[I") (.int (Int32.ofNat j))) (.int (xp3 j))) (by
      have hc : j = 0 ∨ j = 1 ∨ j = 2 ∨ j = 3 ∨ j = 4 ∨ j = 5 := by omega
      rcases hc with rfl | rfl | rfl | rfl | rfl | rfl <;> decide +kernel))) hA
  have hZ0 := va_Zof (args := #[Value.ref b]) (s := s) (C := "ClocklessGates") (n := "POWER_OF_THREE") (d := "[I") (v := .ref t0) (A := fun q => s.heap.size ≤ q) (hts _ (List.mem_append_right _ (List.mem_of_getElem? (i := 181) (by decide +kernel)))) (tw (i := 1) (by decide +kernel)) ht0 hA
  refine ⟨((fun k => (Classical.choose (hkn k)).1, fun k => (Classical.choose (hkn k)).2), [(cI, .int), (cZ, .boolean), (cL, .long), (cQ, .object "ClocklessGates$Gate")], fun k => if k = 0 then t0 else b, xtx (L, xs)), ⟨xws_cl hts, ⟨fun k q hq => Classical.choose_spec (hkn k) q hq, fun k q hq => ?_⟩, rfl, fun k hk => ?_, hZ0, fun w hw => ?_⟩, rfl, rfl⟩
  · have h4 : k < 4 := (List.getElem?_eq_some_iff.mp hq).1
    have hc : k = 0 ∨ k = 1 ∨ k = 2 ∨ k = 3 := by omega
    rcases hc with rfl | rfl | rfl | rfl
    · cases hq; exact ⟨xa_isa i2 i3, i1⟩
    · cases hq; exact ⟨xa_isa z2 z3, z1⟩
    · cases hq; exact ⟨xa_isa l2 l3, l1⟩
    · cases hq; exact ⟨xa_isa g3 g4, kQ, pQ, g3, g4, g1, g5⟩
  · have hc : k = 0 ∨ k = 1 := by omega
    rcases hc with rfl | rfl
    · exact hT0
    · obtain ⟨scr, x1, x2, x3, x4, x5⟩ := hX
      exact ⟨scr, x1, x2, x3, by show L ≤ _; omega, by rw [x4]; rfl, fun j hj => x5 j hj, hA b hbl⟩
  · have h1 := List.all_eq_true.mp xtws_in w hw
    have hb : w.before #[Value.ref b] s = true := by
      rw [Bool.or_eq_true] at h1
      rcases h1 with h1 | h1
      · exact hts w (List.mem_append_right _ (of_decide_eq_true h1))
      · exact hfl w (of_decide_eq_true h1)
    exact xok_cl hA (List.all_eq_true.mp xtws_ok w hw) hb
end XStart2
section XStart3
variable {S : Nat × (Nat → Int32)} {d : Nat} {Rl : xl_V → Prop}
set_option maxRecDepth 100000 in
theorem law_run (hN : S.1 ≤ 2048) (hop : ∀ V i, Rl V → i + 4 ≤ S.1 → lw_op S Rl d i V) (h0 : Rl xV0) : xa_X xP (xtx S) (d + 20) 155 0 (xa_ent 7 [.retAddr 1]) [] (hL []) 581 7740 (fun o _ => o = .inl (some (.int 1))) := by
  refine xn_new (mc := 580) (ms := 7734) [.inr (0, [.null, .null, .null, .null, .int 0, .int 0])] 0 e_W_law_0 nw_W_8 rfl rfl ?_
  refine xx_dup e_W_law_3 rfl ?_
  refine xn_I0 534 4106 46 3628 e_W_law_4 ki_W_73 (ti_CG (d := d + 17)) (by exact Nat.le_of_ble_eq_true rfl) ?_
  refine xx_astore_n e_W_law_7 rfl rfl ?_
  refine xn_new (mc := 533) (ms := 4076) _ 47 e_W_law_8 nw_W_74 rfl rfl ?_
  refine xx_dup e_W_law_11 rfl ?_
  refine xn_I0 513 3073 20 1003 e_W_law_12 ki_W_76 (ti_M (d := d + 19)) (by exact Nat.le_of_ble_eq_true rfl) ?_
  refine xx_astore_n e_W_law_15 rfl rfl ?_
  refine xx_iconst (v := 1) e_W_law_16 (by decide) ?_
  refine xn_newL (mc := 512) (ms := 3072) 1 lz_end 68 e_W_law_17 (xw_t (i := 1047) rfl (by decide +kernel)) (by decide) (by decide) (by decide) rfl rfl ?_
  refine xx_astore_n e_W_law_19 rfl rfl ?_
  refine xx_iconst (v := 0) e_W_law_20 (by decide) ?_
  refine xx_istore e_W_law_21 rfl ?_
  rw [hL_end]
  exact law_loop hN hop 513 0 rfl (by decide) (by omega) xV0 _ _ h0
def lw_P (b : Addr) (xs : List Int32) (args : Array Value) (s : State) : Prop := args = #[.ref b] ∧ s.IntsAt b xs ∧ xs.length ≤ 2048 ∧ (Jvm.Cond.and given_1 narrow_1).before args s = true
def lw_Q (_ : Array Value) (s : State) (o : Outcome) (t : State) : Prop := o = .returned (some (.int 1)) ∧ Framed s o t [] 601024 7293034
def lw_Z (below : List Frame) (a : Array Value) (s : State) : State → Prop := fun t => ∃ o, t.status = .running ∧ Ended t below o ∧ lw_Q a s o t
set_option maxRecDepth 100000 in
/-- from the entry, for every script of at most 2048 ints, the law comes to its end with true -/
theorem whole_start0 (hop : ∀ (S : Nat × (Nat → Int32)) (V : xl_V) (i : Nat), Rl V → i + 4 ≤ S.1 → lw_op S Rl 0 i V) (h0 : Rl xV0)
    {p : Program} {e : Env} {s : State} {m : MethodId} {below : List Frame} {meth : Method} {c : Code} (l : Launch) (hnt : xa_nt l) {b L : Nat} {xs : Nat → Int32} (hL : L ≤ 2048) (C0 : xw_At p s m meth c b L xs) :
    W p l e room_1 s m #[Value.ref b] below meth c s.heap [] 0 0 (lw_Z below #[Value.ref b] s) (entryFrame m ([Value.ref b] : List Value).toArray 7) := by
  obtain ⟨Z, hG, hb, hx⟩ := xg_start hL C0
  obtain ⟨c1, c2, c3, c4, c5, c6, c7, c8, c9, c10, c11, c12⟩ := C0
  have hX : xa_X xP Z.2.2.2 20 155 0 (xa_ent 7 [.retAddr 1]) [] (Jvm.Pilot.CClocklessGatesLaw_law_r1841_212e12.hL []) 581 7740 (fun o _ => o = .inl (some (.int 1))) := by
    rw [hx]; exact law_run (d := 0) hL (hop (L, xs)) h0
  have C : xa_C xP Z 20 155 p room_1 s m meth c (fun q => s.heap.size ≤ q) := ⟨c1, c2, c4, c3, c9, c11, c5, c12, by decide, by decide, fun q h => h, hG⟩
  have lv : xa_lv Z.2.2.1 (fun _ => 0) 0 7 _ (xa_ent 7 [.retAddr 1]) := xa_lv_ent (vs := [.retAddr 1]) (by intro v hv; rw [List.mem_singleton.mp hv]; rfl) (by intro v hv; rw [List.mem_singleton.mp hv]; exact xa_ok_t) (by decide)
  have hWW := hX (xa_W l xP Z) (xa_sound hnt) p e room_1 s m #[Value.ref b] below meth c (fun q => s.heap.size ≤ q) s.heap [] 0 0 (fun _ => 0) _ C (by decide) (by decide)
    ⟨fun k q hk => absurd (xa_w_of hk).1 (Nat.not_lt_zero k), ⟨fun i j u v hu => absurd (xa_w_of hu).1 (Nat.not_lt_zero i), fun k q hk => absurd (xa_w_of hk).1 (Nat.not_lt_zero k)⟩, va_S.rf, fun i hi => absurd hi (Nat.not_lt_zero i)⟩ lv (fun v hv => nomatch hv)
  rw [lg_entry_eq]
  have e1 : xa_tr Z.2.2.1 (fun _ => 0) (.retAddr 1) = .ref b := by show Value.ref (Z.2.2.1 1) = _; rw [hb]
  simp only [List.map_cons, List.map_nil, e1] at hWW
  refine xa_post (fun t ht => ?_) hWW
  obtain ⟨o, h1, h2, ⟨Lc, h3, h4, h5⟩, ad', h', oa, -, -, -, hQ, hoc⟩ := ht
  have hQ : oa = .inl (some (.int 1)) := hQ
  subst hQ
  refine ⟨o, h1, h2, hoc.1, ⟨_, hoc.1⟩, h3, ?_⟩
  obtain ⟨q1, q2, q3, q4, q5, q6⟩ := h4
  refine ⟨q1, q2, Nat.le_trans q3 (by omega), q4, Nat.le_trans q5 (by omega), fun a cc ha => ?_⟩
  obtain ⟨c', r1, r2, r3, r4⟩ := q6 a cc ha
  refine ⟨c', r1, r2, r3, fun i _ => r4 i (fun z => ?_)⟩
  exact absurd (h5 _ z) (Nat.not_le.mpr (Array.getElem?_eq_some_iff.mp ha).1)
end XStart3
