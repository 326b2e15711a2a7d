/-! Laws that the soundness of the rules rests on: ends, new cells, calls. -/
section XCalls
theorem xa_E.w {K : xa_P} {Z : xa_Z} {below : List Frame} {A : Nat → Prop} {s : State} {ad : Nat → Nat} {n mc ms mc' ms' : Nat} {Q : xa_Q} {t : State} (h1 : mc' ≤ mc) (h2 : ms' ≤ ms) (h : xa_E K Z below A s ad n mc' ms' Q t) : xa_E K Z below A s ad n mc ms Q t := by
  obtain ⟨o, g1, g2, ⟨L, g3, g4, g5⟩, g6⟩ := h
  exact ⟨o, g1, g2, ⟨L, g3, g4.mono h1 h2, g5⟩, g6⟩
theorem xa_E.c {K : xa_P} {Z : xa_Z} {below : List Frame} {A : Nat → Prop} {s : State} {ad : Nat → Nat} {n mc ms mc' ms' : Nat} {Q : xa_Q} {t : State} (h1 : mc' = mc) (h2 : ms' = ms) (h : xa_E K Z below A s ad n mc' ms' Q t) : xa_E K Z below A s ad n mc ms Q t := by
  rw [← h1, ← h2]; exact h
theorem xa_sum {tb ad : Nat → Nat} (st : List Value) : ((st.map (xa_tr tb ad)).map fun v => v.category).sum = (st.map fun v => v.category).sum := by
  rw [List.map_map]
  congr 1
  exact List.map_congr_left fun v _ => xa_cat tb ad v
theorem xa_end {K : xa_P} {Z : xa_Z} {d y : Nat} {p : Program} {R : Room} {s : State} {m : MethodId} {meth : Method} {c : Code} {A : Nat → Prop} {below : List Frame} {args : Array Value} {H : Heap} {locs : List Loc} {cells slots mc ms : Nat} {ad : Nat → Nat} {h : xa_H} {Q : xa_Q} {v : Option Value}
    (C : xa_C K Z d y p R s m meth c A) (hc : cells + mc ≤ R.cells) (hs : slots + ms ≤ R.slots) (rp : xa_rep K Z A s H locs ad h) (hq : Q (.inl v) h) (hv : ∀ w, v = some w → xa_ok h.1 w) :
    ∀ t, MQ below (fun _ _ o t => o = .returned (v.map (xa_tr Z.2.2.1 ad)) ∧ t.heap = H) args s cells slots A t → xa_E K Z below A s ad h.1 (cells + mc) (slots + ms) Q t := by
  intro t ht
  obtain ⟨o, h1, h2, ⟨e1, e2⟩, L, ⟨-, h3, h4⟩, h5⟩ := ht
  refine ⟨o, h1, h2, ⟨L, h3, h4.mono (Nat.le_add_right _ _) (Nat.le_add_right _ _), h5⟩, ad, h, .inl v, Nat.le_refl _, fun _ _ => rfl, ?_, hq, e1, hv⟩
  rw [e2]
  exact ⟨rp.1, rp.2.1, ⟨rp.2.2.1.1, rp.2.2.1.2.1, fun q hq => nomatch hq⟩, rp.2.2.2⟩
theorem xa_norefs {tb ad : Nat → Nat} {fs : List Value} (h : fs.all (fun v => match v with | .ref _ => false | .retAddr _ => false | _ => true) = true) : fs.map (xa_tr tb ad) = fs := by
  have : ∀ v ∈ fs, xa_tr tb ad v = v := fun v hv => by
    have := List.all_eq_true.mp h v hv
    cases v with
    | ref a => cases this
    | retAddr k => cases this
    | _ => rfl
  calc fs.map (xa_tr tb ad) = fs.map id := List.map_congr_left this
    _ = fs := List.map_id fs
theorem xa_ok_of_norefs {n : Nat} {fs : List Value} (h : fs.all (fun v => match v with | .ref _ => false | .retAddr _ => false | _ => true) = true) : ∀ v ∈ fs, xa_ok n v := fun v hv a e => by
  have := List.all_eq_true.mp h v hv
  rw [e] at this
  cases this
theorem xa_okpushA {h : xa_H} {e : va_E} (hok : ∀ i, i < h.1 → xa_okE h.1 (h.2 i)) (he : xa_okE (h.1 + 1) e) : ∀ i, i < (h.1 + 1, xa_up h.2 h.1 e).1 → xa_okE (h.1 + 1, xa_up h.2 h.1 e).1 ((h.1 + 1, xa_up h.2 h.1 e).2 i) := by
  intro i hi
  show xa_okE (h.1 + 1) (xa_up h.2 h.1 e i)
  by_cases q : i = h.1
  · rw [q, xa_up_s]; exact he
  · rw [xa_up_n _ _ q]
    have hi : i < h.1 + 1 := hi
    exact xa_okE_m (Nat.le_succ _) (hok i (by omega))
theorem xa_okpush {h : xa_H} {ci : Nat} {fs : List Value} (hok : ∀ i, i < h.1 → xa_okE h.1 (h.2 i)) (hf : ∀ v ∈ fs, xa_ok (h.1 + 1) v) : ∀ i, i < (h.1 + 1, xa_up h.2 h.1 (.inr (ci, fs))).1 → xa_okE (h.1 + 1, xa_up h.2 h.1 (.inr (ci, fs))).1 ((h.1 + 1, xa_up h.2 h.1 (.inr (ci, fs))).2 i) := xa_okpushA hok hf
/-- the locals at a method's entry -/
theorem xa_lva {tb ad : Nat → Nat} : ∀ (vs : List Value) (i : Nat), (∀ v ∈ vs, v.category = 1) → ∀ q ∈ xa_kn tb ad vs i, q ∈ lv_args i (vs.map (xa_tr tb ad))
  | [], _, _, q, h => by cases h
  | v :: r, i, hc, q, h => by
    have hv := hc v List.mem_cons_self
    have hr : ∀ w ∈ r, w.category = 1 := fun w hw => hc w (List.mem_cons_of_mem _ hw)
    rw [xa_kn_c] at h
    show q ∈ (i, xa_tr tb ad v) :: lv_args (if (xa_tr tb ad v).category = 2 then i + 2 else i + 1) (r.map (xa_tr tb ad))
    rw [xa_cat, hv, if_neg (by decide)]
    by_cases hj : xa_isj v = true
    · rw [if_pos hj] at h
      exact List.mem_cons_of_mem _ (xa_lva r (i + 1) hr q h)
    · rw [if_neg hj] at h
      rcases List.mem_cons.mp h with e | e
      · rw [e]; exact List.mem_cons_self
      · exact List.mem_cons_of_mem _ (xa_lva r (i + 1) hr q e)
theorem xa_kn_rep {tb ad : Nat → Nat} : ∀ (k i : Nat), xa_kn tb ad (List.replicate k xa_j) i = []
  | 0, _ => rfl
  | k + 1, i => by
    show xa_kn tb ad (xa_j :: List.replicate k xa_j) i = []
    exact xa_kn_rep k (i + 1)
theorem xa_kn_app {tb ad : Nat → Nat} : ∀ (vs : List Value) (k i : Nat), xa_kn tb ad (vs ++ List.replicate k xa_j) i = xa_kn tb ad vs i
  | [], k, i => xa_kn_rep k i
  | v :: r, k, i => by
    rw [List.cons_append, xa_kn_c, xa_kn_c, xa_kn_app r k (i + 1)]
theorem xa_sl_len {tb ad : Nat → Nat} {vs : List Value} (hc : ∀ v ∈ vs, v.category = 1) : (lg_sl (vs.map (xa_tr tb ad))).length = vs.length := by
  induction vs with
  | nil => rfl
  | cons v r ih =>
    have h1 := ih (fun w hw => hc w (List.mem_cons_of_mem _ hw))
    have h2 : ¬ (xa_tr tb ad v).category = 2 := by rw [xa_cat, hc v List.mem_cons_self]; decide
    show (List.flatMap _ (xa_tr tb ad v :: r.map (xa_tr tb ad))).length = r.length + 1
    rw [List.flatMap_cons, if_neg h2, List.length_append]
    show 1 + (lg_sl (r.map (xa_tr tb ad))).length = r.length + 1
    rw [h1]; omega
theorem xa_lv_ent {tb ad : Nat → Nat} {n nL : Nat} {vs : List Value} (hc : ∀ v ∈ vs, v.category = 1) (ok : xa_oks n vs) (hl : vs.length ≤ nL) :
    xa_lv tb ad n nL ((lg_sl (vs.map (xa_tr tb ad)) ++ List.replicate (nL - (lg_sl (vs.map (xa_tr tb ad))).length) Slot.unset).toArray) (xa_ent nL vs) := by
  have h1 := lv_entry (vs.map (xa_tr tb ad)) (n := nL) (by rw [xa_sl_len hc]; exact hl)
  refine ⟨⟨h1.1, h1.2.1, fun q hq => ?_⟩, by simp [xa_ent]; omega, fun v hv => ?_⟩
  · rw [xa_ent, xa_kn_app] at hq
    exact h1.2.2 q (xa_lva vs 0 hc q hq)
  · rcases List.mem_append.mp hv with e | e
    · exact ⟨ok v e, hc v e⟩
    · rw [(List.mem_replicate.mp e).2]; exact ⟨(fun a q => by cases q), rfl⟩
theorem xa_weak {tb : Tables} {e : Env} {mid below : List Frame} {a b : State} (h : Steps tb e (mid ++ below) a b) : Steps tb e below a b := by
  obtain ⟨n, hn, w⟩ := h
  exact ⟨n, hn, fun k hk => (w k hk).weaken⟩
/-- the callee of a call, out of its words -/
theorem xa_cal {K : xa_P} {y n : Nat} {args : Array Value} {U : State} (hy : xa_my K y n) (hw : (xa_cw (K.1 y)).before args U = true) :
    ∃ mk meth ck, U.methodNamed? (K.1 y).1 = some mk ∧ U.vm.method? mk = some meth ∧ meth.code = some ck ∧ ck.code = (K.1 y).2.1 ∧ ck.maxLocals = (K.1 y).2.2.1 ∧ meth.sig.returnType = (K.1 y).2.2.2.1 ∧ meth.locks = false ∧ ck.exceptionTable.toList = tableOf (K.1 y).2.2.2.2 ∧ meth.sig.parameters.length = n ∧ U.plainMethod mk := by
  obtain ⟨h1, h2, h3, h4, h5⟩ := hy
  have fin : ∀ mk meth, U.methodNamed? (K.1 y).1 = some mk → U.vm.method? mk = some meth → U.plainMethod mk := fun mk meth a b => State.plainMethod.of_named (plainFor_of_name h2) a b
  have par : ∀ meth : Method, parseMethodDescriptor (K.1 y).1.desc = some meth.sig → meth.sig.parameters.length = n := fun meth q => by
    rw [q] at h4
    exact Option.some.inj h4
  unfold xa_cw at hw
  split at hw
  · rename_i e
    obtain ⟨mk, hn⟩ := Cond.code_named hw
    obtain ⟨meth, ck, q1, q2, q3, q4, q5, q6, q7, q8⟩ := Cond.code_spec hn hw
    refine ⟨mk, meth, ck, hn, q1, q2, q3, q4, q5, q6, ?_, par meth q8, fin mk meth hn q1⟩
    rw [e]
    have h0 : ck.exceptionTable.size = 0 := by simpa [Array.isEmpty] using q7
    exact List.eq_nil_of_length_eq_zero (by simpa using h0)
  · obtain ⟨mk, meth, ck, hn, q1, q2, q3, q4, q5, q6, q7, q8⟩ := Cond.codeWith_spec hw
    refine ⟨mk, meth, ck, hn, q1, q2, q3, q4, q6, q7, ?_, par meth q8, fin mk meth hn q1⟩
    rw [← q5, table_eq]
set_option maxRecDepth 10000 in
theorem xa_ar {a b d R : Nat} (h : 60 * (d + 1) + 300 ≤ R) (ha : a ≤ 8) (hb : b ≤ 41) : a + (b + 11) + (60 * d + 300) ≤ R := by omega
/-- a call, from the frame g whose arguments are taken off: the callee runs, and the caller stands again -/
theorem xa_run {l : Launch} {K : xa_P} {Z : xa_Z} {d y y' : Nat} {p : Program} {e : Env} {R : Room} {s : State} {m : MethodId} {args : Array Value} {below : List Frame} {meth : Method} {c : Code} {A : Nat → Prop} {T : State} {locs : List Loc} {cells slots mc' ms' : Nat} {ad : Nat → Nat} {h : xa_H} {P : xa_Q} {As : List Value} {g : JFrame} {ig : Instr} {len : Nat}
    {mk : MethodId} {methk : Method} {ck : Code}
    (k : xa_W l K Z d y' 0 (xa_ent (K.1 y').2.2.1 As) [] h mc' ms' P) (C : xa_C K Z (d + 1) y p R s m meth c A) (X : Stand p l e R s m args below meth c T locs cells slots)
    (hc : cells + mc' ≤ R.cells) (hs : slots + ms' ≤ R.slots) (rp : xa_rep K Z A s T.heap locs ad h) (ok : xa_oks h.1 As) (hca : ∀ v ∈ As, v.category = 1) (hlen : As.length ≤ (K.1 y').2.2.1) (h41 : (K.1 y').2.2.1 ≤ 41)
    (hg : g.method = m) (hsize : g.locals.size = c.maxLocals) (hdg : decode c.code g.pc = .ok (ig, len)) (hw : 2 * g.monitorRoom + (g.stack.map fun v => v.category).sum ≤ 8)
    (hn : T.methodNamed? (K.1 y').1 = some mk) (hmk : T.vm.method? mk = some methk) (hck : methk.code = some ck) (q3 : ck.code = (K.1 y').2.1) (q4 : ck.maxLocals = (K.1 y').2.2.1) (q5 : methk.sig.returnType = (K.1 y').2.2.2.1) (q6 : methk.locks = false) (q7 : ck.exceptionTable.toList = tableOf (K.1 y').2.2.2.2) (q8 : T.plainMethod mk) :
    ∃ (o : Outcome) (t T' : State) (L : List Loc) (ad' : Nat → Nat) (h' : xa_H) (oa : xa_O), Stand p l e R s m args below meth c T' (locs ++ L) (cells + mc') (slots + ms') ∧ h.1 ≤ h'.1 ∧ (∀ i, i < h.1 → ad' i = ad i) ∧ xa_rep K Z A s T'.heap (locs ++ L) ad' h' ∧ P oa h' ∧ xa_oc Z s ad' h' T' o oa ∧
      (∀ acts, Steps p.tables e below (doInvoke e (T.setTop g) acts mk (As.map (xa_tr Z.2.2.1 ad)).toArray).1 t) ∧ (∀ v, o = .returned v → t = T'.setTop { g with pc := g.pc + len, stack := v.toList ++ g.stack }) ∧ (∀ x, o = .threw x → t = (T'.setTop g).pushFrame (.throwing x)) := by
  have r1 : d + 8 + 1 ≤ R.frames := by have := C.rm.1; omega
  have r2 : 2 * g.monitorRoom + (g.stack.map fun v => v.category).sum + (ck.maxLocals + 11) + (60 * d + 300) ≤ R.locals := by rw [q4]; exact xa_ar C.rm.2 hw h41
  obtain ⟨Y, hin⟩ := X.into hg hsize hdg (As.map (xa_tr Z.2.2.1 ad)).toArray (R' := { frames := d + 8, cells := mc', slots := ms', locals := 60 * d + 300 }) hmk hck q6 q8 r1 r2 hc hs
  have hsub : ∀ q, va_A (xa_w Z.2.1 Z.2.2.1 ad h) T.heap.size q → A q := fun q hq => by
    rcases hq with ⟨k9, e9, h9⟩ | h9
    · exact rp.2.1.2 k9 _ h9
    · exact C.a q (Nat.le_trans rp.2.2.1.1 h9)
  have hW0 : s.WarmedH (T.calling g mk (As.map (xa_tr Z.2.2.1 ad)).toArray).vm := X.warmed
  have hG : xa_G K Z (va_A (xa_w Z.2.1 Z.2.2.1 ad h) T.heap.size) (T.calling g mk (As.map (xa_tr Z.2.2.1 ad)).toArray) := C.g.to (locs := locs) rp.2.2.1 hW0 hsub
  have hnm : methk.name = (K.1 y').1.name := (name_of_methodNamed hn hmk).1
  have hown : T.vm.findClass (K.1 y').1.cls = some mk.cls := findClass_of_methodNamed hn
  have C' : xa_C K Z d y' p { frames := d + 8, cells := mc', slots := ms', locals := 60 * d + 300 } (T.calling g mk (As.map (xa_tr Z.2.2.1 ad)).toArray) mk methk ck (va_A (xa_w Z.2.1 Z.2.2.1 ad h) T.heap.size) :=
    ⟨C.1, q3, q4, q5, q6, hnm, hown, q7, Nat.le_refl _, Nat.le_refl _, fun q hq => Or.inr hq, hG⟩
  have rp' : xa_rep K Z (va_A (xa_w Z.2.1 Z.2.2.1 ad h) T.heap.size) (T.calling g mk (As.map (xa_tr Z.2.2.1 ad)).toArray) T.heap [] ad h :=
    ⟨rp.1, rp.2.1.self, va_S.rf, rp.2.2.2⟩
  have kk := k p e _ _ mk (As.map (xa_tr Z.2.2.1 ad)).toArray (.java g :: below) methk ck _ T.heap [] 0 0 ad _ C' (by show 0 + mc' ≤ mc'; omega) (by show 0 + ms' ≤ ms'; omega) rp' (xa_lv_ent hca ok hlen) (fun v hv => nomatch hv)
  obtain ⟨t, hst, o, hrun, hend, ⟨L, hWe, hsm, hL⟩, ad', h', oa, hn', hag, rp2, hP, hoc⟩ := kk ((T.setTop g).pushFrame (.java (entryFrame mk (As.map (xa_tr Z.2.2.1 ad)).toArray ck.maxLocals))) rfl Y
  rw [Nat.zero_add] at hsm
  have hsm : (T.calling g mk (As.map (xa_tr Z.2.2.1 ad)).toArray).sameButNew ({ t with vm := (T.calling g mk (As.map (xa_tr Z.2.2.1 ad)).toArray).vm } : State) L mc' ms' := by
    have := hsm
    rwa [Nat.zero_add] at this
  have hst' : ∀ acts, Steps p.tables e below (doInvoke e (T.setTop g) acts mk (As.map (xa_tr Z.2.2.1 ad)).toArray).1 t := fun acts => by
    rw [hin acts, q4, lg_entry_eq]
    rw [q4, lg_entry_eq] at hst
    exact xa_weak (mid := [.java g]) hst
  have hcall : (T.calling g mk (As.map (xa_tr Z.2.2.1 ad)).toArray).heap = T.heap := rfl
  have hS2 : va_S A s.heap t.heap (locs ++ L) := by
    have h2 := rp2.2.2.1
    refine ⟨Nat.le_trans rp.2.2.1.1 h2.1, fun q hq hA => ?_, fun z hz => ?_⟩
    · exact (h2.2.1 q (Nat.lt_of_lt_of_le hq rp.2.2.1.1) (fun z => hA (hsub q z))).trans (rp.2.2.1.2.1 q hq hA)
    · rcases List.mem_append.mp hz with z1 | z1
      · exact rp.2.2.1.2.2 z z1
      · exact hsub _ (hL z z1)
  have hD2 : va_D A (xa_w Z.2.1 Z.2.2.1 ad' h') := rp2.2.1.weaken (fun _ _ _ z => hsub _ z)
  cases o with
  | returned v =>
    obtain ⟨T', X', hW', -, ht⟩ := X.outOf hg hdg hend hWe hsm
    have hheap : t.heap = T'.heap := by rw [ht]; rfl
    refine ⟨.returned v, t, T', L, ad', h', oa, X', hn', hag, ⟨by rw [← hheap]; exact rp2.1, hD2, by rw [← hheap]; exact hS2, rp2.2.2.2⟩, hP, ?_, hst', (fun v' e1 => by cases e1; exact ht), (fun x e1 => by cases e1)⟩
    cases oa with
    | inl w => exact hoc
    | inr E => obtain ⟨q, ce, e1, -⟩ := hoc; cases e1
  | threw x =>
    obtain ⟨T', X', hW', -, ht⟩ := X.outOfThrown hg hend hWe hsm
    have hheap : t.heap = T'.heap := by rw [ht]; exact Stand.throwing_heap T' g x
    refine ⟨.threw x, t, T', L, ad', h', oa, X', hn', hag, ⟨by rw [← hheap]; exact rp2.1, hD2, by rw [← hheap]; exact hS2, rp2.2.2.2⟩, hP, ?_, hst', (fun v' e1 => by cases e1), (fun x' e1 => by cases e1; exact ht)⟩
    cases oa with
    | inl w => obtain ⟨e1, -⟩ := hoc; cases e1
    | inr E =>
      obtain ⟨q, ce, e1, e2, e3, e4⟩ := hoc
      exact ⟨q, ce, e1, by rw [← hheap]; exact e2, e3, by rw [← hW0.alike.findClass]; exact e4⟩
end XCalls
section XCalls2
variable {l : Launch} {K : xa_P} {Z : xa_Z} {d y y' : Nat} {p : Program} {e : Env} {R : Room} {s : State} {m : MethodId} {args : Array Value} {below : List Frame} {meth : Method} {c : Code} {A : Nat → Prop} {H : Heap} {locs : List Loc} {cells slots mc ms mc' ms' : Nat} {ad : Nat → Nat} {h : xa_H} {P Q : xa_Q} {sl : Array Slot} {ls st : List Value} {pc : Nat}
/-- behind the call: what the callee returned is on the stack -/
theorem xa_ret {Fs : List Value} {T T₁ : State} {g0 : JFrame} {ig : Instr} {mk : MethodId} (hP : ∀ E h', ¬ P (.inr E) h') (k1 : xa_W l K Z d y' 0 (xa_ent (K.1 y').2.2.1 Fs) [] h mc' ms' P) (k2 : ∀ (v : Option Value) (h' : xa_H), P (.inl v) h' → xa_W l K Z (d + 1) y (pc + 3) ls (v.toList ++ st) h' mc ms Q)
    (C : xa_C K Z (d + 1) y p R s m meth c A) (hc : cells + (mc + mc') ≤ R.cells) (hs : slots + (ms + ms') ≤ R.slots) (X : Stand p l e R s m args below meth c T₁ locs cells slots) (hT : T₁.heap = H) (rp : xa_rep K Z A s H locs ad h) (lv : xa_lv Z.2.2.1 ad h.1 (K.1 y).2.2.1 sl ls) (okS : xa_oks h.1 st) (okF : xa_oks h.1 Fs)
    (hca : ∀ v ∈ Fs, v.category = 1) {n : Nat} (hmy : xa_my K y' n) (hlen : Fs.length ≤ (K.1 y').2.2.1) (hd : decode (K.1 y).2.1 pc = .ok (ig, 3)) (hw : (st.map fun v => v.category).sum ≤ 8) (hnm : T₁.methodNamed? (K.1 y').1 = some mk)
    (hstep : ∀ target, (∀ acts, Steps p.tables e below (doInvoke e (T₁.setTop (F0 m pc sl (st.map (xa_tr Z.2.2.1 ad)))) acts mk (Fs.map (xa_tr Z.2.2.1 ad)).toArray).1 target) → Steps p.tables e below (T.setTop g0) target) :
    ∃ t, Steps p.tables e below (T.setTop g0) t ∧ xa_E K Z below A s ad h.1 (cells + (mc + mc')) (slots + (ms + ms')) Q t := by
  subst hT
  obtain ⟨mk1, methk, ck, e1, e2, e3, e4, e5, e6, e7, e8, -, e9⟩ := xa_cal hmy (C.g.1 _ hmy.1 args T₁ X.warmed)
  cases hnm.symm.trans e1
  obtain ⟨o, t, T', L, ad', h', oa, X', hn', hag, rp', hPo, hoc, hst, hret, -⟩ := xa_run (g := F0 m pc sl (st.map (xa_tr Z.2.2.1 ad))) (ig := ig) (len := 3) k1 C X (by omega) (by omega) rp okF hca hlen hmy.2.2.2.2 rfl (lv.1.1.trans C.2.2.1.symm) (by rw [C.2.1]; exact hd) (by rw [xa_sum]; simp only [JFrame.monitorRoom]; omega) hnm e2 e3 e4 e5 e6 e7 e8 e9
  cases oa with
  | inr E => exact absurd hPo (hP E h')
  | inl v =>
    have ht := hret _ hoc.1
    have okv : xa_oks h'.1 (v.toList ++ st) := fun w hw => by
      rcases List.mem_append.mp hw with q | q
      · cases v with
        | none => cases q
        | some u => rw [List.mem_singleton.mp q]; exact hoc.2 u rfl
      · exact xa_ok_m hn' (okS w q)
    obtain ⟨t2, a1, b1⟩ := k2 v h' hPo p e R s m args below meth c A T'.heap (locs ++ L) (cells + mc') (slots + ms') ad' sl C (by omega) (by omega) rp' (xa_lv_m lv hn' hag) okv T' rfl X'
    have est : (v.toList ++ st).map (xa_tr Z.2.2.1 ad') = (v.map (xa_tr Z.2.2.1 ad')).toList ++ st.map (xa_tr Z.2.2.1 ad) := by
      rw [List.map_append, xa_trs_ag hag okS]
      cases v <;> rfl
    rw [est] at a1
    refine ⟨t2, hstep t2 (fun acts => (hst acts).trans ?_), xa_E.m hn' hag (xa_E.c (by omega) (by omega) b1)⟩
    rw [ht]
    exact a1
theorem xa_sV {i ci a : Nat} {fs As : List Value} (hd : decode (K.1 y).2.1 pc = .ok (.invokevirtual i, 3)) (hl : xa_lkV K (K.1 y).1.cls i ci y' As.length) (hh : h.2 a = .inr (ci, fs)) (hca : ∀ v ∈ As, v.category = 1) (hw : (st.map fun v => v.category).sum ≤ 8) (hP : ∀ E h', ¬ P (.inr E) h')
    (k1 : xa_W l K Z d y' 0 (xa_ent (K.1 y').2.2.1 (.ref a :: As)) [] h mc' ms' P) (k2 : ∀ (v : Option Value) (h' : xa_H), P (.inl v) h' → xa_W l K Z (d + 1) y (pc + 3) ls (v.toList ++ st) h' mc ms Q)
    (C : xa_C K Z (d + 1) y p R s m meth c A) (hc : cells + (mc + mc') ≤ R.cells) (hs : slots + (ms + ms') ≤ R.slots) (rp : xa_rep K Z A s H locs ad h) (lv : xa_lv Z.2.2.1 ad h.1 (K.1 y).2.2.1 sl ls) (ok : xa_oks h.1 (As.reverse ++ .ref a :: st)) :
    W p l e R s m args below meth c H locs cells slots (xa_E K Z below A s ad h.1 (cells + (mc + mc')) (slots + (ms + ms')) Q) (F0 m pc sl ((As.reverse ++ .ref a :: st).map (xa_tr Z.2.2.1 ad))) := by
  intro T hT X
  obtain ⟨hml, hinst, ⟨Tc, N, hcl⟩, hsel, hmy, hlen⟩ := hl
  obtain ⟨ok1, ok2⟩ := xa_oks_a ok
  have okA : xa_oks h.1 As := fun v hv => ok1 v (List.mem_reverse.mpr hv)
  have ha : a < h.1 := xa_oks_h ok2 a rfl
  have hwA := xa_w_get (tys := Z.2.1) (tb := Z.2.2.1) (ad := ad) ha
  rw [hh] at hwA
  obtain ⟨cell, hcell, hobj, hcls⟩ := va_recv C.k rp.1 hcl hwA
  obtain ⟨mk, methk, hnamed, hmeth, hstt, hab⟩ := Cond.instanceMethod_spec (C.ts args _ hinst)
  obtain ⟨c2, r2, m2, q1, q2, q3, q4, kP, hkP, hkPi⟩ := Cond.selects_spec (C.ts args _ hsel)
  cases hcls.symm.trans q1
  cases (State.methodFound?_of_named hnamed hmy.2.2.1).symm.trans q2
  cases hnamed.symm.trans q3
  have hselP : selectMethod e.platform s.vm cell.cls mk = .method mk := by rw [Launch.admits_selectMethod X.admits]; exact q4
  obtain ⟨mk0, meth0, ck0, f1, f2, -, -, -, -, -, -, f9, -⟩ := xa_cal hmy (C.ts args _ hmy.1)
  cases hnamed.symm.trans f1
  cases hmeth.symm.trans f2
  have est : (As.reverse ++ .ref a :: st).map (xa_tr Z.2.2.1 ad) = (As.map (xa_tr Z.2.2.1 ad)).reverse ++ .ref (ad a) :: st.map (xa_tr Z.2.2.1 ad) := by
    rw [List.map_append, List.map_reverse]; rfl
  rw [est]
  have key : ∃ vm', Stand p l e R s m args below meth c (T.setVm vm') locs cells slots ∧ ∀ target, (∀ acts, Steps p.tables e below (doInvoke e ((T.setVm vm').setTop { F0 m pc sl ((As.map (xa_tr Z.2.2.1 ad)).reverse ++ .ref (ad a) :: st.map (xa_tr Z.2.2.1 ad)) with stack := st.map (xa_tr Z.2.2.1 ad) }) acts mk (.ref (ad a) :: As.map (xa_tr Z.2.2.1 ad)).toArray).1 target) → Steps p.tables e below (T.setTop (F0 m pc sl ((As.map (xa_tr Z.2.2.1 ad)).reverse ++ .ref (ad a) :: st.map (xa_tr Z.2.2.1 ad)))) target := by
    rcases hml with hl | ⟨host, hl⟩
    · exact X.invokevirtual C.1 C.o (C.ts args _ hl) hnamed hmeth hstt hkP hkPi hmy.2.2.1 (a := ad a) (cell := cell) (by rw [hT]; exact hcell) (fun z q => by rw [q] at hobj; cases hobj) hselP hmeth hab hkP hkPi (g := F0 m pc sl ((As.map (xa_tr Z.2.2.1 ad)).reverse ++ .ref (ad a) :: st.map (xa_tr Z.2.2.1 ad))) rfl (argsL := As.map (xa_tr Z.2.2.1 ad)) (rest := st.map (xa_tr Z.2.2.1 ad)) (by rw [List.length_map]; exact f9.symm) rfl (by rw [C.2.1]; exact hd)
    · exact X.invokevirtualNest C.1 C.o (C.ts args _ hl) hnamed hmeth hstt hkP hkPi hmy.2.2.1 (a := ad a) (cell := cell) (by rw [hT]; exact hcell) (fun z q => by rw [q] at hobj; cases hobj) hselP hmeth hab hkP hkPi (g := F0 m pc sl ((As.map (xa_tr Z.2.2.1 ad)).reverse ++ .ref (ad a) :: st.map (xa_tr Z.2.2.1 ad))) rfl (argsL := As.map (xa_tr Z.2.2.1 ad)) (rest := st.map (xa_tr Z.2.2.1 ad)) (by rw [List.length_map]; exact f9.symm) rfl (by rw [C.2.1]; exact hd)
  obtain ⟨vm', X₁, hstep⟩ := key
  exact xa_ret (Fs := .ref a :: As) hP k1 k2 C hc hs X₁ hT rp lv (xa_oks_t ok2) (xa_oks_c (xa_ok_r ha) okA) (fun v hv => by
    rcases List.mem_cons.mp hv with q | q
    · rw [q]; rfl
    · exact hca v q) hmy (by show As.length + 1 ≤ _; exact hlen) hd hw (X₁.named hnamed) hstep
theorem xa_sS {i : Nat} {As : List Value} (hd : decode (K.1 y).2.1 pc = .ok (.invokestatic i, 3)) (hl : xa_lkS K (K.1 y).1.cls i y' As.length) (hca : ∀ v ∈ As, v.category = 1) (hw : (st.map fun v => v.category).sum ≤ 8) (hP : ∀ E h', ¬ P (.inr E) h')
    (k1 : xa_W l K Z d y' 0 (xa_ent (K.1 y').2.2.1 As) [] h mc' ms' P) (k2 : ∀ (v : Option Value) (h' : xa_H), P (.inl v) h' → xa_W l K Z (d + 1) y (pc + 3) ls (v.toList ++ st) h' mc ms Q)
    (C : xa_C K Z (d + 1) y p R s m meth c A) (hc : cells + (mc + mc') ≤ R.cells) (hs : slots + (ms + ms') ≤ R.slots) (rp : xa_rep K Z A s H locs ad h) (lv : xa_lv Z.2.2.1 ad h.1 (K.1 y).2.2.1 sl ls) (ok : xa_oks h.1 (As.reverse ++ st)) :
    W p l e R s m args below meth c H locs cells slots (xa_E K Z below A s ad h.1 (cells + (mc + mc')) (slots + (ms + ms')) Q) (F0 m pc sl ((As.reverse ++ st).map (xa_tr Z.2.2.1 ad))) := by
  intro T hT X
  obtain ⟨hml, hstat, hini, hmy, hlen⟩ := hl
  obtain ⟨ok1, ok2⟩ := xa_oks_a ok
  have okA : xa_oks h.1 As := fun v hv => ok1 v (List.mem_reverse.mpr hv)
  obtain ⟨mk, methk, ck0, hnamed, hmeth, -, -, -, -, -, -, f9, -⟩ := xa_cal hmy (C.ts args _ hmy.1)
  have hstatic : methk.isStatic = true := Cond.static_spec hnamed hmeth (C.ts args _ hstat)
  obtain ⟨kP, hkP, -⟩ := className_of_methodNamed hnamed
  have hinitP : kP.init = .initialized := Cond.initialized_spec (findClass_of_methodNamed hnamed) hkP (C.ts args _ hini)
  have est : (As.reverse ++ st).map (xa_tr Z.2.2.1 ad) = (As.map (xa_tr Z.2.2.1 ad)).reverse ++ st.map (xa_tr Z.2.2.1 ad) := by
    rw [List.map_append, List.map_reverse]
  rw [est]
  have key : ∃ vm', Stand p l e R s m args below meth c (T.setVm vm') locs cells slots ∧ ∀ target, (∀ acts, Steps p.tables e below (doInvoke e ((T.setVm vm').setTop { F0 m pc sl ((As.map (xa_tr Z.2.2.1 ad)).reverse ++ st.map (xa_tr Z.2.2.1 ad)) with stack := st.map (xa_tr Z.2.2.1 ad) }) acts mk (As.map (xa_tr Z.2.2.1 ad)).toArray).1 target) → Steps p.tables e below (T.setTop (F0 m pc sl ((As.map (xa_tr Z.2.2.1 ad)).reverse ++ st.map (xa_tr Z.2.2.1 ad)))) target := by
    rcases hml with hl | ⟨host, hl⟩
    · exact X.invokestatic C.1 C.o (C.ts args _ hl) hnamed hmeth hstatic hkP hinitP hmy.2.2.1 (g := F0 m pc sl ((As.map (xa_tr Z.2.2.1 ad)).reverse ++ st.map (xa_tr Z.2.2.1 ad))) rfl (argsL := As.map (xa_tr Z.2.2.1 ad)) (rest := st.map (xa_tr Z.2.2.1 ad)) (by rw [List.length_map]; exact f9.symm) rfl (by rw [C.2.1]; exact hd)
    · exact X.invokestaticNest C.1 C.o (C.ts args _ hl) hnamed hmeth hstatic hkP hinitP hmy.2.2.1 (g := F0 m pc sl ((As.map (xa_tr Z.2.2.1 ad)).reverse ++ st.map (xa_tr Z.2.2.1 ad))) rfl (argsL := As.map (xa_tr Z.2.2.1 ad)) (rest := st.map (xa_tr Z.2.2.1 ad)) (by rw [List.length_map]; exact f9.symm) rfl (by rw [C.2.1]; exact hd)
  obtain ⟨vm', X₁, hstep⟩ := key
  exact xa_ret (Fs := As) hP k1 k2 C hc hs X₁ hT rp lv ok2 okA hca hmy hlen hd hw (X₁.named hnamed) hstep
theorem xa_sI {i a : Nat} {As : List Value} (hd : decode (K.1 y).2.1 pc = .ok (.invokespecial i, 3)) (hl : xa_lkI K (K.1 y).1.cls i y' As.length) (hca : ∀ v ∈ As, v.category = 1) (hw : (st.map fun v => v.category).sum ≤ 8) (hP : ∀ E h', ¬ P (.inr E) h')
    (k1 : xa_W l K Z d y' 0 (xa_ent (K.1 y').2.2.1 (.ref a :: As)) [] h mc' ms' P) (k2 : ∀ (v : Option Value) (h' : xa_H), P (.inl v) h' → xa_W l K Z (d + 1) y (pc + 3) ls (v.toList ++ st) h' mc ms Q)
    (C : xa_C K Z (d + 1) y p R s m meth c A) (hc : cells + (mc + mc') ≤ R.cells) (hs : slots + (ms + ms') ≤ R.slots) (rp : xa_rep K Z A s H locs ad h) (lv : xa_lv Z.2.2.1 ad h.1 (K.1 y).2.2.1 sl ls) (ok : xa_oks h.1 (As.reverse ++ .ref a :: st)) :
    W p l e R s m args below meth c H locs cells slots (xa_E K Z below A s ad h.1 (cells + (mc + mc')) (slots + (ms + ms')) Q) (F0 m pc sl ((As.reverse ++ .ref a :: st).map (xa_tr Z.2.2.1 ad))) := by
  intro T hT X
  obtain ⟨hml, hinst, hnm, hrn, hhn, hmy, hlen⟩ := hl
  obtain ⟨ok1, ok2⟩ := xa_oks_a ok
  have okA : xa_oks h.1 As := fun v hv => ok1 v (List.mem_reverse.mpr hv)
  have ha : a < h.1 := xa_oks_h ok2 a rfl
  have hpl : e.platform.magicAccessors = ({} : Platform).magicAccessors := by rw [X.admits.platform]
  have hcode : (Cond.code (K.1 y').1 (K.1 y').2.1 (K.1 y').2.2.1 none).before args s = true := by
    have := C.ts args _ hmy.1
    unfold xa_cw at this
    rw [hhn, hrn] at this
    exact this
  have hpar : ∀ sig, parseMethodDescriptor (K.1 y').1.desc = some sig → (As.map (xa_tr Z.2.2.1 ad)).length = sig.parameters.length := fun sig q => by
    have h2 := hmy.2.2.2.1
    rw [q] at h2
    rw [List.length_map]
    exact (Option.some.inj h2).symm
  have est : (As.reverse ++ .ref a :: st).map (xa_tr Z.2.2.1 ad) = (As.map (xa_tr Z.2.2.1 ad)).reverse ++ .ref (ad a) :: st.map (xa_tr Z.2.2.1 ad) := by
    rw [List.map_append, List.map_reverse]; rfl
  rw [est]
  have key : ∃ mk vm', s.methodNamed? (K.1 y').1 = some mk ∧ s.WarmedH vm' ∧ ∀ target, (∀ acts, Steps p.tables e below (doInvoke e ((T.setVm vm').setTop { F0 m pc sl ((As.map (xa_tr Z.2.2.1 ad)).reverse ++ .ref (ad a) :: st.map (xa_tr Z.2.2.1 ad)) with stack := st.map (xa_tr Z.2.2.1 ad) }) acts mk (.ref (ad a) :: As.map (xa_tr Z.2.2.1 ad)).toArray).1 target) → Steps p.tables e below (T.setTop (F0 m pc sl ((As.map (xa_tr Z.2.2.1 ad)).reverse ++ .ref (ad a) :: st.map (xa_tr Z.2.2.1 ad)))) target := by
    rcases hml with hl | ⟨host, hl⟩
    · obtain ⟨mk, _, _, _, vm', g1, -, -, -, -, -, -, -, g2, g3⟩ := Steps.initColdArgs (e := e) X.here C.1 X.warmed hpl C.o hnm hmy.2.2.1 (C.ts args _ hl) (C.ts args _ hinst) hcode (f := F0 m pc sl ((As.map (xa_tr Z.2.2.1 ad)).reverse ++ .ref (ad a) :: st.map (xa_tr Z.2.2.1 ad))) rfl hpar rfl (by rw [C.2.1]; exact hd)
      exact ⟨mk, vm', g1, g2, g3⟩
    · obtain ⟨mk, _, _, _, vm', g1, -, -, -, -, -, -, -, g2, g3⟩ := Steps.initColdArgsNest (e := e) X.here C.1 X.warmed hpl C.o hnm hmy.2.2.1 (C.ts args _ hl) (C.ts args _ hinst) hcode (f := F0 m pc sl ((As.map (xa_tr Z.2.2.1 ad)).reverse ++ .ref (ad a) :: st.map (xa_tr Z.2.2.1 ad))) rfl hpar rfl (by rw [C.2.1]; exact hd)
      exact ⟨mk, vm', g1, g2, g3⟩
  obtain ⟨mk, vm', hnamed, hW₁, hstep⟩ := key
  have X₁ := X.noted hW₁
  exact xa_ret (Fs := .ref a :: As) hP k1 k2 C hc hs X₁ hT rp lv (xa_oks_t ok2) (xa_oks_c (xa_ok_r ha) okA) (fun v hv => by
    rcases List.mem_cons.mp hv with q | q
    · rw [q]; rfl
    · exact hca v q) hmy (by show As.length + 1 ≤ _; exact hlen) hd hw (X₁.named hnamed) hstep
end XCalls2
section XThrow
/-- the same standing, told from the state as it is now -/
theorem xa_base {p : Program} {l : Launch} {e : Env} {R : Room} {s : State} {m : MethodId} {args : Array Value} {below : List Frame} {meth : Method} {c : Code} {T : State} {locs : List Loc} {cells slots a b : Nat}
    (X : Stand p l e R s m args below meth c T locs cells slots) (ha : cells + a ≤ R.cells) (hb : slots + b ≤ R.slots) :
    Stand p l e { frames := R.frames, cells := a, slots := b, locals := R.locals } (T.setFrames (.invoking m args :: below)) m args below meth c T [] 0 0 := by
  obtain ⟨g₀, hfr⟩ := X.frames_eq
  have hcur : T.cur < T.threads.size := State.cur_lt_of_frames hfr
  have hf : (T.setFrames (.invoking m args :: below)).frames = .invoking m args :: below := State.frames_setFrames _ hcur
  obtain ⟨t, ht, -⟩ := State.frames_cons hfr
  have hm : (T.setFrames (.invoking m args :: below)).vm.method? m = some meth := X.method'
  have hcode : ∀ g : MethodId, (T.setFrames (.invoking m args :: below)).code? g = s.code? g := fun g => by
    rw [State.code?_eq, State.code?_eq]
    show (T.vm.method? g).bind _ = _
    rw [X.warmed.alike.method?]
  have hr := X.room
  simp only [State.hasRoom, Bool.and_eq_true, decide_eq_true_eq] at hr
  have hU : (T.setFrames (.invoking m args :: below)).localsInUse = s.localsInUse := by
    rw [State.localsInUse_invoking X.frames X.method X.code, State.localsInUse_invoking hf hm X.code]
  have hhp := X.heapHas ha hb
  refine ⟨X.admits, X.cas, X.clock, hf, ?_, ?_, hm, X.code, X.here, X.tail, State.WarmedH.refl _, (State.stackLimits_setFrames _ _ _).symm, (State.stackBytes_setFrames _ _).symm, ?_⟩
  · simp only [State.hasRoom, Bool.and_eq_true, decide_eq_true_eq]
    rw [hU, hf, State.stackLimits_setFrames, State.stackBytes_setFrames, X.limits, X.bytes]
    have h2 := hr.1.1.1.2
    rw [X.frames] at h2
    exact ⟨⟨⟨⟨hr.1.1.1.1, h2⟩, hhp.1⟩, hhp.2⟩, X.book⟩
  · have hh := X.hears
    cases below with
    | nil => 
      show (T.vm.method? m).any _ = true
      rw [X.method']
      have hh : (s.vm.method? m).any _ = true := hh
      rw [X.method] at hh
      exact hh
    | cons b r =>
      cases b with
      | java g =>
        simp only [State.hears] at hh ⊢
        rw [hcode]; exact hh
      | native _ => rfl
      | proc _ => rfl
      | _ =>
        simp only [State.hears] at hh ⊢
        show (T.vm.method? m).any _ = true
        rw [X.method']
        rw [X.method] at hh
        exact hh
  · have h := (State.sameButNew.refl (T.setFrames (.invoking m args :: below)) (State.frames_cons hf).choose_spec.1).setFrames T.frames (by exact State.cur_lt_of_frames hf)
    rw [State.setFrames_setFrames, State.setFrames_self ht] at h
    exact h
/-- what was made and written since, told from the first state again -/
theorem xa_base_out {p : Program} {l : Launch} {e : Env} {R : Room} {s : State} {m : MethodId} {args : Array Value} {below : List Frame} {meth : Method} {c : Code} {T t : State} {locs : List Loc} {cells slots a b : Nat}
    (X : Stand p l e R s m args below meth c T locs cells slots) (hW : (T.setFrames (.invoking m args :: below)).WarmedH t.vm)
    (hs : (T.setFrames (.invoking m args :: below)).sameButNew ({ t with vm := (T.setFrames (.invoking m args :: below)).vm } : State) [] a b) :
    s.WarmedH t.vm ∧ s.sameButNew ({ t with vm := s.vm } : State) locs (cells + a) (slots + b) ∧ T.heap.size ≤ t.heap.size ∧ ∀ q, q < T.heap.size → t.heap[q]? = T.heap[q]? := by
  have hW' : T.WarmedH t.vm := hW
  refine ⟨State.WarmedH.trans X.warmed hW', ?_, hs.2.1, fun q hq => ?_⟩
  · have h1 : T.sameButNew ({ t with vm := T.vm } : State) [] a b := by
      obtain ⟨e2, q2⟩ := hs
      refine ⟨?_, q2⟩
      rw [State.setFrames_setFrames] at e2
      exact e2
    have h2 := X.same.trans (h1.setVm s.vm)
    rw [List.append_nil] at h2
    exact h2
  · obtain ⟨c', h1, h2, h3, h4⟩ := hs.2.2.2.2.2 q T.heap[q] (Array.getElem?_eq_getElem hq)
    have h1 : t.heap[q]? = some c' := h1
    rw [h1, Array.getElem?_eq_getElem hq]
    have e1 : c'.slots = (T.heap[q]).slots := by
      apply Array.ext_getElem?
      intro i
      exact h4 i (fun z => by cases z)
    rw [h2, e1]
end XThrow
section XThrow2
theorem xa_thr0 {p : Program} {l : Launch} {e : Env} {R : Room} {s : State} {m : MethodId} {args : Array Value} {below : List Frame} {meth : Method} {c : Code} {T : State} {sl : Array Slot} {st : List Value} {pc i1 i2 i3 : Nat} {own E tx : String}
    (X : Stand p l e R s m args below meth c T [] 0 0) (hexec : p.tables.exec = Jvm.exec) (htr : e.platform.stackTraces = false) (hown : s.vm.findClass own = some m.cls) (hfit : Bundle.fit E = true)
    (h : ∀ a ∈ Bundle.ownAtoms own i3 E xa_sup, a.before args s = true) (hcl : (Cond.classLink own i1 E).before args s = true) (hini : (Cond.initialized E).before args s = true) (hstr : (Cond.stringRef own i2 tx).before args s = true)
    (d1 : decode c.code pc = .ok (.new i1, 3)) (d2 : decode c.code (pc + 3) = .ok (.dup, 1)) (d3 : decode c.code (pc + 4) = .ok (.ldc i2, 2)) (d4 : decode c.code (pc + 6) = .ok (.invokespecial i3, 3)) (d5 : decode c.code (pc + 9) = .ok (.athrow, 1))
    (hout : c.exceptionTable.toList = []) (hsl : sl.size = c.maxLocals) (hlk : meth.locks = false) (hR1 : 1 ≤ R.cells) (hR2 : 6 ≤ R.slots) (hR3 : 8 ≤ R.frames) (hR4 : (st.map fun v => v.category).sum + 200 ≤ R.locals) :
    ∃ (t : State) (q : Addr) (ce : Cell), Steps p.tables e below (T.setTop (F0 m pc sl st)) t ∧ t.status = .running ∧ Ended t below (.threw q) ∧ s.WarmedH t.vm ∧ s.sameButNew ({ t with vm := s.vm } : State) [] 1 6 ∧
      t.heap[q]? = some ce ∧ ce.vm = .none ∧ s.vm.findClass E = some ce.cls := by
  have hin : (Cond.instantiable E 6).before args s = true := h _ (by simp [Bundle.ownAtoms])
  obtain ⟨vm1, cC, kC, hf, hk, hord, hn, X1, st1⟩ := X.newCold hexec hown hcl hin hini (g := F0 m pc sl st) rfl d1 (by omega) (by omega)
  obtain ⟨k, cf, i, a', -, -, -, -, hr, hev⟩ := Cond.stringRef_spec hown hstr
  have hcell : ((T.setVm vm1).pushCell { cls := cC, slots := kC.instanceTypes.map defaultValue, vm := .none }).heap[T.heap.size]? = some (freshCell cC kC) := by
    show (T.heap.push _)[T.heap.size]? = _
    rw [Array.getElem?_push_size]
  have hsz : s.heap.size ≤ T.heap.size := X.same.2.1
  have hd := lv_dup (p := p) (l := l) (e := e) (R := R) (s := s) (m := m) (args := args) (below := below) (meth := meth) (c := c) (Q := fun t => ∃ (q : Addr) (ce : Cell), t.status = .running ∧ Ended t below (.threw q) ∧ s.WarmedH t.vm ∧ s.sameButNew ({ t with vm := s.vm } : State) [] 1 6 ∧ t.heap[q]? = some ce ∧ ce.vm = .none ∧ s.vm.findClass E = some ce.cls)
    (H := ((T.setVm vm1).pushCell { cls := cC, slots := kC.instanceTypes.map defaultValue, vm := .none }).heap) (locs := []) (cells := 0 + 1) (slots := 0 + 6) (pc := pc + 3) (ls := sl) (rest := st) hexec rfl (va := .ref T.heap.size) d2 rfl ?_
  · obtain ⟨t, a1, q, ce, a2⟩ := hd _ rfl X1
    exact ⟨t, q, ce, st1 t a1, a2⟩
  · intro T2 hT2 X2
    obtain ⟨U, s1, s2, s3, s4, s5, ce, s6, s7⟩ := X2.ctorThrowS hexec htr (own := own) (cls := E) (names := xa_sup) (ic := i3) hown hfit (by decide) h (fun x hx => by cases hx) hf hk (by rw [hT2]; exact hcell) hsz (msg := .ref a') rfl
      (g := F0 m (pc + 6) sl (.ref a' :: .ref T.heap.size :: .ref T.heap.size :: st)) rfl hsl rfl rfl rfl d4 d5 (by rw [hout]; intro x hx; cases hx) (by show 2 + 3 < R.frames; omega) (by
        show 2 * JFrame.monitorRoom _ + (1 + (st.map fun v => v.category).sum) + (13 * 3 + 42) ≤ R.locals
        simp only [JFrame.monitorRoom]
        omega) hlk
    exact ⟨U, X2.ldcString hexec hown hstr hev (g := F0 m (pc + 3 + 1) sl (.ref T.heap.size :: .ref T.heap.size :: st)) rfl d3 U s1, T.heap.size, ce, s2, s3, s4, s5, s6, s7.vm, s7.cls⟩
end XThrow2
section XCatch
theorem xa_go {e : Env} {s u : State} {f : JFrame} {x : Addr} {ce : Cell} {ws : List Cond} {own E : String} {args : Array Value} (hpl : e.platform.magicAccessors = ({} : Platform).magicAccessors)
    (hws : ∀ w ∈ ws, w.before args s = true) (hown : s.vm.findClass own = some f.method.cls) (hcell : u.heap[x]? = some ce) (hvm : ce.vm = .none) (hE : s.vm.findClass E = some ce.cls)
    (hyes : (Cond.castable E E).before args s = true) (hno : ∀ D ∈ xa_four, D ≠ E → va_Nc E D s) {hp : Nat} :
    ∀ (qs : List (Nat × Nat × Nat × Nat)) (rs : List (String × Nat)) (vm0 : Vm), s.WarmedH vm0 → xa_tab ws own f.pc qs rs → xa_hit E rs = some hp →
      ∃ vm', s.WarmedH vm' ∧ ∀ (Q : Handler → Pre) (E' : CtlPost) (d : Bool) (acts : List Action), wp (findHandler.go f x (tableOf qs)) Q E' e d acts (u.setVm vm0) ↔ Q (.found hp) d acts (u.setVm vm')
  | [], [], _, _, _, hh => by cases hh
  | [], _ :: _, _, _, ht, _ => ht.elim
  | _ :: _, [], _, _, ht, _ => ht.elim
  | q :: t, r :: rs, vm0, hW, ht, hh => by
    obtain ⟨h1, h2, h3, h4, h5, h6, ht⟩ := ht
    obtain ⟨cT, hc, hcl⟩ := Cond.classLink_spec hown (hws _ h5) e.platform hpl
    obtain ⟨dk, _, _, kt, hd, _, _, _, _, hkt, _, hopen⟩ := hcl.here
    have hcl0 := hW.classLinks hcl
    have hW' : s.WarmedH (vm0.noted f.method.cls q.2.2.2 (.cls cT)) := hW.noted hd hopen (State.rightAt_cls hcl)
    obtain ⟨ha, hb⟩ := (resolveClass_links e.toSetting hcl0).op (op := VmOp.resolveClass f.method.cls q.2.2.2) rfl
    obtain ⟨kE, hkE⟩ := Vm.classAt_of_findClass hE
    obtain ⟨k1, hk1, -⟩ := hW'.alike.2.2 _ _ hkE
    obtain ⟨k2, hk2, -⟩ := hW'.alike.2.2 _ _ hkt
    have hcov : (decide (q.1 ≤ f.pc) && decide (f.pc < q.2.1)) = true := by simp [h1, h2]
    have hobj : ∀ k, ce.vm ≠ .statics k := fun k z => by rw [hvm] at z; cases z
    by_cases hr : r.1 = E
    · have e1 : hp = q.2.2.1 := by
        unfold xa_hit at hh
        rw [if_pos hr] at hh
        rw [h3]; exact (Option.some.inj hh).symm
      obtain ⟨c1, c2, g1, g2, g3⟩ := Cond.castable_spec hyes
      cases g1.symm.trans hE
      cases g1.symm.trans g2
      rw [hr] at hc
      cases hc.symm.trans hE
      have hfit : (vm0.noted f.method.cls q.2.2.2 (.cls ce.cls)).assignable ce.cls ce.cls = true := by rw [hW'.alike.assignable]; exact g3
      refine ⟨_, hW', fun Q E' d acts => ?_⟩
      rw [e1]
      simp [tableOf, findHandler.go, hcov, h4, ha, hb, hcell, hobj, hk1, hk2, hfit, VmOp.dirties, VmOp.acts]
      exact Iff.rfl
    · have hh' : xa_hit E rs = some hp := by
        unfold xa_hit at hh
        rwa [if_neg hr] at hh
      obtain ⟨c1, c2, g1, g2, g3⟩ := hno _ h6 hr
      cases g1.symm.trans hE
      cases g2.symm.trans hc
      have hfit : (vm0.noted f.method.cls q.2.2.2 (.cls cT)).assignable ce.cls cT = false := by rw [hW'.alike.assignable]; exact g3
      obtain ⟨vm', hV, hk⟩ := xa_go hpl hws hown hcell hvm hE hyes hno t rs _ hW' ht hh'
      refine ⟨vm', hV, fun Q E' d acts => ?_⟩
      rw [← hk Q E' d acts]
      simp [tableOf, findHandler.go, hcov, h4, ha, hb, hcell, hobj, hk1, hk2, hfit, VmOp.dirties, VmOp.acts]
      exact Iff.rfl
/-- an exception that came out of a call is caught here -/
theorem xa_catch {p : Program} {l : Launch} {e : Env} {R : Room} {s : State} {m : MethodId} {args : Array Value} {below : List Frame} {meth : Method} {c : Code} {T : State} {locs : List Loc} {cells slots : Nat}
    (X : Stand p l e R s m args below meth c T locs cells slots) {g : JFrame} (hg : g.method = m) {x : Addr} {ce : Cell} {ws : List Cond} {own E : String}
    (hws : ∀ w ∈ ws, w.before args s = true) (hown : s.vm.findClass own = some m.cls) (hcell : T.heap[x]? = some ce) (hvm : ce.vm = .none) (hE : s.vm.findClass E = some ce.cls)
    (hyes : (Cond.castable E E).before args s = true) (hno : ∀ D ∈ xa_four, D ≠ E → va_Nc E D s) {hp : Nat} {qs : List (Nat × Nat × Nat × Nat)} {rs : List (String × Nat)} (hq : c.exceptionTable.toList = tableOf qs) (ht : xa_tab ws own g.pc qs rs) (hh : xa_hit E rs = some hp) :
    ∃ vm', Stand p l e R s m args below meth c (T.setVm vm') locs cells slots ∧
      ∀ target, Steps p.tables e below ((T.setVm vm').setTop { g with pc := hp, stack := [.ref x] }) target → Steps p.tables e below ((T.setTop g).pushFrame (.throwing x)) target := by
  have hpl : e.platform.magicAccessors = ({} : Platform).magicAccessors := by rw [X.admits.platform]
  subst hg
  obtain ⟨vm', hW', hk⟩ := xa_go (u := (T.setTop g).pushFrame (.throwing x)) (f := g) hpl hws hown (by rw [Stand.throwing_heap]; exact hcell) hvm hE hyes hno qs rs T.vm X.warmed ht hh
  refine ⟨vm', X.noted hW', fun target hrest => ?_⟩
  have hfind : ∀ (Q : Handler → Pre) (E' : CtlPost) (d : Bool) (acts : List Action), wp (findHandler g x) Q E' e d acts ((T.setTop g).pushFrame (.throwing x)) ↔ Q (.found hp) d acts (((T.setTop g).pushFrame (.throwing x)).setVm vm') := fun Q E' d acts => by
    rw [W.findHandler_eq (s := (T.setTop g).pushFrame (.throwing x)) (meth := meth) (code := c) X.method' X.code, hq]
    exact hk Q E' d acts
  have hstep : ∀ r : List Frame, (stepThrowing e ((T.setTop g).pushFrame (.throwing x)) x (.java g :: r)).1 = (((T.setTop g).pushFrame (.throwing x)).setVm vm').setFrames (.java { g with pc := hp, stack := [.ref x] } :: r) := fun r => by
    simp only [stepThrowing, searchFrame, vmDo]
    generalize hr : Sem.go _ e false [] ((T.setTop g).pushFrame (.throwing x)) = res
    obtain ⟨as, rfl, ha⟩ := Sem.eq_ok_of hr (a := Handler.found hp) (s' := ((T.setTop g).pushFrame (.throwing x)).setVm vm') (acts' := []) (by simp [hfind _ _ _ _])
    rfl
  obtain ⟨hgo, hw⟩ := X.here.throwing x
  refine Steps.head hgo hw ?_
  obtain ⟨g₀, hr⟩ := X.frames_eq
  rw [stepThread_throwing (frames_entered X.here.top _), hstep]
  have hr' : (T.setVm vm').frames = .java g₀ :: below := hr
  rw [State.setTop_of_frames _ hr'] at hrest
  have e1 : (((T.setTop g).pushFrame (.throwing x)).setVm vm').setFrames (.java { g with pc := hp, stack := [.ref x] } :: T.frames.tail) = (T.setVm vm').setFrames (.java { g with pc := hp, stack := [.ref x] } :: below) := by
    rw [State.pushFrame, State.frames_setTop _ hr, State.setTop_of_frames _ hr, State.setFrames_setFrames, X.tail]
    show ((T.setVm vm').setFrames _).setFrames _ = _
    rw [State.setFrames_setFrames]
  rw [e1]
  exact hrest
end XCatch
section XCalls3
variable {l : Launch} {K : xa_P} {Z : xa_Z} {d y y' : Nat} {p : Program} {e : Env} {R : Room} {s : State} {m : MethodId} {args : Array Value} {below : List Frame} {meth : Method} {c : Code} {A : Nat → Prop} {H : Heap} {locs : List Loc} {cells slots mc ms mc' ms' : Nat} {ad : Nat → Nat} {h : xa_H} {P Q : xa_Q} {sl : Array Slot} {ls st : List Value} {pc : Nat}
/-- no stack traces are made -/
def xa_nt (l : Launch) : Prop := ∀ e : Env, l.admits e → e.platform.stackTraces = false
theorem xa_tws_i {E : String} (h : E ∈ xa_four) : Cond.initialized E ∈ xa_tws := List.mem_flatMap.mpr ⟨E, h, List.mem_cons_self⟩
theorem xa_tws_t {E : String} {w : Cond} (h : E ∈ xa_four) (hw : w ∈ xa_tw E) : w ∈ xa_tws := List.mem_flatMap.mpr ⟨E, h, List.mem_cons_of_mem _ (List.mem_append_left _ hw)⟩
theorem xa_tws_n {E D : String} (h : E ∈ xa_four) (hd : D ∈ xa_four) (hn : D ≠ E) : Cond.not (.castable E D) ∈ xa_tws :=
  List.mem_flatMap.mpr ⟨E, h, List.mem_cons_of_mem _ (List.mem_append_right _ (List.mem_map.mpr ⟨D, List.mem_filter.mpr ⟨hd, by simpa using hn⟩, rfl⟩))⟩
theorem xa_fit {E : String} (h : E ∈ xa_four) : Bundle.fit E = true := by
  have : ∀ D ∈ xa_four, Bundle.fit D = true := by decide
  exact this E h
theorem xa_kept (rp : xa_rep K Z A s H locs ad h) {H' : Heap} (hsz : H.size ≤ H'.size) (hk : ∀ q, q < H.size → H'[q]? = H[q]?) : xa_rep K Z A s H' [] ad h :=
  ⟨rp.1.kept fun k q hq => hk q.1 (va_at.lt (rp.1 k q hq)), rp.2.1, ⟨Nat.le_trans rp.2.2.1.1 hsz, fun q h1 h2 => (hk q (Nat.lt_of_lt_of_le h1 rp.2.2.1.1)).trans (rp.2.2.1.2.1 q h1 h2), fun q hq => nomatch hq⟩, rp.2.2.2⟩
theorem xa_sThr (hl : xa_nt l) {i1 i2 i3 : Nat} {E tx : String} (hd : xa_thd K y pc i1 i2 i3) (hE : E ∈ xa_four) (h1 : Cond.classLink (K.1 y).1.cls i1 E ∈ K.2.2.1) (h2 : Cond.stringRef (K.1 y).1.cls i2 tx ∈ K.2.2.1) (h3 : Cond.methodLink (K.1 y).1.cls i3 (Bundle.initS E) ∈ K.2.2.1)
    (ht : (K.1 y).2.2.2.2 = []) (hw : (st.map fun v => v.category).sum ≤ 8) (hQ : Q (.inr E) h)
    (C : xa_C K Z d y p R s m meth c A) (hc : cells + (mc + 1) ≤ R.cells) (hs : slots + (ms + 6) ≤ R.slots) (rp : xa_rep K Z A s H locs ad h) (lv : xa_lv Z.2.2.1 ad h.1 (K.1 y).2.2.1 sl ls) :
    W p l e R s m args below meth c H locs cells slots (xa_E K Z below A s ad h.1 (cells + (mc + 1)) (slots + (ms + 6)) Q) (F0 m pc sl (st.map (xa_tr Z.2.2.1 ad))) := by
  intro T hT X
  subst hT
  have X' := xa_base (a := 1) (b := 6) X (by omega) (by omega)
  have hW : s.WarmedH (T.setFrames (.invoking m args :: below)).vm := X.warmed
  have w1 : ∀ w ∈ K.2.2.1, w.before args (T.setFrames (.invoking m args :: below)) = true := fun w hw => C.g.1 w hw args _ hW
  have w2 : ∀ w ∈ xa_tws, w.before args (T.setFrames (.invoking m args :: below)) = true := fun w hw => C.g.2.2.2.2.2 w hw args _ hW (fun q g1 g2 => rp.2.2.1.2.1 q g1 g2)
  have own' : (T.setFrames (.invoking m args :: below)).vm.findClass (K.1 y).1.cls = some m.cls := by
    show T.vm.findClass _ = _
    rw [X.warmed.alike.findClass]; exact C.o
  have rm := C.rm
  obtain ⟨t, q, ce, t1, t2, t3, t4, t5, t6, t7, t8⟩ := xa_thr0 (st := st.map (xa_tr Z.2.2.1 ad)) (sl := sl) (pc := pc) (i1 := i1) (i2 := i2) (i3 := i3) (E := E) (tx := tx) X' C.1 (hl e X.admits) own' (xa_fit hE)
    (fun w hw => by
      rcases xa_tw_of hw with q | q
      · rw [q]; exact w1 _ h3
      · exact w2 _ (xa_tws_t hE q)) (w1 _ h1) (w2 _ (xa_tws_i hE)) (w1 _ h2) (by rw [C.2.1]; exact hd.1) (by rw [C.2.1]; exact hd.2.1) (by rw [C.2.1]; exact hd.2.2.1) (by rw [C.2.1]; exact hd.2.2.2.1) (by rw [C.2.1]; exact hd.2.2.2.2)
    (by rw [C.2.2.2.2.2.2.2.1, ht]; rfl) (lv.1.1.trans C.2.2.1.symm) C.l (Nat.le_refl _) (Nat.le_refl _) (by show 8 ≤ R.frames; omega) (by rw [xa_sum]; show _ ≤ R.locals; omega)
  obtain ⟨o1, o2, o3, o4⟩ := xa_base_out X t4 t5
  refine ⟨t, t1, .threw q, t2, t3, ⟨locs, o1, o2.mono (by omega) (by omega), rp.2.2.1.2.2⟩, ad, h, .inr E, Nat.le_refl _, fun _ _ => rfl, xa_kept rp o3 o4, hQ, q, ce, rfl, t6, t7, ?_⟩
  have t8 : T.vm.findClass E = some ce.cls := t8
  rw [X.warmed.alike.findClass] at t8
  exact t8
/-- behind a call: what the callee returned is on the stack, or what it threw is under way -/
theorem xa_ret2 {Fs : List Value} {T T₁ : State} {g0 : JFrame} {ig : Instr} {mk : MethodId}
    (kx : ∀ (E : String) (h' : xa_H), P (.inr E) h' → ∀ (T' : State) (locs' : List Loc) (ad' : Nat → Nat) (x : Addr) (ce : Cell), Stand p l e R s m args below meth c T' locs' (cells + mc') (slots + ms') → h.1 ≤ h'.1 → (∀ i, i < h.1 → ad' i = ad i) → xa_rep K Z A s T'.heap locs' ad' h' →
      T'.heap[x]? = some ce → ce.vm = .none → s.vm.findClass E = some ce.cls → ∃ t, Steps p.tables e below ((T'.setTop (F0 m pc sl (st.map (xa_tr Z.2.2.1 ad)))).pushFrame (.throwing x)) t ∧ xa_E K Z below A s ad h.1 (cells + (mc + mc')) (slots + (ms + ms')) Q t)
    (k1 : xa_W l K Z d y' 0 (xa_ent (K.1 y').2.2.1 Fs) [] h mc' ms' P) (k2 : ∀ (v : Option Value) (h' : xa_H), P (.inl v) h' → xa_W l K Z (d + 1) y (pc + 3) ls (v.toList ++ st) h' mc ms Q)
    (C : xa_C K Z (d + 1) y p R s m meth c A) (hc : cells + (mc + mc') ≤ R.cells) (hs : slots + (ms + ms') ≤ R.slots) (X : Stand p l e R s m args below meth c T₁ locs cells slots) (hT : T₁.heap = H) (rp : xa_rep K Z A s H locs ad h) (lv : xa_lv Z.2.2.1 ad h.1 (K.1 y).2.2.1 sl ls) (okS : xa_oks h.1 st) (okF : xa_oks h.1 Fs)
    (hca : ∀ v ∈ Fs, v.category = 1) {n : Nat} (hmy : xa_my K y' n) (hlen : Fs.length ≤ (K.1 y').2.2.1) (hd : decode (K.1 y).2.1 pc = .ok (ig, 3)) (hw : (st.map fun v => v.category).sum ≤ 8) (hnm : T₁.methodNamed? (K.1 y').1 = some mk)
    (hstep : ∀ target, (∀ acts, Steps p.tables e below (doInvoke e (T₁.setTop (F0 m pc sl (st.map (xa_tr Z.2.2.1 ad)))) acts mk (Fs.map (xa_tr Z.2.2.1 ad)).toArray).1 target) → Steps p.tables e below (T.setTop g0) target) :
    ∃ t, Steps p.tables e below (T.setTop g0) t ∧ xa_E K Z below A s ad h.1 (cells + (mc + mc')) (slots + (ms + ms')) Q t := by
  subst hT
  obtain ⟨mk1, methk, ck, e1, e2, e3, e4, e5, e6, e7, e8, -, e9⟩ := xa_cal hmy (C.g.1 _ hmy.1 args T₁ X.warmed)
  cases hnm.symm.trans e1
  obtain ⟨o, t, T', L, ad', h', oa, X', hn', hag, rp', hPo, hoc, hst, hret, hthr⟩ := xa_run (g := F0 m pc sl (st.map (xa_tr Z.2.2.1 ad))) (ig := ig) (len := 3) k1 C X (by omega) (by omega) rp okF hca hlen hmy.2.2.2.2 rfl (lv.1.1.trans C.2.2.1.symm) (by rw [C.2.1]; exact hd) (by rw [xa_sum]; simp only [JFrame.monitorRoom]; omega) hnm e2 e3 e4 e5 e6 e7 e8 e9
  cases oa with
  | inr E =>
    obtain ⟨x, ce, q1, q2, q3, q4⟩ := hoc
    obtain ⟨t2, a1, b1⟩ := kx E h' hPo T' (locs ++ L) ad' x ce X' hn' hag rp' q2 q3 q4
    refine ⟨t2, hstep t2 (fun acts => (hst acts).trans ?_), b1⟩
    rw [hthr x q1]
    exact a1
  | inl v =>
    have ht := hret _ hoc.1
    have okv : xa_oks h'.1 (v.toList ++ st) := fun w hw => by
      rcases List.mem_append.mp hw with q | q
      · cases v with
        | none => cases q
        | some u => rw [List.mem_singleton.mp q]; exact hoc.2 u rfl
      · exact xa_ok_m hn' (okS w q)
    obtain ⟨t2, a1, b1⟩ := k2 v h' hPo p e R s m args below meth c A T'.heap (locs ++ L) (cells + mc') (slots + ms') ad' sl C (by omega) (by omega) rp' (xa_lv_m lv hn' hag) okv T' rfl X'
    have est : (v.toList ++ st).map (xa_tr Z.2.2.1 ad') = (v.map (xa_tr Z.2.2.1 ad')).toList ++ st.map (xa_tr Z.2.2.1 ad) := by
      rw [List.map_append, xa_trs_ag hag okS]
      cases v <;> rfl
    rw [est] at a1
    refine ⟨t2, hstep t2 (fun acts => (hst acts).trans ?_), xa_E.m hn' hag (xa_E.c (by omega) (by omega) b1)⟩
    rw [ht]
    exact a1
theorem xa_sVk {i ci a : Nat} {fs As : List Value} (hd : decode (K.1 y).2.1 pc = .ok (.invokevirtual i, 3)) (hl : xa_lkV K (K.1 y).1.cls i ci y' As.length) (hh : h.2 a = .inr (ci, fs)) (hca : ∀ v ∈ As, v.category = 1) (hw : (st.map fun v => v.category).sum ≤ 8)
    (kx : ∀ (E : String) (h' : xa_H), P (.inr E) h' → ∀ (T' : State) (locs' : List Loc) (ad' : Nat → Nat) (x : Addr) (ce : Cell), Stand p l e R s m args below meth c T' locs' (cells + mc') (slots + ms') → h.1 ≤ h'.1 → (∀ i, i < h.1 → ad' i = ad i) → xa_rep K Z A s T'.heap locs' ad' h' →
      T'.heap[x]? = some ce → ce.vm = .none → s.vm.findClass E = some ce.cls → ∃ t, Steps p.tables e below ((T'.setTop (F0 m pc sl (st.map (xa_tr Z.2.2.1 ad)))).pushFrame (.throwing x)) t ∧ xa_E K Z below A s ad h.1 (cells + (mc + mc')) (slots + (ms + ms')) Q t)
    (k1 : xa_W l K Z d y' 0 (xa_ent (K.1 y').2.2.1 (.ref a :: As)) [] h mc' ms' P) (k2 : ∀ (v : Option Value) (h' : xa_H), P (.inl v) h' → xa_W l K Z (d + 1) y (pc + 3) ls (v.toList ++ st) h' mc ms Q)
    (C : xa_C K Z (d + 1) y p R s m meth c A) (hc : cells + (mc + mc') ≤ R.cells) (hs : slots + (ms + ms') ≤ R.slots) (rp : xa_rep K Z A s H locs ad h) (lv : xa_lv Z.2.2.1 ad h.1 (K.1 y).2.2.1 sl ls) (ok : xa_oks h.1 (As.reverse ++ .ref a :: st)) :
    W p l e R s m args below meth c H locs cells slots (xa_E K Z below A s ad h.1 (cells + (mc + mc')) (slots + (ms + ms')) Q) (F0 m pc sl ((As.reverse ++ .ref a :: st).map (xa_tr Z.2.2.1 ad))) := by
  intro T hT X
  obtain ⟨hml, hinst, ⟨Tc, N, hcl⟩, hsel, hmy, hlen⟩ := hl
  obtain ⟨ok1, ok2⟩ := xa_oks_a ok
  have okA : xa_oks h.1 As := fun v hv => ok1 v (List.mem_reverse.mpr hv)
  have ha : a < h.1 := xa_oks_h ok2 a rfl
  have hwA := xa_w_get (tys := Z.2.1) (tb := Z.2.2.1) (ad := ad) ha
  rw [hh] at hwA
  obtain ⟨cell, hcell, hobj, hcls⟩ := va_recv C.k rp.1 hcl hwA
  obtain ⟨mk, methk, hnamed, hmeth, hstt, hab⟩ := Cond.instanceMethod_spec (C.ts args _ hinst)
  obtain ⟨c2, r2, m2, q1, q2, q3, q4, kP, hkP, hkPi⟩ := Cond.selects_spec (C.ts args _ hsel)
  cases hcls.symm.trans q1
  cases (State.methodFound?_of_named hnamed hmy.2.2.1).symm.trans q2
  cases hnamed.symm.trans q3
  have hselP : selectMethod e.platform s.vm cell.cls mk = .method mk := by rw [Launch.admits_selectMethod X.admits]; exact q4
  obtain ⟨mk0, meth0, ck0, f1, f2, -, -, -, -, -, -, f9, -⟩ := xa_cal hmy (C.ts args _ hmy.1)
  cases hnamed.symm.trans f1
  cases hmeth.symm.trans f2
  have est : (As.reverse ++ .ref a :: st).map (xa_tr Z.2.2.1 ad) = (As.map (xa_tr Z.2.2.1 ad)).reverse ++ .ref (ad a) :: st.map (xa_tr Z.2.2.1 ad) := by
    rw [List.map_append, List.map_reverse]; rfl
  rw [est]
  have key : ∃ vm', Stand p l e R s m args below meth c (T.setVm vm') locs cells slots ∧ ∀ target, (∀ acts, Steps p.tables e below (doInvoke e ((T.setVm vm').setTop { F0 m pc sl ((As.map (xa_tr Z.2.2.1 ad)).reverse ++ .ref (ad a) :: st.map (xa_tr Z.2.2.1 ad)) with stack := st.map (xa_tr Z.2.2.1 ad) }) acts mk (.ref (ad a) :: As.map (xa_tr Z.2.2.1 ad)).toArray).1 target) → Steps p.tables e below (T.setTop (F0 m pc sl ((As.map (xa_tr Z.2.2.1 ad)).reverse ++ .ref (ad a) :: st.map (xa_tr Z.2.2.1 ad)))) target := by
    rcases hml with hl | ⟨host, hl⟩
    · exact X.invokevirtual C.1 C.o (C.ts args _ hl) hnamed hmeth hstt hkP hkPi hmy.2.2.1 (a := ad a) (cell := cell) (by rw [hT]; exact hcell) (fun z q => by rw [q] at hobj; cases hobj) hselP hmeth hab hkP hkPi (g := F0 m pc sl ((As.map (xa_tr Z.2.2.1 ad)).reverse ++ .ref (ad a) :: st.map (xa_tr Z.2.2.1 ad))) rfl (argsL := As.map (xa_tr Z.2.2.1 ad)) (rest := st.map (xa_tr Z.2.2.1 ad)) (by rw [List.length_map]; exact f9.symm) rfl (by rw [C.2.1]; exact hd)
    · exact X.invokevirtualNest C.1 C.o (C.ts args _ hl) hnamed hmeth hstt hkP hkPi hmy.2.2.1 (a := ad a) (cell := cell) (by rw [hT]; exact hcell) (fun z q => by rw [q] at hobj; cases hobj) hselP hmeth hab hkP hkPi (g := F0 m pc sl ((As.map (xa_tr Z.2.2.1 ad)).reverse ++ .ref (ad a) :: st.map (xa_tr Z.2.2.1 ad))) rfl (argsL := As.map (xa_tr Z.2.2.1 ad)) (rest := st.map (xa_tr Z.2.2.1 ad)) (by rw [List.length_map]; exact f9.symm) rfl (by rw [C.2.1]; exact hd)
  obtain ⟨vm', X₁, hstep⟩ := key
  exact xa_ret2 (Fs := .ref a :: As) kx k1 k2 C hc hs X₁ hT rp lv (xa_oks_t ok2) (xa_oks_c (xa_ok_r ha) okA) (fun v hv => by
    rcases List.mem_cons.mp hv with q | q
    · rw [q]; rfl
    · exact hca v q) hmy (by show As.length + 1 ≤ _; exact hlen) hd hw (X₁.named hnamed) hstep
/-- what the callee throws goes out -/
theorem xa_sVo {i ci a : Nat} {fs As : List Value} (hd : decode (K.1 y).2.1 pc = .ok (.invokevirtual i, 3)) (hl : xa_lkV K (K.1 y).1.cls i ci y' As.length) (hh : h.2 a = .inr (ci, fs)) (hca : ∀ v ∈ As, v.category = 1) (hw : (st.map fun v => v.category).sum ≤ 8)
    (ht : (K.1 y).2.2.2.2 = []) (hP : ∀ E h', P (.inr E) h' → Q (.inr E) h')
    (k1 : xa_W l K Z d y' 0 (xa_ent (K.1 y').2.2.1 (.ref a :: As)) [] h mc' ms' P) (k2 : ∀ (v : Option Value) (h' : xa_H), P (.inl v) h' → xa_W l K Z (d + 1) y (pc + 3) ls (v.toList ++ st) h' mc ms Q)
    (C : xa_C K Z (d + 1) y p R s m meth c A) (hc : cells + (mc + mc') ≤ R.cells) (hs : slots + (ms + ms') ≤ R.slots) (rp : xa_rep K Z A s H locs ad h) (lv : xa_lv Z.2.2.1 ad h.1 (K.1 y).2.2.1 sl ls) (ok : xa_oks h.1 (As.reverse ++ .ref a :: st)) :
    W p l e R s m args below meth c H locs cells slots (xa_E K Z below A s ad h.1 (cells + (mc + mc')) (slots + (ms + ms')) Q) (F0 m pc sl ((As.reverse ++ .ref a :: st).map (xa_tr Z.2.2.1 ad))) := by
  refine xa_sVk hd hl hh hca hw (fun E h' hp T' locs' ad' x ce X' hn hag rp' h1 h2 h3 => ?_) k1 k2 C hc hs rp lv ok
  obtain ⟨a1, a2, a3, a4, a5⟩ := X'.leaveThrown x (g := F0 m pc sl (st.map (xa_tr Z.2.2.1 ad))) rfl rfl rfl (by rw [C.2.2.2.2.2.2.2.1, ht]; intro z hz; cases hz) C.l
  exact ⟨_, a1, .threw x, a2, a3, ⟨locs', a4, a5.mono (by omega) (by omega), rp'.2.2.1.2.2⟩, ad', h', .inr E, hn, hag, ⟨rp'.1, rp'.2.1, ⟨rp'.2.2.1.1, rp'.2.2.1.2.1, fun q hq => nomatch hq⟩, rp'.2.2.2⟩, hP E h' hp, x, ce, rfl, h1, h2, h3⟩
theorem xa_lv_setj {tb ad : Nat → Nat} {n nL : Nat} {sl sl' : Array Slot} {ls : List Value} (h : xa_lv tb ad n nL sl ls) {i : Nat} {v w : Value} (hi : ls[i]? = some w)
    (h' : lv_has sl' nL ((i, v) :: (xa_kn tb ad ls 0).filter (fun q => !(q.1 == i) && !(q.1 + 1 == i && q.2.category == 2)))) : xa_lv tb ad n nL sl' (ls.set i xa_j) := by
  have hil : i < ls.length := (List.getElem?_eq_some_iff.mp hi).1
  refine ⟨⟨h'.1, h'.2.1, fun q hq => ?_⟩, by rw [List.length_set]; exact h.2.1, fun u hu => ?_⟩
  · obtain ⟨j, u, e1, e2, e3, e4⟩ := xa_kn_of _ _ q hq
    rw [Nat.zero_add] at e1
    by_cases hij : i = j
    · subst hij
      rw [List.getElem?_set_self hil] at e2
      rw [← Option.some.inj e2] at e3
      cases e3
    · rw [List.getElem?_set_ne hij] at e2
      have hm := xa_kn_mem (tb := tb) (ad := ad) e3 ls j 0 e2
      rw [Nat.zero_add] at hm
      have hc2 : (xa_tr tb ad u).category = 1 := by rw [xa_cat]; exact (h.2.2 u (List.mem_of_getElem? e2)).2
      have := h'.2.2 (j, xa_tr tb ad u) (List.mem_cons_of_mem _ (List.mem_filter.mpr ⟨hm, by
        have : (j == i) = false := by simpa using fun q : j = i => hij q.symm
        simp [this, hc2]⟩))
      rw [e1, e4]
      exact this
  · rcases List.mem_or_eq_of_mem_set hu with hu | hu
    · exact h.2.2 u hu
    · rw [hu]; exact ⟨(fun a q => by cases q), rfl⟩
/-- what the callee throws is caught -/
theorem xa_sVc {i ci a : Nat} {fs As : List Value} {rs : List (String × Nat)} {kf n2 : String → Nat} (hd : decode (K.1 y).2.1 pc = .ok (.invokevirtual i, 3)) (hl : xa_lkV K (K.1 y).1.cls i ci y' As.length) (hh : h.2 a = .inr (ci, fs)) (hca : ∀ v ∈ As, v.category = 1) (hw : (st.map fun v => v.category).sum ≤ 8)
    (ht : xa_tab K.2.2.1 (K.1 y).1.cls pc (K.1 y).2.2.2.2 rs) (hP : ∀ E h', P (.inr E) h' → E ∈ xa_four ∧ ∃ hp w, xa_hit E rs = some hp ∧ xa_hd K y hp (kf E) (n2 E) ∧ ls[kf E]? = some w)
    (k1 : xa_W l K Z d y' 0 (xa_ent (K.1 y').2.2.1 (.ref a :: As)) [] h mc' ms' P) (k2 : ∀ (v : Option Value) (h' : xa_H), P (.inl v) h' → xa_W l K Z (d + 1) y (pc + 3) ls (v.toList ++ st) h' mc ms Q)
    (k3 : ∀ (E : String) (h' : xa_H), P (.inr E) h' → xa_W l K Z (d + 1) y (n2 E) (ls.set (kf E) xa_j) [] h' mc ms Q)
    (C : xa_C K Z (d + 1) y p R s m meth c A) (hc : cells + (mc + mc') ≤ R.cells) (hs : slots + (ms + ms') ≤ R.slots) (rp : xa_rep K Z A s H locs ad h) (lv : xa_lv Z.2.2.1 ad h.1 (K.1 y).2.2.1 sl ls) (ok : xa_oks h.1 (As.reverse ++ .ref a :: st)) :
    W p l e R s m args below meth c H locs cells slots (xa_E K Z below A s ad h.1 (cells + (mc + mc')) (slots + (ms + ms')) Q) (F0 m pc sl ((As.reverse ++ .ref a :: st).map (xa_tr Z.2.2.1 ad))) := by
  refine xa_sVk hd hl hh hca hw (fun E h' hp T' locs' ad' x ce X' hn hag rp' h1 h2 h3 => ?_) k1 k2 C hc hs rp lv ok
  obtain ⟨hE, hpc, w, hhit, hhd, hlk⟩ := hP E h' hp
  have w2 : ∀ w ∈ xa_tws, w.before args s = true := fun w hw => C.g.2.2.2.2.2 w hw args s (State.WarmedH.refl s) (fun _ _ _ => rfl)
  have hyes : (Cond.castable E E).before args s = true := w2 _ (xa_tws_t hE (by
    have : Cond.castable E E ∈ Bundle.ownAtoms "" 0 E xa_sup := by simp [Bundle.ownAtoms]
    rcases xa_tw_of this with q | q
    · cases q
    · exact q))
  obtain ⟨vm', X'', hst⟩ := xa_catch X' (g := F0 m pc sl (st.map (xa_tr Z.2.2.1 ad))) rfl (fun w hw => C.ts args w hw) C.o h1 h2 h3 hyes (fun D hD hDE => va_Nc.of (w2 _ (xa_tws_n hE hD hDE))) C.2.2.2.2.2.2.2.1 ht hhit
  have lv' := xa_lv_m lv hn hag
  have kk : ∀ sl2, xa_lv Z.2.2.1 ad' h'.1 (K.1 y).2.2.1 sl2 (ls.set (kf E) xa_j) → W p l e R s m args below meth c T'.heap locs' (cells + mc') (slots + ms') (xa_E K Z below A s ad h.1 (cells + (mc + mc')) (slots + (ms + ms')) Q) (F0 m (n2 E) sl2 []) := fun sl2 lv2 =>
    xa_post (fun t z => xa_E.m hn hag (xa_E.c (by omega) (by omega) z)) (k3 E h' hp p e R s m args below meth c A T'.heap locs' (cells + mc') (slots + ms') ad' sl2 C (by omega) (by omega) rp' lv2 (fun v hv => nomatch hv))
  have kw : W p l e R s m args below meth c T'.heap locs' (cells + mc') (slots + ms') (xa_E K Z below A s ad h.1 (cells + (mc + mc')) (slots + (ms + ms')) Q) (F0 m hpc sl [.ref x]) := by
    rcases hhd with ⟨n, g1, g2, g3⟩ | ⟨g1, g3⟩
    · exact lv_astore_n C.1 C.2.1 g1 g2 lv'.1 (xa_lv_lt lv' hlk) rfl (fun sl2 hl2 => by rw [g3]; exact kk sl2 (xa_lv_setj lv' hlk hl2))
    · exact lv_astore C.1 C.2.1 g1 lv'.1 (xa_lv_lt lv' hlk) rfl (fun sl2 hl2 => by rw [g3]; exact kk sl2 (xa_lv_setj lv' hlk hl2))
  obtain ⟨t, b1, b2⟩ := kw (T'.setVm vm') rfl X''
  exact ⟨t, hst t b1, b2⟩
end XCalls3
