/-! What a run of the abstract machine means on the real one. -/
section XRun
/-- the classes that may be thrown, and the chain of constructors above each -/
def xa_four : List String := ["java/lang/IllegalStateException", "java/lang/IndexOutOfBoundsException", "java/lang/IllegalArgumentException", "java/lang/UnsupportedOperationException"]
def xa_sup : List String := ["java/lang/RuntimeException", "java/lang/Exception"]
/-- the words that a throw rests on, but for the link that the thrower's own class has -/
def xa_tw (E : String) : List Cond := (Bundle.throwableAtoms ++ Bundle.throwableSAtoms ++ Bundle.chainSAtoms E xa_sup) ++ (Bundle.ownAtoms "" 0 E xa_sup).drop ((Bundle.throwableAtoms ++ Bundle.throwableSAtoms ++ Bundle.chainSAtoms E xa_sup).length + 1)
theorem xa_tw_of {own E : String} {ic : Nat} {w : Cond} (h : w ∈ Bundle.ownAtoms own ic E xa_sup) : w = .methodLink own ic (Bundle.initS E) ∨ w ∈ xa_tw E := by
  unfold xa_tw
  unfold Bundle.ownAtoms at h ⊢
  rw [List.mem_append] at h
  rcases h with h | h
  · exact Or.inr (List.mem_append_left _ h)
  · rcases List.mem_cons.mp h with h | h
    · exact Or.inl h
    · refine Or.inr (List.mem_append_right _ ?_)
      rw [List.drop_append]
      simp only [Nat.add_sub_cancel_left, List.drop_succ_cons, List.drop_zero]
      exact List.mem_append_right _ h
def xa_tws : List Cond := xa_four.flatMap fun E => .initialized E :: (xa_tw E ++ (xa_four.filter (fun D => D != E)).map fun D => .not (.castable E D))
/-- what holds of a state, and goes on holding at every call -/
def xa_G (K : xa_P) (Z : xa_Z) (A : Nat → Prop) (s : State) : Prop :=
  (∀ w ∈ K.2.2.1, ∀ (a' : Array Value) (U : State), s.WarmedH U.vm → w.before a' U = true) ∧ va_K Z.1 K.2.1 Z.2.1 s ∧ Z.2.1.map (·.2) = [.int, .boolean, .long, .object K.2.2.2.2.2] ∧
  (∀ k, k < 2 → va_T .int (Z.2.2.1 k) (Z.2.2.2 k).1 (fun j => .int ((Z.2.2.2 k).2 j)) A s s.heap) ∧ va_Z K.2.2.2.1 K.2.2.2.2.1 "[I" (.ref (Z.2.2.1 0)) A s s.heap ∧
  (∀ w ∈ xa_tws, ∀ (a' : Array Value) (U : State), s.WarmedH U.vm → (∀ q : Nat, q < s.heap.size → ¬ A q → U.heap[q]? = s.heap[q]?) → w.before a' U = true)
theorem xa_G.to {K : xa_P} {Z : xa_Z} {A B : Nat → Prop} {s U : State} {locs : List Loc} (h : xa_G K Z A s) (hS : va_S A s.heap U.heap locs) (hW : s.WarmedH U.vm) (hAB : ∀ q, B q → A q) : xa_G K Z B U := by
  have kp : ∀ a : Nat, a < s.heap.size → ¬ A a → U.heap[a]? = s.heap[a]? := fun a h1 h2 => hS.2.1 a h1 h2
  refine ⟨fun w hw a' V hV => h.1 w hw a' V (State.WarmedH.trans hW hV), va_K.moved hW.alike h.2.1, h.2.2.1, fun k hk => ?_, ?_, fun w hw a' V hV hk => h.2.2.2.2.2 w hw a' V (State.WarmedH.trans hW hV) (fun q h1 h2 => (hk q (Nat.lt_of_lt_of_le h1 hS.1) (fun z => h2 (hAB q z))).trans (kp q h1 h2))⟩
  · exact va_T.narrow (va_T.moved hW.alike (va_T.kept (h.2.2.2.1 k hk) kp)) hAB
  · exact va_Z.narrow (va_Z.moved hW.alike (va_Z.kept h.2.2.2.2.1 kp)) hAB
/-- a body's standing facts: method y, at most d calls deeper -/
def xa_C (K : xa_P) (Z : xa_Z) (d y : Nat) (p : Program) (R : Room) (s : State) (m : MethodId) (meth : Method) (c : Code) (A : Nat → Prop) : Prop :=
  p.tables.exec = Jvm.exec ∧ c.code = (K.1 y).2.1 ∧ c.maxLocals = (K.1 y).2.2.1 ∧ meth.sig.returnType = (K.1 y).2.2.2.1 ∧ meth.locks = false ∧ meth.name = (K.1 y).1.name ∧ s.vm.findClass (K.1 y).1.cls = some m.cls ∧
  c.exceptionTable.toList = tableOf (K.1 y).2.2.2.2 ∧ d + 8 ≤ R.frames ∧ 60 * d + 300 ≤ R.locals ∧ (∀ q, s.heap.size ≤ q → A q) ∧ xa_G K Z A s
theorem xa_C.ts {K : xa_P} {Z : xa_Z} {d y : Nat} {p : Program} {R : Room} {s : State} {m : MethodId} {meth : Method} {c : Code} {A : Nat → Prop} (C : xa_C K Z d y p R s m meth c A) (args : Array Value) : ∀ w ∈ K.2.2.1, w.before args s = true :=
  fun w hw => C.2.2.2.2.2.2.2.2.2.2.2.1 w hw args s (State.WarmedH.refl s)
theorem xa_C.o {K : xa_P} {Z : xa_Z} {d y : Nat} {p : Program} {R : Room} {s : State} {m : MethodId} {meth : Method} {c : Code} {A : Nat → Prop} (C : xa_C K Z d y p R s m meth c A) : s.vm.findClass (K.1 y).1.cls = some m.cls := C.2.2.2.2.2.2.1
theorem xa_C.l {K : xa_P} {Z : xa_Z} {d y : Nat} {p : Program} {R : Room} {s : State} {m : MethodId} {meth : Method} {c : Code} {A : Nat → Prop} (C : xa_C K Z d y p R s m meth c A) : meth.locks = false := C.2.2.2.2.1
theorem xa_C.a {K : xa_P} {Z : xa_Z} {d y : Nat} {p : Program} {R : Room} {s : State} {m : MethodId} {meth : Method} {c : Code} {A : Nat → Prop} (C : xa_C K Z d y p R s m meth c A) : ∀ q, s.heap.size ≤ q → A q := C.2.2.2.2.2.2.2.2.2.2.1
theorem xa_C.g {K : xa_P} {Z : xa_Z} {d y : Nat} {p : Program} {R : Room} {s : State} {m : MethodId} {meth : Method} {c : Code} {A : Nat → Prop} (C : xa_C K Z d y p R s m meth c A) : xa_G K Z A s := C.2.2.2.2.2.2.2.2.2.2.2
theorem xa_C.k {K : xa_P} {Z : xa_Z} {d y : Nat} {p : Program} {R : Room} {s : State} {m : MethodId} {meth : Method} {c : Code} {A : Nat → Prop} (C : xa_C K Z d y p R s m meth c A) : va_K Z.1 K.2.1 Z.2.1 s := C.g.2.1
theorem xa_C.rm {K : xa_P} {Z : xa_Z} {d y : Nat} {p : Program} {R : Room} {s : State} {m : MethodId} {meth : Method} {c : Code} {A : Nat → Prop} (C : xa_C K Z d y p R s m meth c A) : d + 8 ≤ R.frames ∧ 60 * d + 300 ≤ R.locals := ⟨C.2.2.2.2.2.2.2.2.1, C.2.2.2.2.2.2.2.2.2.1⟩
theorem xa_ty {tys : List (ClassId × FieldType)} {t : Nat} {τ : FieldType} (h : (tys.map (·.2))[t]? = some τ) : tys[t]? = some ((tys.getD t (0, .int)).1, τ) := by
  rw [List.getElem?_map] at h
  cases hq : tys[t]? with
  | none => rw [hq] at h; cases h
  | some q =>
    rw [hq] at h
    have e : q.2 = τ := Option.some.inj h
    rw [List.getD_eq_getElem?_getD, hq, ← e]
    rfl
theorem xa_C.ty {K : xa_P} {Z : xa_Z} {d y : Nat} {p : Program} {R : Room} {s : State} {m : MethodId} {meth : Method} {c : Code} {A : Nat → Prop} (C : xa_C K Z d y p R s m meth c A) {t : Nat} {τ : FieldType} (h : ([.int, .boolean, .long, .object K.2.2.2.2.2] : List FieldType)[t]? = some τ) :
    Z.2.1[t]? = some ((Z.2.1.getD t (0, .int)).1, τ) := xa_ty (by rw [C.g.2.2.1]; exact h)
/-- the logical heap lies in the real one -/
def xa_rep (K : xa_P) (Z : xa_Z) (A : Nat → Prop) (s : State) (H : Heap) (locs : List Loc) (ad : Nat → Nat) (h : xa_H) : Prop :=
  va_P Z.1 K.2.1 (xa_w Z.2.1 Z.2.2.1 ad h) H ∧ va_D A (xa_w Z.2.1 Z.2.2.1 ad h) ∧ va_S A s.heap H locs ∧ ∀ i, i < h.1 → xa_okE h.1 (h.2 i)
/-- what came of a method -/
def xa_oc (Z : xa_Z) (s : State) (ad : Nat → Nat) (h : xa_H) (t : State) (o : Outcome) : xa_O → Prop
  | .inl v => o = .returned (v.map (xa_tr Z.2.2.1 ad)) ∧ ∀ w, v = some w → xa_ok h.1 w
  | .inr E => ∃ (q : Addr) (ce : Cell), o = .threw q ∧ t.heap[q]? = some ce ∧ ce.vm = .none ∧ s.vm.findClass E = some ce.cls
def xa_E (K : xa_P) (Z : xa_Z) (below : List Frame) (A : Nat → Prop) (s : State) (ad : Nat → Nat) (n mc ms : Nat) (Q : xa_Q) (t : State) : Prop :=
  ∃ o, t.status = .running ∧ Ended t below o ∧ (∃ L, s.WarmedH t.vm ∧ s.sameButNew ({ t with vm := s.vm } : State) L mc ms ∧ ∀ q ∈ L, A q.base) ∧
    ∃ (ad' : Nat → Nat) (h' : xa_H) (oa : xa_O), n ≤ h'.1 ∧ (∀ i, i < n → ad' i = ad i) ∧ xa_rep K Z A s t.heap [] ad' h' ∧ Q oa h' ∧ xa_oc Z s ad' h' t o oa
theorem xa_E.m {K : xa_P} {Z : xa_Z} {below : List Frame} {A : Nat → Prop} {s : State} {ad ad1 : Nat → Nat} {n n1 mc ms : Nat} {Q : xa_Q} {t : State} (hn : n ≤ n1) (ha : ∀ i, i < n → ad1 i = ad i) (h : xa_E K Z below A s ad1 n1 mc ms Q t) : xa_E K Z below A s ad n mc ms Q t := by
  obtain ⟨o, h1, h2, h3, ad', h', oa, h4, h5, h6⟩ := h
  exact ⟨o, h1, h2, h3, ad', h', oa, Nat.le_trans hn h4, fun i hi => (h5 i (Nat.lt_of_lt_of_le hi hn)).trans (ha i hi), h6⟩
theorem xa_post {p : Program} {l : Launch} {e : Env} {R : Room} {s : State} {m : MethodId} {args : Array Value} {below : List Frame} {meth : Method} {c : Code} {H : Heap} {locs : List Loc} {cells slots : Nat} {Q Q' : State → Prop} {g : JFrame}
    (hq : ∀ t, Q' t → Q t) (k : W p l e R s m args below meth c H locs cells slots Q' g) : W p l e R s m args below meth c H locs cells slots Q g := by
  intro T hT X
  obtain ⟨t, a, b⟩ := k T hT X
  exact ⟨t, a, hq t b⟩
/-- the meaning of a configuration -/
def xa_W (l : Launch) (K : xa_P) (Z : xa_Z) : xa_R := fun d y pc ls st h mc ms Q =>
  ∀ (p : Program) (e : Env) (R : Room) (s : State) (m : MethodId) (args : Array Value) (below : List Frame) (meth : Method) (c : Code) (A : Nat → Prop) (H : Heap) (locs : List Loc) (cells slots : Nat) (ad : Nat → Nat) (sl : Array Slot),
    xa_C K Z d y p R s m meth c A → cells + mc ≤ R.cells → slots + ms ≤ R.slots → xa_rep K Z A s H locs ad h → xa_lv Z.2.2.1 ad h.1 (K.1 y).2.2.1 sl ls → xa_oks h.1 st →
    W p l e R s m args below meth c H locs cells slots (xa_E K Z below A s ad h.1 (cells + mc) (slots + ms) Q) (F0 m pc sl (st.map (xa_tr Z.2.2.1 ad)))
end XRun
