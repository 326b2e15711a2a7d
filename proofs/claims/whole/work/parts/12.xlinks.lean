/-! What the words of the tables give the abstract machine: fields, classes, methods. -/
section XLinks
/-- the instruction at pc, its length, the next pc; and where a jump leads -/
def xa_d (K : xa_P) (y pc : Nat) (ins : Instr) (len n : Nat) : Prop := decode (K.1 y).2.1 pc = .ok (ins, len) ∧ pc + len = n
def xa_db (K : xa_P) (y pc : Nat) (ins : Instr) (len n : Nat) (off : Int) (tgt : Nat) : Prop := xa_d K y pc ins len n ∧ (pc : Int) + off = (tgt : Int)
/-- the class with the number ci: its name, its fields, their types -/
def xa_k (K : xa_P) (ci : Nat) (C : String) (T : u_T) (N : Nat) (ty0 : Nat → FieldType) : Prop :=
  K.2.1[ci]? = some (C, T, N) ∧ (∀ w ∈ u_ws C T N, w ∈ K.2.2.1) ∧ (∀ k, k < N → parseFieldDescriptor (T k).2.2.1 = some (ty0 k)) ∧ ∀ a, a < N → ∀ b, b < N → a ≠ b → (T a).2.1 ≠ (T b).2.1
/-- the entry i of the class own leads to the field k of the class ci -/
def xa_fll (K : xa_P) (own : String) (i : Nat) (T : u_T) (k : Nat) : Prop :=
  Cond.fieldLink own i (T k).1 (T k).2.1 (T k).2.2.1 ∈ K.2.2.1 ∨ ∃ host, Cond.fieldLinkNest own i (T k).1 (T k).2.1 (T k).2.2.1 host ∈ K.2.2.1
def xa_fld (K : xa_P) (own : String) (i ci k : Nat) : Prop := ∃ C T N ty0, xa_k K ci C T N ty0 ∧ k < N ∧ xa_fll K own i T k
def xa_fldP (K : xa_P) (own : String) (i ci k : Nat) (ty : FieldType) : Prop := ∃ C T N ty0, xa_k K ci C T N ty0 ∧ k < N ∧ ty0 k = ty ∧ (T k).2.2.2 = false ∧ xa_fll K own i T k
def xa_fldF (K : xa_P) (own : String) (i ci k : Nat) (ty : FieldType) : Prop := ∃ C T N ty0, xa_k K ci C T N ty0 ∧ k < N ∧ ty0 k = ty ∧ (T k).2.2.2 = true ∧ (T k).1 = own ∧ Cond.fieldLink own i (T k).1 (T k).2.1 (T k).2.2.1 ∈ K.2.2.1
def xa_new (K : xa_P) (own : String) (i ci N : Nat) (fs : List Value) : Prop := ∃ C T ty0, xa_k K ci C T N ty0 ∧ Cond.classLink own i C ∈ K.2.2.1 ∧ Cond.instantiable C N ∈ K.2.2.1 ∧ Cond.initialized C ∈ K.2.2.1 ∧ (∀ j, j < N → defaultValue (ty0 j) = vp_V fs j) ∧ fs.all (fun v => match v with | .ref _ => false | .retAddr _ => false | _ => true) = true
/-- the word of a method's code -/
def xa_cw (q : xa_M) : Cond := match q.2.2.2.2 with
  | [] => .code q.1 q.2.1 q.2.2.1 q.2.2.2.1
  | hh => .codeWith q.1 q.2.1 q.2.2.1 q.2.2.2.1 hh
def xa_ml (K : xa_P) (own : String) (i : Nat) (x : MethodName) : Prop := Cond.methodLink own i x ∈ K.2.2.1 ∨ ∃ host, Cond.methodLinkNest own i x host ∈ K.2.2.1
def xa_my (K : xa_P) (y n : Nat) : Prop := xa_cw (K.1 y) ∈ K.2.2.1 ∧ plainName (K.1 y).1.cls = true ∧ ((K.1 y).1.cls ≠ "java/lang/invoke/MethodHandle" ∧ (K.1 y).1.cls ≠ "java/lang/invoke/VarHandle") ∧ (parseMethodDescriptor (K.1 y).1.desc).map (fun d => d.parameters.length) = some n ∧ (K.1 y).2.2.1 ≤ 41
def xa_lkV (K : xa_P) (own : String) (i ci y n : Nat) : Prop := xa_ml K own i (K.1 y).1 ∧ Cond.instanceMethod (K.1 y).1 ∈ K.2.2.1 ∧ (∃ T N, K.2.1[ci]? = some ((K.1 y).1.cls, T, N)) ∧ Cond.selects (K.1 y).1.cls (K.1 y).1 (K.1 y).1 ∈ K.2.2.1 ∧ xa_my K y n ∧ n + 1 ≤ (K.1 y).2.2.1
def xa_lkS (K : xa_P) (own : String) (i y n : Nat) : Prop := xa_ml K own i (K.1 y).1 ∧ Cond.static (K.1 y).1 ∈ K.2.2.1 ∧ Cond.initialized (K.1 y).1.cls ∈ K.2.2.1 ∧ xa_my K y n ∧ n ≤ (K.1 y).2.2.1
def xa_lkI (K : xa_P) (own : String) (i y n : Nat) : Prop := xa_ml K own i (K.1 y).1 ∧ Cond.instanceMethod (K.1 y).1 ∈ K.2.2.1 ∧ (K.1 y).1.name = "<init>" ∧ (K.1 y).2.2.2.1 = none ∧ (K.1 y).2.2.2.2 = [] ∧ xa_my K y n ∧ n + 1 ≤ (K.1 y).2.2.1
/-- a table of handlers, all around pc: the classes caught, and where each handler lies -/
def xa_tab (ws : List Cond) (own : String) (pc : Nat) : List (Nat × Nat × Nat × Nat) → List (String × Nat) → Prop
  | [], [] => True
  | q :: t, r :: u => q.1 ≤ pc ∧ pc < q.2.1 ∧ q.2.2.1 = r.2 ∧ q.2.2.2 ≠ 0 ∧ Cond.classLink own q.2.2.2 r.1 ∈ ws ∧ r.1 ∈ xa_four ∧ xa_tab ws own pc t u
  | _, _ => False
def xa_hit (E : String) : List (String × Nat) → Option Nat
  | [] => none
  | r :: u => if r.1 = E then some r.2 else xa_hit E u
/-- a throw's five instructions -/
def xa_thd (K : xa_P) (y pc i1 i2 i3 : Nat) : Prop := decode (K.1 y).2.1 pc = .ok (.new i1, 3) ∧ decode (K.1 y).2.1 (pc + 3) = .ok (.dup, 1) ∧ decode (K.1 y).2.1 (pc + 4) = .ok (.ldc i2, 2) ∧ decode (K.1 y).2.1 (pc + 6) = .ok (.invokespecial i3, 3) ∧ decode (K.1 y).2.1 (pc + 9) = .ok (.athrow, 1)
/-- the handler's first instruction puts the exception away -/
def xa_hd (K : xa_P) (y hp k n2 : Nat) : Prop := (∃ n : Fin 4, decode (K.1 y).2.1 hp = .ok (.astore_n n, 1) ∧ (n : Nat) = k ∧ hp + 1 = n2) ∨ (decode (K.1 y).2.1 hp = .ok (.astore k, 2) ∧ hp + 2 = n2)
end XLinks
