/-! What the words of the tables give the abstract machine: fields, classes, methods. -/
section XLinks
/-- the instruction at pc, its length, the next pc; and where a jump leads -/
def xa_d (K : xa_P) (y pc : Nat) (ins : Instr) (len n : Nat) : Prop := decode (K.1 y).2.1 pc = .ok (ins, len) ∧ pc + len = n
def xa_db (K : xa_P) (y pc : Nat) (ins : Instr) (len n : Nat) (off : Int) (tgt : Nat) : Prop := xa_d K y pc ins len n ∧ (pc : Int) + off = (tgt : Int)
/-- the class with the number ci: its name, its fields, their types -/
def xa_k (K : xa_P) (ci : Nat) (C : String) (T : u_T) (N : Nat) (ty0 : Nat → FieldType) : Prop :=
  K.2.1[ci]? = some (C, T, N) ∧ (∀ w ∈ u_ws C T N, w ∈ K.2.2.1) ∧ (∀ k, k < N → parseFieldDescriptor (T k).2.2.1 = some (ty0 k)) ∧ ∀ a, a < N → ∀ b, b < N → a ≠ b → (T a).2.1 ≠ (T b).2.1
/-- the entry i of the class own leads to the field k of the class ci -/
def xa_fll (K : xa_P) (own : String) (i : Nat) (T : u_T) (k : Nat) : Prop :=
  Cond.fieldLink own i (T k).1 (T k).2.1 (T k).2.2.1 ∈ K.2.2.1 ∨ ∃ host, Cond.fieldLinkNest own i (T k).1 (T k).2.1 (T k).2.2.1 host ∈ K.2.2.1
def xa_fld (K : xa_P) (own : String) (i ci k : Nat) : Prop := ∃ C T N ty0, xa_k K ci C T N ty0 ∧ k < N ∧ xa_fll K own i T k
def xa_fldP (K : xa_P) (own : String) (i ci k : Nat) (ty : FieldType) : Prop := ∃ C T N ty0, xa_k K ci C T N ty0 ∧ k < N ∧ ty0 k = ty ∧ (T k).2.2.2 = false ∧ xa_fll K own i T k
def xa_fldF (K : xa_P) (own : String) (i ci k : Nat) (ty : FieldType) : Prop := ∃ C T N ty0, xa_k K ci C T N ty0 ∧ k < N ∧ ty0 k = ty ∧ (T k).2.2.2 = true ∧ (T k).1 = own ∧ Cond.fieldLink own i (T k).1 (T k).2.1 (T k).2.2.1 ∈ K.2.2.1
def xa_new (K : xa_P) (own : String) (i ci N : Nat) (fs : List Value) : Prop := ∃ C T ty0, xa_k K ci C T N ty0 ∧ Cond.classLink own i C ∈ K.2.2.1 ∧ Cond.instantiable C N ∈ K.2.2.1 ∧ Cond.initialized C ∈ K.2.2.1 ∧ (∀ j, j < N → defaultValue (ty0 j) = vp_V fs j) ∧ fs.all (fun v => match v with | .ref _ => false | .retAddr _ => false | _ => true) = true
/-- the word of a method's code -/
def xa_cw (q : xa_M) : Cond := match q.2.2.2.2 with
  | [] => .code q.1 q.2.1 q.2.2.1 q.2.2.2.1
  | hh => .codeWith q.1 q.2.1 q.2.2.1 q.2.2.2.1 hh
def xa_ml (K : xa_P) (own : String) (i : Nat) (x : MethodName) : Prop := Cond.methodLink own i x ∈ K.2.2.1 ∨ ∃ host, Cond.methodLinkNest own i x host ∈ K.2.2.1
def xa_my (K : xa_P) (y n : Nat) : Prop := xa_cw (K.1 y) ∈ K.2.2.1 ∧ plainName (K.1 y).1.cls = true ∧ ((K.1 y).1.cls ≠ "java/lang/invoke/MethodHandle" ∧ (K.1 y).1.cls ≠ "java/lang/invoke/VarHandle") ∧ (parseMethodDescriptor (K.1 y).1.desc).map (fun d => d.parameters.length) = some n ∧ (K.1 y).2.2.1 ≤ 41
def xa_lkV (K : xa_P) (own : String) (i ci y n : Nat) : Prop := xa_ml K own i (K.1 y).1 ∧ Cond.instanceMethod (K.1 y).1 ∈ K.2.2.1 ∧ (∃ T N, K.2.1[ci]? = some ((K.1 y).1.cls, T, N)) ∧ Cond.selects (K.1 y).1.cls (K.1 y).1 (K.1 y).1 ∈ K.2.2.1 ∧ xa_my K y n ∧ n + 1 ≤ (K.1 y).2.2.1
def xa_lkS (K : xa_P) (own : String) (i y n : Nat) : Prop := xa_ml K own i (K.1 y).1 ∧ Cond.static (K.1 y).1 ∈ K.2.2.1 ∧ Cond.initialized (K.1 y).1.cls ∈ K.2.2.1 ∧ xa_my K y n ∧ n ≤ (K.1 y).2.2.1
def xa_lkI (K : xa_P) (own : String) (i y n : Nat) : Prop := xa_ml K own i (K.1 y).1 ∧ Cond.instanceMethod (K.1 y).1 ∈ K.2.2.1 ∧ (K.1 y).1.name = "<init>" ∧ (K.1 y).2.2.2.1 = none ∧ (K.1 y).2.2.2.2 = [] ∧ xa_my K y n ∧ n + 1 ≤ (K.1 y).2.2.1
end XLinks
