/-! A heap whose shape is fixed: its numbers alone change. -/
section XWorld
/-- what lies at an address: an object of the class ci, whose field is a number (none) or leads to a fixed cell; or an array: its type's number, its length -/
abbrev xl_S : Type := (Nat × List (Option Nat)) ⊕ (Nat × Nat)
/-- the numbers: fields (by address and place), arrays of numbers (by address and place), arrays of references, the law's own array -/
abbrev xl_V : Type := (Nat → Nat → Int32) × (Nat → Nat → Int32) × (Nat → Nat → Option Nat) × (Nat → Int64)
def xl_f (I : Nat → Int32) : List (Option Nat) → Nat → List Value
  | [], _ => []
  | none :: r, k => .int (I k) :: xl_f I r (k + 1)
  | some b :: r, k => .ref b :: xl_f I r (k + 1)
def xl_c (lay : List xl_S) (V : xl_V) (a : Nat) : va_E := match lay[a]? with
  | some (.inl (ci, fl)) => .inr (ci, xl_f (V.1 a) fl 0)
  | some (.inr (0, n)) => .inl (0, n, .inl (V.2.1 a))
  | some (.inr (1, n)) => .inl (1, n, .inl (V.2.1 a))
  | some (.inr (2, n)) => .inl (2, n, .inr (.inl V.2.2.2))
  | some (.inr (_, n)) => .inl (3, n, .inr (.inr (.inr (.inr (V.2.2.1 a)))))
  | none => .inr (0, [])
def xl_H (lay : List xl_S) (V : xl_V) : xa_H := (lay.length, xl_c lay V)
/-- a field set, an array's place set -/
def xl_i (V : xl_V) (a k : Nat) (x : Int32) : xl_V := (fun b j => if b = a ∧ j = k then x else V.1 b j, V.2)
def xl_a (V : xl_V) (a : Nat) (f : Nat → Int32) : xl_V := (V.1, xa_up V.2.1 a f, V.2.2)
def xl_g (V : xl_V) (a : Nat) (f : Nat → Option Nat) : xl_V := (V.1, V.2.1, xa_up V.2.2.1 a f, V.2.2.2)
def xl_o (V : xl_V) (f : Nat → Int64) : xl_V := (V.1, V.2.1, V.2.2.1, f)
theorem xl_f_get {I : Nat → Int32} : ∀ (fl : List (Option Nat)) (b k : Nat), fl[k]? = some none → (xl_f I fl b)[k]? = some (.int (I (b + k)))
  | [], b, k, h => by simp at h
  | o :: r, b, 0, h => by
    have e : o = none := by simpa using h
    subst e
    rfl
  | o :: r, b, k + 1, h => by
    have h1 : r[k]? = some none := by simpa using h
    have h2 := xl_f_get (I := I) r (b + 1) k h1
    have e : b + 1 + k = b + (k + 1) := by omega
    rw [e] at h2
    cases o <;> exact h2
theorem xl_f_getR {I : Nat → Int32} {x : Nat} : ∀ (fl : List (Option Nat)) (b k : Nat), fl[k]? = some (some x) → (xl_f I fl b)[k]? = some (.ref x)
  | [], b, k, h => by simp at h
  | o :: r, b, 0, h => by
    have e : o = some x := by simpa using h
    subst e
    rfl
  | o :: r, b, k + 1, h => by
    have h1 : r[k]? = some (some x) := by simpa using h
    have h2 := xl_f_getR (I := I) r (b + 1) k h1
    cases o <;> exact h2
theorem xl_f_len {I : Nat → Int32} : ∀ (fl : List (Option Nat)) (b : Nat), (xl_f I fl b).length = fl.length
  | [], _ => rfl
  | none :: r, b => by show (xl_f I r (b + 1)).length + 1 = _; rw [xl_f_len r (b + 1)]; rfl
  | some x :: r, b => by show (xl_f I r (b + 1)).length + 1 = _; rw [xl_f_len r (b + 1)]; rfl
theorem xl_f_cg {I J : Nat → Int32} : ∀ (fl : List (Option Nat)) (b : Nat), (∀ j, b ≤ j → I j = J j) → xl_f I fl b = xl_f J fl b
  | [], _, _ => rfl
  | none :: r, b, h => by
    show Value.int (I b) :: xl_f I r (b + 1) = .int (J b) :: xl_f J r (b + 1)
    rw [h b (Nat.le_refl b), xl_f_cg r (b + 1) (fun j hj => h j (by omega))]
  | some x :: r, b, h => by
    show Value.ref x :: xl_f I r (b + 1) = .ref x :: xl_f J r (b + 1)
    rw [xl_f_cg r (b + 1) (fun j hj => h j (by omega))]
theorem xl_f_set {I : Nat → Int32} {x : Int32} : ∀ (fl : List (Option Nat)) (b k : Nat), fl[k]? = some none → (xl_f I fl b).set k (.int x) = xl_f (fun j => if j = b + k then x else I j) fl b
  | [], b, k, h => by simp at h
  | o :: r, b, 0, h => by
    have e : o = none := by simpa using h
    subst e
    show Value.int x :: xl_f I r (b + 1) = .int (if b = b + 0 then x else I b) :: xl_f _ r (b + 1)
    rw [if_pos (Nat.add_zero b).symm]
    congr 1
    exact xl_f_cg r (b + 1) (fun j hj => (if_neg (by omega)).symm)
  | o :: r, b, k + 1, h => by
    have h1 : r[k]? = some none := by simpa using h
    have h2 := xl_f_set (I := I) (x := x) r (b + 1) k h1
    have e : b + 1 + k = b + (k + 1) := by omega
    rw [e] at h2
    cases o with
    | none =>
      show Value.int (I b) :: (xl_f I r (b + 1)).set k (.int x) = .int (if b = b + (k + 1) then x else I b) :: xl_f _ r (b + 1)
      rw [h2, if_neg (by omega)]
    | some z =>
      show Value.ref z :: (xl_f I r (b + 1)).set k (.int x) = .ref z :: xl_f _ r (b + 1)
      rw [h2]
theorem xl_put {lay : List xl_S} {V : xl_V} {a ci k : Nat} {fl : List (Option Nat)} {x : Int32} (ha : lay[a]? = some (.inl (ci, fl))) (hk : fl[k]? = some none) :
    ((xl_H lay V).1, xa_up (xl_H lay V).2 a (.inr (ci, (xl_f (V.1 a) fl 0).set k (.int x)))) = xl_H lay (xl_i V a k x) := by
  show (lay.length, xa_up (xl_c lay V) a _) = (lay.length, xl_c lay (xl_i V a k x))
  congr 1
  funext b
  by_cases e : b = a
  · subst e
    rw [xa_up_s, xl_f_set fl 0 k hk]
    unfold xl_c
    rw [ha]
    show (Sum.inr (ci, _) : va_E) = .inr (ci, _)
    congr 2
    refine xl_f_cg fl 0 (fun j _ => ?_)
    show (if j = 0 + k then x else V.1 b j) = (if b = b ∧ j = k then x else V.1 b j)
    rw [Nat.zero_add]
    by_cases q : j = k
    · rw [if_pos q, if_pos ⟨rfl, q⟩]
    · rw [if_neg q, if_neg (fun z => q z.2)]
  · rw [xa_up_n _ _ e]
    unfold xl_c
    have hI : (xl_i V a k x).1 b = V.1 b := by
      funext j
      show (if b = a ∧ j = k then x else V.1 b j) = _
      rw [if_neg (fun z => e z.1)]
    rw [hI]
    rfl
theorem xl_aset {lay : List xl_S} {V : xl_V} {a n t : Nat} {f : Nat → Int32} (ht : t = 0 ∨ t = 1) (ha : lay[a]? = some (.inr (t, n))) :
    ((xl_H lay V).1, xa_up (xl_H lay V).2 a (.inl (t, n, .inl f))) = xl_H lay (xl_a V a f) := by
  show (lay.length, xa_up (xl_c lay V) a _) = (lay.length, xl_c lay (xl_a V a f))
  congr 1
  funext b
  by_cases e : b = a
  · subst e
    rw [xa_up_s]
    unfold xl_c
    rw [ha]
    have e1 : (xl_a V b f).2.1 b = f := xa_up_s V.2.1 b f
    rcases ht with rfl | rfl
    · show (Sum.inl (0, n, .inl f) : va_E) = .inl (0, n, .inl ((xl_a V b f).2.1 b)); rw [e1]
    · show (Sum.inl (1, n, .inl f) : va_E) = .inl (1, n, .inl ((xl_a V b f).2.1 b)); rw [e1]
  · rw [xa_up_n _ _ e]
    unfold xl_c
    have e1 : (xl_a V a f).2.1 b = V.2.1 b := xa_up_n V.2.1 f e
    rw [e1]
    rfl
theorem xl_gset {lay : List xl_S} {V : xl_V} {a n : Nat} {f : Nat → Option Nat} (ha : lay[a]? = some (.inr (3, n))) :
    ((xl_H lay V).1, xa_up (xl_H lay V).2 a (.inl (3, n, .inr (.inr (.inr (.inr f)))))) = xl_H lay (xl_g V a f) := by
  show (lay.length, xa_up (xl_c lay V) a _) = (lay.length, xl_c lay (xl_g V a f))
  congr 1
  funext b
  by_cases e : b = a
  · subst e
    rw [xa_up_s]
    unfold xl_c
    rw [ha]
    have e1 : (xl_g V b f).2.2.1 b = f := xa_up_s V.2.2.1 b f
    show (Sum.inl (3, n, .inr (.inr (.inr (.inr f)))) : va_E) = .inl (3, n, .inr (.inr (.inr (.inr ((xl_g V b f).2.2.1 b))))); rw [e1]
  · rw [xa_up_n _ _ e]
    unfold xl_c
    have e1 : (xl_g V a f).2.2.1 b = V.2.2.1 b := xa_up_n V.2.2.1 f e
    rw [e1]
    rfl
theorem xl_oset {lay : List xl_S} {V : xl_V} {a n : Nat} {f : Nat → Int64} (ha : lay[a]? = some (.inr (2, n))) (hu : ∀ b m, lay[b]? = some (.inr (2, m)) → b = a) :
    ((xl_H lay V).1, xa_up (xl_H lay V).2 a (.inl (2, n, .inr (.inl f)))) = xl_H lay (xl_o V f) := by
  show (lay.length, xa_up (xl_c lay V) a _) = (lay.length, xl_c lay (xl_o V f))
  congr 1
  funext b
  by_cases e : b = a
  · subst e
    rw [xa_up_s]
    unfold xl_c
    rw [ha]
    rfl
  · rw [xa_up_n _ _ e]
    unfold xl_c
    split
    · rfl
    · rfl
    · rfl
    · rename_i m hm; exact absurd (hu b m hm) e
    · rfl
    · rfl
end XWorld
