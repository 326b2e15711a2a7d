/-! An abstract machine over logical addresses: its states, and how they lie in the real heap. -/
section XDefs
/-- a logical heap: how many cells there are, and what each holds (.inl (number of its array type, length, contents) or .inr (number of its class, fields)); references in it are logical addresses -/
abbrev xa_H : Type := Nat × (Nat → va_E)
/-- how a method ends: .inl what it returned, or .inr the class of what it threw -/
abbrev xa_O : Type := Option Value ⊕ String
abbrev xa_Q : Type := xa_O → xa_H → Prop
/-- a method: its name, its bytes, its locals, what it returns, its handlers -/
abbrev xa_M : Type := MethodName × ByteArray × Nat × Option FieldType × List (Nat × Nat × Nat × Nat)
/-- a program: its methods, the classes of its objects, the words it rests on, the static table (class, name), the class whose objects an array holds -/
abbrev xa_P : Type := (Nat → xa_M) × List vw_C × List Cond × String × String × String
/-- a launch's data: class numbers and field places, array classes, where the read-only tables lie, and what they hold -/
abbrev xa_Z : Type := va_G × List (ClassId × FieldType) × (Nat → Nat) × (Nat → Nat × (Nat → Int32))
abbrev xa_R : Type := Nat → Nat → Nat → List Value → List Value → xa_H → Nat → Nat → xa_Q → Prop
/-- a local whose value isn't known -/
abbrev xa_j : Value := .float 0
def xa_up {α : Type} (f : Nat → α) (k : Nat) (x : α) : Nat → α := fun j => if j = k then x else f j
theorem xa_up_s {α : Type} (f : Nat → α) (k : Nat) (x : α) : xa_up f k x k = x := by simp [xa_up]
theorem xa_up_n {α : Type} (f : Nat → α) {k j : Nat} (x : α) (h : j ≠ k) : xa_up f k x j = f j := by simp [xa_up, h]
/-- from logical to real: .retAddr k stands for the read-only table k -/
def xa_tr (tb ad : Nat → Nat) : Value → Value
  | .ref a => .ref (ad a)
  | .retAddr k => .ref (tb k)
  | v => v
def xa_trE (tys : List (ClassId × FieldType)) (tb ad : Nat → Nat) : va_E → va_E
  | .inl (t, n, .inr (.inr (.inr (.inr f)))) => .inl ((tys.getD t (0, .int)).1, n, .inr (.inr (.inr (.inr (fun j => (f j).map ad)))))
  | .inl (t, n, x) => .inl ((tys.getD t (0, .int)).1, n, x)
  | .inr (ci, fs) => .inr (ci, fs.map (xa_tr tb ad))
def xa_ok (n : Nat) (v : Value) : Prop := ∀ a, v = .ref a → a < n
def xa_okE (n : Nat) : va_E → Prop
  | .inl (_, _, .inr (.inr (.inr (.inr f)))) => ∀ j a, f j = some a → a < n
  | .inl _ => True
  | .inr (_, fs) => ∀ v ∈ fs, xa_ok n v
def xa_oks (n : Nat) (st : List Value) : Prop := ∀ v ∈ st, xa_ok n v
theorem xa_ok_i {n : Nat} {x : Int32} : xa_ok n (.int x) := fun _ h => by cases h
theorem xa_ok_l {n : Nat} {x : Int64} : xa_ok n (.long x) := fun _ h => by cases h
theorem xa_ok_t {n k : Nat} : xa_ok n (.retAddr k) := fun _ h => by cases h
theorem xa_ok_n {n : Nat} : xa_ok n .null := fun _ h => by cases h
theorem xa_ok_r {n a : Nat} (h : a < n) : xa_ok n (.ref a) := fun _ e => by cases e; exact h
theorem xa_ok_m {n n' : Nat} {v : Value} (hn : n ≤ n') (h : xa_ok n v) : xa_ok n' v := fun a e => Nat.lt_of_lt_of_le (h a e) hn
theorem xa_okE_m {n n' : Nat} {e : va_E} (hn : n ≤ n') (h : xa_okE n e) : xa_okE n' e := by
  rcases e with ⟨t, k, f | f | f | f | f⟩ | ⟨ci, fs⟩
  · trivial
  · trivial
  · trivial
  · trivial
  · exact fun j a q => Nat.lt_of_lt_of_le (h j a q) hn
  · exact fun v hv => xa_ok_m hn (h v hv)
theorem xa_oks_m {n n' : Nat} {st : List Value} (hn : n ≤ n') (h : xa_oks n st) : xa_oks n' st := fun v hv => xa_ok_m hn (h v hv)
theorem xa_oks_c {n : Nat} {v : Value} {st : List Value} (h : xa_ok n v) (hs : xa_oks n st) : xa_oks n (v :: st) := fun w hw => by
  rcases List.mem_cons.mp hw with e | e
  · rw [e]; exact h
  · exact hs w e
theorem xa_oks_i {n : Nat} {x : Int32} {st : List Value} (hs : xa_oks n st) : xa_oks n (.int x :: st) := xa_oks_c xa_ok_i hs
theorem xa_oks_l {n : Nat} {x : Int64} {st : List Value} (hs : xa_oks n st) : xa_oks n (.long x :: st) := xa_oks_c xa_ok_l hs
theorem xa_oks_h {n : Nat} {v : Value} {st : List Value} (hs : xa_oks n (v :: st)) : xa_ok n v := hs v List.mem_cons_self
theorem xa_oks_t {n : Nat} {v : Value} {st : List Value} (hs : xa_oks n (v :: st)) : xa_oks n st := fun w hw => hs w (List.mem_cons_of_mem _ hw)
theorem xa_oks_a {n : Nat} {s t : List Value} (hs : xa_oks n (s ++ t)) : xa_oks n s ∧ xa_oks n t := ⟨fun w hw => hs w (List.mem_append_left _ hw), fun w hw => hs w (List.mem_append_right _ hw)⟩
theorem xa_cat (tb ad : Nat → Nat) (v : Value) : (xa_tr tb ad v).category = v.category := by cases v <;> rfl
theorem xa_tr_ag {tb ad ad' : Nat → Nat} {n : Nat} {v : Value} (h : ∀ i, i < n → ad' i = ad i) (ok : xa_ok n v) : xa_tr tb ad' v = xa_tr tb ad v := by
  cases v with
  | ref a => show Value.ref (ad' a) = Value.ref (ad a); rw [h a (ok a rfl)]
  | _ => rfl
theorem xa_trs_ag {tb ad ad' : Nat → Nat} {n : Nat} {st : List Value} (h : ∀ i, i < n → ad' i = ad i) (ok : xa_oks n st) : st.map (xa_tr tb ad') = st.map (xa_tr tb ad) :=
  List.map_congr_left fun v hv => xa_tr_ag h (ok v hv)
theorem xa_trE_ag {tys : List (ClassId × FieldType)} {tb ad ad' : Nat → Nat} {n : Nat} {e : va_E} (h : ∀ i, i < n → ad' i = ad i) (ok : xa_okE n e) : xa_trE tys tb ad' e = xa_trE tys tb ad e := by
  rcases e with ⟨t, k, f | f | f | f | f⟩ | ⟨ci, fs⟩
  · rfl
  · rfl
  · rfl
  · rfl
  · have e1 : (fun j => (f j).map ad') = (fun j => (f j).map ad) := by
      funext j
      cases hf : f j with
      | none => rfl
      | some a => show some (ad' a) = some (ad a); rw [h a (ok j a hf)]
    show (Sum.inl ((tys.getD t (0, .int)).1, k, .inr (.inr (.inr (.inr (fun j => (f j).map ad'))))) : va_E) = .inl ((tys.getD t (0, .int)).1, k, .inr (.inr (.inr (.inr (fun j => (f j).map ad)))))
    rw [e1]
  · show (Sum.inr (ci, fs.map (xa_tr tb ad')) : va_E) = .inr (ci, fs.map (xa_tr tb ad))
    rw [xa_trs_ag h ok]
/-- the real world of a logical heap -/
def xa_w (tys : List (ClassId × FieldType)) (tb ad : Nat → Nat) (h : xa_H) : va_W := (List.range h.1).map fun i => (ad i, xa_trE tys tb ad (h.2 i))
theorem xa_w_get {tys : List (ClassId × FieldType)} {tb ad : Nat → Nat} {h : xa_H} {i : Nat} (hi : i < h.1) : (xa_w tys tb ad h)[i]? = some (ad i, xa_trE tys tb ad (h.2 i)) := by
  simp [xa_w, hi]
theorem xa_w_len {tys : List (ClassId × FieldType)} {tb ad : Nat → Nat} {h : xa_H} : (xa_w tys tb ad h).length = h.1 := by simp [xa_w]
theorem xa_w_of {tys : List (ClassId × FieldType)} {tb ad : Nat → Nat} {h : xa_H} {k : Nat} {q : Nat × va_E} (hk : (xa_w tys tb ad h)[k]? = some q) : k < h.1 ∧ q = (ad k, xa_trE tys tb ad (h.2 k)) := by
  have hl : k < h.1 := by
    have := (List.getElem?_eq_some_iff.mp hk).1
    rwa [xa_w_len] at this
  rw [xa_w_get hl] at hk
  exact ⟨hl, (Option.some.inj hk).symm⟩
theorem xa_w_set {tys : List (ClassId × FieldType)} {tb ad : Nat → Nat} {h : xa_H} {i : Nat} {e : va_E} : (xa_w tys tb ad h).set i (ad i, xa_trE tys tb ad e) = xa_w tys tb ad (h.1, xa_up h.2 i e) := by
  apply List.ext_getElem?
  intro k
  by_cases hk : k < h.1
  · rw [xa_w_get (h := (h.1, xa_up h.2 i e)) hk]
    by_cases hik : i = k
    · subst hik
      rw [List.getElem?_set_self (by rw [xa_w_len]; exact hk)]
      show some (ad i, xa_trE tys tb ad e) = some (ad i, xa_trE tys tb ad (xa_up h.2 i e i))
      rw [xa_up_s]
    · rw [List.getElem?_set_ne hik, xa_w_get hk]
      show some (ad k, xa_trE tys tb ad (h.2 k)) = some (ad k, xa_trE tys tb ad (xa_up h.2 i e k))
      rw [xa_up_n _ _ (fun q => hik q.symm)]
  · rw [List.getElem?_eq_none (by rw [List.length_set, xa_w_len]; omega), List.getElem?_eq_none (by rw [xa_w_len]; show h.1 ≤ k; omega)]
theorem xa_w_push {tys : List (ClassId × FieldType)} {tb ad : Nat → Nat} {h : xa_H} {q : Nat} {e : va_E} (hok : ∀ i, i < h.1 → xa_okE h.1 (h.2 i)) :
    xa_w tys tb ad h ++ [(q, xa_trE tys tb (xa_up ad h.1 q) e)] = xa_w tys tb (xa_up ad h.1 q) (h.1 + 1, xa_up h.2 h.1 e) := by
  show _ = (List.range (h.1 + 1)).map _
  rw [List.range_succ, List.map_append]
  congr 1
  · refine List.map_congr_left fun i hi => ?_
    have hi : i < h.1 := List.mem_range.mp hi
    show (ad i, xa_trE tys tb ad (h.2 i)) = (xa_up ad h.1 q i, xa_trE tys tb (xa_up ad h.1 q) (xa_up h.2 h.1 e i))
    rw [xa_up_n ad q (Nat.ne_of_lt hi), xa_up_n h.2 e (Nat.ne_of_lt hi), xa_trE_ag (ad := ad) (fun j hj => xa_up_n ad q (Nat.ne_of_lt hj)) (hok i hi)]
  · show [(q, xa_trE tys tb (xa_up ad h.1 q) e)] = [(xa_up ad h.1 q h.1, xa_trE tys tb (xa_up ad h.1 q) (xa_up h.2 h.1 e h.1))]
    rw [xa_up_s, xa_up_s]
/-- the known locals, as the kit lists them -/
def xa_kn (tb ad : Nat → Nat) : List Value → Nat → List (Nat × Value)
  | [], _ => []
  | v :: r, i => match v with
    | .float _ => xa_kn tb ad r (i + 1)
    | w => (i, xa_tr tb ad w) :: xa_kn tb ad r (i + 1)
def xa_isj : Value → Bool
  | .float _ => true
  | _ => false
theorem xa_kn_c (tb ad : Nat → Nat) (v : Value) (r : List Value) (b : Nat) : xa_kn tb ad (v :: r) b = if xa_isj v then xa_kn tb ad r (b + 1) else (b, xa_tr tb ad v) :: xa_kn tb ad r (b + 1) := by
  cases v <;> rfl
theorem xa_kn_mem {tb ad : Nat → Nat} {v : Value} (hj : xa_isj v = false) : ∀ (ls : List Value) (i b : Nat), ls[i]? = some v → (b + i, xa_tr tb ad v) ∈ xa_kn tb ad ls b
  | [], i, b, h => by simp at h
  | w :: r, 0, b, h => by
    have e : w = v := by simpa using h
    rw [e, xa_kn_c, hj]
    exact List.mem_cons_self
  | w :: r, i + 1, b, h => by
    have h1 : r[i]? = some v := by simpa using h
    have h2 := xa_kn_mem (tb := tb) (ad := ad) hj r i (b + 1) h1
    have e : b + 1 + i = b + (i + 1) := by omega
    rw [e] at h2
    rw [xa_kn_c]
    split
    · exact h2
    · exact List.mem_cons_of_mem _ h2
theorem xa_kn_of {tb ad : Nat → Nat} : ∀ (ls : List Value) (b : Nat) (q : Nat × Value), q ∈ xa_kn tb ad ls b → ∃ i v, q.1 = b + i ∧ ls[i]? = some v ∧ xa_isj v = false ∧ q.2 = xa_tr tb ad v
  | [], b, q, h => by cases h
  | w :: r, b, q, h => by
    rw [xa_kn_c] at h
    have tail : q ∈ xa_kn tb ad r (b + 1) → ∃ i v, q.1 = b + i ∧ (w :: r)[i]? = some v ∧ xa_isj v = false ∧ q.2 = xa_tr tb ad v := fun h2 => by
      obtain ⟨i, v, e1, e2, e3, e4⟩ := xa_kn_of r (b + 1) q h2
      exact ⟨i + 1, v, by omega, by simpa using e2, e3, e4⟩
    by_cases hj : xa_isj w = true
    · rw [if_pos hj] at h
      exact tail h
    · rw [if_neg hj] at h
      rcases List.mem_cons.mp h with e | e
      · exact ⟨0, w, by rw [e]; rfl, rfl, by simpa using hj, by rw [e]⟩
      · exact tail e
def xa_lv (tb ad : Nat → Nat) (n nL : Nat) (sl : Array Slot) (ls : List Value) : Prop := lv_has sl nL (xa_kn tb ad ls 0) ∧ ls.length = nL ∧ ∀ v ∈ ls, xa_ok n v ∧ v.category = 1
theorem xa_lv_at {tb ad : Nat → Nat} {n nL : Nat} {sl : Array Slot} {ls : List Value} (h : xa_lv tb ad n nL sl ls) {i : Nat} {v : Value} (hi : ls[i]? = some v) (hj : xa_isj v = false) : sl[i]? = some (.val (xa_tr tb ad v)) := by
  have h1 := xa_kn_mem (tb := tb) (ad := ad) hj ls i 0 hi
  rw [Nat.zero_add] at h1
  exact h.1.2.2 _ h1
theorem xa_lv_ok {tb ad : Nat → Nat} {n nL : Nat} {sl : Array Slot} {ls : List Value} (h : xa_lv tb ad n nL sl ls) {i : Nat} {v : Value} (hi : ls[i]? = some v) : xa_ok n v := (h.2.2 v (List.mem_of_getElem? hi)).1
theorem xa_lv_lt {tb ad : Nat → Nat} {n nL : Nat} {sl : Array Slot} {ls : List Value} (h : xa_lv tb ad n nL sl ls) {i : Nat} {v : Value} (hi : ls[i]? = some v) : i < nL := by
  rw [← h.2.1]; exact (List.getElem?_eq_some_iff.mp hi).1
theorem xa_lv_set {tb ad : Nat → Nat} {n nL : Nat} {sl sl' : Array Slot} {ls : List Value} (h : xa_lv tb ad n nL sl ls) {i : Nat} {v w : Value} (hi : ls[i]? = some w) (hv : xa_ok n v) (hc : v.category = 1)
    (h' : lv_has sl' nL ((i, xa_tr tb ad v) :: (xa_kn tb ad ls 0).filter (fun q => !(q.1 == i) && !(q.1 + 1 == i && q.2.category == 2)))) : xa_lv tb ad n nL sl' (ls.set i v) := by
  have hil : i < ls.length := (List.getElem?_eq_some_iff.mp hi).1
  refine ⟨⟨h'.1, h'.2.1, fun q hq => ?_⟩, by rw [List.length_set]; exact h.2.1, fun u hu => ?_⟩
  · obtain ⟨j, u, e1, e2, e3, e4⟩ := xa_kn_of _ _ q hq
    rw [Nat.zero_add] at e1
    by_cases hij : i = j
    · subst hij
      rw [List.getElem?_set_self hil] at e2
      have e5 : v = u := Option.some.inj e2
      have := h'.2.2 (i, xa_tr tb ad v) List.mem_cons_self
      rw [e1, e4, ← e5]
      exact this
    · rw [List.getElem?_set_ne hij] at e2
      have hm := xa_kn_mem (tb := tb) (ad := ad) e3 ls j 0 e2
      rw [Nat.zero_add] at hm
      have hc2 : (xa_tr tb ad u).category = 1 := by rw [xa_cat]; exact (h.2.2 u (List.mem_of_getElem? e2)).2
      have := h'.2.2 (j, xa_tr tb ad u) (List.mem_cons_of_mem _ (List.mem_filter.mpr ⟨hm, by
        have : (j == i) = false := by simpa using fun q : j = i => hij q.symm
        simp [this, hc2]⟩))
      rw [e1, e4]
      exact this
  · rcases List.mem_or_eq_of_mem_set hu with hu | hu
    · exact h.2.2 u hu
    · rw [hu]; exact ⟨hv, hc⟩
/-- the same locals at a larger heap -/
theorem xa_lv_m {tb ad ad' : Nat → Nat} {n n' nL : Nat} {sl : Array Slot} {ls : List Value} (h : xa_lv tb ad n nL sl ls) (hn : n ≤ n') (ha : ∀ i, i < n → ad' i = ad i) : xa_lv tb ad' n' nL sl ls := by
  refine ⟨⟨h.1.1, h.1.2.1, fun q hq => ?_⟩, h.2.1, fun v hv => ⟨xa_ok_m hn (h.2.2 v hv).1, (h.2.2 v hv).2⟩⟩
  obtain ⟨i, v, e1, e2, e3, e4⟩ := xa_kn_of _ _ q hq
  rw [Nat.zero_add] at e1
  have := xa_lv_at h e2 e3
  rw [e1, e4, xa_tr_ag ha (xa_lv_ok h e2)]
  exact this
/-- fewer known locals -/
def xa_le (l l' : List Value) : Prop := l'.length = l.length ∧ ∀ (i : Nat) (v : Value), l'[i]? = some v → v = xa_j ∨ l[i]? = some v
theorem xa_lv_le {tb ad : Nat → Nat} {n nL : Nat} {sl : Array Slot} {ls ls' : List Value} (h : xa_lv tb ad n nL sl ls) (hl : xa_le ls ls') : xa_lv tb ad n nL sl ls' := by
  refine ⟨⟨h.1.1, h.1.2.1, fun q hq => ?_⟩, hl.1.trans h.2.1, fun v hv => ?_⟩
  · obtain ⟨i, v, e1, e2, e3, e4⟩ := xa_kn_of _ _ q hq
    rw [Nat.zero_add] at e1
    rcases hl.2 i v e2 with e5 | e5
    · rw [e5] at e3; cases e3
    · rw [e1, e4]; exact xa_lv_at h e5 e3
  · obtain ⟨i, hi⟩ := List.mem_iff_getElem?.mp hv
    rcases hl.2 i v hi with e5 | e5
    · rw [e5]; exact ⟨(fun a e => by cases e), rfl⟩
    · exact h.2.2 v (List.mem_of_getElem? e5)
/-- a method's locals at its entry -/
def xa_ent (nL : Nat) (vs : List Value) : List Value := vs ++ List.replicate (nL - vs.length) xa_j
end XDefs
