/-! Chains of primes and covers by primes. -/
section XLeast
variable {sg : Nat} {on off : Int32}
theorem m_op_some {al hv : Int32} {c : Nat} (h : m_op al hv = some c) : c < 32 ∧ xbit al c = true ∧ xbit hv c = false := by
  obtain ⟨h1, h2, -⟩ := xfnd_s h
  rw [m_op1_b h1, Bool.and_eq_true] at h2
  refine ⟨h1, h2.1, ?_⟩
  have := h2.2
  cases hb : xbit hv c
  · rfl
  · rw [hb] at this; cases this
theorem p_ch_cov : ∀ (L : List Nat) (r : Int32), p_ch sg on off r L → (∀ p, p ∈ L → p < 3 ^ sg ∧ p_pr sg off p ∧ ∃ c, c < 32 ∧ xbit on c = true ∧ xbit (p_cv sg p) c = true ∧ xbit r c = false) ∧ L.Nodup ∧ ∀ c, c < 32 → xbit on c = true → xbit r c = true ∨ ∃ p, p ∈ L ∧ xbit (p_cv sg p) c = true
  | [], r, h => ⟨fun p hp => (by cases hp), List.nodup_nil, fun c hc hx => .inl (m_op_none.mp h c hc hx)⟩
  | p :: L, r, h => by
    obtain ⟨c, h1, h2, h3, h4, h5⟩ := h
    obtain ⟨c1, c2, c3⟩ := m_op_some h1
    have h4 := (xbit_t _ c1).mp h4
    obtain ⟨i1, i2, i3⟩ := p_ch_cov L _ h5
    refine ⟨fun q hq => ?_, List.nodup_cons.mpr ⟨fun hp => ?_, i2⟩, fun e he hx => ?_⟩
    · rcases List.mem_cons.mp hq with z | z
      · rw [z]
        exact ⟨h2, h3, c, c1, c2, h4, c3⟩
      · obtain ⟨j1, j2, e, j3, j4, j5, j6⟩ := i1 q z
        rw [xbit_or] at j6
        refine ⟨j1, j2, e, j3, j4, j5, ?_⟩
        cases hb : xbit r e
        · rfl
        · rw [hb] at j6; cases j6
    · obtain ⟨-, -, e, j3, j4, j5, j6⟩ := i1 p hp
      rw [xbit_or, j5, Bool.or_true] at j6
      cases j6
    · rcases i3 e he hx with z | ⟨q, q1, q2⟩
      · rw [xbit_or] at z
        cases hb : xbit r e
        · rw [hb, Bool.false_or] at z
          exact .inr ⟨p, List.mem_cons_self, z⟩
        · exact .inl rfl
      · exact .inr ⟨q, List.mem_cons_of_mem _ q1, q2⟩
theorem p_ch_of : ∀ (n : Nat) (C : List Nat) (r : Int32), C.length = n → (∀ p, p ∈ C → p < 3 ^ sg ∧ p_pr sg off p) → (∀ c, c < 32 → xbit on c = true → xbit r c = true ∨ ∃ p, p ∈ C ∧ xbit (p_cv sg p) c = true) → ∃ L R, p_ch sg on off r L ∧ (L ++ R).Perm C := by
  intro n
  induction n with
  | zero =>
    intro C r hn hC hcv
    have hC0 : C = [] := List.eq_nil_of_length_eq_zero hn
    subst hC0
    refine ⟨[], [], m_op_none.mpr (fun c hc hx => ?_), List.Perm.refl _⟩
    rcases hcv c hc hx with z | ⟨p, hp, -⟩
    · exact z
    · cases hp
  | succ n ih =>
    intro C r hn hC hcv
    cases ho : m_op on r with
    | none => exact ⟨[], C, ho, List.Perm.refl _⟩
    | some c =>
      obtain ⟨c1, c2, c3⟩ := m_op_some ho
      rcases hcv c c1 c2 with z | ⟨p, hp, hpc⟩
      · rw [c3] at z; cases z
      · have hl := List.length_erase_of_mem hp
        obtain ⟨L, R, h1, h2⟩ := ih (C.erase p) (r ||| p_cv sg p) (by omega) (fun q hq => hC q (List.mem_of_mem_erase hq)) (fun e he hx => by
          rw [xbit_or]
          rcases hcv e he hx with z | ⟨q, q1, q2⟩
          · exact .inl (by rw [z]; rfl)
          · by_cases hqp : q = p
            · rw [hqp] at q2
              exact .inl (by rw [q2, Bool.or_true])
            · exact .inr ⟨q, (List.mem_erase_of_ne hqp).mpr q1, q2⟩)
        refine ⟨p :: L, R, ⟨c, ho, (hC p hp).1, (hC p hp).2, (xbit_t _ c1).mpr hpc, h1⟩, ?_⟩
        exact (h2.cons p).trans (List.perm_cons_erase hp).symm
theorem l_dg_p {sg : Nat} {A B : List Nat} (h : A.Perm B) : l_dg sg A = l_dg sg B := by
  induction h with
  | nil => rfl
  | cons x _ ih => show xdt x sg + _ = xdt x sg + _; rw [ih]
  | swap x y l => show xdt y sg + (xdt x sg + _) = xdt x sg + (xdt y sg + _); omega
  | trans _ _ ih1 ih2 => exact ih1.trans ih2
/-- sorted lists with the same members, as often, are one list -/
theorem l_sorted_u : ∀ {A B : List Nat}, A.Perm B → A.Pairwise (· ≤ ·) → B.Pairwise (· ≤ ·) → A = B
  | [], B, h, _, _ => (List.nil_perm.mp h).symm
  | a :: A, [], h, _, _ => absurd (List.perm_nil.mp h) (by simp)
  | a :: A, b :: B, h, hA, hB => by
    rw [List.pairwise_cons] at hA hB
    have e : a = b := by
      have h1 : a ∈ b :: B := h.mem_iff.mp List.mem_cons_self
      have h2 : b ∈ a :: A := h.mem_iff.mpr List.mem_cons_self
      have l1 : b ≤ a := by
        rcases List.mem_cons.mp h1 with z | z
        · omega
        · exact hB.1 a z
      have l2 : a ≤ b := by
        rcases List.mem_cons.mp h2 with z | z
        · omega
        · exact hA.1 b z
      omega
    subst e
    rw [l_sorted_u ((List.perm_cons a).mp h) hA.2 hB.2]
/-- of three lists of one length: a before c, then a before b or b before c -/
theorem l_lt_t {a b c : List Nat} (hb : b.length = a.length) (hc : c.length = a.length) (h : l_lt a c) : l_lt a b ∨ l_lt b c := by
  obtain ⟨j, x, z, h1, h2, h3, h4⟩ := h
  have hj := l_il h2
  cases hx : xfnd (fun i => decide (¬ a[i]? = b[i]?)) j with
  | none =>
    have heq : ∀ i, i < j → a[i]? = b[i]? := fun i hi => Decidable.not_not.mp (of_decide_eq_false (xfnd_n hx i hi))
    have hbj : b[j]? = some (b[j]'(by omega)) := List.getElem?_eq_getElem (by omega)
    generalize b[j]'(by omega) = y at hbj
    rcases Nat.lt_or_ge x y with w | w
    · exact .inl ⟨j, x, y, heq, h2, hbj, w⟩
    · exact .inr ⟨j, y, z, fun i hi => (heq i hi).symm.trans (h1 i hi), hbj, h3, by omega⟩
  | some i =>
    obtain ⟨i1, i2, i3⟩ := xfnd_s hx
    have i2 := of_decide_eq_true i2
    have heq : ∀ q, q < i → a[q]? = b[q]? := fun q hq => Decidable.not_not.mp (of_decide_eq_false (i3 q hq))
    have hai : a[i]? = some (a[i]'(by omega)) := List.getElem?_eq_getElem (by omega)
    have hbi : b[i]? = some (b[i]'(by omega)) := List.getElem?_eq_getElem (by omega)
    generalize a[i]'(by omega) = u at hai
    generalize b[i]'(by omega) = v at hbi
    have hne : u ≠ v := fun e => i2 (by rw [hai, hbi, e])
    rcases Nat.lt_or_ge u v with w | w
    · exact .inl ⟨i, u, v, heq, hai, hbi, w⟩
    · exact .inr ⟨i, v, u, fun q hq => (heq q hq).symm.trans (h1 q (by omega)), hbi, (h1 i i1).symm.trans hai, by omega⟩
end XLeast
