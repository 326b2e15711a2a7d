/-! Small laws: the least place, comparisons of numbers. -/
section XPure
/-- the least j < n with p -/
def xfnd (p : Nat → Bool) : Nat → Option Nat
  | 0 => none
  | n + 1 => match xfnd p n with
    | some j => some j
    | none => if p n then some n else none
theorem xfnd_s {p : Nat → Bool} {j : Nat} : ∀ {n : Nat}, xfnd p n = some j → j < n ∧ p j = true ∧ ∀ i, i < j → p i = false
  | 0, h => by cases h
  | n + 1, h => by
    unfold xfnd at h
    cases hq : xfnd p n with
    | some k =>
      rw [hq] at h
      have e : k = j := Option.some.inj h
      subst e
      obtain ⟨a, b, c⟩ := xfnd_s hq
      exact ⟨by omega, b, c⟩
    | none =>
      rw [hq] at h
      by_cases hp : p n = true
      · rw [if_pos hp] at h
        have e : n = j := Option.some.inj h
        subst e
        refine ⟨Nat.lt_succ_self _, hp, ?_⟩
        intro i hi
        have : ∀ {m : Nat}, xfnd p m = none → ∀ i, i < m → p i = false := by
          intro m
          induction m with
          | zero => intro _ i hi; exact absurd hi (Nat.not_lt_zero i)
          | succ m ih =>
            intro hm i hi
            unfold xfnd at hm
            cases hz : xfnd p m with
            | some k => rw [hz] at hm; cases hm
            | none =>
              rw [hz] at hm
              by_cases hpm : p m = true
              · rw [if_pos hpm] at hm; cases hm
              · rcases Nat.lt_or_ge i m with h1 | h1
                · exact ih hz i h1
                · have e : i = m := by omega
                  rw [e]; simpa using hpm
        exact this hq i hi
      · rw [if_neg hp] at h; cases h
theorem xfnd_n {p : Nat → Bool} : ∀ {n : Nat}, xfnd p n = none → ∀ i, i < n → p i = false
  | 0, _, i, hi => absurd hi (Nat.not_lt_zero i)
  | n + 1, h, i, hi => by
    unfold xfnd at h
    cases hz : xfnd p n with
    | some k => rw [hz] at h; cases h
    | none =>
      rw [hz] at h
      by_cases hpm : p n = true
      · rw [if_pos hpm] at h; cases h
      · rcases Nat.lt_or_ge i n with h1 | h1
        · exact xfnd_n hz i h1
        · have e : i = n := by omega
          rw [e]; simpa using hpm
theorem xfnd_o {p : Nat → Bool} {n : Nat} (h : ∀ i, i < n → p i = false) : xfnd p n = none := by
  cases hq : xfnd p n with
  | none => rfl
  | some j =>
    obtain ⟨a, b, -⟩ := xfnd_s hq
    rw [h j a] at b
    cases b
theorem xfnd_i {p : Nat → Bool} {n j : Nat} (hj : j < n) (hp : p j = true) (hm : ∀ i, i < j → p i = false) : xfnd p n = some j := by
  cases hq : xfnd p n with
  | none => rw [xfnd_n hq j hj] at hp; cases hp
  | some k =>
    obtain ⟨a, b, c⟩ := xfnd_s hq
    rcases Nat.lt_trichotomy k j with h | h | h
    · rw [hm k h] at b; cases b
    · rw [h]
    · rw [c j h] at hp; cases hp
theorem xle {x z : Int32} {a b : Nat} (hx : x = nI a) (hz : z = nI b) (ha : a < 5000) (hb : b < 5000) : x ≤ z ↔ a ≤ b := by
  rw [hx, hz]; exact nI_leI (xn31 ha) (xn31 hb)
theorem xlt {x z : Int32} {a b : Nat} (hx : x = nI a) (hz : z = nI b) (ha : a < 5000) (hb : b < 5000) : x < z ↔ a < b := by
  rw [hx, hz]; exact nI_ltI (xn31 ha) (xn31 hb)
theorem xeq {x z : Int32} {a b : Nat} (hx : x = nI a) (hz : z = nI b) (ha : a < 5000) (hb : b < 5000) : x = z ↔ a = b := by
  rw [hx, hz]; exact nI_eq (xn31 ha) (xn31 hb)
theorem lt_s' {i : Nat} {p : Nat → Bool} (h : ∀ a, a < i → p a = false) (hi : p i = false) : ∀ a, a < i + 1 → p a = false := fun a ha => by
  rcases Nat.lt_or_ge a i with h1 | h1
  · exact h a h1
  · have e : a = i := by omega
    rw [e]; exact hi
end XPure
