/-! The spans of all products are the codes that they cover. -/
section XSpan
def sv : Nat → Nat → Int32
  | 0, _ => 1
  | s + 1, p => if p < 3 ^ s then sv s p else if p < 2 * 3 ^ s then sv s (p - 3 ^ s) <<< (((1 : Int32) <<< (nI s &&& 31)) &&& 31) else sv s (p - 2 * 3 ^ s) ||| (sv s (p - 2 * 3 ^ s) <<< (((1 : Int32) <<< (nI s &&& 31)) &&& 31))
theorem sp1_lo (f : Nat → Int32) (s : Nat) : ∀ p q, q < 3 ^ s → sp1 f s p q = f q
  | 0, _, _ => rfl
  | p + 1, q, h => by
    unfold sp1
    rw [pk_un (by omega), pk_un (by omega)]
    exact sp1_lo f s p q h
theorem sp1_hi (f : Nat → Int32) (s : Nat) : ∀ p, p ≤ 3 ^ s → ∀ j, j < p → sp1 f s p (j + 3 ^ s) = f j <<< (((1 : Int32) <<< (nI s &&& 31)) &&& 31) ∧ sp1 f s p (j + 2 * 3 ^ s) = f j ||| (f j <<< (((1 : Int32) <<< (nI s &&& 31)) &&& 31))
  | 0, _, j, h => absurd h (Nat.not_lt_zero j)
  | p + 1, hp, j, h => by
    have hl := sp1_lo f s p p (by omega)
    unfold sp1
    rw [hl]
    by_cases e : j = p
    · subst e
      refine ⟨by rw [pk_un (by omega), pk_us], ?_⟩
      rw [pk_us, pk_un (by omega), hl]
    · obtain ⟨h1, h2⟩ := sp1_hi f s p (by omega) j (by omega)
      refine ⟨?_, ?_⟩
      · rw [pk_un (by omega), pk_un (by omega), h1]
      · rw [pk_un (by omega), pk_un (by omega), h2]
theorem sp2_sv : ∀ s p, p < 3 ^ s → sp2 s p = sv s p
  | 0, p, h => by
    have : p = 0 := by simpa using h
    subst this
    rfl
  | s + 1, p, h => by
    have h3 : 3 ^ (s + 1) = 3 * 3 ^ s := by rw [Nat.pow_succ, Nat.mul_comm]
    show sp1 (sp2 s) s (3 ^ s) p = sv (s + 1) p
    unfold sv
    by_cases h1 : p < 3 ^ s
    · rw [if_pos h1, sp1_lo _ _ _ _ h1, sp2_sv s p h1]
    · rw [if_neg h1]
      by_cases h2 : p < 2 * 3 ^ s
      · rw [if_pos h2]
        have := (sp1_hi (sp2 s) s (3 ^ s) (Nat.le_refl _) (p - 3 ^ s) (by omega)).1
        rw [show p - 3 ^ s + 3 ^ s = p by omega] at this
        rw [this, sp2_sv s _ (by omega)]
      · rw [if_neg h2]
        have := (sp1_hi (sp2 s) s (3 ^ s) (Nat.le_refl _) (p - 2 * 3 ^ s) (by omega)).2
        rw [show p - 2 * 3 ^ s + 2 * 3 ^ s = p by omega] at this
        rw [this, sp2_sv s _ (by omega)]
theorem sp2_up (n : Nat) : ∀ s p, p < 3 ^ s → sp2 (s + n) p = sp2 s p := by
  induction n with
  | zero => intro s p h; rfl
  | succ n ih =>
    intro s p h
    have h3 : 3 ^ s ≤ 3 ^ (s + n) := Nat.pow_le_pow_right (by decide) (by omega)
    show sp1 (sp2 (s + n)) (s + n) (3 ^ (s + n)) p = sp2 s p
    rw [sp1_lo _ _ _ _ (Nat.lt_of_lt_of_le h h3), ih s p h]
set_option maxRecDepth 100000 in
theorem p_cv_sv : ∀ sg, sg < 6 → ∀ p, p < 3 ^ sg → p_cv sg p = sv sg p := by decide +kernel
/-- the spans that the constructor makes -/
theorem spf_cv {sg p : Nat} (h5 : sg ≤ 5) (hp : p < 3 ^ sg) : spf p = p_cv sg p := by
  have h := sp2_up (5 - sg) sg p hp
  rw [show sg + (5 - sg) = 5 by omega] at h
  rw [p_cv_sv sg (by omega) p hp, ← sp2_sv sg p hp, ← h]
  rfl
theorem spf_0 : spf 0 = 1 := (spf_cv (sg := 0) (by decide) (by decide)).trans rfl
theorem spf_1 : spf 1 = 2 := (spf_cv (sg := 1) (by decide) (by decide)).trans rfl
end XSpan
