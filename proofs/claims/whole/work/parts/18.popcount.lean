/-! Integer.bitCount: the sum of the bits. -/
section XPop
/-- how many of the first k bits are set -/
def xp_c (x : Nat) : Nat → Nat
  | 0 => 0
  | k + 1 => xp_c x k + (if x.testBit k then 1 else 0)
def xp_1 (l : Nat) : Nat := l - ((l / 2) &&& 0x5555)
def xp_2 (l : Nat) : Nat := (l &&& 0x3333) + ((l / 4) &&& 0x3333)
def xp_3 (l : Nat) : Nat := (l + l / 16) &&& 0x0f0f
def xp_h (l : Nat) : Nat := xp_3 (xp_2 (xp_1 l))
theorem xp_tab0 : ∀ a, a < 256 → ∀ b, b < 256 → xp_h (256 * a + b) % 256 + xp_h (256 * a + b) / 256 = xp_c (256 * a + b) 16 ∧ (((256 * a + b) / 2) &&& 0x5555) ≤ 256 * a + b ∧ xp_2 (xp_1 (256 * a + b)) ≤ 17476 ∧ xp_h (256 * a + b) % 256 ≤ 8 ∧ xp_h (256 * a + b) / 256 ≤ 8 := by decide +kernel
theorem xp_tab {l : Nat} (hl : l < 65536) : xp_h l % 256 + xp_h l / 256 = xp_c l 16 ∧ ((l / 2) &&& 0x5555) ≤ l ∧ xp_2 (xp_1 l) ≤ 17476 ∧ xp_h l % 256 ≤ 8 ∧ xp_h l / 256 ≤ 8 := by
  have h := xp_tab0 (l / 256) (by omega) (l % 256) (by omega)
  rw [Nat.div_add_mod] at h
  exact h
theorem xp_and (k a b c d : Nat) (hb : b < 2 ^ k) (hd : d < 2 ^ k) : (2 ^ k * a + b) &&& (2 ^ k * c + d) = 2 ^ k * (a &&& c) + (b &&& d) := by
  have hp : 0 < 2 ^ k := Nat.two_pow_pos k
  have h1 : ((2 ^ k * a + b) &&& (2 ^ k * c + d)) / 2 ^ k = a &&& c := by
    rw [Nat.and_div_two_pow, Nat.mul_add_div hp, Nat.mul_add_div hp, Nat.div_eq_of_lt hb, Nat.div_eq_of_lt hd, Nat.add_zero, Nat.add_zero]
  have h2 : ((2 ^ k * a + b) &&& (2 ^ k * c + d)) % 2 ^ k = b &&& d := by
    rw [Nat.and_mod_two_pow, Nat.mul_add_mod, Nat.mul_add_mod, Nat.mod_eq_of_lt hb, Nat.mod_eq_of_lt hd]
  have h3 := Nat.div_add_mod ((2 ^ k * a + b) &&& (2 ^ k * c + d)) (2 ^ k)
  rw [h1, h2] at h3
  exact h3.symm
theorem xp_s1 {h l : Nat} (hl : l < 65536) : ((65536 * h + l) / 2) &&& 0x55555555 = 65536 * ((h / 2) &&& 0x5555) + ((l / 2) &&& 0x5555) := by
  have e1 : (65536 * h + l) / 2 = 2 ^ 16 * (h / 2) + (2 ^ 15 * (h % 2) + l / 2) := by omega
  have e2 : (0x55555555 : Nat) = 2 ^ 16 * 0x5555 + 0x5555 := by decide
  have e3 : (2 ^ 15 * (h % 2) + l / 2) &&& (2 ^ 15 * 0 + 0x5555) = 2 ^ 15 * ((h % 2) &&& 0) + ((l / 2) &&& 0x5555) := xp_and 15 _ _ _ _ (by omega) (by decide)
  rw [Nat.and_zero, Nat.mul_zero, Nat.mul_zero, Nat.zero_add, Nat.zero_add] at e3
  rw [e1, e2, xp_and 16 _ _ _ _ (by omega) (by decide), e3]
theorem xp_s2 {h l : Nat} (hl : l < 65536) : ((65536 * h + l) / 4) &&& 0x33333333 = 65536 * ((h / 4) &&& 0x3333) + ((l / 4) &&& 0x3333) := by
  have e1 : (65536 * h + l) / 4 = 2 ^ 16 * (h / 4) + (2 ^ 14 * (h % 4) + l / 4) := by omega
  have e2 : (0x33333333 : Nat) = 2 ^ 16 * 0x3333 + 0x3333 := by decide
  have e3 : (2 ^ 14 * (h % 4) + l / 4) &&& (2 ^ 14 * 0 + 0x3333) = 2 ^ 14 * ((h % 4) &&& 0) + ((l / 4) &&& 0x3333) := xp_and 14 _ _ _ _ (by omega) (by decide)
  rw [Nat.and_zero, Nat.mul_zero, Nat.mul_zero, Nat.zero_add, Nat.zero_add] at e3
  rw [e1, e2, xp_and 16 _ _ _ _ (by omega) (by decide), e3]
theorem xp_s0 {h l : Nat} (hl : l < 65536) : (65536 * h + l) &&& 0x33333333 = 65536 * (h &&& 0x3333) + (l &&& 0x3333) := by
  have e2 : (0x33333333 : Nat) = 2 ^ 16 * 0x3333 + 0x3333 := by decide
  rw [e2]
  exact xp_and 16 h l _ _ hl (by decide)
theorem xp_s3 {h l : Nat} (hl : l ≤ 17476) (hh : h ≤ 17476) : ((65536 * h + l) + (65536 * h + l) / 16) &&& 0x0f0f0f0f = 65536 * xp_3 h + xp_3 l := by
  have e1 : (65536 * h + l) + (65536 * h + l) / 16 = 2 ^ 16 * (h + h / 16) + (l + l / 16 + 4096 * (h % 16)) := by omega
  have e2 : (0x0f0f0f0f : Nat) = 2 ^ 16 * 0x0f0f + 0x0f0f := by decide
  have e3 : ∀ u c : Nat, (u + 4096 * c) &&& 0x0f0f = u &&& 0x0f0f := fun u c => by
    have q1 := xp_and 12 ((u + 4096 * c) / 4096) ((u + 4096 * c) % 4096) 0 0x0f0f (by omega) (by decide)
    have q2 := xp_and 12 (u / 4096) (u % 4096) 0 0x0f0f (by omega) (by decide)
    rw [Nat.and_zero, Nat.mul_zero, Nat.mul_zero, Nat.zero_add, Nat.zero_add] at q1 q2
    have z1 : 2 ^ 12 * ((u + 4096 * c) / 4096) + (u + 4096 * c) % 4096 = u + 4096 * c := by omega
    have z2 : 2 ^ 12 * (u / 4096) + u % 4096 = u := by omega
    rw [z1] at q1
    rw [z2] at q2
    rw [q1, q2, show (u + 4096 * c) % 4096 = u % 4096 by omega]
  rw [e1, e2, xp_and 16 _ _ _ _ (by omega) (by decide), e3]
  rfl
/-- the whole, on natural numbers -/
def xp_n (n : Nat) : Nat :=
  let a := n - ((n / 2) &&& 0x55555555)
  let b := (a &&& 0x33333333) + ((a / 4) &&& 0x33333333)
  let c := (b + b / 16) &&& 0x0f0f0f0f
  let d := c + c / 256
  (d + d / 65536) &&& 63
theorem xp_c_split {h l : Nat} (hl : l < 65536) : ∀ j, xp_c (65536 * h + l) (16 + j) = xp_c l 16 + xp_c h j
  | 0 => by
    have : ∀ k, k ≤ 16 → xp_c (65536 * h + l) k = xp_c l k := by
      intro k
      induction k with
      | zero => intro _; rfl
      | succ k ih =>
        intro hk
        have e : (65536 * h + l).testBit k = l.testBit k := by
          have := Nat.testBit_two_pow_mul_add h (i := 16) hl k
          rw [if_pos (by omega)] at this
          exact this
        show xp_c (65536 * h + l) k + _ = xp_c l k + _
        rw [ih (by omega), e]
    show xp_c (65536 * h + l) 16 = xp_c l 16 + 0
    rw [this 16 (Nat.le_refl _)]
  | j + 1 => by
    have e : (65536 * h + l).testBit (16 + j) = h.testBit j := by
      have := Nat.testBit_two_pow_mul_add h (i := 16) hl (16 + j)
      rw [if_neg (by omega), show 16 + j - 16 = j by omega] at this
      exact this
    show xp_c (65536 * h + l) (16 + j) + _ = xp_c l 16 + (xp_c h j + _)
    rw [xp_c_split hl j, e]
    omega
theorem xp_ok {n : Nat} (hn : n < 4294967296) : xp_n n = xp_c n 32 := by
  obtain ⟨h, l, rfl, hh, hl⟩ : ∃ h l, n = 65536 * h + l ∧ h < 65536 ∧ l < 65536 := ⟨n / 65536, n % 65536, by omega, by omega, by omega⟩
  obtain ⟨l1, l2, l3, l4, l5⟩ := xp_tab hl
  obtain ⟨h1, h2, h3, h4, h5⟩ := xp_tab hh
  have a1 : (65536 * h + l) - (((65536 * h + l) / 2) &&& 0x55555555) = 65536 * xp_1 h + xp_1 l := by
    rw [xp_s1 hl]; unfold xp_1; omega
  have x1 : xp_1 l < 65536 := by unfold xp_1; omega
  have b1 : ((65536 * xp_1 h + xp_1 l) &&& 0x33333333) + (((65536 * xp_1 h + xp_1 l) / 4) &&& 0x33333333) = 65536 * xp_2 (xp_1 h) + xp_2 (xp_1 l) := by
    rw [xp_s0 x1, xp_s2 x1]
    show _ = 65536 * ((xp_1 h &&& 0x3333) + ((xp_1 h / 4) &&& 0x3333)) + ((xp_1 l &&& 0x3333) + ((xp_1 l / 4) &&& 0x3333))
    omega
  have c1 : ((65536 * xp_2 (xp_1 h) + xp_2 (xp_1 l)) + (65536 * xp_2 (xp_1 h) + xp_2 (xp_1 l)) / 16) &&& 0x0f0f0f0f = 65536 * xp_h h + xp_h l := xp_s3 l3 h3
  have m : ∀ z : Nat, z &&& 63 = z % 64 := fun z => Nat.and_two_pow_sub_one_eq_mod z 6
  unfold xp_n
  simp only [a1, b1, c1, m]
  have s := xp_c_split (h := h) hl 16
  rw [s, ← l1, ← h1]
  generalize xp_h l = u at *
  generalize xp_h h = v at *
  omega
end XPop
