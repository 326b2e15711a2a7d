/-! Integer.bitCount: the sum of the bits. -/
section XPop
/-- how many of the first k bits are set -/
def xp_c (x : Nat) : Nat → Nat
  | 0 => 0
  | k + 1 => xp_c x k + (if x.testBit k then 1 else 0)
def xp_1 (l : Nat) : Nat := l - ((l / 2) &&& 0x5555)
def xp_2 (l : Nat) : Nat := (l &&& 0x3333) + ((l / 4) &&& 0x3333)
def xp_3 (l : Nat) : Nat := (l + l / 16) &&& 0x0f0f
def xp_h (l : Nat) : Nat := xp_3 (xp_2 (xp_1 l))
theorem xp_and (k a b c d : Nat) (hb : b < 2 ^ k) (hd : d < 2 ^ k) : (2 ^ k * a + b) &&& (2 ^ k * c + d) = 2 ^ k * (a &&& c) + (b &&& d) := by
  have hp : 0 < 2 ^ k := Nat.two_pow_pos k
  have h1 : ((2 ^ k * a + b) &&& (2 ^ k * c + d)) / 2 ^ k = a &&& c := by
    rw [Nat.and_div_two_pow, Nat.mul_add_div hp, Nat.mul_add_div hp, Nat.div_eq_of_lt hb, Nat.div_eq_of_lt hd, Nat.add_zero, Nat.add_zero]
  have h2 : ((2 ^ k * a + b) &&& (2 ^ k * c + d)) % 2 ^ k = b &&& d := by
    rw [Nat.and_mod_two_pow, Nat.mul_add_mod, Nat.mul_add_mod, Nat.mod_eq_of_lt hb, Nat.mod_eq_of_lt hd]
  have h3 := Nat.div_add_mod ((2 ^ k * a + b) &&& (2 ^ k * c + d)) (2 ^ k)
  rw [h1, h2] at h3
  exact h3.symm
def xq_1 (l : Nat) : Nat := l - ((l / 2) &&& 0x55)
def xq_2 (l : Nat) : Nat := (l &&& 0x33) + ((l / 4) &&& 0x33)
theorem xq_t1 : ∀ b, b < 256 → ∀ c, c < 2 → (b / 2 + 128 * c) &&& 0x55 = (b / 2) &&& 0x55 := by decide +kernel
theorem xq_t2 : ∀ b, b < 256 → ∀ c, c < 4 → (b / 4 + 64 * c) &&& 0x33 = (b / 4) &&& 0x33 := by decide +kernel
theorem xq_tab : ∀ b, b < 256 → ((b / 2) &&& 0x55) ≤ b ∧ xq_1 b < 256 ∧ xq_2 (xq_1 b) ≤ 68 ∧ xq_2 (xq_1 b) % 16 ≤ 4 ∧ (xq_2 (xq_1 b) + xq_2 (xq_1 b) / 16) % 16 = xp_c b 8 ∧ xp_c b 8 ≤ 8 := by decide +kernel
theorem xp_c_split (k : Nat) {h l : Nat} (hl : l < 2 ^ k) : ∀ j, xp_c (2 ^ k * h + l) (k + j) = xp_c l k + xp_c h j
  | 0 => by
    have : ∀ i, i ≤ k → xp_c (2 ^ k * h + l) i = xp_c l i := by
      intro i
      induction i with
      | zero => intro _; rfl
      | succ i ih =>
        intro hi
        have e : (2 ^ k * h + l).testBit i = l.testBit i := by
          have := Nat.testBit_two_pow_mul_add h (i := k) hl i
          rw [if_pos (by omega)] at this
          exact this
        show xp_c (2 ^ k * h + l) i + _ = xp_c l i + _
        rw [ih (by omega), e]
    show xp_c (2 ^ k * h + l) k = xp_c l k + 0
    rw [this k (Nat.le_refl _)]
    rfl
  | j + 1 => by
    have e : (2 ^ k * h + l).testBit (k + j) = h.testBit j := by
      have := Nat.testBit_two_pow_mul_add h (i := k) hl (k + j)
      rw [if_neg (by omega), show k + j - k = j by omega] at this
      exact this
    show xp_c (2 ^ k * h + l) (k + j) + _ = xp_c l k + (xp_c h j + _)
    rw [xp_c_split k hl j, show k.add j = k + j from rfl, e]
    omega
theorem xp_tab {l : Nat} (hl : l < 65536) : xp_h l % 256 + xp_h l / 256 = xp_c l 16 ∧ ((l / 2) &&& 0x5555) ≤ l ∧ xp_2 (xp_1 l) ≤ 17476 ∧ xp_h l % 256 ≤ 8 ∧ xp_h l / 256 ≤ 8 ∧ xp_2 (xp_1 l) % 16 ≤ 4 := by
  obtain ⟨a, b, rfl, ha, hb⟩ : ∃ a b, l = 2 ^ 8 * a + b ∧ a < 256 ∧ b < 256 := ⟨l / 256, l % 256, by omega, by omega, by omega⟩
  obtain ⟨a1, a2, a3, a4, a5, a6⟩ := xq_tab a ha
  obtain ⟨b1, b2, b3, b4, b5, b6⟩ := xq_tab b hb
  have s1 : ((2 ^ 8 * a + b) / 2) &&& 0x5555 = 2 ^ 8 * ((a / 2) &&& 0x55) + ((b / 2) &&& 0x55) := by
    have e1 : (2 ^ 8 * a + b) / 2 = 2 ^ 8 * (a / 2) + (b / 2 + 128 * (a % 2)) := by omega
    have e2 : (0x5555 : Nat) = 2 ^ 8 * 0x55 + 0x55 := by decide
    rw [e1, e2, xp_and 8 _ _ _ _ (by omega) (by decide), xq_t1 b hb (a % 2) (by omega)]
  have s2 : xp_1 (2 ^ 8 * a + b) = 2 ^ 8 * xq_1 a + xq_1 b := by
    unfold xp_1 xq_1
    rw [s1]; omega
  have s3 : xp_2 (xp_1 (2 ^ 8 * a + b)) = 2 ^ 8 * xq_2 (xq_1 a) + xq_2 (xq_1 b) := by
    rw [s2]
    generalize xq_1 a = u at *
    generalize xq_1 b = v at *
    unfold xp_2 xq_2
    have e1 : (2 ^ 8 * u + v) / 4 = 2 ^ 8 * (u / 4) + (v / 4 + 64 * (u % 4)) := by omega
    have e2 : (0x3333 : Nat) = 2 ^ 8 * 0x33 + 0x33 := by decide
    rw [e1, e2, xp_and 8 _ _ _ _ (by omega) (by decide), xp_and 8 _ _ _ _ (by omega) (by decide), xq_t2 v b2 (u % 4) (by omega)]
    omega
  have m : ∀ z : Nat, z &&& 0x0f = z % 16 := fun z => Nat.and_two_pow_sub_one_eq_mod z 4
  have s4 : xp_h (2 ^ 8 * a + b) = 2 ^ 8 * xp_c a 8 + xp_c b 8 := by
    unfold xp_h xp_3
    rw [s3]
    generalize xq_2 (xq_1 a) = u at *
    generalize xq_2 (xq_1 b) = v at *
    have e1 : (2 ^ 8 * u + v) + (2 ^ 8 * u + v) / 16 = 2 ^ 8 * (u + u / 16) + (v + v / 16 + 16 * (u % 16)) := by omega
    have e2 : (0x0f0f : Nat) = 2 ^ 8 * 0x0f + 0x0f := by decide
    rw [e1, e2, xp_and 8 _ _ _ _ (by omega) (by decide), m, m]
    omega
  have s5 := xp_c_split 8 (h := a) (l := b) hb 8
  rw [show 8 + 8 = 16 from rfl] at s5
  rw [s3, s4, s1, s5]
  generalize xp_c a 8 = u at *
  generalize xp_c b 8 = v at *
  have e9 : ∀ x z : Nat, (2 ^ 8 * x + z) % 16 = z % 16 := fun x z => by omega
  refine ⟨by omega, by omega, by omega, by omega, by omega, by rw [e9]; exact b4⟩
theorem xp_s1 {h l : Nat} (hl : l < 65536) : ((65536 * h + l) / 2) &&& 0x55555555 = 65536 * ((h / 2) &&& 0x5555) + ((l / 2) &&& 0x5555) := by
  have e1 : (65536 * h + l) / 2 = 2 ^ 16 * (h / 2) + (2 ^ 15 * (h % 2) + l / 2) := by omega
  have e2 : (0x55555555 : Nat) = 2 ^ 16 * 0x5555 + 0x5555 := by decide
  have e3 : (2 ^ 15 * (h % 2) + l / 2) &&& (2 ^ 15 * 0 + 0x5555) = 2 ^ 15 * ((h % 2) &&& 0) + ((l / 2) &&& 0x5555) := xp_and 15 _ _ _ _ (by omega) (by decide)
  simp only [Nat.and_zero, Nat.mul_zero, Nat.zero_add] at e3
  rw [e1, e2, xp_and 16 _ _ _ _ (by omega) (by decide), e3]
theorem xp_s2 {h l : Nat} (hl : l < 65536) : ((65536 * h + l) / 4) &&& 0x33333333 = 65536 * ((h / 4) &&& 0x3333) + ((l / 4) &&& 0x3333) := by
  have e1 : (65536 * h + l) / 4 = 2 ^ 16 * (h / 4) + (2 ^ 14 * (h % 4) + l / 4) := by omega
  have e2 : (0x33333333 : Nat) = 2 ^ 16 * 0x3333 + 0x3333 := by decide
  have e3 : (2 ^ 14 * (h % 4) + l / 4) &&& (2 ^ 14 * 0 + 0x3333) = 2 ^ 14 * ((h % 4) &&& 0) + ((l / 4) &&& 0x3333) := xp_and 14 _ _ _ _ (by omega) (by decide)
  simp only [Nat.and_zero, Nat.mul_zero, Nat.zero_add] at e3
  rw [e1, e2, xp_and 16 _ _ _ _ (by omega) (by decide), e3]
theorem xp_s0 {h l : Nat} (hl : l < 65536) : (65536 * h + l) &&& 0x33333333 = 65536 * (h &&& 0x3333) + (l &&& 0x3333) := by
  have e2 : (0x33333333 : Nat) = 2 ^ 16 * 0x3333 + 0x3333 := by decide
  rw [e2]
  exact xp_and 16 h l _ _ hl (by decide)
theorem xp_s3 {h l : Nat} (hl : l ≤ 17476) (hh : h % 16 ≤ 4) : ((65536 * h + l) + (65536 * h + l) / 16) &&& 0x0f0f0f0f = 65536 * xp_3 h + xp_3 l := by
  have e1 : (65536 * h + l) + (65536 * h + l) / 16 = 2 ^ 16 * (h + h / 16) + (l + l / 16 + 4096 * (h % 16)) := by omega
  have e2 : (0x0f0f0f0f : Nat) = 2 ^ 16 * 0x0f0f + 0x0f0f := by decide
  have e3 : ∀ u c : Nat, (u + 4096 * c) &&& 0x0f0f = u &&& 0x0f0f := fun u c => by
    have q1 := xp_and 12 ((u + 4096 * c) / 4096) ((u + 4096 * c) % 4096) 0 0x0f0f (by omega) (by decide)
    have q2 := xp_and 12 (u / 4096) (u % 4096) 0 0x0f0f (by omega) (by decide)
    simp only [Nat.and_zero, Nat.mul_zero, Nat.zero_add] at q1 q2
    have z1 : 2 ^ 12 * ((u + 4096 * c) / 4096) + (u + 4096 * c) % 4096 = u + 4096 * c := by omega
    have z2 : 2 ^ 12 * (u / 4096) + u % 4096 = u := by omega
    rw [z1] at q1
    rw [z2] at q2
    rw [q1, q2, show (u + 4096 * c) % 4096 = u % 4096 by omega]
  rw [e1, e2, xp_and 16 _ _ _ _ (by omega) (by decide), e3]
  rfl
/-- the whole, on natural numbers -/
def xp_n (n : Nat) : Nat :=
  let a := n - ((n / 2) &&& 0x55555555)
  let b := (a &&& 0x33333333) + ((a / 4) &&& 0x33333333)
  let c := (b + b / 16) &&& 0x0f0f0f0f
  let d := c + c / 256
  (d + d / 65536) &&& 63
theorem xp_ok {n : Nat} (hn : n < 4294967296) : xp_n n = xp_c n 32 := by
  obtain ⟨h, l, rfl, hh, hl⟩ : ∃ h l, n = 65536 * h + l ∧ h < 65536 ∧ l < 65536 := ⟨n / 65536, n % 65536, by omega, by omega, by omega⟩
  obtain ⟨l1, l2, l3, l4, l5, l6⟩ := xp_tab hl
  obtain ⟨h1, h2, h3, h4, h5, h6⟩ := xp_tab hh
  have a1 : (65536 * h + l) - (((65536 * h + l) / 2) &&& 0x55555555) = 65536 * xp_1 h + xp_1 l := by
    rw [xp_s1 hl]; unfold xp_1; omega
  have x1 : xp_1 l < 65536 := by unfold xp_1; omega
  have b1 : ((65536 * xp_1 h + xp_1 l) &&& 0x33333333) + (((65536 * xp_1 h + xp_1 l) / 4) &&& 0x33333333) = 65536 * xp_2 (xp_1 h) + xp_2 (xp_1 l) := by
    rw [xp_s0 x1, xp_s2 x1]
    show _ = 65536 * ((xp_1 h &&& 0x3333) + ((xp_1 h / 4) &&& 0x3333)) + ((xp_1 l &&& 0x3333) + ((xp_1 l / 4) &&& 0x3333))
    omega
  have c1 : ((65536 * xp_2 (xp_1 h) + xp_2 (xp_1 l)) + (65536 * xp_2 (xp_1 h) + xp_2 (xp_1 l)) / 16) &&& 0x0f0f0f0f = 65536 * xp_h h + xp_h l := xp_s3 l3 h6
  have m : ∀ z : Nat, z &&& 63 = z % 64 := fun z => Nat.and_two_pow_sub_one_eq_mod z 6
  unfold xp_n
  simp only [a1, b1, c1, m]
  have s := xp_c_split 16 (h := h) (l := l) hl 16
  rw [show 16 + 16 = 32 from rfl] at s
  rw [s, ← l1, ← h1]
  clear s l1 h1 a1 b1 c1 l2 h2 x1 l3 h3 l6 h6
  generalize xp_h l = u at *
  generalize xp_h h = v at *
  obtain ⟨u0, u1, rfl, hu0, hu1⟩ : ∃ u0 u1, u = 256 * u1 + u0 ∧ u0 ≤ 8 ∧ u1 ≤ 8 := ⟨u % 256, u / 256, by omega, by omega, by omega⟩
  obtain ⟨v0, v1, rfl, hv0, hv1⟩ : ∃ v0 v1, v = 256 * v1 + v0 ∧ v0 ≤ 8 ∧ v1 ≤ 8 := ⟨v % 256, v / 256, by omega, by omega, by omega⟩
  have e1 : (65536 * (256 * v1 + v0) + (256 * u1 + u0)) / 256 = 65536 * v1 + 256 * v0 + u1 := by omega
  rw [e1]
  have e2 : (65536 * (256 * v1 + v0) + (256 * u1 + u0) + (65536 * v1 + 256 * v0 + u1)) / 65536 = 256 * v1 + v0 + v1 := by omega
  rw [e2]
  have e3 : (256 * u1 + u0) % 256 = u0 := by omega
  have e4 : (256 * u1 + u0) / 256 = u1 := by omega
  have e5 : (256 * v1 + v0) % 256 = v0 := by omega
  have e6 : (256 * v1 + v0) / 256 = v1 := by omega
  rw [e3, e4, e5, e6]
  clear e1 e2 e3 e4 e5 e6 h4 h5 l4 l5 m hn hh hl
  have e7 : 65536 * (256 * v1 + v0) + (256 * u1 + u0) + (65536 * v1 + 256 * v0 + u1) + (256 * v1 + v0 + v1) = 64 * (1024 * (256 * v1 + v0) + 4 * u1 + 1024 * v1 + 4 * v0 + 4 * v1) + (u0 + u1 + v0 + v1) := by omega
  rw [e7, Nat.mul_add_mod, Nat.mod_eq_of_lt (by omega)]
  omega
end XPop
section XPop2
variable {S : Nat × (Nat → Int32)} {V : xl_V} {d : Nat}
/-- the bits of an int, as a number -/
def xN (x : Int32) : Nat := x.toBitVec.toNat
theorem xN_lt (x : Int32) : xN x < 4294967296 := x.toBitVec.isLt
theorem xN_and (x z : Int32) : xN (x &&& z) = xN x &&& xN z := by
  unfold xN; rw [Int32.toBitVec_and, BitVec.toNat_and]
theorem xN_sub {x z : Int32} (h : xN z ≤ xN x) : xN (x - z) = xN x - xN z := by
  have h1 := xN_lt x
  have h2 := xN_lt z
  unfold xN at *
  rw [Int32.toBitVec_sub, BitVec.toNat_sub]
  omega
theorem xN_add {x z : Int32} (h : xN x + xN z < 4294967296) : xN (x + z) = xN x + xN z := by
  unfold xN at *
  rw [Int32.toBitVec_add, BitVec.toNat_add]
  omega
theorem xN_us (x : Int32) (k : UInt32) (j : Nat) (hj : k.toNat % 32 = j) : xN ((x.toUInt32 >>> k).toInt32) = xN x / 2 ^ j := by
  show (x.toUInt32 >>> k).toNat = x.toUInt32.toNat / 2 ^ j
  rw [UInt32.toNat_shiftRight, hj, Nat.shiftRight_eq_div_pow]
theorem xN_c {x : Int32} : ∀ n, xpn x n = xp_c (xN x) n
  | 0 => rfl
  | n + 1 => by
    show xpn x n + (if xbit x n = true then 1 else 0) = xp_c (xN x) n + (if (xN x).testBit n then 1 else 0)
    rw [xN_c n]
    rfl
def xpI (x : Int32) : Int32 :=
  let a := x - ((x.toUInt32 >>> ((1 : Int32).toUInt32 &&& Int32.toUInt32 31)).toInt32 &&& 1431655765)
  let b := (a &&& 858993459) + ((a.toUInt32 >>> ((2 : Int32).toUInt32 &&& Int32.toUInt32 31)).toInt32 &&& 858993459)
  let c := (b + (b.toUInt32 >>> ((4 : Int32).toUInt32 &&& Int32.toUInt32 31)).toInt32) &&& 252645135
  let e := c + (c.toUInt32 >>> ((8 : Int32).toUInt32 &&& Int32.toUInt32 31)).toInt32
  (e + (e.toUInt32 >>> ((16 : Int32).toUInt32 &&& Int32.toUInt32 31)).toInt32) &&& 63
theorem xpI_n (x : Int32) : xN (xpI x) = xp_n (xN x) := by
  have c1 : xN 1431655765 = 0x55555555 := by decide
  have c2 : xN 858993459 = 0x33333333 := by decide
  have c3 : xN 252645135 = 0x0f0f0f0f := by decide
  have c4 : xN 63 = 63 := by decide
  have l0 := xN_lt x
  unfold xpI xp_n
  dsimp only
  have a1 : xN (x - ((x.toUInt32 >>> ((1 : Int32).toUInt32 &&& Int32.toUInt32 31)).toInt32 &&& 1431655765)) = xN x - ((xN x / 2) &&& 0x55555555) := by
    have e1 : xN ((x.toUInt32 >>> ((1 : Int32).toUInt32 &&& Int32.toUInt32 31)).toInt32 &&& 1431655765) = (xN x / 2) &&& 0x55555555 := by
      rw [xN_and, xN_us x _ 1 (by decide), c1]
    have e2 : (xN x / 2) &&& 0x55555555 ≤ xN x / 2 := Nat.and_le_left
    rw [xN_sub (by rw [e1]; omega), e1]
  generalize x - ((x.toUInt32 >>> ((1 : Int32).toUInt32 &&& Int32.toUInt32 31)).toInt32 &&& 1431655765) = a at a1 ⊢
  rw [← a1]
  have b1 : xN ((a &&& 858993459) + ((a.toUInt32 >>> ((2 : Int32).toUInt32 &&& Int32.toUInt32 31)).toInt32 &&& 858993459)) = (xN a &&& 0x33333333) + ((xN a / 4) &&& 0x33333333) := by
    have e1 : xN (a &&& 858993459) = xN a &&& 0x33333333 := by rw [xN_and, c2]
    have e2 : xN ((a.toUInt32 >>> ((2 : Int32).toUInt32 &&& Int32.toUInt32 31)).toInt32 &&& 858993459) = (xN a / 4) &&& 0x33333333 := by rw [xN_and, xN_us a _ 2 (by decide), c2]
    have e3 : xN a &&& 0x33333333 ≤ 0x33333333 := Nat.and_le_right
    have e4 : (xN a / 4) &&& 0x33333333 ≤ 0x33333333 := Nat.and_le_right
    rw [xN_add (by rw [e1, e2]; omega), e1, e2]
  have b2 : (xN a &&& 0x33333333) + ((xN a / 4) &&& 0x33333333) ≤ 0x66666666 := by
    have e3 : xN a &&& 0x33333333 ≤ 0x33333333 := Nat.and_le_right
    have e4 : (xN a / 4) &&& 0x33333333 ≤ 0x33333333 := Nat.and_le_right
    omega
  rw [← b1] at b2
  generalize (a &&& 858993459) + ((a.toUInt32 >>> ((2 : Int32).toUInt32 &&& Int32.toUInt32 31)).toInt32 &&& 858993459) = b at b1 b2 ⊢
  rw [← b1]
  have d1 : xN ((b + (b.toUInt32 >>> ((4 : Int32).toUInt32 &&& Int32.toUInt32 31)).toInt32) &&& 252645135) = (xN b + xN b / 16) &&& 0x0f0f0f0f := by
    have e1 : xN (b.toUInt32 >>> ((4 : Int32).toUInt32 &&& Int32.toUInt32 31)).toInt32 = xN b / 16 := by rw [xN_us b _ 4 (by decide)]
    rw [xN_and, xN_add (by rw [e1]; omega), e1, c3]
  have d2 : (xN b + xN b / 16) &&& 0x0f0f0f0f ≤ 0x0f0f0f0f := Nat.and_le_right
  rw [← d1] at d2
  generalize (b + (b.toUInt32 >>> ((4 : Int32).toUInt32 &&& Int32.toUInt32 31)).toInt32) &&& 252645135 = c at d1 d2 ⊢
  rw [← d1]
  have f1 : xN (c + (c.toUInt32 >>> ((8 : Int32).toUInt32 &&& Int32.toUInt32 31)).toInt32) = xN c + xN c / 256 := by
    have e1 : xN (c.toUInt32 >>> ((8 : Int32).toUInt32 &&& Int32.toUInt32 31)).toInt32 = xN c / 256 := by rw [xN_us c _ 8 (by decide)]
    rw [xN_add (by rw [e1]; omega), e1]
  have f2 : xN (c + (c.toUInt32 >>> ((8 : Int32).toUInt32 &&& Int32.toUInt32 31)).toInt32) ≤ 0x10000000 := by rw [f1]; omega
  generalize c + (c.toUInt32 >>> ((8 : Int32).toUInt32 &&& Int32.toUInt32 31)).toInt32 = g at f1 f2 ⊢
  rw [← f1]
  have e1 : xN (g.toUInt32 >>> ((16 : Int32).toUInt32 &&& Int32.toUInt32 31)).toInt32 = xN g / 65536 := by rw [xN_us g _ 16 (by decide)]
  rw [xN_and, xN_add (by rw [e1]; omega), e1, c4]
theorem xN_inj {x z : Int32} (h : xN x = xN z) : x = z := Int32.toBitVec_inj.mp (BitVec.eq_of_toNat_eq h)
theorem xN_nI {k : Nat} (hk : k < 4294967296) : xN (nI k) = k := by
  show (BitVec.ofInt 32 (k : Int)).toNat = k
  rw [BitVec.toNat_ofInt]
  omega
theorem xpI_ok (x : Int32) : xpI x = nI (xpc x) := by
  apply xN_inj
  have h := xpn_le x 32
  show xN (xpI x) = xN (nI (xpn x 32))
  rw [xN_nI (show xpn x 32 < 4294967296 by omega), xpI_n, xp_ok (xN_lt x)]
  exact (xN_c 32).symm
set_option maxRecDepth 100000 in
theorem xBC_ok : xBC S := by
  intro V d x
  refine xx_iload_n e_JI_bitCount_0 rfl rfl ?_
  refine xx_iload_n e_JI_bitCount_1 rfl rfl ?_
  refine xx_iconst (v := 1) e_JI_bitCount_2 (by decide) ?_
  refine xx_iushr e_JI_bitCount_3 ?_
  refine xx_ldcw (v := 1431655765) e_JI_bitCount_4 (xw_t (i := 584) rfl (by decide +kernel)) ?_
  refine xx_iand e_JI_bitCount_7 ?_
  refine xx_isub e_JI_bitCount_8 ?_
  refine xx_istore_n e_JI_bitCount_9 rfl rfl ?_
  refine xx_iload_n e_JI_bitCount_10 rfl rfl ?_
  refine xx_ldcw (v := 858993459) e_JI_bitCount_11 (xw_t (i := 585) rfl (by decide +kernel)) ?_
  refine xx_iand e_JI_bitCount_14 ?_
  refine xx_iload_n e_JI_bitCount_15 rfl rfl ?_
  refine xx_iconst (v := 2) e_JI_bitCount_16 (by decide) ?_
  refine xx_iushr e_JI_bitCount_17 ?_
  refine xx_ldcw (v := 858993459) e_JI_bitCount_18 (xw_t (i := 585) rfl (by decide +kernel)) ?_
  refine xx_iand e_JI_bitCount_21 ?_
  refine xx_iadd e_JI_bitCount_22 ?_
  refine xx_istore_n e_JI_bitCount_23 rfl rfl ?_
  refine xx_iload_n e_JI_bitCount_24 rfl rfl ?_
  refine xx_iload_n e_JI_bitCount_25 rfl rfl ?_
  refine xx_iconst (v := 4) e_JI_bitCount_26 (by decide) ?_
  refine xx_iushr e_JI_bitCount_27 ?_
  refine xx_iadd e_JI_bitCount_28 ?_
  refine xx_ldcw (v := 252645135) e_JI_bitCount_29 (xw_t (i := 586) rfl (by decide +kernel)) ?_
  refine xx_iand e_JI_bitCount_32 ?_
  refine xx_istore_n e_JI_bitCount_33 rfl rfl ?_
  refine xx_iload_n e_JI_bitCount_34 rfl rfl ?_
  refine xx_iload_n e_JI_bitCount_35 rfl rfl ?_
  refine xx_bipush (v := 8) e_JI_bitCount_36 (by decide) ?_
  refine xx_iushr e_JI_bitCount_38 ?_
  refine xx_iadd e_JI_bitCount_39 ?_
  refine xx_istore_n e_JI_bitCount_40 rfl rfl ?_
  refine xx_iload_n e_JI_bitCount_41 rfl rfl ?_
  refine xx_iload_n e_JI_bitCount_42 rfl rfl ?_
  refine xx_bipush (v := 16) e_JI_bitCount_43 (by decide) ?_
  refine xx_iushr e_JI_bitCount_45 ?_
  refine xx_iadd e_JI_bitCount_46 ?_
  refine xx_istore_n e_JI_bitCount_47 rfl rfl ?_
  refine xx_iload_n e_JI_bitCount_48 rfl rfl ?_
  refine xx_bipush (v := 63) e_JI_bitCount_49 (by decide) ?_
  refine xx_iand e_JI_bitCount_51 ?_
  refine xx_iret e_JI_bitCount_52 rfl rfl ?_
  exact ⟨congrArg (fun z => Sum.inl (some (Value.int z))) (xpI_ok x), rfl⟩
end XPop2
