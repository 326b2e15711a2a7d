/-! Bits of a word. -/
section XBits
def xbit (x : Int32) (i : Nat) : Bool := x.toBitVec.getLsbD i
theorem xbit_ext {x z : Int32} (h : ∀ i, i < 32 → xbit x i = xbit z i) : x = z := by
  apply Int32.toBitVec_inj.mp
  apply BitVec.eq_of_getLsbD_eq
  intro i hi
  exact h i hi
theorem xbit_or (x z : Int32) (i : Nat) : xbit (x ||| z) i = (xbit x i || xbit z i) := by
  unfold xbit
  rw [Int32.toBitVec_or, BitVec.getLsbD_or]
theorem xbit_and (x z : Int32) (i : Nat) : xbit (x &&& z) i = (xbit x i && xbit z i) := by
  unfold xbit
  rw [Int32.toBitVec_and, BitVec.getLsbD_and]
theorem xbit_xor (x z : Int32) (i : Nat) : xbit (x ^^^ z) i = (xbit x i ^^ xbit z i) := by
  unfold xbit
  rw [Int32.toBitVec_xor, BitVec.getLsbD_xor]
theorem xbit_0 (i : Nat) : xbit 0 i = false := by
  unfold xbit
  show (0#32).getLsbD i = false
  exact BitVec.getLsbD_zero
theorem xbit_m : ∀ i, i < 32 → xbit (-1) i = true := by decide
theorem xbit_1 : ∀ j, j < 32 → ∀ i, i < 32 → xbit ((1 : Int32) <<< (nI j &&& 31)) i = decide (i = j) := by decide +kernel
theorem xbit_s : ∀ i, i < 32 → ((nI i &&& 31).toBitVec.smod 32).toNat = i := by decide
theorem xbit_o : ∀ i, i < 32 → xbit 1 i = decide (i = 0) := by decide
theorem xbit_h {i : Nat} (hi : 32 ≤ i) (x : Int32) : xbit x i = false := BitVec.getLsbD_of_ge _ _ hi
theorem xbit_sh (x : Int32) {i : Nat} (hi : i < 32) : (x >>> (nI i &&& 31)) &&& 1 = if xbit x i = true then 1 else 0 := by
  apply xbit_ext
  intro j hj
  rw [xbit_and, xbit_o j hj]
  have h0 : xbit (x >>> (nI i &&& 31)) 0 = xbit x i := by
    unfold xbit
    rw [Int32.toBitVec_shiftRight]
    show (x.toBitVec.sshiftRight ((nI i &&& 31).toBitVec.smod 32).toNat).getLsbD 0 = _
    rw [xbit_s i hi, BitVec.getLsbD_sshiftRight]
    simp [hi]
  by_cases hj0 : j = 0
  · subst hj0
    rw [h0]
    cases xbit x i <;> decide
  · rw [decide_eq_false hj0, Bool.and_false]
    split
    · rw [xbit_o j hj, decide_eq_false hj0]
    · rw [xbit_0]
theorem xbit_t (x : Int32) {i : Nat} (hi : i < 32) : (x >>> (nI i &&& 31)) &&& 1 = 1 ↔ xbit x i = true := by
  rw [xbit_sh x hi]
  cases xbit x i <;> decide
theorem xbit_f (x : Int32) {i : Nat} (hi : i < 32) : (x >>> (nI i &&& 31)) &&& 1 = 0 ↔ xbit x i = false := by
  rw [xbit_sh x hi]
  cases xbit x i <;> decide
/-- the open code is the least that is asked and not had -/
theorem m_op1_b {al hv : Int32} {i : Nat} (hi : i < 32) : m_op1 al hv i = (xbit al i && !xbit hv i) := by
  unfold m_op1
  have h := xbit_t (al &&& (hv ^^^ (-1))) hi
  rw [xbit_and, xbit_xor, xbit_m i hi, Bool.xor_true] at h
  cases hb : (xbit al i && !xbit hv i)
  · exact decide_eq_false (fun z => by rw [hb] at h; exact absurd (h.mp z) (by decide))
  · exact decide_eq_true (h.mpr hb)
theorem m_op_none {al hv : Int32} : m_op al hv = none ↔ ∀ i, i < 32 → xbit al i = true → xbit hv i = true := by
  constructor
  · intro h i hi ha
    have := xfnd_n h i hi
    rw [m_op1_b hi, ha] at this
    cases hb : xbit hv i
    · rw [hb] at this; cases this
    · rfl
  · intro h
    refine xfnd_o (fun i hi => ?_)
    rw [m_op1_b hi]
    cases ha : xbit al i
    · rfl
    · rw [h i hi ha]; rfl
theorem m_op_0 {al : Int32} (h : ¬ al = 0) : ∃ c, m_op al 0 = some c := by
  cases ho : m_op al 0 with
  | some c => exact ⟨c, rfl⟩
  | none =>
    refine absurd (xbit_ext (fun i hi => ?_)) h
    rw [xbit_0]
    cases ha : xbit al i
    · rfl
    · have := m_op_none.mp ho i hi ha
      rw [xbit_0] at this
      cases this
end XBits
