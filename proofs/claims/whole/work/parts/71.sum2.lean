/-! The class's least sums: what the search asks. -/
section XSum2
theorem xub_s : ∀ c, c < 32 → (((nI c).toUInt32 &&& Int32.toUInt32 31).toBitVec % 32).toNat = c := by decide
theorem xub_b (x : Int32) {c : Nat} (hc : c < 32) : xub x c = if xbit x c = true then 1 else 0 := by
  unfold xub
  apply xbit_ext
  intro j hj
  rw [xbit_and, xbit_o j hj]
  have h0 : xbit ((x.toUInt32 >>> ((nI c).toUInt32 &&& Int32.toUInt32 31)).toInt32) 0 = xbit x c := by
    unfold xbit
    show (x.toUInt32 >>> ((nI c).toUInt32 &&& Int32.toUInt32 31)).toBitVec.getLsbD 0 = _
    rw [UInt32.toBitVec_shiftRight]
    show (x.toBitVec >>> (((nI c).toUInt32 &&& Int32.toUInt32 31).toBitVec % 32).toNat).getLsbD 0 = _
    rw [xub_s c hc, BitVec.getLsbD_ushiftRight]
    rfl
  by_cases hj0 : j = 0
  · subst hj0
    rw [h0]
    cases xbit x c <;> decide
  · rw [decide_eq_false hj0, Bool.and_false]
    split
    · rw [xbit_o j hj, decide_eq_false hj0]
    · rw [xbit_0]
theorem xub_1 (x : Int32) {c : Nat} (hc : c < 32) : xub x c = 1 ↔ xbit x c = true := by
  rw [xub_b x hc]
  cases xbit x c <;> decide
/-- A comes before B: the first of the places where they differ is in A -/
def k_clt (n : Nat) (A B : Nat → Int32) : Prop := ∃ i, i < n ∧ (∀ j, j < i → A j = B j) ∧ ¬ A i = B i ∧ ¬ A i = 0
def k_lt (n : Nat) (a b : Nat × (Nat → Int32)) : Prop := a.1 < b.1 ∨ a.1 = b.1 ∧ k_clt n a.2 b.2
theorem k_clt_i (n : Nat) (A : Nat → Int32) : ¬ k_clt n A A := fun ⟨_, _, _, h, _⟩ => h rfl
theorem k_clt_t {n : Nat} {A C : Nat → Int32} (B : Nat → Int32) (h : k_clt n A C) : k_clt n A B ∨ k_clt n B C := by
  obtain ⟨i, h1, h2, h3, h4⟩ := h
  cases hx : xfnd (fun j => decide (¬ B j = A j)) (i + 1) with
  | none =>
    have hn : ∀ j, j < i + 1 → B j = A j := fun j hj => Decidable.not_not.mp (of_decide_eq_false (xfnd_n hx j hj))
    refine .inr ⟨i, h1, fun j hj => (hn j (by omega)).trans (h2 j hj), ?_, ?_⟩
    · rw [hn i (by omega)]; exact h3
    · rw [hn i (by omega)]; exact h4
  | some j =>
    obtain ⟨j1, j2, j3⟩ := xfnd_s hx
    have j2 := of_decide_eq_true j2
    have hn : ∀ q, q < j → B q = A q := fun q hq => Decidable.not_not.mp (of_decide_eq_false (j3 q hq))
    by_cases hA : A j = 0
    · have hji : j ≠ i := fun z => h4 (by rw [← z]; exact hA)
      refine .inr ⟨j, by omega, fun q hq => (hn q hq).trans (h2 q (by omega)), ?_, fun z => j2 (by rw [z, hA])⟩
      rw [← h2 j (by omega)]
      exact j2
    · exact .inl ⟨j, by omega, fun q hq => (hn q hq).symm, fun z => j2 z.symm, hA⟩
theorem k_lt_t {n : Nat} {a c : Nat × (Nat → Int32)} (b : Nat × (Nat → Int32)) (h : k_lt n a c) : k_lt n a b ∨ k_lt n b c := by
  rcases h with h | ⟨h, h2⟩
  · rcases Nat.lt_or_ge a.1 b.1 with h3 | h3
    · exact .inl (.inl h3)
    · exact .inr (.inl (by omega))
  · rcases Nat.lt_trichotomy a.1 b.1 with h3 | h3 | h3
    · exact .inl (.inl h3)
    · rcases k_clt_t b.2 h2 with h4 | h4
      · exact .inl (.inr ⟨h3, h4⟩)
      · exact .inr (.inr ⟨by omega, h4⟩)
    · exact .inr (.inl (by omega))
theorem k_lt_i (n : Nat) (a : Nat × (Nat → Int32)) : ¬ k_lt n a a := fun h => h.elim (fun z => Nat.lt_irrefl _ z) (fun z => k_clt_i n _ z.2)
theorem k_clt_c {n : Nat} {A B A' B' : Nat → Int32} (hA : ∀ i, i < n → A' i = A i) (hB : ∀ i, i < n → B' i = B i) (h : k_clt n A B) : k_clt n A' B' := by
  obtain ⟨i, h1, h2, h3, h4⟩ := h
  exact ⟨i, h1, fun j hj => by rw [hA j (by omega), hB j (by omega)]; exact h2 j hj, by rw [hA i h1, hB i h1]; exact h3, by rw [hA i h1]; exact h4⟩
theorem l_cf_k {V : xl_V} {n : Nat} : ¬ l_cf V n = 0 ↔ k_clt n (V.2.1 43) (V.2.1 44) := by
  unfold l_cf
  cases hx : xfnd (l_df V) n with
  | none =>
    refine ⟨fun z => absurd rfl z, fun ⟨i, h1, _, h3, _⟩ => ?_⟩
    exact absurd h3 (of_decide_eq_false (xfnd_n hx i h1))
  | some i =>
    obtain ⟨i1, i2, i3⟩ := xfnd_s hx
    have i2 : ¬ V.2.1 43 i = V.2.1 44 i := of_decide_eq_true i2
    have i4 : ∀ q, q < i → V.2.1 43 q = V.2.1 44 q := fun q hq => Decidable.not_not.mp (of_decide_eq_false (i3 q hq))
    refine ⟨fun z => ⟨i, i1, i4, i2, z⟩, fun ⟨j, h1, h2, h3, h4⟩ => ?_⟩
    rcases Nat.lt_trichotomy i j with h | h | h
    · exact absurd (h2 i h) i2
    · show ¬ V.2.1 43 i = 0
      rw [h]; exact h4
    · exact absurd (i4 j h) h3
def l_sm (ct : Nat → Nat) : List Nat → Nat
  | [] => 0
  | i :: D => ct i + l_sm ct D
theorem l_sm_e {ct : Nat → Nat} {i : Nat} : ∀ {D : List Nat}, i ∈ D → l_sm ct D = ct i + l_sm ct (D.erase i)
  | [], h => by cases h
  | j :: D, h => by
    by_cases e : j = i
    · subst e
      rw [List.erase_cons_head]
      rfl
    · rw [List.erase_cons_tail (by simpa using e)]
      have h1 : i ∈ D := by
        rcases List.mem_cons.mp h with z | z
        · exact absurd z.symm e
        · exact z
      have := l_sm_e (ct := ct) h1
      show ct j + l_sm ct D = ct i + (ct j + l_sm ct (D.erase i))
      omega
theorem l_sm_g {ct : Nat → Nat} : ∀ {D : List Nat}, (∀ i, i ∈ D → 100 ≤ ct i) → 100 * D.length ≤ l_sm ct D
  | [], _ => Nat.le_refl _
  | i :: D, h => by
    have h1 := l_sm_g (ct := ct) (D := D) (fun j hj => h j (List.mem_cons_of_mem _ hj))
    have h2 := h i List.mem_cons_self
    show 100 * (D.length + 1) ≤ ct i + l_sm ct D
    omega
/-- T and D together -/
def l_lu (T : Nat → Int32) (D : List Nat) (j : Nat) : Int32 := if j ∈ D then 1 else T j
theorem l_lu_n (T : Nat → Int32) : l_lu T [] = T := by funext j; unfold l_lu; rw [if_neg (by simp)]
theorem l_lu_e {T : Nat → Int32} {D : List Nat} {i : Nat} (hi : i ∈ D) : l_lu (upd T i 1) (D.erase i) = l_lu T D := by
  funext j
  unfold l_lu
  by_cases e : j = i
  · subst e
    rw [if_pos hi]
    split
    · rfl
    · exact pk_us
  · rw [pk_un e]
    by_cases h : j ∈ D
    · rw [if_pos h, if_pos ((List.mem_erase_of_ne e).mpr h)]
    · rw [if_neg h, if_neg (fun z => h (List.mem_of_mem_erase z))]
theorem l_lu_c {T : Nat → Int32} {D : List Nat} {i : Nat} : l_lu (upd T i 1) D = l_lu T (i :: D) := by
  funext j
  unfold l_lu
  by_cases h : j ∈ D
  · rw [if_pos h, if_pos (List.mem_cons_of_mem _ h)]
  · rw [if_neg h]
    by_cases e : j = i
    · subst e
      rw [pk_us, if_pos List.mem_cons_self]
    · rw [pk_un e, if_neg (fun z => (List.mem_cons.mp z).elim e h)]
/-- D completes T: it covers what is open and holds nothing that is barred or taken -/
def s_ok (n : Nat) (cv T bar : Nat → Int32) (op : Int32) (k : Nat) (D : List Nat) : Prop := D.Nodup ∧ D.length ≤ k ∧ (∀ i, i ∈ D → i < n ∧ bar i = 0 ∧ T i = 0) ∧ ∀ c, c < 32 → xbit op c = true → ∃ i, i ∈ D ∧ xbit (cv i) c = true
def s_post (n : Nat) (cv T bar : Nat → Int32) (ct : Nat → Nat) (op : Int32) (cost k : Nat) (b b' : Nat × (Nat → Int32)) : Prop :=
  ((b'.1 = b.1 ∧ ∀ i, i < n → b'.2 i = b.2 i) ∨ ∃ D, s_ok n cv T bar op k D ∧ b'.1 = cost + l_sm ct D ∧ ∀ i, i < n → b'.2 i = l_lu T D i) ∧ (∀ D, s_ok n cv T bar op k D → ¬ k_lt n (cost + l_sm ct D, l_lu T D) b') ∧ ¬ k_lt n b b'
/-- how many bits of x are set -/
def xpn (x : Int32) : Nat → Nat
  | 0 => 0
  | i + 1 => xpn x i + (if xbit x i = true then 1 else 0)
def xpc (x : Int32) : Nat := xpn x 32
theorem xpn_or {x y z : Int32} : ∀ n, (∀ i, i < n → xbit x i = true → xbit y i = true ∨ xbit z i = true) → xpn x n ≤ xpn y n + xpn z n
  | 0, _ => Nat.le_refl _
  | n + 1, h => by
    have h1 := xpn_or n (fun i hi => h i (by omega))
    have h2 := h n (by omega)
    show xpn x n + (if xbit x n = true then 1 else 0) ≤ xpn y n + (if xbit y n = true then 1 else 0) + (xpn z n + (if xbit z n = true then 1 else 0))
    by_cases hx : xbit x n = true
    · rw [if_pos hx]
      rcases h2 hx with h3 | h3
      · rw [if_pos h3]; split <;> omega
      · rw [if_pos h3]; split <;> omega
    · rw [if_neg hx]
      split <;> split <;> omega
theorem xpn_le (x : Int32) : ∀ n, xpn x n ≤ n
  | 0 => Nat.le_refl _
  | n + 1 => by
    have := xpn_le x n
    unfold xpn
    split <;> omega
theorem xpn_0 {x : Int32} : ∀ n, (∀ i, i < n → ¬ xbit x i = true) → xpn x n = 0
  | 0, _ => rfl
  | n + 1, h => by
    unfold xpn
    rw [xpn_0 n (fun i hi => h i (by omega)), if_neg (h n (by omega))]
/-- so many products are needed at least -/
theorem s_ok_w {cv : Nat → Int32} {w : Nat} : ∀ {D : List Nat} {op : Int32}, (∀ i, i ∈ D → xpc (cv i) ≤ w) → (∀ c, c < 32 → xbit op c = true → ∃ i, i ∈ D ∧ xbit (cv i) c = true) → xpc op ≤ w * D.length
  | [], op, _, h => by
    have : xpc op = 0 := xpn_0 32 (fun i hi hx => by obtain ⟨j, hj, -⟩ := h i hi hx; cases hj)
    omega
  | i :: D, op, hw, h => by
    have h1 := s_ok_w (cv := cv) (w := w) (D := D) (op := op &&& (cv i ^^^ (-1))) (fun j hj => hw j (List.mem_cons_of_mem _ hj)) (fun c hc hx => by
      rw [xbit_and, xbit_xor, xbit_m c hc, Bool.xor_true, Bool.and_eq_true] at hx
      obtain ⟨j, hj, hb⟩ := h c hc hx.1
      rcases List.mem_cons.mp hj with z | z
      · rw [z] at hb
        rw [hb] at hx
        exact absurd hx.2 (by decide)
      · exact ⟨j, z, hb⟩)
    have h2 : xpc op ≤ xpc (cv i) + xpc (op &&& (cv i ^^^ (-1))) := xpn_or 32 (fun c hc hx => by
      rw [xbit_and, xbit_xor, xbit_m c hc, Bool.xor_true, hx]
      cases xbit (cv i) c
      · exact .inr rfl
      · exact .inl rfl)
    have h3 := hw i List.mem_cons_self
    show xpc op ≤ w * (D.length + 1)
    rw [Nat.mul_add]
    omega
end XSum2
