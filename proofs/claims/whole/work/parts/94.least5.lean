/-! Nothing asked: no products. What a product covers, code by code. -/
section XLeast5
variable {sp : Nat → Int32} {sg : Nat} {on off : Int32}
theorem l_bp_0 {pn : Nat → Nat} {bs : Nat → Int32} : ∀ n, (∀ i, i < n → bs i = 0) → l_bp pn bs n = []
  | 0, _ => rfl
  | n + 1, h => by
    rw [l_bp, if_pos (h n (by omega))]
    exact l_bp_0 n (fun i hi => h i (by omega))
theorem k_lr_0 {r b' : Nat} {lr lk : List Nat} (hr : p_lr sg on off r lr) (h0 : on = 0) (hk : k_lr sg sp on off b' lk) : r = 0 ∧ lr = [] ∧ b' = 0 ∧ lk = [] := by
  rcases hr with ⟨-, r1, r2⟩ | ⟨z, -⟩
  · obtain ⟨L, cv, T, bar, B, B', hL, hcv, ⟨s1, s2, s3⟩, hlk⟩ := hk
    have hL0 : L = [] := by
      cases L with
      | nil => rfl
      | cons p L =>
        have hp : p ∈ l_cp sp on off sg (3 ^ sg) := by rw [← hL]; exact List.mem_cons_self
        have := (l_cp_lt sp on off sg _ p hp).2.1
        refine absurd (xbit_ext (fun i hi => ?_)) this
        rw [h0, xbit_and, xbit_0, Bool.and_false]
    have h1 := s2 [] ⟨List.nodup_nil, Nat.zero_le _, fun i hi => (by cases hi), fun c hc hx => (by rw [h0, xbit_0] at hx; cases hx)⟩
    have hb : b' = 0 := by
      rcases Nat.eq_zero_or_pos b' with z | z
      · exact z
      · exact absurd (.inl z) h1
    refine ⟨r1, r2, hb, ?_⟩
    rw [hlk, hL0]
    rfl
  · exact absurd h0 z
/-- bit c of what p covers -/
theorem m_tc_b {p : Nat} : ∀ n, n ≤ 32 → ∀ c, c < 32 → (xbit (m_tc sg p n) c = true ↔ c < n ∧ ¬ m_cv sg p (nI c) = 0)
  | 0, _, c, _ => by
    show xbit 0 c = true ↔ _
    rw [xbit_0]
    exact ⟨fun z => (by cases z), fun z => absurd z.1 (Nat.not_lt_zero c)⟩
  | n + 1, hn, c, hc => by
    have ih := m_tc_b (p := p) n (by omega) c hc
    rw [m_tc]
    split
    · rename_i h
      rw [ih]
      constructor
      · rintro ⟨a, b⟩
        exact ⟨by omega, b⟩
      · rintro ⟨a, b⟩
        refine ⟨?_, b⟩
        rcases Nat.lt_or_ge c n with z | z
        · exact z
        · rw [show c = n by omega] at b
          exact absurd h b
    · rename_i h
      rw [xbit_or, xbit_1 n (by omega) c hc, Bool.or_eq_true, ih, decide_eq_true_iff]
      constructor
      · rintro (⟨a, b⟩ | a)
        · exact ⟨by omega, b⟩
        · rw [a]; exact ⟨by omega, h⟩
      · rintro ⟨a, b⟩
        rcases Nat.lt_or_ge c n with z | z
        · exact .inl ⟨z, b⟩
        · exact .inr (by omega)
theorem p_cv_b {p : Nat} (h5 : sg ≤ 5) {c : Nat} (hc : c < 2 ^ sg) : xbit (p_cv sg p) c = true ↔ ¬ m_cv sg p (nI c) = 0 := by
  have h2 := (x2 sg h5).2
  unfold p_cv
  rw [m_tc_b _ h2 c (by omega)]
  exact ⟨fun z => z.2, fun z => ⟨hc, z⟩⟩
/-- the value of a sum is the bit of what its products cover together -/
theorem m_vl_b (h5 : sg ≤ 5) {c : Nat} (hc : c < 2 ^ sg) : ∀ l : List Nat, (¬ m_vl sg (nI c) l = 0 ↔ ∃ p, p ∈ l ∧ xbit (p_cv sg p) c = true)
  | [] => ⟨fun z => absurd rfl z, fun ⟨p, hp, _⟩ => (by cases hp)⟩
  | p :: l => by
    have ih := m_vl_b h5 hc l
    rw [m_vl]
    split
    · rename_i h
      rw [ih]
      constructor
      · rintro ⟨q, q1, q2⟩
        exact ⟨q, List.mem_cons_of_mem _ q1, q2⟩
      · rintro ⟨q, q1, q2⟩
        rcases List.mem_cons.mp q1 with z | z
        · rw [z] at q2
          exact absurd h ((p_cv_b h5 hc).mp q2)
        · exact ⟨q, z, q2⟩
    · rename_i h
      exact ⟨fun _ => ⟨p, List.mem_cons_self, (p_cv_b h5 hc).mpr h⟩, fun _ => by decide⟩
theorem l_os_b {sp : Nat → Int32} (c : Nat) : ∀ (l : List Nat) (a : Int32), (xbit (l.foldl (fun a p => a ||| sp p) a) c = true ↔ xbit a c = true ∨ ∃ p, p ∈ l ∧ xbit (sp p) c = true)
  | [], a => ⟨.inl, fun h => h.elim id (fun ⟨p, hp, _⟩ => (by cases hp))⟩
  | p :: l, a => by
    show xbit (l.foldl (fun a p => a ||| sp p) (a ||| sp p)) c = true ↔ _
    rw [l_os_b c l, xbit_or, Bool.or_eq_true]
    constructor
    · rintro ((h | h) | ⟨q, q1, q2⟩)
      · exact .inl h
      · exact .inr ⟨p, List.mem_cons_self, h⟩
      · exact .inr ⟨q, List.mem_cons_of_mem _ q1, q2⟩
    · rintro (h | ⟨q, q1, q2⟩)
      · exact .inl (.inl h)
      · rcases List.mem_cons.mp q1 with z | z
        · rw [z] at q2; exact .inl (.inr q2)
        · exact .inr ⟨q, z, q2⟩
theorem m_vl_01 (sg : Nat) (cd : Int32) : ∀ l : List Nat, m_vl sg cd l = 0 ∨ m_vl sg cd l = 1
  | [] => .inl rfl
  | p :: l => by
    rw [m_vl]
    split
    · exact m_vl_01 sg cd l
    · exact .inr rfl
/-- the class's gate and the reference's sum have one value -/
theorem m_vl_u {sp : Nat → Int32} (h5 : sg ≤ 5) {c : Nat} (hc : c < 2 ^ sg) {l : List Nat} (hl : ∀ p, p ∈ l → sp p = p_cv sg p) : m_vl sg (nI c) l = xub (l_os sp l) c := by
  have h2 := (x2 sg h5).2
  have h1 := m_vl_b h5 hc l
  have h3 := l_os_b (sp := sp) c l 0
  rw [xub_b _ (by omega)]
  by_cases h : ∃ p, p ∈ l ∧ xbit (p_cv sg p) c = true
  · have e : xbit (l_os sp l) c = true := h3.mpr (.inr (by obtain ⟨p, p1, p2⟩ := h; exact ⟨p, p1, by rw [hl p p1]; exact p2⟩))
    rw [if_pos e]
    exact (m_vl_01 sg _ l).resolve_left (h1.mpr h)
  · have e : ¬ xbit (l_os sp l) c = true := fun z => by
      rcases h3.mp z with y | ⟨p, p1, p2⟩
      · rw [xbit_0] at y; cases y
      · exact h ⟨p, p1, by rw [← hl p p1]; exact p2⟩
    rw [if_neg e]
    rcases m_vl_01 sg (nI c) l with z | z
    · exact z
    · exact absurd (h1.mp (by rw [z]; decide)) h
theorem ga_ou_u {V : xl_V} {g c : Nat} : ga_ou V g (nI c) = xub (V.1 g 2) c := rfl
end XLeast5
