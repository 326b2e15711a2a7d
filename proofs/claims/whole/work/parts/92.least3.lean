/-! The class's list of primes and its best, as lists. -/
section XLeast3
variable {sp : Nat → Int32} {sg : Nat} {on off : Int32}
theorem l_cp_m : ∀ p q, q < p → l_co sp on off sg q → q ∈ l_cp sp on off sg p
  | 0, q, h, _ => absurd h (Nat.not_lt_zero q)
  | p + 1, q, h, hc => by
    by_cases e : q = p
    · subst e
      rw [l_cp, if_pos hc]
      exact List.mem_append_right _ (List.mem_singleton.mpr rfl)
    · have := l_cp_m p q (by omega) hc
      rw [l_cp]
      split
      · exact List.mem_append_left _ this
      · exact this
theorem l_cp_s : ∀ p, (l_cp sp on off sg p).Pairwise (· < ·)
  | 0 => List.Pairwise.nil
  | p + 1 => by
    have ih := l_cp_s p
    rw [l_cp]
    split
    · rw [List.pairwise_append]
      refine ⟨ih, List.pairwise_singleton _ _, fun a ha b hb => ?_⟩
      rw [List.mem_singleton.mp hb]
      exact (l_cp_lt sp on off sg p a ha).1
    · exact ih
theorem l_bp_m {pn : Nat → Nat} {bs : Nat → Int32} {p : Nat} : ∀ n, p ∈ l_bp pn bs n ↔ ∃ i, i < n ∧ ¬ bs i = 0 ∧ pn i = p
  | 0 => ⟨fun h => (by cases h), fun ⟨i, hi, _⟩ => absurd hi (Nat.not_lt_zero i)⟩
  | n + 1 => by
    have ih := l_bp_m (pn := pn) (bs := bs) (p := p) n
    rw [l_bp]
    split
    · rename_i hb
      rw [ih]
      constructor
      · rintro ⟨i, h1, h2, h3⟩
        exact ⟨i, by omega, h2, h3⟩
      · rintro ⟨i, h1, h2, h3⟩
        exact ⟨i, by rcases Nat.lt_or_ge i n with z | z; exact z; exact absurd hb (by rw [show n = i by omega]; exact h2), h2, h3⟩
    · rename_i hb
      rw [List.mem_append, List.mem_singleton, ih]
      constructor
      · rintro (⟨i, h1, h2, h3⟩ | h)
        · exact ⟨i, by omega, h2, h3⟩
        · exact ⟨n, by omega, hb, h.symm⟩
      · rintro ⟨i, h1, h2, h3⟩
        rcases Nat.lt_or_ge i n with z | z
        · exact .inl ⟨i, z, h2, h3⟩
        · rw [show i = n by omega] at h3
          exact .inr h3.symm
theorem l_bp_s {pn : Nat → Nat} {bs : Nat → Int32} : ∀ n, (∀ i j, i < j → j < n → pn i < pn j) → (l_bp pn bs n).Pairwise (· < ·)
  | 0, _ => List.Pairwise.nil
  | n + 1, h => by
    have ih := l_bp_s (pn := pn) (bs := bs) n (fun i j hij hj => h i j hij (by omega))
    rw [l_bp]
    split
    · exact ih
    · rw [List.pairwise_append]
      refine ⟨ih, List.pairwise_singleton _ _, fun a ha b hb => ?_⟩
      obtain ⟨i, h1, h2, h3⟩ := (l_bp_m n).mp ha
      rw [List.mem_singleton.mp hb, ← h3]
      exact h i n h1 (by omega)
theorem l_pn_s {L : List Nat} (h : L.Pairwise (· < ·)) {i j : Nat} (hij : i < j) (hj : j < L.length) : l_pn L i < l_pn L j := by
  unfold l_pn
  rw [List.getElem?_eq_getElem (show i < L.length by omega), List.getElem?_eq_getElem hj]
  exact List.pairwise_iff_getElem.mp h i j (by omega) hj hij
/-- what the class calls prime is so -/
theorem l_ip_p {p : Nat} (h5 : sg ≤ 5) (hp : p < 3 ^ sg) (hsp : ∀ q, q < 3 ^ sg → sp q = p_cv sg q) : ¬ l_ip sp off sg p = 0 ↔ p_pr sg off p := by
  unfold l_ip p_pr
  rw [hsp p hp]
  by_cases h0 : p_cv sg p &&& off = 0
  · rw [if_pos h0]
    cases hx : xfnd (l_ip1 sp off p) sg with
    | none =>
      refine ⟨fun _ => ⟨h0, fun s hs hw => ?_⟩, fun _ => by show ¬ (1 : Int32) = 0; decide⟩
      have := of_decide_eq_false (xfnd_n hx s hs)
      exact this ⟨hw.1, by rw [hsp _ (xdg_w2 h5 hp hs hw.1)]; exact hw.2⟩
    | some s =>
      obtain ⟨s1, s2, -⟩ := xfnd_s hx
      have s2 : m_wd sp off p s := of_decide_eq_true s2
      refine ⟨fun z => absurd rfl z, fun z => absurd ⟨s2.1, ?_⟩ (z.2 s s1)⟩
      have := s2.2
      rw [hsp _ (xdg_w2 h5 hp s1 s2.1)] at this
      exact this
  · rw [if_neg h0]
    exact ⟨fun z => absurd rfl z, fun z => absurd z.1 h0⟩
theorem l_sm_d {L : List Nat} : ∀ (D : List Nat), (∀ i, i ∈ D → i < L.length) → l_sm (l_ct sg L) D = 100 * D.length + l_dg sg (D.map (l_pn L))
  | [], _ => rfl
  | i :: D, h => by
    have ih := l_sm_d D (fun j hj => h j (List.mem_cons_of_mem _ hj))
    show l_ct sg L i + l_sm (l_ct sg L) D = 100 * (D.length + 1) + (xdt (l_pn L i) sg + l_dg sg (D.map (l_pn L)))
    rw [ih]
    unfold l_ct l_pn
    omega
end XLeast3
