/-! The reference's sum is the least of all covers by primes. -/
section XLeast2
variable {sg : Nat} {on off : Int32}
theorem l_lt_i (a : List Nat) : ¬ l_lt a a := fun ⟨j, x, z, _, h2, h3, h4⟩ => by
  rw [h2] at h3
  have := Option.some.inj h3
  omega
theorem l_lt_as {a b : List Nat} (h : l_lt a b) (h' : l_lt b a) : False := by
  obtain ⟨j, x, z, h1, h2, h3, h4⟩ := h
  obtain ⟨i, u, v, g1, g2, g3, g4⟩ := h'
  rcases Nat.lt_trichotomy i j with w | w | w
  · have := h1 i w
    rw [g2, g3] at this
    have := Option.some.inj this
    omega
  · subst w
    rw [h2] at g3
    rw [h3] at g2
    have := Option.some.inj g3
    have := Option.some.inj g2
    omega
  · have := g1 j w
    rw [h2, h3] at this
    have := Option.some.inj this
    omega
theorem l_kl_i (b : Nat × List Nat) : ¬ l_kl b b := fun h => h.elim (fun z => Nat.lt_irrefl _ z) (fun z => l_lt_i _ z.2)
theorem l_kl_as {a b : Nat × List Nat} (h : l_kl a b) (h' : l_kl b a) : False := by
  rcases h with h | h
  · rcases h' with g | g
    · omega
    · have := g.1; omega
  · rcases h' with g | g
    · have := h.1; omega
    · exact l_lt_as h.2 g.2
theorem l_kl_t {a c : Nat × List Nat} (b : Nat × List Nat) (hb : b.2.length = a.2.length) (hc : c.2.length = a.2.length) (h : l_kl a c) : l_kl a b ∨ l_kl b c := by
  rcases h with h | ⟨h, h2⟩
  · rcases Nat.lt_or_ge a.1 b.1 with w | w
    · exact .inl (.inl w)
    · exact .inr (.inl (by omega))
  · rcases Nat.lt_trichotomy a.1 b.1 with w | w | w
    · exact .inl (.inl w)
    · rcases l_lt_t hb hc h2 with z | z
      · exact .inl (.inr ⟨w, z⟩)
      · exact .inr (.inr ⟨by omega, z⟩)
    · exact .inr (.inl (by omega))
theorem l_k_u {L : List Nat} {a b : Nat × List Nat} (h : l_k sg L a) (h' : l_k sg L b) : a = b := Prod.ext (h.1.trans h'.1.symm) (l_sorted_u (h.2.1.trans h'.2.1.symm) h.2.2 h'.2.2)
theorem l_fo_min {n : Nat} : ∀ (Ls : List (List Nat)) (B B' : Option (Nat × List Nat)), l_fo sg B Ls B' → (∀ L, L ∈ Ls → L.length = n) → (∀ b, B = some b → b.2.length = n) →
    (∀ b, B' = some b → b.2.length = n) ∧ (B' = B ∨ ∃ L b, L ∈ Ls ∧ B' = some b ∧ l_k sg L b) ∧ (∀ L b0, L ∈ Ls → l_k sg L b0 → ∃ b, B' = some b ∧ ¬ l_kl b0 b) ∧ ∀ b0, B = some b0 → ∃ b, B' = some b ∧ ¬ l_kl b0 b
  | [], B, B', h, _, hB => by
    have h : B' = B := h
    subst h
    exact ⟨hB, .inl rfl, fun L b0 hL => (by cases hL), fun b0 hb => ⟨b0, hb, l_kl_i b0⟩⟩
  | L :: Ls, B, B', h, hn, hB => by
    obtain ⟨B1, ⟨b, hb, hu⟩, h2⟩ := h
    have hbl : b.2.length = n := hb.2.1.length_eq.trans (hn L List.mem_cons_self)
    have hB1 : ∀ b1, B1 = some b1 → b1.2.length = n := fun b1 e => by
      rcases hu with ⟨u1, -⟩ | ⟨u1, -⟩
      · rw [u1] at e
        rw [← Option.some.inj e]
        exact hbl
      · rw [u1] at e
        exact hB b1 e
    obtain ⟨i1, i2, i3, i4⟩ := l_fo_min Ls B1 B' h2 (fun M hM => hn M (List.mem_cons_of_mem _ hM)) hB1
    refine ⟨i1, ?_, fun M b0 hM hk => ?_, fun b0 e => ?_⟩
    · rcases i2 with e | ⟨M, bM, m1, m2, m3⟩
      · rcases hu with ⟨u1, -⟩ | ⟨u1, -⟩
        · exact .inr ⟨L, b, List.mem_cons_self, e.trans u1, hb⟩
        · exact .inl (e.trans u1)
      · exact .inr ⟨M, bM, List.mem_cons_of_mem _ m1, m2, m3⟩
    · rcases List.mem_cons.mp hM with z | z
      · rw [z] at hk
        have e0 := l_k_u hk hb
        subst e0
        rcases hu with ⟨u1, -⟩ | ⟨u1, bB, u2, u3⟩
        · exact i4 b0 u1
        · obtain ⟨b', b1, b2⟩ := i4 bB (u1.trans u2)
          refine ⟨b', b1, fun w => ?_⟩
          rcases l_kl_t bB (by rw [hB bB u2, hbl]) (by rw [i1 b' b1, hbl]) w with y | y
          · exact u3 y
          · exact b2 y
      · exact i3 M b0 z hk
    · rcases hu with ⟨u1, u2⟩ | ⟨u1, -⟩
      · have hlt := u2 b0 e
        obtain ⟨b', b1, b2⟩ := i4 b u1
        refine ⟨b', b1, fun w => ?_⟩
        rcases l_kl_t b (by rw [hbl, hB b0 e]) (by rw [i1 b' b1, hB b0 e]) w with y | y
        · exact l_kl_as y hlt
        · exact b2 y
      · exact i4 b0 (u1.trans e)
/-- C covers by primes what is asked -/
def p_cov (sg : Nat) (on off : Int32) (C : List Nat) : Prop := (∀ p, p ∈ C → p < 3 ^ sg ∧ p_pr sg off p) ∧ ∀ c, c < 32 → xbit on c = true → ∃ p, p ∈ C ∧ xbit (p_cv sg p) c = true
theorem p_lr_min {r : Nat} {l : List Nat} (h : p_lr sg on off r l) (h0 : ¬ on = 0) : (∀ C, p_cov sg on off C → r ≤ C.length) ∧ (r ≤ 8 → l.length = r ∧ l.Nodup ∧ l.Pairwise (· ≤ ·) ∧ p_cov sg on off l ∧ ∀ C s, p_cov sg on off C → C.length = r → s.Perm C → s.Pairwise (· ≤ ·) → ¬ l_kl (l_dg sg C, s) (l_dg sg l, l)) := by
  rcases h with ⟨z, -, -⟩ | ⟨-, hmin, h⟩
  · exact absurd z h0
  have key : ∀ C, p_cov sg on off C → ∃ L R, p_ch sg on off 0 L ∧ (L ++ R).Perm C := fun C hC => p_ch_of _ C 0 rfl hC.1 (fun c hc hx => .inr (hC.2 c hc hx))
  have hle : ∀ C, p_cov sg on off C → r ≤ C.length := fun C hC => by
    obtain ⟨L, R, h1, h2⟩ := key C hC
    have := hmin L h1
    have := h2.length_eq
    rw [List.length_append] at this
    omega
  refine ⟨hle, fun hr => ?_⟩
  rcases h with h | ⟨h1, h8, g, Ls, hfo, hLs⟩
  · omega
  have hlen : ∀ L, L ∈ Ls → L.length = r := fun L hL => by
    have := (hLs L).mp hL
    have := hmin L this.1
    omega
  obtain ⟨i1, i2, i3, -⟩ := l_fo_min Ls none (some (g, l)) hfo hlen (fun b hb => by cases hb)
  rcases i2 with e | ⟨L0, b, m1, m2, m3⟩
  · cases e
  have m2 := Option.some.inj m2
  subst m2
  obtain ⟨k1, k2, k3⟩ := m3
  have k1 : g = l_dg sg L0 := k1
  have k2 : l.Perm L0 := k2
  have k3 : l.Pairwise (· ≤ ·) := k3
  obtain ⟨c1, c2, c3⟩ := p_ch_cov L0 0 ((hLs L0).mp m1).1
  refine ⟨k2.length_eq.trans (hlen L0 m1), k2.nodup_iff.mpr c2, k3, ⟨fun p hp => ?_, fun c hc hx => ?_⟩, fun C s hC hCr hs hss hk => ?_⟩
  · have := c1 p (k2.mem_iff.mp hp)
    exact ⟨this.1, this.2.1⟩
  · rcases c3 c hc hx with z | ⟨p, p1, p2⟩
    · rw [xbit_0] at z; cases z
    · exact ⟨p, k2.mem_iff.mpr p1, p2⟩
  · obtain ⟨L, R, h1', h2'⟩ := key C hC
    have e1 := hmin L h1'
    have e2 := h2'.length_eq
    rw [List.length_append] at e2
    have eR : R = [] := List.eq_nil_of_length_eq_zero (by omega)
    subst eR
    rw [List.append_nil] at h2'
    have e2 : L.length = C.length := h2'.length_eq
    obtain ⟨b, b1, b2⟩ := i3 L (l_dg sg L, s) ((hLs L).mpr ⟨h1', by omega⟩) ⟨rfl, hs.trans h2'.symm, hss⟩
    have b1 := Option.some.inj b1
    subst b1
    rw [← l_dg_p h2', l_dg_p k2, ← k1] at hk
    exact b2 hk
end XLeast2
