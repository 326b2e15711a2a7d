/-! The reference: judging a cover. -/
section XModel8
variable {S : Nat × (Nat → Int32)} {V : xl_V} {d : Nat}
/-- the array holds the list from its beginning on -/
def l_ar (f : Nat → Int32) (s : List Nat) : Prop := ∀ q a, s[q]? = some a → f q = nI a
def l_dg (sg : Nat) : List Nat → Nat
  | [] => 0
  | p :: l => xdt p sg + l_dg sg l
theorem l_dg_a (sg : Nat) : ∀ (a b : List Nat), l_dg sg (a ++ b) = l_dg sg a + l_dg sg b
  | [], b => by simp [l_dg]
  | p :: a, b => by
    show xdt p sg + l_dg sg (a ++ b) = xdt p sg + l_dg sg a + l_dg sg b
    rw [l_dg_a sg a b]
    omega
theorem l_dg_le (sg : Nat) : ∀ (a : List Nat), l_dg sg a ≤ sg * a.length
  | [] => Nat.zero_le _
  | p :: a => by
    have h1 := l_dg_le sg a
    have h2 := xdt_le p sg
    show xdt p sg + l_dg sg a ≤ sg * (a.length + 1)
    rw [Nat.mul_add]
    omega
def l_lt (a b : List Nat) : Prop := ∃ j x z : Nat, (∀ i, i < j → a[i]? = b[i]?) ∧ a[j]? = some x ∧ b[j]? = some z ∧ x < z
/-- the best so far: digits and products in ascending order -/
def m_rc (W : xl_V) (n : Nat) : Option (Nat × List Nat) → Prop
  | none => W.1 47 26 = 0
  | some (g, l) => W.1 47 26 = 1 ∧ W.1 47 25 = nI g ∧ g < 5000 ∧ l.length = n ∧ (∀ p, p ∈ l → p < 243) ∧ l_ar (W.2.1 64) l
def l_k (sg : Nat) (L : List Nat) (b : Nat × List Nat) : Prop := b.1 = l_dg sg L ∧ b.2.Perm L ∧ b.2.Pairwise (· ≤ ·)
def l_kl (a b : Nat × List Nat) : Prop := a.1 < b.1 ∨ a.1 = b.1 ∧ l_lt a.2 b.2
def m_up (sg : Nat) (L : List Nat) (B B' : Option (Nat × List Nat)) : Prop := ∃ b, l_k sg L b ∧ ((B' = some b ∧ ∀ b0, B = some b0 → l_kl b b0) ∨ (B' = B ∧ ∃ b0, B = some b0 ∧ ¬ l_kl b b0))
def m_jf (V W : xl_V) : Prop := (∀ b j, ¬ (b = 47 ∧ (j = 25 ∨ j = 26)) → W.1 b j = V.1 b j) ∧ (∀ a, a ≠ 63 → a ≠ 64 → W.2.1 a = V.2.1 a) ∧ W.2.2 = V.2.2
theorem l_ins {f : Nat → Int32} {s : List Nat} {j x : Nat} (hj : j ≤ s.length) (h1 : ∀ q a, q < j → s[q]? = some a → f q = nI a) (h2 : ∀ q a, j ≤ q → s[q]? = some a → f (q + 1) = nI a) : l_ar (upd f j (nI x)) (s.take j ++ x :: s.drop j) := by
  intro q a ha
  have hl : (s.take j).length = j := by rw [List.length_take]; omega
  rcases Nat.lt_or_ge q j with h | h
  · rw [List.getElem?_append_left (by omega), List.getElem?_take_of_lt h] at ha
    rw [pk_un (by omega)]
    exact h1 q a h ha
  · rw [List.getElem?_append_right (by omega), hl] at ha
    rcases Nat.eq_or_lt_of_le h with h | h
    · rw [show q - j = 0 by omega] at ha
      have : x = a := Option.some.inj ha
      rw [← h, pk_us, this]
    · rw [show q - j = (q - 1 - j) + 1 by omega, List.getElem?_cons_succ, List.getElem?_drop, show j + (q - 1 - j) = q - 1 by omega] at ha
      have := h2 (q - 1) a (by omega) ha
      rw [show q - 1 + 1 = q by omega] at this
      rw [pk_un (by omega)]
      exact this
theorem l_ins_p {s : List Nat} {j x : Nat} : (s.take j ++ x :: s.drop j).Perm (x :: s) := by
  have h : (x :: (s.take j ++ s.drop j)).Perm (x :: s) := by rw [List.take_append_drop]
  exact List.perm_middle.trans h
theorem l_ins_s {s : List Nat} {j x : Nat} (hs : s.Pairwise (· ≤ ·)) (h1 : ∀ q a, q < j → s[q]? = some a → a ≤ x) (h2 : ∀ q a, j ≤ q → s[q]? = some a → x ≤ a) : (s.take j ++ x :: s.drop j).Pairwise (· ≤ ·) := by
  have g1 : ∀ a, a ∈ s.take j → a ≤ x := fun a ha => by
    obtain ⟨q, hq⟩ := List.getElem?_of_mem ha
    by_cases h : q < j
    · rw [List.getElem?_take_of_lt h] at hq
      exact h1 q a h hq
    · rw [List.getElem?_eq_none (by rw [List.length_take]; omega)] at hq
      cases hq
  have g2 : ∀ a, a ∈ s.drop j → x ≤ a := fun a ha => by
    obtain ⟨q, hq⟩ := List.getElem?_of_mem ha
    rw [List.getElem?_drop] at hq
    exact h2 (j + q) a (by omega) hq
  have hs' : (s.take j ++ s.drop j).Pairwise (· ≤ ·) := by rw [List.take_append_drop]; exact hs
  rw [List.pairwise_append] at hs'
  rw [List.pairwise_append, List.pairwise_cons]
  refine ⟨hs'.1, ⟨g2, hs'.2.1⟩, fun a ha b hb => ?_⟩
  rcases List.mem_cons.mp hb with h | h
  · rw [h]; exact g1 a ha
  · exact Nat.le_trans (g1 a ha) (g2 b h)
theorem t_M_judge {n sg : Nat} {L : List Nat} {B : Option (Nat × List Nat)} {Q : xa_Q} (hL : L.length = n) (h1 : 1 ≤ n) (h8 : n ≤ 8) (hch : l_ar (V.2.1 61) L) (h243 : ∀ p, p ∈ L → p < 243) (hs : V.1 47 1 = nI sg) (h5 : sg ≤ 5) (hB : m_rc V n B)
    (kk : ∀ W B', m_jf V W → m_up sg L B B' → m_rc W n B' → Q (.inl none) (xl_H xlay W)) :
    xX S (d + 2) 140 0 (xa_ent 5 [.ref 47, .int (nI n)]) [] V 0 0 Q := by
  have tail : ∀ s f l3 l4, s.Perm L → s.Pairwise (· ≤ ·) → l_ar f s → xX S (d + 2) 140 89 [.ref 47, .int (nI n), .int (nI (l_dg sg L)), l3, l4] [] (xl_a V 63 f) 0 0 Q := by
    intro s f l3 l4 sp ss sf
    have hsl : s.length = n := sp.length_eq.trans hL
    have hg : l_dg sg L < 5000 := by
      have := l_dg_le sg L
      rw [hL] at this
      have : sg * n ≤ 5 * 8 := Nat.mul_le_mul h5 h8
      omega
    have hs2 : ∀ p, p ∈ s → p < 243 := fun p hp => h243 p (sp.mem_iff.mp hp)
    have hlk : l_k sg L (l_dg sg L, s) := ⟨rfl, sp, ss⟩
    have keep : ∀ b0, B = some b0 → ¬ l_kl (l_dg sg L, s) b0 → ∀ l3 l4, xX S (d + 2) 140 225 [.ref 47, .int (nI n), .int (nI (l_dg sg L)), l3, l4] [] (xl_a V 63 f) 0 0 Q := by
      intro b0 hb hk l3 l4
      refine xx_vret e_M_judge_225 rfl ?_
      refine kk _ B ⟨fun _ _ _ => rfl, fun a h3 _ => xa_up_n _ _ h3, rfl⟩ ⟨_, hlk, .inr ⟨rfl, b0, hb, hk⟩⟩ ?_
      rw [hb] at hB ⊢
      exact hB
    have copy : (∀ b0, B = some b0 → l_kl (l_dg sg L, s) b0) → ∀ m k, n - k = m → k ≤ n → ∀ h : Nat → Int32, (∀ q a, q < k → s[q]? = some a → h q = nI a) → ∀ l3, xX S (d + 2) 140 199 [.ref 47, .int (nI n), .int (nI (l_dg sg L)), l3, .int (nI k)] [] (xl_a (xl_i (xl_i (xl_a V 63 f) 47 26 1) 47 25 (nI (l_dg sg L))) 64 h) 0 0 Q := by
      intro hlt m
      induction m using Nat.strongRecOn with
      | ind m ih =>
        intro k hm hk h hh l3
        refine xx_iload e_M_judge_199 rfl ?_
        refine xx_iload_n e_M_judge_201 rfl rfl ?_
        refine xx_icmp_ge e_M_judge_202 (fun q => ?_) (fun q => ?_)
        · have e1 : n ≤ k := (xle rfl rfl (by omega) (by omega)).mp q
          refine xx_vret e_M_judge_225 rfl ?_
          refine kk _ (some (l_dg sg L, s)) ⟨fun b j hb => ?_, fun a h3 h4 => ?_, rfl⟩ ⟨_, hlk, .inl ⟨rfl, hlt⟩⟩ ⟨rfl, rfl, hg, hsl, hs2, fun q a ha => ?_⟩
          · show (if b = 47 ∧ j = 25 then _ else if b = 47 ∧ j = 26 then _ else V.1 b j) = _
            rw [if_neg (fun z => hb ⟨z.1, .inl z.2⟩), if_neg (fun z => hb ⟨z.1, .inr z.2⟩)]
          · show xa_up (xa_up V.2.1 63 f) 64 h a = _
            rw [xa_up_n _ _ h4, xa_up_n _ _ h3]
          · show h q = _
            have : q < s.length := by
              rcases Nat.lt_or_ge q s.length with z | z
              · exact z
              · rw [List.getElem?_eq_none z] at ha; cases ha
            exact hh q a (by omega) ha
        · have e1 : k < n := Nat.lt_of_not_le (fun z => q ((xle rfl rfl (by omega) (by omega)).mpr z))
          refine xx_aload_n e_M_judge_205 rfl rfl ?_
          refine xh_getR e_M_judge_206 fg_M_66 rfl rfl ?_
          refine xx_iload e_M_judge_209 rfl ?_
          refine xx_aload_n e_M_judge_211 rfl rfl ?_
          refine xh_getR e_M_judge_212 fg_M_63 rfl rfl ?_
          refine xx_iload e_M_judge_215 rfl ?_
          refine xh_ialN e_M_judge_217 rfl (by omega) ?_
          refine xh_iasN e_M_judge_218 rfl (by omega) ?_
          refine xh_incN e_M_judge_219 rfl ?_
          refine xx_goto e_M_judge_222 ?_
          rw [xl_aa, show (xl_a (xl_i (xl_i (xl_a V 63 f) 47 26 1) 47 25 (nI (l_dg sg L))) 64 h).2.1 64 = h from xl_a_s _ _ _, show (xl_a (xl_i (xl_i (xl_a V 63 f) 47 26 1) 47 25 (nI (l_dg sg L))) 64 h).2.1 63 = f from rfl]
          refine ih (n - (k + 1)) (by omega) (k + 1) rfl (by omega) _ (fun q a hq ha => ?_) _
          by_cases e : q = k
          · rw [e] at ha ⊢
            rw [pk_us]
            exact sf k a ha
          · rw [pk_un e]
            exact hh q a (by omega) ha
    have set : (∀ b0, B = some b0 → l_kl (l_dg sg L, s) b0) → ∀ l3 l4, xX S (d + 2) 140 186 [.ref 47, .int (nI n), .int (nI (l_dg sg L)), l3, l4] [] (xl_a V 63 f) 0 0 Q := by
      intro hlt l3 l4
      refine xx_aload_n e_M_judge_186 rfl rfl ?_
      refine xx_iconst (v := 1) e_M_judge_187 (by decide) ?_
      refine xh_put e_M_judge_188 fp_M_161 rfl rfl ⟨rfl, rfl⟩ ?_
      refine xx_aload_n e_M_judge_191 rfl rfl ?_
      refine xx_iload_n e_M_judge_192 rfl rfl ?_
      refine xh_put e_M_judge_193 fp_M_165 rfl rfl ⟨rfl, rfl⟩ ?_
      refine xx_iconst (v := 0) e_M_judge_196 (by decide) ?_
      refine xx_istore e_M_judge_197 rfl ?_
      have hc := copy hlt _ 0 rfl (Nat.zero_le _) (V.2.1 64) (fun q a hq => absurd hq (Nat.not_lt_zero q)) l3
      rw [show xl_a (xl_i (xl_i (xl_a V 63 f) 47 26 1) 47 25 (nI (l_dg sg L))) 64 (V.2.1 64) = xl_i (xl_i (xl_a V 63 f) 47 26 1) 47 25 (nI (l_dg sg L)) from xl_a_id (xl_i (xl_i (xl_a V 63 f) 47 26 1) 47 25 (nI (l_dg sg L))) 64] at hc
      exact hc
    have yes : (∀ b0, B = some b0 → l_kl (l_dg sg L, s) b0) → ∀ l4, xX S (d + 2) 140 182 [.ref 47, .int (nI n), .int (nI (l_dg sg L)), .int 1, l4] [] (xl_a V 63 f) 0 0 Q := by
      intro hlt l4
      refine xx_iload_n e_M_judge_182 rfl rfl ?_
      exact xx_if_eq e_M_judge_183 (fun q => absurd q (by decide)) (fun _ => set hlt _ _)
    have no : ∀ b0, B = some b0 → ¬ l_kl (l_dg sg L, s) b0 → ∀ l4, xX S (d + 2) 140 182 [.ref 47, .int (nI n), .int (nI (l_dg sg L)), .int 0, l4] [] (xl_a V 63 f) 0 0 Q := by
      intro b0 hb hk l4
      refine xx_iload_n e_M_judge_182 rfl rfl ?_
      exact xx_if_eq e_M_judge_183 (fun _ => keep b0 hb hk _ _) (fun q => absurd rfl q)
    cases B with
    | none =>
      have hB : V.1 47 26 = 0 := hB
      refine xx_aload_n e_M_judge_89 rfl rfl ?_
      refine xh_get e_M_judge_90 fg_M_161 rfl rfl ?_
      refine xx_if_eq e_M_judge_93 (fun _ => ?_) (fun q => absurd hB q)
      refine xx_iconst (v := 1) e_M_judge_104 (by decide) ?_
      refine xx_goto e_M_judge_105 ?_
      refine xx_istore_n e_M_judge_109 rfl rfl ?_
      refine xx_aload_n e_M_judge_110 rfl rfl ?_
      refine xh_get e_M_judge_111 fg_M_161 rfl rfl ?_
      refine xx_if_eq e_M_judge_114 (fun _ => ?_) (fun q => absurd hB q)
      exact yes (fun b0 hb => by cases hb) _
    | some b0 =>
      obtain ⟨g0, s0⟩ := b0
      obtain ⟨r1, r2, r3, r4, r5, r6⟩ := hB
      have r1' : ¬ (xl_a V 63 f).1 47 26 = 0 := by show ¬ V.1 47 26 = 0; rw [r1]; decide
      have cmp : ∀ z : Int32, (l_dg sg L < g0 → z = 1) → (g0 < l_dg sg L → z = 0) → xX S (d + 2) 140 109 [.ref 47, .int (nI n), .int (nI (l_dg sg L)), l3, l4] [.int z] (xl_a V 63 f) 0 0 Q := by
        intro z hz1 hz2
        refine xx_istore_n e_M_judge_109 rfl rfl ?_
        refine xx_aload_n e_M_judge_110 rfl rfl ?_
        refine xh_get e_M_judge_111 fg_M_161 rfl rfl ?_
        refine xx_if_eq e_M_judge_114 (fun q => absurd q r1') (fun _ => ?_)
        refine xx_iload_n e_M_judge_117 rfl rfl ?_
        refine xx_aload_n e_M_judge_118 rfl rfl ?_
        refine xh_get e_M_judge_119 fg_M_165 rfl rfl ?_
        refine xx_icmp_ne e_M_judge_122 (fun q => ?_) (fun q => ?_)
        · have e1 : l_dg sg L ≠ g0 := fun z => q ((xeq rfl r2 hg r3).mpr z)
          rcases Nat.lt_or_ge (l_dg sg L) g0 with h | h
          · have ez := hz1 h
            subst ez
            exact yes (fun b0 hb => by cases hb; exact .inl h) _
          · have ez := hz2 (by omega)
            subst ez
            exact no _ rfl (fun z => by rcases z with z | z; exact absurd z (by show ¬ l_dg sg L < g0; omega); exact e1 z.1) _
        · have e1 : l_dg sg L = g0 := (xeq rfl r2 hg r3).mp q
          have fin : ∀ j, j < n → (∀ i, i < j → s[i]? = s0[i]?) → (j + 1 < n → ∃ x z, s[j]? = some x ∧ s0[j]? = some z ∧ x ≠ z) → xX S (d + 2) 140 159 [.ref 47, .int (nI n), .int (nI (l_dg sg L)), .int z, .int (nI j)] [] (xl_a V 63 f) 0 0 Q := by
            intro j hj heq hne
            have hx : s[j]? = some (s[j]'(by omega)) := List.getElem?_eq_getElem (by omega)
            have hx0 : s0[j]? = some (s0[j]'(by omega)) := List.getElem?_eq_getElem (by omega)
            have lx := hs2 _ (List.getElem_mem (l := s) (n := j) (by omega))
            have lx0 := r5 _ (List.getElem_mem (l := s0) (n := j) (by omega))
            generalize s[j]'(by omega) = x at hx lx
            generalize s0[j]'(by omega) = x0 at hx0 lx0
            refine xx_aload_n e_M_judge_159 rfl rfl ?_
            refine xh_getR e_M_judge_160 fg_M_63 rfl rfl ?_
            refine xx_iload e_M_judge_163 rfl ?_
            refine xh_ialN e_M_judge_165 rfl (by omega) ?_
            refine xx_aload_n e_M_judge_166 rfl rfl ?_
            refine xh_getR e_M_judge_167 fg_M_66 rfl rfl ?_
            refine xx_iload e_M_judge_170 rfl ?_
            refine xh_ialN e_M_judge_172 rfl (by omega) ?_
            refine xx_icmp_ge e_M_judge_173 (fun q1 => ?_) (fun q1 => ?_)
            · have e2 : x0 ≤ x := (xle (r6 j x0 hx0) (sf j x hx) (by omega) (by omega)).mp q1
              refine xx_iconst (v := 0) e_M_judge_180 (by decide) ?_
              refine xx_istore_n e_M_judge_181 rfl rfl ?_
              refine no _ rfl (fun w => ?_) _
              rcases w with w | w
              · have w : l_dg sg L < g0 := w
                omega
              · obtain ⟨j2, y, y0, w1, w2, w3, w4⟩ := w.2
                have w1 : ∀ i, i < j2 → s[i]? = s0[i]? := w1
                have w2 : s[j2]? = some y := w2
                have w3 : s0[j2]? = some y0 := w3
                rcases Nat.lt_trichotomy j2 j with h | h | h
                · have := heq j2 h
                  rw [w2, w3] at this
                  have := Option.some.inj this
                  omega
                · rw [h, hx] at w2
                  rw [h, hx0] at w3
                  have := Option.some.inj w2
                  have := Option.some.inj w3
                  omega
                · have hj2 : j2 < n := by
                    rcases Nat.lt_or_ge j2 s.length with z | z
                    · omega
                    · rw [List.getElem?_eq_none z] at w2; cases w2
                  obtain ⟨a, b, a1, a2, a3⟩ := hne (by omega)
                  have := w1 j h
                  rw [a1, a2] at this
                  exact a3 (Option.some.inj this)
            · have e2 : x < x0 := Nat.lt_of_not_le (fun w => q1 ((xle (r6 j x0 hx0) (sf j x hx) (by omega) (by omega)).mpr w))
              refine xx_iconst (v := 1) e_M_judge_176 (by decide) ?_
              refine xx_goto e_M_judge_177 ?_
              refine xx_istore_n e_M_judge_181 rfl rfl ?_
              exact yes (fun b0 hb => by cases hb; exact .inr ⟨e1, j, x, x0, heq, hx, hx0, e2⟩) _
          have loop : ∀ m j, n - j = m → j < n → (∀ i, i < j → s[i]? = s0[i]?) → xX S (d + 2) 140 128 [.ref 47, .int (nI n), .int (nI (l_dg sg L)), .int z, .int (nI j)] [] (xl_a V 63 f) 0 0 Q := by
            intro m
            induction m using Nat.strongRecOn with
            | ind m ih =>
              intro j hm hj heq
              refine xx_iload e_M_judge_128 rfl ?_
              refine xx_iload_n e_M_judge_130 rfl rfl ?_
              refine xx_iconst (v := 1) e_M_judge_131 (by decide) ?_
              refine xx_isub e_M_judge_132 ?_
              rw [show (1 : Int32) = nI 1 from rfl, pk_sub h1]
              refine xx_icmp_ge e_M_judge_133 (fun q1 => ?_) (fun q1 => ?_)
              · have e2 : n - 1 ≤ j := (xle rfl rfl (by omega) (by omega)).mp q1
                exact fin j hj heq (fun w => by omega)
              · have e2 : j < n - 1 := Nat.lt_of_not_le (fun w => q1 ((xle rfl rfl (by omega) (by omega)).mpr w))
                have hx : s[j]? = some (s[j]'(by omega)) := List.getElem?_eq_getElem (by omega)
                have hx0 : s0[j]? = some (s0[j]'(by omega)) := List.getElem?_eq_getElem (by omega)
                have lx := hs2 _ (List.getElem_mem (l := s) (n := j) (by omega))
                have lx0 := r5 _ (List.getElem_mem (l := s0) (n := j) (by omega))
                generalize s[j]'(by omega) = x at hx lx
                generalize s0[j]'(by omega) = x0 at hx0 lx0
                refine xx_aload_n e_M_judge_136 rfl rfl ?_
                refine xh_getR e_M_judge_137 fg_M_63 rfl rfl ?_
                refine xx_iload e_M_judge_140 rfl ?_
                refine xh_ialN e_M_judge_142 rfl (by omega) ?_
                refine xx_aload_n e_M_judge_143 rfl rfl ?_
                refine xh_getR e_M_judge_144 fg_M_66 rfl rfl ?_
                refine xx_iload e_M_judge_147 rfl ?_
                refine xh_ialN e_M_judge_149 rfl (by omega) ?_
                refine xx_icmp_ne e_M_judge_150 (fun q2 => ?_) (fun q2 => ?_)
                · have e3 : x ≠ x0 := fun w => q2 ((xeq (sf j x hx) (r6 j x0 hx0) (by omega) (by omega)).mpr w)
                  exact fin j hj heq (fun _ => ⟨x, x0, hx, hx0, e3⟩)
                · have e3 : x = x0 := (xeq (sf j x hx) (r6 j x0 hx0) (by omega) (by omega)).mp q2
                  refine xh_incN e_M_judge_153 rfl ?_
                  refine xx_goto e_M_judge_156 ?_
                  refine ih (n - (j + 1)) (by omega) (j + 1) rfl (by omega) (fun i hi => ?_)
                  rcases Nat.lt_or_ge i j with h | h
                  · exact heq i h
                  · rw [show i = j by omega, hx, hx0, e3]
          refine xx_iconst (v := 0) e_M_judge_125 (by decide) ?_
          refine xx_istore e_M_judge_126 rfl ?_
          exact loop _ 0 rfl (by omega) (fun i hi => absurd hi (Nat.not_lt_zero i))
      refine xx_aload_n e_M_judge_89 rfl rfl ?_
      refine xh_get e_M_judge_90 fg_M_161 rfl rfl ?_
      refine xx_if_eq e_M_judge_93 (fun q => absurd q r1') (fun _ => ?_)
      refine xx_iload_n e_M_judge_96 rfl rfl ?_
      refine xx_aload_n e_M_judge_97 rfl rfl ?_
      refine xh_get e_M_judge_98 fg_M_165 rfl rfl ?_
      refine xx_icmp_ge e_M_judge_101 (fun q => ?_) (fun q => ?_)
      · have e1 : g0 ≤ l_dg sg L := (xle r2 rfl r3 hg).mp q
        refine xx_iconst (v := 0) e_M_judge_108 (by decide) ?_
        exact cmp 0 (fun w => by omega) (fun _ => rfl)
      · have e1 : l_dg sg L < g0 := Nat.lt_of_not_le (fun w => q ((xle r2 rfl r3 hg).mpr w))
        refine xx_iconst (v := 1) e_M_judge_104 (by decide) ?_
        refine xx_goto e_M_judge_105 ?_
        exact cmp 1 (fun _ => rfl) (fun w => by omega)
  have sort : ∀ m i, n - i = m → i ≤ n → ∀ s f l4, s.Perm (L.take i) → s.Pairwise (· ≤ ·) → l_ar f s → xX S (d + 2) 140 4 [.ref 47, .int (nI n), .int (nI (l_dg sg (L.take i))), .int (nI i), l4] [] (xl_a V 63 f) 0 0 Q := by
    intro m
    induction m using Nat.strongRecOn with
    | ind m ih =>
      intro i hm hi s f l4 sp ss sf
      have hsl : s.length = i := by rw [sp.length_eq, List.length_take]; omega
      refine xx_iload_n e_M_judge_4 rfl rfl ?_
      refine xx_iload_n e_M_judge_5 rfl rfl ?_
      refine xx_icmp_ge e_M_judge_6 (fun q => ?_) (fun q => ?_)
      · have e1 : n ≤ i := (xle rfl rfl (by omega) (by omega)).mp q
        rw [List.take_of_length_le (by omega)] at sp
        rw [List.take_of_length_le (by omega)]
        exact tail s f _ _ sp ss sf
      · have e1 : i < n := Nat.lt_of_not_le (fun z => q ((xle rfl rfl (by omega) (by omega)).mpr z))
        have hx : L[i]? = some (L[i]'(by omega)) := List.getElem?_eq_getElem (by omega)
        have lx := h243 _ (List.getElem_mem (l := L) (n := i) (by omega))
        generalize L[i]'(by omega) = x at hx lx
        have htk : L.take (i + 1) = L.take i ++ [x] := by rw [List.take_add_one, hx]; rfl
        have cx := hch i x hx
        have hdg : l_dg sg (L.take i) + xdt x sg = l_dg sg (L.take (i + 1)) := by rw [htk, l_dg_a]; show _ = _ + (xdt x sg + 0); omega
        refine xx_iload_n e_M_judge_9 rfl rfl ?_
        refine xx_aload_n e_M_judge_10 rfl rfl ?_
        refine xx_aload_n e_M_judge_11 rfl rfl ?_
        refine xh_getR e_M_judge_12 fg_M_57 rfl rfl ?_
        refine xx_iload_n e_M_judge_15 rfl rfl ?_
        refine xh_ialN e_M_judge_16 rfl (by omega) ?_
        rw [show (xl_a V 63 f).2.1 61 i = nI x from cx]
        refine xc_V1i e_M_judge_17 kv_M_158 (xl_obj rfl) (t_M_digits (V := xl_a V 63 f) lx hs h5) ?_
        refine xx_iadd e_M_judge_20 ?_
        rw [nI_add, hdg]
        have inner : ∀ j, j ≤ i → ∀ h : Nat → Int32, (∀ q a, q < j → s[q]? = some a → h q = nI a) → (∀ q a, j ≤ q → s[q]? = some a → h (q + 1) = nI a ∧ x < a) → xX S (d + 2) 140 25 [.ref 47, .int (nI n), .int (nI (l_dg sg (L.take (i + 1)))), .int (nI i), .int (nI j)] [] (xl_a V 63 h) 0 0 Q := by
          intro j
          induction j with
          | zero =>
            intro hj h g1 g2
            refine xx_iload e_M_judge_25 rfl ?_
            refine xx_if_le e_M_judge_27 (fun _ => ?_) (fun q1 => absurd (show nI 0 ≤ 0 by decide) q1)
            refine xx_aload_n e_M_judge_70 rfl rfl ?_
            refine xh_getR e_M_judge_71 fg_M_63 rfl rfl ?_
            refine xx_iload e_M_judge_74 rfl ?_
            refine xx_aload_n e_M_judge_76 rfl rfl ?_
            refine xh_getR e_M_judge_77 fg_M_57 rfl rfl ?_
            refine xx_iload_n e_M_judge_80 rfl rfl ?_
            refine xh_ialN e_M_judge_81 rfl (by omega) ?_
            refine xh_iasN e_M_judge_82 rfl (by omega) ?_
            refine xh_incN e_M_judge_83 rfl ?_
            refine xx_goto e_M_judge_86 ?_
            rw [xl_aa, xl_a_s, show (xl_a V 63 h).2.1 61 i = nI x from cx]
            refine ih (n - (i + 1)) (by omega) (i + 1) rfl (by omega) (s.take 0 ++ x :: s.drop 0) _ _ ?_ (l_ins_s ss (fun q a hq => absurd hq (Nat.not_lt_zero q)) (fun q a hq ha => Nat.le_of_lt (g2 q a hq ha).2)) (l_ins (Nat.zero_le _) g1 (fun q a hq ha => (g2 q a hq ha).1))
            rw [htk]
            exact l_ins_p.trans ((sp.cons x).trans (List.perm_append_singleton x _).symm)
          | succ j ihj =>
            intro hj h g1 g2
            have hy : s[j]? = some (s[j]'(by omega)) := List.getElem?_eq_getElem (by omega)
            have ly : (s[j]'(by omega)) < 243 := h243 _ (List.mem_of_mem_take (sp.mem_iff.mp (List.getElem_mem (l := s) (n := j) (by omega))))
            generalize s[j]'(by omega) = y at hy ly
            have hyv := g1 j y (by omega) hy
            refine xx_iload e_M_judge_25 rfl ?_
            refine xx_if_le e_M_judge_27 (fun q1 => absurd q1 (nI_nle (by omega) (xn31 (by omega)))) (fun _ => ?_)
            refine xx_aload_n e_M_judge_30 rfl rfl ?_
            refine xh_getR e_M_judge_31 fg_M_63 rfl rfl ?_
            refine xx_iload e_M_judge_34 rfl ?_
            refine xx_iconst (v := 1) e_M_judge_36 (by decide) ?_
            refine xx_isub e_M_judge_37 ?_
            rw [show nI (j + 1) - 1 = nI j from nI_pred j]
            refine xh_ialN e_M_judge_38 rfl (by omega) ?_
            refine xx_aload_n e_M_judge_39 rfl rfl ?_
            refine xh_getR e_M_judge_40 fg_M_57 rfl rfl ?_
            refine xx_iload_n e_M_judge_43 rfl rfl ?_
            refine xh_ialN e_M_judge_44 rfl (by omega) ?_
            rw [xl_a_s, show (xl_a V 63 h).2.1 61 i = nI x from cx]
            refine xx_icmp_le e_M_judge_45 (fun q1 => ?_) (fun q1 => ?_)
            · have e2 : y ≤ x := (xle hyv rfl (by omega) (by omega)).mp q1
              refine xx_aload_n e_M_judge_70 rfl rfl ?_
              refine xh_getR e_M_judge_71 fg_M_63 rfl rfl ?_
              refine xx_iload e_M_judge_74 rfl ?_
              refine xx_aload_n e_M_judge_76 rfl rfl ?_
              refine xh_getR e_M_judge_77 fg_M_57 rfl rfl ?_
              refine xx_iload_n e_M_judge_80 rfl rfl ?_
              refine xh_ialN e_M_judge_81 rfl (by omega) ?_
              refine xh_iasN e_M_judge_82 rfl (by omega) ?_
              refine xh_incN e_M_judge_83 rfl ?_
              refine xx_goto e_M_judge_86 ?_
              rw [xl_aa, xl_a_s, show (xl_a V 63 h).2.1 61 i = nI x from cx]
              refine ih (n - (i + 1)) (by omega) (i + 1) rfl (by omega) (s.take (j + 1) ++ x :: s.drop (j + 1)) _ _ ?_ (l_ins_s ss (fun q a hq ha => ?_) (fun q a hq ha => Nat.le_of_lt (g2 q a hq ha).2)) (l_ins (by omega) g1 (fun q a hq ha => (g2 q a hq ha).1))
              · rw [htk]
                exact l_ins_p.trans ((sp.cons x).trans (List.perm_append_singleton x _).symm)
              · rcases Nat.eq_or_lt_of_le (Nat.le_of_lt_succ hq) with e | e
                · rw [e, hy] at ha
                  have := Option.some.inj ha
                  omega
                · have := List.pairwise_iff_getElem.mp ss q j (by omega) (by omega) e
                  rw [List.getElem?_eq_getElem (by omega)] at ha hy
                  have := Option.some.inj ha
                  have := Option.some.inj hy
                  omega
            · have e2 : x < y := Nat.lt_of_not_le (fun z => q1 ((xle hyv rfl (by omega) (by omega)).mpr z))
              refine xx_aload_n e_M_judge_48 rfl rfl ?_
              refine xh_getR e_M_judge_49 fg_M_63 rfl rfl ?_
              refine xx_iload e_M_judge_52 rfl ?_
              refine xx_aload_n e_M_judge_54 rfl rfl ?_
              refine xh_getR e_M_judge_55 fg_M_63 rfl rfl ?_
              refine xx_iload e_M_judge_58 rfl ?_
              refine xx_iconst (v := 1) e_M_judge_60 (by decide) ?_
              refine xx_isub e_M_judge_61 ?_
              rw [show nI (j + 1) - 1 = nI j from nI_pred j]
              refine xh_ialN e_M_judge_62 rfl (by omega) ?_
              refine xh_iasN e_M_judge_63 rfl (by omega) ?_
              refine xh_incM e_M_judge_64 rfl ?_
              refine xx_goto e_M_judge_67 ?_
              rw [xl_aa, xl_a_s, hyv, pk_m1]
              refine ihj (by omega) _ (fun q a hq ha => ?_) (fun q a hq ha => ?_)
              · rw [pk_un (by omega)]
                exact g1 q a (by omega) ha
              · by_cases e : q = j
                · rw [e] at ha ⊢
                  rw [hy] at ha
                  rw [pk_us]
                  have := Option.some.inj ha
                  exact ⟨by rw [this], by omega⟩
                · rw [pk_un (by omega)]
                  exact g2 q a (by omega) ha
        refine xx_istore_n e_M_judge_21 rfl rfl ?_
        refine xx_iload_n e_M_judge_22 rfl rfl ?_
        refine xx_istore e_M_judge_23 rfl ?_
        exact inner i (Nat.le_refl _) f (fun q a _ ha => sf q a ha) (fun q a hq ha => by rw [List.getElem?_eq_none (by omega)] at ha; cases ha)
  refine xx_iconst (v := 0) e_M_judge_0 (by decide) ?_
  refine xx_istore_n e_M_judge_1 rfl rfl ?_
  refine xx_iconst (v := 0) e_M_judge_2 (by decide) ?_
  refine xx_istore_n e_M_judge_3 rfl rfl ?_
  have h0 := sort _ 0 rfl (Nat.zero_le _) [] (V.2.1 63) xa_j (List.Perm.refl _) List.Pairwise.nil (fun q a ha => by cases ha)
  rw [xl_a_id] at h0
  exact h0
end XModel8
