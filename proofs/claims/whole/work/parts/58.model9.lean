/-! The reference: trying covers. -/
section XModel9
variable {S : Nat × (Nat → Int32)} {V : xl_V} {d : Nat}
/-- products that cover the open codes one after another, from r on, until none is open -/
def l_ch (V : xl_V) (sg : Nat) (on : Int32) : Int32 → List Nat → Prop
  | r, [] => m_op on r = none
  | r, p :: l => ∃ c, m_op on r = some c ∧ p < 3 ^ sg ∧ ¬ V.2.1 60 p = 0 ∧ (V.2.1 59 p >>> (nI c &&& 31)) &&& 1 = 1 ∧ l_ch V sg on (r ||| V.2.1 59 p) l
/-- one judgement after another -/
def l_fo (sg : Nat) : Option (Nat × List Nat) → List (List Nat) → Option (Nat × List Nat) → Prop
  | B, [], B' => B' = B
  | B, L :: Ls, B' => ∃ B1, m_up sg L B B1 ∧ l_fo sg B1 Ls B'
theorem l_fo_a {sg : Nat} : ∀ {As Cs : List (List Nat)} {B B1 B' : Option (Nat × List Nat)}, l_fo sg B As B1 → l_fo sg B1 Cs B' → l_fo sg B (As ++ Cs) B'
  | [], _, _, _, _, h, h2 => by
    have h : _ = _ := h
    rw [h] at h2
    exact h2
  | _ :: _, _, _, _, _, ⟨B2, h1, h2⟩, h3 => ⟨B2, h1, l_fo_a h2 h3⟩
def m_vf (V W : xl_V) : Prop := (∀ b j, ¬ (b = 47 ∧ (j = 25 ∨ j = 26)) → W.1 b j = V.1 b j) ∧ (∀ a, a ≠ 61 → a ≠ 62 → a ≠ 63 → a ≠ 64 → W.2.1 a = V.2.1 a) ∧ W.2.2 = V.2.2
theorem m_vf_1 {W : xl_V} {f : Nat → Int32} (h : m_vf V W) : m_vf V (xl_a W 61 f) := ⟨h.1, fun a h1 h2 h3 h4 => (xa_up_n _ _ h1).trans (h.2.1 a h1 h2 h3 h4), h.2.2⟩
theorem m_vf_2 {W : xl_V} {f : Nat → Int32} (h : m_vf V W) : m_vf V (xl_a W 62 f) := ⟨h.1, fun a h1 h2 h3 h4 => (xa_up_n _ _ h2).trans (h.2.1 a h1 h2 h3 h4), h.2.2⟩
theorem m_vf_j {W U : xl_V} (h : m_vf V W) (h2 : m_jf W U) : m_vf V U := ⟨fun b j hb => (h2.1 b j hb).trans (h.1 b j hb), fun a a1 a2 a3 a4 => (h2.2.1 a a3 a4).trans (h.2.1 a a1 a2 a3 a4), h2.2.2.trans h.2.2⟩
theorem m_rc_1 {W : xl_V} {f : Nat → Int32} {n : Nat} : ∀ {B : Option (Nat × List Nat)}, m_rc W n B → m_rc (xl_a W 61 f) n B
  | none, h => h
  | some _, h => h
theorem m_rc_2 {W : xl_V} {f : Nat → Int32} {n : Nat} : ∀ {B : Option (Nat × List Nat)}, m_rc W n B → m_rc (xl_a W 62 f) n B
  | none, h => h
  | some _, h => h
/-- what is still to be judged above the prefix P, with a first product from a on -/
def l_E (V : xl_V) (sg : Nat) (on : Int32) (n : Nat) (P : List Nat) (r : Int32) (a : Nat) (L : List Nat) : Prop := ∃ p t, L = P ++ p :: t ∧ a ≤ p ∧ l_ch V sg on r (p :: t) ∧ L.length ≤ n
theorem t_M_tryAt {n sg : Nat} {on : Int32} {Q : xa_Q} (h8 : n ≤ 8) (hs : V.1 47 1 = nI sg) (h5 : sg ≤ 5) (hmin : ∀ L, l_ch V sg on 0 L → n ≤ L.length) :
    ∀ k i, n - i = k → i < n → ∀ m a, 243 - a = m → a ≤ 243 → ∀ (W : xl_V) (B : Option (Nat × List Nat)) (P : List Nat) (r x : Int32) (l4 l5 : Value), m_vf V W → m_rc W n B → P.length = i → l_ar (W.2.1 61) P → (∀ p, p ∈ P → p < 243) →
      (∀ t, l_ch V sg on r t → l_ch V sg on 0 (P ++ t)) → W.2.1 62 i = r → W.2.1 61 i = x → x + 1 = nI a →
      (∀ (U : xl_V) B' Ls l4 l5, m_vf V U → m_rc U n B' → (∀ j, j < i → U.2.1 61 j = W.2.1 61 j) → (∀ j, j ≤ i → U.2.1 62 j = W.2.1 62 j) → l_fo sg B Ls B' → (∀ L, L ∈ Ls ↔ l_E V sg on n P r a L) →
        xX S (d + 3) 137 16 [.ref 47, .int on, .int (nI n), .int (nI i + (-1)), l4, l5] [] U 0 0 Q) →
      xX S (d + 3) 137 16 [.ref 47, .int on, .int (nI n), .int (nI i), l4, l5] [] W 0 0 Q := by
  have h3 := x3 sg h5
  intro k
  induction k using Nat.strongRecOn with
  | ind k ihk =>
    intro i hk hi m
    induction m using Nat.strongRecOn with
    | ind m ihm =>
      intro a hm ha W B P r x l4 l5 hvf hrc hPl hP hP2 hPc hr hx hxa kk
      have e59 : W.2.1 59 = V.2.1 59 := hvf.2.1 59 (by decide) (by decide) (by decide) (by decide)
      have e60 : W.2.1 60 = V.2.1 60 := hvf.2.1 60 (by decide) (by decide) (by decide) (by decide)
      have hsW : W.1 47 1 = nI sg := (hvf.1 47 1 (fun z => by rcases z.2 with z | z <;> exact absurd z (by decide))).trans hs
      have hnp : ∀ cd, m_np W sg a cd = m_np V sg a cd := fun cd => by
        unfold m_np
        congr 1
        funext p
        unfold m_np1
        rw [e59, e60]
      have pop : (∀ L, ¬ l_E V sg on n P r a L) → ∀ l4 l5, xX S (d + 3) 137 59 [.ref 47, .int on, .int (nI n), .int (nI i), l4, l5] [] (xl_a W 61 (upd (W.2.1 61) i (-1))) 0 0 Q := by
        intro hE l4 l5
        refine xx_aload_n e_M_tryCovers_59 rfl rfl ?_
        refine xh_getR e_M_tryCovers_60 fg_M_57 rfl rfl ?_
        refine xx_iload_n e_M_tryCovers_63 rfl rfl ?_
        refine xh_ialN e_M_tryCovers_64 rfl (by omega) ?_
        rw [xl_a_s, pk_us]
        refine xx_if_ge e_M_tryCovers_65 (fun q => absurd q (show ¬ (0 : Int32) ≤ -1 by decide)) (fun _ => ?_)
        refine xh_incM e_M_tryCovers_68 rfl ?_
        refine xx_goto e_M_tryCovers_71 ?_
        refine xx_goto e_M_tryCovers_138 ?_
        refine kk _ B [] _ _ (m_vf_1 hvf) (m_rc_1 hrc) (fun j hj => ?_) (fun j hj => rfl) rfl (fun L => ⟨fun z => (by cases z), fun z => absurd z (hE L)⟩)
        rw [xl_a_s, pk_un (by omega)]
      refine xx_iload_n e_M_tryCovers_16 rfl rfl ?_
      refine xx_if_lt e_M_tryCovers_17 (fun q => absurd q (nI_pos (xn31 (by omega)))) (fun _ => ?_)
      refine xx_iload_n e_M_tryCovers_20 rfl rfl ?_
      refine xx_aload_n e_M_tryCovers_21 rfl rfl ?_
      refine xh_getR e_M_tryCovers_22 fg_M_60 rfl rfl ?_
      refine xx_iload_n e_M_tryCovers_25 rfl rfl ?_
      refine xh_ialN e_M_tryCovers_26 rfl (by omega) ?_
      rw [hr]
      refine xc_S2i e_M_tryCovers_27 ks_M_168 (t_M_open) ?_
      refine xx_istore e_M_tryCovers_30 rfl ?_
      refine xx_aload_n e_M_tryCovers_32 rfl rfl ?_
      refine xh_getR e_M_tryCovers_33 fg_M_57 rfl rfl ?_
      refine xx_iload_n e_M_tryCovers_36 rfl rfl ?_
      refine xx_iload e_M_tryCovers_37 rfl ?_
      cases ho : m_op on r with
      | none =>
        refine xx_if_ge e_M_tryCovers_39 (fun q => absurd q (show ¬ (0 : Int32) ≤ -1 by decide)) (fun _ => ?_)
        refine xx_iconst (v := (-1)) e_M_tryCovers_42 (by decide) ?_
        refine xx_goto e_M_tryCovers_43 ?_
        refine xh_iasN e_M_tryCovers_58 rfl (by omega) ?_
        refine pop (fun L hL => ?_) _ _
        obtain ⟨p, t, -, -, ⟨c, hc, -⟩, -⟩ := hL
        rw [ho] at hc
        cases hc
      | some c =>
        have hc32 : c < 32 := (xfnd_s ho).1
        refine xx_if_ge e_M_tryCovers_39 (fun _ => ?_) (fun q => absurd (nI_pos' (xn31 (by omega))) q)
        refine xx_aload_n e_M_tryCovers_46 rfl rfl ?_
        refine xx_aload_n e_M_tryCovers_47 rfl rfl ?_
        refine xh_getR e_M_tryCovers_48 fg_M_57 rfl rfl ?_
        refine xx_iload_n e_M_tryCovers_51 rfl rfl ?_
        refine xh_ialN e_M_tryCovers_52 rfl (by omega) ?_
        refine xx_iload e_M_tryCovers_53 rfl ?_
        rw [hx]
        refine xc_V2i e_M_tryCovers_55 kv_M_171 (xl_obj rfl) (t_M_nextPrime (V := W) (sg := sg) hxa ha hsW h5) ?_
        rw [hnp]
        cases hp : m_np V sg a (g_io (some c)) with
        | none =>
          refine xh_iasN e_M_tryCovers_58 rfl (by omega) ?_
          refine pop (fun L hL => ?_) _ _
          obtain ⟨p, t, -, hap, ⟨c1, hc1, p1, p2, p3, -⟩, -⟩ := hL
          rw [ho] at hc1
          have hc1 := Option.some.inj hc1
          subst hc1
          have := xfnd_n hp p p1
          exact absurd ⟨hap, p2, p3⟩ (of_decide_eq_false this)
        | some p =>
          obtain ⟨p1, p2, p3⟩ := xfnd_s hp
          have p2 := of_decide_eq_true p2
          have hone : ∀ t, l_ch V sg on (r ||| V.2.1 59 p) t → l_ch V sg on r (p :: t) := fun t ht => ⟨c, ho, p1, p2.2.1, p2.2.2, ht⟩
          have hE : ∀ L, l_E V sg on n P r a L ↔ (∃ t, L = P ++ p :: t ∧ l_ch V sg on (r ||| V.2.1 59 p) t ∧ L.length ≤ n) ∨ l_E V sg on n P r (p + 1) L := by
            intro L
            constructor
            · rintro ⟨p', t, q1, q2, q3, q4⟩
              obtain ⟨c1, hc1, y1, y2, y3, y4⟩ := q3
              have hc2 := hc1
              rw [ho] at hc2
              have hc2 := Option.some.inj hc2
              rcases Nat.lt_trichotomy p' p with h | h | h
              · subst hc2
                exact absurd ⟨q2, y2, y3⟩ (of_decide_eq_false (p3 p' h))
              · subst h
                exact .inl ⟨t, q1, y4, q4⟩
              · exact .inr ⟨p', t, q1, h, ⟨c1, hc1, y1, y2, y3, y4⟩, q4⟩
            · rintro (⟨t, q1, q2, q3⟩ | ⟨p', t, q1, q2, q3, q4⟩)
              · exact ⟨p, t, q1, p2.1, hone t q2, q3⟩
              · have := p2.1
                exact ⟨p', t, q1, by omega, q3, q4⟩
          have hp243 : p < 243 := by omega
          generalize hW1 : xl_a W 61 (upd (W.2.1 61) i (nI p)) = W1
          have vf1 : m_vf V W1 := by rw [← hW1]; exact m_vf_1 hvf
          have rc1 : m_rc W1 n B := by rw [← hW1]; exact m_rc_1 hrc
          have c61 : W1.2.1 61 = upd (W.2.1 61) i (nI p) := by rw [← hW1, xl_a_s]
          have c61i : W1.2.1 61 i = nI p := by rw [c61, pk_us]
          have c62 : W1.2.1 62 = W.2.1 62 := by rw [← hW1]; rfl
          have c59 : W1.2.1 59 = V.2.1 59 := by rw [← hW1]; exact e59
          have hP1 : l_ar (W1.2.1 61) (P ++ [p]) := fun q b hb => by
            rw [c61]
            rcases Nat.lt_or_ge q P.length with h | h
            · rw [List.getElem?_append_left h] at hb
              rw [pk_un (by omega)]
              exact hP q b hb
            · rw [List.getElem?_append_right h] at hb
              rcases Nat.eq_or_lt_of_le h with h | h
              · rw [show q - P.length = 0 by omega] at hb
                have : p = b := Option.some.inj hb
                rw [show q = i by omega, pk_us, this]
              · rw [List.getElem?_eq_none (by show 1 ≤ q - P.length; omega)] at hb
                cases hb
          have hP2' : ∀ z, z ∈ P ++ [p] → z < 243 := fun z hz => by
            rcases List.mem_append.mp hz with h | h
            · exact hP2 z h
            · rw [List.mem_singleton.mp h]; exact hp243
          have next : ∀ (U : xl_V) B1 Ls1 l4 l5, m_vf V U → m_rc U n B1 → (∀ j, j < i → U.2.1 61 j = W.2.1 61 j) → U.2.1 61 i = nI p → (∀ j, j ≤ i → U.2.1 62 j = W.2.1 62 j) → l_fo sg B Ls1 B1 → (∀ L, L ∈ Ls1 ↔ ∃ t, L = P ++ p :: t ∧ l_ch V sg on (r ||| V.2.1 59 p) t ∧ L.length ≤ n) →
              xX S (d + 3) 137 16 [.ref 47, .int on, .int (nI n), .int (nI i), l4, l5] [] U 0 0 Q := by
            intro U B1 Ls1 l4 l5 v1 v2 v3 v4 v5 v6 v7
            refine ihm (243 - (p + 1)) (by have := p2.1; omega) (p + 1) rfl (by omega) U B1 P r (nI p) l4 l5 v1 v2 hPl (fun q b hb => ?_) hP2 hPc ((v5 i (Nat.le_refl _)).trans hr) v4 (nI_1 p) (fun U2 B2 Ls2 l4 l5 w1 w2 w3 w4 w5 w6 => ?_)
            · have hq : q < P.length := by
                rcases Nat.lt_or_ge q P.length with h | h
                · exact h
                · rw [List.getElem?_eq_none h] at hb; cases hb
              rw [v3 q (by omega)]
              exact hP q b hb
            · refine kk U2 B2 (Ls1 ++ Ls2) l4 l5 w1 w2 (fun j hj => (w3 j hj).trans (v3 j hj)) (fun j hj => (w4 j hj).trans (v5 j hj)) (l_fo_a v6 w5) (fun L => ?_)
              rw [List.mem_append, v7 L, w6 L]
              exact (hE L).symm
          refine xh_iasN e_M_tryCovers_58 rfl (by omega) ?_
          rw [show g_io (some p) = nI p from rfl, hW1]
          refine xx_aload_n e_M_tryCovers_59 rfl rfl ?_
          refine xh_getR e_M_tryCovers_60 fg_M_57 rfl rfl ?_
          refine xx_iload_n e_M_tryCovers_63 rfl rfl ?_
          refine xh_ialN e_M_tryCovers_64 rfl (by omega) ?_
          rw [c61i]
          refine xx_if_ge e_M_tryCovers_65 (fun _ => ?_) (fun q => absurd (nI_pos' (xn31 (by omega))) q)
          refine xx_aload_n e_M_tryCovers_74 rfl rfl ?_
          refine xh_getR e_M_tryCovers_75 fg_M_60 rfl rfl ?_
          refine xx_iload_n e_M_tryCovers_78 rfl rfl ?_
          refine xh_ialN e_M_tryCovers_79 rfl (by omega) ?_
          refine xx_aload_n e_M_tryCovers_80 rfl rfl ?_
          refine xh_getR e_M_tryCovers_81 fg_M_51 rfl rfl ?_
          refine xx_aload_n e_M_tryCovers_84 rfl rfl ?_
          refine xh_getR e_M_tryCovers_85 fg_M_57 rfl rfl ?_
          refine xx_iload_n e_M_tryCovers_88 rfl rfl ?_
          refine xh_ialN e_M_tryCovers_89 rfl (by omega) ?_
          rw [c61i]
          refine xh_ialN e_M_tryCovers_90 rfl (by omega) ?_
          refine xx_ior e_M_tryCovers_91 ?_
          refine xx_istore e_M_tryCovers_92 rfl ?_
          refine xx_iload_n e_M_tryCovers_94 rfl rfl ?_
          refine xx_iload e_M_tryCovers_95 rfl ?_
          rw [show W1.2.1 62 i = r by rw [c62]; exact hr, c59]
          refine xc_S2i e_M_tryCovers_97 ks_M_168 (t_M_open) ?_
          cases ho2 : m_op on (r ||| V.2.1 59 p) with
          | none =>
            refine xx_if_ge e_M_tryCovers_100 (fun q => absurd q (show ¬ (0 : Int32) ≤ -1 by decide)) (fun _ => ?_)
            have hfull : l_ch V sg on 0 (P ++ [p]) := hPc _ (hone [] ho2)
            have hni : n = i + 1 := by
              have := hmin _ hfull
              rw [List.length_append, hPl] at this
              have : n ≤ i + 1 := this
              omega
            have hs1 : W1.1 47 1 = nI sg := by rw [← hW1]; exact hsW
            refine xx_aload_n e_M_tryCovers_103 rfl rfl ?_
            refine xx_iload_n e_M_tryCovers_104 rfl rfl ?_
            refine xx_iconst (v := 1) e_M_tryCovers_105 (by decide) ?_
            refine xx_iadd e_M_tryCovers_106 ?_
            rw [nI_1]
            refine xc_V1z e_M_tryCovers_107 kv_M_174 (xl_obj rfl) (t_M_judge (d := d) (n := i + 1) (L := P ++ [p]) (B := B) (by rw [List.length_append, hPl]; rfl) (by omega) (by omega) hP1 hP2' hs1 h5 (by rw [← hni]; exact rc1) (fun W2 B1 hj hup hrc2 => xk_v ?_))
            have f61 : W2.2.1 61 = W1.2.1 61 := hj.2.1 61 (by decide) (by decide)
            have f62 : W2.2.1 62 = W1.2.1 62 := hj.2.1 62 (by decide) (by decide)
            refine xx_goto e_M_tryCovers_110 ?_
            refine xx_goto e_M_tryCovers_138 ?_
            refine next W2 B1 [P ++ [p]] _ _ (m_vf_j vf1 hj) (by rw [hni]; exact hrc2) (fun j hj => by rw [f61, c61, pk_un (by omega)]) (by rw [f61]; exact c61i) (fun j _ => by rw [f62, c62]) ⟨B1, hup, rfl⟩ (fun L => ?_)
            rw [List.mem_singleton]
            constructor
            · intro h
              exact ⟨[], h, ho2, by rw [h, List.length_append, hPl]; show i + 1 ≤ n; omega⟩
            · rintro ⟨t, q1, q2, -⟩
              cases t with
              | nil => exact q1
              | cons p' t =>
                obtain ⟨c1, hc1, -⟩ := q2
                rw [ho2] at hc1
                cases hc1
          | some c2 =>
            have hc32' : c2 < 32 := (xfnd_s ho2).1
            refine xx_if_ge e_M_tryCovers_100 (fun _ => ?_) (fun q => absurd (nI_pos' (xn31 (by omega))) q)
            refine xx_iload_n e_M_tryCovers_113 rfl rfl ?_
            refine xx_iconst (v := 1) e_M_tryCovers_114 (by decide) ?_
            refine xx_iadd e_M_tryCovers_115 ?_
            refine xx_iload_n e_M_tryCovers_116 rfl rfl ?_
            rw [nI_1]
            refine xx_icmp_ge e_M_tryCovers_117 (fun q => ?_) (fun q => ?_)
            · have e1 : n ≤ i + 1 := (xle rfl rfl (by omega) (by omega)).mp q
              refine xx_goto e_M_tryCovers_138 ?_
              refine next W1 B [] _ _ vf1 rc1 (fun j hj => by rw [c61, pk_un (by omega)]) c61i (fun j _ => by rw [c62]) rfl (fun L => ⟨fun z => (by cases z), ?_⟩)
              rintro ⟨t, q1, q2, q3⟩
              cases t with
              | nil =>
                have q2 : m_op on (r ||| V.2.1 59 p) = none := q2
                rw [ho2] at q2
                cases q2
              | cons p' t =>
                rw [q1, List.length_append, hPl] at q3
                have q3 : i + (t.length + 1 + 1) ≤ n := q3
                omega
            · have e1 : i + 1 < n := Nat.lt_of_not_le (fun z => q ((xle rfl rfl (by omega) (by omega)).mpr z))
              refine xh_incN e_M_tryCovers_120 rfl ?_
              refine xx_aload_n e_M_tryCovers_123 rfl rfl ?_
              refine xh_getR e_M_tryCovers_124 fg_M_60 rfl rfl ?_
              refine xx_iload_n e_M_tryCovers_127 rfl rfl ?_
              refine xx_iload e_M_tryCovers_128 rfl ?_
              refine xh_iasN e_M_tryCovers_130 rfl (by omega) ?_
              refine xx_aload_n e_M_tryCovers_131 rfl rfl ?_
              refine xh_getR e_M_tryCovers_132 fg_M_57 rfl rfl ?_
              refine xx_iload_n e_M_tryCovers_135 rfl rfl ?_
              refine xx_iconst (v := (-1)) e_M_tryCovers_136 (by decide) ?_
              refine xh_iasN e_M_tryCovers_137 rfl (by omega) ?_
              refine xx_goto e_M_tryCovers_138 ?_
              rw [show (xl_a W1 62 (upd (W1.2.1 62) (i + 1) (r ||| V.2.1 59 p))).2.1 61 = W1.2.1 61 from rfl]
              generalize hW2 : xl_a (xl_a W1 62 (upd (W1.2.1 62) (i + 1) (r ||| V.2.1 59 p))) 61 (upd (W1.2.1 61) (i + 1) (-1)) = W2
              have g61 : W2.2.1 61 = upd (W1.2.1 61) (i + 1) (-1) := by rw [← hW2, xl_a_s]
              have g62 : W2.2.1 62 = upd (W1.2.1 62) (i + 1) (r ||| V.2.1 59 p) := by rw [← hW2]; exact xl_a_s W1 62 _
              have vf2 : m_vf V W2 := by rw [← hW2]; exact m_vf_1 (m_vf_2 vf1)
              have rc2 : m_rc W2 n B := by rw [← hW2]; exact m_rc_1 (m_rc_2 rc1)
              refine ihk (n - (i + 1)) (by omega) (i + 1) rfl e1 _ 0 rfl (by omega) W2 B (P ++ [p]) (r ||| V.2.1 59 p) (-1) _ _ vf2 rc2 (by rw [List.length_append, hPl]; rfl) (fun q b hb => ?_) hP2' (fun t ht => ?_) (by rw [g62, pk_us]) (by rw [g61, pk_us]) (by decide) (fun U B' Ls l4 l5 w1 w2 w3 w4 w5 w6 => ?_)
              · have hq : q < (P ++ [p]).length := by
                  rcases Nat.lt_or_ge q (P ++ [p]).length with h | h
                  · exact h
                  · rw [List.getElem?_eq_none h] at hb; cases hb
                rw [List.length_append, hPl] at hq
                have hq : q < i + 1 := hq
                rw [g61, pk_un (by omega)]
                exact hP1 q b hb
              · rw [List.append_assoc]
                exact hPc _ (hone t ht)
              · rw [pk_m1]
                refine next U B' Ls l4 l5 w1 w2 (fun j hj => ?_) ?_ (fun j hj => ?_) w5 (fun L => ?_)
                · rw [w3 j (by omega), g61, pk_un (by omega), c61, pk_un (by omega)]
                · rw [w3 i (by omega), g61, pk_un (by omega)]; exact c61i
                · rw [w4 j (by omega), g62, pk_un (by omega), c62]
                · rw [w6 L]
                  constructor
                  · rintro ⟨p', t, q1, -, q3, q4⟩
                    exact ⟨p' :: t, by rw [q1, List.append_assoc]; rfl, q3, q4⟩
                  · rintro ⟨t, q1, q2, q3⟩
                    cases t with
                    | nil =>
                      have q2 : m_op on (r ||| V.2.1 59 p) = none := q2
                      rw [ho2] at q2
                      cases q2
                    | cons p' t => exact ⟨p', t, by rw [q1, List.append_assoc]; rfl, Nat.zero_le _, q2, q3⟩
theorem t_M_tryCovers {n sg : Nat} {on : Int32} {B : Option (Nat × List Nat)} {Q : xa_Q} (h1 : 1 ≤ n) (h8 : n ≤ 8) (hs : V.1 47 1 = nI sg) (h5 : sg ≤ 5) (hmin : ∀ L, l_ch V sg on 0 L → n ≤ L.length) (hB : m_rc V n B)
    (kk : ∀ W B' Ls, m_vf V W → m_rc W n B' → l_fo sg B Ls B' → (∀ L, L ∈ Ls ↔ l_ch V sg on 0 L ∧ L.length ≤ n) → Q (.inl none) (xl_H xlay W)) :
    xX S (d + 3) 137 0 (xa_ent 6 [.ref 47, .int on, .int (nI n)]) [] V 0 0 Q := by
  refine xx_iconst (v := 0) e_M_tryCovers_0 (by decide) ?_
  refine xx_istore_n e_M_tryCovers_1 rfl rfl ?_
  refine xx_aload_n e_M_tryCovers_2 rfl rfl ?_
  refine xh_getR e_M_tryCovers_3 fg_M_60 rfl rfl ?_
  refine xx_iconst (v := 0) e_M_tryCovers_6 (by decide) ?_
  refine xx_iconst (v := 0) e_M_tryCovers_7 (by decide) ?_
  refine xh_iasN e_M_tryCovers_8 rfl (k0 := 0) (by decide) ?_
  refine xx_aload_n e_M_tryCovers_9 rfl rfl ?_
  refine xh_getR e_M_tryCovers_10 fg_M_57 rfl rfl ?_
  refine xx_iconst (v := 0) e_M_tryCovers_13 (by decide) ?_
  refine xx_iconst (v := (-1)) e_M_tryCovers_14 (by decide) ?_
  refine xh_iasN e_M_tryCovers_15 rfl (k0 := 0) (by decide) ?_
  have hvf : m_vf V (xl_a (xl_a V 62 (upd (V.2.1 62) 0 0)) 61 (upd (V.2.1 61) 0 (-1))) := m_vf_1 (m_vf_2 ⟨fun _ _ _ => rfl, fun _ _ _ _ _ => rfl, rfl⟩)
  refine t_M_tryAt (V := V) h8 hs h5 hmin _ 0 rfl (by omega) _ 0 rfl (by omega) _ B [] 0 (-1) _ _ hvf (m_rc_1 (m_rc_2 hB)) rfl (fun q b hb => by cases hb) (fun p hp => by cases hp) (fun t ht => ht) rfl rfl (by decide) (fun U B' Ls l4 l5 w1 w2 w3 w4 w5 w6 => ?_)
  refine xx_iload_n e_M_tryCovers_16 rfl rfl ?_
  refine xx_if_lt e_M_tryCovers_17 (fun _ => ?_) (fun q => absurd (show nI 0 + (-1) < 0 by decide) q)
  refine xx_vret e_M_tryCovers_141 rfl ?_
  refine kk U B' Ls w1 w2 w5 (fun L => ?_)
  rw [w6 L]
  constructor
  · rintro ⟨p, t, q1, -, q3, q4⟩
    rw [q1] at q4 ⊢
    exact ⟨q3, q4⟩
  · rintro ⟨q1, q2⟩
    cases L with
    | nil => have := hmin [] q1; have : n ≤ 0 := this; omega
    | cons p t => exact ⟨p, t, rfl, Nat.zero_le _, q1, q2⟩
end XModel9
