/-! The reference: synthesising. -/
section XModel11
variable {S : Nat × (Nat → Int32)} {V : xl_V} {d : Nat}
theorem xl_aba (U : xl_V) {a b : Nat} (hab : a ≠ b) (f g h : Nat → Int32) : xl_a (xl_a (xl_a U a f) b g) a h = xl_a (xl_a U a h) b g := by
  have e : xa_up (xa_up (xa_up U.2.1 a f) b g) a h = xa_up (xa_up U.2.1 a h) b g := by
    funext c
    by_cases e7 : c = a
    · rw [e7, xa_up_s, xa_up_n _ _ hab, xa_up_s]
    · rw [xa_up_n _ _ e7]
      by_cases e8 : c = b
      · rw [e8, xa_up_s, xa_up_s]
      · rw [xa_up_n _ _ e8, xa_up_n _ _ e8, xa_up_n _ _ e7, xa_up_n _ _ e7]
  exact congrArg (fun z => ((U.1, z, U.2.2) : xl_V)) e
theorem m_ex_c {V W : xl_V} (h : ∀ a, a < 57 → W.2.1 a = V.2.1 a) (k : Nat) : ∀ t, m_ex W k t = m_ex V k t
  | 0 => rfl
  | t + 1 => by
    rw [m_ex, m_ex, m_ex_c h k t]
    unfold m_en
    rw [h 54 (by decide), h 52 (by decide), h 48 (by decide), h 50 (by decide)]
theorem m_co_c {V W : xl_V} (h : ∀ a, a < 57 → W.2.1 a = V.2.1 a) (e s : Nat) (b : Int32) : ∀ k, m_co W e s b k = m_co V e s b k
  | 0 => rfl
  | k + 1 => by
    rw [m_co, m_co, m_co_c h e s b k]
    unfold m_nx
    rw [m_ex_c h, h 55 (by decide)]
/-- the gate of s is as the least sum asks -/
def m_yg (V : xl_V) (sg e c s : Nat) (l : List Nat) : Prop := l.length ≤ 8 ∧ (V.2.1 48 s = 0 → p_lr sg (m_co V e s 1 c) (m_co V e s 0 c) l.length l) ∧ (¬ V.2.1 48 s = 0 → l = [])
def m_to2 (G : Nat → List Nat) : Nat → Nat
  | 0 => 0
  | s + 1 => m_to2 G s + (G s).length
theorem m_to2_c {G H : Nat → List Nat} : ∀ s, (∀ q, q < s → H q = G q) → m_to2 H s = m_to2 G s
  | 0, _ => rfl
  | s + 1, h => by
    show m_to2 H s + (H s).length = m_to2 G s + (G s).length
    rw [m_to2_c s (fun q hq => h q (by omega)), h s (by omega)]
/-- the gates of the first s signals stand in the two arrays -/
def m_gs (G : Nat → List Nat) (many gate : Nat → Int32) (s : Nat) : Prop := ∀ q, q < s → many q = nI (G q).length ∧ ∀ i a, (G q)[i]? = some a → gate (8 * q + i) = nI a
def m_yf (V W : xl_V) : Prop := (∀ b j, ¬ (b = 47 ∧ (j = 25 ∨ j = 26)) → W.1 b j = V.1 b j) ∧ (∀ a, (a < 59 ∨ 66 < a) → W.2.1 a = V.2.1 a) ∧ W.2.2 = V.2.2
theorem l_il {l : List Nat} {i a : Nat} (h : l[i]? = some a) : i < l.length := by
  rcases Nat.lt_or_ge i l.length with z | z
  · exact z
  · rw [List.getElem?_eq_none z] at h; cases h
theorem t_M_synthesise {c e sg : Nat} {Q : xa_Q} (hc : V.1 47 13 = nI c) (h8 : c ≤ 81) (he : V.1 47 4 = nI e) (h14 : e ≤ 14) (hs : V.1 47 1 = nI sg) (h5 : sg ≤ 5) (hsg : ∀ t, t < e → vp_in (V.2.1 50 t) 5)
    (k1 : ¬ V.1 47 11 = 0 → Q (.inl (some (.int 0))) (xl_H xlay (xl_i V 47 0 1)))
    (k2 : V.1 47 11 = 0 → ∀ W s l, m_yf (xl_i V 47 0 0) W → s < sg → V.2.1 48 s = 0 → p_lr sg (m_co V e s 1 c) (m_co V e s 0 c) 9 l → Q (.inl (some (.int 0))) (xl_H xlay (xl_i W 47 0 2)))
    (k3 : V.1 47 11 = 0 → ∀ W G many gate, m_yf (xl_i V 47 0 0) W → (∀ s, s < sg → m_yg V sg e c s (G s)) → m_gs G many gate sg → (∀ q, sg ≤ q → many q = V.2.1 57 q) → Q (.inl (some (.int (nI (m_to2 G sg))))) (xl_H xlay (xl_a (xl_a W 57 many) 58 gate))) :
    xX S (d + 5) 131 0 (xa_ent 4 [.ref 47]) [] V 0 0 Q := by
  refine xx_aload_n e_M_synthesise_0 rfl rfl ?_
  refine xx_aload_n e_M_synthesise_1 rfl rfl ?_
  refine xh_get e_M_synthesise_2 fg_M_29 rfl rfl ?_
  refine xx_if_ne e_M_synthesise_5 (fun q => ?_) (fun q => ?_)
  · skip
    refine xx_iconst (v := 1) e_M_synthesise_12 (by decide) ?_
    refine xh_put e_M_synthesise_13 fp_M_78 rfl rfl ⟨rfl, rfl⟩ ?_
    refine xx_aload_n e_M_synthesise_16 rfl rfl ?_
    refine xh_get e_M_synthesise_17 fg_M_78 rfl rfl ?_
    refine xx_if_le e_M_synthesise_20 (fun q1 => absurd q1 (show ¬ (1 : Int32) ≤ 0 by decide)) (fun _ => ?_)
    refine xx_iconst (v := 0) e_M_synthesise_23 (by decide) ?_
    refine xx_iret e_M_synthesise_24 rfl rfl ?_
    exact k1 q
  · have k2 := k2 q
    have k3 := k3 q
    have copy : ∀ m s, sg - s = m → s ≤ sg → ∀ (U : xl_V) (G : Nat → List Nat) many gate l3, m_yf (xl_i V 47 0 0) U → (∀ s, s < sg → m_yg V sg e c s (G s)) → m_gs G (U.2.1 65) (U.2.1 66) sg → m_gs G many gate s → (∀ q, s ≤ q → many q = V.2.1 57 q) →
        xX S (d + 5) 131 131 [.ref 47, .int (nI (m_to2 G sg)), .int (nI s), l3] [] (xl_a (xl_a U 57 many) 58 gate) 0 0 Q := by
      intro m
      induction m using Nat.strongRecOn with
      | ind m ih =>
        intro s hm hsl U G many gate l3 hf hG hU hM hN
        have hsU : U.1 47 1 = nI sg := (hf.1 47 1 (fun z => by rcases z.2 with z | z <;> exact absurd z (by decide))).trans hs
        refine xx_iload_n e_M_synthesise_131 rfl rfl ?_
        refine xx_aload_n e_M_synthesise_132 rfl rfl ?_
        refine xh_get e_M_synthesise_133 fg_M_84 rfl rfl ?_
        refine xx_icmp_ge e_M_synthesise_136 (fun q1 => ?_) (fun q1 => ?_)
        · have e1 : sg ≤ s := (xle hsU rfl (by omega) (by omega)).mp q1
          have e2 : s = sg := by omega
          subst e2
          refine xx_iload_n e_M_synthesise_197 rfl rfl ?_
          refine xx_iret e_M_synthesise_198 rfl rfl ?_
          exact k3 U G many gate hf hG hM hN
        · have e1 : s < sg := Nat.lt_of_not_le (fun z => q1 ((xle hsU rfl (by omega) (by omega)).mpr z))
          have hl8 := (hG s e1).1
          obtain ⟨u1, u2⟩ := hU s e1
          have inner : ∀ w i, (G s).length - i = w → i ≤ (G s).length → ∀ g : Nat → Int32, (∀ q, q < 8 * s → g q = gate q) → (∀ q a, q < i → (G s)[q]? = some a → g (8 * s + q) = nI a) → xX S (d + 5) 131 153 [.ref 47, .int (nI (m_to2 G sg)), .int (nI s), .int (nI i)] [] (xl_a (xl_a U 57 (upd many s (nI (G s).length))) 58 g) 0 0 Q := by
            intro w
            induction w using Nat.strongRecOn with
            | ind w ih2 =>
              intro i hw hi g g1 g2
              refine xx_iload_n e_M_synthesise_153 rfl rfl ?_
              refine xx_aload_n e_M_synthesise_154 rfl rfl ?_
              refine xh_getR e_M_synthesise_155 fg_M_45 rfl rfl ?_
              refine xx_iload_n e_M_synthesise_158 rfl rfl ?_
              refine xh_ialN e_M_synthesise_159 rfl (by omega) ?_
              rw [show (xl_a (xl_a U 57 (upd many s (nI (G s).length))) 58 g).2.1 57 s = nI (G s).length from pk_us (f := many)]
              refine xx_icmp_ge e_M_synthesise_160 (fun q2 => ?_) (fun q2 => ?_)
              · have e2 : (G s).length ≤ i := (xle rfl rfl (by omega) (by omega)).mp q2
                refine xh_incN e_M_synthesise_191 rfl ?_
                refine xx_goto e_M_synthesise_194 ?_
                refine ih (sg - (s + 1)) (by omega) (s + 1) rfl (by omega) U G _ g _ hf hG hU (fun q hq => ?_) (fun q hq => by rw [pk_un (by omega)]; exact hN q (by omega))
                by_cases e3 : q = s
                · subst e3
                  rw [pk_us]
                  exact ⟨rfl, fun i2 a ha => g2 i2 a (by have := l_il ha; omega) ha⟩
                · rw [pk_un e3]
                  refine ⟨(hM q (by omega)).1, fun i2 a ha => ?_⟩
                  have := l_il ha
                  have := (hG q (by omega)).1
                  rw [g1 _ (by omega)]
                  exact (hM q (by omega)).2 i2 a ha
              · have e2 : i < (G s).length := Nat.lt_of_not_le (fun z => q2 ((xle rfl rfl (by omega) (by omega)).mpr z))
                refine xx_aload_n e_M_synthesise_163 rfl rfl ?_
                refine xh_getR e_M_synthesise_164 fg_M_48 rfl rfl ?_
                refine xx_bipush (v := 8) e_M_synthesise_167 (by decide) ?_
                refine xx_iload_n e_M_synthesise_169 rfl rfl ?_
                refine xx_imul e_M_synthesise_170 ?_
                refine xx_iload_n e_M_synthesise_171 rfl rfl ?_
                refine xx_iadd e_M_synthesise_172 ?_
                rw [show (8 : Int32) = nI 8 from rfl, pk_mul, nI_add]
                refine xx_aload_n e_M_synthesise_173 rfl rfl ?_
                refine xh_getR e_M_synthesise_174 fg_M_72 rfl rfl ?_
                refine xx_bipush (v := 8) e_M_synthesise_177 (by decide) ?_
                refine xx_iload_n e_M_synthesise_179 rfl rfl ?_
                refine xx_imul e_M_synthesise_180 ?_
                refine xx_iload_n e_M_synthesise_181 rfl rfl ?_
                refine xx_iadd e_M_synthesise_182 ?_
                rw [show (8 : Int32) = nI 8 from rfl, pk_mul, nI_add]
                refine xh_ialN e_M_synthesise_183 rfl (by omega) ?_
                refine xh_iasN e_M_synthesise_184 rfl (by omega) ?_
                refine xh_incN e_M_synthesise_185 rfl ?_
                refine xx_goto e_M_synthesise_188 ?_
                rw [xl_aa, xl_a_s, show (xl_a (xl_a U 57 (upd many s (nI (G s).length))) 58 g).2.1 66 = U.2.1 66 from rfl]
                refine ih2 ((G s).length - (i + 1)) (by omega) (i + 1) rfl (by omega) _ (fun q hq => by rw [pk_un (by omega)]; exact g1 q hq) (fun q a hq ha => ?_)
                by_cases e3 : q = i
                · rw [e3] at ha ⊢
                  rw [pk_us]
                  exact u2 i a ha
                · rw [pk_un (by omega)]
                  exact g2 q a (by omega) ha
          refine xx_aload_n e_M_synthesise_139 rfl rfl ?_
          refine xh_getR e_M_synthesise_140 fg_M_45 rfl rfl ?_
          refine xx_iload_n e_M_synthesise_143 rfl rfl ?_
          refine xx_aload_n e_M_synthesise_144 rfl rfl ?_
          refine xh_getR e_M_synthesise_145 fg_M_69 rfl rfl ?_
          refine xx_iload_n e_M_synthesise_148 rfl rfl ?_
          refine xh_ialN e_M_synthesise_149 rfl (by omega) ?_
          refine xh_iasN e_M_synthesise_150 rfl (by omega) ?_
          refine xx_iconst (v := 0) e_M_synthesise_151 (by decide) ?_
          refine xx_istore_n e_M_synthesise_152 rfl rfl ?_
          rw [show (xl_a (xl_a U 57 many) 58 gate).2.1 65 s = nI (G s).length from u1, show (xl_a (xl_a U 57 many) 58 gate).2.1 57 = many from xl_a_s U 57 many]
          have hsw := xl_aba U (a := 57) (b := 58) (by decide) many gate (upd many s (nI (G s).length))
          rw [hsw]
          exact inner _ 0 rfl (Nat.zero_le _) gate (fun _ _ => rfl) (fun q a hq => absurd hq (Nat.not_lt_zero q))
    have sums : ∀ m s, sg - s = m → s ≤ sg → ∀ (W : xl_V) (G : Nat → List Nat) l3, m_yf (xl_i V 47 0 0) W → (∀ q, q < s → m_yg V sg e c q (G q)) → m_gs G (W.2.1 65) (W.2.1 66) s → xX S (d + 5) 131 29 [.ref 47, .int (nI (m_to2 G s)), .int (nI s), l3] [] W 0 0 Q := by
      intro m
      induction m using Nat.strongRecOn with
      | ind m ih =>
        intro s hm hsl W G l3 hf hG hW
        have hfl : ∀ b j, ¬ (b = 47 ∧ (j = 25 ∨ j = 26)) → ¬ (b = 47 ∧ j = 0) → W.1 b j = V.1 b j := fun b j h1 h2 => (hf.1 b j h1).trans (if_neg h2)
        have hsW : W.1 47 1 = nI sg := (hfl 47 1 (by decide) (by decide)).trans hs
        have hcW : W.1 47 13 = nI c := (hfl 47 13 (by decide) (by decide)).trans hc
        have heW : W.1 47 4 = nI e := (hfl 47 4 (by decide) (by decide)).trans he
        have haW : ∀ a, a < 57 → W.2.1 a = V.2.1 a := fun a ha => hf.2.1 a (.inl (by omega))
        refine xx_iload_n e_M_synthesise_29 rfl rfl ?_
        refine xx_aload_n e_M_synthesise_30 rfl rfl ?_
        refine xh_get e_M_synthesise_31 fg_M_84 rfl rfl ?_
        refine xx_icmp_ge e_M_synthesise_34 (fun q1 => ?_) (fun q1 => ?_)
        · have e1 : sg ≤ s := (xle hsW rfl (by omega) (by omega)).mp q1
          have e2 : s = sg := by omega
          subst e2
          refine xx_iconst (v := 0) e_M_synthesise_129 (by decide) ?_
          refine xx_istore_n e_M_synthesise_130 rfl rfl ?_
          have h57 : W.2.1 57 = V.2.1 57 := hf.2.1 57 (.inl (by decide))
          have hcp := copy _ 0 rfl (Nat.zero_le _) W G (W.2.1 57) (W.2.1 58) l3 hf hG hW (fun q hq => absurd hq (Nat.not_lt_zero q)) (fun q _ => by rw [h57])
          rw [xl_a_id, show xl_a W 58 (W.2.1 58) = W from xl_a_id W 58] at hcp
          exact hcp
        · have e1 : s < sg := Nat.lt_of_not_le (fun z => q1 ((xle hsW rfl (by omega) (by omega)).mpr z))
          have put : ∀ (U : xl_V) r l, m_yf (xl_i V 47 0 0) U → m_gs G (U.2.1 65) (U.2.1 66) s → r ≤ 9 → (r ≤ 8 → l.length = r ∧ l_ar (U.2.1 64) l) → (V.2.1 48 s = 0 → p_lr sg (m_co V e s 1 c) (m_co V e s 0 c) r l) → (¬ V.2.1 48 s = 0 → r = 0 ∧ l = []) →
              xX S (d + 5) 131 60 [.ref 47, .int (nI (m_to2 G s)), .int (nI s), l3] [.int (nI r), .int (nI s), .ref 65] U 0 0 Q := by
            intro U r l uf uG hr9 hr8 hin hout
            have uf' : ∀ f g, m_yf (xl_i V 47 0 0) (xl_a (xl_a U 65 f) 66 g) := fun f g => ⟨uf.1, fun a ha => by
              show xa_up (xa_up U.2.1 65 f) 66 g a = _
              rw [xa_up_n _ _ (by omega), xa_up_n _ _ (by omega)]
              exact uf.2.1 a ha, uf.2.2⟩
            have uf1 : m_yf (xl_i V 47 0 0) (xl_a U 65 (upd (U.2.1 65) s (nI r))) := ⟨uf.1, fun a ha => by
              show xa_up U.2.1 65 _ a = _
              rw [xa_up_n _ _ (by omega)]
              exact uf.2.1 a ha, uf.2.2⟩
            refine xh_iasN e_M_synthesise_60 rfl (by omega) ?_
            refine xx_aload_n e_M_synthesise_61 rfl rfl ?_
            refine xh_getR e_M_synthesise_62 fg_M_69 rfl rfl ?_
            refine xx_iload_n e_M_synthesise_65 rfl rfl ?_
            refine xh_ialN e_M_synthesise_66 rfl (by omega) ?_
            refine xx_bipush (v := 8) e_M_synthesise_67 (by decide) ?_
            rw [show (xl_a U 65 (upd (U.2.1 65) s (nI r))).2.1 65 s = nI r from pk_us (f := U.2.1 65)]
            refine xx_icmp_le e_M_synthesise_69 (fun q2 => ?_) (fun q2 => ?_)
            · have e2 : r ≤ 8 := (xle (b := 8) rfl rfl (by omega) (by decide)).mp q2
              obtain ⟨l1, l2⟩ := hr8 e2
              have inner : ∀ w i, r - i = w → i ≤ r → ∀ g : Nat → Int32, (∀ q, q < 8 * s → g q = U.2.1 66 q) → (∀ q a, q < i → l[q]? = some a → g (8 * s + q) = nI a) → xX S (d + 5) 131 81 [.ref 47, .int (nI (m_to2 G s)), .int (nI s), .int (nI i)] [] (xl_a (xl_a U 65 (upd (U.2.1 65) s (nI r))) 66 g) 0 0 Q := by
                intro w
                induction w using Nat.strongRecOn with
                | ind w ih2 =>
                  intro i hw hi g g1 g2
                  refine xx_iload_n e_M_synthesise_81 rfl rfl ?_
                  refine xx_aload_n e_M_synthesise_82 rfl rfl ?_
                  refine xh_getR e_M_synthesise_83 fg_M_69 rfl rfl ?_
                  refine xx_iload_n e_M_synthesise_86 rfl rfl ?_
                  refine xh_ialN e_M_synthesise_87 rfl (by omega) ?_
                  rw [show (xl_a (xl_a U 65 (upd (U.2.1 65) s (nI r))) 66 g).2.1 65 s = nI r from pk_us (f := U.2.1 65)]
                  refine xx_icmp_ge e_M_synthesise_88 (fun q3 => ?_) (fun q3 => ?_)
                  · have e3 : r ≤ i := (xle rfl rfl (by omega) (by omega)).mp q3
                    let H : Nat → List Nat := fun q => if q = s then l else G q
                    have Hs : H s = l := if_pos rfl
                    have Hq : ∀ q, q < s → H q = G q := fun q hq => if_neg (by omega)
                    have hto : m_to2 G s + r = m_to2 H (s + 1) := by
                      show _ = m_to2 H s + (H s).length
                      rw [m_to2_c s Hq, Hs, l1]
                    refine xx_iload_n e_M_synthesise_114 rfl rfl ?_
                    refine xx_aload_n e_M_synthesise_115 rfl rfl ?_
                    refine xh_getR e_M_synthesise_116 fg_M_69 rfl rfl ?_
                    refine xx_iload_n e_M_synthesise_119 rfl rfl ?_
                    refine xh_ialN e_M_synthesise_120 rfl (by omega) ?_
                    rw [show (xl_a (xl_a U 65 (upd (U.2.1 65) s (nI r))) 66 g).2.1 65 s = nI r from pk_us (f := U.2.1 65)]
                    refine xx_iadd e_M_synthesise_121 ?_
                    rw [nI_add, hto]
                    refine xx_istore_n e_M_synthesise_122 rfl rfl ?_
                    refine xh_incN e_M_synthesise_123 rfl ?_
                    refine xx_goto e_M_synthesise_126 ?_
                    refine ih (sg - (s + 1)) (by omega) (s + 1) rfl (by omega) _ H _ (uf' _ g) (fun q hq => ?_) (fun q hq => ?_)
                    · rcases Nat.lt_or_ge q s with h | h
                      · rw [Hq q h]; exact hG q h
                      · rw [show q = s by omega, Hs]
                        exact ⟨by omega, fun h => by rw [l1]; exact hin h, fun h => (hout h).2⟩
                    · show upd (U.2.1 65) s (nI r) q = _ ∧ ∀ i a, (H q)[i]? = some a → g (8 * q + i) = nI a
                      rcases Nat.lt_or_ge q s with h | h
                      · rw [Hq q h, pk_un (by omega)]
                        refine ⟨(uG q h).1, fun i2 a ha => ?_⟩
                        have := l_il ha
                        have := (hG q h).1
                        rw [g1 _ (by omega)]
                        exact (uG q h).2 i2 a ha
                      · have e4 : q = s := by omega
                        rw [e4, Hs, pk_us, l1]
                        exact ⟨rfl, fun i2 a ha => g2 i2 a (by have := l_il ha; omega) ha⟩
                  · have e3 : i < r := Nat.lt_of_not_le (fun z => q3 ((xle rfl rfl (by omega) (by omega)).mpr z))
                    refine xx_aload_n e_M_synthesise_91 rfl rfl ?_
                    refine xh_getR e_M_synthesise_92 fg_M_72 rfl rfl ?_
                    refine xx_bipush (v := 8) e_M_synthesise_95 (by decide) ?_
                    refine xx_iload_n e_M_synthesise_97 rfl rfl ?_
                    refine xx_imul e_M_synthesise_98 ?_
                    refine xx_iload_n e_M_synthesise_99 rfl rfl ?_
                    refine xx_iadd e_M_synthesise_100 ?_
                    rw [show (8 : Int32) = nI 8 from rfl, pk_mul, nI_add]
                    refine xx_aload_n e_M_synthesise_101 rfl rfl ?_
                    refine xh_getR e_M_synthesise_102 fg_M_66 rfl rfl ?_
                    refine xx_iload_n e_M_synthesise_105 rfl rfl ?_
                    refine xh_ialN e_M_synthesise_106 rfl (by omega) ?_
                    refine xh_iasN e_M_synthesise_107 rfl (by omega) ?_
                    refine xh_incN e_M_synthesise_108 rfl ?_
                    refine xx_goto e_M_synthesise_111 ?_
                    rw [xl_aa, xl_a_s, show (xl_a (xl_a U 65 (upd (U.2.1 65) s (nI r))) 66 g).2.1 64 = U.2.1 64 from rfl]
                    refine ih2 (r - (i + 1)) (by omega) (i + 1) rfl (by omega) _ (fun q hq => by rw [pk_un (by omega)]; exact g1 q hq) (fun q a hq ha => ?_)
                    by_cases e4 : q = i
                    · rw [e4] at ha ⊢
                      rw [pk_us]
                      exact l2 i a ha
                    · rw [pk_un (by omega)]
                      exact g2 q a (by omega) ha
              refine xx_iconst (v := 0) e_M_synthesise_79 (by decide) ?_
              refine xx_istore_n e_M_synthesise_80 rfl rfl ?_
              have hi := inner _ 0 rfl (Nat.zero_le _) (U.2.1 66) (fun _ _ => rfl) (fun q a hq => absurd hq (Nat.not_lt_zero q))
              rw [show xl_a (xl_a U 65 (upd (U.2.1 65) s (nI r))) 66 (U.2.1 66) = xl_a U 65 (upd (U.2.1 65) s (nI r)) from xl_a_id (xl_a U 65 (upd (U.2.1 65) s (nI r))) 66] at hi
              exact hi
            · have e2 : ¬ r ≤ 8 := fun z => q2 ((xle (b := 8) rfl rfl (by omega) (by decide)).mpr z)
              have e3 : r = 9 := by omega
              subst e3
              have e4 : V.2.1 48 s = 0 := by
                by_cases h : V.2.1 48 s = 0
                · exact h
                · exact absurd (hout h).1 (by decide)
              refine xx_aload_n e_M_synthesise_72 rfl rfl ?_
              refine xx_iconst (v := 2) e_M_synthesise_73 (by decide) ?_
              refine xh_put e_M_synthesise_74 fp_M_78 rfl rfl ⟨rfl, rfl⟩ ?_
              refine xx_iconst (v := 0) e_M_synthesise_77 (by decide) ?_
              refine xx_iret e_M_synthesise_78 rfl rfl ?_
              exact k2 _ s l uf1 e1 e4 (hin e4)
          refine xx_aload_n e_M_synthesise_37 rfl rfl ?_
          refine xh_getR e_M_synthesise_38 fg_M_69 rfl rfl ?_
          refine xx_iload_n e_M_synthesise_41 rfl rfl ?_
          refine xx_aload_n e_M_synthesise_42 rfl rfl ?_
          refine xh_getR e_M_synthesise_43 fg_M_7 rfl rfl ?_
          refine xx_iload_n e_M_synthesise_46 rfl rfl ?_
          refine xh_balN e_M_synthesise_47 rfl (by omega) ?_
          refine xx_if_eq e_M_synthesise_48 (fun q2 => ?_) (fun q2 => ?_)
          · have q2' : V.2.1 48 s = 0 := by rw [← haW 48 (by decide)]; exact q2
            refine xx_aload_n e_M_synthesise_55 rfl rfl ?_
            refine xx_iload_n e_M_synthesise_56 rfl rfl ?_
            refine xc_V1z e_M_synthesise_57 kv_M_188 (xl_obj rfl) (t_M_leastSum (V := W) (d := d) (s := s) (c := c) (e := e) (sg := sg) hcW h8 heW h14 hsW h5 (by rw [haW 50 (by decide)]; exact hsg) (fun U r l u1 u2 u3 u4 => xk_i ?_))
            rw [m_co_c haW, m_co_c haW] at u2
            exact put U r l ⟨fun b j hb => (u1.1 b j hb).trans (hf.1 b j hb), fun a ha => (u1.2.1 a (by omega)).trans (hf.2.1 a ha), u1.2.2.trans hf.2.2⟩ (by rw [u1.2.1 65 (by decide), u1.2.1 66 (by decide)]; exact hW) u4 u3 (fun _ => u2) (fun h => absurd q2' h)
          · have q2' : ¬ V.2.1 48 s = 0 := by rw [← haW 48 (by decide)]; exact q2
            refine xx_iconst (v := 0) e_M_synthesise_51 (by decide) ?_
            refine xx_goto e_M_synthesise_52 ?_
            exact put W 0 [] hf hW (by decide) (fun _ => ⟨rfl, fun q a ha => by cases ha⟩) (fun h => absurd h q2') (fun _ => ⟨rfl, rfl⟩)
    refine xx_iconst (v := 0) e_M_synthesise_8 (by decide) ?_
    refine xx_goto e_M_synthesise_9 ?_
    refine xh_put e_M_synthesise_13 fp_M_78 rfl rfl ⟨rfl, rfl⟩ ?_
    refine xx_aload_n e_M_synthesise_16 rfl rfl ?_
    refine xh_get e_M_synthesise_17 fg_M_78 rfl rfl ?_
    refine xx_if_le e_M_synthesise_20 (fun _ => ?_) (fun q1 => absurd (show (0 : Int32) ≤ 0 by decide) q1)
    refine xx_iconst (v := 0) e_M_synthesise_25 (by decide) ?_
    refine xx_istore_n e_M_synthesise_26 rfl rfl ?_
    refine xx_iconst (v := 0) e_M_synthesise_27 (by decide) ?_
    refine xx_istore_n e_M_synthesise_28 rfl rfl ?_
    exact sums _ 0 rfl (Nat.zero_le _) _ (fun _ => []) _ ⟨fun _ _ _ => rfl, fun _ _ => rfl, rfl⟩ (fun q hq => absurd hq (Nat.not_lt_zero q)) (fun q hq => absurd hq (Nat.not_lt_zero q))
end XModel11
