/-! The reference: exploring, analysing. -/
section XModel4
variable {S : Nat × (Nat → Int32)} {V : xl_V} {d : Nat}
def m_ct (V : xl_V) : Nat := (V.1 47 13).toNatClampNeg
def m_es (V : xl_V) : Nat := (V.1 47 4).toNatClampNeg
def m_h0 (V : xl_V) : xl_V := (fun W : xl_V => xl_a W 55 (upd (W.2.1 55) 0 0)) (xl_a V 54 (upd (V.2.1 54) 0 (V.1 47 10)))
def m_h (V : xl_V) : Nat → xl_V
  | 0 => m_h0 V
  | s + 1 => xl_a (m_h V s) 55 (upd ((m_h V s).2.1 55) 0 (if (m_h V s).2.1 49 s = 0 then (m_h V s).2.1 55 0 else (m_h V s).2.1 55 0 ||| ((1 : Int32) <<< (nI s &&& 31))))
theorem m_h_1 (V : xl_V) : ∀ s, (m_h V s).1 = V.1
  | 0 => rfl
  | s + 1 => m_h_1 V s
theorem m_h_2 (V : xl_V) : ∀ s, (m_h V s).2.2 = V.2.2
  | 0 => rfl
  | s + 1 => m_h_2 V s
theorem m_h_a (V : xl_V) {a : Nat} (h4 : a ≠ 54) (h5 : a ≠ 55) : ∀ s, (m_h V s).2.1 a = V.2.1 a
  | 0 => by
    show xa_up (xa_up V.2.1 54 _) 55 _ a = _
    rw [xa_up_n _ _ h5, xa_up_n _ _ h4]
  | s + 1 => by
    show xa_up (m_h V s).2.1 55 _ a = _
    rw [xa_up_n _ _ h5]
    exact m_h_a V h4 h5 s
/-- the first state alone -/
def m_b0 (V : xl_V) (sg : Nat) : xl_V := xl_i (xl_a (m_h V sg) 56 (upd ((m_h V sg).2.1 56) 0 (-1))) 47 13 1
def m_ad (V : xl_V) (k t : Nat) : xl_V := xl_i (xl_a (xl_a (xl_a V 54 (upd (V.2.1 54) (m_ct V) (m_mk V k t))) 55 (upd (V.2.1 55) (m_ct V) (m_cd V k t))) 56 (upd (V.2.1 56) (m_ct V) (100 * nI k + nI t))) 47 13 (V.1 47 13 + 1)
/-- transition t at state k brings a new state -/
abbrev m_nw (V : xl_V) (k t : Nat) : Prop := m_ct V < 81 ∧ ¬ m_en V k t = 0 ∧ ¬ m_sf V k t = 0 ∧ ¬ m_rt V k t = 0 ∧ xfnd (m_is V (m_mk V k t) (m_cd V k t)) (m_ct V) = none
def m_xs (V : xl_V) (k t : Nat) : xl_V := if m_nw V k t then m_ad V k t else V
def m_xr (V : xl_V) (k : Nat) : Nat → xl_V
  | 0 => V
  | t + 1 => m_xs (m_xr V k t) k t
def m_bl : Nat → Nat → xl_V → xl_V
  | 0, _, V => V
  | n + 1, k, V => if k < m_ct V ∧ m_ct V < 81 then m_bl n (k + 1) (m_xr V k (m_es V)) else V
def m_xp (V : xl_V) (sg : Nat) : xl_V := m_bl 81 0 (m_b0 V sg)
/-- what stays and what grows when the states do -/
def m_gr (V W : xl_V) : Prop := (∀ b j, ¬ (b = 47 ∧ j = 13) → W.1 b j = V.1 b j) ∧ (∀ a, a ≠ 54 → a ≠ 55 → a ≠ 56 → W.2.1 a = V.2.1 a) ∧ W.2.2 = V.2.2 ∧
  ∀ c, V.1 47 13 = nI c → c ≤ 81 → ∃ c', W.1 47 13 = nI c' ∧ c ≤ c' ∧ c' ≤ 81 ∧ ∀ j, j < c → W.2.1 54 j = V.2.1 54 j ∧ W.2.1 55 j = V.2.1 55 j ∧ W.2.1 56 j = V.2.1 56 j
theorem m_gr_r (V : xl_V) : m_gr V V := ⟨fun _ _ _ => rfl, fun _ _ _ _ => rfl, rfl, fun c h h8 => ⟨c, h, Nat.le_refl _, h8, fun _ _ => ⟨rfl, rfl, rfl⟩⟩⟩
theorem m_gr_t {V W U : xl_V} (h : m_gr V W) (h2 : m_gr W U) : m_gr V U := ⟨fun b j hb => (h2.1 b j hb).trans (h.1 b j hb), fun a ha hb hc => (h2.2.1 a ha hb hc).trans (h.2.1 a ha hb hc), h2.2.2.1.trans h.2.2.1, fun c hc h8 => by
  obtain ⟨c1, a1, a2, a3, a4⟩ := h.2.2.2 c hc h8
  obtain ⟨c2, b1, b2, b3, b4⟩ := h2.2.2.2 c1 a1 a3
  refine ⟨c2, b1, by omega, b3, fun j hj => ?_⟩
  obtain ⟨x1, x2, x3⟩ := a4 j hj
  obtain ⟨z1, z2, z3⟩ := b4 j (by omega)
  exact ⟨z1.trans x1, z2.trans x2, z3.trans x3⟩⟩
theorem m_ct_c {c : Nat} (hc : V.1 47 13 = nI c) (h : c ≤ 81) : m_ct V = c := by unfold m_ct; rw [hc]; exact nI_clamp (xn31 (by omega))
theorem m_gr_ad {c : Nat} (hc : V.1 47 13 = nI c) (h8 : c < 81) (k t : Nat) : m_gr V (m_ad V k t) := by
  have hct := m_ct_c hc (by omega)
  refine ⟨fun b j hb => if_neg hb, fun a h4 h5 h6 => ?_, rfl, fun c1 h1 h2 => ?_⟩
  · show xa_up (xa_up (xa_up V.2.1 54 _) 55 _) 56 _ a = _
    rw [xa_up_n _ _ h6, xa_up_n _ _ h5, xa_up_n _ _ h4]
  · have e : c1 = c := (nI_eq (xn31 (by omega)) (xn31 (by omega))).mp (h1.symm.trans hc)
    subst e
    refine ⟨c1 + 1, ?_, by omega, by omega, fun j hj => ?_⟩
    · show V.1 47 13 + 1 = _
      rw [hc, nI_1]
    · refine ⟨?_, ?_, ?_⟩
      · show upd (V.2.1 54) (m_ct V) _ j = _
        exact pk_un (by omega)
      · show upd (V.2.1 55) (m_ct V) _ j = _
        exact pk_un (by omega)
      · show upd (V.2.1 56) (m_ct V) _ j = _
        exact pk_un (by omega)
theorem m_gr_xs {c : Nat} (hc : V.1 47 13 = nI c) (h8 : c ≤ 81) (k t : Nat) : m_gr V (m_xs V k t) := by
  unfold m_xs
  split
  · rename_i h
    have := m_ct_c hc h8
    exact m_gr_ad hc (by have := h.1; omega) k t
  · exact m_gr_r V
theorem m_gr_xr {c : Nat} (hc : V.1 47 13 = nI c) (h8 : c ≤ 81) (k : Nat) : ∀ t, m_gr V (m_xr V k t)
  | 0 => m_gr_r V
  | t + 1 => by
    have h := m_gr_xr hc h8 k t
    obtain ⟨c1, a1, a2, a3, -⟩ := h.2.2.2 c hc h8
    exact m_gr_t h (m_gr_xs a1 a3 k t)
theorem m_xr_full {k : Nat} : ∀ n t, 81 ≤ m_ct (m_xr V k t) → m_xr V k (t + n) = m_xr V k t
  | 0, t, _ => rfl
  | n + 1, t, h => by
    have h1 := m_xr_full n t h
    show m_xs (m_xr V k (t + n)) k (t + n) = _
    rw [h1]
    unfold m_xs
    exact if_neg (fun z => by have := z.1; omega)
/-- one transition at one state -/
theorem t_M_x1 {k t c e : Nat} {Q : xa_Q} (hc : V.1 47 13 = nI c) (hk : k < c) (h8 : c < 81) (ht : t < 14)
    (kk : ∀ W, W = m_xs V k t → xX S (d + 1) 110 218 [.ref 47, .int (nI k), .int (nI t)] [] W 0 0 Q) :
    xX S (d + 1) 110 117 [.ref 47, .int (nI k), .int (nI t)] [] V 0 0 Q := by
  have hk8 : k < 81 := by omega
  have hct := m_ct_c hc (by omega)
  have no : ¬ m_nw V k t → xX S (d + 1) 110 218 [.ref 47, .int (nI k), .int (nI t)] [] V 0 0 Q := fun h => kk V (by unfold m_xs; rw [if_neg h])
  refine xx_aload_n e_M_explore_117 rfl rfl ?_
  refine xx_iload_n e_M_explore_118 rfl rfl ?_
  refine xx_iload_n e_M_explore_119 rfl rfl ?_
  refine xc_V2i e_M_explore_120 kv_M_103 (xl_obj rfl) (t_M_enabled hk8 ht) ?_
  refine xx_if_eq e_M_explore_123 (fun q => no (fun z => z.2.1 q)) (fun q1 => ?_)
  refine xx_aload_n e_M_explore_126 rfl rfl ?_
  refine xx_iload_n e_M_explore_127 rfl rfl ?_
  refine xx_iload_n e_M_explore_128 rfl rfl ?_
  refine xc_V2i e_M_explore_129 kv_M_107 (xl_obj rfl) (t_M_safe hk8 ht) ?_
  refine xx_if_eq e_M_explore_132 (fun q => no (fun z => z.2.2.1 q)) (fun q2 => ?_)
  refine xx_aload_n e_M_explore_135 rfl rfl ?_
  refine xx_iload_n e_M_explore_136 rfl rfl ?_
  refine xx_iload_n e_M_explore_137 rfl rfl ?_
  refine xc_V2i e_M_explore_138 kv_M_110 (xl_obj rfl) (t_M_right hk8 ht) ?_
  refine xx_if_eq e_M_explore_141 (fun q => no (fun z => z.2.2.2.1 q)) (fun q3 => ?_)
  refine xx_aload_n e_M_explore_144 rfl rfl ?_
  refine xx_aload_n e_M_explore_145 rfl rfl ?_
  refine xx_iload_n e_M_explore_146 rfl rfl ?_
  refine xx_iload_n e_M_explore_147 rfl rfl ?_
  refine xc_V2i e_M_explore_148 kv_M_113 (xl_obj rfl) (t_M_markAfter hk8 ht) ?_
  refine xx_aload_n e_M_explore_151 rfl rfl ?_
  refine xx_iload_n e_M_explore_152 rfl rfl ?_
  refine xx_iload_n e_M_explore_153 rfl rfl ?_
  refine xc_V2i e_M_explore_154 kv_M_117 (xl_obj rfl) (t_M_codeAfter hk8 ht) ?_
  refine xc_V2i e_M_explore_157 kv_M_120 (xl_obj rfl) (t_M_find hc (by omega)) ?_
  cases hx : xfnd (m_is V (m_mk V k t) (m_cd V k t)) c with
  | some j =>
    have hj := (xfnd_s hx).1
    refine xx_if_ge e_M_explore_160 (fun _ => no (fun z => by have := z.2.2.2.2; rw [hct, hx] at this; cases this)) (fun q => absurd ((xle (x := 0) (z := nI j) (a := 0) rfl rfl (by decide) (by omega)).mpr (Nat.zero_le _)) q)
  | none =>
    refine xx_if_ge e_M_explore_160 (fun q => absurd q (show ¬ (0 : Int32) ≤ -1 by decide)) (fun _ => ?_)
    have hvp : vp_in (V.1 47 13) 81 := by rw [hc]; exact vp_in_nI h8 (xn31 (by decide))
    refine xx_aload_n e_M_explore_163 rfl rfl ?_
    refine xh_getR e_M_explore_164 fg_M_36 rfl rfl ?_
    refine xx_aload_n e_M_explore_167 rfl rfl ?_
    refine xh_get e_M_explore_168 fg_M_81 rfl rfl ?_
    refine xx_aload_n e_M_explore_171 rfl rfl ?_
    refine xx_iload_n e_M_explore_172 rfl rfl ?_
    refine xx_iload_n e_M_explore_173 rfl rfl ?_
    refine xc_V2i e_M_explore_174 kv_M_113 (xl_obj rfl) (t_M_markAfter hk8 ht) ?_
    refine xh_iast e_M_explore_177 rfl hvp ?_
    refine xx_aload_n e_M_explore_178 rfl rfl ?_
    refine xh_getR e_M_explore_179 fg_M_39 rfl rfl ?_
    refine xx_aload_n e_M_explore_182 rfl rfl ?_
    refine xh_get e_M_explore_183 fg_M_81 rfl rfl ?_
    refine xx_aload_n e_M_explore_186 rfl rfl ?_
    refine xx_iload_n e_M_explore_187 rfl rfl ?_
    refine xx_iload_n e_M_explore_188 rfl rfl ?_
    refine xc_V2i e_M_explore_189 kv_M_117 (xl_obj rfl) (t_M_codeAfter hk8 ht) ?_
    refine xh_iast e_M_explore_192 rfl hvp ?_
    refine xx_aload_n e_M_explore_193 rfl rfl ?_
    refine xh_getR e_M_explore_194 fg_M_42 rfl rfl ?_
    refine xx_aload_n e_M_explore_197 rfl rfl ?_
    refine xh_get e_M_explore_198 fg_M_81 rfl rfl ?_
    refine xx_bipush (v := 100) e_M_explore_201 (by decide) ?_
    refine xx_iload_n e_M_explore_203 rfl rfl ?_
    refine xx_imul e_M_explore_204 ?_
    refine xx_iload_n e_M_explore_205 rfl rfl ?_
    refine xx_iadd e_M_explore_206 ?_
    refine xh_iast e_M_explore_207 rfl hvp ?_
    refine xx_aload_n e_M_explore_208 rfl rfl ?_
    refine xx_dup e_M_explore_209 rfl ?_
    refine xh_get e_M_explore_210 fg_M_81 rfl rfl ?_
    refine xx_iconst (v := 1) e_M_explore_213 (by decide) ?_
    refine xx_iadd e_M_explore_214 ?_
    refine xh_put e_M_explore_215 fp_M_81 rfl rfl ⟨rfl, rfl⟩ ?_
    refine kk _ ?_
    unfold m_xs
    rw [if_pos ⟨by omega, q1, q2, q3, by rw [hct]; exact hx⟩]
    rfl
theorem t_M_explore {e sg : Nat} (he : V.1 47 4 = nI e) (h14 : e ≤ 14) (hs : V.1 47 1 = nI sg) (h5 : sg ≤ 5) : xX S (d + 1) 110 0 (xa_ent 3 [.ref 47]) [] V 0 0 (xq none (xl_H xlay (m_xp V sg))) := by
  have fin : ∀ W, W = m_xp V sg → ∀ l1 l2, xX S (d + 1) 110 230 [.ref 47, l1, l2] [] W 0 0 (xq none (xl_H xlay (m_xp V sg))) := by
    intro W hW l1 l2
    refine xx_vret e_M_explore_230 rfl ?_
    rw [hW]
    exact ⟨rfl, rfl⟩
  have states : ∀ n k (W : xl_V), n + k = 81 → (∃ c, W.1 47 13 = nI c ∧ c ≤ 81) → W.1 47 4 = nI e → m_bl n k W = m_xp V sg → ∀ l2, xX S (d + 1) 110 81 [.ref 47, .int (nI k), l2] [] W 0 0 (xq none (xl_H xlay (m_xp V sg))) := by
    intro n
    induction n with
    | zero =>
      intro k W hk hc heW hb l2
      obtain ⟨c, hc, h81⟩ := hc
      refine xx_iload_n e_M_explore_81 rfl rfl ?_
      refine xx_aload_n e_M_explore_82 rfl rfl ?_
      refine xh_get e_M_explore_83 fg_M_81 rfl rfl ?_
      refine xx_icmp_ge e_M_explore_86 (fun q => ?_) (fun q => ?_)
      · exact fin W hb _ _
      · exact absurd ((xle hc rfl (by omega) (by omega)).mpr (by omega)) q
    | succ n ih =>
      intro k W hk hc heW hb l2
      obtain ⟨c, hc, h81⟩ := hc
      have hct := m_ct_c hc h81
      have hge : m_es W = e := by unfold m_es; rw [heW]; exact nI_clamp (xn31 (by omega))
      refine xx_iload_n e_M_explore_81 rfl rfl ?_
      refine xx_aload_n e_M_explore_82 rfl rfl ?_
      refine xh_get e_M_explore_83 fg_M_81 rfl rfl ?_
      refine xx_icmp_ge e_M_explore_86 (fun q => ?_) (fun q => ?_)
      · have e1 := (xle hc rfl (by omega) (by omega)).mp q
        refine fin W ?_ _ _
        rw [← hb]
        unfold m_bl
        rw [if_neg (by omega)]
      · have e1 : k < c := Nat.lt_of_not_le (fun z => q ((xle hc rfl (by omega) (by omega)).mpr z))
        refine xx_aload_n e_M_explore_89 rfl rfl ?_
        refine xh_get e_M_explore_90 fg_M_81 rfl rfl ?_
        refine xx_bipush (v := 81) e_M_explore_93 (by decide) ?_
        refine xx_icmp_ge e_M_explore_95 (fun q1 => ?_) (fun q1 => ?_)
        · have e2 := (xle (a := 81) rfl hc (by decide) (by omega)).mp q1
          refine fin W ?_ _ _
          rw [← hb]
          unfold m_bl
          rw [if_neg (by omega)]
        · have e2 : c < 81 := Nat.lt_of_not_le (fun z => q1 ((xle (a := 81) rfl hc (by decide) (by omega)).mpr z))
          have done : ∀ U, U = m_xr W k e → ∀ l2, xX S (d + 1) 110 224 [.ref 47, .int (nI k), l2] [] U 0 0 (xq none (xl_H xlay (m_xp V sg))) := by
            intro U hU l2
            have hg := m_gr_xr hc h81 k e
            obtain ⟨c1, a1, a2, a3, -⟩ := hg.2.2.2 c hc h81
            refine xh_incN e_M_explore_224 rfl ?_
            refine xx_goto e_M_explore_227 ?_
            rw [hU]
            refine ih (k + 1) _ (by omega) ⟨c1, a1, a3⟩ ((hg.1 47 4 (by decide)).trans heW) ?_ _
            rw [← hb]
            conv => rhs; unfold m_bl
            rw [if_pos ⟨by omega, by omega⟩, hge]
          have edges : ∀ m t, e - t = m → t ≤ e → xX S (d + 1) 110 100 [.ref 47, .int (nI k), .int (nI t)] [] (m_xr W k t) 0 0 (xq none (xl_H xlay (m_xp V sg))) := by
            intro m
            induction m using Nat.strongRecOn with
            | ind m ih2 =>
              intro t hm ht
              have hg := m_gr_xr hc h81 k t
              obtain ⟨c1, a1, a2, a3, -⟩ := hg.2.2.2 c hc h81
              have het : (m_xr W k t).1 47 4 = nI e := (hg.1 47 4 (by decide)).trans heW
              refine xx_iload_n e_M_explore_100 rfl rfl ?_
              refine xx_aload_n e_M_explore_101 rfl rfl ?_
              refine xh_get e_M_explore_102 fg_M_94 rfl rfl ?_
              refine xx_icmp_ge e_M_explore_105 (fun q2 => ?_) (fun q2 => ?_)
              · have e3 := (xle het rfl (by omega) (by omega)).mp q2
                exact done _ (by rw [show t = e by omega]) _
              · have e3 : t < e := Nat.lt_of_not_le (fun z => q2 ((xle het rfl (by omega) (by omega)).mpr z))
                refine xx_aload_n e_M_explore_108 rfl rfl ?_
                refine xh_get e_M_explore_109 fg_M_81 rfl rfl ?_
                refine xx_bipush (v := 81) e_M_explore_112 (by decide) ?_
                refine xx_icmp_ge e_M_explore_114 (fun q3 => ?_) (fun q3 => ?_)
                · have e4 := (xle (a := 81) rfl a1 (by decide) (by omega)).mp q3
                  refine done _ ?_ _
                  have := m_xr_full (V := W) (k := k) (e - t) t (by rw [m_ct_c a1 a3]; exact e4)
                  rw [← this, show t + (e - t) = e by omega]
                · have e4 : c1 < 81 := Nat.lt_of_not_le (fun z => q3 ((xle (a := 81) rfl a1 (by decide) (by omega)).mpr z))
                  refine t_M_x1 (e := e) a1 (by omega) e4 (by omega) (fun U hU => ?_)
                  refine xh_incN e_M_explore_218 rfl ?_
                  refine xx_goto e_M_explore_221 ?_
                  rw [hU]
                  exact ih2 (e - (t + 1)) (by omega) (t + 1) rfl (by omega)
          refine xx_iconst (v := 0) e_M_explore_98 (by decide) ?_
          refine xx_istore_n e_M_explore_99 rfl rfl ?_
          exact edges _ 0 rfl (Nat.zero_le _)
  have code0 : ∀ n s, sg - s = n → s ≤ sg → xX S (d + 1) 110 19 [.ref 47, .int (nI s), xa_j] [] (m_h V s) 0 0 (xq none (xl_H xlay (m_xp V sg))) := by
    intro n
    induction n using Nat.strongRecOn with
    | ind n ih =>
      intro s hn hsg
      have hs' : (m_h V s).1 47 1 = nI sg := by rw [m_h_1]; exact hs
      have put : ∀ z, xl_a (m_h V s) 55 (upd ((m_h V s).2.1 55) 0 z) = m_h V (s + 1) → s < sg → xX S (d + 1) 110 60 [.ref 47, .int (nI s), xa_j] [.int z, .int (nI 0), .ref 55] (m_h V s) 0 0 (xq none (xl_H xlay (m_xp V sg))) := by
        intro z hz h1
        refine xh_iasN e_M_explore_60 rfl (by omega) ?_
        refine xh_incN e_M_explore_61 rfl ?_
        refine xx_goto e_M_explore_64 ?_
        rw [hz]
        exact ih (sg - (s + 1)) (by omega) (s + 1) rfl (by omega)
      refine xx_iload_n e_M_explore_19 rfl rfl ?_
      refine xx_aload_n e_M_explore_20 rfl rfl ?_
      refine xh_get e_M_explore_21 fg_M_84 rfl rfl ?_
      refine xx_icmp_ge e_M_explore_24 (fun q => ?_) (fun q => ?_)
      · have e1 : s = sg := Nat.le_antisymm hsg ((xle hs' rfl (by omega) (by omega)).mp q)
        refine xx_aload_n e_M_explore_67 rfl rfl ?_
        refine xh_getR e_M_explore_68 fg_M_42 rfl rfl ?_
        refine xx_iconst (v := 0) e_M_explore_71 (by decide) ?_
        refine xx_iconst (v := (-1)) e_M_explore_72 (by decide) ?_
        refine xh_iasN e_M_explore_73 rfl (k0 := 0) (by decide) ?_
        refine xx_aload_n e_M_explore_74 rfl rfl ?_
        refine xx_iconst (v := 1) e_M_explore_75 (by decide) ?_
        refine xh_put e_M_explore_76 fp_M_81 rfl rfl ⟨rfl, rfl⟩ ?_
        refine xx_iconst (v := 0) e_M_explore_79 (by decide) ?_
        refine xx_istore_n e_M_explore_80 rfl rfl ?_
        rw [e1]
        exact states 81 0 (m_b0 V sg) rfl ⟨1, rfl, by decide⟩ (show (m_h V sg).1 47 4 = nI e by rw [m_h_1]; exact he) rfl _
      · have e1 : s < sg := Nat.lt_of_not_le (fun z => q ((xle hs' rfl (by omega) (by omega)).mpr z))
        refine xx_aload_n e_M_explore_27 rfl rfl ?_
        refine xh_getR e_M_explore_28 fg_M_39 rfl rfl ?_
        refine xx_iconst (v := 0) e_M_explore_31 (by decide) ?_
        refine xx_aload_n e_M_explore_32 rfl rfl ?_
        refine xh_getR e_M_explore_33 fg_M_13 rfl rfl ?_
        refine xx_iload_n e_M_explore_36 rfl rfl ?_
        refine xh_balN e_M_explore_37 rfl (by omega) ?_
        refine xx_if_eq e_M_explore_38 (fun q1 => ?_) (fun q1 => ?_)
        · skip
          refine xx_aload_n e_M_explore_54 rfl rfl ?_
          refine xh_getR e_M_explore_55 fg_M_39 rfl rfl ?_
          refine xx_iconst (v := 0) e_M_explore_58 (by decide) ?_
          refine xh_ialN e_M_explore_59 rfl (k0 := 0) (by decide) ?_
          exact put _ (by show _ = xl_a _ _ _; rw [if_pos q1]) e1
        · skip
          refine xx_aload_n e_M_explore_41 rfl rfl ?_
          refine xh_getR e_M_explore_42 fg_M_39 rfl rfl ?_
          refine xx_iconst (v := 0) e_M_explore_45 (by decide) ?_
          refine xh_ialN e_M_explore_46 rfl (k0 := 0) (by decide) ?_
          refine xx_iconst (v := 1) e_M_explore_47 (by decide) ?_
          refine xx_iload_n e_M_explore_48 rfl rfl ?_
          refine xx_ishl e_M_explore_49 ?_
          refine xx_ior e_M_explore_50 ?_
          refine xx_goto e_M_explore_51 ?_
          exact put _ (by show _ = xl_a _ _ _; rw [if_neg q1]) e1
  refine xx_aload_n e_M_explore_0 rfl rfl ?_
  refine xh_getR e_M_explore_1 fg_M_36 rfl rfl ?_
  refine xx_iconst (v := 0) e_M_explore_4 (by decide) ?_
  refine xx_aload_n e_M_explore_5 rfl rfl ?_
  refine xh_get e_M_explore_6 fg_M_100 rfl rfl ?_
  refine xh_iasN e_M_explore_9 rfl (k0 := 0) (by decide) ?_
  refine xx_aload_n e_M_explore_10 rfl rfl ?_
  refine xh_getR e_M_explore_11 fg_M_39 rfl rfl ?_
  refine xx_iconst (v := 0) e_M_explore_14 (by decide) ?_
  refine xx_iconst (v := 0) e_M_explore_15 (by decide) ?_
  refine xh_iasN e_M_explore_16 rfl (k0 := 0) (by decide) ?_
  refine xx_iconst (v := 0) e_M_explore_17 (by decide) ?_
  refine xx_istore_n e_M_explore_18 rfl rfl ?_
  exact code0 _ 0 rfl (Nat.zero_le _)
end XModel4
