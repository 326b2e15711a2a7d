/-! The reference: the states are closed; analysing. -/
section XModel5
variable {S : Nat × (Nat → Int32)} {V : xl_V} {d : Nat}
/-- what fires well at k leads to a state that is there -/
def m_C (V : xl_V) (k t : Nat) : Prop := ¬ m_en V k t = 0 → ¬ m_sf V k t = 0 → ¬ m_rt V k t = 0 → ∃ j, xfnd (m_is V (m_mk V k t) (m_cd V k t)) (m_ct V) = some j
theorem m_gr_k {W : xl_V} {c k : Nat} (h : m_gr V W) (hc : V.1 47 13 = nI c) (h8 : c ≤ 81) (hk : k < c) (t : Nat) :
    m_en W k t = m_en V k t ∧ m_sf W k t = m_sf V k t ∧ m_rt W k t = m_rt V k t ∧ m_mk W k t = m_mk V k t ∧ m_cd W k t = m_cd V k t := by
  obtain ⟨h1, h2, h3, h4⟩ := h
  obtain ⟨c1, a1, a2, a3, a4⟩ := h4 c hc h8
  obtain ⟨x1, x2, x3⟩ := a4 k hk
  have e50 := h2 50 (by decide) (by decide) (by decide)
  have e51 := h2 51 (by decide) (by decide) (by decide)
  have e52 := h2 52 (by decide) (by decide) (by decide)
  have e53 := h2 53 (by decide) (by decide) (by decide)
  refine ⟨?_, ?_, ?_, ?_, ?_⟩
  · unfold m_en; rw [x1, e52]
  · unfold m_sf; rw [x1, e52, e53]
  · unfold m_rt; rw [x2, e50, e51]
  · unfold m_mk; rw [x1, e52, e53]
  · unfold m_cd; rw [x2, e50, e51]
theorem m_C_gr {W : xl_V} {c k t : Nat} (h : m_gr V W) (hc : V.1 47 13 = nI c) (h8 : c ≤ 81) (hk : k < c) (hC : m_C V k t) : m_C W k t := by
  intro e1 e2 e3
  obtain ⟨k1, k2, k3, k4, k5⟩ := m_gr_k h hc h8 hk t
  rw [k1] at e1
  rw [k2] at e2
  rw [k3] at e3
  obtain ⟨j, hj⟩ := hC e1 e2 e3
  obtain ⟨c1, a1, a2, a3, a4⟩ := h.2.2.2 c hc h8
  rw [m_ct_c hc h8] at hj
  obtain ⟨j1, j2, -⟩ := xfnd_s hj
  obtain ⟨x1, x2, -⟩ := a4 j j1
  rw [k4, k5, m_ct_c a1 a3]
  cases hx : xfnd (m_is W (m_mk V k t) (m_cd V k t)) c1 with
  | some i => exact ⟨i, rfl⟩
  | none =>
    have := xfnd_n hx j (by omega)
    unfold m_is at this j2
    rw [x1, x2, j2] at this
    cases this
theorem m_C_xs {c k t : Nat} (hc : V.1 47 13 = nI c) (h8 : c < 81) (hk : k < c) : m_C (m_xs V k t) k t := by
  have hct := m_ct_c hc (by omega)
  unfold m_xs
  split
  · intro e1 e2 e3
    have hg := m_gr_ad hc h8 k t
    obtain ⟨k1, k2, k3, k4, k5⟩ := m_gr_k hg hc (by omega) hk t
    have hc' : (m_ad V k t).1 47 13 = nI (c + 1) := by
      show V.1 47 13 + 1 = _
      rw [hc, nI_1]
    rw [k4, k5, m_ct_c hc' (by omega)]
    cases hx : xfnd (m_is (m_ad V k t) (m_mk V k t) (m_cd V k t)) (c + 1) with
    | some i => exact ⟨i, rfl⟩
    | none =>
      have := xfnd_n hx c (by omega)
      have e4 : (m_ad V k t).2.1 54 c = m_mk V k t := by
        show upd (V.2.1 54) (m_ct V) _ c = _
        rw [hct]; exact pk_us
      have e5 : (m_ad V k t).2.1 55 c = m_cd V k t := by
        show upd (V.2.1 55) (m_ct V) _ c = _
        rw [hct]; exact pk_us
      unfold m_is at this
      rw [e4, e5] at this
      exact absurd ⟨rfl, rfl⟩ (of_decide_eq_false this)
  · rename_i h
    intro e1 e2 e3
    cases hx : xfnd (m_is V (m_mk V k t) (m_cd V k t)) (m_ct V) with
    | some i => exact ⟨i, rfl⟩
    | none => exact absurd ⟨by omega, e1, e2, e3, hx⟩ h
theorem m_C_xr {c k : Nat} (hc : V.1 47 13 = nI c) (h8 : c ≤ 81) (hk : k < c) : ∀ t, m_ct (m_xr V k t) < 81 → ∀ u, u < t → m_C (m_xr V k t) k u
  | 0, _, u, hu => absurd hu (Nat.not_lt_zero u)
  | t + 1, h, u, hu => by
    have hg := m_gr_xr hc h8 k t
    obtain ⟨c1, a1, a2, a3, -⟩ := hg.2.2.2 c hc h8
    have hx := m_gr_xs a1 a3 k t
    obtain ⟨c2, b1, b2, b3, -⟩ := hx.2.2.2 c1 a1 a3
    have hct2 : m_ct (m_xr V k (t + 1)) = c2 := m_ct_c b1 b3
    have hlt : c1 < 81 := by omega
    rcases Nat.lt_or_ge u t with hu1 | hu1
    · exact m_C_gr hx a1 a3 (by omega) (m_C_xr hc h8 hk t (by rw [m_ct_c a1 a3]; exact hlt) u hu1)
    · rw [show u = t by omega]
      exact m_C_xs a1 hlt (by omega)
theorem m_gr_bl {e : Nat} : ∀ n k (V : xl_V), (∃ c, V.1 47 13 = nI c ∧ c ≤ 81) → V.1 47 4 = nI e → e ≤ 14 → n + k = 81 →
    m_gr V (m_bl n k V) ∧ ((∀ i, i < k → i < m_ct V → ∀ t, t < e → m_C V i t) → m_ct (m_bl n k V) < 81 → ∀ i, i < m_ct (m_bl n k V) → ∀ t, t < e → m_C (m_bl n k V) i t)
  | 0, k, V, hc, he, h14, hk => ⟨m_gr_r V, fun h hlt i hi t ht => h i (by have hi : i < m_ct V := hi; have hlt : m_ct V < 81 := hlt; omega) hi t ht⟩
  | n + 1, k, V, hc, he, h14, hk => by
    obtain ⟨c, hc, h81⟩ := hc
    have hct := m_ct_c hc h81
    have hge : m_es V = e := by unfold m_es; rw [he]; exact nI_clamp (xn31 (by omega))
    unfold m_bl
    split
    · rename_i h
      rw [hge]
      have hg := m_gr_xr hc h81 k e
      obtain ⟨c1, a1, a2, a3, -⟩ := hg.2.2.2 c hc h81
      obtain ⟨g1, g2⟩ := m_gr_bl n (k + 1) (m_xr V k e) ⟨c1, a1, a3⟩ ((hg.1 47 4 (by decide)).trans he) h14 (by omega)
      refine ⟨m_gr_t hg g1, fun hC hlt => g2 (fun i hi hic t ht => ?_) hlt⟩
      obtain ⟨c2, b1, b2, b3, -⟩ := g1.2.2.2 c1 a1 a3
      rw [m_ct_c b1 b3] at hlt
      rcases Nat.lt_or_ge i k with h1 | h1
      · exact m_C_gr hg hc h81 (by omega) (hC i h1 (by omega) t ht)
      · rw [show i = k by omega]
        exact m_C_xr hc h81 (by omega) e (by rw [m_ct_c a1 a3]; omega) t ht
    · rename_i h
      exact ⟨m_gr_r V, fun hC hlt i hi t ht => hC i (by omega) hi t ht⟩
theorem m_gr_xp {e sg : Nat} (he : V.1 47 4 = nI e) (h14 : e ≤ 14) : m_gr (m_b0 V sg) (m_xp V sg) ∧ (m_ct (m_xp V sg) < 81 → ∀ i, i < m_ct (m_xp V sg) → ∀ t, t < e → m_C (m_xp V sg) i t) := by
  have h := m_gr_bl (e := e) 81 0 (m_b0 V sg) ⟨1, rfl, by decide⟩ (show (m_h V sg).1 47 4 = nI e by rw [m_h_1]; exact he) h14 rfl
  exact ⟨h.1, h.2 (fun i hi => absurd hi (Nat.not_lt_zero i))⟩
def m_ban (W : xl_V) (e c v : Nat) : Option Nat := xfnd (fun k => decide (¬ m_bd W e c v k = 0)) c
def m_vs (W : xl_V) (e c : Nat) : Nat → Nat → Int32 × xl_V
  | 0, _ => (0, xl_i W 47 11 0)
  | n + 1, v => match m_ban W e c v with
    | some k => (nI v, xl_i (xl_i W 47 11 (nI v)) 47 12 (nI k))
    | none => m_vs W e c n (v + 1)
def m_an2 (W : xl_V) (e : Nat) : Int32 × xl_V := if 80 < m_ct W then (5, xl_i (xl_i W 47 13 0) 47 11 5) else m_vs W e (m_ct W) 4 1
def m_an (V : xl_V) (e sg : Nat) : Int32 × xl_V := m_an2 (m_xp (m_di (xl_i V 47 0 0)) sg) e
theorem t_M_analyse {e sg : Nat} (he : V.1 47 4 = nI e) (h14 : e ≤ 14) (hs : V.1 47 1 = nI sg) (h5 : sg ≤ 5) (hsg : ∀ t, t < e → vp_in (V.2.1 50 t) 5) : xX S (d + 4) 109 0 (xa_ent 3 [.ref 47]) [] V 0 0 (xq (some (.int (m_an V e sg).1)) (xl_H xlay (m_an V e sg).2)) := by
  refine xx_aload_n e_M_analyse_0 rfl rfl ?_
  refine xx_iconst (v := 0) e_M_analyse_1 (by decide) ?_
  refine xh_put e_M_analyse_2 fp_M_78 rfl rfl ⟨rfl, rfl⟩ ?_
  refine xx_aload_n e_M_analyse_5 rfl rfl ?_
  refine xc_V0v e_M_analyse_6 kv_M_87 (xl_obj rfl) (t_M_discard) ?_
  have u1 : ∀ k, k ≠ 11 → k ≠ 12 → k ≠ 13 → (m_di (xl_i V 47 0 0)).1 47 k = (xl_i V 47 0 0).1 47 k := fun k h1 h2 h3 => by
    unfold m_di
    rw [m_d5_1]
    show (if 47 = 47 ∧ k = 13 then _ else if 47 = 47 ∧ k = 12 then _ else if 47 = 47 ∧ k = 11 then _ else _) = _
    rw [if_neg (fun z => h3 z.2), if_neg (fun z => h2 z.2), if_neg (fun z => h1 z.2)]
  have heU : (m_di (xl_i V 47 0 0)).1 47 4 = nI e := (u1 4 (by decide) (by decide) (by decide)).trans he
  have hsU : (m_di (xl_i V 47 0 0)).1 47 1 = nI sg := (u1 1 (by decide) (by decide) (by decide)).trans hs
  have h50 : (m_di (xl_i V 47 0 0)).2.1 50 = V.2.1 50 := m_di_a (xl_i V 47 0 0) (by decide : 50 ≠ 57)
  unfold m_an
  generalize m_di (xl_i V 47 0 0) = U at heU hsU h50 ⊢
  refine xx_aload_n e_M_analyse_9 rfl rfl ?_
  refine xc_V0v e_M_analyse_10 kv_M_139 (xl_obj rfl) (t_M_explore heU h14 hsU h5) ?_
  obtain ⟨gx, cx⟩ := m_gr_xp (sg := sg) heU h14
  obtain ⟨c, hc, -, h81, -⟩ := gx.2.2.2 1 rfl (by decide)
  have heW : (m_xp U sg).1 47 4 = nI e := (gx.1 47 4 (by decide)).trans (show (m_h U sg).1 47 4 = nI e by rw [m_h_1]; exact heU)
  have h50W : (m_xp U sg).2.1 50 = V.2.1 50 := by
    rw [gx.2.1 50 (by decide) (by decide) (by decide)]
    show (m_h U sg).2.1 50 = _
    rw [m_h_a U (by decide) (by decide)]
    exact h50
  have hsgW : ∀ t, t < e → vp_in ((m_xp U sg).2.1 50 t) 5 := fun t ht => by rw [h50W]; exact hsg t ht
  generalize m_xp U sg = W at gx cx hc heW h50W hsgW ⊢
  have hct := m_ct_c hc h81
  rw [hct] at cx
  refine xx_aload_n e_M_analyse_13 rfl rfl ?_
  refine xh_get e_M_analyse_14 fg_M_81 rfl rfl ?_
  refine xx_bipush (v := 80) e_M_analyse_17 (by decide) ?_
  refine xx_icmp_le e_M_analyse_19 (fun q => ?_) (fun q => ?_)
  · have e1 : c ≤ 80 := (xle (b := 80) hc rfl (by omega) (by decide)).mp q
    have ean : m_an2 W e = m_vs W e c 4 1 := by unfold m_an2; rw [if_neg (by omega), hct]
    rw [ean]
    have verd : ∀ n v, n + v = 5 → v ≠ 0 → (∀ v', v' ≠ 0 → v' < v → m_ban W e c v' = none) → m_vs W e c 4 1 = m_vs W e c n v → ∀ l2, xX S (d + 4) 109 36 [.ref 47, .int (nI v), l2] [] W 0 0 (xq (some (.int (m_vs W e c 4 1).1)) (xl_H xlay (m_vs W e c 4 1).2)) := by
      intro n
      induction n with
      | zero =>
        intro v hv hv0 hb hvs l2
        refine xx_iload_n e_M_analyse_36 rfl rfl ?_
        refine xx_iconst (v := 5) e_M_analyse_37 (by decide) ?_
        refine xx_icmp_ge e_M_analyse_38 (fun q1 => ?_) (fun q1 => absurd ((xle (a := 5) rfl rfl (by decide) (by omega)).mpr (by omega)) q1)
        refine xx_aload_n e_M_analyse_84 rfl rfl ?_
        refine xx_iconst (v := 0) e_M_analyse_85 (by decide) ?_
        refine xh_put e_M_analyse_86 fp_M_29 rfl rfl ⟨rfl, rfl⟩ ?_
        refine xx_iconst (v := 0) e_M_analyse_89 (by decide) ?_
        refine xx_iret e_M_analyse_90 rfl rfl ?_
        rw [hvs]
        exact ⟨rfl, rfl⟩
      | succ n ih =>
        intro v hv hv0 hb hvs l2
        have hf : ∀ k, k < c → v = 3 → ∀ t, t < e → ¬ m_en W k t = 0 → ∃ j, xfnd (m_is W (m_mk W k t) (m_cd W k t)) c = some j := by
          intro k hk h3 t ht hen
          have n1 := xfnd_n (hb 1 (by decide) (by omega)) k hk
          have n2 := xfnd_n (hb 2 (by decide) (by omega)) k hk
          have go : ∀ v', v' < 3 → decide (¬ m_bd W e c v' k = 0) = false → m_b1 W v' k t = false := by
            intro v' hv' hd
            have hd := Decidable.not_not.mp (of_decide_eq_false hd)
            unfold m_bd at hd
            rw [if_pos hv'] at hd
            cases hx : xfnd (m_b1 W v' k) e with
            | none => exact xfnd_n hx t ht
            | some j => rw [hx] at hd; exact absurd (show (1 : Int32) = 0 from hd) (by decide)
          have m1 := of_decide_eq_false (go 1 (by decide) n1)
          have m2 := of_decide_eq_false (go 2 (by decide) n2)
          have := cx (by omega) k hk t ht hen (fun z => m1 ⟨hen, by rw [if_pos rfl]; exact z⟩) (fun z => m2 ⟨hen, by rw [if_neg (by decide)]; exact z⟩)
          rw [hct] at this
          exact this
        have states : ∀ m k, c - k = m → k ≤ c → (∀ i, i < k → (fun k => decide (¬ m_bd W e c v k = 0)) i = false) → xX S (d + 4) 109 43 [.ref 47, .int (nI v), .int (nI k)] [] W 0 0 (xq (some (.int (m_vs W e c 4 1).1)) (xl_H xlay (m_vs W e c 4 1).2)) := by
          intro m
          induction m using Nat.strongRecOn with
          | ind m ih2 =>
            intro k hm hk hin
            refine xx_iload_n e_M_analyse_43 rfl rfl ?_
            refine xx_aload_n e_M_analyse_44 rfl rfl ?_
            refine xh_get e_M_analyse_45 fg_M_81 rfl rfl ?_
            refine xx_icmp_ge e_M_analyse_48 (fun q1 => ?_) (fun q1 => ?_)
            · have e2 : c ≤ k := (xle hc rfl (by omega) (by omega)).mp q1
              have hn : m_ban W e c v = none := xfnd_o (fun i hi => hin i (by omega))
              refine xh_incN e_M_analyse_78 rfl ?_
              refine xx_goto e_M_analyse_81 ?_
              refine ih (v + 1) (by omega) (by omega) (fun v' h0 hlt => ?_) ?_ _
              · rcases Nat.lt_or_ge v' v with h | h
                · exact hb v' h0 h
                · rw [show v' = v by omega]; exact hn
              · rw [hvs]
                show (match m_ban W e c v with | some k => _ | none => _) = _
                rw [hn]
            · have e2 : k < c := Nat.lt_of_not_le (fun z => q1 ((xle hc rfl (by omega) (by omega)).mpr z))
              refine xx_aload_n e_M_analyse_51 rfl rfl ?_
              refine xx_iload_n e_M_analyse_52 rfl rfl ?_
              refine xx_iload_n e_M_analyse_53 rfl rfl ?_
              refine xc_V2i e_M_analyse_54 kv_M_142 (xl_obj rfl) (t_M_bad heW h14 hc h81 e2 hsgW (by omega) (hf k e2) hv0) ?_
              refine xx_if_eq e_M_analyse_57 (fun q2 => ?_) (fun q2 => ?_)
              · skip
                refine xh_incN e_M_analyse_72 rfl ?_
                refine xx_goto e_M_analyse_75 ?_
                exact ih2 (c - (k + 1)) (by omega) (k + 1) rfl (by omega) (lt_s' hin (decide_eq_false (fun z => z q2)))
              · have hn : m_ban W e c v = some k := xfnd_i e2 (decide_eq_true q2) hin
                refine xx_aload_n e_M_analyse_60 rfl rfl ?_
                refine xx_iload_n e_M_analyse_61 rfl rfl ?_
                refine xh_put e_M_analyse_62 fp_M_29 rfl rfl ⟨rfl, rfl⟩ ?_
                refine xx_aload_n e_M_analyse_65 rfl rfl ?_
                refine xx_iload_n e_M_analyse_66 rfl rfl ?_
                refine xh_put e_M_analyse_67 fp_M_33 rfl rfl ⟨rfl, rfl⟩ ?_
                refine xx_iload_n e_M_analyse_70 rfl rfl ?_
                refine xx_iret e_M_analyse_71 rfl rfl ?_
                have hr : m_vs W e c 4 1 = (nI v, xl_i (xl_i W 47 11 (nI v)) 47 12 (nI k)) := by
                  rw [hvs]
                  show (match m_ban W e c v with | some k => _ | none => _) = _
                  rw [hn]
                rw [hr]
                exact ⟨rfl, rfl⟩
        refine xx_iload_n e_M_analyse_36 rfl rfl ?_
        refine xx_iconst (v := 5) e_M_analyse_37 (by decide) ?_
        refine xx_icmp_ge e_M_analyse_38 (fun q1 => by have := (xle (a := 5) rfl rfl (by decide) (by omega)).mp q1; omega) (fun q1 => ?_)
        refine xx_iconst (v := 0) e_M_analyse_41 (by decide) ?_
        refine xx_istore_n e_M_analyse_42 rfl rfl ?_
        exact states _ 0 rfl (Nat.zero_le _) (fun i hi => absurd hi (Nat.not_lt_zero i))
    refine xx_iconst (v := 1) e_M_analyse_34 (by decide) ?_
    refine xx_istore_n e_M_analyse_35 rfl rfl ?_
    exact verd 4 1 rfl (by decide) (fun v' h0 h1 => by omega) rfl _
  · have e1 : ¬ c ≤ 80 := fun z => q ((xle (b := 80) hc rfl (by omega) (by decide)).mpr z)
    have ean : m_an2 W e = (5, xl_i (xl_i W 47 13 0) 47 11 5) := by unfold m_an2; rw [if_pos (by omega)]
    rw [ean]
    refine xx_aload_n e_M_analyse_22 rfl rfl ?_
    refine xx_iconst (v := 0) e_M_analyse_23 (by decide) ?_
    refine xh_put e_M_analyse_24 fp_M_81 rfl rfl ⟨rfl, rfl⟩ ?_
    refine xx_aload_n e_M_analyse_27 rfl rfl ?_
    refine xx_iconst (v := 5) e_M_analyse_28 (by decide) ?_
    refine xh_put e_M_analyse_29 fp_M_29 rfl rfl ⟨rfl, rfl⟩ ?_
    refine xx_iconst (v := 5) e_M_analyse_32 (by decide) ?_
    refine xx_iret e_M_analyse_33 rfl rfl ?_
    exact ⟨rfl, rfl⟩
end XModel5
