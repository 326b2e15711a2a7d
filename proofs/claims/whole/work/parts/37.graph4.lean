/-! The graph: expanding a state, building. -/
section XGraph4
variable {S : Nat × (Nat → Int32)} {V : xl_V} {d : Nat}
def g_xr (V : xl_V) (k : Nat) : Nat → xl_V
  | 0 => V
  | t + 1 => g_xs (g_xr V k t) k t
/-- what stays and what grows when the graph does -/
def g_gr (V W : xl_V) : Prop := W.1 1 = V.1 1 ∧ ∀ c, V.1 6 0 = nI c → c ≤ 80 → ∃ c', W.1 6 0 = nI c' ∧ c ≤ c' ∧ c' ≤ 80
theorem g_gr_r (V : xl_V) : g_gr V V := ⟨rfl, fun c h h8 => ⟨c, h, Nat.le_refl _, h8⟩⟩
theorem g_gr_t {V W U : xl_V} (h : g_gr V W) (h2 : g_gr W U) : g_gr V U := ⟨h2.1.trans h.1, fun c hc h8 => by
  obtain ⟨c1, a1, a2, a3⟩ := h.2 c hc h8
  obtain ⟨c2, b1, b2, b3⟩ := h2.2 c1 a1 a3
  exact ⟨c2, b1, by omega, b3⟩⟩
theorem g_gr_s {V W : xl_V} (h : W.1 1 = V.1 1) (h0 : W.1 6 0 = V.1 6 0) : g_gr V W := ⟨h, fun c hc h8 => ⟨c, h0.trans hc, Nat.le_refl _, h8⟩⟩
theorem g_gr_fi {c k t : Nat} (hc : V.1 6 0 = nI c) (h8 : c ≤ 80) : g_gr V (g_fi V c k t).2 := by
  unfold g_fi
  split
  · exact g_gr_r V
  · split
    · exact g_gr_s rfl rfl
    · rename_i h
      refine ⟨rfl, fun c1 h1 h2 => ⟨c + 1, rfl, ?_, by omega⟩⟩
      have : c1 = c := (nI_eq (xn31 (by omega)) (xn31 (by omega))).mp (h1.symm.trans hc)
      omega
theorem g_gr_xs {c k t : Nat} (hc : V.1 6 0 = nI c) (h8 : c ≤ 80) : g_gr V (g_xs V k t) := by
  have h0 : g_gr V (g_ne (xl_a V 12 (upd (V.2.1 12) (k * 14 + t) (-1))) k t) := g_gr_s (by rw [g_ne_1]; rfl) (by rw [g_ne_1]; rfl)
  have hu : ∀ W : xl_V, g_gr W (g_nu W k) := fun W => by
    unfold g_nu; split
    · exact g_gr_s rfl rfl
    · exact g_gr_r W
  have hw : ∀ W : xl_V, g_gr W (g_nw W k) := fun W => by
    unfold g_nw; split
    · exact g_gr_s rfl rfl
    · exact g_gr_r W
  unfold g_xs
  split
  · exact g_gr_s rfl rfl
  · split
    · split
      · exact g_gr_t h0 (g_gr_t (hu _) (hw _))
      · exact g_gr_t h0 (hu _)
    · split
      · exact g_gr_t h0 (hw _)
      · refine g_gr_t h0 ?_
        generalize hW : g_ne (xl_a V 12 (upd (V.2.1 12) (k * 14 + t) (-1))) k t = W
        have w1 : W.1 = V.1 := by rw [← hW, g_ne_1]; rfl
        have hcW : W.1 6 0 = nI c := by rw [w1]; exact hc
        have hct : g_ct W = c := by unfold g_ct; rw [hcW]; exact nI_clamp (xn31 (by omega))
        unfold g_x2
        rw [hct]
        exact g_gr_t (g_gr_fi hcW h8) (g_gr_s rfl rfl)
theorem g_gr_xr {c k : Nat} (hc : V.1 6 0 = nI c) (h8 : c ≤ 80) : ∀ t, g_gr V (g_xr V k t)
  | 0 => g_gr_r V
  | t + 1 => by
    have h := g_gr_xr hc h8 (k := k) t
    obtain ⟨c1, a1, a2, a3⟩ := h.2 c hc h8
    exact g_gr_t h (g_gr_xs a1 a3)
theorem t_G_expand {k c e : Nat} (hc : V.1 6 0 = nI c) (hk : k < c) (h80 : c ≤ 80) (he : V.1 1 1 = nI e) (h14 : e ≤ 14) : xX S (d + 3) 13 0 (xa_ent 6 [.ref 6, .ref 1, .int (nI k)]) [] V 0 0 (xq none (xl_H xlay (g_xr V k e))) := by
  have loop : ∀ n t, e - t = n → t ≤ e → xX S (d + 3) 13 2 [.ref 6, .ref 1, .int (nI k), .int (nI t), xa_j, xa_j] [] (g_xr V k t) 0 0 (xq none (xl_H xlay (g_xr V k e))) := by
    intro n
    induction n using Nat.strongRecOn with
    | ind n ih =>
      intro t hn ht
      have hg := g_gr_xr hc h80 (k := k) t
      have he' : (g_xr V k t).1 1 1 = nI e := by rw [hg.1]; exact he
      obtain ⟨c1, a1, a2, a3⟩ := hg.2 c hc h80
      refine xx_iload_n e_G_expand_2 rfl rfl ?_
      refine xx_aload_n e_G_expand_3 rfl rfl ?_
      refine xh_get e_G_expand_4 fg_G_60 rfl rfl ?_
      refine xx_icmp_ge e_G_expand_7 (fun q => ?_) (fun q => ?_)
      · have e1 : t = e := Nat.le_antisymm ht ((xle he' rfl (by omega) (by omega)).mp q)
        refine xx_vret e_G_expand_139 rfl ?_
        rw [e1]
        exact ⟨rfl, rfl⟩
      · have e1 : t < e := Nat.lt_of_not_le (fun z => q ((xle he' rfl (by omega) (by omega)).mpr z))
        refine t_G_x1 (d := d) a1 (by omega) a3 (by omega) (fun W hW => ?_) xa_j xa_j
        refine xh_incN e_G_expand_133 rfl ?_
        refine xx_goto e_G_expand_136 ?_
        rw [hW]
        exact ih (e - (t + 1)) (by omega) (t + 1) rfl (by omega)
  refine xx_iconst (v := 0) e_G_expand_0 (by decide) ?_
  refine xx_istore_n e_G_expand_1 rfl rfl ?_
  exact loop _ 0 rfl (Nat.zero_le _)
def g_e (V : xl_V) : Nat := (V.1 1 1).toNatClampNeg
def g_bl : Nat → Nat → xl_V → xl_V
  | 0, _, V => V
  | n + 1, k, V => if k < g_ct V ∧ V.1 6 8 = 0 then g_bl n (k + 1) (g_xr V k (g_e V)) else V
/-- nothing but the first state -/
def g_b0 (V : xl_V) : xl_V := g_ad (xl_i (xl_i (xl_i (xl_i V 6 8 0) 6 9 (-1)) 6 10 (-1)) 6 0 0) 0 (V.1 1 4) (V.1 1 3) (-1)
def g_bd (V : xl_V) : xl_V := if (g_bl 80 0 (g_b0 V)).1 6 8 = 0 then g_bl 80 0 (g_b0 V) else xl_i (g_bl 80 0 (g_b0 V)) 6 0 0
theorem t_G_build {e : Nat} (he : V.1 1 1 = nI e) (h14 : e ≤ 14) : xX S (d + 4) 11 0 (xa_ent 3 [.ref 6, .ref 1]) [] V 0 0 (xq none (xl_H xlay (g_bd V))) := by
  have tail : ∀ W : xl_V, W = g_bl 80 0 (g_b0 V) → ∀ l2, xX S (d + 4) 11 69 [.ref 6, .ref 1, l2] [] W 0 0 (xq none (xl_H xlay (g_bd V))) := by
    intro W hW l2
    refine xx_aload_n e_G_build_69 rfl rfl ?_
    refine xh_get e_G_build_70 fg_G_30 rfl rfl ?_
    refine xx_if_eq e_G_build_73 (fun q => ?_) (fun q => ?_)
    · skip
      refine xx_vret e_G_build_81 rfl ?_
      unfold g_bd
      rw [← hW]
      exact ⟨rfl, congrArg (xl_H xlay) (if_pos q).symm⟩
    · skip
      refine xx_aload_n e_G_build_76 rfl rfl ?_
      refine xx_iconst (v := 0) e_G_build_77 (by decide) ?_
      refine xh_put e_G_build_78 fp_G_41 rfl rfl ⟨rfl, rfl⟩ ?_
      refine xx_vret e_G_build_81 rfl ?_
      unfold g_bd
      rw [← hW]
      exact ⟨rfl, congrArg (xl_H xlay) (if_neg q).symm⟩
  have loop : ∀ n k (W : xl_V), n + k = 80 → (∃ c, W.1 6 0 = nI c ∧ c ≤ 80) → W.1 1 1 = nI e → g_bl n k W = g_bl 80 0 (g_b0 V) → xX S (d + 4) 11 36 [.ref 6, .ref 1, .int (nI k)] [] W 0 0 (xq none (xl_H xlay (g_bd V))) := by
    intro n
    induction n with
    | zero =>
      intro k W hk hc heW hb
      refine xx_iload_n e_G_build_36 rfl rfl ?_
      refine xx_bipush (v := 80) e_G_build_37 (by decide) ?_
      refine xx_icmp_ge e_G_build_39 (fun q => ?_) (fun q => ?_)
      · exact tail W hb _
      · exact absurd ((xle (a := 80) rfl rfl (by decide) (by omega)).mpr (by omega)) q
    | succ n ih =>
      intro k W hk hc heW hb
      obtain ⟨c, hc, h80⟩ := hc
      have hct : g_ct W = c := by unfold g_ct; rw [hc]; exact nI_clamp (xn31 (by omega))
      have hge : g_e W = e := by unfold g_e; rw [heW]; exact nI_clamp (xn31 (by omega))
      refine xx_iload_n e_G_build_36 rfl rfl ?_
      refine xx_bipush (v := 80) e_G_build_37 (by decide) ?_
      refine xx_icmp_ge e_G_build_39 (fun q => ?_) (fun q => ?_)
      · have := (xle (a := 80) rfl rfl (by decide) (by omega)).mp q
        omega
      · skip
        refine xx_iload_n e_G_build_42 rfl rfl ?_
        refine xx_aload_n e_G_build_43 rfl rfl ?_
        refine xh_get e_G_build_44 fg_G_41 rfl rfl ?_
        refine xx_icmp_ge e_G_build_47 (fun q1 => ?_) (fun q1 => ?_)
        · have e1 := (xle hc rfl (by omega) (by omega)).mp q1
          refine tail W ?_ _
          rw [← hb]
          unfold g_bl
          rw [if_neg (by rw [hct]; omega)]
        · have e1 : k < c := Nat.lt_of_not_le (fun z => q1 ((xle hc rfl (by omega) (by omega)).mpr z))
          refine xx_aload_n e_G_build_50 rfl rfl ?_
          refine xh_get e_G_build_51 fg_G_30 rfl rfl ?_
          refine xx_if_ne e_G_build_54 (fun q2 => ?_) (fun q2 => ?_)
          · refine tail W ?_ _
            rw [← hb]
            unfold g_bl
            rw [if_neg (fun z => q2 z.2)]
          · skip
            refine xx_aload_n e_G_build_57 rfl rfl ?_
            refine xx_aload_n e_G_build_58 rfl rfl ?_
            refine xx_iload_n e_G_build_59 rfl rfl ?_
            refine xc_V2v e_G_build_60 kv_G_56 (xl_obj rfl) (t_G_expand hc e1 h80 heW h14) ?_
            refine xh_incN e_G_build_63 rfl ?_
            refine xx_goto e_G_build_66 ?_
            have hg := g_gr_xr hc h80 (k := k) e
            obtain ⟨c1, a1, a2, a3⟩ := hg.2 c hc h80
            refine ih (k + 1) _ (by omega) ⟨c1, a1, a3⟩ (by rw [hg.1]; exact heW) ?_
            rw [← hb]
            conv => rhs; unfold g_bl
            rw [if_pos ⟨by rw [hct]; exact e1, q2⟩, hge]
  refine xx_aload_n e_G_build_0 rfl rfl ?_
  refine xx_iconst (v := 0) e_G_build_1 (by decide) ?_
  refine xh_put e_G_build_2 fp_G_30 rfl rfl ⟨rfl, rfl⟩ ?_
  refine xx_aload_n e_G_build_5 rfl rfl ?_
  refine xx_iconst (v := (-1)) e_G_build_6 (by decide) ?_
  refine xh_put e_G_build_7 fp_G_34 rfl rfl ⟨rfl, rfl⟩ ?_
  refine xx_aload_n e_G_build_10 rfl rfl ?_
  refine xx_iconst (v := (-1)) e_G_build_11 (by decide) ?_
  refine xh_put e_G_build_12 fp_G_38 rfl rfl ⟨rfl, rfl⟩ ?_
  refine xx_aload_n e_G_build_15 rfl rfl ?_
  refine xx_iconst (v := 0) e_G_build_16 (by decide) ?_
  refine xh_put e_G_build_17 fp_G_41 rfl rfl ⟨rfl, rfl⟩ ?_
  refine xx_aload_n e_G_build_20 rfl rfl ?_
  refine xx_aload_n e_G_build_21 rfl rfl ?_
  refine xh_get e_G_build_22 fg_G_44 rfl rfl ?_
  refine xx_aload_n e_G_build_25 rfl rfl ?_
  refine xh_get e_G_build_26 fg_G_49 rfl rfl ?_
  refine xx_iconst (v := (-1)) e_G_build_29 (by decide) ?_
  refine xc_V3i e_G_build_30 kv_G_52 (xl_obj rfl) (t_G_addState (c := 0) rfl (by decide)) ?_
  refine xx_pop e_G_build_33 rfl ?_
  refine xx_iconst (v := 0) e_G_build_34 (by decide) ?_
  refine xx_istore_n e_G_build_35 rfl rfl ?_
  exact loop 80 0 _ rfl ⟨1, rfl, by decide⟩ he rfl
end XGraph4
