/-! The graph: noting, expanding. -/
section XGraph3
variable {S : Nat × (Nat → Int32)} {V : xl_V} {d : Nat}
theorem xh_fg {K : xa_P} {tx : Nat → Nat × (Nat → Int32)} {d y pc : Nat} {ls st : List Value} {h : xa_H} {mc ms : Nat} {Q : xa_Q} (i : Nat) (k : xa_X K tx d y pc (ls.set i xa_j) st h mc ms Q) : xa_X K tx d y pc ls st h mc ms Q :=
  xx_less ⟨List.length_set, fun j v hv => by
    by_cases e : i = j
    · subst e
      by_cases hl : i < ls.length
      · rw [List.getElem?_set_self hl] at hv
        exact Or.inl (Option.some.inj hv).symm
      · rw [List.getElem?_eq_none (by rw [List.length_set]; omega)] at hv
        cases hv
    · rw [List.getElem?_set_ne e] at hv
      exact Or.inr hv⟩ k
def g_ne (V : xl_V) (k t : Nat) : xl_V := if n_in V (V.2.1 2 t) = 0 then xl_a (xl_a V 11 (upd (V.2.1 11) k (V.2.1 11 k ||| n_eb V t))) 10 (upd (V.2.1 10) k (V.2.1 10 k ||| ((1 : Int32) <<< (V.2.1 2 t &&& 31)))) else xl_a V 11 (upd (V.2.1 11) k (V.2.1 11 k ||| n_eb V t))
theorem t_G_noteEnabled {k t : Nat} (hk : k < 80) (ht : t < 14) : xX S (d + 2) 15 0 (xa_ent 4 [.ref 6, .ref 1, .int (nI k), .int (nI t)]) [] V 0 0 (xq none (xl_H xlay (g_ne V k t))) := by
  refine xx_aload_n e_G_noteEnabled_0 rfl rfl ?_
  refine xh_getR e_G_noteEnabled_1 fg_G_24 rfl rfl ?_
  refine xx_iload_n e_G_noteEnabled_4 rfl rfl ?_
  refine xx_dup2 e_G_noteEnabled_5 rfl rfl ?_
  refine xh_ialN e_G_noteEnabled_6 rfl (by omega) ?_
  refine xx_aload_n e_G_noteEnabled_7 rfl rfl ?_
  refine xx_iload_n e_G_noteEnabled_8 rfl rfl ?_
  refine xc_V1i e_G_noteEnabled_9 kv_G_81 (xl_obj rfl) (u_N_edgeBit ht) ?_
  refine xx_ior e_G_noteEnabled_12 ?_
  refine xh_iasN e_G_noteEnabled_13 rfl (by omega) ?_
  refine xx_aload_n e_G_noteEnabled_14 rfl rfl ?_
  refine xx_aload_n e_G_noteEnabled_15 rfl rfl ?_
  refine xx_iload_n e_G_noteEnabled_16 rfl rfl ?_
  refine xc_V1i e_G_noteEnabled_17 kv_G_85 (xl_obj rfl) (u_N_signalOf ht) ?_
  refine xc_V1i e_G_noteEnabled_20 kv_G_88 (xl_obj rfl) (t_N_isInput) ?_
  refine xx_if_ne e_G_noteEnabled_23 (fun q => ?_) (fun q => ?_)
  · skip
    refine xx_vret e_G_noteEnabled_42 rfl ?_
    exact ⟨rfl, congrArg (xl_H xlay) (if_neg q).symm⟩
  · skip
    refine xx_aload_n e_G_noteEnabled_26 rfl rfl ?_
    refine xh_getR e_G_noteEnabled_27 fg_G_21 rfl rfl ?_
    refine xx_iload_n e_G_noteEnabled_30 rfl rfl ?_
    refine xx_dup2 e_G_noteEnabled_31 rfl rfl ?_
    refine xh_ialN e_G_noteEnabled_32 rfl (by omega) ?_
    refine xx_iconst (v := 1) e_G_noteEnabled_33 (by decide) ?_
    refine xx_aload_n e_G_noteEnabled_34 rfl rfl ?_
    refine xx_iload_n e_G_noteEnabled_35 rfl rfl ?_
    refine xc_V1i e_G_noteEnabled_36 kv_G_85 (xl_obj rfl) (u_N_signalOf ht) ?_
    refine xx_ishl e_G_noteEnabled_39 ?_
    refine xx_ior e_G_noteEnabled_40 ?_
    refine xh_iasN e_G_noteEnabled_41 rfl (by omega) ?_
    refine xx_vret e_G_noteEnabled_42 rfl ?_
    exact ⟨rfl, congrArg (xl_H xlay) (if_pos q).symm⟩
def g_ct (V : xl_V) : Nat := (V.1 6 0).toNatClampNeg
/-- the state that comes of k by t, noted as its successor -/
def g_x2 (V : xl_V) (k t : Nat) : xl_V := xl_a (g_fi V (g_ct V) k t).2 12 (upd ((g_fi V (g_ct V) k t).2.2.1 12) (k * 14 + t) (g_fi V (g_ct V) k t).1)
def g_nu (V : xl_V) (k : Nat) : xl_V := if V.1 6 9 = -1 then xl_i V 6 9 (nI k) else V
def g_nw (V : xl_V) (k : Nat) : xl_V := if V.1 6 10 = -1 then xl_i V 6 10 (nI k) else V
/-- transition t at state k -/
def g_xs (V : xl_V) (k t : Nat) : xl_V :=
  if n_en V t (V.2.1 7 k) = 0 then xl_a V 12 (upd (V.2.1 12) (k * 14 + t) (-1)) else
  if n_sf V t (V.2.1 7 k) = 0 then
    (if n_rt V t (V.2.1 8 k) = 0 then
      g_nw (g_nu (g_ne (xl_a V 12 (upd (V.2.1 12) (k * 14 + t) (-1))) k t) k) k
    else g_nu (g_ne (xl_a V 12 (upd (V.2.1 12) (k * 14 + t) (-1))) k t) k)
  else if n_rt V t (V.2.1 8 k) = 0 then g_nw (g_ne (xl_a V 12 (upd (V.2.1 12) (k * 14 + t) (-1))) k t) k
  else g_x2 (g_ne (xl_a V 12 (upd (V.2.1 12) (k * 14 + t) (-1))) k t) k t
theorem g_ne_1 (V : xl_V) (k t : Nat) : (g_ne V k t).1 = V.1 := by unfold g_ne; split <;> rfl
theorem g_ne_a (V : xl_V) (k t : Nat) {a : Nat} (h : a ≠ 10) (h2 : a ≠ 11) : (g_ne V k t).2.1 a = V.2.1 a := by
  unfold g_ne
  split
  · show xa_up (xa_up V.2.1 11 _) 10 _ a = _
    rw [xa_up_n _ _ h, xa_up_n _ _ h2]
  · show xa_up V.2.1 11 _ a = _
    rw [xa_up_n _ _ h2]
/-- one transition at one state, as the method goes -/
theorem t_G_x1 {k t c : Nat} {Q : xa_Q} (hc : V.1 6 0 = nI c) (hk : k < c) (h80 : c ≤ 80) (ht : t < 14)
    (kk : ∀ W, W = g_xs V k t → xX S (d + 3) 13 133 [.ref 6, .ref 1, .int (nI k), .int (nI t), xa_j, xa_j] [] W 0 0 Q) (l4 l5 : Value) :
    xX S (d + 3) 13 10 [.ref 6, .ref 1, .int (nI k), .int (nI t), l4, l5] [] V 0 0 Q := by
  have hk8 : k < 80 := by omega
  refine xx_aload_n e_G_expand_10 rfl rfl ?_
  refine xh_getR e_G_expand_11 fg_G_27 rfl rfl ?_
  refine xx_iload_n e_G_expand_14 rfl rfl ?_
  refine xx_bipush (v := 14) e_G_expand_15 (by decide) ?_
  refine xx_imul e_G_expand_17 ?_
  refine xx_iload_n e_G_expand_18 rfl rfl ?_
  refine xx_iadd e_G_expand_19 ?_
  rw [show (14 : Int32) = nI 14 from rfl, pk_mul, nI_add]
  refine xx_iconst (v := (-1)) e_G_expand_20 (by decide) ?_
  refine xh_iasN e_G_expand_21 rfl (by omega) ?_
  refine xx_aload_n e_G_expand_22 rfl rfl ?_
  refine xx_iload_n e_G_expand_23 rfl rfl ?_
  refine xx_aload_n e_G_expand_24 rfl rfl ?_
  refine xh_getR e_G_expand_25 fg_G_9 rfl rfl ?_
  refine xx_iload_n e_G_expand_28 rfl rfl ?_
  refine xh_ialN e_G_expand_29 rfl (by omega) ?_
  refine xc_V2i e_G_expand_30 kv_G_63 (xl_obj rfl) (u_N_isEnabled ht) ?_
  refine xx_if_eq e_G_expand_33 (fun q => ?_) (fun q => ?_)
  · refine xh_fg 4 (xh_fg 5 (kk _ ?_))
    unfold g_xs
    exact (if_pos q).symm
  · skip
    have q : ¬ n_en V t (V.2.1 7 k) = 0 := q
    refine xx_aload_n e_G_expand_36 rfl rfl ?_
    refine xx_aload_n e_G_expand_37 rfl rfl ?_
    refine xx_iload_n e_G_expand_38 rfl rfl ?_
    refine xx_iload_n e_G_expand_39 rfl rfl ?_
    refine xc_V3v e_G_expand_40 kv_G_67 (xl_obj rfl) (t_G_noteEnabled hk8 ht) ?_
    generalize hW : g_ne (xl_a V 12 (upd (V.2.1 12) (k * 14 + t) (-1))) k t = W
    have w1 : W.1 = V.1 := by rw [← hW, g_ne_1]; rfl
    have wa : ∀ a, a ≠ 10 → a ≠ 11 → a ≠ 12 → W.2.1 a = V.2.1 a := fun a h1 h2 h3 => by
      rw [← hW, g_ne_a _ _ _ h1 h2]
      exact xa_up_n V.2.1 _ h3
    have e7 := wa 7 (by decide) (by decide) (by decide)
    have e8 := wa 8 (by decide) (by decide) (by decide)
    have e2 := wa 2 (by decide) (by decide) (by decide)
    have e3 := wa 3 (by decide) (by decide) (by decide)
    have e4 := wa 4 (by decide) (by decide) (by decide)
    have e5 := wa 5 (by decide) (by decide) (by decide)
    have sf : n_sf W t (W.2.1 7 k) = n_sf V t (V.2.1 7 k) := by unfold n_sf; rw [e4, e5, e7]
    have rt : n_rt W t (W.2.1 8 k) = n_rt V t (V.2.1 8 k) := by unfold n_rt n_lv; rw [e2, e3, e8]
    have hcW : W.1 6 0 = nI c := by rw [w1]; exact hc
    have hctW : g_ct W = c := by unfold g_ct; rw [hcW]; exact nI_clamp (xn31 (by omega))
    refine xx_aload_n e_G_expand_43 rfl rfl ?_
    refine xx_iload_n e_G_expand_44 rfl rfl ?_
    refine xx_aload_n e_G_expand_45 rfl rfl ?_
    refine xh_getR e_G_expand_46 fg_G_9 rfl rfl ?_
    refine xx_iload_n e_G_expand_49 rfl rfl ?_
    refine xh_ialN e_G_expand_50 rfl (by omega) ?_
    refine xc_V2i e_G_expand_51 kv_G_71 (xl_obj rfl) (u_N_isSafe ht) ?_
    refine xx_istore e_G_expand_54 rfl ?_
    refine xx_aload_n e_G_expand_56 rfl rfl ?_
    refine xx_iload_n e_G_expand_57 rfl rfl ?_
    refine xx_aload_n e_G_expand_58 rfl rfl ?_
    refine xh_getR e_G_expand_59 fg_G_15 rfl rfl ?_
    refine xx_iload_n e_G_expand_62 rfl rfl ?_
    refine xh_ialN e_G_expand_63 rfl (by omega) ?_
    refine xc_V2i e_G_expand_64 kv_G_74 (xl_obj rfl) (u_N_isRight ht) ?_
    rw [sf, rt]
    refine xx_istore e_G_expand_67 rfl ?_
    refine xx_iload e_G_expand_69 rfl ?_
    refine xx_if_eq e_G_expand_71 (fun q1 => ?_) (fun q1 => ?_)
    · skip
      refine xx_iload e_G_expand_97 rfl ?_
      refine xx_if_ne e_G_expand_99 (fun q2 => absurd q1 q2) (fun q2 => ?_)
      refine xx_aload_n e_G_expand_102 rfl rfl ?_
      refine xh_get e_G_expand_103 fg_G_34 rfl rfl ?_
      refine xx_iconst (v := (-1)) e_G_expand_106 (by decide) ?_
      refine xx_icmp_ne e_G_expand_107 (fun q3 => ?_) (fun q3 => ?_)
      · skip
        refine xx_iload e_G_expand_115 rfl ?_
        refine xx_if_ne e_G_expand_117 (fun q4 => ?_) (fun q4 => ?_)
        · refine xh_fg 4 (xh_fg 5 (kk _ ?_))
          unfold g_xs
          rw [if_neg q, if_pos q1, if_neg q4, hW]
          exact (if_neg q3).symm
        · skip
          refine xx_aload_n e_G_expand_120 rfl rfl ?_
          refine xh_get e_G_expand_121 fg_G_38 rfl rfl ?_
          refine xx_iconst (v := (-1)) e_G_expand_124 (by decide) ?_
          refine xx_icmp_ne e_G_expand_125 (fun q5 => ?_) (fun q5 => ?_)
          · refine xh_fg 4 (xh_fg 5 (kk _ ?_))
            unfold g_xs
            rw [if_neg q, if_pos q1, if_pos q4, hW]
            unfold g_nu
            rw [if_neg q3]
            exact (if_neg q5).symm
          · skip
            refine xx_aload_n e_G_expand_128 rfl rfl ?_
            refine xx_iload_n e_G_expand_129 rfl rfl ?_
            refine xh_put e_G_expand_130 fp_G_38 rfl rfl ⟨rfl, rfl⟩ ?_
            refine xh_fg 4 (xh_fg 5 (kk _ ?_))
            unfold g_xs
            rw [if_neg q, if_pos q1, if_pos q4, hW]
            unfold g_nu
            rw [if_neg q3]
            exact (if_pos q5).symm
      · skip
        refine xx_aload_n e_G_expand_110 rfl rfl ?_
        refine xx_iload_n e_G_expand_111 rfl rfl ?_
        refine xh_put e_G_expand_112 fp_G_34 rfl rfl ⟨rfl, rfl⟩ ?_
        refine xx_iload e_G_expand_115 rfl ?_
        refine xx_if_ne e_G_expand_117 (fun q4 => ?_) (fun q4 => ?_)
        · refine xh_fg 4 (xh_fg 5 (kk _ ?_))
          unfold g_xs
          rw [if_neg q, if_pos q1, if_neg q4, hW]
          exact (if_pos q3).symm
        · skip
          refine xx_aload_n e_G_expand_120 rfl rfl ?_
          refine xh_get e_G_expand_121 fg_G_38 rfl rfl ?_
          refine xx_iconst (v := (-1)) e_G_expand_124 (by decide) ?_
          refine xx_icmp_ne e_G_expand_125 (fun q5 => ?_) (fun q5 => ?_)
          · refine xh_fg 4 (xh_fg 5 (kk _ ?_))
            unfold g_xs
            rw [if_neg q, if_pos q1, if_pos q4, hW]
            unfold g_nu
            rw [if_pos q3]
            exact (if_neg q5).symm
          · skip
            refine xx_aload_n e_G_expand_128 rfl rfl ?_
            refine xx_iload_n e_G_expand_129 rfl rfl ?_
            refine xh_put e_G_expand_130 fp_G_38 rfl rfl ⟨rfl, rfl⟩ ?_
            refine xh_fg 4 (xh_fg 5 (kk _ ?_))
            unfold g_xs
            rw [if_neg q, if_pos q1, if_pos q4, hW]
            unfold g_nu
            rw [if_pos q3]
            exact (if_pos q5).symm
    · skip
      refine xx_iload e_G_expand_74 rfl ?_
      refine xx_if_eq e_G_expand_76 (fun q2 => ?_) (fun q2 => ?_)
      · skip
        refine xx_iload e_G_expand_97 rfl ?_
        refine xx_if_ne e_G_expand_99 (fun q3 => ?_) (fun q3 => absurd q3 q1)
        refine xx_iload e_G_expand_115 rfl ?_
        refine xx_if_ne e_G_expand_117 (fun q4 => absurd q2 q4) (fun q4 => ?_)
        refine xx_aload_n e_G_expand_120 rfl rfl ?_
        refine xh_get e_G_expand_121 fg_G_38 rfl rfl ?_
        refine xx_iconst (v := (-1)) e_G_expand_124 (by decide) ?_
        refine xx_icmp_ne e_G_expand_125 (fun q5 => ?_) (fun q5 => ?_)
        · refine xh_fg 4 (xh_fg 5 (kk _ ?_))
          unfold g_xs
          rw [if_neg q, if_neg q1, if_pos q2, hW]
          exact (if_neg q5).symm
        · skip
          refine xx_aload_n e_G_expand_128 rfl rfl ?_
          refine xx_iload_n e_G_expand_129 rfl rfl ?_
          refine xh_put e_G_expand_130 fp_G_38 rfl rfl ⟨rfl, rfl⟩ ?_
          refine xh_fg 4 (xh_fg 5 (kk _ ?_))
          unfold g_xs
          rw [if_neg q, if_neg q1, if_pos q2, hW]
          exact (if_pos q5).symm
      · skip
        refine xx_aload_n e_G_expand_79 rfl rfl ?_
        refine xh_getR e_G_expand_80 fg_G_27 rfl rfl ?_
        refine xx_iload_n e_G_expand_83 rfl rfl ?_
        refine xx_bipush (v := 14) e_G_expand_84 (by decide) ?_
        refine xx_imul e_G_expand_86 ?_
        refine xx_iload_n e_G_expand_87 rfl rfl ?_
        refine xx_iadd e_G_expand_88 ?_
        rw [show (14 : Int32) = nI 14 from rfl, pk_mul, nI_add]
        refine xx_aload_n e_G_expand_89 rfl rfl ?_
        refine xx_aload_n e_G_expand_90 rfl rfl ?_
        refine xx_iload_n e_G_expand_91 rfl rfl ?_
        refine xx_iload_n e_G_expand_92 rfl rfl ?_
        refine xc_V3i e_G_expand_93 kv_G_77 (xl_obj rfl) (t_G_fire hk hcW h80 ht) ?_
        refine xh_iasN e_G_expand_96 rfl (by omega) ?_
        refine xx_iload e_G_expand_97 rfl ?_
        refine xx_if_ne e_G_expand_99 (fun q3 => ?_) (fun q3 => absurd q3 q1)
        refine xx_iload e_G_expand_115 rfl ?_
        refine xx_if_ne e_G_expand_117 (fun q4 => ?_) (fun q4 => absurd q4 q2)
        refine xh_fg 4 (xh_fg 5 (kk _ ?_))
        unfold g_xs
        rw [if_neg q, if_neg q1, if_neg q2, hW]
        unfold g_x2
        rw [hctW]
end XGraph3
