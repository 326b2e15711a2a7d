/-! The graph's verdict. -/
section XGraph6
variable {S : Nat × (Nat → Int32)} {V : xl_V} {d : Nat}
theorem xl_ii (V : xl_V) (a k : Nat) (x z : Int32) : xl_i (xl_i V a k x) a k z = xl_i V a k z := by
  unfold xl_i
  congr 1
  funext b j
  show (if b = a ∧ j = k then z else if b = a ∧ j = k then x else V.1 b j) = _
  by_cases h : b = a ∧ j = k
  · rw [if_pos h, if_pos h]
  · rw [if_neg h, if_neg h, if_neg h]
def g_jf (V : xl_V) (c e : Nat) : Int32 × Int32 :=
  if ¬ V.1 6 8 = 0 then (5, -1) else if ¬ V.1 6 9 = -1 then (1, V.1 6 9) else if ¬ V.1 6 10 = -1 then (2, V.1 6 10) else
  if ¬ g_io (xfnd (g_ds V e) c) = -1 then (3, g_io (xfnd (g_ds V e) c)) else if ¬ g_io (xfnd (g_cs V) c) = -1 then (4, g_io (xfnd (g_cs V) c)) else (0, -1)
theorem t_G_judge {c e : Nat} (hc : V.1 6 0 = nI c) (h80 : c ≤ 80) (he : V.1 1 1 = nI e) (h14 : e ≤ 14) (hs : V.1 6 8 = 0 → ∀ k t, k < c → t < e → ¬ V.2.1 12 (k * 14 + t) = -1 → vp_in (V.2.1 12 (k * 14 + t)) 80) :
    xX S (d + 4) 25 0 (xa_ent 2 [.ref 6, .ref 1]) [] V 0 0 (xq (some (.int (g_jf V c e).1)) (xl_H xlay (xl_i V 6 1 (g_jf V c e).2))) := by
  refine xx_aload_n e_G_judge_0 rfl rfl ?_
  refine xx_iconst (v := (-1)) e_G_judge_1 (by decide) ?_
  refine xh_put e_G_judge_2 fp_G_99 rfl rfl ⟨rfl, rfl⟩ ?_
  refine xx_aload_n e_G_judge_5 rfl rfl ?_
  refine xh_get e_G_judge_6 fg_G_30 rfl rfl ?_
  refine xx_if_eq e_G_judge_9 (fun q => ?_) (fun q => ?_)
  · skip
    have q : V.1 6 8 = 0 := q
    refine xx_aload_n e_G_judge_14 rfl rfl ?_
    refine xx_aload_n e_G_judge_15 rfl rfl ?_
    refine xh_get e_G_judge_16 fg_G_34 rfl rfl ?_
    refine xh_put e_G_judge_19 fp_G_99 rfl rfl ⟨rfl, rfl⟩ ?_
    refine xx_aload_n e_G_judge_22 rfl rfl ?_
    refine xh_get e_G_judge_23 fg_G_99 rfl rfl ?_
    refine xx_iconst (v := (-1)) e_G_judge_26 (by decide) ?_
    refine xx_icmp_eq e_G_judge_27 (fun q1 => ?_) (fun q1 => ?_)
    · skip
      have q1 : V.1 6 9 = -1 := q1
      refine xx_aload_n e_G_judge_32 rfl rfl ?_
      refine xx_aload_n e_G_judge_33 rfl rfl ?_
      refine xh_get e_G_judge_34 fg_G_38 rfl rfl ?_
      refine xh_put e_G_judge_37 fp_G_99 rfl rfl ⟨rfl, rfl⟩ ?_
      refine xx_aload_n e_G_judge_40 rfl rfl ?_
      refine xh_get e_G_judge_41 fg_G_99 rfl rfl ?_
      refine xx_iconst (v := (-1)) e_G_judge_44 (by decide) ?_
      refine xx_icmp_eq e_G_judge_45 (fun q2 => ?_) (fun q2 => ?_)
      · skip
        have q2 : V.1 6 10 = -1 := q2
        refine xx_aload_n e_G_judge_50 rfl rfl ?_
        refine xx_aload_n e_G_judge_51 rfl rfl ?_
        refine xx_aload_n e_G_judge_52 rfl rfl ?_
        refine xc_V1i e_G_judge_53 kv_G_102 (xl_obj rfl) (t_G_leastDisablingState (V := xl_i (xl_i (xl_i V 6 1 (-1)) 6 1 (V.1 6 9)) 6 1 (V.1 6 10)) hc h80 he h14 (hs q)) ?_
        rw [show g_ds (xl_i (xl_i (xl_i V 6 1 (-1)) 6 1 (V.1 6 9)) 6 1 (V.1 6 10)) e = g_ds V e from rfl]
        refine xh_put e_G_judge_56 fp_G_99 rfl rfl ⟨rfl, rfl⟩ ?_
        refine xx_aload_n e_G_judge_59 rfl rfl ?_
        refine xh_get e_G_judge_60 fg_G_99 rfl rfl ?_
        refine xx_iconst (v := (-1)) e_G_judge_63 (by decide) ?_
        refine xx_icmp_eq e_G_judge_64 (fun q3 => ?_) (fun q3 => ?_)
        · skip
          have q3 : g_io (xfnd (g_ds V e) c) = -1 := q3
          refine xx_aload_n e_G_judge_69 rfl rfl ?_
          refine xx_aload_n e_G_judge_70 rfl rfl ?_
          refine xc_V0i e_G_judge_71 kv_G_106 (xl_obj rfl) (t_G_leastConflictingState hc h80) ?_
          refine xh_put e_G_judge_74 fp_G_99 rfl rfl ⟨rfl, rfl⟩ ?_
          refine xx_aload_n e_G_judge_77 rfl rfl ?_
          refine xh_get e_G_judge_78 fg_G_99 rfl rfl ?_
          refine xx_iconst (v := (-1)) e_G_judge_81 (by decide) ?_
          refine xx_icmp_eq e_G_judge_82 (fun q4 => ?_) (fun q4 => ?_)
          · skip
            have q4 : g_io (xfnd (g_cs V) c) = -1 := q4
            refine xx_iconst (v := 0) e_G_judge_89 (by decide) ?_
            refine xx_iret e_G_judge_90 rfl rfl ?_
            rw [xl_ii, xl_ii, xl_ii, xl_ii]
            simp only [g_jf, q, q1, q2, q3, q4, not_true_eq_false, ↓reduceIte]
            exact ⟨rfl, congrArg (fun z => xl_H xlay (xl_i V 6 1 z)) q4⟩
          · skip
            have q4 : ¬ g_io (xfnd (g_cs V) c) = -1 := q4
            refine xx_iconst (v := 4) e_G_judge_85 (by decide) ?_
            refine xx_goto e_G_judge_86 ?_
            refine xx_iret e_G_judge_90 rfl rfl ?_
            rw [xl_ii, xl_ii, xl_ii, xl_ii]
            simp only [g_jf, q, q1, q2, q3, q4, not_true_eq_false, not_false_eq_true, ↓reduceIte]
            exact ⟨rfl, rfl⟩
        · skip
          have q3 : ¬ g_io (xfnd (g_ds V e) c) = -1 := q3
          refine xx_iconst (v := 3) e_G_judge_67 (by decide) ?_
          refine xx_iret e_G_judge_68 rfl rfl ?_
          rw [xl_ii, xl_ii, xl_ii]
          simp only [g_jf, q, q1, q2, q3, not_true_eq_false, not_false_eq_true, ↓reduceIte]
          exact ⟨rfl, rfl⟩
      · skip
        have q2 : ¬ V.1 6 10 = -1 := q2
        refine xx_iconst (v := 2) e_G_judge_48 (by decide) ?_
        refine xx_iret e_G_judge_49 rfl rfl ?_
        rw [xl_ii, xl_ii]
        simp only [g_jf, q, q1, q2, not_true_eq_false, not_false_eq_true, ↓reduceIte]
        exact ⟨rfl, rfl⟩
    · skip
      have q1 : ¬ V.1 6 9 = -1 := q1
      refine xx_iconst (v := 1) e_G_judge_30 (by decide) ?_
      refine xx_iret e_G_judge_31 rfl rfl ?_
      rw [xl_ii]
      simp only [g_jf, q, q1, not_true_eq_false, not_false_eq_true, ↓reduceIte]
      exact ⟨rfl, rfl⟩
  · skip
    have q : ¬ V.1 6 8 = 0 := q
    refine xx_iconst (v := 5) e_G_judge_12 (by decide) ?_
    refine xx_iret e_G_judge_13 rfl rfl ?_
    simp only [g_jf, q, not_false_eq_true, ↓reduceIte]
    exact ⟨rfl, rfl⟩
end XGraph6
