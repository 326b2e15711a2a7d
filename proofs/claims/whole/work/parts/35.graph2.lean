/-! The graph's methods with loops. -/
section XGraph2
variable {S : Nat × (Nat → Int32)} {V : xl_V} {d : Nat}
/-- is j the state (m, c)? -/
def g_is (V : xl_V) (m c : Int32) (j : Nat) : Bool := decide (V.2.1 7 j = m ∧ V.2.1 8 j = c)
def g_fi (V : xl_V) (c k t : Nat) : Int32 × xl_V := match xfnd (g_is V (n_mk V t (V.2.1 7 k)) (n_cd V t (V.2.1 8 k))) c with
  | some j => (nI j, V)
  | none => if 80 ≤ c then (-1, xl_i V 6 8 1) else (nI c, g_ad V c (n_mk V t (V.2.1 7 k)) (n_cd V t (V.2.1 8 k)) (nI (100 * k + t)))
theorem t_G_fire {k t c : Nat} (hk : k < c) (hc : V.1 6 0 = nI c) (h80 : c ≤ 80) (ht : t < 14) : xX S (d + 1) 22 0 (xa_ent 7 [.ref 6, .ref 1, .int (nI k), .int (nI t)]) [] V 0 0 (xq (some (.int (g_fi V c k t).1)) (xl_H xlay (g_fi V c k t).2)) := by
  have loop : ∀ n j, c - j = n → j ≤ c → (∀ i, i < j → g_is V (n_mk V t (V.2.1 7 k)) (n_cd V t (V.2.1 8 k)) i = false) → xX S (d + 1) 22 29 [.ref 6, .ref 1, .int (nI k), .int (nI t), .int (n_mk V t (V.2.1 7 k)), .int (n_cd V t (V.2.1 8 k)), .int (nI j)] [] V 0 0 (xq (some (.int (g_fi V c k t).1)) (xl_H xlay (g_fi V c k t).2)) := by
    intro n
    induction n using Nat.strongRecOn with
    | ind n ih =>
      intro j hn hj hin
      refine xx_iload e_G_fire_29 rfl ?_
      refine xx_aload_n e_G_fire_31 rfl rfl ?_
      refine xh_get e_G_fire_32 fg_G_41 rfl rfl ?_
      refine xx_icmp_ge e_G_fire_35 (fun q => ?_) (fun q => ?_)
      · skip
        have e1 : xfnd (g_is V (n_mk V t (V.2.1 7 k)) (n_cd V t (V.2.1 8 k))) c = none := xfnd_o (fun i hi => hin i (Nat.lt_of_lt_of_le hi ((xle hc rfl (by omega) (by omega)).mp q)))
        refine xx_aload_n e_G_fire_71 rfl rfl ?_
        refine xh_get e_G_fire_72 fg_G_41 rfl rfl ?_
        refine xx_bipush (v := 80) e_G_fire_75 (by decide) ?_
        refine xx_icmp_lt e_G_fire_77 (fun q => ?_) (fun q => ?_)
        · skip
          have e2 : c < 80 := (xlt (b := 80) hc rfl (by omega) (by decide)).mp q
          refine xx_aload_n e_G_fire_87 rfl rfl ?_
          refine xx_iload e_G_fire_88 rfl ?_
          refine xx_iload e_G_fire_90 rfl ?_
          refine xx_bipush (v := 100) e_G_fire_92 (by decide) ?_
          refine xx_iload_n e_G_fire_94 rfl rfl ?_
          refine xx_imul e_G_fire_95 ?_
          refine xx_iload_n e_G_fire_96 rfl rfl ?_
          refine xx_iadd e_G_fire_97 ?_
          rw [show (100 : Int32) = nI 100 from rfl, pk_mul, nI_add]
          refine xc_V3i e_G_fire_98 kv_G_52 (xl_obj rfl) (t_G_addState hc e2) ?_
          refine xx_iret e_G_fire_101 rfl rfl ?_
          unfold g_fi
          rw [e1]
          exact ⟨by rw [if_neg (by omega)], by rw [if_neg (by omega)]⟩
        · skip
          have e2 : ¬ c < 80 := fun z => q ((xlt (b := 80) hc rfl (by omega) (by decide)).mpr z)
          refine xx_aload_n e_G_fire_80 rfl rfl ?_
          refine xx_iconst (v := 1) e_G_fire_81 (by decide) ?_
          refine xh_put e_G_fire_82 fp_G_30 rfl rfl ⟨rfl, rfl⟩ ?_
          refine xx_iconst (v := (-1)) e_G_fire_85 (by decide) ?_
          refine xx_iret e_G_fire_86 rfl rfl ?_
          unfold g_fi
          rw [e1]
          exact ⟨by rw [if_pos (by omega)], by rw [if_pos (by omega)]⟩
      · skip
        have e1 : j < c := Nat.lt_of_not_le (fun z => q ((xle hc rfl (by omega) (by omega)).mpr z))
        refine xx_aload_n e_G_fire_38 rfl rfl ?_
        refine xh_getR e_G_fire_39 fg_G_9 rfl rfl ?_
        refine xx_iload e_G_fire_42 rfl ?_
        refine xh_ialN e_G_fire_44 rfl (by omega) ?_
        refine xx_iload e_G_fire_45 rfl ?_
        refine xx_icmp_ne e_G_fire_47 (fun q => ?_) (fun q => ?_)
        · skip
          refine xh_incN e_G_fire_65 rfl ?_
          refine xx_goto e_G_fire_68 ?_
          exact ih (c - (j + 1)) (by omega) (j + 1) rfl (by omega) (lt_s' hin (decide_eq_false (fun z => q z.1)))
        · skip
          refine xx_aload_n e_G_fire_50 rfl rfl ?_
          refine xh_getR e_G_fire_51 fg_G_15 rfl rfl ?_
          refine xx_iload e_G_fire_54 rfl ?_
          refine xh_ialN e_G_fire_56 rfl (by omega) ?_
          refine xx_iload e_G_fire_57 rfl ?_
          rename_i q1
          refine xx_icmp_ne e_G_fire_59 (fun q2 => ?_) (fun q2 => ?_)
          · skip
            refine xh_incN e_G_fire_65 rfl ?_
            refine xx_goto e_G_fire_68 ?_
            exact ih (c - (j + 1)) (by omega) (j + 1) rfl (by omega) (lt_s' hin (decide_eq_false (fun z => q2 z.2)))
          · skip
            refine xx_iload e_G_fire_62 rfl ?_
            refine xx_iret e_G_fire_64 rfl rfl ?_
            have e2 : xfnd (g_is V (n_mk V t (V.2.1 7 k)) (n_cd V t (V.2.1 8 k))) c = some j := xfnd_i e1 (decide_eq_true ⟨by assumption, q2⟩) hin
            unfold g_fi
            rw [e2]
            exact ⟨rfl, rfl⟩
  refine xx_aload_n e_G_fire_0 rfl rfl ?_
  refine xx_iload_n e_G_fire_1 rfl rfl ?_
  refine xx_aload_n e_G_fire_2 rfl rfl ?_
  refine xh_getR e_G_fire_3 fg_G_9 rfl rfl ?_
  refine xx_iload_n e_G_fire_6 rfl rfl ?_
  refine xh_ialN e_G_fire_7 rfl (by omega) ?_
  refine xc_V2i e_G_fire_8 kv_G_92 (xl_obj rfl) (u_N_markingAfter ht) ?_
  refine xx_istore e_G_fire_11 rfl ?_
  refine xx_aload_n e_G_fire_13 rfl rfl ?_
  refine xx_iload_n e_G_fire_14 rfl rfl ?_
  refine xx_aload_n e_G_fire_15 rfl rfl ?_
  refine xh_getR e_G_fire_16 fg_G_15 rfl rfl ?_
  refine xx_iload_n e_G_fire_19 rfl rfl ?_
  refine xh_ialN e_G_fire_20 rfl (by omega) ?_
  refine xc_V2i e_G_fire_21 kv_G_96 (xl_obj rfl) (u_N_codeAfter ht) ?_
  refine xx_istore e_G_fire_24 rfl ?_
  refine xx_iconst (v := 0) e_G_fire_26 (by decide) ?_
  refine xx_istore e_G_fire_27 rfl ?_
  exact loop _ 0 rfl (Nat.zero_le _) (fun i hi => absurd hi (Nat.not_lt_zero i))
end XGraph2
