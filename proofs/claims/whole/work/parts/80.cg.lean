/-! The class: its public methods where they answer. -/
section XCg
variable {S : Nat × (Nat → Int32)} {V : xl_V} {d : Nat}
def k_dr (V : xl_V) (w : Nat) : xl_V := xl_i (xl_i (c_cl (xl_i V 6 0 0) w 5) 0 4 (-1)) 0 5 (-1)
theorem t_CG_discardResults {w : Nat} (hw : c_ok V w) : xX S (d + 2) 8 0 (xa_ent 1 [.ref 0]) [] V 0 0 (xq none (xl_H xlay (k_dr V w))) := by
  refine xx_aload_n e_CG_discardResults_0 rfl rfl ?_
  refine xh_getR e_CG_discardResults_1 fg_CG_19 rfl rfl ?_
  refine xx_iconst (v := 0) e_CG_discardResults_4 (by decide) ?_
  refine xh_put e_CG_discardResults_5 fp_CG_117 rfl rfl ⟨rfl, rfl⟩ ?_
  refine xx_aload_n e_CG_discardResults_8 rfl rfl ?_
  refine xh_getR e_CG_discardResults_9 fg_CG_26 rfl rfl ?_
  refine xc_V0v e_CG_discardResults_12 kv_CG_210 (xl_obj rfl) (t_Ci_clear (V := xl_i V 6 0 0) (w := w) hw) ?_
  refine xx_aload_n e_CG_discardResults_15 rfl rfl ?_
  refine xx_iconst (v := (-1)) e_CG_discardResults_16 (by decide) ?_
  refine xh_put e_CG_discardResults_17 fp_CG_37 rfl rfl ⟨rfl, rfl⟩ ?_
  refine xx_aload_n e_CG_discardResults_20 rfl rfl ?_
  refine xx_iconst (v := (-1)) e_CG_discardResults_21 (by decide) ?_
  refine xh_put e_CG_discardResults_22 fp_CG_41 rfl rfl ⟨rfl, rfl⟩ ?_
  refine xx_vret e_CG_discardResults_25 rfl ?_
  exact ⟨rfl, rfl⟩
theorem t_CG_fault : xX S d 30 0 (xa_ent 1 [.ref 0]) [] V 0 0 (xq (some (.int (V.1 0 5))) (xl_H xlay V)) := by
  refine xx_aload_n e_CG_fault_0 rfl rfl ?_
  refine xh_get e_CG_fault_1 fg_CG_41 rfl rfl ?_
  refine xx_iret e_CG_fault_4 rfl rfl ?_
  exact ⟨rfl, rfl⟩
theorem t_CG_requireSignal {x : Int32} (h0 : ¬ x < 0) (h1 : x < V.1 1 0) : xX S d 36 0 (xa_ent 2 [.ref 0, .int x]) [] V 0 0 (xq none (xl_H xlay V)) := by
  refine xx_iload_n e_CG_requireSignal_0 rfl rfl ?_
  refine xx_if_lt e_CG_requireSignal_1 (fun q => absurd q h0) (fun _ => ?_)
  refine xx_iload_n e_CG_requireSignal_4 rfl rfl ?_
  refine xx_aload_n e_CG_requireSignal_5 rfl rfl ?_
  refine xh_getR e_CG_requireSignal_6 fg_CG_10 rfl rfl ?_
  refine xh_get e_CG_requireSignal_9 fg_CG_44 rfl rfl ?_
  refine xx_icmp_lt e_CG_requireSignal_12 (fun _ => ?_) (fun q => absurd h1 q)
  refine xx_vret e_CG_requireSignal_25 rfl ?_
  exact ⟨rfl, rfl⟩
theorem t_CG_requireGraph (h : ¬ V.1 6 0 = 0) : xX S d 47 0 (xa_ent 1 [.ref 0]) [] V 0 0 (xq none (xl_H xlay V)) := by
  refine xx_aload_n e_CG_requireGraph_0 rfl rfl ?_
  refine xh_getR e_CG_requireGraph_1 fg_CG_19 rfl rfl ?_
  refine xh_get e_CG_requireGraph_4 fg_CG_117 rfl rfl ?_
  refine xx_if_ne e_CG_requireGraph_7 (fun _ => ?_) (fun q => absurd q h)
  refine xx_vret e_CG_requireGraph_20 rfl ?_
  exact ⟨rfl, rfl⟩
theorem t_CG_requireFine (h : V.1 0 4 = 0) : xX S d 59 0 (xa_ent 1 [.ref 0]) [] V 0 0 (xq none (xl_H xlay V)) := by
  refine xx_aload_n e_CG_requireFine_0 rfl rfl ?_
  refine xh_get e_CG_requireFine_1 fg_CG_37 rfl rfl ?_
  refine xx_if_eq e_CG_requireFine_4 (fun _ => ?_) (fun q => absurd h q)
  refine xx_vret e_CG_requireFine_17 rfl ?_
  exact ⟨rfl, rfl⟩
theorem t_CG_requireState {x : Int32} (h : ¬ V.1 6 0 = 0) (h0 : ¬ x < 0) (h1 : x < V.1 6 0) : xX S (d + 1) 50 0 (xa_ent 2 [.ref 0, .int x]) [] V 0 0 (xq none (xl_H xlay V)) := by
  refine xx_aload_n e_CG_requireState_0 rfl rfl ?_
  refine xc_V0v e_CG_requireState_1 kv_CG_114 (xl_obj rfl) (t_CG_requireGraph h) ?_
  refine xx_iload_n e_CG_requireState_4 rfl rfl ?_
  refine xx_if_lt e_CG_requireState_5 (fun q => absurd q h0) (fun _ => ?_)
  refine xx_iload_n e_CG_requireState_8 rfl rfl ?_
  refine xx_aload_n e_CG_requireState_9 rfl rfl ?_
  refine xh_getR e_CG_requireState_10 fg_CG_19 rfl rfl ?_
  refine xh_get e_CG_requireState_13 fg_CG_117 rfl rfl ?_
  refine xx_icmp_lt e_CG_requireState_16 (fun _ => ?_) (fun q => absurd h1 q)
  refine xx_vret e_CG_requireState_29 rfl ?_
  exact ⟨rfl, rfl⟩
theorem t_CG_states (h : ¬ V.1 6 0 = 0) : xX S (d + 1) 46 0 (xa_ent 1 [.ref 0]) [] V 0 0 (xq (some (.int (V.1 6 0))) (xl_H xlay V)) := by
  refine xx_aload_n e_CG_states_0 rfl rfl ?_
  refine xc_V0v e_CG_states_1 kv_CG_114 (xl_obj rfl) (t_CG_requireGraph h) ?_
  refine xx_aload_n e_CG_states_4 rfl rfl ?_
  refine xh_getR e_CG_states_5 fg_CG_19 rfl rfl ?_
  refine xh_get e_CG_states_8 fg_CG_117 rfl rfl ?_
  refine xx_iret e_CG_states_11 rfl rfl ?_
  exact ⟨rfl, rfl⟩
theorem t_CG_code {x : Int32} (h : ¬ V.1 6 0 = 0) (h0 : ¬ x < 0) (h1 : x < V.1 6 0) (hv : vp_in x 80) : xX S (d + 2) 49 0 (xa_ent 2 [.ref 0, .int x]) [] V 0 0 (xq (some (.int (V.2.1 8 x.toNatClampNeg))) (xl_H xlay V)) := by
  refine xx_aload_n e_CG_code_0 rfl rfl ?_
  refine xx_iload_n e_CG_code_1 rfl rfl ?_
  refine xc_V1v e_CG_code_2 kv_CG_120 (xl_obj rfl) (t_CG_requireState h h0 h1) ?_
  refine xx_aload_n e_CG_code_5 rfl rfl ?_
  refine xh_getR e_CG_code_6 fg_CG_19 rfl rfl ?_
  refine xh_getR e_CG_code_9 fg_CG_123 rfl rfl ?_
  refine xx_iload_n e_CG_code_12 rfl rfl ?_
  refine xh_iald e_CG_code_13 rfl hv ?_
  refine xx_iret e_CG_code_14 rfl rfl ?_
  exact ⟨rfl, rfl⟩
theorem t_CG_marking {x : Int32} (h : ¬ V.1 6 0 = 0) (h0 : ¬ x < 0) (h1 : x < V.1 6 0) (hv : vp_in x 80) : xX S (d + 2) 52 0 (xa_ent 2 [.ref 0, .int x]) [] V 0 0 (xq (some (.int (V.2.1 7 x.toNatClampNeg))) (xl_H xlay V)) := by
  refine xx_aload_n e_CG_marking_0 rfl rfl ?_
  refine xx_iload_n e_CG_marking_1 rfl rfl ?_
  refine xc_V1v e_CG_marking_2 kv_CG_120 (xl_obj rfl) (t_CG_requireState h h0 h1) ?_
  refine xx_aload_n e_CG_marking_5 rfl rfl ?_
  refine xh_getR e_CG_marking_6 fg_CG_19 rfl rfl ?_
  refine xh_getR e_CG_marking_9 fg_CG_127 rfl rfl ?_
  refine xx_iload_n e_CG_marking_12 rfl rfl ?_
  refine xh_iald e_CG_marking_13 rfl hv ?_
  refine xx_iret e_CG_marking_14 rfl rfl ?_
  exact ⟨rfl, rfl⟩
theorem t_CG_found {x : Int32} (h : ¬ V.1 6 0 = 0) (h0 : ¬ x < 0) (h1 : x < V.1 6 0) (hv : vp_in x 80) : xX S (d + 2) 54 0 (xa_ent 2 [.ref 0, .int x]) [] V 0 0 (xq (some (.int (V.2.1 9 x.toNatClampNeg))) (xl_H xlay V)) := by
  refine xx_aload_n e_CG_found_0 rfl rfl ?_
  refine xx_iload_n e_CG_found_1 rfl rfl ?_
  refine xc_V1v e_CG_found_2 kv_CG_120 (xl_obj rfl) (t_CG_requireState h h0 h1) ?_
  refine xx_aload_n e_CG_found_5 rfl rfl ?_
  refine xh_getR e_CG_found_6 fg_CG_19 rfl rfl ?_
  refine xh_getR e_CG_found_9 fg_CG_130 rfl rfl ?_
  refine xx_iload_n e_CG_found_12 rfl rfl ?_
  refine xh_iald e_CG_found_13 rfl hv ?_
  refine xx_iret e_CG_found_14 rfl rfl ?_
  exact ⟨rfl, rfl⟩
theorem t_CG_excited {x : Int32} (h : ¬ V.1 6 0 = 0) (h0 : ¬ x < 0) (h1 : x < V.1 6 0) (hv : vp_in x 80) : xX S (d + 2) 56 0 (xa_ent 2 [.ref 0, .int x]) [] V 0 0 (xq (some (.int (V.2.1 10 x.toNatClampNeg))) (xl_H xlay V)) := by
  refine xx_aload_n e_CG_excited_0 rfl rfl ?_
  refine xx_iload_n e_CG_excited_1 rfl rfl ?_
  refine xc_V1v e_CG_excited_2 kv_CG_120 (xl_obj rfl) (t_CG_requireState h h0 h1) ?_
  refine xx_aload_n e_CG_excited_5 rfl rfl ?_
  refine xh_getR e_CG_excited_6 fg_CG_19 rfl rfl ?_
  refine xh_getR e_CG_excited_9 fg_CG_133 rfl rfl ?_
  refine xx_iload_n e_CG_excited_12 rfl rfl ?_
  refine xh_iald e_CG_excited_13 rfl hv ?_
  refine xx_iret e_CG_excited_14 rfl rfl ?_
  exact ⟨rfl, rfl⟩
theorem t_CG_analyse {w c e : Nat} (hw : c_ok V w) (he : (k_dr V w).1 1 1 = nI e) (h14 : e ≤ 14) (hc : (g_bd (k_dr V w)).1 6 0 = nI c) (h80 : c ≤ 80) (heB : (g_bd (k_dr V w)).1 1 1 = nI e) (hs : (g_bd (k_dr V w)).1 6 8 = 0 → ∀ k t, k < c → t < e → ¬ (g_bd (k_dr V w)).2.1 12 (k * 14 + t) = -1 → vp_in ((g_bd (k_dr V w)).2.1 12 (k * 14 + t)) 80) :
    xX S (d + 5) 7 0 (xa_ent 1 [.ref 0]) [] V 0 0 (xq (some (.int (g_jf (g_bd (k_dr V w)) c e).1)) (xl_H xlay (xl_i (xl_i (xl_i (g_bd (k_dr V w)) 6 1 (g_jf (g_bd (k_dr V w)) c e).2) 0 4 (g_jf (g_bd (k_dr V w)) c e).1) 0 5 (g_jf (g_bd (k_dr V w)) c e).2))) := by
  refine xx_aload_n e_CG_analyse_0 rfl rfl ?_
  refine xc_V0v e_CG_analyse_1 kv_CG_54 (xl_obj rfl) (t_CG_discardResults (d := d + 2) hw) ?_
  refine xx_aload_n e_CG_analyse_4 rfl rfl ?_
  refine xh_getR e_CG_analyse_5 fg_CG_19 rfl rfl ?_
  refine xx_aload_n e_CG_analyse_8 rfl rfl ?_
  refine xh_getR e_CG_analyse_9 fg_CG_10 rfl rfl ?_
  refine xc_V1v e_CG_analyse_12 kv_CG_103 (xl_obj rfl) (t_G_build (d := d) he h14) ?_
  generalize g_bd (k_dr V w) = B at hc heB hs ⊢
  refine xx_aload_n e_CG_analyse_15 rfl rfl ?_
  refine xx_aload_n e_CG_analyse_16 rfl rfl ?_
  refine xh_getR e_CG_analyse_17 fg_CG_19 rfl rfl ?_
  refine xx_aload_n e_CG_analyse_20 rfl rfl ?_
  refine xh_getR e_CG_analyse_21 fg_CG_10 rfl rfl ?_
  refine xc_V1i e_CG_analyse_24 kv_CG_107 (xl_obj rfl) (t_G_judge (d := d) hc h80 heB h14 hs) ?_
  refine xh_put e_CG_analyse_27 fp_CG_37 rfl rfl ⟨rfl, rfl⟩ ?_
  refine xx_aload_n e_CG_analyse_30 rfl rfl ?_
  refine xx_aload_n e_CG_analyse_31 rfl rfl ?_
  refine xh_getR e_CG_analyse_32 fg_CG_19 rfl rfl ?_
  refine xh_get e_CG_analyse_35 fg_CG_111 rfl rfl ?_
  refine xh_put e_CG_analyse_38 fp_CG_41 rfl rfl ⟨rfl, rfl⟩ ?_
  refine xx_aload_n e_CG_analyse_41 rfl rfl ?_
  refine xh_get e_CG_analyse_42 fg_CG_37 rfl rfl ?_
  refine xx_iret e_CG_analyse_45 rfl rfl ?_
  exact ⟨rfl, rfl⟩
theorem t_CG_products {x : Int32} {w s : Nat} (hw : c_ok V w) (h0 : ¬ x < 0) (h1 : x < V.1 1 0) (hx : x = nI s) (hs : s < 5) : xX S (d + 1) 80 0 (xa_ent 2 [.ref 0, .int x]) [] V 0 0 (xq (some (.int (V.1 (ga w s) 0))) (xl_H xlay V)) := by
  refine xx_aload_n e_CG_products_0 rfl rfl ?_
  refine xx_iload_n e_CG_products_1 rfl rfl ?_
  refine xc_V1v e_CG_products_2 kv_CG_61 (xl_obj rfl) (t_CG_requireSignal h0 h1) ?_
  subst hx
  refine xx_aload_n e_CG_products_5 rfl rfl ?_
  refine xh_getR e_CG_products_6 fg_CG_26 rfl rfl ?_
  refine xh_getR e_CG_products_9 fg_CG_158 rfl rfl ?_
  refine xx_iload_n e_CG_products_12 rfl rfl ?_
  refine xh_aalN e_CG_products_13 rfl hs (hw.2 s hs).1 ?_
  refine xh_get e_CG_products_14 fg_CG_152 (ga_o hs hw.1) rfl ?_
  refine xx_iret e_CG_products_17 rfl rfl ?_
  exact ⟨rfl, rfl⟩
theorem t_CG_strip {x : Int32} {w s : Nat} (hw : c_ok V w) (h0 : ¬ x < 0) (h1 : x < V.1 1 0) (hx : x = nI s) (hs : s < 5) : xX S (d + 1) 87 0 (xa_ent 2 [.ref 0, .int x]) [] V 0 0 (xq none (xl_H xlay (ga_cl V (ga w s)))) := by
  refine xx_aload_n e_CG_strip_0 rfl rfl ?_
  refine xx_iload_n e_CG_strip_1 rfl rfl ?_
  refine xc_V1v e_CG_strip_2 kv_CG_61 (xl_obj rfl) (t_CG_requireSignal h0 h1) ?_
  subst hx
  refine xx_aload_n e_CG_strip_5 rfl rfl ?_
  refine xh_getR e_CG_strip_6 fg_CG_26 rfl rfl ?_
  refine xh_getR e_CG_strip_9 fg_CG_158 rfl rfl ?_
  refine xx_iload_n e_CG_strip_12 rfl rfl ?_
  refine xh_aalN e_CG_strip_13 rfl hs (hw.2 s hs).1 ?_
  refine xc_V0v e_CG_strip_14 kv_CG_186 (xl_obj (ga_o hs hw.1)) (t_Ga_clear (ga_o hs hw.1)) ?_
  refine xx_vret e_CG_strip_17 rfl ?_
  exact ⟨rfl, rfl⟩
theorem t_CG_product {x i : Int32} {w s : Nat} (hw : c_ok V w) (h0 : ¬ x < 0) (h1 : x < V.1 1 0) (hx : x = nI s) (hs : s < 5) (hi0 : ¬ i < 0) (hi1 : i < V.1 (ga w s) 0) (hi8 : vp_in i 8) : xX S (d + 1) 82 0 (xa_ent 3 [.ref 0, .int x, .int i]) [] V 0 0 (xq (some (.int (V.2.1 (ga w s + 1) i.toNatClampNeg))) (xl_H xlay V)) := by
  refine xx_aload_n e_CG_product_0 rfl rfl ?_
  refine xx_iload_n e_CG_product_1 rfl rfl ?_
  refine xc_V1v e_CG_product_2 kv_CG_61 (xl_obj rfl) (t_CG_requireSignal h0 h1) ?_
  subst hx
  refine xx_iload_n e_CG_product_5 rfl rfl ?_
  refine xx_if_lt e_CG_product_6 (fun q => absurd q hi0) (fun _ => ?_)
  refine xx_iload_n e_CG_product_9 rfl rfl ?_
  refine xx_aload_n e_CG_product_10 rfl rfl ?_
  refine xh_getR e_CG_product_11 fg_CG_26 rfl rfl ?_
  refine xh_getR e_CG_product_14 fg_CG_158 rfl rfl ?_
  refine xx_iload_n e_CG_product_17 rfl rfl ?_
  refine xh_aalN e_CG_product_18 rfl hs (hw.2 s hs).1 ?_
  refine xh_get e_CG_product_19 fg_CG_152 (ga_o hs hw.1) rfl ?_
  refine xx_icmp_lt e_CG_product_22 (fun _ => ?_) (fun q => absurd hi1 q)
  refine xx_aload_n e_CG_product_35 rfl rfl ?_
  refine xh_getR e_CG_product_36 fg_CG_26 rfl rfl ?_
  refine xh_getR e_CG_product_39 fg_CG_158 rfl rfl ?_
  refine xx_iload_n e_CG_product_42 rfl rfl ?_
  refine xh_aalN e_CG_product_43 rfl hs (hw.2 s hs).1 ?_
  refine xh_getR e_CG_product_44 fg_CG_163 (ga_o hs hw.1) rfl ?_
  refine xx_iload_n e_CG_product_47 rfl rfl ?_
  refine xh_iald e_CG_product_48 (ga_n hs hw.1) hi8 ?_
  refine xx_iret e_CG_product_49 rfl rfl ?_
  exact ⟨rfl, rfl⟩
theorem t_CG_value {x cd : Int32} {w s : Nat} (hw : c_ok V w) (h0 : ¬ x < 0) (h1 : x < V.1 1 0) (hx : x = nI s) (hs : s < 5) (hc0 : ¬ cd < 0) (hc1 : cd < (1 : Int32) <<< (V.1 1 0 &&& 31)) : xX S (d + 1) 89 0 (xa_ent 3 [.ref 0, .int x, .int cd]) [] V 0 0 (xq (some (.int (ga_ou V (ga w s) cd))) (xl_H xlay V)) := by
  refine xx_aload_n e_CG_value_0 rfl rfl ?_
  refine xx_iload_n e_CG_value_1 rfl rfl ?_
  refine xc_V1v e_CG_value_2 kv_CG_61 (xl_obj rfl) (t_CG_requireSignal h0 h1) ?_
  subst hx
  refine xx_iload_n e_CG_value_5 rfl rfl ?_
  refine xx_if_lt e_CG_value_6 (fun q => absurd q hc0) (fun _ => ?_)
  refine xx_iload_n e_CG_value_9 rfl rfl ?_
  refine xx_iconst (v := 1) e_CG_value_10 (by decide) ?_
  refine xx_aload_n e_CG_value_11 rfl rfl ?_
  refine xh_getR e_CG_value_12 fg_CG_10 rfl rfl ?_
  refine xh_get e_CG_value_15 fg_CG_44 rfl rfl ?_
  refine xx_ishl e_CG_value_18 ?_
  refine xx_icmp_lt e_CG_value_19 (fun _ => ?_) (fun q => absurd hc1 q)
  refine xx_aload_n e_CG_value_32 rfl rfl ?_
  refine xh_getR e_CG_value_33 fg_CG_26 rfl rfl ?_
  refine xh_getR e_CG_value_36 fg_CG_158 rfl rfl ?_
  refine xx_iload_n e_CG_value_39 rfl rfl ?_
  refine xh_aalN e_CG_value_40 rfl hs (hw.2 s hs).1 ?_
  refine xx_iload_n e_CG_value_41 rfl rfl ?_
  refine xc_V1i e_CG_value_42 kv_CG_191 (xl_obj (ga_o hs hw.1)) (t_Ga_output (ga_o hs hw.1)) ?_
  refine xx_iret e_CG_value_45 rfl rfl ?_
  exact ⟨rfl, rfl⟩
theorem t_CG_signal {i h : Int32} {w : Nat} (hw : c_ok V w) (hlt : V.1 1 0 < 5) : xX S (d + 3) 32 0 (xa_ent 3 [.ref 0, .int i, .int h]) [] V 0 0 (xq (some (.int ((k_dr V w).1 1 0 + 1 - 1))) (xl_H xlay (n_as (k_dr V w) i h))) := by
  refine xx_aload_n e_CG_signal_0 rfl rfl ?_
  refine xh_getR e_CG_signal_1 fg_CG_10 rfl rfl ?_
  refine xh_get e_CG_signal_4 fg_CG_44 rfl rfl ?_
  refine xx_iconst (v := 5) e_CG_signal_7 (by decide) ?_
  refine xx_icmp_lt e_CG_signal_8 (fun _ => ?_) (fun q => absurd hlt q)
  refine xx_aload_n e_CG_signal_21 rfl rfl ?_
  refine xc_V0v e_CG_signal_22 kv_CG_54 (xl_obj rfl) (t_CG_discardResults (d := d) hw) ?_
  refine xx_aload_n e_CG_signal_25 rfl rfl ?_
  refine xh_getR e_CG_signal_26 fg_CG_10 rfl rfl ?_
  refine xx_iload_n e_CG_signal_29 rfl rfl ?_
  refine xx_iload_n e_CG_signal_30 rfl rfl ?_
  refine xc_V2i e_CG_signal_31 kv_CG_57 (xl_obj rfl) (t_N_addSignal) ?_
  refine xx_iret e_CG_signal_34 rfl rfl ?_
  exact ⟨rfl, rfl⟩
theorem t_CG_edge {x r : Int32} {w : Nat} (hw : c_ok V w) (h0 : ¬ x < 0) (h1 : x < V.1 1 0) (hlt : V.1 1 1 < 14) (hv : vp_in ((k_dr V w).1 1 1) 14) : xX S (d + 3) 35 0 (xa_ent 3 [.ref 0, .int x, .int r]) [] V 0 0 (xq (some (.int ((k_dr V w).1 1 1 + 1 - 1))) (xl_H xlay (n_ae (k_dr V w) x r))) := by
  refine xx_aload_n e_CG_edge_0 rfl rfl ?_
  refine xx_iload_n e_CG_edge_1 rfl rfl ?_
  refine xc_V1v e_CG_edge_2 kv_CG_61 (xl_obj rfl) (t_CG_requireSignal h0 h1) ?_
  refine xx_aload_n e_CG_edge_5 rfl rfl ?_
  refine xh_getR e_CG_edge_6 fg_CG_10 rfl rfl ?_
  refine xh_get e_CG_edge_9 fg_CG_65 rfl rfl ?_
  refine xx_bipush (v := 14) e_CG_edge_12 (by decide) ?_
  refine xx_icmp_lt e_CG_edge_14 (fun _ => ?_) (fun q => absurd hlt q)
  refine xx_aload_n e_CG_edge_27 rfl rfl ?_
  refine xc_V0v e_CG_edge_28 kv_CG_54 (xl_obj rfl) (t_CG_discardResults (d := d) hw) ?_
  refine xx_aload_n e_CG_edge_31 rfl rfl ?_
  refine xh_getR e_CG_edge_32 fg_CG_10 rfl rfl ?_
  refine xx_iload_n e_CG_edge_35 rfl rfl ?_
  refine xx_iload_n e_CG_edge_36 rfl rfl ?_
  refine xc_V2i e_CG_edge_37 kv_CG_70 (xl_obj rfl) (t_N_addEdge hv) ?_
  refine xx_iret e_CG_edge_40 rfl rfl ?_
  exact ⟨rfl, rfl⟩
theorem t_CG_place {b : Int32} {w : Nat} (hw : c_ok V w) (hlt : V.1 1 2 < 16) : xX S (d + 3) 39 0 (xa_ent 2 [.ref 0, .int b]) [] V 0 0 (xq (some (.int ((k_dr V w).1 1 2 + 1 - 1))) (xl_H xlay (n_ap (k_dr V w) b))) := by
  refine xx_aload_n e_CG_place_0 rfl rfl ?_
  refine xh_getR e_CG_place_1 fg_CG_10 rfl rfl ?_
  refine xh_get e_CG_place_4 fg_CG_74 rfl rfl ?_
  refine xx_bipush (v := 16) e_CG_place_7 (by decide) ?_
  refine xx_icmp_lt e_CG_place_9 (fun _ => ?_) (fun q => absurd hlt q)
  refine xx_aload_n e_CG_place_22 rfl rfl ?_
  refine xc_V0v e_CG_place_23 kv_CG_54 (xl_obj rfl) (t_CG_discardResults (d := d) hw) ?_
  refine xx_aload_n e_CG_place_26 rfl rfl ?_
  refine xh_getR e_CG_place_27 fg_CG_10 rfl rfl ?_
  refine xx_iload_n e_CG_place_30 rfl rfl ?_
  refine xc_V1i e_CG_place_31 kv_CG_79 (xl_obj rfl) (t_N_addPlace) ?_
  refine xx_iret e_CG_place_34 rfl rfl ?_
  exact ⟨rfl, rfl⟩
theorem t_CG_arc {p t b : Int32} {w : Nat} (hw : c_ok V w) (hp0 : ¬ p < 0) (hp1 : p < V.1 1 2) (ht0 : ¬ t < 0) (ht1 : t < V.1 1 1) (hv : vp_in t 14) (hno : n_ha V p t.toNatClampNeg b = 0) : xX S (d + 3) 42 0 (xa_ent 4 [.ref 0, .int p, .int t, .int b]) [] V 0 0 (xq none (xl_H xlay (n_aa (k_dr V w) p t.toNatClampNeg b))) := by
  refine xx_iload_n e_CG_arc_0 rfl rfl ?_
  refine xx_if_lt e_CG_arc_1 (fun q => absurd q hp0) (fun _ => ?_)
  refine xx_iload_n e_CG_arc_4 rfl rfl ?_
  refine xx_aload_n e_CG_arc_5 rfl rfl ?_
  refine xh_getR e_CG_arc_6 fg_CG_10 rfl rfl ?_
  refine xh_get e_CG_arc_9 fg_CG_74 rfl rfl ?_
  refine xx_icmp_lt e_CG_arc_12 (fun _ => ?_) (fun q => absurd hp1 q)
  refine xx_iload_n e_CG_arc_25 rfl rfl ?_
  refine xx_if_lt e_CG_arc_26 (fun q => absurd q ht0) (fun _ => ?_)
  refine xx_iload_n e_CG_arc_29 rfl rfl ?_
  refine xx_aload_n e_CG_arc_30 rfl rfl ?_
  refine xh_getR e_CG_arc_31 fg_CG_10 rfl rfl ?_
  refine xh_get e_CG_arc_34 fg_CG_65 rfl rfl ?_
  refine xx_icmp_lt e_CG_arc_37 (fun _ => ?_) (fun q => absurd ht1 q)
  refine xx_aload_n e_CG_arc_50 rfl rfl ?_
  refine xh_getR e_CG_arc_51 fg_CG_10 rfl rfl ?_
  refine xx_iload_n e_CG_arc_54 rfl rfl ?_
  refine xx_iload_n e_CG_arc_55 rfl rfl ?_
  refine xx_iload_n e_CG_arc_56 rfl rfl ?_
  refine xc_V3i e_CG_arc_57 kv_CG_90 (xl_obj rfl) (t_N_hasArc hv) ?_
  refine xx_if_eq e_CG_arc_60 (fun _ => ?_) (fun q => absurd hno q)
  refine xx_aload_n e_CG_arc_73 rfl rfl ?_
  refine xc_V0v e_CG_arc_74 kv_CG_54 (xl_obj rfl) (t_CG_discardResults (d := d) hw) ?_
  refine xx_aload_n e_CG_arc_77 rfl rfl ?_
  refine xh_getR e_CG_arc_78 fg_CG_10 rfl rfl ?_
  refine xx_iload_n e_CG_arc_81 rfl rfl ?_
  refine xx_iload_n e_CG_arc_82 rfl rfl ?_
  refine xx_iload_n e_CG_arc_83 rfl rfl ?_
  refine xc_V3v e_CG_arc_84 kv_CG_99 (xl_obj rfl) (t_N_addArc hv) ?_
  refine xx_vret e_CG_arc_87 rfl ?_
  exact ⟨rfl, rfl⟩
theorem t_CG_check {w c e n : Nat} {Q : xa_Q} (hfine : V.1 0 4 = 0) (hw : c_ok V w) (hc : V.1 6 0 = nI c) (h1c : 0 < c) (h80 : c ≤ 80) (he : V.1 1 1 = nI e) (h14 : e ≤ 14) (hn : V.1 1 0 = nI n) (h5 : n ≤ 5) (hsg : ∀ t, t < e → ∃ s, s < 5 ∧ V.2.1 2 t = nI s)
    (hsc : ∀ k t, k < c → t < e → ¬ V.2.1 12 (k * 14 + t) = -1 → ∃ j, j < c ∧ V.2.1 12 (k * 14 + t) = nI j)
    (hQ : ∀ W, c_rd V W w e c → Q (.inl (some (.int (c_xf W w e c n).1))) (xl_H xlay (xl_i (xl_i W 13 0 (c_xf W w e c n).2) 0 5 (c_xf W w e c n).2))) :
    xX S (d + 6) 92 0 (xa_ent 2 [.ref 0]) [] V 0 0 Q := by
  refine xx_aload_n e_CG_check_0 rfl rfl ?_
  refine xc_V0v e_CG_check_1 kv_CG_136 (xl_obj rfl) (t_CG_requireFine hfine) ?_
  refine xx_aload_n e_CG_check_4 rfl rfl ?_
  refine xh_getR e_CG_check_5 fg_CG_26 rfl rfl ?_
  refine xx_aload_n e_CG_check_8 rfl rfl ?_
  refine xh_getR e_CG_check_9 fg_CG_10 rfl rfl ?_
  refine xx_aload_n e_CG_check_12 rfl rfl ?_
  refine xh_getR e_CG_check_13 fg_CG_19 rfl rfl ?_
  refine xc_V2z e_CG_check_16 kv_CG_194 (xl_obj rfl) (t_Ci_explore (d := d) hw hc h1c h80 he h14 hn h5 hsg hsc (fun W hW => xk_i ?_))
  refine xx_istore_n e_CG_check_19 rfl rfl ?_
  refine xx_aload_n e_CG_check_20 rfl rfl ?_
  refine xx_aload_n e_CG_check_21 rfl rfl ?_
  refine xh_getR e_CG_check_22 fg_CG_26 rfl rfl ?_
  refine xh_get e_CG_check_25 fg_CG_198 rfl rfl ?_
  refine xh_put e_CG_check_28 fp_CG_41 rfl rfl ⟨rfl, rfl⟩ ?_
  refine xx_iload_n e_CG_check_31 rfl rfl ?_
  refine xx_iret e_CG_check_32 rfl rfl ?_
  exact hQ W hW
end XCg
