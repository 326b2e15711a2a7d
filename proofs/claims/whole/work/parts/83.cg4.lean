/-! The class: where it refuses. -/
section XCg4
variable {S : Nat × (Nat → Int32)} {V : xl_V} {d : Nat}
theorem t_CG_requireSignal_e {x : Int32} (h : x < 0 ∨ ¬ x < V.1 1 0) : xX S d 36 0 (xa_ent 2 [.ref 0, .int x]) [] V 1 6 (xqe eI (xl_H xlay V)) := by
  refine xx_iload_n e_CG_requireSignal_0 rfl rfl ?_
  refine xx_if_lt e_CG_requireSignal_1 (fun _ => th_CG_requireSignal_15 (by decide) ⟨rfl, rfl⟩) (fun q => ?_)
  refine xx_iload_n e_CG_requireSignal_4 rfl rfl ?_
  refine xx_aload_n e_CG_requireSignal_5 rfl rfl ?_
  refine xh_getR e_CG_requireSignal_6 fg_CG_10 rfl rfl ?_
  refine xh_get e_CG_requireSignal_9 fg_CG_44 rfl rfl ?_
  exact xx_icmp_lt e_CG_requireSignal_12 (fun z => (h.elim (fun u => q u) (fun u => u z)).elim) (fun _ => th_CG_requireSignal_15 (by decide) ⟨rfl, rfl⟩)
theorem t_CG_requireGraph_e (h : V.1 6 0 = 0) : xX S d 47 0 (xa_ent 1 [.ref 0]) [] V 1 6 (xqe eS (xl_H xlay V)) := by
  refine xx_aload_n e_CG_requireGraph_0 rfl rfl ?_
  refine xh_getR e_CG_requireGraph_1 fg_CG_19 rfl rfl ?_
  refine xh_get e_CG_requireGraph_4 fg_CG_117 rfl rfl ?_
  exact xx_if_ne e_CG_requireGraph_7 (fun q => absurd h q) (fun _ => th_CG_requireGraph_10 (by decide) ⟨rfl, rfl⟩)
theorem t_CG_requireFine_e (h : ¬ V.1 0 4 = 0) : xX S d 59 0 (xa_ent 1 [.ref 0]) [] V 1 6 (xqe eS (xl_H xlay V)) := by
  refine xx_aload_n e_CG_requireFine_0 rfl rfl ?_
  refine xh_get e_CG_requireFine_1 fg_CG_37 rfl rfl ?_
  exact xx_if_eq e_CG_requireFine_4 (fun q => absurd q h) (fun _ => th_CG_requireFine_7 (by decide) ⟨rfl, rfl⟩)
theorem t_CG_requireState_g {x : Int32} (h : V.1 6 0 = 0) : xX S (d + 1) 50 0 (xa_ent 2 [.ref 0, .int x]) [] V 1 6 (xqe eS (xl_H xlay V)) := by
  refine xx_aload_n e_CG_requireState_0 rfl rfl ?_
  refine xe_V0 e_CG_requireState_1 kv_CG_114 (xl_obj rfl) (t_CG_requireGraph_e h) rfl ?_
  exact ⟨rfl, rfl⟩
theorem t_CG_requireState_e {x : Int32} (h : ¬ V.1 6 0 = 0) (hx : x < 0 ∨ ¬ x < V.1 6 0) : xX S (d + 1) 50 0 (xa_ent 2 [.ref 0, .int x]) [] V 1 6 (xqe eI (xl_H xlay V)) := by
  refine xx_aload_n e_CG_requireState_0 rfl rfl ?_
  refine xc_V0v e_CG_requireState_1 kv_CG_114 (xl_obj rfl) (t_CG_requireGraph h) ?_
  refine xx_iload_n e_CG_requireState_4 rfl rfl ?_
  refine xx_if_lt e_CG_requireState_5 (fun _ => th_CG_requireState_19 (by decide) ⟨rfl, rfl⟩) (fun q => ?_)
  refine xx_iload_n e_CG_requireState_8 rfl rfl ?_
  refine xx_aload_n e_CG_requireState_9 rfl rfl ?_
  refine xh_getR e_CG_requireState_10 fg_CG_19 rfl rfl ?_
  refine xh_get e_CG_requireState_13 fg_CG_117 rfl rfl ?_
  exact xx_icmp_lt e_CG_requireState_16 (fun z => (hx.elim (fun u => q u) (fun u => u z)).elim) (fun _ => th_CG_requireState_19 (by decide) ⟨rfl, rfl⟩)
theorem t_CG_states_e (h : V.1 6 0 = 0) : xX S (d + 1) 46 0 (xa_ent 1 [.ref 0]) [] V 1 6 (xqe eS (xl_H xlay V)) := by
  refine xx_aload_n e_CG_states_0 rfl rfl ?_
  refine xe_V0 e_CG_states_1 kv_CG_114 (xl_obj rfl) (t_CG_requireGraph_e h) rfl ?_
  exact ⟨rfl, rfl⟩
theorem t_CG_code_g {x : Int32} (h : V.1 6 0 = 0) : xX S (d + 2) 49 0 (xa_ent 2 [.ref 0, .int x]) [] V 1 6 (xqe eS (xl_H xlay V)) := by
  refine xx_aload_n e_CG_code_0 rfl rfl ?_
  refine xx_iload_n e_CG_code_1 rfl rfl ?_
  refine xe_V1 e_CG_code_2 kv_CG_120 (xl_obj rfl) (t_CG_requireState_g h) rfl ?_
  exact ⟨rfl, rfl⟩
theorem t_CG_code_e {x : Int32} (h : ¬ V.1 6 0 = 0) (hx : x < 0 ∨ ¬ x < V.1 6 0) : xX S (d + 2) 49 0 (xa_ent 2 [.ref 0, .int x]) [] V 1 6 (xqe eI (xl_H xlay V)) := by
  refine xx_aload_n e_CG_code_0 rfl rfl ?_
  refine xx_iload_n e_CG_code_1 rfl rfl ?_
  refine xe_V1 e_CG_code_2 kv_CG_120 (xl_obj rfl) (t_CG_requireState_e h hx) rfl ?_
  exact ⟨rfl, rfl⟩
theorem t_CG_marking_g {x : Int32} (h : V.1 6 0 = 0) : xX S (d + 2) 52 0 (xa_ent 2 [.ref 0, .int x]) [] V 1 6 (xqe eS (xl_H xlay V)) := by
  refine xx_aload_n e_CG_marking_0 rfl rfl ?_
  refine xx_iload_n e_CG_marking_1 rfl rfl ?_
  refine xe_V1 e_CG_marking_2 kv_CG_120 (xl_obj rfl) (t_CG_requireState_g h) rfl ?_
  exact ⟨rfl, rfl⟩
theorem t_CG_marking_e {x : Int32} (h : ¬ V.1 6 0 = 0) (hx : x < 0 ∨ ¬ x < V.1 6 0) : xX S (d + 2) 52 0 (xa_ent 2 [.ref 0, .int x]) [] V 1 6 (xqe eI (xl_H xlay V)) := by
  refine xx_aload_n e_CG_marking_0 rfl rfl ?_
  refine xx_iload_n e_CG_marking_1 rfl rfl ?_
  refine xe_V1 e_CG_marking_2 kv_CG_120 (xl_obj rfl) (t_CG_requireState_e h hx) rfl ?_
  exact ⟨rfl, rfl⟩
theorem t_CG_found_g {x : Int32} (h : V.1 6 0 = 0) : xX S (d + 2) 54 0 (xa_ent 2 [.ref 0, .int x]) [] V 1 6 (xqe eS (xl_H xlay V)) := by
  refine xx_aload_n e_CG_found_0 rfl rfl ?_
  refine xx_iload_n e_CG_found_1 rfl rfl ?_
  refine xe_V1 e_CG_found_2 kv_CG_120 (xl_obj rfl) (t_CG_requireState_g h) rfl ?_
  exact ⟨rfl, rfl⟩
theorem t_CG_found_e {x : Int32} (h : ¬ V.1 6 0 = 0) (hx : x < 0 ∨ ¬ x < V.1 6 0) : xX S (d + 2) 54 0 (xa_ent 2 [.ref 0, .int x]) [] V 1 6 (xqe eI (xl_H xlay V)) := by
  refine xx_aload_n e_CG_found_0 rfl rfl ?_
  refine xx_iload_n e_CG_found_1 rfl rfl ?_
  refine xe_V1 e_CG_found_2 kv_CG_120 (xl_obj rfl) (t_CG_requireState_e h hx) rfl ?_
  exact ⟨rfl, rfl⟩
theorem t_CG_excited_g {x : Int32} (h : V.1 6 0 = 0) : xX S (d + 2) 56 0 (xa_ent 2 [.ref 0, .int x]) [] V 1 6 (xqe eS (xl_H xlay V)) := by
  refine xx_aload_n e_CG_excited_0 rfl rfl ?_
  refine xx_iload_n e_CG_excited_1 rfl rfl ?_
  refine xe_V1 e_CG_excited_2 kv_CG_120 (xl_obj rfl) (t_CG_requireState_g h) rfl ?_
  exact ⟨rfl, rfl⟩
theorem t_CG_excited_e {x : Int32} (h : ¬ V.1 6 0 = 0) (hx : x < 0 ∨ ¬ x < V.1 6 0) : xX S (d + 2) 56 0 (xa_ent 2 [.ref 0, .int x]) [] V 1 6 (xqe eI (xl_H xlay V)) := by
  refine xx_aload_n e_CG_excited_0 rfl rfl ?_
  refine xx_iload_n e_CG_excited_1 rfl rfl ?_
  refine xe_V1 e_CG_excited_2 kv_CG_120 (xl_obj rfl) (t_CG_requireState_e h hx) rfl ?_
  exact ⟨rfl, rfl⟩
theorem t_CG_products_e {x : Int32} (h : x < 0 ∨ ¬ x < V.1 1 0) : xX S (d + 1) 80 0 (xa_ent 2 [.ref 0, .int x]) [] V 1 6 (xqe eI (xl_H xlay V)) := by
  refine xx_aload_n e_CG_products_0 rfl rfl ?_
  refine xx_iload_n e_CG_products_1 rfl rfl ?_
  refine xe_V1 e_CG_products_2 kv_CG_61 (xl_obj rfl) (t_CG_requireSignal_e h) rfl ?_
  exact ⟨rfl, rfl⟩
theorem t_CG_strip_e {x : Int32} (h : x < 0 ∨ ¬ x < V.1 1 0) : xX S (d + 1) 87 0 (xa_ent 2 [.ref 0, .int x]) [] V 1 6 (xqe eI (xl_H xlay V)) := by
  refine xx_aload_n e_CG_strip_0 rfl rfl ?_
  refine xx_iload_n e_CG_strip_1 rfl rfl ?_
  refine xe_V1 e_CG_strip_2 kv_CG_61 (xl_obj rfl) (t_CG_requireSignal_e h) rfl ?_
  exact ⟨rfl, rfl⟩
theorem t_CG_product_e {x i : Int32} (h : x < 0 ∨ ¬ x < V.1 1 0) : xX S (d + 1) 82 0 (xa_ent 3 [.ref 0, .int x, .int i]) [] V 1 6 (xqe eI (xl_H xlay V)) := by
  refine xx_aload_n e_CG_product_0 rfl rfl ?_
  refine xx_iload_n e_CG_product_1 rfl rfl ?_
  refine xe_V1 e_CG_product_2 kv_CG_61 (xl_obj rfl) (t_CG_requireSignal_e h) rfl ?_
  exact ⟨rfl, rfl⟩
theorem t_CG_value_e {x i : Int32} (h : x < 0 ∨ ¬ x < V.1 1 0) : xX S (d + 1) 89 0 (xa_ent 3 [.ref 0, .int x, .int i]) [] V 1 6 (xqe eI (xl_H xlay V)) := by
  refine xx_aload_n e_CG_value_0 rfl rfl ?_
  refine xx_iload_n e_CG_value_1 rfl rfl ?_
  refine xe_V1 e_CG_value_2 kv_CG_61 (xl_obj rfl) (t_CG_requireSignal_e h) rfl ?_
  exact ⟨rfl, rfl⟩
theorem t_CG_edge_e {x i : Int32} (h : x < 0 ∨ ¬ x < V.1 1 0) : xX S (d + 1) 35 0 (xa_ent 3 [.ref 0, .int x, .int i]) [] V 1 6 (xqe eI (xl_H xlay V)) := by
  refine xx_aload_n e_CG_edge_0 rfl rfl ?_
  refine xx_iload_n e_CG_edge_1 rfl rfl ?_
  refine xe_V1 e_CG_edge_2 kv_CG_61 (xl_obj rfl) (t_CG_requireSignal_e h) rfl ?_
  exact ⟨rfl, rfl⟩
theorem t_CG_append_e {x i : Int32} (h : x < 0 ∨ ¬ x < V.1 1 0) : xX S (d + 1) 84 0 (xa_ent 3 [.ref 0, .int x, .int i]) [] V 1 6 (xqe eI (xl_H xlay V)) := by
  refine xx_aload_n e_CG_append_0 rfl rfl ?_
  refine xx_iload_n e_CG_append_1 rfl rfl ?_
  refine xe_V1 e_CG_append_2 kv_CG_61 (xl_obj rfl) (t_CG_requireSignal_e h) rfl ?_
  exact ⟨rfl, rfl⟩
theorem t_CG_check_e (h : ¬ V.1 0 4 = 0) : xX S (d + 1) 92 0 (xa_ent 2 [.ref 0]) [] V 1 6 (xqe eS (xl_H xlay V)) := by
  refine xx_aload_n e_CG_check_0 rfl rfl ?_
  refine xe_V0 e_CG_check_1 kv_CG_136 (xl_obj rfl) (t_CG_requireFine_e h) rfl ?_
  exact ⟨rfl, rfl⟩
theorem t_CG_synthesise_e (h : ¬ V.1 0 4 = 0) : xX S (d + 1) 58 0 (xa_ent 3 [.ref 0]) [] V 1 6 (xqe eS (xl_H xlay V)) := by
  refine xx_aload_n e_CG_synthesise_0 rfl rfl ?_
  refine xe_V0 e_CG_synthesise_1 kv_CG_136 (xl_obj rfl) (t_CG_requireFine_e h) rfl ?_
  exact ⟨rfl, rfl⟩
theorem t_CG_product_i {x i : Int32} {w s : Nat} (hw : c_ok V w) (h0 : ¬ x < 0) (h1 : x < V.1 1 0) (hx : x = nI s) (hs : s < 5) (hi : i < 0 ∨ ¬ i < V.1 (ga w s) 0) : xX S (d + 1) 82 0 (xa_ent 3 [.ref 0, .int x, .int i]) [] V 1 6 (xqe eI (xl_H xlay V)) := by
  subst hx
  refine xx_aload_n e_CG_product_0 rfl rfl ?_
  refine xx_iload_n e_CG_product_1 rfl rfl ?_
  refine xc_V1v e_CG_product_2 kv_CG_61 (xl_obj rfl) (t_CG_requireSignal h0 h1) ?_
  refine xx_iload_n e_CG_product_5 rfl rfl ?_
  refine xx_if_lt e_CG_product_6 (fun _ => th_CG_product_25 (by decide) ⟨rfl, rfl⟩) (fun q => ?_)
  refine xx_iload_n e_CG_product_9 rfl rfl ?_
  refine xx_aload_n e_CG_product_10 rfl rfl ?_
  refine xh_getR e_CG_product_11 fg_CG_26 rfl rfl ?_
  refine xh_getR e_CG_product_14 fg_CG_158 rfl rfl ?_
  refine xx_iload_n e_CG_product_17 rfl rfl ?_
  refine xh_aalN e_CG_product_18 rfl hs (hw.2 s hs).1 ?_
  refine xh_get e_CG_product_19 fg_CG_152 (ga_o hs hw.1) rfl ?_
  exact xx_icmp_lt e_CG_product_22 (fun z => (hi.elim (fun u => q u) (fun u => u z)).elim) (fun _ => th_CG_product_25 (by decide) ⟨rfl, rfl⟩)
theorem t_CG_value_i {x cd : Int32} (h0 : ¬ x < 0) (h1 : x < V.1 1 0) (hi : cd < 0 ∨ ¬ cd < (1 : Int32) <<< (V.1 1 0 &&& 31)) : xX S (d + 1) 89 0 (xa_ent 3 [.ref 0, .int x, .int cd]) [] V 1 6 (xqe eI (xl_H xlay V)) := by
  refine xx_aload_n e_CG_value_0 rfl rfl ?_
  refine xx_iload_n e_CG_value_1 rfl rfl ?_
  refine xc_V1v e_CG_value_2 kv_CG_61 (xl_obj rfl) (t_CG_requireSignal h0 h1) ?_
  refine xx_iload_n e_CG_value_5 rfl rfl ?_
  refine xx_if_lt e_CG_value_6 (fun _ => th_CG_value_22 (by decide) ⟨rfl, rfl⟩) (fun q => ?_)
  refine xx_iload_n e_CG_value_9 rfl rfl ?_
  refine xx_iconst (v := 1) e_CG_value_10 (by decide) ?_
  refine xx_aload_n e_CG_value_11 rfl rfl ?_
  refine xh_getR e_CG_value_12 fg_CG_10 rfl rfl ?_
  refine xh_get e_CG_value_15 fg_CG_44 rfl rfl ?_
  refine xx_ishl e_CG_value_18 ?_
  exact xx_icmp_lt e_CG_value_19 (fun z => (hi.elim (fun u => q u) (fun u => u z)).elim) (fun _ => th_CG_value_22 (by decide) ⟨rfl, rfl⟩)
theorem t_CG_signal_e {i h : Int32} (hlt : ¬ V.1 1 0 < 5) : xX S d 32 0 (xa_ent 3 [.ref 0, .int i, .int h]) [] V 1 6 (xqe eS (xl_H xlay V)) := by
  refine xx_aload_n e_CG_signal_0 rfl rfl ?_
  refine xh_getR e_CG_signal_1 fg_CG_10 rfl rfl ?_
  refine xh_get e_CG_signal_4 fg_CG_44 rfl rfl ?_
  refine xx_iconst (v := 5) e_CG_signal_7 (by decide) ?_
  exact xx_icmp_lt e_CG_signal_8 (fun q => absurd q hlt) (fun _ => th_CG_signal_11 (by decide) ⟨rfl, rfl⟩)
theorem t_CG_edge_f {x r : Int32} (h0 : ¬ x < 0) (h1 : x < V.1 1 0) (hlt : ¬ V.1 1 1 < 14) : xX S (d + 1) 35 0 (xa_ent 3 [.ref 0, .int x, .int r]) [] V 1 6 (xqe eS (xl_H xlay V)) := by
  refine xx_aload_n e_CG_edge_0 rfl rfl ?_
  refine xx_iload_n e_CG_edge_1 rfl rfl ?_
  refine xc_V1v e_CG_edge_2 kv_CG_61 (xl_obj rfl) (t_CG_requireSignal h0 h1) ?_
  refine xx_aload_n e_CG_edge_5 rfl rfl ?_
  refine xh_getR e_CG_edge_6 fg_CG_10 rfl rfl ?_
  refine xh_get e_CG_edge_9 fg_CG_65 rfl rfl ?_
  refine xx_bipush (v := 14) e_CG_edge_12 (by decide) ?_
  exact xx_icmp_lt e_CG_edge_14 (fun q => absurd q hlt) (fun _ => th_CG_edge_17 (by decide) ⟨rfl, rfl⟩)
theorem t_CG_place_e {b : Int32} (hlt : ¬ V.1 1 2 < 16) : xX S d 39 0 (xa_ent 2 [.ref 0, .int b]) [] V 1 6 (xqe eS (xl_H xlay V)) := by
  refine xx_aload_n e_CG_place_0 rfl rfl ?_
  refine xh_getR e_CG_place_1 fg_CG_10 rfl rfl ?_
  refine xh_get e_CG_place_4 fg_CG_74 rfl rfl ?_
  refine xx_bipush (v := 16) e_CG_place_7 (by decide) ?_
  exact xx_icmp_lt e_CG_place_9 (fun q => absurd q hlt) (fun _ => th_CG_place_12 (by decide) ⟨rfl, rfl⟩)
theorem t_CG_arc_p {p t b : Int32} (hp : p < 0 ∨ ¬ p < V.1 1 2) : xX S d 42 0 (xa_ent 4 [.ref 0, .int p, .int t, .int b]) [] V 1 6 (xqe eI (xl_H xlay V)) := by
  refine xx_iload_n e_CG_arc_0 rfl rfl ?_
  refine xx_if_lt e_CG_arc_1 (fun _ => th_CG_arc_15 (by decide) ⟨rfl, rfl⟩) (fun q => ?_)
  refine xx_iload_n e_CG_arc_4 rfl rfl ?_
  refine xx_aload_n e_CG_arc_5 rfl rfl ?_
  refine xh_getR e_CG_arc_6 fg_CG_10 rfl rfl ?_
  refine xh_get e_CG_arc_9 fg_CG_74 rfl rfl ?_
  exact xx_icmp_lt e_CG_arc_12 (fun z => (hp.elim (fun u => q u) (fun u => u z)).elim) (fun _ => th_CG_arc_15 (by decide) ⟨rfl, rfl⟩)
theorem t_CG_arc_t {p t b : Int32} (hp0 : ¬ p < 0) (hp1 : p < V.1 1 2) (ht : t < 0 ∨ ¬ t < V.1 1 1) : xX S d 42 0 (xa_ent 4 [.ref 0, .int p, .int t, .int b]) [] V 1 6 (xqe eI (xl_H xlay V)) := by
  refine xx_iload_n e_CG_arc_0 rfl rfl ?_
  refine xx_if_lt e_CG_arc_1 (fun q => absurd q hp0) (fun _ => ?_)
  refine xx_iload_n e_CG_arc_4 rfl rfl ?_
  refine xx_aload_n e_CG_arc_5 rfl rfl ?_
  refine xh_getR e_CG_arc_6 fg_CG_10 rfl rfl ?_
  refine xh_get e_CG_arc_9 fg_CG_74 rfl rfl ?_
  refine xx_icmp_lt e_CG_arc_12 (fun _ => ?_) (fun q => absurd hp1 q)
  refine xx_iload_n e_CG_arc_25 rfl rfl ?_
  refine xx_if_lt e_CG_arc_26 (fun _ => th_CG_arc_40 (by decide) ⟨rfl, rfl⟩) (fun q => ?_)
  refine xx_iload_n e_CG_arc_29 rfl rfl ?_
  refine xx_aload_n e_CG_arc_30 rfl rfl ?_
  refine xh_getR e_CG_arc_31 fg_CG_10 rfl rfl ?_
  refine xh_get e_CG_arc_34 fg_CG_65 rfl rfl ?_
  exact xx_icmp_lt e_CG_arc_37 (fun z => (ht.elim (fun u => q u) (fun u => u z)).elim) (fun _ => th_CG_arc_40 (by decide) ⟨rfl, rfl⟩)
theorem t_CG_arc_a {p t b : Int32} (hp0 : ¬ p < 0) (hp1 : p < V.1 1 2) (ht0 : ¬ t < 0) (ht1 : t < V.1 1 1) (hv : vp_in t 14) (hno : ¬ n_ha V p t.toNatClampNeg b = 0) : xX S (d + 1) 42 0 (xa_ent 4 [.ref 0, .int p, .int t, .int b]) [] V 1 6 (xqe eA (xl_H xlay V)) := by
  refine xx_iload_n e_CG_arc_0 rfl rfl ?_
  refine xx_if_lt e_CG_arc_1 (fun q => absurd q hp0) (fun _ => ?_)
  refine xx_iload_n e_CG_arc_4 rfl rfl ?_
  refine xx_aload_n e_CG_arc_5 rfl rfl ?_
  refine xh_getR e_CG_arc_6 fg_CG_10 rfl rfl ?_
  refine xh_get e_CG_arc_9 fg_CG_74 rfl rfl ?_
  refine xx_icmp_lt e_CG_arc_12 (fun _ => ?_) (fun q => absurd hp1 q)
  refine xx_iload_n e_CG_arc_25 rfl rfl ?_
  refine xx_if_lt e_CG_arc_26 (fun q => absurd q ht0) (fun _ => ?_)
  refine xx_iload_n e_CG_arc_29 rfl rfl ?_
  refine xx_aload_n e_CG_arc_30 rfl rfl ?_
  refine xh_getR e_CG_arc_31 fg_CG_10 rfl rfl ?_
  refine xh_get e_CG_arc_34 fg_CG_65 rfl rfl ?_
  refine xx_icmp_lt e_CG_arc_37 (fun _ => ?_) (fun q => absurd ht1 q)
  refine xx_aload_n e_CG_arc_50 rfl rfl ?_
  refine xh_getR e_CG_arc_51 fg_CG_10 rfl rfl ?_
  refine xx_iload_n e_CG_arc_54 rfl rfl ?_
  refine xx_iload_n e_CG_arc_55 rfl rfl ?_
  refine xx_iload_n e_CG_arc_56 rfl rfl ?_
  refine xc_V3i e_CG_arc_57 kv_CG_90 (xl_obj rfl) (t_N_hasArc hv) ?_
  exact xx_if_eq e_CG_arc_60 (fun q => absurd q hno) (fun _ => th_CG_arc_63 (by decide) ⟨rfl, rfl⟩)
theorem t_CG_append_n {x p : Int32} (h0 : ¬ x < 0) (h1 : x < V.1 1 0) (hin : ¬ n_in V x = 0) : xX S (d + 1) 84 0 (xa_ent 3 [.ref 0, .int x, .int p]) [] V 1 6 (xqe eA (xl_H xlay V)) := by
  refine xx_aload_n e_CG_append_0 rfl rfl ?_
  refine xx_iload_n e_CG_append_1 rfl rfl ?_
  refine xc_V1v e_CG_append_2 kv_CG_61 (xl_obj rfl) (t_CG_requireSignal h0 h1) ?_
  refine xx_aload_n e_CG_append_5 rfl rfl ?_
  refine xh_getR e_CG_append_6 fg_CG_10 rfl rfl ?_
  refine xx_iload_n e_CG_append_9 rfl rfl ?_
  refine xc_V1i e_CG_append_10 kv_CG_166 (xl_obj rfl) (t_N_isInput) ?_
  exact xx_if_eq e_CG_append_13 (fun q => absurd q hin) (fun _ => th_CG_append_16 (by decide) ⟨rfl, rfl⟩)
theorem t_CG_append_p {x p : Int32} {sg : Nat} (h0 : ¬ x < 0) (h1 : x < V.1 1 0) (hin : n_in V x = 0) (hsg : V.1 1 0 = nI sg) (h5 : sg ≤ 5) (hp : p < 0 ∨ ¬ p < nI (3 ^ sg)) : xX S (d + 1) 84 0 (xa_ent 3 [.ref 0, .int x, .int p]) [] V 1 6 (xqe eA (xl_H xlay V)) := by
  refine xx_aload_n e_CG_append_0 rfl rfl ?_
  refine xx_iload_n e_CG_append_1 rfl rfl ?_
  refine xc_V1v e_CG_append_2 kv_CG_61 (xl_obj rfl) (t_CG_requireSignal h0 h1) ?_
  refine xx_aload_n e_CG_append_5 rfl rfl ?_
  refine xh_getR e_CG_append_6 fg_CG_10 rfl rfl ?_
  refine xx_iload_n e_CG_append_9 rfl rfl ?_
  refine xc_V1i e_CG_append_10 kv_CG_166 (xl_obj rfl) (t_N_isInput) ?_
  refine xx_if_eq e_CG_append_13 (fun _ => ?_) (fun z => absurd hin z)
  refine xx_iload_n e_CG_append_26 rfl rfl ?_
  refine xx_if_lt e_CG_append_27 (fun _ => th_CG_append_45 (by decide) ⟨rfl, rfl⟩) (fun q => ?_)
  have hv3 := x3v (S := S) (s := sg) (by omega)
  refine xx_iload_n e_CG_append_30 rfl rfl ?_
  refine xx_gets e_CG_append_31 gs_CG_171 ?_
  refine xx_aload_n e_CG_append_34 rfl rfl ?_
  refine xh_getR e_CG_append_35 fg_CG_10 rfl rfl ?_
  refine xh_get e_CG_append_38 fg_CG_44 rfl rfl ?_
  rw [hsg]
  refine xx_tload e_CG_append_41 (by decide) hv3 ?_
  rw [x3u (by omega)]
  exact xx_icmp_lt e_CG_append_42 (fun z => (hp.elim (fun u => q u) (fun u => u z)).elim) (fun _ => th_CG_append_45 (by decide) ⟨rfl, rfl⟩)
theorem t_CG_append_f {x p : Int32} {w s sg : Nat} (hw : c_ok V w) (h0 : ¬ x < 0) (h1 : x < V.1 1 0) (hx : x = nI s) (hs : s < 5) (hin : n_in V x = 0) (hsg : V.1 1 0 = nI sg) (h5 : sg ≤ 5) (hp0 : ¬ p < 0) (hp1 : p < nI (3 ^ sg)) (hc : ¬ V.1 (ga w s) 0 < 8) : xX S (d + 1) 84 0 (xa_ent 3 [.ref 0, .int x, .int p]) [] V 1 6 (xqe eS (xl_H xlay V)) := by
  refine xx_aload_n e_CG_append_0 rfl rfl ?_
  refine xx_iload_n e_CG_append_1 rfl rfl ?_
  refine xc_V1v e_CG_append_2 kv_CG_61 (xl_obj rfl) (t_CG_requireSignal h0 h1) ?_
  refine xx_aload_n e_CG_append_5 rfl rfl ?_
  refine xh_getR e_CG_append_6 fg_CG_10 rfl rfl ?_
  refine xx_iload_n e_CG_append_9 rfl rfl ?_
  refine xc_V1i e_CG_append_10 kv_CG_166 (xl_obj rfl) (t_N_isInput) ?_
  refine xx_if_eq e_CG_append_13 (fun _ => ?_) (fun z => absurd hin z)
  refine xx_iload_n e_CG_append_26 rfl rfl ?_
  refine xx_if_lt e_CG_append_27 (fun z => absurd z hp0) (fun _ => ?_)
  have hv3 := x3v (S := S) (s := sg) (by omega)
  refine xx_iload_n e_CG_append_30 rfl rfl ?_
  refine xx_gets e_CG_append_31 gs_CG_171 ?_
  refine xx_aload_n e_CG_append_34 rfl rfl ?_
  refine xh_getR e_CG_append_35 fg_CG_10 rfl rfl ?_
  refine xh_get e_CG_append_38 fg_CG_44 rfl rfl ?_
  rw [hsg]
  refine xx_tload e_CG_append_41 (by decide) hv3 ?_
  rw [x3u (by omega)]
  refine xx_icmp_lt e_CG_append_42 (fun _ => ?_) (fun z => absurd hp1 z)
  subst hx
  refine xx_aload_n e_CG_append_55 rfl rfl ?_
  refine xh_getR e_CG_append_56 fg_CG_26 rfl rfl ?_
  refine xh_getR e_CG_append_59 fg_CG_158 rfl rfl ?_
  refine xx_iload_n e_CG_append_62 rfl rfl ?_
  refine xh_aalN e_CG_append_63 rfl hs (hw.2 s hs).1 ?_
  refine xh_get e_CG_append_64 fg_CG_152 (ga_o hs hw.1) rfl ?_
  refine xx_bipush (v := 8) e_CG_append_67 (by decide) ?_
  exact xx_icmp_lt e_CG_append_69 (fun z => absurd z hc) (fun _ => th_CG_append_72 (by decide) ⟨rfl, rfl⟩)
end XCg4
