/-! The law's helpers (printed by wip/whole/gen_help.py). -/
section XHelp
/-- an end at a heap of the fixed shape -/
def xpo (D : xa_O → xl_V → Prop) : xa_Q := fun o h' => ∃ V1, h' = xl_H xlay V1 ∧ D o V1
/-- what a helper leaves: 0 and the answer in the law's array, or the number of what was thrown -/
def xwk (cs : List (String × Nat)) (D : xa_O → xl_V → Prop) (o : xa_O) (V1 : xl_V) : Prop := (o = .inl (some (.int 0)) ∧ ∃ r V0, V1 = xl_o V0 (vp_updL V0.2.2.2 0 r.toInt64) ∧ D (.inl (some (.int r))) V0) ∨ (∃ E c, (E, c) ∈ cs ∧ o = .inl (some (.int (nI c))) ∧ D (.inr E) V1)
def xwv (cs : List (String × Nat)) (D : xa_O → xl_V → Prop) (o : xa_O) (V1 : xl_V) : Prop := (o = .inl (some (.int 0)) ∧ D (.inl none) V1) ∨ (∃ E c, (E, c) ∈ cs ∧ o = .inl (some (.int (nI c))) ∧ D (.inr E) V1)
def xis2 : xl_S → Bool
  | .inr (2, _) => true
  | _ => false
theorem xlay_o : ∀ b m, xlay[b]? = some (.inr (2, m)) → b = 68 := by
  have h : ∀ b, b < 69 → (xlay[b]?).any xis2 = true → b = 68 := by decide
  intro b m hb
  have hl : b < 69 := (List.getElem?_eq_some_iff.mp hb).1
  exact h b hl (by rw [hb]; rfl)
variable {S : Nat × (Nat → Int32)} {V : xl_V} {d : Nat} {D : xa_O → xl_V → Prop}
set_option maxRecDepth 100000 in
theorem t_W_signal {v1 v2 : Int32} (hI : ∀ o V1, D (.inl o) V1 → ∃ r, o = some (.int r)) (hE : ∀ E V1, D (.inr E) V1 → E = eS) (k1 : xX S d 32 0 (xa_ent 3 [.ref 0, .int v1, .int v2]) [] V 1 6 (xpo D)) : xX S (d + 1) 31 0 (xa_ent 5 [.ref 0, .int v1, .int v2, .ref 68]) [] V 1 6 (xpo (xwk [(eS, 1)] D)) := by
  refine xx_aload_n e_W_signal_0 rfl rfl ?_
  refine xx_iconst (v := 0) e_W_signal_1 (by decide) ?_
  refine xx_aload_n e_W_signal_2 rfl rfl ?_
  refine xx_iload_n e_W_signal_3 rfl rfl ?_
  refine xx_iload_n e_W_signal_4 rfl rfl ?_
  refine xx_callVc (As := [.int v1, .int v2]) (mc := 0) (ms := 0) (mc' := 1) (ms' := 6) (P := xpo D) (rs := [(eS, 13)]) (kf := fun _ => 4) (n2 := (fun E => 15)) e_W_signal_5 kv_W_7 (xl_obj rfl) (by intro v hv; simp only [List.mem_cons, List.not_mem_nil, or_false] at hv; rcases hv with rfl | rfl <;> rfl) (by exact Nat.le_of_ble_eq_true rfl) ⟨by decide, by decide, rfl, by decide, xw_t (i := 334) rfl (by decide +kernel), by decide, trivial⟩ (fun E h' q => ?_) k1 (fun v h' q => ?_) (fun E h' q => ?_)
  · obtain ⟨V1, -, hd⟩ := q
    have hE := hE _ _ hd
    subst hE
    exact ⟨by decide, 13, _, by decide, Or.inr ⟨e_W_signal_13.1, rfl⟩, rfl⟩
  · obtain ⟨V1, rfl, hd⟩ := q
    obtain ⟨r, rfl⟩ := hI _ _ hd
    refine xx_i2l e_W_signal_8 ?_
    refine xh_last xlay_o e_W_signal_9 rfl (show vp_in (nI 0) 1 from vp_in_nI (by decide) (by decide)) ?_
    refine xx_goto e_W_signal_10 ?_
    refine xx_iconst (v := 0) e_W_signal_17 (by decide) ?_
    refine xx_iret e_W_signal_18 rfl rfl ?_
    exact ⟨_, rfl, Or.inl ⟨rfl, r, V1, rfl, hd⟩⟩
  · obtain ⟨V1, rfl, hd⟩ := q
    have hE := hE _ _ hd
    subst hE
    show xa_X xP (xtx S) (d + 1) 31 15 _ [] _ 0 0 _
    refine xx_iconst (v := 1) e_W_signal_15 (by decide) ?_
    refine xx_iret e_W_signal_16 rfl rfl ?_
    exact ⟨_, rfl, Or.inr ⟨_, 1, by simp, rfl, hd⟩⟩
set_option maxRecDepth 100000 in
theorem t_W_edge {v1 v2 : Int32} (hI : ∀ o V1, D (.inl o) V1 → ∃ r, o = some (.int r)) (hE : ∀ E V1, D (.inr E) V1 → E = eI ∨ E = eS) (k1 : xX S d 35 0 (xa_ent 3 [.ref 0, .int v1, .int v2]) [] V 1 6 (xpo D)) : xX S (d + 1) 34 0 (xa_ent 5 [.ref 0, .int v1, .int v2, .ref 68]) [] V 1 6 (xpo (xwk [(eI, 1), (eS, 2)] D)) := by
  refine xx_aload_n e_W_edge_0 rfl rfl ?_
  refine xx_iconst (v := 0) e_W_edge_1 (by decide) ?_
  refine xx_aload_n e_W_edge_2 rfl rfl ?_
  refine xx_iload_n e_W_edge_3 rfl rfl ?_
  refine xx_iload_n e_W_edge_4 rfl rfl ?_
  refine xx_callVc (As := [.int v1, .int v2]) (mc := 0) (ms := 0) (mc' := 1) (ms' := 6) (P := xpo D) (rs := [(eI, 13), (eS, 17)]) (kf := fun _ => 4) (n2 := (fun E => if E = eI then 15 else 19)) e_W_edge_5 kv_W_15 (xl_obj rfl) (by intro v hv; simp only [List.mem_cons, List.not_mem_nil, or_false] at hv; rcases hv with rfl | rfl <;> rfl) (by exact Nat.le_of_ble_eq_true rfl) ⟨by decide, by decide, rfl, by decide, xw_t (i := 415) rfl (by decide +kernel), by decide, by decide, by decide, rfl, by decide, xw_t (i := 334) rfl (by decide +kernel), by decide, trivial⟩ (fun E h' q => ?_) k1 (fun v h' q => ?_) (fun E h' q => ?_)
  · obtain ⟨V1, -, hd⟩ := q
    rcases hE _ _ hd with rfl | rfl
    · exact ⟨by decide, 13, _, by decide, Or.inr ⟨e_W_edge_13.1, rfl⟩, rfl⟩
    · exact ⟨by decide, 17, _, by decide, Or.inr ⟨e_W_edge_17.1, rfl⟩, rfl⟩
  · obtain ⟨V1, rfl, hd⟩ := q
    obtain ⟨r, rfl⟩ := hI _ _ hd
    refine xx_i2l e_W_edge_8 ?_
    refine xh_last xlay_o e_W_edge_9 rfl (show vp_in (nI 0) 1 from vp_in_nI (by decide) (by decide)) ?_
    refine xx_goto e_W_edge_10 ?_
    refine xx_iconst (v := 0) e_W_edge_21 (by decide) ?_
    refine xx_iret e_W_edge_22 rfl rfl ?_
    exact ⟨_, rfl, Or.inl ⟨rfl, r, V1, rfl, hd⟩⟩
  · obtain ⟨V1, rfl, hd⟩ := q
    rcases hE _ _ hd with rfl | rfl
    · show xa_X xP (xtx S) (d + 1) 34 15 _ [] _ 0 0 _
      refine xx_iconst (v := 1) e_W_edge_15 (by decide) ?_
      refine xx_iret e_W_edge_16 rfl rfl ?_
      exact ⟨_, rfl, Or.inr ⟨_, 1, by simp, rfl, hd⟩⟩
    · show xa_X xP (xtx S) (d + 1) 34 19 _ [] _ 0 0 _
      refine xx_iconst (v := 2) e_W_edge_19 (by decide) ?_
      refine xx_iret e_W_edge_20 rfl rfl ?_
      exact ⟨_, rfl, Or.inr ⟨_, 2, by simp, rfl, hd⟩⟩
set_option maxRecDepth 100000 in
theorem t_W_place {v1 : Int32} (hI : ∀ o V1, D (.inl o) V1 → ∃ r, o = some (.int r)) (hE : ∀ E V1, D (.inr E) V1 → E = eS) (k1 : xX S d 39 0 (xa_ent 2 [.ref 0, .int v1]) [] V 1 6 (xpo D)) : xX S (d + 1) 38 0 (xa_ent 4 [.ref 0, .int v1, .ref 68]) [] V 1 6 (xpo (xwk [(eS, 1)] D)) := by
  refine xx_aload_n e_W_place_0 rfl rfl ?_
  refine xx_iconst (v := 0) e_W_place_1 (by decide) ?_
  refine xx_aload_n e_W_place_2 rfl rfl ?_
  refine xx_iload_n e_W_place_3 rfl rfl ?_
  refine xx_callVc (As := [.int v1]) (mc := 0) (ms := 0) (mc' := 1) (ms' := 6) (P := xpo D) (rs := [(eS, 12)]) (kf := fun _ => 3) (n2 := (fun E => 13)) e_W_place_4 kv_W_21 (xl_obj rfl) (by intro v hv; rw [List.mem_singleton.mp hv]; rfl) (by exact Nat.le_of_ble_eq_true rfl) ⟨by decide, by decide, rfl, by decide, xw_t (i := 334) rfl (by decide +kernel), by decide, trivial⟩ (fun E h' q => ?_) k1 (fun v h' q => ?_) (fun E h' q => ?_)
  · obtain ⟨V1, -, hd⟩ := q
    have hE := hE _ _ hd
    subst hE
    exact ⟨by decide, 12, _, by decide, Or.inl ⟨3, e_W_place_12.1, rfl, rfl⟩, rfl⟩
  · obtain ⟨V1, rfl, hd⟩ := q
    obtain ⟨r, rfl⟩ := hI _ _ hd
    refine xx_i2l e_W_place_7 ?_
    refine xh_last xlay_o e_W_place_8 rfl (show vp_in (nI 0) 1 from vp_in_nI (by decide) (by decide)) ?_
    refine xx_goto e_W_place_9 ?_
    refine xx_iconst (v := 0) e_W_place_15 (by decide) ?_
    refine xx_iret e_W_place_16 rfl rfl ?_
    exact ⟨_, rfl, Or.inl ⟨rfl, r, V1, rfl, hd⟩⟩
  · obtain ⟨V1, rfl, hd⟩ := q
    have hE := hE _ _ hd
    subst hE
    show xa_X xP (xtx S) (d + 1) 38 13 _ [] _ 0 0 _
    refine xx_iconst (v := 1) e_W_place_13 (by decide) ?_
    refine xx_iret e_W_place_14 rfl rfl ?_
    exact ⟨_, rfl, Or.inr ⟨_, 1, by simp, rfl, hd⟩⟩
set_option maxRecDepth 100000 in
theorem t_W_arc {v1 v2 v3 : Int32} (hI : ∀ o V1, D (.inl o) V1 → o = none) (hE : ∀ E V1, D (.inr E) V1 → E = eI ∨ E = eA) (k1 : xX S d 42 0 (xa_ent 4 [.ref 0, .int v1, .int v2, .int v3]) [] V 1 6 (xpo D)) : xX S (d + 1) 41 0 (xa_ent 5 [.ref 0, .int v1, .int v2, .int v3]) [] V 1 6 (xpo (xwv [(eI, 1), (eA, 2)] D)) := by
  refine xx_aload_n e_W_arc_0 rfl rfl ?_
  refine xx_iload_n e_W_arc_1 rfl rfl ?_
  refine xx_iload_n e_W_arc_2 rfl rfl ?_
  refine xx_iload_n e_W_arc_3 rfl rfl ?_
  refine xx_callVc (As := [.int v1, .int v2, .int v3]) (mc := 0) (ms := 0) (mc' := 1) (ms' := 6) (P := xpo D) (rs := [(eI, 10), (eA, 14)]) (kf := fun _ => 4) (n2 := (fun E => if E = eI then 12 else 16)) e_W_arc_4 kv_W_25 (xl_obj rfl) (by intro v hv; simp only [List.mem_cons, List.not_mem_nil, or_false] at hv; rcases hv with rfl | rfl | rfl <;> rfl) (by exact Nat.le_of_ble_eq_true rfl) ⟨by decide, by decide, rfl, by decide, xw_t (i := 415) rfl (by decide +kernel), by decide, by decide, by decide, rfl, by decide, xw_t (i := 460) rfl (by decide +kernel), by decide, trivial⟩ (fun E h' q => ?_) k1 (fun v h' q => ?_) (fun E h' q => ?_)
  · obtain ⟨V1, -, hd⟩ := q
    rcases hE _ _ hd with rfl | rfl
    · exact ⟨by decide, 10, _, by decide, Or.inr ⟨e_W_arc_10.1, rfl⟩, rfl⟩
    · exact ⟨by decide, 14, _, by decide, Or.inr ⟨e_W_arc_14.1, rfl⟩, rfl⟩
  · obtain ⟨V1, rfl, hd⟩ := q
    have hI := hI _ _ hd
    subst hI
    refine xx_goto e_W_arc_7 ?_
    refine xx_iconst (v := 0) e_W_arc_18 (by decide) ?_
    refine xx_iret e_W_arc_19 rfl rfl ?_
    exact ⟨_, rfl, Or.inl ⟨rfl, hd⟩⟩
  · obtain ⟨V1, rfl, hd⟩ := q
    rcases hE _ _ hd with rfl | rfl
    · show xa_X xP (xtx S) (d + 1) 41 12 _ [] _ 0 0 _
      refine xx_iconst (v := 1) e_W_arc_12 (by decide) ?_
      refine xx_iret e_W_arc_13 rfl rfl ?_
      exact ⟨_, rfl, Or.inr ⟨_, 1, by simp, rfl, hd⟩⟩
    · show xa_X xP (xtx S) (d + 1) 41 16 _ [] _ 0 0 _
      refine xx_iconst (v := 2) e_W_arc_16 (by decide) ?_
      refine xx_iret e_W_arc_17 rfl rfl ?_
      exact ⟨_, rfl, Or.inr ⟨_, 2, by simp, rfl, hd⟩⟩
set_option maxRecDepth 100000 in
theorem t_W_states (hI : ∀ o V1, D (.inl o) V1 → ∃ r, o = some (.int r)) (hE : ∀ E V1, D (.inr E) V1 → E = eS) (k1 : xX S d 46 0 (xa_ent 1 [.ref 0]) [] V 1 6 (xpo D)) : xX S (d + 1) 45 0 (xa_ent 3 [.ref 0, .ref 68]) [] V 1 6 (xpo (xwk [(eS, 1)] D)) := by
  refine xx_aload_n e_W_states_0 rfl rfl ?_
  refine xx_iconst (v := 0) e_W_states_1 (by decide) ?_
  refine xx_aload_n e_W_states_2 rfl rfl ?_
  refine xx_callVc (As := []) (mc := 0) (ms := 0) (mc' := 1) (ms' := 6) (P := xpo D) (rs := [(eS, 11)]) (kf := fun _ => 2) (n2 := (fun E => 12)) e_W_states_3 kv_W_31 (xl_obj rfl) (by intro v hv; cases hv) (by exact Nat.le_of_ble_eq_true rfl) ⟨by decide, by decide, rfl, by decide, xw_t (i := 334) rfl (by decide +kernel), by decide, trivial⟩ (fun E h' q => ?_) k1 (fun v h' q => ?_) (fun E h' q => ?_)
  · obtain ⟨V1, -, hd⟩ := q
    have hE := hE _ _ hd
    subst hE
    exact ⟨by decide, 11, _, by decide, Or.inl ⟨2, e_W_states_11.1, rfl, rfl⟩, rfl⟩
  · obtain ⟨V1, rfl, hd⟩ := q
    obtain ⟨r, rfl⟩ := hI _ _ hd
    refine xx_i2l e_W_states_6 ?_
    refine xh_last xlay_o e_W_states_7 rfl (show vp_in (nI 0) 1 from vp_in_nI (by decide) (by decide)) ?_
    refine xx_goto e_W_states_8 ?_
    refine xx_iconst (v := 0) e_W_states_14 (by decide) ?_
    refine xx_iret e_W_states_15 rfl rfl ?_
    exact ⟨_, rfl, Or.inl ⟨rfl, r, V1, rfl, hd⟩⟩
  · obtain ⟨V1, rfl, hd⟩ := q
    have hE := hE _ _ hd
    subst hE
    show xa_X xP (xtx S) (d + 1) 45 12 _ [] _ 0 0 _
    refine xx_iconst (v := 1) e_W_states_12 (by decide) ?_
    refine xx_iret e_W_states_13 rfl rfl ?_
    exact ⟨_, rfl, Or.inr ⟨_, 1, by simp, rfl, hd⟩⟩
set_option maxRecDepth 100000 in
theorem t_W_code {v1 : Int32} (hI : ∀ o V1, D (.inl o) V1 → ∃ r, o = some (.int r)) (hE : ∀ E V1, D (.inr E) V1 → E = eS ∨ E = eI) (k1 : xX S d 49 0 (xa_ent 2 [.ref 0, .int v1]) [] V 1 6 (xpo D)) : xX S (d + 1) 48 0 (xa_ent 4 [.ref 0, .int v1, .ref 68]) [] V 1 6 (xpo (xwk [(eS, 1), (eI, 2)] D)) := by
  refine xx_aload_n e_W_code_0 rfl rfl ?_
  refine xx_iconst (v := 0) e_W_code_1 (by decide) ?_
  refine xx_aload_n e_W_code_2 rfl rfl ?_
  refine xx_iload_n e_W_code_3 rfl rfl ?_
  refine xx_callVc (As := [.int v1]) (mc := 0) (ms := 0) (mc' := 1) (ms' := 6) (P := xpo D) (rs := [(eS, 12), (eI, 15)]) (kf := fun _ => 3) (n2 := (fun E => if E = eS then 13 else 16)) e_W_code_4 kv_W_35 (xl_obj rfl) (by intro v hv; rw [List.mem_singleton.mp hv]; rfl) (by exact Nat.le_of_ble_eq_true rfl) ⟨by decide, by decide, rfl, by decide, xw_t (i := 334) rfl (by decide +kernel), by decide, by decide, by decide, rfl, by decide, xw_t (i := 415) rfl (by decide +kernel), by decide, trivial⟩ (fun E h' q => ?_) k1 (fun v h' q => ?_) (fun E h' q => ?_)
  · obtain ⟨V1, -, hd⟩ := q
    rcases hE _ _ hd with rfl | rfl
    · exact ⟨by decide, 12, _, by decide, Or.inl ⟨3, e_W_code_12.1, rfl, rfl⟩, rfl⟩
    · exact ⟨by decide, 15, _, by decide, Or.inl ⟨3, e_W_code_15.1, rfl, rfl⟩, rfl⟩
  · obtain ⟨V1, rfl, hd⟩ := q
    obtain ⟨r, rfl⟩ := hI _ _ hd
    refine xx_i2l e_W_code_7 ?_
    refine xh_last xlay_o e_W_code_8 rfl (show vp_in (nI 0) 1 from vp_in_nI (by decide) (by decide)) ?_
    refine xx_goto e_W_code_9 ?_
    refine xx_iconst (v := 0) e_W_code_18 (by decide) ?_
    refine xx_iret e_W_code_19 rfl rfl ?_
    exact ⟨_, rfl, Or.inl ⟨rfl, r, V1, rfl, hd⟩⟩
  · obtain ⟨V1, rfl, hd⟩ := q
    rcases hE _ _ hd with rfl | rfl
    · show xa_X xP (xtx S) (d + 1) 48 13 _ [] _ 0 0 _
      refine xx_iconst (v := 1) e_W_code_13 (by decide) ?_
      refine xx_iret e_W_code_14 rfl rfl ?_
      exact ⟨_, rfl, Or.inr ⟨_, 1, by simp, rfl, hd⟩⟩
    · show xa_X xP (xtx S) (d + 1) 48 16 _ [] _ 0 0 _
      refine xx_iconst (v := 2) e_W_code_16 (by decide) ?_
      refine xx_iret e_W_code_17 rfl rfl ?_
      exact ⟨_, rfl, Or.inr ⟨_, 2, by simp, rfl, hd⟩⟩
set_option maxRecDepth 100000 in
theorem t_W_marking {v1 : Int32} (hI : ∀ o V1, D (.inl o) V1 → ∃ r, o = some (.int r)) (hE : ∀ E V1, D (.inr E) V1 → E = eS ∨ E = eI) (k1 : xX S d 52 0 (xa_ent 2 [.ref 0, .int v1]) [] V 1 6 (xpo D)) : xX S (d + 1) 51 0 (xa_ent 4 [.ref 0, .int v1, .ref 68]) [] V 1 6 (xpo (xwk [(eS, 1), (eI, 2)] D)) := by
  refine xx_aload_n e_W_marking_0 rfl rfl ?_
  refine xx_iconst (v := 0) e_W_marking_1 (by decide) ?_
  refine xx_aload_n e_W_marking_2 rfl rfl ?_
  refine xx_iload_n e_W_marking_3 rfl rfl ?_
  refine xx_callVc (As := [.int v1]) (mc := 0) (ms := 0) (mc' := 1) (ms' := 6) (P := xpo D) (rs := [(eS, 12), (eI, 15)]) (kf := fun _ => 3) (n2 := (fun E => if E = eS then 13 else 16)) e_W_marking_4 kv_W_39 (xl_obj rfl) (by intro v hv; rw [List.mem_singleton.mp hv]; rfl) (by exact Nat.le_of_ble_eq_true rfl) ⟨by decide, by decide, rfl, by decide, xw_t (i := 334) rfl (by decide +kernel), by decide, by decide, by decide, rfl, by decide, xw_t (i := 415) rfl (by decide +kernel), by decide, trivial⟩ (fun E h' q => ?_) k1 (fun v h' q => ?_) (fun E h' q => ?_)
  · obtain ⟨V1, -, hd⟩ := q
    rcases hE _ _ hd with rfl | rfl
    · exact ⟨by decide, 12, _, by decide, Or.inl ⟨3, e_W_marking_12.1, rfl, rfl⟩, rfl⟩
    · exact ⟨by decide, 15, _, by decide, Or.inl ⟨3, e_W_marking_15.1, rfl, rfl⟩, rfl⟩
  · obtain ⟨V1, rfl, hd⟩ := q
    obtain ⟨r, rfl⟩ := hI _ _ hd
    refine xx_i2l e_W_marking_7 ?_
    refine xh_last xlay_o e_W_marking_8 rfl (show vp_in (nI 0) 1 from vp_in_nI (by decide) (by decide)) ?_
    refine xx_goto e_W_marking_9 ?_
    refine xx_iconst (v := 0) e_W_marking_18 (by decide) ?_
    refine xx_iret e_W_marking_19 rfl rfl ?_
    exact ⟨_, rfl, Or.inl ⟨rfl, r, V1, rfl, hd⟩⟩
  · obtain ⟨V1, rfl, hd⟩ := q
    rcases hE _ _ hd with rfl | rfl
    · show xa_X xP (xtx S) (d + 1) 51 13 _ [] _ 0 0 _
      refine xx_iconst (v := 1) e_W_marking_13 (by decide) ?_
      refine xx_iret e_W_marking_14 rfl rfl ?_
      exact ⟨_, rfl, Or.inr ⟨_, 1, by simp, rfl, hd⟩⟩
    · show xa_X xP (xtx S) (d + 1) 51 16 _ [] _ 0 0 _
      refine xx_iconst (v := 2) e_W_marking_16 (by decide) ?_
      refine xx_iret e_W_marking_17 rfl rfl ?_
      exact ⟨_, rfl, Or.inr ⟨_, 2, by simp, rfl, hd⟩⟩
set_option maxRecDepth 100000 in
theorem t_W_found {v1 : Int32} (hI : ∀ o V1, D (.inl o) V1 → ∃ r, o = some (.int r)) (hE : ∀ E V1, D (.inr E) V1 → E = eS ∨ E = eI) (k1 : xX S d 54 0 (xa_ent 2 [.ref 0, .int v1]) [] V 1 6 (xpo D)) : xX S (d + 1) 53 0 (xa_ent 4 [.ref 0, .int v1, .ref 68]) [] V 1 6 (xpo (xwk [(eS, 1), (eI, 2)] D)) := by
  refine xx_aload_n e_W_found_0 rfl rfl ?_
  refine xx_iconst (v := 0) e_W_found_1 (by decide) ?_
  refine xx_aload_n e_W_found_2 rfl rfl ?_
  refine xx_iload_n e_W_found_3 rfl rfl ?_
  refine xx_callVc (As := [.int v1]) (mc := 0) (ms := 0) (mc' := 1) (ms' := 6) (P := xpo D) (rs := [(eS, 12), (eI, 15)]) (kf := fun _ => 3) (n2 := (fun E => if E = eS then 13 else 16)) e_W_found_4 kv_W_42 (xl_obj rfl) (by intro v hv; rw [List.mem_singleton.mp hv]; rfl) (by exact Nat.le_of_ble_eq_true rfl) ⟨by decide, by decide, rfl, by decide, xw_t (i := 334) rfl (by decide +kernel), by decide, by decide, by decide, rfl, by decide, xw_t (i := 415) rfl (by decide +kernel), by decide, trivial⟩ (fun E h' q => ?_) k1 (fun v h' q => ?_) (fun E h' q => ?_)
  · obtain ⟨V1, -, hd⟩ := q
    rcases hE _ _ hd with rfl | rfl
    · exact ⟨by decide, 12, _, by decide, Or.inl ⟨3, e_W_found_12.1, rfl, rfl⟩, rfl⟩
    · exact ⟨by decide, 15, _, by decide, Or.inl ⟨3, e_W_found_15.1, rfl, rfl⟩, rfl⟩
  · obtain ⟨V1, rfl, hd⟩ := q
    obtain ⟨r, rfl⟩ := hI _ _ hd
    refine xx_i2l e_W_found_7 ?_
    refine xh_last xlay_o e_W_found_8 rfl (show vp_in (nI 0) 1 from vp_in_nI (by decide) (by decide)) ?_
    refine xx_goto e_W_found_9 ?_
    refine xx_iconst (v := 0) e_W_found_18 (by decide) ?_
    refine xx_iret e_W_found_19 rfl rfl ?_
    exact ⟨_, rfl, Or.inl ⟨rfl, r, V1, rfl, hd⟩⟩
  · obtain ⟨V1, rfl, hd⟩ := q
    rcases hE _ _ hd with rfl | rfl
    · show xa_X xP (xtx S) (d + 1) 53 13 _ [] _ 0 0 _
      refine xx_iconst (v := 1) e_W_found_13 (by decide) ?_
      refine xx_iret e_W_found_14 rfl rfl ?_
      exact ⟨_, rfl, Or.inr ⟨_, 1, by simp, rfl, hd⟩⟩
    · show xa_X xP (xtx S) (d + 1) 53 16 _ [] _ 0 0 _
      refine xx_iconst (v := 2) e_W_found_16 (by decide) ?_
      refine xx_iret e_W_found_17 rfl rfl ?_
      exact ⟨_, rfl, Or.inr ⟨_, 2, by simp, rfl, hd⟩⟩
set_option maxRecDepth 100000 in
theorem t_W_excited {v1 : Int32} (hI : ∀ o V1, D (.inl o) V1 → ∃ r, o = some (.int r)) (hE : ∀ E V1, D (.inr E) V1 → E = eS ∨ E = eI) (k1 : xX S d 56 0 (xa_ent 2 [.ref 0, .int v1]) [] V 1 6 (xpo D)) : xX S (d + 1) 55 0 (xa_ent 4 [.ref 0, .int v1, .ref 68]) [] V 1 6 (xpo (xwk [(eS, 1), (eI, 2)] D)) := by
  refine xx_aload_n e_W_excited_0 rfl rfl ?_
  refine xx_iconst (v := 0) e_W_excited_1 (by decide) ?_
  refine xx_aload_n e_W_excited_2 rfl rfl ?_
  refine xx_iload_n e_W_excited_3 rfl rfl ?_
  refine xx_callVc (As := [.int v1]) (mc := 0) (ms := 0) (mc' := 1) (ms' := 6) (P := xpo D) (rs := [(eS, 12), (eI, 15)]) (kf := fun _ => 3) (n2 := (fun E => if E = eS then 13 else 16)) e_W_excited_4 kv_W_45 (xl_obj rfl) (by intro v hv; rw [List.mem_singleton.mp hv]; rfl) (by exact Nat.le_of_ble_eq_true rfl) ⟨by decide, by decide, rfl, by decide, xw_t (i := 334) rfl (by decide +kernel), by decide, by decide, by decide, rfl, by decide, xw_t (i := 415) rfl (by decide +kernel), by decide, trivial⟩ (fun E h' q => ?_) k1 (fun v h' q => ?_) (fun E h' q => ?_)
  · obtain ⟨V1, -, hd⟩ := q
    rcases hE _ _ hd with rfl | rfl
    · exact ⟨by decide, 12, _, by decide, Or.inl ⟨3, e_W_excited_12.1, rfl, rfl⟩, rfl⟩
    · exact ⟨by decide, 15, _, by decide, Or.inl ⟨3, e_W_excited_15.1, rfl, rfl⟩, rfl⟩
  · obtain ⟨V1, rfl, hd⟩ := q
    obtain ⟨r, rfl⟩ := hI _ _ hd
    refine xx_i2l e_W_excited_7 ?_
    refine xh_last xlay_o e_W_excited_8 rfl (show vp_in (nI 0) 1 from vp_in_nI (by decide) (by decide)) ?_
    refine xx_goto e_W_excited_9 ?_
    refine xx_iconst (v := 0) e_W_excited_18 (by decide) ?_
    refine xx_iret e_W_excited_19 rfl rfl ?_
    exact ⟨_, rfl, Or.inl ⟨rfl, r, V1, rfl, hd⟩⟩
  · obtain ⟨V1, rfl, hd⟩ := q
    rcases hE _ _ hd with rfl | rfl
    · show xa_X xP (xtx S) (d + 1) 55 13 _ [] _ 0 0 _
      refine xx_iconst (v := 1) e_W_excited_13 (by decide) ?_
      refine xx_iret e_W_excited_14 rfl rfl ?_
      exact ⟨_, rfl, Or.inr ⟨_, 1, by simp, rfl, hd⟩⟩
    · show xa_X xP (xtx S) (d + 1) 55 16 _ [] _ 0 0 _
      refine xx_iconst (v := 2) e_W_excited_16 (by decide) ?_
      refine xx_iret e_W_excited_17 rfl rfl ?_
      exact ⟨_, rfl, Or.inr ⟨_, 2, by simp, rfl, hd⟩⟩
set_option maxRecDepth 100000 in
theorem t_W_synthesise (hI : ∀ o V1, D (.inl o) V1 → ∃ r, o = some (.int r)) (hE : ∀ E V1, D (.inr E) V1 → E = eS ∨ E = eU) (k1 : xX S d 58 0 (xa_ent 3 [.ref 0]) [] V 1 6 (xpo D)) : xX S (d + 1) 57 0 (xa_ent 3 [.ref 0, .ref 68]) [] V 1 6 (xpo (xwk [(eS, 1), (eU, 2)] D)) := by
  refine xx_aload_n e_W_synthesise_0 rfl rfl ?_
  refine xx_iconst (v := 0) e_W_synthesise_1 (by decide) ?_
  refine xx_aload_n e_W_synthesise_2 rfl rfl ?_
  refine xx_callVc (As := []) (mc := 0) (ms := 0) (mc' := 1) (ms' := 6) (P := xpo D) (rs := [(eS, 11), (eU, 14)]) (kf := fun _ => 2) (n2 := (fun E => if E = eS then 12 else 15)) e_W_synthesise_3 kv_W_48 (xl_obj rfl) (by intro v hv; cases hv) (by exact Nat.le_of_ble_eq_true rfl) ⟨by decide, by decide, rfl, by decide, xw_t (i := 334) rfl (by decide +kernel), by decide, by decide, by decide, rfl, by decide, xw_t (i := 539) rfl (by decide +kernel), by decide, trivial⟩ (fun E h' q => ?_) k1 (fun v h' q => ?_) (fun E h' q => ?_)
  · obtain ⟨V1, -, hd⟩ := q
    rcases hE _ _ hd with rfl | rfl
    · exact ⟨by decide, 11, _, by decide, Or.inl ⟨2, e_W_synthesise_11.1, rfl, rfl⟩, rfl⟩
    · exact ⟨by decide, 14, _, by decide, Or.inl ⟨2, e_W_synthesise_14.1, rfl, rfl⟩, rfl⟩
  · obtain ⟨V1, rfl, hd⟩ := q
    obtain ⟨r, rfl⟩ := hI _ _ hd
    refine xx_i2l e_W_synthesise_6 ?_
    refine xh_last xlay_o e_W_synthesise_7 rfl (show vp_in (nI 0) 1 from vp_in_nI (by decide) (by decide)) ?_
    refine xx_goto e_W_synthesise_8 ?_
    refine xx_iconst (v := 0) e_W_synthesise_17 (by decide) ?_
    refine xx_iret e_W_synthesise_18 rfl rfl ?_
    exact ⟨_, rfl, Or.inl ⟨rfl, r, V1, rfl, hd⟩⟩
  · obtain ⟨V1, rfl, hd⟩ := q
    rcases hE _ _ hd with rfl | rfl
    · show xa_X xP (xtx S) (d + 1) 57 12 _ [] _ 0 0 _
      refine xx_iconst (v := 1) e_W_synthesise_12 (by decide) ?_
      refine xx_iret e_W_synthesise_13 rfl rfl ?_
      exact ⟨_, rfl, Or.inr ⟨_, 1, by simp, rfl, hd⟩⟩
    · show xa_X xP (xtx S) (d + 1) 57 15 _ [] _ 0 0 _
      refine xx_iconst (v := 2) e_W_synthesise_15 (by decide) ?_
      refine xx_iret e_W_synthesise_16 rfl rfl ?_
      exact ⟨_, rfl, Or.inr ⟨_, 2, by simp, rfl, hd⟩⟩
set_option maxRecDepth 100000 in
theorem t_W_products {v1 : Int32} (hI : ∀ o V1, D (.inl o) V1 → ∃ r, o = some (.int r)) (hE : ∀ E V1, D (.inr E) V1 → E = eI) (k1 : xX S d 80 0 (xa_ent 2 [.ref 0, .int v1]) [] V 1 6 (xpo D)) : xX S (d + 1) 79 0 (xa_ent 4 [.ref 0, .int v1, .ref 68]) [] V 1 6 (xpo (xwk [(eI, 1)] D)) := by
  refine xx_aload_n e_W_products_0 rfl rfl ?_
  refine xx_iconst (v := 0) e_W_products_1 (by decide) ?_
  refine xx_aload_n e_W_products_2 rfl rfl ?_
  refine xx_iload_n e_W_products_3 rfl rfl ?_
  refine xx_callVc (As := [.int v1]) (mc := 0) (ms := 0) (mc' := 1) (ms' := 6) (P := xpo D) (rs := [(eI, 12)]) (kf := fun _ => 3) (n2 := (fun E => 13)) e_W_products_4 kv_W_53 (xl_obj rfl) (by intro v hv; rw [List.mem_singleton.mp hv]; rfl) (by exact Nat.le_of_ble_eq_true rfl) ⟨by decide, by decide, rfl, by decide, xw_t (i := 415) rfl (by decide +kernel), by decide, trivial⟩ (fun E h' q => ?_) k1 (fun v h' q => ?_) (fun E h' q => ?_)
  · obtain ⟨V1, -, hd⟩ := q
    have hE := hE _ _ hd
    subst hE
    exact ⟨by decide, 12, _, by decide, Or.inl ⟨3, e_W_products_12.1, rfl, rfl⟩, rfl⟩
  · obtain ⟨V1, rfl, hd⟩ := q
    obtain ⟨r, rfl⟩ := hI _ _ hd
    refine xx_i2l e_W_products_7 ?_
    refine xh_last xlay_o e_W_products_8 rfl (show vp_in (nI 0) 1 from vp_in_nI (by decide) (by decide)) ?_
    refine xx_goto e_W_products_9 ?_
    refine xx_iconst (v := 0) e_W_products_15 (by decide) ?_
    refine xx_iret e_W_products_16 rfl rfl ?_
    exact ⟨_, rfl, Or.inl ⟨rfl, r, V1, rfl, hd⟩⟩
  · obtain ⟨V1, rfl, hd⟩ := q
    have hE := hE _ _ hd
    subst hE
    show xa_X xP (xtx S) (d + 1) 79 13 _ [] _ 0 0 _
    refine xx_iconst (v := 1) e_W_products_13 (by decide) ?_
    refine xx_iret e_W_products_14 rfl rfl ?_
    exact ⟨_, rfl, Or.inr ⟨_, 1, by simp, rfl, hd⟩⟩
set_option maxRecDepth 100000 in
theorem t_W_product {v1 v2 : Int32} (hI : ∀ o V1, D (.inl o) V1 → ∃ r, o = some (.int r)) (hE : ∀ E V1, D (.inr E) V1 → E = eI) (k1 : xX S d 82 0 (xa_ent 3 [.ref 0, .int v1, .int v2]) [] V 1 6 (xpo D)) : xX S (d + 1) 81 0 (xa_ent 5 [.ref 0, .int v1, .int v2, .ref 68]) [] V 1 6 (xpo (xwk [(eI, 1)] D)) := by
  refine xx_aload_n e_W_product_0 rfl rfl ?_
  refine xx_iconst (v := 0) e_W_product_1 (by decide) ?_
  refine xx_aload_n e_W_product_2 rfl rfl ?_
  refine xx_iload_n e_W_product_3 rfl rfl ?_
  refine xx_iload_n e_W_product_4 rfl rfl ?_
  refine xx_callVc (As := [.int v1, .int v2]) (mc := 0) (ms := 0) (mc' := 1) (ms' := 6) (P := xpo D) (rs := [(eI, 13)]) (kf := fun _ => 4) (n2 := (fun E => 15)) e_W_product_5 kv_W_56 (xl_obj rfl) (by intro v hv; simp only [List.mem_cons, List.not_mem_nil, or_false] at hv; rcases hv with rfl | rfl <;> rfl) (by exact Nat.le_of_ble_eq_true rfl) ⟨by decide, by decide, rfl, by decide, xw_t (i := 415) rfl (by decide +kernel), by decide, trivial⟩ (fun E h' q => ?_) k1 (fun v h' q => ?_) (fun E h' q => ?_)
  · obtain ⟨V1, -, hd⟩ := q
    have hE := hE _ _ hd
    subst hE
    exact ⟨by decide, 13, _, by decide, Or.inr ⟨e_W_product_13.1, rfl⟩, rfl⟩
  · obtain ⟨V1, rfl, hd⟩ := q
    obtain ⟨r, rfl⟩ := hI _ _ hd
    refine xx_i2l e_W_product_8 ?_
    refine xh_last xlay_o e_W_product_9 rfl (show vp_in (nI 0) 1 from vp_in_nI (by decide) (by decide)) ?_
    refine xx_goto e_W_product_10 ?_
    refine xx_iconst (v := 0) e_W_product_17 (by decide) ?_
    refine xx_iret e_W_product_18 rfl rfl ?_
    exact ⟨_, rfl, Or.inl ⟨rfl, r, V1, rfl, hd⟩⟩
  · obtain ⟨V1, rfl, hd⟩ := q
    have hE := hE _ _ hd
    subst hE
    show xa_X xP (xtx S) (d + 1) 81 15 _ [] _ 0 0 _
    refine xx_iconst (v := 1) e_W_product_15 (by decide) ?_
    refine xx_iret e_W_product_16 rfl rfl ?_
    exact ⟨_, rfl, Or.inr ⟨_, 1, by simp, rfl, hd⟩⟩
set_option maxRecDepth 100000 in
theorem t_W_append {v1 v2 : Int32} (hI : ∀ o V1, D (.inl o) V1 → ∃ r, o = some (.int r)) (hE : ∀ E V1, D (.inr E) V1 → E = eI ∨ E = eA ∨ E = eS) (k1 : xX S d 84 0 (xa_ent 3 [.ref 0, .int v1, .int v2]) [] V 1 6 (xpo D)) : xX S (d + 1) 83 0 (xa_ent 5 [.ref 0, .int v1, .int v2, .ref 68]) [] V 1 6 (xpo (xwk [(eI, 1), (eA, 2), (eS, 3)] D)) := by
  refine xx_aload_n e_W_append_0 rfl rfl ?_
  refine xx_iconst (v := 0) e_W_append_1 (by decide) ?_
  refine xx_aload_n e_W_append_2 rfl rfl ?_
  refine xx_iload_n e_W_append_3 rfl rfl ?_
  refine xx_iload_n e_W_append_4 rfl rfl ?_
  refine xx_callVc (As := [.int v1, .int v2]) (mc := 0) (ms := 0) (mc' := 1) (ms' := 6) (P := xpo D) (rs := [(eI, 13), (eA, 17), (eS, 21)]) (kf := fun _ => 4) (n2 := (fun E => if E = eI then 15 else if E = eA then 19 else 23)) e_W_append_5 kv_W_60 (xl_obj rfl) (by intro v hv; simp only [List.mem_cons, List.not_mem_nil, or_false] at hv; rcases hv with rfl | rfl <;> rfl) (by exact Nat.le_of_ble_eq_true rfl) ⟨by decide, by decide, rfl, by decide, xw_t (i := 415) rfl (by decide +kernel), by decide, by decide, by decide, rfl, by decide, xw_t (i := 460) rfl (by decide +kernel), by decide, by decide, by decide, rfl, by decide, xw_t (i := 334) rfl (by decide +kernel), by decide, trivial⟩ (fun E h' q => ?_) k1 (fun v h' q => ?_) (fun E h' q => ?_)
  · obtain ⟨V1, -, hd⟩ := q
    rcases hE _ _ hd with rfl | rfl | rfl
    · exact ⟨by decide, 13, _, by decide, Or.inr ⟨e_W_append_13.1, rfl⟩, rfl⟩
    · exact ⟨by decide, 17, _, by decide, Or.inr ⟨e_W_append_17.1, rfl⟩, rfl⟩
    · exact ⟨by decide, 21, _, by decide, Or.inr ⟨e_W_append_21.1, rfl⟩, rfl⟩
  · obtain ⟨V1, rfl, hd⟩ := q
    obtain ⟨r, rfl⟩ := hI _ _ hd
    refine xx_i2l e_W_append_8 ?_
    refine xh_last xlay_o e_W_append_9 rfl (show vp_in (nI 0) 1 from vp_in_nI (by decide) (by decide)) ?_
    refine xx_goto e_W_append_10 ?_
    refine xx_iconst (v := 0) e_W_append_25 (by decide) ?_
    refine xx_iret e_W_append_26 rfl rfl ?_
    exact ⟨_, rfl, Or.inl ⟨rfl, r, V1, rfl, hd⟩⟩
  · obtain ⟨V1, rfl, hd⟩ := q
    rcases hE _ _ hd with rfl | rfl | rfl
    · show xa_X xP (xtx S) (d + 1) 83 15 _ [] _ 0 0 _
      refine xx_iconst (v := 1) e_W_append_15 (by decide) ?_
      refine xx_iret e_W_append_16 rfl rfl ?_
      exact ⟨_, rfl, Or.inr ⟨_, 1, by simp, rfl, hd⟩⟩
    · show xa_X xP (xtx S) (d + 1) 83 19 _ [] _ 0 0 _
      refine xx_iconst (v := 2) e_W_append_19 (by decide) ?_
      refine xx_iret e_W_append_20 rfl rfl ?_
      exact ⟨_, rfl, Or.inr ⟨_, 2, by simp, rfl, hd⟩⟩
    · show xa_X xP (xtx S) (d + 1) 83 23 _ [] _ 0 0 _
      refine xx_iconst (v := 3) e_W_append_23 (by decide) ?_
      refine xx_iret e_W_append_24 rfl rfl ?_
      exact ⟨_, rfl, Or.inr ⟨_, 3, by simp, rfl, hd⟩⟩
set_option maxRecDepth 100000 in
theorem t_W_strip {v1 : Int32} (hI : ∀ o V1, D (.inl o) V1 → o = none) (hE : ∀ E V1, D (.inr E) V1 → E = eI) (k1 : xX S d 87 0 (xa_ent 2 [.ref 0, .int v1]) [] V 1 6 (xpo D)) : xX S (d + 1) 86 0 (xa_ent 3 [.ref 0, .int v1]) [] V 1 6 (xpo (xwv [(eI, 1)] D)) := by
  refine xx_aload_n e_W_strip_0 rfl rfl ?_
  refine xx_iload_n e_W_strip_1 rfl rfl ?_
  refine xx_callVc (As := [.int v1]) (mc := 0) (ms := 0) (mc' := 1) (ms' := 6) (P := xpo D) (rs := [(eI, 8)]) (kf := fun _ => 2) (n2 := (fun E => 9)) e_W_strip_2 kv_W_63 (xl_obj rfl) (by intro v hv; rw [List.mem_singleton.mp hv]; rfl) (by exact Nat.le_of_ble_eq_true rfl) ⟨by decide, by decide, rfl, by decide, xw_t (i := 415) rfl (by decide +kernel), by decide, trivial⟩ (fun E h' q => ?_) k1 (fun v h' q => ?_) (fun E h' q => ?_)
  · obtain ⟨V1, -, hd⟩ := q
    have hE := hE _ _ hd
    subst hE
    exact ⟨by decide, 8, _, by decide, Or.inl ⟨2, e_W_strip_8.1, rfl, rfl⟩, rfl⟩
  · obtain ⟨V1, rfl, hd⟩ := q
    have hI := hI _ _ hd
    subst hI
    refine xx_goto e_W_strip_5 ?_
    refine xx_iconst (v := 0) e_W_strip_11 (by decide) ?_
    refine xx_iret e_W_strip_12 rfl rfl ?_
    exact ⟨_, rfl, Or.inl ⟨rfl, hd⟩⟩
  · obtain ⟨V1, rfl, hd⟩ := q
    have hE := hE _ _ hd
    subst hE
    show xa_X xP (xtx S) (d + 1) 86 9 _ [] _ 0 0 _
    refine xx_iconst (v := 1) e_W_strip_9 (by decide) ?_
    refine xx_iret e_W_strip_10 rfl rfl ?_
    exact ⟨_, rfl, Or.inr ⟨_, 1, by simp, rfl, hd⟩⟩
set_option maxRecDepth 100000 in
theorem t_W_value {v1 v2 : Int32} (hI : ∀ o V1, D (.inl o) V1 → ∃ r, o = some (.int r)) (hE : ∀ E V1, D (.inr E) V1 → E = eI) (k1 : xX S d 89 0 (xa_ent 3 [.ref 0, .int v1, .int v2]) [] V 1 6 (xpo D)) : xX S (d + 1) 88 0 (xa_ent 5 [.ref 0, .int v1, .int v2, .ref 68]) [] V 1 6 (xpo (xwk [(eI, 1)] D)) := by
  refine xx_aload_n e_W_value_0 rfl rfl ?_
  refine xx_iconst (v := 0) e_W_value_1 (by decide) ?_
  refine xx_aload_n e_W_value_2 rfl rfl ?_
  refine xx_iload_n e_W_value_3 rfl rfl ?_
  refine xx_iload_n e_W_value_4 rfl rfl ?_
  refine xx_callVc (As := [.int v1, .int v2]) (mc := 0) (ms := 0) (mc' := 1) (ms' := 6) (P := xpo D) (rs := [(eI, 13)]) (kf := fun _ => 4) (n2 := (fun E => 15)) e_W_value_5 kv_W_67 (xl_obj rfl) (by intro v hv; simp only [List.mem_cons, List.not_mem_nil, or_false] at hv; rcases hv with rfl | rfl <;> rfl) (by exact Nat.le_of_ble_eq_true rfl) ⟨by decide, by decide, rfl, by decide, xw_t (i := 415) rfl (by decide +kernel), by decide, trivial⟩ (fun E h' q => ?_) k1 (fun v h' q => ?_) (fun E h' q => ?_)
  · obtain ⟨V1, -, hd⟩ := q
    have hE := hE _ _ hd
    subst hE
    exact ⟨by decide, 13, _, by decide, Or.inr ⟨e_W_value_13.1, rfl⟩, rfl⟩
  · obtain ⟨V1, rfl, hd⟩ := q
    obtain ⟨r, rfl⟩ := hI _ _ hd
    refine xx_i2l e_W_value_8 ?_
    refine xh_last xlay_o e_W_value_9 rfl (show vp_in (nI 0) 1 from vp_in_nI (by decide) (by decide)) ?_
    refine xx_goto e_W_value_10 ?_
    refine xx_iconst (v := 0) e_W_value_17 (by decide) ?_
    refine xx_iret e_W_value_18 rfl rfl ?_
    exact ⟨_, rfl, Or.inl ⟨rfl, r, V1, rfl, hd⟩⟩
  · obtain ⟨V1, rfl, hd⟩ := q
    have hE := hE _ _ hd
    subst hE
    show xa_X xP (xtx S) (d + 1) 88 15 _ [] _ 0 0 _
    refine xx_iconst (v := 1) e_W_value_15 (by decide) ?_
    refine xx_iret e_W_value_16 rfl rfl ?_
    exact ⟨_, rfl, Or.inr ⟨_, 1, by simp, rfl, hd⟩⟩
set_option maxRecDepth 100000 in
theorem t_W_check (hI : ∀ o V1, D (.inl o) V1 → ∃ r, o = some (.int r)) (hE : ∀ E V1, D (.inr E) V1 → E = eS) (k1 : xX S d 92 0 (xa_ent 2 [.ref 0]) [] V 1 6 (xpo D)) : xX S (d + 1) 91 0 (xa_ent 3 [.ref 0, .ref 68]) [] V 1 6 (xpo (xwk [(eS, 1)] D)) := by
  refine xx_aload_n e_W_check_0 rfl rfl ?_
  refine xx_iconst (v := 0) e_W_check_1 (by decide) ?_
  refine xx_aload_n e_W_check_2 rfl rfl ?_
  refine xx_callVc (As := []) (mc := 0) (ms := 0) (mc' := 1) (ms' := 6) (P := xpo D) (rs := [(eS, 11)]) (kf := fun _ => 2) (n2 := (fun E => 12)) e_W_check_3 kv_W_70 (xl_obj rfl) (by intro v hv; cases hv) (by exact Nat.le_of_ble_eq_true rfl) ⟨by decide, by decide, rfl, by decide, xw_t (i := 334) rfl (by decide +kernel), by decide, trivial⟩ (fun E h' q => ?_) k1 (fun v h' q => ?_) (fun E h' q => ?_)
  · obtain ⟨V1, -, hd⟩ := q
    have hE := hE _ _ hd
    subst hE
    exact ⟨by decide, 11, _, by decide, Or.inl ⟨2, e_W_check_11.1, rfl, rfl⟩, rfl⟩
  · obtain ⟨V1, rfl, hd⟩ := q
    obtain ⟨r, rfl⟩ := hI _ _ hd
    refine xx_i2l e_W_check_6 ?_
    refine xh_last xlay_o e_W_check_7 rfl (show vp_in (nI 0) 1 from vp_in_nI (by decide) (by decide)) ?_
    refine xx_goto e_W_check_8 ?_
    refine xx_iconst (v := 0) e_W_check_14 (by decide) ?_
    refine xx_iret e_W_check_15 rfl rfl ?_
    exact ⟨_, rfl, Or.inl ⟨rfl, r, V1, rfl, hd⟩⟩
  · obtain ⟨V1, rfl, hd⟩ := q
    have hE := hE _ _ hd
    subst hE
    show xa_X xP (xtx S) (d + 1) 91 12 _ [] _ 0 0 _
    refine xx_iconst (v := 1) e_W_check_12 (by decide) ?_
    refine xx_iret e_W_check_13 rfl rfl ?_
    exact ⟨_, rfl, Or.inr ⟨_, 1, by simp, rfl, hd⟩⟩
end XHelp
