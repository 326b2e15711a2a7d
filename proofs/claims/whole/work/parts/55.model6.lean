/-! The reference: what is asked of the graph; ternary digits. -/
section XModel6
variable {S : Nat × (Nat → Int32)} {V : xl_V} {d : Nat}
theorem xin {x : Int32} {c n : Nat} (h0 : ¬ x < 0) (h : x < nI c) (hc : c ≤ n) (hn : n < 5000) : ∃ j, j < c ∧ x = nI j := by
  obtain ⟨j, j1, j2⟩ := nI_of h0
  refine ⟨j, ?_, j2⟩
  rw [j2] at h
  exact (nI_ltI j1 (xn31 (by omega))).mp h
def m_ng (V : xl_V) : Int32 := if V.1 47 11 = -1 then 1 else if V.1 47 11 = 5 then 1 else 0
theorem t_M_noGraph : xX S d 124 0 (xa_ent 1 [.ref 47]) [] V 0 0 (xq (some (.int (m_ng V))) (xl_H xlay V)) := by
  refine xx_aload_n e_M_noGraph_0 rfl rfl ?_
  refine xh_get e_M_noGraph_1 fg_M_29 rfl rfl ?_
  refine xx_iconst (v := (-1)) e_M_noGraph_4 (by decide) ?_
  refine xx_icmp_eq e_M_noGraph_5 (fun q5 => ?_) (fun q5 => ?_)
  · refine xx_iconst (v := 1) e_M_noGraph_16 (by decide) ?_
    refine xx_goto e_M_noGraph_17 ?_
    refine xx_iret e_M_noGraph_21 rfl rfl ?_
    exact ⟨by simp only [m_ng, ↓reduceIte, *] <;> rfl, rfl⟩
  · refine xx_aload_n e_M_noGraph_8 rfl rfl ?_
    refine xh_get e_M_noGraph_9 fg_M_29 rfl rfl ?_
    refine xx_iconst (v := 5) e_M_noGraph_12 (by decide) ?_
    refine xx_icmp_ne e_M_noGraph_13 (fun q13 => ?_) (fun q13 => ?_)
    · refine xx_iconst (v := 0) e_M_noGraph_20 (by decide) ?_
      refine xx_iret e_M_noGraph_21 rfl rfl ?_
      exact ⟨by simp only [m_ng, ↓reduceIte, *] <;> rfl, rfl⟩
    · refine xx_iconst (v := 1) e_M_noGraph_16 (by decide) ?_
      refine xx_goto e_M_noGraph_17 ?_
      refine xx_iret e_M_noGraph_21 rfl rfl ?_
      exact ⟨by simp only [m_ng, ↓reduceIte, *] <;> rfl, rfl⟩
def m_sts (V : xl_V) : Int32 × xl_V := if m_ng V = 0 then (V.1 47 13, xl_i V 47 0 0) else (0, xl_i V 47 0 1)
theorem t_M_states : xX S (d + 1) 123 0 (xa_ent 1 [.ref 47]) [] V 0 0 (xq (some (.int (m_sts V).1)) (xl_H xlay (m_sts V).2)) := by
  refine xx_aload_n e_M_states_0 rfl rfl ?_
  refine xx_aload_n e_M_states_1 rfl rfl ?_
  refine xc_V0i e_M_states_2 kv_M_145 (xl_obj rfl) (t_M_noGraph) ?_
  refine xx_if_eq e_M_states_5 (fun q => ?_) (fun q => ?_)
  · skip
    refine xx_iconst (v := 0) e_M_states_12 (by decide) ?_
    refine xh_put e_M_states_13 fp_M_78 rfl rfl ⟨rfl, rfl⟩ ?_
    refine xx_aload_n e_M_states_16 rfl rfl ?_
    refine xh_get e_M_states_17 fg_M_78 rfl rfl ?_
    refine xx_if_le e_M_states_20 (fun _ => ?_) (fun q1 => absurd (show (0 : Int32) ≤ 0 by decide) q1)
    refine xx_aload_n e_M_states_27 rfl rfl ?_
    refine xh_get e_M_states_28 fg_M_81 rfl rfl ?_
    refine xx_iret e_M_states_31 rfl rfl ?_
    rw [show m_sts V = _ from if_pos q]
    exact ⟨rfl, rfl⟩
  · skip
    refine xx_iconst (v := 1) e_M_states_8 (by decide) ?_
    refine xx_goto e_M_states_9 ?_
    refine xh_put e_M_states_13 fp_M_78 rfl rfl ⟨rfl, rfl⟩ ?_
    refine xx_aload_n e_M_states_16 rfl rfl ?_
    refine xh_get e_M_states_17 fg_M_78 rfl rfl ?_
    refine xx_if_le e_M_states_20 (fun q1 => absurd q1 (show ¬ (1 : Int32) ≤ 0 by decide)) (fun _ => ?_)
    refine xx_iconst (v := 0) e_M_states_23 (by decide) ?_
    refine xx_goto e_M_states_24 ?_
    refine xx_iret e_M_states_31 rfl rfl ?_
    rw [show m_sts V = _ from if_neg q]
    exact ⟨rfl, rfl⟩
def m_no (V : xl_V) (x : Int32) : Int32 := if m_ng V = 0 then (if x < 0 then 2 else if x < V.1 47 13 then 0 else 2) else 1
theorem t_M_noState {x : Int32} : xX S (d + 1) 126 0 (xa_ent 2 [.ref 47, .int x]) [] V 0 0 (xq (some (.int (if m_no V x = 0 then 0 else 1))) (xl_H xlay (xl_i V 47 0 (m_no V x)))) := by
  have two : m_no V x = 2 → xX S (d + 1) 126 24 [.ref 47, .int x] [.ref 47] V 0 0 (xq (some (.int (if m_no V x = 0 then 0 else 1))) (xl_H xlay (xl_i V 47 0 (m_no V x)))) := by
    intro h
    refine xx_iconst (v := 2) e_M_noState_24 (by decide) ?_
    refine xx_goto e_M_noState_25 ?_
    refine xh_put e_M_noState_29 fp_M_78 rfl rfl ⟨rfl, rfl⟩ ?_
    refine xx_aload_n e_M_noState_32 rfl rfl ?_
    refine xh_get e_M_noState_33 fg_M_78 rfl rfl ?_
    refine xx_if_le e_M_noState_36 (fun q1 => absurd q1 (show ¬ (2 : Int32) ≤ 0 by decide)) (fun _ => ?_)
    refine xx_iconst (v := 1) e_M_noState_39 (by decide) ?_
    refine xx_goto e_M_noState_40 ?_
    refine xx_iret e_M_noState_44 rfl rfl ?_
    rw [h]
    exact ⟨rfl, rfl⟩
  refine xx_aload_n e_M_noState_0 rfl rfl ?_
  refine xx_aload_n e_M_noState_1 rfl rfl ?_
  refine xc_V0i e_M_noState_2 kv_M_145 (xl_obj rfl) (t_M_noGraph) ?_
  refine xx_if_eq e_M_noState_5 (fun q => ?_) (fun q => ?_)
  · skip
    refine xx_iload_n e_M_noState_12 rfl rfl ?_
    refine xx_if_lt e_M_noState_13 (fun q1 => two (by unfold m_no; rw [if_pos q, if_pos q1])) (fun q1 => ?_)
    refine xx_iload_n e_M_noState_16 rfl rfl ?_
    refine xx_aload_n e_M_noState_17 rfl rfl ?_
    refine xh_get e_M_noState_18 fg_M_81 rfl rfl ?_
    refine xx_icmp_lt e_M_noState_21 (fun q2 => ?_) (fun q2 => two (by unfold m_no; rw [if_pos q, if_neg q1, if_neg q2]))
    refine xx_iconst (v := 0) e_M_noState_28 (by decide) ?_
    refine xh_put e_M_noState_29 fp_M_78 rfl rfl ⟨rfl, rfl⟩ ?_
    refine xx_aload_n e_M_noState_32 rfl rfl ?_
    refine xh_get e_M_noState_33 fg_M_78 rfl rfl ?_
    refine xx_if_le e_M_noState_36 (fun _ => ?_) (fun q3 => absurd (show (0 : Int32) ≤ 0 by decide) q3)
    refine xx_iconst (v := 0) e_M_noState_43 (by decide) ?_
    refine xx_iret e_M_noState_44 rfl rfl ?_
    rw [show m_no V x = 0 by unfold m_no; rw [if_pos q, if_neg q1, if_pos q2]]
    exact ⟨rfl, rfl⟩
  · skip
    refine xx_iconst (v := 1) e_M_noState_8 (by decide) ?_
    refine xx_goto e_M_noState_9 ?_
    refine xh_put e_M_noState_29 fp_M_78 rfl rfl ⟨rfl, rfl⟩ ?_
    refine xx_aload_n e_M_noState_32 rfl rfl ?_
    refine xh_get e_M_noState_33 fg_M_78 rfl rfl ?_
    refine xx_if_le e_M_noState_36 (fun q1 => absurd q1 (show ¬ (1 : Int32) ≤ 0 by decide)) (fun _ => ?_)
    refine xx_iconst (v := 1) e_M_noState_39 (by decide) ?_
    refine xx_goto e_M_noState_40 ?_
    refine xx_iret e_M_noState_44 rfl rfl ?_
    rw [show m_no V x = 1 from if_neg q]
    exact ⟨rfl, rfl⟩
theorem m_no_0 {x : Int32} {c : Nat} (h : m_no V x = 0) (hc : V.1 47 13 = nI c) (h8 : c ≤ 81) : ∃ j, j < c ∧ x = nI j := by
  unfold m_no at h
  split at h
  · split at h
    · exact absurd h (by decide)
    · split at h
      · rename_i h1 h2
        rw [hc] at h2
        exact xin h1 h2 h8 (by decide)
      · exact absurd h (by decide)
  · exact absurd h (by decide)
theorem t_M_code {x : Int32} {c : Nat} (hc : V.1 47 13 = nI c) (h8 : c ≤ 81) : xX S (d + 2) 125 0 (xa_ent 2 [.ref 47, .int x]) [] V 0 0 (xq (some (.int (if m_no V x = 0 then V.2.1 55 x.toNatClampNeg else 0))) (xl_H xlay (xl_i V 47 0 (m_no V x)))) := by
  refine xx_aload_n e_M_code_0 rfl rfl ?_
  refine xx_iload_n e_M_code_1 rfl rfl ?_
  refine xc_V1i e_M_code_2 kv_M_149 (xl_obj rfl) (t_M_noState) ?_
  by_cases h : m_no V x = 0
  · rw [if_pos h, if_pos h]
    refine xx_if_eq e_M_code_5 (fun _ => ?_) (fun q => absurd rfl q)
    obtain ⟨j, j1, j2⟩ := m_no_0 h hc h8
    have hv : vp_in x 81 := by rw [j2]; exact vp_in_nI (by omega) (by decide)
    refine xx_aload_n e_M_code_12 rfl rfl ?_
    refine xh_getR e_M_code_13 fg_M_39 rfl rfl ?_
    refine xx_iload_n e_M_code_16 rfl rfl ?_
    refine xh_iald e_M_code_17 rfl hv ?_
    refine xx_iret e_M_code_18 rfl rfl ?_
    exact ⟨rfl, rfl⟩
  · rw [if_neg h, if_neg h]
    refine xx_if_eq e_M_code_5 (fun q => absurd q (by decide)) (fun _ => ?_)
    refine xx_iconst (v := 0) e_M_code_8 (by decide) ?_
    refine xx_goto e_M_code_9 ?_
    refine xx_iret e_M_code_18 rfl rfl ?_
    exact ⟨rfl, rfl⟩
theorem t_M_marking {x : Int32} {c : Nat} (hc : V.1 47 13 = nI c) (h8 : c ≤ 81) : xX S (d + 2) 127 0 (xa_ent 2 [.ref 47, .int x]) [] V 0 0 (xq (some (.int (if m_no V x = 0 then V.2.1 54 x.toNatClampNeg else 0))) (xl_H xlay (xl_i V 47 0 (m_no V x)))) := by
  refine xx_aload_n e_M_marking_0 rfl rfl ?_
  refine xx_iload_n e_M_marking_1 rfl rfl ?_
  refine xc_V1i e_M_marking_2 kv_M_149 (xl_obj rfl) (t_M_noState) ?_
  by_cases h : m_no V x = 0
  · rw [if_pos h, if_pos h]
    refine xx_if_eq e_M_marking_5 (fun _ => ?_) (fun q => absurd rfl q)
    obtain ⟨j, j1, j2⟩ := m_no_0 h hc h8
    have hv : vp_in x 81 := by rw [j2]; exact vp_in_nI (by omega) (by decide)
    refine xx_aload_n e_M_marking_12 rfl rfl ?_
    refine xh_getR e_M_marking_13 fg_M_36 rfl rfl ?_
    refine xx_iload_n e_M_marking_16 rfl rfl ?_
    refine xh_iald e_M_marking_17 rfl hv ?_
    refine xx_iret e_M_marking_18 rfl rfl ?_
    exact ⟨rfl, rfl⟩
  · rw [if_neg h, if_neg h]
    refine xx_if_eq e_M_marking_5 (fun q => absurd q (by decide)) (fun _ => ?_)
    refine xx_iconst (v := 0) e_M_marking_8 (by decide) ?_
    refine xx_goto e_M_marking_9 ?_
    refine xx_iret e_M_marking_18 rfl rfl ?_
    exact ⟨rfl, rfl⟩
theorem t_M_found {x : Int32} {c : Nat} (hc : V.1 47 13 = nI c) (h8 : c ≤ 81) : xX S (d + 2) 128 0 (xa_ent 2 [.ref 47, .int x]) [] V 0 0 (xq (some (.int (if m_no V x = 0 then V.2.1 56 x.toNatClampNeg else 0))) (xl_H xlay (xl_i V 47 0 (m_no V x)))) := by
  refine xx_aload_n e_M_found_0 rfl rfl ?_
  refine xx_iload_n e_M_found_1 rfl rfl ?_
  refine xc_V1i e_M_found_2 kv_M_149 (xl_obj rfl) (t_M_noState) ?_
  by_cases h : m_no V x = 0
  · rw [if_pos h, if_pos h]
    refine xx_if_eq e_M_found_5 (fun _ => ?_) (fun q => absurd rfl q)
    obtain ⟨j, j1, j2⟩ := m_no_0 h hc h8
    have hv : vp_in x 81 := by rw [j2]; exact vp_in_nI (by omega) (by decide)
    refine xx_aload_n e_M_found_12 rfl rfl ?_
    refine xh_getR e_M_found_13 fg_M_42 rfl rfl ?_
    refine xx_iload_n e_M_found_16 rfl rfl ?_
    refine xh_iald e_M_found_17 rfl hv ?_
    refine xx_iret e_M_found_18 rfl rfl ?_
    exact ⟨rfl, rfl⟩
  · rw [if_neg h, if_neg h]
    refine xx_if_eq e_M_found_5 (fun q => absurd q (by decide)) (fun _ => ?_)
    refine xx_iconst (v := 0) e_M_found_8 (by decide) ?_
    refine xx_goto e_M_found_9 ?_
    refine xx_iret e_M_found_18 rfl rfl ?_
    exact ⟨rfl, rfl⟩
theorem t_M_excited {x : Int32} {c e : Nat} (hc : V.1 47 13 = nI c) (h8 : c ≤ 81) (he : V.1 47 4 = nI e) (h14 : e ≤ 14) (hsg : ∀ t, t < e → vp_in (V.2.1 50 t) 5) : xX S (d + 2) 129 0 (xa_ent 2 [.ref 47, .int x]) [] V 0 0 (xq (some (.int (if m_no V x = 0 then m_ex V x.toNatClampNeg e else 0))) (xl_H xlay (xl_i V 47 0 (m_no V x)))) := by
  refine xx_aload_n e_M_excited_0 rfl rfl ?_
  refine xx_iload_n e_M_excited_1 rfl rfl ?_
  refine xc_V1i e_M_excited_2 kv_M_149 (xl_obj rfl) (t_M_noState) ?_
  by_cases h : m_no V x = 0
  · rw [if_pos h, if_pos h]
    refine xx_if_eq e_M_excited_5 (fun _ => ?_) (fun q => absurd rfl q)
    obtain ⟨j, j1, j2⟩ := m_no_0 h hc h8
    have hj : x.toNatClampNeg = j := by rw [j2]; exact nI_clamp (xn31 (by omega))
    have hm : ∀ t, m_ex (xl_i V 47 0 (m_no V x)) j t = m_ex V j t := fun t => by
      induction t with
      | zero => rfl
      | succ t ih =>
        rw [m_ex, m_ex, ih]
        rfl
    rw [hj]
    refine xx_aload_n e_M_excited_12 rfl rfl ?_
    refine xx_iload_n e_M_excited_13 rfl rfl ?_
    rw [show (Value.int x) = .int (nI j) from congrArg _ j2]
    refine xc_V1i e_M_excited_14 kv_M_129 (xl_obj rfl) (t_M_excitedIn (V := xl_i V 47 0 (m_no V x)) he h14 (by omega) hsg) ?_
    refine xx_iret e_M_excited_17 rfl rfl ?_
    rw [hm]
    exact ⟨rfl, rfl⟩
  · rw [if_neg h, if_neg h]
    refine xx_if_eq e_M_excited_5 (fun q => absurd q (by decide)) (fun _ => ?_)
    refine xx_iconst (v := 0) e_M_excited_8 (by decide) ?_
    refine xx_goto e_M_excited_9 ?_
    refine xx_iret e_M_excited_17 rfl rfl ?_
    exact ⟨rfl, rfl⟩
theorem t_M_fault : xX S d 130 0 (xa_ent 1 [.ref 47]) [] V 0 0 (xq (some (.int (V.1 47 12))) (xl_H xlay (xl_i V 47 0 0))) := by
  refine xx_aload_n e_M_fault_0 rfl rfl ?_
  refine xx_iconst (v := 0) e_M_fault_1 (by decide) ?_
  refine xh_put e_M_fault_2 fp_M_78 rfl rfl ⟨rfl, rfl⟩ ?_
  refine xx_aload_n e_M_fault_5 rfl rfl ?_
  refine xh_get e_M_fault_6 fg_M_33 rfl rfl ?_
  refine xx_iret e_M_fault_9 rfl rfl ?_
  exact ⟨rfl, rfl⟩
theorem x3 : ∀ n, n ≤ 5 → 3 ^ n ≤ 243 := by decide
theorem x3p (n : Nat) : 0 < 3 ^ n := Nat.pow_pos (by decide)
theorem t_M_three {n : Nat} (hn : n ≤ 5) : xX S d 135 0 (xa_ent 3 [.int (nI n)]) [] V 0 0 (xq (some (.int (nI (3 ^ n)))) (xl_H xlay V)) := by
  have loop : ∀ m i, n - i = m → i ≤ n → xX S d 135 4 [.int (nI n), .int (nI (3 ^ i)), .int (nI i)] [] V 0 0 (xq (some (.int (nI (3 ^ n)))) (xl_H xlay V)) := by
    intro m
    induction m using Nat.strongRecOn with
    | ind m ih =>
      intro i hm hi
      refine xx_iload_n e_M_three_4 rfl rfl ?_
      refine xx_iload_n e_M_three_5 rfl rfl ?_
      refine xx_icmp_ge e_M_three_6 (fun q => ?_) (fun q => ?_)
      · have e1 : n ≤ i := (xle rfl rfl (by omega) (by omega)).mp q
        refine xx_iload_n e_M_three_19 rfl rfl ?_
        refine xx_iret e_M_three_20 rfl rfl ?_
        rw [show i = n by omega]
        exact ⟨rfl, rfl⟩
      · have e1 : i < n := Nat.lt_of_not_le (fun z => q ((xle rfl rfl (by omega) (by omega)).mpr z))
        refine xx_iload_n e_M_three_9 rfl rfl ?_
        refine xx_iconst (v := 3) e_M_three_10 (by decide) ?_
        refine xx_imul e_M_three_11 ?_
        rw [show (3 : Int32) = nI 3 from rfl, pk_mul, show 3 ^ i * 3 = 3 ^ (i + 1) from rfl]
        refine xx_istore_n e_M_three_12 rfl rfl ?_
        refine xh_incN e_M_three_13 rfl ?_
        refine xx_goto e_M_three_16 ?_
        exact ih (n - (i + 1)) (by omega) (i + 1) rfl (by omega)
  refine xx_iconst (v := 1) e_M_three_0 (by decide) ?_
  refine xx_istore_n e_M_three_1 rfl rfl ?_
  refine xx_iconst (v := 0) e_M_three_2 (by decide) ?_
  refine xx_istore_n e_M_three_3 rfl rfl ?_
  exact loop _ 0 rfl (Nat.zero_le _)
/-- the s-th ternary digit of p -/
def xdg (p s : Nat) : Nat := p / 3 ^ s % 3
theorem xdg_r {p s : Nat} (hp : p < 243) : nI p / nI (3 ^ s) - nI p / nI (3 ^ s) / 3 * 3 = nI (xdg p s) ∨ 5 < s := by
  rcases Nat.lt_or_ge 5 s with h | h
  · exact .inr h
  · refine .inl ?_
    rw [pk_div (xn31 (by omega)) (x3p s) (xn31 (by have := x3 s h; omega)), show (3 : Int32) = nI 3 from rfl, pk_rem (xn31 (by have := Nat.div_le_self p (3 ^ s); omega)) (by decide) (by decide)]
    rfl
def m_cv1 (p : Nat) (c : Int32) (s : Nat) : Bool := decide (xdg p s < 2 ∧ ¬ nI (xdg p s) = (c >>> (nI s &&& 31)) &&& 1)
def m_cv (sg p : Nat) (c : Int32) : Int32 := if (xfnd (m_cv1 p c) sg).isSome then 0 else 1
theorem t_M_covers {p sg : Nat} {c : Int32} (hp : p < 243) (hs : V.1 47 1 = nI sg) (h5 : sg ≤ 5) : xX S (d + 1) 136 0 (xa_ent 5 [.ref 47, .int (nI p), .int c]) [] V 0 0 (xq (some (.int (m_cv sg p c))) (xl_H xlay V)) := by
  have loop : ∀ n s, sg - s = n → s ≤ sg → (∀ i, i < s → m_cv1 p c i = false) → ∀ l4, xX S (d + 1) 136 2 [.ref 47, .int (nI p), .int c, .int (nI s), l4] [] V 0 0 (xq (some (.int (m_cv sg p c))) (xl_H xlay V)) := by
    intro n
    induction n using Nat.strongRecOn with
    | ind n ih =>
      intro s hn hsg hin l4
      have nxt : s < sg → m_cv1 p c s = false → ∀ l4, xX S (d + 1) 136 38 [.ref 47, .int (nI p), .int c, .int (nI s), l4] [] V 0 0 (xq (some (.int (m_cv sg p c))) (xl_H xlay V)) := by
        intro h1 h2 l4
        refine xh_incN e_M_covers_38 rfl ?_
        refine xx_goto e_M_covers_41 ?_
        exact ih (sg - (s + 1)) (by omega) (s + 1) rfl (by omega) (lt_s' hin h2) _
      refine xx_iload_n e_M_covers_2 rfl rfl ?_
      refine xx_aload_n e_M_covers_3 rfl rfl ?_
      refine xh_get e_M_covers_4 fg_M_84 rfl rfl ?_
      refine xx_icmp_ge e_M_covers_7 (fun q => ?_) (fun q => ?_)
      · have e1 : sg ≤ s := (xle hs rfl (by omega) (by omega)).mp q
        refine xx_iconst (v := 1) e_M_covers_44 (by decide) ?_
        refine xx_iret e_M_covers_45 rfl rfl ?_
        unfold m_cv
        rw [xfnd_o (fun i hi => hin i (by omega))]
        exact ⟨rfl, rfl⟩
      · have e1 : s < sg := Nat.lt_of_not_le (fun z => q ((xle hs rfl (by omega) (by omega)).mpr z))
        refine xx_iload_n e_M_covers_10 rfl rfl ?_
        refine xx_iload_n e_M_covers_11 rfl rfl ?_
        refine xc_S1i e_M_covers_12 ks_M_152 (t_M_three (n := s) (by omega)) ?_
        refine xx_idiv e_M_covers_15 (nI_ne0 (x3p s) (xn31 (by have := x3 s (by omega); omega))) ?_
        refine xx_iconst (v := 3) e_M_covers_16 (by decide) ?_
        refine xx_irem e_M_covers_17 (by decide) ?_
        rw [(xdg_r (s := s) hp).resolve_right (by omega)]
        refine xx_istore e_M_covers_18 rfl ?_
        refine xx_iload e_M_covers_20 rfl ?_
        refine xx_iconst (v := 2) e_M_covers_22 (by decide) ?_
        have hd3 : xdg p s < 3 := Nat.mod_lt _ (by decide)
        refine xx_icmp_ge e_M_covers_23 (fun q1 => ?_) (fun q1 => ?_)
        · have e2 : 2 ≤ xdg p s := (xle (a := 2) rfl rfl (by decide) (by omega)).mp q1
          exact nxt e1 (decide_eq_false (fun z => by have := z.1; omega)) _
        · have e2 : xdg p s < 2 := Nat.lt_of_not_le (fun z => q1 ((xle (a := 2) rfl rfl (by decide) (by omega)).mpr z))
          refine xx_iload e_M_covers_26 rfl ?_
          refine xx_iload_n e_M_covers_28 rfl rfl ?_
          refine xx_iload_n e_M_covers_29 rfl rfl ?_
          refine xx_ishr e_M_covers_30 ?_
          refine xx_iconst (v := 1) e_M_covers_31 (by decide) ?_
          refine xx_iand e_M_covers_32 ?_
          refine xx_icmp_eq e_M_covers_33 (fun q2 => nxt e1 (decide_eq_false (fun z => z.2 q2)) _) (fun q2 => ?_)
          refine xx_iconst (v := 0) e_M_covers_36 (by decide) ?_
          refine xx_iret e_M_covers_37 rfl rfl ?_
          unfold m_cv
          rw [xfnd_i e1 (decide_eq_true ⟨e2, q2⟩) hin]
          exact ⟨rfl, rfl⟩
  refine xx_iconst (v := 0) e_M_covers_0 (by decide) ?_
  refine xx_istore_n e_M_covers_1 rfl rfl ?_
  exact loop _ 0 rfl (Nat.zero_le _) (fun i hi => absurd hi (Nat.not_lt_zero i)) _
/-- how many of the first n digits are fixed -/
def xdt (p : Nat) : Nat → Nat
  | 0 => 0
  | s + 1 => if xdg p s < 2 then xdt p s + 1 else xdt p s
theorem xdt_le (p : Nat) : ∀ s, xdt p s ≤ s
  | 0 => Nat.le_refl _
  | s + 1 => by
    have := xdt_le p s
    unfold xdt
    split <;> omega
theorem t_M_digits {p sg : Nat} (hp : p < 243) (hs : V.1 47 1 = nI sg) (h5 : sg ≤ 5) : xX S (d + 1) 141 0 (xa_ent 4 [.ref 47, .int (nI p)]) [] V 0 0 (xq (some (.int (nI (xdt p sg)))) (xl_H xlay V)) := by
  have loop : ∀ n s, sg - s = n → s ≤ sg → xX S (d + 1) 141 4 [.ref 47, .int (nI p), .int (nI (xdt p s)), .int (nI s)] [] V 0 0 (xq (some (.int (nI (xdt p sg)))) (xl_H xlay V)) := by
    intro n
    induction n using Nat.strongRecOn with
    | ind n ih =>
      intro s hn hsg
      have nxt : s < sg → ∀ z, z = nI (xdt p (s + 1)) → xX S (d + 1) 141 31 [.ref 47, .int (nI p), .int (nI (xdt p s)), .int (nI s)] [.int z] V 0 0 (xq (some (.int (nI (xdt p sg)))) (xl_H xlay V)) := by
        intro h1 z hz
        refine xx_istore_n e_M_digits_31 rfl rfl ?_
        refine xh_incN e_M_digits_32 rfl ?_
        refine xx_goto e_M_digits_35 ?_
        rw [hz]
        exact ih (sg - (s + 1)) (by omega) (s + 1) rfl (by omega)
      refine xx_iload_n e_M_digits_4 rfl rfl ?_
      refine xx_aload_n e_M_digits_5 rfl rfl ?_
      refine xh_get e_M_digits_6 fg_M_84 rfl rfl ?_
      refine xx_icmp_ge e_M_digits_9 (fun q => ?_) (fun q => ?_)
      · have e1 : sg ≤ s := (xle hs rfl (by omega) (by omega)).mp q
        refine xx_iload_n e_M_digits_38 rfl rfl ?_
        refine xx_iret e_M_digits_39 rfl rfl ?_
        rw [show s = sg by omega]
        exact ⟨rfl, rfl⟩
      · have e1 : s < sg := Nat.lt_of_not_le (fun z => q ((xle hs rfl (by omega) (by omega)).mpr z))
        refine xx_iload_n e_M_digits_12 rfl rfl ?_
        refine xx_iload_n e_M_digits_13 rfl rfl ?_
        refine xc_S1i e_M_digits_14 ks_M_152 (t_M_three (n := s) (by omega)) ?_
        refine xx_idiv e_M_digits_17 (nI_ne0 (x3p s) (xn31 (by have := x3 s (by omega); omega))) ?_
        refine xx_iconst (v := 3) e_M_digits_18 (by decide) ?_
        refine xx_irem e_M_digits_19 (by decide) ?_
        rw [(xdg_r (s := s) hp).resolve_right (by omega)]
        refine xx_iconst (v := 2) e_M_digits_20 (by decide) ?_
        have hd3 : xdg p s < 3 := Nat.mod_lt _ (by decide)
        refine xx_icmp_ge e_M_digits_21 (fun q1 => ?_) (fun q1 => ?_)
        · have e2 : 2 ≤ xdg p s := (xle (a := 2) rfl rfl (by decide) (by omega)).mp q1
          refine xx_iload_n e_M_digits_30 rfl rfl ?_
          exact nxt e1 _ (by rw [xdt, if_neg (by omega)])
        · have e2 : xdg p s < 2 := Nat.lt_of_not_le (fun z => q1 ((xle (a := 2) rfl rfl (by decide) (by omega)).mpr z))
          refine xx_iload_n e_M_digits_24 rfl rfl ?_
          refine xx_iconst (v := 1) e_M_digits_25 (by decide) ?_
          refine xx_iadd e_M_digits_26 ?_
          refine xx_goto e_M_digits_27 ?_
          exact nxt e1 _ (by rw [xdt, if_pos e2, nI_1])
  refine xx_iconst (v := 0) e_M_digits_0 (by decide) ?_
  refine xx_istore_n e_M_digits_1 rfl rfl ?_
  refine xx_iconst (v := 0) e_M_digits_2 (by decide) ?_
  refine xx_istore_n e_M_digits_3 rfl rfl ?_
  exact loop _ 0 rfl (Nat.zero_le _)
end XModel6
