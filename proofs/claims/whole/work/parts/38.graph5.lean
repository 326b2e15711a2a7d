/-! The graph: what its states say of the net. -/
section XGraph5
variable {S : Nat × (Nat → Int32)} {V : xl_V} {d : Nat}
def g_lo (V : xl_V) (k t : Nat) : Int32 :=
  if (if n_in V (V.2.1 2 t) = 0 then V.2.1 11 k &&& (V.2.1 11 (V.2.1 12 (k * 14 + t)).toNatClampNeg ^^^ (-1)) &&& (n_eb V t ^^^ (-1)) else V.2.1 11 k &&& (V.2.1 11 (V.2.1 12 (k * 14 + t)).toNatClampNeg ^^^ (-1)) &&& (n_eb V t ^^^ (-1)) &&& V.1 1 5) = 0 then 0 else 1
theorem t_G_losesEdge {k t : Nat} (hk : k < 80) (ht : t < 14) (hs : vp_in (V.2.1 12 (k * 14 + t)) 80) : xX S (d + 2) 28 0 (xa_ent 5 [.ref 6, .ref 1, .int (nI k), .int (nI t)]) [] V 0 0 (xq (some (.int (g_lo V k t))) (xl_H xlay V)) := by
  refine xx_aload_n e_G_losesEdge_0 rfl rfl ?_
  refine xh_getR e_G_losesEdge_1 fg_G_24 rfl rfl ?_
  refine xx_iload_n e_G_losesEdge_4 rfl rfl ?_
  refine xh_ialN e_G_losesEdge_5 rfl (by omega) ?_
  refine xx_aload_n e_G_losesEdge_6 rfl rfl ?_
  refine xh_getR e_G_losesEdge_7 fg_G_24 rfl rfl ?_
  refine xx_aload_n e_G_losesEdge_10 rfl rfl ?_
  refine xx_iload_n e_G_losesEdge_11 rfl rfl ?_
  refine xx_iload_n e_G_losesEdge_12 rfl rfl ?_
  refine xc_V2i e_G_losesEdge_13 kv_G_110 (xl_obj rfl) (t_G_successor hk ht) ?_
  refine xh_iald e_G_losesEdge_16 rfl hs ?_
  refine xx_iconst (v := (-1)) e_G_losesEdge_17 (by decide) ?_
  refine xx_ixor e_G_losesEdge_18 ?_
  refine xx_iand e_G_losesEdge_19 ?_
  refine xx_aload_n e_G_losesEdge_20 rfl rfl ?_
  refine xx_iload_n e_G_losesEdge_21 rfl rfl ?_
  refine xc_V1i e_G_losesEdge_22 kv_G_81 (xl_obj rfl) (u_N_edgeBit ht) ?_
  refine xx_iconst (v := (-1)) e_G_losesEdge_25 (by decide) ?_
  refine xx_ixor e_G_losesEdge_26 ?_
  refine xx_iand e_G_losesEdge_27 ?_
  refine xx_istore e_G_losesEdge_28 rfl ?_
  refine xx_aload_n e_G_losesEdge_30 rfl rfl ?_
  refine xx_aload_n e_G_losesEdge_31 rfl rfl ?_
  refine xx_iload_n e_G_losesEdge_32 rfl rfl ?_
  refine xc_V1i e_G_losesEdge_33 kv_G_85 (xl_obj rfl) (u_N_signalOf ht) ?_
  refine xc_V1i e_G_losesEdge_36 kv_G_88 (xl_obj rfl) (t_N_isInput) ?_
  refine xx_if_eq e_G_losesEdge_39 (fun q39 => ?_) (fun q39 => ?_)
  · refine xx_iload e_G_losesEdge_51 rfl ?_
    refine xx_if_eq e_G_losesEdge_53 (fun q53 => ?_) (fun q53 => ?_)
    · refine xx_iconst (v := 0) e_G_losesEdge_60 (by decide) ?_
      refine xx_iret e_G_losesEdge_61 rfl rfl ?_
      exact ⟨by simp only [g_lo, ↓reduceIte, *], rfl⟩
    · refine xx_iconst (v := 1) e_G_losesEdge_56 (by decide) ?_
      refine xx_goto e_G_losesEdge_57 ?_
      refine xx_iret e_G_losesEdge_61 rfl rfl ?_
      exact ⟨by simp only [g_lo, ↓reduceIte, *], rfl⟩
  · refine xx_iload e_G_losesEdge_42 rfl ?_
    refine xx_aload_n e_G_losesEdge_44 rfl rfl ?_
    refine xh_get e_G_losesEdge_45 fg_G_117 rfl rfl ?_
    refine xx_iand e_G_losesEdge_48 ?_
    refine xx_istore e_G_losesEdge_49 rfl ?_
    refine xx_iload e_G_losesEdge_51 rfl ?_
    refine xx_if_eq e_G_losesEdge_53 (fun q53 => ?_) (fun q53 => ?_)
    · refine xx_iconst (v := 0) e_G_losesEdge_60 (by decide) ?_
      refine xx_iret e_G_losesEdge_61 rfl rfl ?_
      exact ⟨by simp only [g_lo, ↓reduceIte, *], rfl⟩
    · refine xx_iconst (v := 1) e_G_losesEdge_56 (by decide) ?_
      refine xx_goto e_G_losesEdge_57 ?_
      refine xx_iret e_G_losesEdge_61 rfl rfl ?_
      exact ⟨by simp only [g_lo, ↓reduceIte, *], rfl⟩
def g_dt (V : xl_V) (k t : Nat) : Bool := decide (¬ V.2.1 12 (k * 14 + t) = -1 ∧ ¬ g_lo V k t = 0)
def g_ds (V : xl_V) (e k : Nat) : Bool := (xfnd (g_dt V k) e).isSome
def g_io (o : Option Nat) : Int32 := match o with
  | some k => nI k
  | none => -1
theorem t_G_leastDisablingState {c e : Nat} (hc : V.1 6 0 = nI c) (h80 : c ≤ 80) (he : V.1 1 1 = nI e) (h14 : e ≤ 14) (hs : ∀ k t, k < c → t < e → ¬ V.2.1 12 (k * 14 + t) = -1 → vp_in (V.2.1 12 (k * 14 + t)) 80) :
    xX S (d + 3) 26 0 (xa_ent 4 [.ref 6, .ref 1]) [] V 0 0 (xq (some (.int (g_io (xfnd (g_ds V e) c)))) (xl_H xlay V)) := by
  have outer : ∀ n k, c - k = n → k ≤ c → (∀ i, i < k → g_ds V e i = false) → xX S (d + 3) 26 2 [.ref 6, .ref 1, .int (nI k), xa_j] [] V 0 0 (xq (some (.int (g_io (xfnd (g_ds V e) c)))) (xl_H xlay V)) := by
    intro n
    induction n using Nat.strongRecOn with
    | ind n ih =>
      intro k hn hk hin
      have inner : ∀ n2 t, e - t = n2 → t ≤ e → k < c → (∀ i, i < t → g_dt V k i = false) → xX S (d + 3) 26 12 [.ref 6, .ref 1, .int (nI k), .int (nI t)] [] V 0 0 (xq (some (.int (g_io (xfnd (g_ds V e) c)))) (xl_H xlay V)) := by
        intro n2
        induction n2 using Nat.strongRecOn with
        | ind n2 ih2 =>
          intro t hn2 ht hkc hin2
          refine xx_iload_n e_G_leastDisablingState_12 rfl rfl ?_
          refine xx_aload_n e_G_leastDisablingState_13 rfl rfl ?_
          refine xh_get e_G_leastDisablingState_14 fg_G_60 rfl rfl ?_
          refine xx_icmp_ge e_G_leastDisablingState_17 (fun q => ?_) (fun q => ?_)
          · have e1 : e ≤ t := (xle he rfl (by omega) (by omega)).mp q
            refine xh_incN e_G_leastDisablingState_48 rfl ?_
            refine xx_goto e_G_leastDisablingState_51 ?_
            refine xh_fg 3 ?_
            refine ih (c - (k + 1)) (by omega) (k + 1) rfl (by omega) (lt_s' hin ?_)
            unfold g_ds
            rw [xfnd_o (fun i hi => hin2 i (by omega))]
            rfl
          · have e1 : t < e := Nat.lt_of_not_le (fun z => q ((xle he rfl (by omega) (by omega)).mpr z))
            refine xx_aload_n e_G_leastDisablingState_20 rfl rfl ?_
            refine xx_iload_n e_G_leastDisablingState_21 rfl rfl ?_
            refine xx_iload_n e_G_leastDisablingState_22 rfl rfl ?_
            refine xc_V2i e_G_leastDisablingState_23 kv_G_110 (xl_obj rfl) (t_G_successor (by omega) (by omega)) ?_
            refine xx_iconst (v := (-1)) e_G_leastDisablingState_26 (by decide) ?_
            refine xx_icmp_eq e_G_leastDisablingState_27 (fun q1 => ?_) (fun q1 => ?_)
            · skip
              refine xh_incN e_G_leastDisablingState_42 rfl ?_
              refine xx_goto e_G_leastDisablingState_45 ?_
              exact ih2 (e - (t + 1)) (by omega) (t + 1) rfl (by omega) hkc (lt_s' hin2 (decide_eq_false (fun z => z.1 q1)))
            · skip
              refine xx_aload_n e_G_leastDisablingState_30 rfl rfl ?_
              refine xx_aload_n e_G_leastDisablingState_31 rfl rfl ?_
              refine xx_iload_n e_G_leastDisablingState_32 rfl rfl ?_
              refine xx_iload_n e_G_leastDisablingState_33 rfl rfl ?_
              refine xc_V3i e_G_leastDisablingState_34 kv_G_113 (xl_obj rfl) (t_G_losesEdge (by omega) (by omega) (hs k t hkc e1 q1)) ?_
              refine xx_if_eq e_G_leastDisablingState_37 (fun q2 => ?_) (fun q2 => ?_)
              · skip
                refine xh_incN e_G_leastDisablingState_42 rfl ?_
                refine xx_goto e_G_leastDisablingState_45 ?_
                exact ih2 (e - (t + 1)) (by omega) (t + 1) rfl (by omega) hkc (lt_s' hin2 (decide_eq_false (fun z => z.2 q2)))
              · skip
                refine xx_iload_n e_G_leastDisablingState_40 rfl rfl ?_
                refine xx_iret e_G_leastDisablingState_41 rfl rfl ?_
                have e2 : xfnd (g_dt V k) e = some t := xfnd_i e1 (decide_eq_true ⟨q1, q2⟩) hin2
                have e3 : xfnd (g_ds V e) c = some k := xfnd_i hkc (by unfold g_ds; rw [e2]; rfl) hin
                rw [e3]
                exact ⟨rfl, rfl⟩
      refine xx_iload_n e_G_leastDisablingState_2 rfl rfl ?_
      refine xx_aload_n e_G_leastDisablingState_3 rfl rfl ?_
      refine xh_get e_G_leastDisablingState_4 fg_G_41 rfl rfl ?_
      refine xx_icmp_ge e_G_leastDisablingState_7 (fun q => ?_) (fun q => ?_)
      · have e1 : c ≤ k := (xle hc rfl (by omega) (by omega)).mp q
        refine xx_iconst (v := (-1)) e_G_leastDisablingState_54 (by decide) ?_
        refine xx_iret e_G_leastDisablingState_55 rfl rfl ?_
        rw [xfnd_o (fun i hi => hin i (by omega))]
        exact ⟨rfl, rfl⟩
      · have e1 : k < c := Nat.lt_of_not_le (fun z => q ((xle hc rfl (by omega) (by omega)).mpr z))
        refine xx_iconst (v := 0) e_G_leastDisablingState_10 (by decide) ?_
        refine xx_istore_n e_G_leastDisablingState_11 rfl rfl ?_
        exact inner _ 0 rfl (Nat.zero_le _) e1 (fun i hi => absurd hi (Nat.not_lt_zero i))
  refine xx_iconst (v := 0) e_G_leastDisablingState_0 (by decide) ?_
  refine xx_istore_n e_G_leastDisablingState_1 rfl rfl ?_
  exact outer _ 0 rfl (Nat.zero_le _) (fun i hi => absurd hi (Nat.not_lt_zero i))
def g_cj (V : xl_V) (k j : Nat) : Bool := decide (V.2.1 8 j = V.2.1 8 k ∧ ¬ V.2.1 10 j = V.2.1 10 k)
def g_cs (V : xl_V) (k : Nat) : Bool := (xfnd (g_cj V k) k).isSome
theorem t_G_leastConflictingState {c : Nat} (hc : V.1 6 0 = nI c) (h80 : c ≤ 80) : xX S d 29 0 (xa_ent 3 [.ref 6]) [] V 0 0 (xq (some (.int (g_io (xfnd (g_cs V) c)))) (xl_H xlay V)) := by
  have outer : ∀ n k, c - k = n → k ≤ c → (∀ i, i < k → g_cs V i = false) → xX S d 29 2 [.ref 6, .int (nI k), xa_j] [] V 0 0 (xq (some (.int (g_io (xfnd (g_cs V) c)))) (xl_H xlay V)) := by
    intro n
    induction n using Nat.strongRecOn with
    | ind n ih =>
      intro k hn hk hin
      have inner : ∀ n2 j, k - j = n2 → j ≤ k → k < c → (∀ i, i < j → g_cj V k i = false) → xX S d 29 12 [.ref 6, .int (nI k), .int (nI j)] [] V 0 0 (xq (some (.int (g_io (xfnd (g_cs V) c)))) (xl_H xlay V)) := by
        intro n2
        induction n2 using Nat.strongRecOn with
        | ind n2 ih2 =>
          intro j hn2 hj hkc hin2
          refine xx_iload_n e_G_leastConflictingState_12 rfl rfl ?_
          refine xx_iload_n e_G_leastConflictingState_13 rfl rfl ?_
          refine xx_icmp_ge e_G_leastConflictingState_14 (fun q => ?_) (fun q => ?_)
          · have e1 : k ≤ j := (xle rfl rfl (by omega) (by omega)).mp q
            refine xh_incN e_G_leastConflictingState_55 rfl ?_
            refine xx_goto e_G_leastConflictingState_58 ?_
            refine xh_fg 2 ?_
            refine ih (c - (k + 1)) (by omega) (k + 1) rfl (by omega) (lt_s' hin ?_)
            unfold g_cs
            rw [xfnd_o (fun i hi => hin2 i (by omega))]
            rfl
          · have e1 : j < k := Nat.lt_of_not_le (fun z => q ((xle rfl rfl (by omega) (by omega)).mpr z))
            refine xx_aload_n e_G_leastConflictingState_17 rfl rfl ?_
            refine xh_getR e_G_leastConflictingState_18 fg_G_15 rfl rfl ?_
            refine xx_iload_n e_G_leastConflictingState_21 rfl rfl ?_
            refine xh_ialN e_G_leastConflictingState_22 rfl (by omega) ?_
            refine xx_aload_n e_G_leastConflictingState_23 rfl rfl ?_
            refine xh_getR e_G_leastConflictingState_24 fg_G_15 rfl rfl ?_
            refine xx_iload_n e_G_leastConflictingState_27 rfl rfl ?_
            refine xh_ialN e_G_leastConflictingState_28 rfl (by omega) ?_
            refine xx_icmp_ne e_G_leastConflictingState_29 (fun q1 => ?_) (fun q1 => ?_)
            · skip
              refine xh_incN e_G_leastConflictingState_49 rfl ?_
              refine xx_goto e_G_leastConflictingState_52 ?_
              exact ih2 (k - (j + 1)) (by omega) (j + 1) rfl (by omega) hkc (lt_s' hin2 (decide_eq_false (fun z => q1 z.1)))
            · skip
              refine xx_aload_n e_G_leastConflictingState_32 rfl rfl ?_
              refine xh_getR e_G_leastConflictingState_33 fg_G_21 rfl rfl ?_
              refine xx_iload_n e_G_leastConflictingState_36 rfl rfl ?_
              refine xh_ialN e_G_leastConflictingState_37 rfl (by omega) ?_
              refine xx_aload_n e_G_leastConflictingState_38 rfl rfl ?_
              refine xh_getR e_G_leastConflictingState_39 fg_G_21 rfl rfl ?_
              refine xx_iload_n e_G_leastConflictingState_42 rfl rfl ?_
              refine xh_ialN e_G_leastConflictingState_43 rfl (by omega) ?_
              refine xx_icmp_eq e_G_leastConflictingState_44 (fun q2 => ?_) (fun q2 => ?_)
              · skip
                refine xh_incN e_G_leastConflictingState_49 rfl ?_
                refine xx_goto e_G_leastConflictingState_52 ?_
                exact ih2 (k - (j + 1)) (by omega) (j + 1) rfl (by omega) hkc (lt_s' hin2 (decide_eq_false (fun z => z.2 q2)))
              · skip
                refine xx_iload_n e_G_leastConflictingState_47 rfl rfl ?_
                refine xx_iret e_G_leastConflictingState_48 rfl rfl ?_
                have e2 : xfnd (g_cj V k) k = some j := xfnd_i e1 (decide_eq_true ⟨q1, q2⟩) hin2
                have e3 : xfnd (g_cs V) c = some k := xfnd_i hkc (by unfold g_cs; rw [e2]; rfl) hin
                rw [e3]
                exact ⟨rfl, rfl⟩
      refine xx_iload_n e_G_leastConflictingState_2 rfl rfl ?_
      refine xx_aload_n e_G_leastConflictingState_3 rfl rfl ?_
      refine xh_get e_G_leastConflictingState_4 fg_G_41 rfl rfl ?_
      refine xx_icmp_ge e_G_leastConflictingState_7 (fun q => ?_) (fun q => ?_)
      · have e1 : c ≤ k := (xle hc rfl (by omega) (by omega)).mp q
        refine xx_iconst (v := (-1)) e_G_leastConflictingState_61 (by decide) ?_
        refine xx_iret e_G_leastConflictingState_62 rfl rfl ?_
        rw [xfnd_o (fun i hi => hin i (by omega))]
        exact ⟨rfl, rfl⟩
      · have e1 : k < c := Nat.lt_of_not_le (fun z => q ((xle hc rfl (by omega) (by omega)).mpr z))
        refine xx_iconst (v := 0) e_G_leastConflictingState_10 (by decide) ?_
        refine xx_istore_n e_G_leastConflictingState_11 rfl rfl ?_
        exact inner _ 0 rfl (Nat.zero_le _) e1 (fun i hi => absurd hi (Nat.not_lt_zero i))
  refine xx_iconst (v := 0) e_G_leastConflictingState_0 (by decide) ?_
  refine xx_istore_n e_G_leastConflictingState_1 rfl rfl ?_
  exact outer _ 0 rfl (Nat.zero_le _) (fun i hi => absurd hi (Nat.not_lt_zero i))
/-- the next value of output s in state k -/
def g_nx (V : xl_V) (s : Int32) (k : Nat) : Int32 := if g_ex V s k = 0 then (V.2.1 8 k >>> (s &&& 31)) &&& 1 else 1 - ((V.2.1 8 k >>> (s &&& 31)) &&& 1)
def g_cn (V : xl_V) (s l : Int32) : Nat → Int32
  | 0 => 0
  | k + 1 => g_cn V s l k ||| (if g_nx V s k = l then (1 : Int32) <<< (V.2.1 8 k &&& 31) else 0)
theorem t_G_codesWithNext {c : Nat} {s l : Int32} (hc : V.1 6 0 = nI c) (h80 : c ≤ 80) : xX S (d + 1) 61 0 (xa_ent 7 [.ref 6, .int s, .int l]) [] V 0 0 (xq (some (.int (g_cn V s l c))) (xl_H xlay V)) := by
  have loop : ∀ n k, c - k = n → k ≤ c → xX S (d + 1) 61 5 [.ref 6, .int s, .int l, .int (g_cn V s l k), .int (nI k), xa_j, xa_j] [] V 0 0 (xq (some (.int (g_cn V s l c))) (xl_H xlay V)) := by
    intro n
    induction n using Nat.strongRecOn with
    | ind n ih =>
      intro k hn hk
      have nxt : k < c → ∀ z, z = g_cn V s l (k + 1) → ∀ l5 l6, xX S (d + 1) 61 69 [.ref 6, .int s, .int l, .int (g_cn V s l k), .int (nI k), l5, l6] [.int z] V 0 0 (xq (some (.int (g_cn V s l c))) (xl_H xlay V)) := by
        intro h1 z hz l5 l6
        refine xx_istore_n e_G_codesWithNext_69 rfl rfl ?_
        refine xh_incN e_G_codesWithNext_70 rfl ?_
        refine xx_goto e_G_codesWithNext_73 ?_
        rw [hz]
        exact xh_fg 5 (xh_fg 6 (ih (c - (k + 1)) (by omega) (k + 1) rfl (by omega)))
      refine xx_iload e_G_codesWithNext_5 rfl ?_
      refine xx_aload_n e_G_codesWithNext_7 rfl rfl ?_
      refine xh_get e_G_codesWithNext_8 fg_G_41 rfl rfl ?_
      refine xx_icmp_ge e_G_codesWithNext_11 (fun q => ?_) (fun q => ?_)
      · have e1 : c ≤ k := (xle hc rfl (by omega) (by omega)).mp q
        refine xx_iload_n e_G_codesWithNext_76 rfl rfl ?_
        refine xx_iret e_G_codesWithNext_77 rfl rfl ?_
        rw [show k = c by omega]
        exact ⟨rfl, rfl⟩
      · have e1 : k < c := Nat.lt_of_not_le (fun z => q ((xle hc rfl (by omega) (by omega)).mpr z))
        refine xx_aload_n e_G_codesWithNext_14 rfl rfl ?_
        refine xh_getR e_G_codesWithNext_15 fg_G_15 rfl rfl ?_
        refine xx_iload e_G_codesWithNext_18 rfl ?_
        refine xh_ialN e_G_codesWithNext_20 rfl (by omega) ?_
        refine xx_iload_n e_G_codesWithNext_21 rfl rfl ?_
        refine xx_ishr e_G_codesWithNext_22 ?_
        refine xx_iconst (v := 1) e_G_codesWithNext_23 (by decide) ?_
        refine xx_iand e_G_codesWithNext_24 ?_
        refine xx_istore e_G_codesWithNext_25 rfl ?_
        refine xx_aload_n e_G_codesWithNext_27 rfl rfl ?_
        refine xx_iload_n e_G_codesWithNext_28 rfl rfl ?_
        refine xx_iload e_G_codesWithNext_29 rfl ?_
        refine xc_V2i e_G_codesWithNext_31 kv_G_120 (xl_obj rfl) (t_G_isExcited (by omega)) ?_
        refine xx_if_eq e_G_codesWithNext_34 (fun q34 => ?_) (fun q34 => ?_)
        · refine xx_iload e_G_codesWithNext_44 rfl ?_
          refine xx_istore e_G_codesWithNext_46 rfl ?_
          refine xx_iload_n e_G_codesWithNext_48 rfl rfl ?_
          refine xx_iload e_G_codesWithNext_49 rfl ?_
          refine xx_iload_n e_G_codesWithNext_51 rfl rfl ?_
          refine xx_icmp_ne e_G_codesWithNext_52 (fun q52 => ?_) (fun q52 => ?_)
          · refine xx_iconst (v := 0) e_G_codesWithNext_67 (by decide) ?_
            refine xx_ior e_G_codesWithNext_68 ?_
            exact nxt e1 _ (by simp only [g_cn, g_nx, ↓reduceIte, *]) _ _
          · refine xx_iconst (v := 1) e_G_codesWithNext_55 (by decide) ?_
            refine xx_aload_n e_G_codesWithNext_56 rfl rfl ?_
            refine xh_getR e_G_codesWithNext_57 fg_G_15 rfl rfl ?_
            refine xx_iload e_G_codesWithNext_60 rfl ?_
            refine xh_ialN e_G_codesWithNext_62 rfl (by omega) ?_
            refine xx_ishl e_G_codesWithNext_63 ?_
            refine xx_goto e_G_codesWithNext_64 ?_
            refine xx_ior e_G_codesWithNext_68 ?_
            exact nxt e1 _ (by simp only [g_cn, g_nx, ↓reduceIte, *]) _ _
        · refine xx_iconst (v := 1) e_G_codesWithNext_37 (by decide) ?_
          refine xx_iload e_G_codesWithNext_38 rfl ?_
          refine xx_isub e_G_codesWithNext_40 ?_
          refine xx_goto e_G_codesWithNext_41 ?_
          refine xx_istore e_G_codesWithNext_46 rfl ?_
          refine xx_iload_n e_G_codesWithNext_48 rfl rfl ?_
          refine xx_iload e_G_codesWithNext_49 rfl ?_
          refine xx_iload_n e_G_codesWithNext_51 rfl rfl ?_
          refine xx_icmp_ne e_G_codesWithNext_52 (fun q52 => ?_) (fun q52 => ?_)
          · refine xx_iconst (v := 0) e_G_codesWithNext_67 (by decide) ?_
            refine xx_ior e_G_codesWithNext_68 ?_
            exact nxt e1 _ (by simp only [g_cn, g_nx, ↓reduceIte, *]) _ _
          · refine xx_iconst (v := 1) e_G_codesWithNext_55 (by decide) ?_
            refine xx_aload_n e_G_codesWithNext_56 rfl rfl ?_
            refine xh_getR e_G_codesWithNext_57 fg_G_15 rfl rfl ?_
            refine xx_iload e_G_codesWithNext_60 rfl ?_
            refine xh_ialN e_G_codesWithNext_62 rfl (by omega) ?_
            refine xx_ishl e_G_codesWithNext_63 ?_
            refine xx_goto e_G_codesWithNext_64 ?_
            refine xx_ior e_G_codesWithNext_68 ?_
            exact nxt e1 _ (by simp only [g_cn, g_nx, ↓reduceIte, *]) _ _
  refine xx_iconst (v := 0) e_G_codesWithNext_0 (by decide) ?_
  refine xx_istore_n e_G_codesWithNext_1 rfl rfl ?_
  refine xx_iconst (v := 0) e_G_codesWithNext_2 (by decide) ?_
  refine xx_istore e_G_codesWithNext_3 rfl ?_
  exact loop _ 0 rfl (Nat.zero_le _)
end XGraph5
