/-! The circuit: faults, reached states. -/
section XCirc2
variable {S : Nat × (Nat → Int32)} {V : xl_V} {d : Nat}
def c_f1 (V : xl_V) (w e k s : Nat) : Int32 := if c_ac V w s (V.2.1 8 k) = 0 then 0 else if c_ms V w e k s = 0 then 0 else 1
def c_f2 (V : xl_V) (w k s : Nat) : Int32 := if c_ac V w s (V.2.1 8 k) = 0 then 0 else if g_ex V (nI s) k = 0 then 1 else 0
def c_f3 (V : xl_V) (w k s : Nat) : Int32 := if c_ac V w s (V.2.1 8 k) = 0 then (if g_ex V (nI s) k = 0 then 0 else 1) else 0
theorem t_Ci_isFaulty1 {w k s e : Nat} (hw : c_ok V w) (hk : k < 80) (hs : s < 5) (he : V.1 1 1 = nI e) (h14 : e ≤ 14) (hsg : ∀ t, t < e → ∃ s, s < 5 ∧ V.2.1 2 t = nI s) (hsc : ∀ t, t < e → ¬ V.2.1 12 (k * 14 + t) = -1 → vp_in (V.2.1 12 (k * 14 + t)) 80) :
    xX S (d + 3) 98 0 (xa_ent 7 [.ref 13, .ref 1, .ref 6, .int (nI k), .int (nI s), .int 1]) [] V 0 0 (xq (some (.int (c_f1 V w e k s))) (xl_H xlay V)) := by
  refine xx_aload_n e_Ci_isFaulty_0 rfl rfl ?_
  refine xx_iload e_Ci_isFaulty_1 rfl ?_
  refine xx_aload_n e_Ci_isFaulty_3 rfl rfl ?_
  refine xh_getR e_Ci_isFaulty_4 fg_Ci_74 rfl rfl ?_
  refine xx_iload_n e_Ci_isFaulty_7 rfl rfl ?_
  refine xh_ialN e_Ci_isFaulty_8 rfl (by omega) ?_
  refine xc_V2i e_Ci_isFaulty_9 kv_Ci_93 (xl_obj rfl) (t_Ci_acts hw hs) ?_
  refine xx_istore e_Ci_isFaulty_12 rfl ?_
  refine xx_iload e_Ci_isFaulty_14 rfl ?_
  refine xx_lookup (off := 28) (tgt := 44) e_Ci_isFaulty_16 (by decide) (by decide) (by decide) ?_
  refine xx_iload e_Ci_isFaulty_44 rfl ?_
  refine xx_if_eq e_Ci_isFaulty_46 (fun q46 => ?_) (fun q46 => ?_)
  · refine xx_iconst (v := 0) e_Ci_isFaulty_65 (by decide) ?_
    refine xx_iret e_Ci_isFaulty_66 rfl rfl ?_
    exact ⟨by simp only [c_f1, ↓reduceIte, *], rfl⟩
  · refine xx_aload_n e_Ci_isFaulty_49 rfl rfl ?_
    refine xx_aload_n e_Ci_isFaulty_50 rfl rfl ?_
    refine xx_aload_n e_Ci_isFaulty_51 rfl rfl ?_
    refine xx_iload_n e_Ci_isFaulty_52 rfl rfl ?_
    refine xx_iload e_Ci_isFaulty_53 rfl ?_
    refine xc_V4i e_Ci_isFaulty_55 kv_Ci_97 (xl_obj rfl) (t_Ci_mayStopActing hw hk hs he h14 hsg hsc) ?_
    refine xx_if_eq e_Ci_isFaulty_58 (fun q58 => ?_) (fun q58 => ?_)
    · refine xx_iconst (v := 0) e_Ci_isFaulty_65 (by decide) ?_
      refine xx_iret e_Ci_isFaulty_66 rfl rfl ?_
      exact ⟨by simp only [c_f1, ↓reduceIte, *], rfl⟩
    · refine xx_iconst (v := 1) e_Ci_isFaulty_61 (by decide) ?_
      refine xx_goto e_Ci_isFaulty_62 ?_
      refine xx_iret e_Ci_isFaulty_66 rfl rfl ?_
      exact ⟨by simp only [c_f1, ↓reduceIte, *], rfl⟩
theorem t_Ci_isFaulty2 {w k s : Nat} (hw : c_ok V w) (hk : k < 80) (hs : s < 5) :
    xX S (d + 3) 98 0 (xa_ent 7 [.ref 13, .ref 1, .ref 6, .int (nI k), .int (nI s), .int 2]) [] V 0 0 (xq (some (.int (c_f2 V w k s))) (xl_H xlay V)) := by
  refine xx_aload_n e_Ci_isFaulty_0 rfl rfl ?_
  refine xx_iload e_Ci_isFaulty_1 rfl ?_
  refine xx_aload_n e_Ci_isFaulty_3 rfl rfl ?_
  refine xh_getR e_Ci_isFaulty_4 fg_Ci_74 rfl rfl ?_
  refine xx_iload_n e_Ci_isFaulty_7 rfl rfl ?_
  refine xh_ialN e_Ci_isFaulty_8 rfl (by omega) ?_
  refine xc_V2i e_Ci_isFaulty_9 kv_Ci_93 (xl_obj rfl) (t_Ci_acts hw hs) ?_
  refine xx_istore e_Ci_isFaulty_12 rfl ?_
  refine xx_iload e_Ci_isFaulty_14 rfl ?_
  refine xx_lookup (off := 51) (tgt := 67) e_Ci_isFaulty_16 (by decide) (by decide) (by decide) ?_
  refine xx_iload e_Ci_isFaulty_67 rfl ?_
  refine xx_if_eq e_Ci_isFaulty_69 (fun q69 => ?_) (fun q69 => ?_)
  · refine xx_iconst (v := 0) e_Ci_isFaulty_86 (by decide) ?_
    refine xx_iret e_Ci_isFaulty_87 rfl rfl ?_
    exact ⟨by simp only [c_f2, ↓reduceIte, *], rfl⟩
  · refine xx_aload_n e_Ci_isFaulty_72 rfl rfl ?_
    refine xx_iload e_Ci_isFaulty_73 rfl ?_
    refine xx_iload_n e_Ci_isFaulty_75 rfl rfl ?_
    refine xc_V2i e_Ci_isFaulty_76 kv_Ci_100 (xl_obj rfl) (t_G_isExcited hk) ?_
    refine xx_if_ne e_Ci_isFaulty_79 (fun q79 => ?_) (fun q79 => ?_)
    · refine xx_iconst (v := 0) e_Ci_isFaulty_86 (by decide) ?_
      refine xx_iret e_Ci_isFaulty_87 rfl rfl ?_
      exact ⟨by simp only [c_f2, ↓reduceIte, *], rfl⟩
    · refine xx_iconst (v := 1) e_Ci_isFaulty_82 (by decide) ?_
      refine xx_goto e_Ci_isFaulty_83 ?_
      refine xx_iret e_Ci_isFaulty_87 rfl rfl ?_
      exact ⟨by simp only [c_f2, ↓reduceIte, *], rfl⟩
theorem t_Ci_isFaulty3 {w k s : Nat} (hw : c_ok V w) (hk : k < 80) (hs : s < 5) :
    xX S (d + 3) 98 0 (xa_ent 7 [.ref 13, .ref 1, .ref 6, .int (nI k), .int (nI s), .int 3]) [] V 0 0 (xq (some (.int (c_f3 V w k s))) (xl_H xlay V)) := by
  refine xx_aload_n e_Ci_isFaulty_0 rfl rfl ?_
  refine xx_iload e_Ci_isFaulty_1 rfl ?_
  refine xx_aload_n e_Ci_isFaulty_3 rfl rfl ?_
  refine xh_getR e_Ci_isFaulty_4 fg_Ci_74 rfl rfl ?_
  refine xx_iload_n e_Ci_isFaulty_7 rfl rfl ?_
  refine xh_ialN e_Ci_isFaulty_8 rfl (by omega) ?_
  refine xc_V2i e_Ci_isFaulty_9 kv_Ci_93 (xl_obj rfl) (t_Ci_acts hw hs) ?_
  refine xx_istore e_Ci_isFaulty_12 rfl ?_
  refine xx_iload e_Ci_isFaulty_14 rfl ?_
  refine xx_lookup (off := 72) (tgt := 88) e_Ci_isFaulty_16 (by decide) (by decide) (by decide) ?_
  refine xx_iload e_Ci_isFaulty_88 rfl ?_
  refine xx_if_ne e_Ci_isFaulty_90 (fun q90 => ?_) (fun q90 => ?_)
  · refine xx_iconst (v := 0) e_Ci_isFaulty_107 (by decide) ?_
    refine xx_iret e_Ci_isFaulty_108 rfl rfl ?_
    exact ⟨by simp only [c_f3, ↓reduceIte, *], rfl⟩
  · refine xx_aload_n e_Ci_isFaulty_93 rfl rfl ?_
    refine xx_iload e_Ci_isFaulty_94 rfl ?_
    refine xx_iload_n e_Ci_isFaulty_96 rfl rfl ?_
    refine xc_V2i e_Ci_isFaulty_97 kv_Ci_100 (xl_obj rfl) (t_G_isExcited hk) ?_
    refine xx_if_eq e_Ci_isFaulty_100 (fun q100 => ?_) (fun q100 => ?_)
    · refine xx_iconst (v := 0) e_Ci_isFaulty_107 (by decide) ?_
      refine xx_iret e_Ci_isFaulty_108 rfl rfl ?_
      exact ⟨by simp only [c_f3, ↓reduceIte, *], rfl⟩
    · refine xx_iconst (v := 1) e_Ci_isFaulty_103 (by decide) ?_
      refine xx_goto e_Ci_isFaulty_104 ?_
      refine xx_iret e_Ci_isFaulty_108 rfl rfl ?_
      exact ⟨by simp only [c_f3, ↓reduceIte, *], rfl⟩
def c_fs (V : xl_V) (F : Nat → Nat → Int32) (k s : Nat) : Bool := decide (¬ V.2.1 16 k = 0 ∧ n_in V (nI s) = 0 ∧ ¬ F k s = 0)
def c_fk (V : xl_V) (F : Nat → Nat → Int32) (n k : Nat) : Bool := (xfnd (c_fs V F k) n).isSome
theorem t_Ci_leastFaultyState {c n : Nat} {kd : Int32} {F : Nat → Nat → Int32} (hc : V.1 6 0 = nI c) (h80 : c ≤ 80) (hn : V.1 1 0 = nI n) (h5 : n ≤ 5)
    (hF : ∀ k s, k < c → s < n → xX S (d + 3) 98 0 (xa_ent 7 [.ref 13, .ref 1, .ref 6, .int (nI k), .int (nI s), .int kd]) [] V 0 0 (xq (some (.int (F k s))) (xl_H xlay V))) :
    xX S (d + 4) 97 0 (xa_ent 6 [.ref 13, .ref 1, .ref 6, .int kd]) [] V 0 0 (xq (some (.int (g_io (xfnd (c_fk V F n) c)))) (xl_H xlay V)) := by
  have outer : ∀ m k, c - k = m → k ≤ c → (∀ i, i < k → c_fk V F n i = false) → xX S (d + 4) 97 3 [.ref 13, .ref 1, .ref 6, .int kd, .int (nI k), xa_j] [] V 0 0 (xq (some (.int (g_io (xfnd (c_fk V F n) c)))) (xl_H xlay V)) := by
    intro m
    induction m using Nat.strongRecOn with
    | ind m ih =>
      intro k hm hk hin
      have inner : ∀ m2 s, n - s = m2 → s ≤ n → k < c → (∀ i, i < s → c_fs V F k i = false) → xX S (d + 4) 97 15 [.ref 13, .ref 1, .ref 6, .int kd, .int (nI k), .int (nI s)] [] V 0 0 (xq (some (.int (g_io (xfnd (c_fk V F n) c)))) (xl_H xlay V)) := by
        intro m2
        induction m2 using Nat.strongRecOn with
        | ind m2 ih2 =>
          intro s hm2 hs hkc hin2
          have nxt : s < n → c_fs V F k s = false → xX S (d + 4) 97 60 [.ref 13, .ref 1, .ref 6, .int kd, .int (nI k), .int (nI s)] [] V 0 0 (xq (some (.int (g_io (xfnd (c_fk V F n) c)))) (xl_H xlay V)) := by
            intro h1 h2
            refine xh_incN e_Ci_leastFaultyState_60 rfl ?_
            refine xx_goto e_Ci_leastFaultyState_63 ?_
            exact ih2 (n - (s + 1)) (by omega) (s + 1) rfl (by omega) hkc (lt_s' hin2 h2)
          refine xx_iload e_Ci_leastFaultyState_15 rfl ?_
          refine xx_aload_n e_Ci_leastFaultyState_17 rfl rfl ?_
          refine xh_get e_Ci_leastFaultyState_18 fg_Ci_86 rfl rfl ?_
          refine xx_icmp_ge e_Ci_leastFaultyState_21 (fun q => ?_) (fun q => ?_)
          · have e1 : n ≤ s := (xle hn rfl (by omega) (by omega)).mp q
            refine xh_incN e_Ci_leastFaultyState_66 rfl ?_
            refine xx_goto e_Ci_leastFaultyState_69 ?_
            refine xh_fg 5 ?_
            refine ih (c - (k + 1)) (by omega) (k + 1) rfl (by omega) (lt_s' hin ?_)
            unfold c_fk
            rw [xfnd_o (fun i hi => hin2 i (by omega))]
            rfl
          · have e1 : s < n := Nat.lt_of_not_le (fun z => q ((xle hn rfl (by omega) (by omega)).mpr z))
            refine xx_aload_n e_Ci_leastFaultyState_24 rfl rfl ?_
            refine xh_getR e_Ci_leastFaultyState_25 fg_Ci_20 rfl rfl ?_
            refine xx_iload e_Ci_leastFaultyState_28 rfl ?_
            refine xh_balN e_Ci_leastFaultyState_30 rfl (by omega) ?_
            refine xx_if_eq e_Ci_leastFaultyState_31 (fun q1 => nxt e1 (decide_eq_false (fun z => z.1 q1))) (fun q1 => ?_)
            refine xx_aload_n e_Ci_leastFaultyState_34 rfl rfl ?_
            refine xx_iload e_Ci_leastFaultyState_35 rfl ?_
            refine xc_V1i e_Ci_leastFaultyState_37 kv_Ci_70 (xl_obj rfl) (t_N_isInput) ?_
            refine xx_if_ne e_Ci_leastFaultyState_40 (fun q2 => nxt e1 (decide_eq_false (fun z => q2 z.2.1))) (fun q2 => ?_)
            refine xx_aload_n e_Ci_leastFaultyState_43 rfl rfl ?_
            refine xx_aload_n e_Ci_leastFaultyState_44 rfl rfl ?_
            refine xx_aload_n e_Ci_leastFaultyState_45 rfl rfl ?_
            refine xx_iload e_Ci_leastFaultyState_46 rfl ?_
            refine xx_iload e_Ci_leastFaultyState_48 rfl ?_
            refine xx_iload_n e_Ci_leastFaultyState_50 rfl rfl ?_
            refine xc_V5i e_Ci_leastFaultyState_51 kv_Ci_89 (xl_obj rfl) (hF k s hkc e1) ?_
            refine xx_if_eq e_Ci_leastFaultyState_54 (fun q3 => nxt e1 (decide_eq_false (fun z => z.2.2 q3))) (fun q3 => ?_)
            refine xx_iload e_Ci_leastFaultyState_57 rfl ?_
            refine xx_iret e_Ci_leastFaultyState_59 rfl rfl ?_
            have e2 : xfnd (c_fs V F k) n = some s := xfnd_i e1 (decide_eq_true ⟨q1, q2, q3⟩) hin2
            have e3 : xfnd (c_fk V F n) c = some k := xfnd_i hkc (by unfold c_fk; rw [e2]; rfl) hin
            rw [e3]
            exact ⟨rfl, rfl⟩
      refine xx_iload e_Ci_leastFaultyState_3 rfl ?_
      refine xx_aload_n e_Ci_leastFaultyState_5 rfl rfl ?_
      refine xh_get e_Ci_leastFaultyState_6 fg_Ci_83 rfl rfl ?_
      refine xx_icmp_ge e_Ci_leastFaultyState_9 (fun q => ?_) (fun q => ?_)
      · have e1 : c ≤ k := (xle hc rfl (by omega) (by omega)).mp q
        refine xx_iconst (v := (-1)) e_Ci_leastFaultyState_72 (by decide) ?_
        refine xx_iret e_Ci_leastFaultyState_73 rfl rfl ?_
        rw [xfnd_o (fun i hi => hin i (by omega))]
        exact ⟨rfl, rfl⟩
      · have e1 : k < c := Nat.lt_of_not_le (fun z => q ((xle hc rfl (by omega) (by omega)).mpr z))
        refine xx_iconst (v := 0) e_Ci_leastFaultyState_12 (by decide) ?_
        refine xx_istore e_Ci_leastFaultyState_13 rfl ?_
        exact inner _ 0 rfl (Nat.zero_le _) e1 (fun i hi => absurd hi (Nat.not_lt_zero i))
  refine xx_iconst (v := 0) e_Ci_leastFaultyState_0 (by decide) ?_
  refine xx_istore e_Ci_leastFaultyState_1 rfl ?_
  exact outer _ 0 rfl (Nat.zero_le _) (fun i hi => absurd hi (Nat.not_lt_zero i))
def c_re (V : xl_V) (k : Nat) : xl_V := if V.2.1 16 k = 0 then xl_i (xl_a (xl_a V 16 (upd (V.2.1 16) k 1)) 17 (upd (V.2.1 17) (V.1 13 5).toNatClampNeg (nI k))) 13 5 (V.1 13 5 + 1) else V
theorem t_Ci_reach {k : Nat} (hk : k < 80) (hq : V.2.1 16 k = 0 → vp_in (V.1 13 5) 80) : xX S d 95 0 (xa_ent 2 [.ref 13, .int (nI k)]) [] V 0 0 (xq none (xl_H xlay (c_re V k))) := by
  refine xx_aload_n e_Ci_reach_0 rfl rfl ?_
  refine xh_getR e_Ci_reach_1 fg_Ci_20 rfl rfl ?_
  refine xx_iload_n e_Ci_reach_4 rfl rfl ?_
  refine xh_balN e_Ci_reach_5 rfl (by omega) ?_
  refine xx_if_ne e_Ci_reach_6 (fun q => ?_) (fun q => ?_)
  · skip
    refine xx_vret e_Ci_reach_36 rfl ?_
    unfold c_re
    rw [if_neg q]
    exact ⟨rfl, rfl⟩
  · skip
    refine xx_aload_n e_Ci_reach_9 rfl rfl ?_
    refine xh_getR e_Ci_reach_10 fg_Ci_20 rfl rfl ?_
    refine xx_iload_n e_Ci_reach_13 rfl rfl ?_
    refine xx_iconst (v := 1) e_Ci_reach_14 (by decide) ?_
    refine xh_basN e_Ci_reach_15 rfl (by omega) ?_
    refine xx_aload_n e_Ci_reach_16 rfl rfl ?_
    refine xh_getR e_Ci_reach_17 fg_Ci_24 rfl rfl ?_
    refine xx_aload_n e_Ci_reach_20 rfl rfl ?_
    refine xh_get e_Ci_reach_21 fg_Ci_44 rfl rfl ?_
    refine xx_iload_n e_Ci_reach_24 rfl rfl ?_
    refine xh_iast e_Ci_reach_25 rfl (hq q) ?_
    refine xx_aload_n e_Ci_reach_26 rfl rfl ?_
    refine xx_dup e_Ci_reach_27 rfl ?_
    refine xh_get e_Ci_reach_28 fg_Ci_44 rfl rfl ?_
    refine xx_iconst (v := 1) e_Ci_reach_31 (by decide) ?_
    refine xx_iadd e_Ci_reach_32 ?_
    refine xh_put e_Ci_reach_33 fp_Ci_44 rfl rfl ⟨rfl, rfl⟩ ?_
    refine xx_vret e_Ci_reach_36 rfl ?_
    unfold c_re
    rw [if_pos q]
    exact ⟨rfl, rfl⟩
end XCirc2
