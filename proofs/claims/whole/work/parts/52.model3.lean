/-! The reference: edges lost, what is bad, exploring. -/
section XModel3
variable {S : Nat × (Nat → Int32)} {V : xl_V} {d : Nat}
/-- where t leads from k -/
def m_to (V : xl_V) (c k t : Nat) : Nat := (xfnd (m_is V (m_mk V k t) (m_cd V k t)) c).getD 0
def m_inp (V : xl_V) (t : Nat) : Int32 := V.2.1 48 (V.2.1 50 t).toNatClampNeg
abbrev m_l0 (V : xl_V) (k t u : Nat) : Prop := ¬ m_en V k t = 0 ∧ ¬ m_en V k u = 0 ∧ m_se V t u = 0 ∧ (m_inp V t = 0 ∨ m_inp V u = 0)
def m_l1 (V : xl_V) (e c k t u : Nat) : Bool := decide (m_l0 V k t u ∧ m_ee V e (m_to V c k t) u = 0)
def m_l2 (V : xl_V) (e c k t : Nat) : Bool := (xfnd (m_l1 V e c k t) e).isSome
def m_ls (V : xl_V) (e c k : Nat) : Int32 := if (xfnd (m_l2 V e c k) e).isSome then 1 else 0
theorem t_M_loses {k e c : Nat} (he : V.1 47 4 = nI e) (h14 : e ≤ 14) (hc : V.1 47 13 = nI c) (h81 : c ≤ 81) (hk : k < c) (hsg : ∀ t, t < e → vp_in (V.2.1 50 t) 5)
    (hf : ∀ t, t < e → ¬ m_en V k t = 0 → ∃ j, xfnd (m_is V (m_mk V k t) (m_cd V k t)) c = some j) :
    xX S (d + 2) 118 0 (xa_ent 5 [.ref 47, .int (nI k)]) [] V 0 0 (xq (some (.int (m_ls V e c k))) (xl_H xlay V)) := by
  have hk8 : k < 81 := by omega
  have outer : ∀ n t, e - t = n → t ≤ e → (∀ i, i < t → m_l2 V e c k i = false) → ∀ l3 l4, xX S (d + 2) 118 2 [.ref 47, .int (nI k), .int (nI t), l3, l4] [] V 0 0 (xq (some (.int (m_ls V e c k))) (xl_H xlay V)) := by
    intro n
    induction n using Nat.strongRecOn with
    | ind n ih =>
      intro t hn ht hin l3 l4
      refine xx_iload_n e_M_loses_2 rfl rfl ?_
      refine xx_aload_n e_M_loses_3 rfl rfl ?_
      refine xh_get e_M_loses_4 fg_M_94 rfl rfl ?_
      refine xx_icmp_ge e_M_loses_7 (fun q => ?_) (fun q => ?_)
      · have e1 : e ≤ t := (xle he rfl (by omega) (by omega)).mp q
        refine xx_iconst (v := 0) e_M_loses_125 (by decide) ?_
        refine xx_iret e_M_loses_126 rfl rfl ?_
        unfold m_ls
        rw [xfnd_o (fun i hi => hin i (by omega))]
        exact ⟨rfl, rfl⟩
      · have e1 : t < e := Nat.lt_of_not_le (fun z => q ((xle he rfl (by omega) (by omega)).mpr z))
        have inner : ∀ m u, e - u = m → u ≤ e → (∀ i, i < u → m_l1 V e c k t i = false) → ∀ l4, xX S (d + 2) 118 12 [.ref 47, .int (nI k), .int (nI t), .int (nI u), l4] [] V 0 0 (xq (some (.int (m_ls V e c k))) (xl_H xlay V)) := by
          intro m
          induction m using Nat.strongRecOn with
          | ind m ih2 =>
            intro u hm hu hinu l4
            refine xx_iload_n e_M_loses_12 rfl rfl ?_
            refine xx_aload_n e_M_loses_13 rfl rfl ?_
            refine xh_get e_M_loses_14 fg_M_94 rfl rfl ?_
            refine xx_icmp_ge e_M_loses_17 (fun q => ?_) (fun q => ?_)
            · have e2 : e ≤ u := (xle he rfl (by omega) (by omega)).mp q
              refine xh_incN e_M_loses_119 rfl ?_
              refine xx_goto e_M_loses_122 ?_
              exact ih (e - (t + 1)) (by omega) (t + 1) rfl (by omega) (lt_s' hin (by unfold m_l2; rw [xfnd_o (fun i hi => hinu i (by omega))]; rfl)) _ _
            · have e2 : u < e := Nat.lt_of_not_le (fun z => q ((xle he rfl (by omega) (by omega)).mpr z))
              have nxt : m_l1 V e c k t u = false → ∀ l4, xX S (d + 2) 118 113 [.ref 47, .int (nI k), .int (nI t), .int (nI u), l4] [] V 0 0 (xq (some (.int (m_ls V e c k))) (xl_H xlay V)) := by
                intro h1 l4
                refine xh_incN e_M_loses_113 rfl ?_
                refine xx_goto e_M_loses_116 ?_
                exact ih2 (e - (u + 1)) (by omega) (u + 1) rfl (by omega) (lt_s' hinu h1) _
              have no : ¬ m_l0 V k t u → xX S (d + 2) 118 79 [.ref 47, .int (nI k), .int (nI t), .int (nI u), l4] [] V 0 0 (xq (some (.int (m_ls V e c k))) (xl_H xlay V)) := by
                intro h1
                refine xx_iconst (v := 0) e_M_loses_79 (by decide) ?_
                refine xx_istore e_M_loses_80 rfl ?_
                refine xx_iload e_M_loses_82 rfl ?_
                refine xx_if_eq e_M_loses_84 (fun _ => nxt (decide_eq_false (fun z => h1 z.1)) _) (fun q => absurd rfl q)
              have yes : m_l0 V k t u → xX S (d + 2) 118 75 [.ref 47, .int (nI k), .int (nI t), .int (nI u), l4] [] V 0 0 (xq (some (.int (m_ls V e c k))) (xl_H xlay V)) := by
                intro h1
                refine xx_iconst (v := 1) e_M_loses_75 (by decide) ?_
                refine xx_goto e_M_loses_76 ?_
                refine xx_istore e_M_loses_80 rfl ?_
                refine xx_iload e_M_loses_82 rfl ?_
                refine xx_if_eq e_M_loses_84 (fun q => absurd q (by decide)) (fun _ => ?_)
                obtain ⟨j, hj⟩ := hf t e1 h1.1
                have hjc := (xfnd_s hj).1
                have hto : m_to V c k t = j := by unfold m_to; rw [hj]; rfl
                refine xx_aload_n e_M_loses_87 rfl rfl ?_
                refine xx_aload_n e_M_loses_88 rfl rfl ?_
                refine xx_aload_n e_M_loses_89 rfl rfl ?_
                refine xx_iload_n e_M_loses_90 rfl rfl ?_
                refine xx_iload_n e_M_loses_91 rfl rfl ?_
                refine xc_V2i e_M_loses_92 kv_M_113 (xl_obj rfl) (t_M_markAfter hk8 (by omega)) ?_
                refine xx_aload_n e_M_loses_95 rfl rfl ?_
                refine xx_iload_n e_M_loses_96 rfl rfl ?_
                refine xx_iload_n e_M_loses_97 rfl rfl ?_
                refine xc_V2i e_M_loses_98 kv_M_117 (xl_obj rfl) (t_M_codeAfter hk8 (by omega)) ?_
                refine xc_V2i e_M_loses_101 kv_M_120 (xl_obj rfl) (t_M_find hc h81) ?_
                rw [hj]
                refine xx_iload_n e_M_loses_104 rfl rfl ?_
                refine xc_V2i e_M_loses_105 kv_M_126 (xl_obj rfl) (t_M_edgeEnabled (k := j) he h14 (by omega) (by omega)) ?_
                refine xx_if_ne e_M_loses_108 (fun q => nxt (decide_eq_false (fun z => q (by rw [← hto]; exact z.2))) _) (fun q => ?_)
                refine xx_iconst (v := 1) e_M_loses_111 (by decide) ?_
                refine xx_iret e_M_loses_112 rfl rfl ?_
                unfold m_ls
                rw [xfnd_i e1 (by unfold m_l2; rw [xfnd_i e2 (decide_eq_true ⟨h1, by rw [hto]; exact q⟩) hinu]; rfl) hin]
                exact ⟨rfl, rfl⟩
              refine xx_aload_n e_M_loses_20 rfl rfl ?_
              refine xx_iload_n e_M_loses_21 rfl rfl ?_
              refine xx_iload_n e_M_loses_22 rfl rfl ?_
              refine xc_V2i e_M_loses_23 kv_M_103 (xl_obj rfl) (t_M_enabled hk8 (by omega)) ?_
              refine xx_if_eq e_M_loses_26 (fun q1 => no (fun z => z.1 q1)) (fun q1 => ?_)
              refine xx_aload_n e_M_loses_29 rfl rfl ?_
              refine xx_iload_n e_M_loses_30 rfl rfl ?_
              refine xx_iload_n e_M_loses_31 rfl rfl ?_
              refine xc_V2i e_M_loses_32 kv_M_103 (xl_obj rfl) (t_M_enabled hk8 (by omega)) ?_
              refine xx_if_eq e_M_loses_35 (fun q2 => no (fun z => z.2.1 q2)) (fun q2 => ?_)
              refine xx_aload_n e_M_loses_38 rfl rfl ?_
              refine xx_iload_n e_M_loses_39 rfl rfl ?_
              refine xx_iload_n e_M_loses_40 rfl rfl ?_
              refine xc_V2i e_M_loses_41 kv_M_123 (xl_obj rfl) (t_M_sameEdge (by omega) (by omega)) ?_
              refine xx_if_ne e_M_loses_44 (fun q3 => no (fun z => q3 z.2.2.1)) (fun q3 => ?_)
              refine xx_aload_n e_M_loses_47 rfl rfl ?_
              refine xh_getR e_M_loses_48 fg_M_7 rfl rfl ?_
              refine xx_aload_n e_M_loses_51 rfl rfl ?_
              refine xh_getR e_M_loses_52 fg_M_16 rfl rfl ?_
              refine xx_iload_n e_M_loses_55 rfl rfl ?_
              refine xh_ialN e_M_loses_56 rfl (by omega) ?_
              refine xh_bald e_M_loses_57 rfl (hsg t e1) ?_
              refine xx_if_eq e_M_loses_58 (fun q4 => yes ⟨q1, q2, q3, .inl q4⟩) (fun q4 => ?_)
              refine xx_aload_n e_M_loses_61 rfl rfl ?_
              refine xh_getR e_M_loses_62 fg_M_7 rfl rfl ?_
              refine xx_aload_n e_M_loses_65 rfl rfl ?_
              refine xh_getR e_M_loses_66 fg_M_16 rfl rfl ?_
              refine xx_iload_n e_M_loses_69 rfl rfl ?_
              refine xh_ialN e_M_loses_70 rfl (by omega) ?_
              refine xh_bald e_M_loses_71 rfl (hsg u e2) ?_
              refine xx_if_ne e_M_loses_72 (fun q5 => no (fun z => z.2.2.2.elim q4 q5)) (fun q5 => yes ⟨q1, q2, q3, .inr q5⟩)
        refine xx_iconst (v := 0) e_M_loses_10 (by decide) ?_
        refine xx_istore_n e_M_loses_11 rfl rfl ?_
        exact inner _ 0 rfl (Nat.zero_le _) (fun i hi => absurd hi (Nat.not_lt_zero i)) _
  refine xx_iconst (v := 0) e_M_loses_0 (by decide) ?_
  refine xx_istore_n e_M_loses_1 rfl rfl ?_
  exact outer _ 0 rfl (Nat.zero_le _) (fun i hi => absurd hi (Nat.not_lt_zero i)) _ _
def m_b1 (V : xl_V) (v k t : Nat) : Bool := decide (¬ m_en V k t = 0 ∧ (if v = 1 then m_sf V k t else m_rt V k t) = 0)
def m_bd (V : xl_V) (e c v k : Nat) : Int32 := if v < 3 then (if (xfnd (m_b1 V v k) e).isSome then 1 else 0) else if v = 3 then m_ls V e c k else if m_cf V e k = 0 then 0 else 1
theorem m_nb {z : Int32} (h : z = 0 ∨ z = 1) : narrow .boolean (.int z) = .int z := by rcases h with h | h <;> rw [h] <;> rfl
theorem m_ls_b (V : xl_V) (e c k : Nat) : m_ls V e c k = 0 ∨ m_ls V e c k = 1 := by unfold m_ls; split; exact .inr rfl; exact .inl rfl
theorem t_M_bad {v k e c : Nat} (he : V.1 47 4 = nI e) (h14 : e ≤ 14) (hc : V.1 47 13 = nI c) (h81 : c ≤ 81) (hk : k < c) (hsg : ∀ t, t < e → vp_in (V.2.1 50 t) 5) (hv : v < 5)
    (hf : v = 3 → ∀ t, t < e → ¬ m_en V k t = 0 → ∃ j, xfnd (m_is V (m_mk V k t) (m_cd V k t)) c = some j) (hv0 : v ≠ 0) :
    xX S (d + 3) 117 0 (xa_ent 4 [.ref 47, .int (nI v), .int (nI k)]) [] V 0 0 (xq (some (.int (m_bd V e c v k))) (xl_H xlay V)) := by
  have hk8 : k < 81 := by omega
  have tail : (v < 3 → xfnd (m_b1 V v k) e = none) → ∀ l3, xX S (d + 3) 117 58 [.ref 47, .int (nI v), .int (nI k), l3] [] V 0 0 (xq (some (.int (m_bd V e c v k))) (xl_H xlay V)) := by
    intro h1 l3
    refine xx_iload_n e_M_bad_58 rfl rfl ?_
    refine xx_iconst (v := 3) e_M_bad_59 (by decide) ?_
    refine xx_icmp_ne e_M_bad_60 (fun q => ?_) (fun q => ?_)
    · have e1 : v ≠ 3 := fun z => q ((xeq (b := 3) rfl rfl (by omega) (by decide)).mpr z)
      refine xx_iload_n e_M_bad_71 rfl rfl ?_
      refine xx_iconst (v := 4) e_M_bad_72 (by decide) ?_
      refine xx_icmp_ne e_M_bad_73 (fun q1 => ?_) (fun q1 => ?_)
      · have e2 : v ≠ 4 := fun z => q1 ((xeq (b := 4) rfl rfl (by omega) (by decide)).mpr z)
        have e3 : v < 3 := by omega
        refine xx_iconst (v := 0) e_M_bad_88 (by decide) ?_
        refine xx_iret e_M_bad_89 rfl rfl ?_
        unfold m_bd
        rw [if_pos e3, h1 e3]
        exact ⟨rfl, rfl⟩
      · have e2 : v = 4 := (xeq (b := 4) rfl rfl (by omega) (by decide)).mp q1
        have e3 : ¬ v < 3 := by omega
        refine xx_aload_n e_M_bad_76 rfl rfl ?_
        refine xx_iload_n e_M_bad_77 rfl rfl ?_
        refine xc_V1i e_M_bad_78 kv_M_136 (xl_obj rfl) (t_M_conflicts he h14 hk8 hsg) ?_
        refine xx_if_eq e_M_bad_81 (fun q2 => ?_) (fun q2 => ?_)
        · skip
          refine xx_iconst (v := 0) e_M_bad_88 (by decide) ?_
          refine xx_iret e_M_bad_89 rfl rfl ?_
          unfold m_bd
          rw [if_neg e3, if_neg e1, if_pos q2]
          exact ⟨rfl, rfl⟩
        · skip
          refine xx_iconst (v := 1) e_M_bad_84 (by decide) ?_
          refine xx_goto e_M_bad_85 ?_
          refine xx_iret e_M_bad_89 rfl rfl ?_
          unfold m_bd
          rw [if_neg e3, if_neg e1, if_neg q2]
          exact ⟨rfl, rfl⟩
    · have e1 : v = 3 := (xeq (b := 3) rfl rfl (by omega) (by decide)).mp q
      refine xx_aload_n e_M_bad_63 rfl rfl ?_
      refine xx_iload_n e_M_bad_64 rfl rfl ?_
      refine xc_V1i e_M_bad_65 kv_M_133 (xl_obj rfl) (t_M_loses he h14 hc h81 hk hsg (hf e1)) ?_
      refine xx_goto e_M_bad_68 ?_
      refine xx_iret e_M_bad_89 rfl (m_nb (m_ls_b V e c k)) ?_
      unfold m_bd
      rw [if_neg (by omega), if_pos e1]
      exact ⟨rfl, rfl⟩
  have loop : ∀ n t, e - t = n → t ≤ e → (v < 3 → ∀ i, i < t → m_b1 V v k i = false) → xX S (d + 3) 117 2 [.ref 47, .int (nI v), .int (nI k), .int (nI t)] [] V 0 0 (xq (some (.int (m_bd V e c v k))) (xl_H xlay V)) := by
    intro n
    induction n using Nat.strongRecOn with
    | ind n ih =>
      intro t hn ht hin
      refine xx_iload_n e_M_bad_2 rfl rfl ?_
      refine xx_aload_n e_M_bad_3 rfl rfl ?_
      refine xh_get e_M_bad_4 fg_M_94 rfl rfl ?_
      refine xx_icmp_ge e_M_bad_7 (fun q => ?_) (fun q => ?_)
      · have e1 : e ≤ t := (xle he rfl (by omega) (by omega)).mp q
        exact tail (fun h => xfnd_o (fun i hi => hin h i (by omega))) _
      · have e1 : t < e := Nat.lt_of_not_le (fun z => q ((xle he rfl (by omega) (by omega)).mpr z))
        refine xx_iload_n e_M_bad_10 rfl rfl ?_
        refine xx_iconst (v := 3) e_M_bad_11 (by decide) ?_
        refine xx_icmp_ge e_M_bad_12 (fun q1 => ?_) (fun q1 => ?_)
        · have e2 : 3 ≤ v := (xle (a := 3) rfl rfl (by decide) (by omega)).mp q1
          exact tail (fun h => by omega) _
        · have e2 : v < 3 := Nat.lt_of_not_le (fun z => q1 ((xle (a := 3) rfl rfl (by decide) (by omega)).mpr z))
          have nxt : m_b1 V v k t = false → xX S (d + 3) 117 52 [.ref 47, .int (nI v), .int (nI k), .int (nI t)] [] V 0 0 (xq (some (.int (m_bd V e c v k))) (xl_H xlay V)) := by
            intro h1
            refine xh_incN e_M_bad_52 rfl ?_
            refine xx_goto e_M_bad_55 ?_
            exact ih (e - (t + 1)) (by omega) (t + 1) rfl (by omega) (fun h => lt_s' (hin h) h1)
          have yes : m_b1 V v k t = true → xX S (d + 3) 117 50 [.ref 47, .int (nI v), .int (nI k), .int (nI t)] [] V 0 0 (xq (some (.int (m_bd V e c v k))) (xl_H xlay V)) := by
            intro h1
            refine xx_iconst (v := 1) e_M_bad_50 (by decide) ?_
            refine xx_iret e_M_bad_51 rfl rfl ?_
            unfold m_bd
            rw [if_pos e2, xfnd_i e1 h1 (hin e2)]
            exact ⟨rfl, rfl⟩
          refine xx_aload_n e_M_bad_15 rfl rfl ?_
          refine xx_iload_n e_M_bad_16 rfl rfl ?_
          refine xx_iload_n e_M_bad_17 rfl rfl ?_
          refine xc_V2i e_M_bad_18 kv_M_103 (xl_obj rfl) (t_M_enabled hk8 (by omega)) ?_
          refine xx_if_eq e_M_bad_21 (fun q2 => nxt (decide_eq_false (fun z => z.1 q2))) (fun q2 => ?_)
          refine xx_iload_n e_M_bad_24 rfl rfl ?_
          refine xx_iconst (v := 1) e_M_bad_25 (by decide) ?_
          refine xx_icmp_ne e_M_bad_26 (fun q3 => ?_) (fun q3 => ?_)
          · have e3 : v ≠ 1 := fun z => q3 ((xeq (b := 1) rfl rfl (by omega) (by decide)).mpr z)
            refine xx_aload_n e_M_bad_41 rfl rfl ?_
            refine xx_iload_n e_M_bad_42 rfl rfl ?_
            refine xx_iload_n e_M_bad_43 rfl rfl ?_
            refine xc_V2i e_M_bad_44 kv_M_110 (xl_obj rfl) (t_M_right hk8 (by omega)) ?_
            refine xx_if_ne e_M_bad_47 (fun q4 => nxt (decide_eq_false (fun z => q4 (by have := z.2; rw [if_neg e3] at this; exact this)))) (fun q4 => yes (decide_eq_true ⟨q2, by rw [if_neg e3]; exact q4⟩))
          · have e3 : v = 1 := (xeq (b := 1) rfl rfl (by omega) (by decide)).mp q3
            refine xx_aload_n e_M_bad_29 rfl rfl ?_
            refine xx_iload_n e_M_bad_30 rfl rfl ?_
            refine xx_iload_n e_M_bad_31 rfl rfl ?_
            refine xc_V2i e_M_bad_32 kv_M_107 (xl_obj rfl) (t_M_safe hk8 (by omega)) ?_
            refine xx_if_ne e_M_bad_35 (fun q4 => nxt (decide_eq_false (fun z => q4 (by have := z.2; rw [if_pos e3] at this; exact this)))) (fun q4 => ?_)
            refine xx_goto e_M_bad_38 ?_
            exact yes (decide_eq_true ⟨q2, by rw [if_pos e3]; exact q4⟩)
  refine xx_iconst (v := 0) e_M_bad_0 (by decide) ?_
  refine xx_istore_n e_M_bad_1 rfl rfl ?_
  exact loop _ 0 rfl (Nat.zero_le _) (fun _ i hi => absurd hi (Nat.not_lt_zero i))
end XModel3
