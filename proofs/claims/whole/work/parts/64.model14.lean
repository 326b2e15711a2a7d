/-! The reference: hazards, what is unexpected, what is missing; checking. -/
section XModel14
variable {S : Nat × (Nat → Int32)} {V : xl_V} {d : Nat}
def m_us (V : xl_V) (sg : Nat) (G : Nat → List Nat) (e k s : Nat) : Bool := decide (¬ m_ac V sg G k s = 0 ∧ (m_ex V k e >>> (nI s &&& 31)) &&& 1 = 0)
def m_un (V : xl_V) (sg : Nat) (G : Nat → List Nat) (e k : Nat) : Int32 := if (xfnd (m_us V sg G e k) sg).isSome then 1 else 0
theorem t_M_unexpected {k e sg : Nat} {G : Nat → List Nat} (he : V.1 47 4 = nI e) (h14 : e ≤ 14) (hs : V.1 47 1 = nI sg) (h5 : sg ≤ 5) (hG : m_go V sg G) (hk : k < 81) (hsg : ∀ t, t < e → vp_in (V.2.1 50 t) 5) : xX S (d + 4) 153 0 (xa_ent 3 [.ref 47, .int (nI k)]) [] V 0 0 (xq (some (.int (m_un V sg G e k))) (xl_H xlay V)) := by
  have loop : ∀ n s, sg - s = n → s ≤ sg → (∀ i, i < s → m_us V sg G e k i = false) → xX S (d + 4) 153 2 [.ref 47, .int (nI k), .int (nI s)] [] V 0 0 (xq (some (.int (m_un V sg G e k))) (xl_H xlay V)) := by
    intro n
    induction n using Nat.strongRecOn with
    | ind n ih =>
      intro s hn hsl hin
      have nxt : s < sg → m_us V sg G e k s = false → xX S (d + 4) 153 33 [.ref 47, .int (nI k), .int (nI s)] [] V 0 0 (xq (some (.int (m_un V sg G e k))) (xl_H xlay V)) := by
        intro h1 h2
        refine xh_incN e_M_unexpected_33 rfl ?_
        refine xx_goto e_M_unexpected_36 ?_
        exact ih (sg - (s + 1)) (by omega) (s + 1) rfl (by omega) (lt_s' hin h2)
      refine xx_iload_n e_M_unexpected_2 rfl rfl ?_
      refine xx_aload_n e_M_unexpected_3 rfl rfl ?_
      refine xh_get e_M_unexpected_4 fg_M_84 rfl rfl ?_
      refine xx_icmp_ge e_M_unexpected_7 (fun q => ?_) (fun q => ?_)
      · have e1 : sg ≤ s := (xle hs rfl (by omega) (by omega)).mp q
        refine xx_iconst (v := 0) e_M_unexpected_39 (by decide) ?_
        refine xx_iret e_M_unexpected_40 rfl rfl ?_
        unfold m_un
        rw [xfnd_o (fun i hi => hin i (by omega))]
        exact ⟨rfl, rfl⟩
      · have e1 : s < sg := Nat.lt_of_not_le (fun z => q ((xle hs rfl (by omega) (by omega)).mpr z))
        refine xx_aload_n e_M_unexpected_10 rfl rfl ?_
        refine xx_iload_n e_M_unexpected_11 rfl rfl ?_
        refine xx_iload_n e_M_unexpected_12 rfl rfl ?_
        refine xc_V2i e_M_unexpected_13 kv_M_194 (xl_obj rfl) (t_M_acts hs h5 hG hk e1) ?_
        refine xx_if_eq e_M_unexpected_16 (fun q1 => nxt e1 (decide_eq_false (fun z => z.1 q1))) (fun q1 => ?_)
        refine xx_aload_n e_M_unexpected_19 rfl rfl ?_
        refine xx_iload_n e_M_unexpected_20 rfl rfl ?_
        refine xc_V1i e_M_unexpected_21 kv_M_129 (xl_obj rfl) (t_M_excitedIn he h14 hk hsg) ?_
        refine xx_iload_n e_M_unexpected_24 rfl rfl ?_
        refine xx_ishr e_M_unexpected_25 ?_
        refine xx_iconst (v := 1) e_M_unexpected_26 (by decide) ?_
        refine xx_iand e_M_unexpected_27 ?_
        refine xx_if_ne e_M_unexpected_28 (fun q2 => nxt e1 (decide_eq_false (fun z => q2 z.2))) (fun q2 => ?_)
        refine xx_iconst (v := 1) e_M_unexpected_31 (by decide) ?_
        refine xx_iret e_M_unexpected_32 rfl rfl ?_
        unfold m_un
        rw [xfnd_i e1 (decide_eq_true ⟨q1, q2⟩) hin]
        exact ⟨rfl, rfl⟩
  refine xx_iconst (v := 0) e_M_unexpected_0 (by decide) ?_
  refine xx_istore_n e_M_unexpected_1 rfl rfl ?_
  exact loop _ 0 rfl (Nat.zero_le _) (fun i hi => absurd hi (Nat.not_lt_zero i))
def m_mss (V : xl_V) (sg : Nat) (G : Nat → List Nat) (e k s : Nat) : Bool := decide ((m_ex V k e >>> (nI s &&& 31)) &&& 1 = 1 ∧ m_ac V sg G k s = 0)
def m_mi (V : xl_V) (sg : Nat) (G : Nat → List Nat) (e k : Nat) : Int32 := if (xfnd (m_mss V sg G e k) sg).isSome then 1 else 0
theorem t_M_missing {k e sg : Nat} {G : Nat → List Nat} (he : V.1 47 4 = nI e) (h14 : e ≤ 14) (hs : V.1 47 1 = nI sg) (h5 : sg ≤ 5) (hG : m_go V sg G) (hk : k < 81) (hsg : ∀ t, t < e → vp_in (V.2.1 50 t) 5) : xX S (d + 4) 154 0 (xa_ent 3 [.ref 47, .int (nI k)]) [] V 0 0 (xq (some (.int (m_mi V sg G e k))) (xl_H xlay V)) := by
  have loop : ∀ n s, sg - s = n → s ≤ sg → (∀ i, i < s → m_mss V sg G e k i = false) → xX S (d + 4) 154 2 [.ref 47, .int (nI k), .int (nI s)] [] V 0 0 (xq (some (.int (m_mi V sg G e k))) (xl_H xlay V)) := by
    intro n
    induction n using Nat.strongRecOn with
    | ind n ih =>
      intro s hn hsl hin
      have nxt : s < sg → m_mss V sg G e k s = false → xX S (d + 4) 154 34 [.ref 47, .int (nI k), .int (nI s)] [] V 0 0 (xq (some (.int (m_mi V sg G e k))) (xl_H xlay V)) := by
        intro h1 h2
        refine xh_incN e_M_missing_34 rfl ?_
        refine xx_goto e_M_missing_37 ?_
        exact ih (sg - (s + 1)) (by omega) (s + 1) rfl (by omega) (lt_s' hin h2)
      refine xx_iload_n e_M_missing_2 rfl rfl ?_
      refine xx_aload_n e_M_missing_3 rfl rfl ?_
      refine xh_get e_M_missing_4 fg_M_84 rfl rfl ?_
      refine xx_icmp_ge e_M_missing_7 (fun q => ?_) (fun q => ?_)
      · have e1 : sg ≤ s := (xle hs rfl (by omega) (by omega)).mp q
        refine xx_iconst (v := 0) e_M_missing_40 (by decide) ?_
        refine xx_iret e_M_missing_41 rfl rfl ?_
        unfold m_mi
        rw [xfnd_o (fun i hi => hin i (by omega))]
        exact ⟨rfl, rfl⟩
      · have e1 : s < sg := Nat.lt_of_not_le (fun z => q ((xle hs rfl (by omega) (by omega)).mpr z))
        refine xx_aload_n e_M_missing_10 rfl rfl ?_
        refine xx_iload_n e_M_missing_11 rfl rfl ?_
        refine xc_V1i e_M_missing_12 kv_M_129 (xl_obj rfl) (t_M_excitedIn he h14 hk hsg) ?_
        refine xx_iload_n e_M_missing_15 rfl rfl ?_
        refine xx_ishr e_M_missing_16 ?_
        refine xx_iconst (v := 1) e_M_missing_17 (by decide) ?_
        refine xx_iand e_M_missing_18 ?_
        refine xx_iconst (v := 1) e_M_missing_19 (by decide) ?_
        refine xx_icmp_ne e_M_missing_20 (fun q1 => nxt e1 (decide_eq_false (fun z => q1 z.1))) (fun q1 => ?_)
        refine xx_aload_n e_M_missing_23 rfl rfl ?_
        refine xx_iload_n e_M_missing_24 rfl rfl ?_
        refine xx_iload_n e_M_missing_25 rfl rfl ?_
        refine xc_V2i e_M_missing_26 kv_M_194 (xl_obj rfl) (t_M_acts hs h5 hG hk e1) ?_
        refine xx_if_ne e_M_missing_29 (fun q2 => nxt e1 (decide_eq_false (fun z => q2 z.2))) (fun q2 => ?_)
        refine xx_iconst (v := 1) e_M_missing_32 (by decide) ?_
        refine xx_iret e_M_missing_33 rfl rfl ?_
        unfold m_mi
        rw [xfnd_i e1 (decide_eq_true ⟨q1, q2⟩) hin]
        exact ⟨rfl, rfl⟩
  refine xx_iconst (v := 0) e_M_missing_0 (by decide) ?_
  refine xx_istore_n e_M_missing_1 rfl rfl ?_
  exact loop _ 0 rfl (Nat.zero_le _) (fun i hi => absurd hi (Nat.not_lt_zero i))
/-- where k goes by t, or stays -/
def m_hj (V : xl_V) (sg : Nat) (G : Nat → List Nat) (c k t : Nat) : Nat := if m_fr V sg G k t = 0 then k else m_to V c k t
def m_hs (V : xl_V) (sg : Nat) (G : Nat → List Nat) (c k t s : Nat) : Bool := decide (¬ nI s = V.2.1 50 t ∧ ¬ m_ac V sg G k s = 0 ∧ m_ac V sg G (m_hj V sg G c k t) s = 0)
def m_ht (V : xl_V) (sg : Nat) (G : Nat → List Nat) (c k t : Nat) : Bool := (xfnd (m_hs V sg G c k t) sg).isSome
def m_hz (V : xl_V) (sg : Nat) (G : Nat → List Nat) (e c k : Nat) : Int32 := if (xfnd (m_ht V sg G c k) e).isSome then 1 else 0
theorem t_M_hazard {k e c sg : Nat} {G : Nat → List Nat} (hc : V.1 47 13 = nI c) (h8 : c ≤ 81) (he : V.1 47 4 = nI e) (h14 : e ≤ 14) (hs : V.1 47 1 = nI sg) (h5 : sg ≤ 5) (hG : m_go V sg G) (hk : k < c) (hof : ∀ t, t < e → ∃ s, s < sg ∧ V.2.1 50 t = nI s)
    (hcl : ∀ k t, k < c → t < e → ¬ m_en V k t = 0 → ∃ j, xfnd (m_is V (m_mk V k t) (m_cd V k t)) c = some j) : xX S (d + 5) 152 0 (xa_ent 5 [.ref 47, .int (nI k)]) [] V 0 0 (xq (some (.int (m_hz V sg G e c k))) (xl_H xlay V)) := by
  have outer : ∀ n t, e - t = n → t ≤ e → (∀ i, i < t → m_ht V sg G c k i = false) → ∀ l3 l4, xX S (d + 5) 152 2 [.ref 47, .int (nI k), .int (nI t), l3, l4] [] V 0 0 (xq (some (.int (m_hz V sg G e c k))) (xl_H xlay V)) := by
    intro n
    induction n using Nat.strongRecOn with
    | ind n ih =>
      intro t hn ht hin l3 l4
      refine xx_iload_n e_M_hazard_2 rfl rfl ?_
      refine xx_aload_n e_M_hazard_3 rfl rfl ?_
      refine xh_get e_M_hazard_4 fg_M_94 rfl rfl ?_
      refine xx_icmp_ge e_M_hazard_7 (fun q => ?_) (fun q => ?_)
      · have e1 : e ≤ t := (xle he rfl (by omega) (by omega)).mp q
        refine xx_iconst (v := 0) e_M_hazard_97 (by decide) ?_
        refine xx_iret e_M_hazard_98 rfl rfl ?_
        unfold m_hz
        rw [xfnd_o (fun i hi => hin i (by omega))]
        exact ⟨rfl, rfl⟩
      · have e1 : t < e := Nat.lt_of_not_le (fun z => q ((xle he rfl (by omega) (by omega)).mpr z))
        have signals : ∀ j, j < c → m_hj V sg G c k t = j → ∀ m s, sg - s = m → s ≤ sg → (∀ i, i < s → m_hs V sg G c k t i = false) → xX S (d + 5) 152 43 [.ref 47, .int (nI k), .int (nI t), .int (nI j), .int (nI s)] [] V 0 0 (xq (some (.int (m_hz V sg G e c k))) (xl_H xlay V)) := by
          intro j hj hhj m
          induction m using Nat.strongRecOn with
          | ind m ih2 =>
            intro s hm hsl hins
            refine xx_iload e_M_hazard_43 rfl ?_
            refine xx_aload_n e_M_hazard_45 rfl rfl ?_
            refine xh_get e_M_hazard_46 fg_M_84 rfl rfl ?_
            refine xx_icmp_ge e_M_hazard_49 (fun q1 => ?_) (fun q1 => ?_)
            · have e2 : sg ≤ s := (xle hs rfl (by omega) (by omega)).mp q1
              refine xh_incN e_M_hazard_91 rfl ?_
              refine xx_goto e_M_hazard_94 ?_
              exact ih (e - (t + 1)) (by omega) (t + 1) rfl (by omega) (lt_s' hin (by unfold m_ht; rw [xfnd_o (fun i hi => hins i (by omega))]; rfl)) _ _
            · have e2 : s < sg := Nat.lt_of_not_le (fun z => q1 ((xle hs rfl (by omega) (by omega)).mpr z))
              have nxt : m_hs V sg G c k t s = false → xX S (d + 5) 152 85 [.ref 47, .int (nI k), .int (nI t), .int (nI j), .int (nI s)] [] V 0 0 (xq (some (.int (m_hz V sg G e c k))) (xl_H xlay V)) := by
                intro h2
                refine xh_incN e_M_hazard_85 rfl ?_
                refine xx_goto e_M_hazard_88 ?_
                exact ih2 (sg - (s + 1)) (by omega) (s + 1) rfl (by omega) (lt_s' hins h2)
              refine xx_iload e_M_hazard_52 rfl ?_
              refine xx_aload_n e_M_hazard_54 rfl rfl ?_
              refine xh_getR e_M_hazard_55 fg_M_16 rfl rfl ?_
              refine xx_iload_n e_M_hazard_58 rfl rfl ?_
              refine xh_ialN e_M_hazard_59 rfl (by omega) ?_
              refine xx_icmp_eq e_M_hazard_60 (fun q2 => nxt (decide_eq_false (fun z => z.1 q2))) (fun q2 => ?_)
              refine xx_aload_n e_M_hazard_63 rfl rfl ?_
              refine xx_iload_n e_M_hazard_64 rfl rfl ?_
              refine xx_iload e_M_hazard_65 rfl ?_
              refine xc_V2i e_M_hazard_67 kv_M_194 (xl_obj rfl) (t_M_acts hs h5 hG (by omega) e2) ?_
              refine xx_if_eq e_M_hazard_70 (fun q3 => nxt (decide_eq_false (fun z => z.2.1 q3))) (fun q3 => ?_)
              refine xx_aload_n e_M_hazard_73 rfl rfl ?_
              refine xx_iload_n e_M_hazard_74 rfl rfl ?_
              refine xx_iload e_M_hazard_75 rfl ?_
              refine xc_V2i e_M_hazard_77 kv_M_194 (xl_obj rfl) (t_M_acts hs h5 hG (by omega) e2) ?_
              refine xx_if_ne e_M_hazard_80 (fun q4 => nxt (decide_eq_false (fun z => q4 (by rw [← hhj]; exact z.2.2)))) (fun q4 => ?_)
              refine xx_iconst (v := 1) e_M_hazard_83 (by decide) ?_
              refine xx_iret e_M_hazard_84 rfl rfl ?_
              unfold m_hz
              rw [xfnd_i e1 (by unfold m_ht; rw [xfnd_i e2 (decide_eq_true ⟨q2, q3, by rw [hhj]; exact q4⟩) hins]; rfl) hin]
              exact ⟨rfl, rfl⟩
        refine xx_aload_n e_M_hazard_10 rfl rfl ?_
        refine xx_iload_n e_M_hazard_11 rfl rfl ?_
        refine xx_iload_n e_M_hazard_12 rfl rfl ?_
        refine xc_V2i e_M_hazard_13 kv_M_197 (xl_obj rfl) (t_M_fires (d := d) (G := G) hs h5 hG (by omega) (by omega) (hof t e1)) ?_
        refine xx_if_eq e_M_hazard_16 (fun q2 => ?_) (fun q2 => ?_)
        · skip
          refine xx_iload_n e_M_hazard_38 rfl rfl ?_
          refine xx_istore_n e_M_hazard_39 rfl rfl ?_
          refine xx_iconst (v := 0) e_M_hazard_40 (by decide) ?_
          refine xx_istore e_M_hazard_41 rfl ?_
          exact signals k hk (if_pos q2) _ 0 rfl (Nat.zero_le _) (fun i hi => absurd hi (Nat.not_lt_zero i))
        · have hen : ¬ m_en V k t = 0 := fun w => q2 (if_pos w)
          obtain ⟨j, hj⟩ := hcl k t hk e1 hen
          have hto : m_to V c k t = j := by unfold m_to; rw [hj]; rfl
          refine xx_aload_n e_M_hazard_19 rfl rfl ?_
          refine xx_aload_n e_M_hazard_20 rfl rfl ?_
          refine xx_iload_n e_M_hazard_21 rfl rfl ?_
          refine xx_iload_n e_M_hazard_22 rfl rfl ?_
          refine xc_V2i e_M_hazard_23 kv_M_113 (xl_obj rfl) (t_M_markAfter (by omega) (by omega)) ?_
          refine xx_aload_n e_M_hazard_26 rfl rfl ?_
          refine xx_iload_n e_M_hazard_27 rfl rfl ?_
          refine xx_iload_n e_M_hazard_28 rfl rfl ?_
          refine xc_V2i e_M_hazard_29 kv_M_117 (xl_obj rfl) (t_M_codeAfter (by omega) (by omega)) ?_
          refine xc_V2i e_M_hazard_32 kv_M_120 (xl_obj rfl) (t_M_find hc h8) ?_
          rw [hj]
          refine xx_goto e_M_hazard_35 ?_
          refine xx_istore_n e_M_hazard_39 rfl rfl ?_
          refine xx_iconst (v := 0) e_M_hazard_40 (by decide) ?_
          refine xx_istore e_M_hazard_41 rfl ?_
          exact signals j (xfnd_s hj).1 ((if_neg q2).trans hto) _ 0 rfl (Nat.zero_le _) (fun i hi => absurd hi (Nat.not_lt_zero i))
  refine xx_iconst (v := 0) e_M_hazard_0 (by decide) ?_
  refine xx_istore_n e_M_hazard_1 rfl rfl ?_
  exact outer _ 0 rfl (Nat.zero_le _) (fun i hi => absurd hi (Nat.not_lt_zero i)) _ _
def m_ck (V : xl_V) (sg : Nat) (G : Nat → List Nat) (e c v k : Nat) : Int32 := if v = 1 then m_hz V sg G e c k else if v = 2 then m_un V sg G e k else m_mi V sg G e k
def m_cb (V : xl_V) (sg : Nat) (G : Nat → List Nat) (e c v : Nat) : Option Nat := xfnd (fun k => decide (¬ V.2.1 67 k = 0 ∧ ¬ m_ck V sg G e c v k = 0)) c
def m_cs (V : xl_V) (sg : Nat) (G : Nat → List Nat) (e c : Nat) : Nat → Nat → Int32 × xl_V
  | 0, _ => (0, V)
  | n + 1, v => match m_cb V sg G e c v with
    | some k => (nI v, xl_i V 47 12 (nI k))
    | none => m_cs V sg G e c n (v + 1)
theorem t_M_check {e c sg : Nat} {G : Nat → List Nat} {Q : xa_Q} (hc : V.1 47 13 = nI c) (h8 : c ≤ 81) (h0 : 0 < c) (he : V.1 47 4 = nI e) (h14 : e ≤ 14) (hs : V.1 47 1 = nI sg) (h5 : sg ≤ 5) (hG : m_go V sg G) (hof : ∀ t, t < e → ∃ s, s < sg ∧ V.2.1 50 t = nI s) (hv0 : V.1 47 11 = 0)
    (hcl : ∀ k t, k < c → t < e → ¬ m_en V k t = 0 → ∃ j, xfnd (m_is V (m_mk V k t) (m_cd V k t)) c = some j)
    (kk : ∀ f : Nat → Int32, (∀ k, k < c → (¬ f k = 0 ↔ m_R (xl_i V 47 0 0) sg G e c k)) → ∀ W, W = xl_i (xl_a (xl_i V 47 0 0) 67 f) 47 12 (-1) → Q (.inl (some (.int (m_cs W sg G e c 3 1).1))) (xl_H xlay (m_cs W sg G e c 3 1).2)) :
    xX S (d + 6) 148 0 (xa_ent 3 [.ref 47]) [] V 0 0 Q := by
  have hsg : ∀ t, t < e → vp_in (V.2.1 50 t) 5 := fun t ht => by
    obtain ⟨s, s1, s2⟩ := hof t ht
    rw [s2]
    exact vp_in_nI (by omega) (by decide)
  refine xx_aload_n e_M_check_0 rfl rfl ?_
  refine xx_aload_n e_M_check_1 rfl rfl ?_
  refine xh_get e_M_check_2 fg_M_29 rfl rfl ?_
  refine xx_if_ne e_M_check_5 (fun q => absurd hv0 q) (fun _ => ?_)
  refine xx_iconst (v := 0) e_M_check_8 (by decide) ?_
  refine xx_goto e_M_check_9 ?_
  refine xh_put e_M_check_13 fp_M_78 rfl rfl ⟨rfl, rfl⟩ ?_
  refine xx_aload_n e_M_check_16 rfl rfl ?_
  refine xh_get e_M_check_17 fg_M_78 rfl rfl ?_
  refine xx_if_le e_M_check_20 (fun _ => ?_) (fun q1 => absurd (show (0 : Int32) ≤ 0 by decide) q1)
  refine xx_aload_n e_M_check_25 rfl rfl ?_
  refine xc_V0z e_M_check_26 kv_M_200 (xl_obj rfl) (t_M_comeTo (V := xl_i V 47 0 0) (d := d) (c := c) (e := e) (sg := sg) (G := G) hc h8 h0 he h14 hs h5 hG hof hcl (fun f hf => xk_v ?_))
  have kk := kk f hf
  refine xx_aload_n e_M_check_29 rfl rfl ?_
  refine xx_iconst (v := (-1)) e_M_check_30 (by decide) ?_
  refine xh_put e_M_check_31 fp_M_33 rfl rfl ⟨rfl, rfl⟩ ?_
  refine xx_iconst (v := 1) e_M_check_34 (by decide) ?_
  refine xx_istore_n e_M_check_35 rfl rfl ?_
  generalize hW : xl_i (xl_a (xl_i V 47 0 0) 67 f) 47 12 (-1) = W
  have kk := kk W hW.symm
  have hcW : W.1 47 13 = nI c := by rw [← hW]; exact hc
  have heW : W.1 47 4 = nI e := by rw [← hW]; exact he
  have hsW : W.1 47 1 = nI sg := by rw [← hW]; exact hs
  have hGW : m_go W sg G := by rw [← hW]; exact hG
  have hofW : ∀ t, t < e → ∃ s, s < sg ∧ W.2.1 50 t = nI s := by rw [← hW]; exact hof
  have hsgW : ∀ t, t < e → vp_in (W.2.1 50 t) 5 := by rw [← hW]; exact hsg
  have hclW : ∀ k t, k < c → t < e → ¬ m_en W k t = 0 → ∃ j, xfnd (m_is W (m_mk W k t) (m_cd W k t)) c = some j := by rw [← hW]; exact hcl
  have verd : ∀ n v, n + v = 4 → v ≠ 0 → m_cs W sg G e c 3 1 = m_cs W sg G e c n v → ∀ l2, xX S (d + 6) 148 36 [.ref 47, .int (nI v), l2] [] W 0 0 Q := by
    intro n
    induction n with
    | zero =>
      intro v hv hv0 hvs l2
      refine xx_iload_n e_M_check_36 rfl rfl ?_
      refine xx_iconst (v := 4) e_M_check_37 (by decide) ?_
      refine xx_icmp_ge e_M_check_38 (fun q1 => ?_) (fun q1 => absurd ((xle (a := 4) rfl rfl (by decide) (by omega)).mpr (by omega)) q1)
      refine xx_iconst (v := 0) e_M_check_119 (by decide) ?_
      refine xx_iret e_M_check_120 rfl rfl ?_
      rw [hvs] at kk
      exact kk
    | succ n ih =>
      intro v hv hv0 hvs l2
      have states : ∀ m k, c - k = m → k ≤ c → (∀ i, i < k → (fun k => decide (¬ W.2.1 67 k = 0 ∧ ¬ m_ck W sg G e c v k = 0)) i = false) → xX S (d + 6) 148 43 [.ref 47, .int (nI v), .int (nI k)] [] W 0 0 Q := by
        intro m
        induction m using Nat.strongRecOn with
        | ind m ih2 =>
          intro k hm hk hin
          refine xx_iload_n e_M_check_43 rfl rfl ?_
          refine xx_aload_n e_M_check_44 rfl rfl ?_
          refine xh_get e_M_check_45 fg_M_81 rfl rfl ?_
          refine xx_icmp_ge e_M_check_48 (fun q1 => ?_) (fun q1 => ?_)
          · have e2 : c ≤ k := (xle hcW rfl (by omega) (by omega)).mp q1
            have hn : m_cb W sg G e c v = none := xfnd_o (fun i hi => hin i (by omega))
            refine xh_incN e_M_check_113 rfl ?_
            refine xx_goto e_M_check_116 ?_
            refine ih (v + 1) (by omega) (by omega) ?_ _
            rw [hvs]
            show (match m_cb W sg G e c v with | some k => _ | none => _) = _
            rw [hn]
          · have e2 : k < c := Nat.lt_of_not_le (fun z => q1 ((xle hcW rfl (by omega) (by omega)).mpr z))
            have nxt : (¬ W.2.1 67 k = 0 → m_ck W sg G e c v k = 0) → xX S (d + 6) 148 107 [.ref 47, .int (nI v), .int (nI k)] [] W 0 0 Q := by
              intro h2
              refine xh_incN e_M_check_107 rfl ?_
              refine xx_goto e_M_check_110 ?_
              exact ih2 (c - (k + 1)) (by omega) (k + 1) rfl (by omega) (lt_s' hin (decide_eq_false (fun z => z.2 (h2 z.1))))
            refine xx_aload_n e_M_check_51 rfl rfl ?_
            refine xh_getR e_M_check_52 fg_M_75 rfl rfl ?_
            refine xx_iload_n e_M_check_55 rfl rfl ?_
            refine xh_balN e_M_check_56 rfl (by omega) ?_
            refine xx_if_eq e_M_check_57 (fun q2 => nxt (fun z => absurd q2 z)) (fun q2 => ?_)
            have yes : ¬ m_ck W sg G e c v k = 0 → xX S (d + 6) 148 100 [.ref 47, .int (nI v), .int (nI k)] [] W 0 0 Q := by
              intro h2
              have hn : m_cb W sg G e c v = some k := xfnd_i e2 (decide_eq_true ⟨q2, h2⟩) hin
              refine xx_aload_n e_M_check_100 rfl rfl ?_
              refine xx_iload_n e_M_check_101 rfl rfl ?_
              refine xh_put e_M_check_102 fp_M_33 rfl rfl ⟨rfl, rfl⟩ ?_
              refine xx_iload_n e_M_check_105 rfl rfl ?_
              refine xx_iret e_M_check_106 rfl rfl ?_
              have hr : m_cs W sg G e c 3 1 = (nI v, xl_i W 47 12 (nI k)) := by
                rw [hvs]
                show (match m_cb W sg G e c v with | some k => _ | none => _) = _
                rw [hn]
              rw [hr] at kk
              exact kk
            refine xx_iload_n e_M_check_60 rfl rfl ?_
            refine xx_iconst (v := 1) e_M_check_61 (by decide) ?_
            refine xx_icmp_ne e_M_check_62 (fun q3 => ?_) (fun q3 => ?_)
            · have e3 : v ≠ 1 := fun z => q3 ((xeq (b := 1) rfl rfl (by omega) (by decide)).mpr z)
              refine xx_iload_n e_M_check_76 rfl rfl ?_
              refine xx_iconst (v := 2) e_M_check_77 (by decide) ?_
              refine xx_icmp_ne e_M_check_78 (fun q4 => ?_) (fun q4 => ?_)
              · have e4 : v ≠ 2 := fun z => q4 ((xeq (b := 2) rfl rfl (by omega) (by decide)).mpr z)
                have hck : m_ck W sg G e c v k = m_mi W sg G e k := by unfold m_ck; rw [if_neg e3, if_neg e4]
                refine xx_aload_n e_M_check_92 rfl rfl ?_
                refine xx_iload_n e_M_check_93 rfl rfl ?_
                refine xc_V1i e_M_check_94 kv_M_209 (xl_obj rfl) (t_M_missing (d := d + 1) (G := G) heW h14 hsW h5 hGW (by omega) hsgW) ?_
                exact xx_if_eq e_M_check_97 (fun q5 => nxt (fun _ => by rw [hck]; exact q5)) (fun q5 => yes (by rw [hck]; exact q5))
              · have e4 : v = 2 := (xeq (b := 2) rfl rfl (by omega) (by decide)).mp q4
                have hck : m_ck W sg G e c v k = m_un W sg G e k := by unfold m_ck; rw [if_neg e3, if_pos e4]
                refine xx_aload_n e_M_check_81 rfl rfl ?_
                refine xx_iload_n e_M_check_82 rfl rfl ?_
                refine xc_V1i e_M_check_83 kv_M_206 (xl_obj rfl) (t_M_unexpected (d := d + 1) (G := G) heW h14 hsW h5 hGW (by omega) hsgW) ?_
                refine xx_if_eq e_M_check_86 (fun q5 => nxt (fun _ => by rw [hck]; exact q5)) (fun q5 => ?_)
                refine xx_goto e_M_check_89 ?_
                exact yes (by rw [hck]; exact q5)
            · have e3 : v = 1 := (xeq (b := 1) rfl rfl (by omega) (by decide)).mp q3
              have hck : m_ck W sg G e c v k = m_hz W sg G e c k := by unfold m_ck; rw [if_pos e3]
              refine xx_aload_n e_M_check_65 rfl rfl ?_
              refine xx_iload_n e_M_check_66 rfl rfl ?_
              refine xc_V1i e_M_check_67 kv_M_203 (xl_obj rfl) (t_M_hazard (d := d) (G := G) hcW h8 heW h14 hsW h5 hGW e2 hofW hclW) ?_
              refine xx_if_eq e_M_check_70 (fun q5 => nxt (fun _ => by rw [hck]; exact q5)) (fun q5 => ?_)
              refine xx_goto e_M_check_73 ?_
              exact yes (by rw [hck]; exact q5)
      refine xx_iload_n e_M_check_36 rfl rfl ?_
      refine xx_iconst (v := 4) e_M_check_37 (by decide) ?_
      refine xx_icmp_ge e_M_check_38 (fun q1 => by have := (xle (a := 4) rfl rfl (by decide) (by omega)).mp q1; omega) (fun q1 => ?_)
      refine xx_iconst (v := 0) e_M_check_41 (by decide) ?_
      refine xx_istore_n e_M_check_42 rfl rfl ?_
      exact states _ 0 rfl (Nat.zero_le _) (fun i hi => absurd hi (Nat.not_lt_zero i))
  exact verd 3 1 rfl (by decide) rfl _
theorem t_M_checkX (hv0 : ¬ V.1 47 11 = 0) : xX S (d + 1) 148 0 (xa_ent 3 [.ref 47]) [] V 0 0 (xq (some (.int 0)) (xl_H xlay (xl_i V 47 0 1))) := by
  refine xx_aload_n e_M_check_0 rfl rfl ?_
  refine xx_aload_n e_M_check_1 rfl rfl ?_
  refine xh_get e_M_check_2 fg_M_29 rfl rfl ?_
  refine xx_if_ne e_M_check_5 (fun q => ?_) (fun q => absurd q hv0)
  refine xx_iconst (v := 1) e_M_check_12 (by decide) ?_
  refine xh_put e_M_check_13 fp_M_78 rfl rfl ⟨rfl, rfl⟩ ?_
  refine xx_aload_n e_M_check_16 rfl rfl ?_
  refine xh_get e_M_check_17 fg_M_78 rfl rfl ?_
  refine xx_if_le e_M_check_20 (fun q1 => absurd q1 (show ¬ (1 : Int32) ≤ 0 by decide)) (fun _ => ?_)
  refine xx_iconst (v := 0) e_M_check_23 (by decide) ?_
  refine xx_iret e_M_check_24 rfl rfl ?_
  exact ⟨rfl, rfl⟩
end XModel14
