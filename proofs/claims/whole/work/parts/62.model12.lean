/-! The reference: gates, their values, acting, firing. -/
section XModel12
variable {S : Nat × (Nat → Int32)} {V : xl_V} {d : Nat}
theorem m_ns_0 {x : Int32} {sg : Nat} (h : m_ns V x = 0) (hs : V.1 47 1 = nI sg) (h5 : sg ≤ 5) : ∃ j, j < sg ∧ x = nI j := by
  unfold m_ns at h
  split at h
  · exact absurd h (by decide)
  · split at h
    · rename_i h1 h2
      rw [hs] at h2
      exact xin h1 h2 h5 (by decide)
    · exact absurd h (by decide)
theorem m_ns_1 {x : Int32} (h : ¬ m_ns V x = 0) : m_ns V x = 1 := by
  unfold m_ns at h ⊢
  split
  · rfl
  · rename_i h1
    rw [if_neg h1] at h
    split
    · rename_i h2
      rw [if_pos h2] at h
      exact absurd rfl h
    · rfl
/-- the gates stand as the lists say -/
def m_go (V : xl_V) (sg : Nat) (G : Nat → List Nat) : Prop := m_gs G (V.2.1 57) (V.2.1 58) sg ∧ ∀ s, s < sg → (G s).length ≤ 8 ∧ ∀ p, p ∈ G s → p < 243
theorem t_M_products {x : Int32} {sg : Nat} (hs : V.1 47 1 = nI sg) (h5 : sg ≤ 5) : xX S (d + 1) 142 0 (xa_ent 2 [.ref 47, .int x]) [] V 0 0 (xq (some (.int (if m_ns V x = 0 then V.2.1 57 x.toNatClampNeg else 0))) (xl_H xlay (xl_i V 47 0 (m_ns V x)))) := by
  refine xx_aload_n e_M_products_0 rfl rfl ?_
  refine xx_aload_n e_M_products_1 rfl rfl ?_
  refine xx_iload_n e_M_products_2 rfl rfl ?_
  refine xc_V1i e_M_products_3 kv_M_90 (xl_obj rfl) (t_M_noSignal) ?_
  refine xx_if_eq e_M_products_6 (fun q => ?_) (fun q => ?_)
  · rw [if_pos q, q]
    obtain ⟨j, j1, j2⟩ := m_ns_0 q hs h5
    have hv : vp_in x 5 := by rw [j2]; exact vp_in_nI (by omega) (by decide)
    refine xx_iconst (v := 0) e_M_products_13 (by decide) ?_
    refine xh_put e_M_products_14 fp_M_78 rfl rfl ⟨rfl, rfl⟩ ?_
    refine xx_aload_n e_M_products_17 rfl rfl ?_
    refine xh_get e_M_products_18 fg_M_78 rfl rfl ?_
    refine xx_if_le e_M_products_21 (fun _ => ?_) (fun q1 => absurd (show (0 : Int32) ≤ 0 by decide) q1)
    refine xx_aload_n e_M_products_28 rfl rfl ?_
    refine xh_getR e_M_products_29 fg_M_45 rfl rfl ?_
    refine xx_iload_n e_M_products_32 rfl rfl ?_
    refine xh_iald e_M_products_33 rfl hv ?_
    refine xx_iret e_M_products_34 rfl rfl ?_
    exact ⟨rfl, rfl⟩
  · rw [if_neg q, m_ns_1 q]
    refine xx_iconst (v := 1) e_M_products_9 (by decide) ?_
    refine xx_goto e_M_products_10 ?_
    refine xh_put e_M_products_14 fp_M_78 rfl rfl ⟨rfl, rfl⟩ ?_
    refine xx_aload_n e_M_products_17 rfl rfl ?_
    refine xh_get e_M_products_18 fg_M_78 rfl rfl ?_
    refine xx_if_le e_M_products_21 (fun q1 => absurd q1 (show ¬ (1 : Int32) ≤ 0 by decide)) (fun _ => ?_)
    refine xx_iconst (v := 0) e_M_products_24 (by decide) ?_
    refine xx_goto e_M_products_25 ?_
    refine xx_iret e_M_products_34 rfl rfl ?_
    exact ⟨rfl, rfl⟩
def m_pb (V : xl_V) (x i : Int32) : Int32 := if m_ns V x = 0 then (if i < 0 then 1 else if i < V.2.1 57 x.toNatClampNeg then 0 else 1) else 1
theorem t_M_product {x i : Int32} {sg : Nat} {G : Nat → List Nat} (hs : V.1 47 1 = nI sg) (h5 : sg ≤ 5) (hG : m_go V sg G) : xX S (d + 1) 143 0 (xa_ent 3 [.ref 47, .int x, .int i]) [] V 0 0 (xq (some (.int (if m_pb V x i = 0 then V.2.1 58 (8 * x + i).toNatClampNeg else 0))) (xl_H xlay (xl_i V 47 0 (m_pb V x i)))) := by
  have bad : m_pb V x i = 1 → xX S (d + 1) 143 23 [.ref 47, .int x, .int i] [.ref 47] V 0 0 (xq (some (.int (if m_pb V x i = 0 then V.2.1 58 (8 * x + i).toNatClampNeg else 0))) (xl_H xlay (xl_i V 47 0 (m_pb V x i)))) := by
    intro h
    rw [h, if_neg (by decide)]
    refine xx_iconst (v := 1) e_M_product_23 (by decide) ?_
    refine xx_goto e_M_product_24 ?_
    refine xh_put e_M_product_28 fp_M_78 rfl rfl ⟨rfl, rfl⟩ ?_
    refine xx_aload_n e_M_product_31 rfl rfl ?_
    refine xh_get e_M_product_32 fg_M_78 rfl rfl ?_
    refine xx_if_le e_M_product_35 (fun q1 => absurd q1 (show ¬ (1 : Int32) ≤ 0 by decide)) (fun _ => ?_)
    refine xx_iconst (v := 0) e_M_product_38 (by decide) ?_
    refine xx_goto e_M_product_39 ?_
    refine xx_iret e_M_product_53 rfl rfl ?_
    exact ⟨rfl, rfl⟩
  refine xx_aload_n e_M_product_0 rfl rfl ?_
  refine xx_aload_n e_M_product_1 rfl rfl ?_
  refine xx_iload_n e_M_product_2 rfl rfl ?_
  refine xc_V1i e_M_product_3 kv_M_90 (xl_obj rfl) (t_M_noSignal) ?_
  refine xx_if_ne e_M_product_6 (fun q => bad (if_neg q)) (fun q => ?_)
  obtain ⟨j, j1, j2⟩ := m_ns_0 q hs h5
  have hv : vp_in x 5 := by rw [j2]; exact vp_in_nI (by omega) (by decide)
  refine xx_iload_n e_M_product_9 rfl rfl ?_
  refine xx_if_lt e_M_product_10 (fun q1 => bad (by unfold m_pb; rw [if_pos q, if_pos q1])) (fun q1 => ?_)
  refine xx_iload_n e_M_product_13 rfl rfl ?_
  refine xx_aload_n e_M_product_14 rfl rfl ?_
  refine xh_getR e_M_product_15 fg_M_45 rfl rfl ?_
  refine xx_iload_n e_M_product_18 rfl rfl ?_
  refine xh_iald e_M_product_19 rfl hv ?_
  refine xx_icmp_lt e_M_product_20 (fun q2 => ?_) (fun q2 => bad (by unfold m_pb; rw [if_pos q, if_neg q1, if_neg q2]))
  have h0 : m_pb V x i = 0 := by unfold m_pb; rw [if_pos q, if_neg q1, if_pos q2]
  have hcl : x.toNatClampNeg = j := by rw [j2]; exact nI_clamp (xn31 (by omega))
  rw [hcl, (hG.1 j j1).1] at q2
  obtain ⟨k, k1, k2⟩ := xin q1 q2 (hG.2 j j1).1 (by decide)
  have hi : vp_in (8 * x + i) 40 := by
    rw [j2, k2, show (8 : Int32) = nI 8 from rfl, pk_mul, nI_add]
    have := (hG.2 j j1).1
    exact vp_in_nI (by omega) (by decide)
  rw [h0, if_pos rfl]
  refine xx_iconst (v := 0) e_M_product_27 (by decide) ?_
  refine xh_put e_M_product_28 fp_M_78 rfl rfl ⟨rfl, rfl⟩ ?_
  refine xx_aload_n e_M_product_31 rfl rfl ?_
  refine xh_get e_M_product_32 fg_M_78 rfl rfl ?_
  refine xx_if_le e_M_product_35 (fun _ => ?_) (fun q1 => absurd (show (0 : Int32) ≤ 0 by decide) q1)
  refine xx_aload_n e_M_product_42 rfl rfl ?_
  refine xh_getR e_M_product_43 fg_M_48 rfl rfl ?_
  refine xx_bipush (v := 8) e_M_product_46 (by decide) ?_
  refine xx_iload_n e_M_product_48 rfl rfl ?_
  refine xx_imul e_M_product_49 ?_
  refine xx_iload_n e_M_product_50 rfl rfl ?_
  refine xx_iadd e_M_product_51 ?_
  refine xh_iald e_M_product_52 rfl hi ?_
  refine xx_iret e_M_product_53 rfl rfl ?_
  exact ⟨rfl, rfl⟩
def m_st2 (V : xl_V) (x : Int32) : xl_V := if m_ns V x = 0 then xl_a (xl_i V 47 0 0) 57 (upd (V.2.1 57) x.toNatClampNeg 0) else xl_i V 47 0 1
theorem t_M_strip {x : Int32} {sg : Nat} (hs : V.1 47 1 = nI sg) (h5 : sg ≤ 5) : xX S (d + 1) 145 0 (xa_ent 2 [.ref 47, .int x]) [] V 0 0 (xq none (xl_H xlay (m_st2 V x))) := by
  refine xx_aload_n e_M_strip_0 rfl rfl ?_
  refine xx_aload_n e_M_strip_1 rfl rfl ?_
  refine xx_iload_n e_M_strip_2 rfl rfl ?_
  refine xc_V1i e_M_strip_3 kv_M_90 (xl_obj rfl) (t_M_noSignal) ?_
  refine xx_if_eq e_M_strip_6 (fun q => ?_) (fun q => ?_)
  · obtain ⟨j, j1, j2⟩ := m_ns_0 q hs h5
    have hv : vp_in x 5 := by rw [j2]; exact vp_in_nI (by omega) (by decide)
    refine xx_iconst (v := 0) e_M_strip_13 (by decide) ?_
    refine xh_put e_M_strip_14 fp_M_78 rfl rfl ⟨rfl, rfl⟩ ?_
    refine xx_aload_n e_M_strip_17 rfl rfl ?_
    refine xh_get e_M_strip_18 fg_M_78 rfl rfl ?_
    refine xx_if_ne e_M_strip_21 (fun q1 => absurd rfl q1) (fun _ => ?_)
    refine xx_aload_n e_M_strip_24 rfl rfl ?_
    refine xh_getR e_M_strip_25 fg_M_45 rfl rfl ?_
    refine xx_iload_n e_M_strip_28 rfl rfl ?_
    refine xx_iconst (v := 0) e_M_strip_29 (by decide) ?_
    refine xh_iast e_M_strip_30 rfl hv ?_
    refine xx_vret e_M_strip_31 rfl ?_
    unfold m_st2
    rw [if_pos q]
    exact ⟨rfl, rfl⟩
  · skip
    refine xx_iconst (v := 1) e_M_strip_9 (by decide) ?_
    refine xx_goto e_M_strip_10 ?_
    refine xh_put e_M_strip_14 fp_M_78 rfl rfl ⟨rfl, rfl⟩ ?_
    refine xx_aload_n e_M_strip_17 rfl rfl ?_
    refine xh_get e_M_strip_18 fg_M_78 rfl rfl ?_
    refine xx_if_ne e_M_strip_21 (fun _ => ?_) (fun q1 => absurd q1 (show ¬ (1 : Int32) = 0 by decide))
    refine xx_vret e_M_strip_31 rfl ?_
    unfold m_st2
    rw [if_neg q]
    exact ⟨rfl, rfl⟩
def m_ab (V : xl_V) (sg : Nat) (x p : Int32) : Int32 := if m_ns V x = 0 then (if V.2.1 48 x.toNatClampNeg = 0 then (if p < 0 then 2 else if p < nI (3 ^ sg) then (if V.2.1 57 x.toNatClampNeg = 8 then 3 else 0) else 2) else 2) else 1
def m_ap (V : xl_V) (sg : Nat) (x p : Int32) : Int32 × xl_V := if m_ab V sg x p = 0 then
  (V.2.1 57 x.toNatClampNeg, xl_a (xl_a (xl_i V 47 0 0) 58 (upd (V.2.1 58) (8 * x + V.2.1 57 x.toNatClampNeg).toNatClampNeg p)) 57 (upd (V.2.1 57) x.toNatClampNeg (V.2.1 57 x.toNatClampNeg + 1))) else (0, xl_i V 47 0 (m_ab V sg x p))
theorem t_M_append {x p : Int32} {sg : Nat} {G : Nat → List Nat} (hs : V.1 47 1 = nI sg) (h5 : sg ≤ 5) (hG : m_go V sg G) : xX S (d + 1) 144 0 (xa_ent 3 [.ref 47, .int x, .int p]) [] V 0 0 (xq (some (.int (m_ap V sg x p).1)) (xl_H xlay (m_ap V sg x p).2)) := by
  have bad : ∀ z : Int32, m_ab V sg x p = z → ¬ z ≤ 0 → xX S (d + 1) 144 57 [.ref 47, .int x, .int p] [.int z, .ref 47] V 0 0 (xq (some (.int (m_ap V sg x p).1)) (xl_H xlay (m_ap V sg x p).2)) := by
    intro z hz h0
    refine xh_put e_M_append_57 fp_M_78 rfl rfl ⟨rfl, rfl⟩ ?_
    refine xx_aload_n e_M_append_60 rfl rfl ?_
    refine xh_get e_M_append_61 fg_M_78 rfl rfl ?_
    refine xx_if_le e_M_append_64 (fun q1 => absurd q1 h0) (fun _ => ?_)
    refine xx_iconst (v := 0) e_M_append_67 (by decide) ?_
    refine xx_iret e_M_append_68 rfl rfl ?_
    unfold m_ap
    rw [hz, if_neg (fun w => h0 (by rw [w]; decide))]
    exact ⟨rfl, rfl⟩
  refine xx_aload_n e_M_append_0 rfl rfl ?_
  refine xx_aload_n e_M_append_1 rfl rfl ?_
  refine xx_iload_n e_M_append_2 rfl rfl ?_
  refine xc_V1i e_M_append_3 kv_M_90 (xl_obj rfl) (t_M_noSignal) ?_
  refine xx_if_eq e_M_append_6 (fun q => ?_) (fun q => ?_)
  · obtain ⟨j, j1, j2⟩ := m_ns_0 q hs h5
    have hv : vp_in x 5 := by rw [j2]; exact vp_in_nI (by omega) (by decide)
    have hcl : x.toNatClampNeg = j := by rw [j2]; exact nI_clamp (xn31 (by omega))
    refine xx_aload_n e_M_append_13 rfl rfl ?_
    refine xh_getR e_M_append_14 fg_M_7 rfl rfl ?_
    refine xx_iload_n e_M_append_17 rfl rfl ?_
    refine xh_bald e_M_append_18 rfl hv ?_
    refine xx_if_ne e_M_append_19 (fun q1 => ?_) (fun q1 => ?_)
    · skip
      refine xx_iconst (v := 2) e_M_append_37 (by decide) ?_
      refine xx_goto e_M_append_38 ?_
      exact bad 2 (by unfold m_ab; rw [if_pos q, if_neg q1]) (by decide)
    · skip
      refine xx_iload_n e_M_append_22 rfl rfl ?_
      refine xx_if_lt e_M_append_23 (fun q2 => ?_) (fun q2 => ?_)
      · skip
        refine xx_iconst (v := 2) e_M_append_37 (by decide) ?_
        refine xx_goto e_M_append_38 ?_
        exact bad 2 (by unfold m_ab; rw [if_pos q, if_pos q1, if_pos q2]) (by decide)
      · skip
        refine xx_iload_n e_M_append_26 rfl rfl ?_
        refine xx_aload_n e_M_append_27 rfl rfl ?_
        refine xh_get e_M_append_28 fg_M_84 rfl rfl ?_
        rw [hs]
        refine xc_S1i e_M_append_31 ks_M_152 (t_M_three (n := sg) h5) ?_
        refine xx_icmp_lt e_M_append_34 (fun q3 => ?_) (fun q3 => ?_)
        · skip
          refine xx_aload_n e_M_append_41 rfl rfl ?_
          refine xh_getR e_M_append_42 fg_M_45 rfl rfl ?_
          refine xx_iload_n e_M_append_45 rfl rfl ?_
          refine xh_iald e_M_append_46 rfl hv ?_
          refine xx_bipush (v := 8) e_M_append_47 (by decide) ?_
          refine xx_icmp_ne e_M_append_49 (fun q4 => ?_) (fun q4 => ?_)
          · have h0 : m_ab V sg x p = 0 := by unfold m_ab; rw [if_pos q, if_pos q1, if_neg q2, if_pos q3, if_neg q4]
            have hl := (hG.2 j j1).1
            have hm := (hG.1 j j1).1
            have hl8 : (G j).length < 8 := by
              rcases Nat.lt_or_ge (G j).length 8 with h | h
              · exact h
              · rw [hcl, hm, show (G j).length = 8 by omega] at q4
                exact absurd rfl q4
            have hi : vp_in (8 * x + V.2.1 57 x.toNatClampNeg) 40 := by
              rw [hcl, hm, j2, show (8 : Int32) = nI 8 from rfl, pk_mul, nI_add]
              exact vp_in_nI (by omega) (by decide)
            have hap : m_ap V sg x p = (V.2.1 57 x.toNatClampNeg, xl_a (xl_a (xl_i V 47 0 0) 58 (upd (V.2.1 58) (8 * x + V.2.1 57 x.toNatClampNeg).toNatClampNeg p)) 57 (upd (V.2.1 57) x.toNatClampNeg (V.2.1 57 x.toNatClampNeg + 1))) := if_pos h0
            rw [hap]
            refine xx_iconst (v := 0) e_M_append_56 (by decide) ?_
            refine xh_put e_M_append_57 fp_M_78 rfl rfl ⟨rfl, rfl⟩ ?_
            refine xx_aload_n e_M_append_60 rfl rfl ?_
            refine xh_get e_M_append_61 fg_M_78 rfl rfl ?_
            refine xx_if_le e_M_append_64 (fun _ => ?_) (fun q1 => absurd (show (0 : Int32) ≤ 0 by decide) q1)
            refine xx_aload_n e_M_append_69 rfl rfl ?_
            refine xh_getR e_M_append_70 fg_M_48 rfl rfl ?_
            refine xx_bipush (v := 8) e_M_append_73 (by decide) ?_
            refine xx_iload_n e_M_append_75 rfl rfl ?_
            refine xx_imul e_M_append_76 ?_
            refine xx_aload_n e_M_append_77 rfl rfl ?_
            refine xh_getR e_M_append_78 fg_M_45 rfl rfl ?_
            refine xx_iload_n e_M_append_81 rfl rfl ?_
            refine xh_iald e_M_append_82 rfl hv ?_
            refine xx_iadd e_M_append_83 ?_
            refine xx_iload_n e_M_append_84 rfl rfl ?_
            refine xh_iast e_M_append_85 rfl hi ?_
            refine xx_aload_n e_M_append_86 rfl rfl ?_
            refine xh_getR e_M_append_87 fg_M_45 rfl rfl ?_
            refine xx_iload_n e_M_append_90 rfl rfl ?_
            refine xx_dup2 e_M_append_91 rfl rfl ?_
            refine xh_iald e_M_append_92 rfl hv ?_
            refine xx_iconst (v := 1) e_M_append_93 (by decide) ?_
            refine xx_iadd e_M_append_94 ?_
            refine xh_iast e_M_append_95 rfl hv ?_
            refine xx_aload_n e_M_append_96 rfl rfl ?_
            refine xh_getR e_M_append_97 fg_M_45 rfl rfl ?_
            refine xx_iload_n e_M_append_100 rfl rfl ?_
            refine xh_iald e_M_append_101 rfl hv ?_
            refine xx_iconst (v := 1) e_M_append_102 (by decide) ?_
            refine xx_isub e_M_append_103 ?_
            refine xx_iret e_M_append_104 rfl rfl ?_
            refine ⟨?_, rfl⟩
            show Sum.inl (some (Value.int (upd (V.2.1 57) x.toNatClampNeg (V.2.1 57 x.toNatClampNeg + 1) x.toNatClampNeg - 1))) = _
            rw [pk_us, hcl, hm, nI_1, nI_pred]
          · skip
            refine xx_iconst (v := 3) e_M_append_52 (by decide) ?_
            refine xx_goto e_M_append_53 ?_
            exact bad 3 (by unfold m_ab; rw [if_pos q, if_pos q1, if_neg q2, if_pos q3, if_pos q4]) (by decide)
        · skip
          refine xx_iconst (v := 2) e_M_append_37 (by decide) ?_
          refine xx_goto e_M_append_38 ?_
          exact bad 2 (by unfold m_ab; rw [if_pos q, if_pos q1, if_neg q2, if_neg q3]) (by decide)
  · skip
    refine xx_iconst (v := 1) e_M_append_9 (by decide) ?_
    refine xx_goto e_M_append_10 ?_
    exact bad 1 (if_neg q) (by decide)
/-- the value of a sum at a code -/
def m_vl (sg : Nat) (cd : Int32) : List Nat → Int32
  | [] => 0
  | p :: l => if m_cv sg p cd = 0 then m_vl sg cd l else 1
theorem t_M_valueOf {s sg : Nat} {cd : Int32} {G : Nat → List Nat} (hs : V.1 47 1 = nI sg) (h5 : sg ≤ 5) (hG : m_go V sg G) (hsl : s < sg) : xX S (d + 2) 147 0 (xa_ent 4 [.ref 47, .int (nI s), .int cd]) [] V 0 0 (xq (some (.int (m_vl sg cd (G s)))) (xl_H xlay V)) := by
  obtain ⟨g1, g2⟩ := hG.1 s hsl
  obtain ⟨l1, l2⟩ := hG.2 s hsl
  have loop : ∀ n i, (G s).length - i = n → i ≤ (G s).length → m_vl sg cd (G s) = m_vl sg cd ((G s).drop i) → xX S (d + 2) 147 2 [.ref 47, .int (nI s), .int cd, .int (nI i)] [] V 0 0 (xq (some (.int (m_vl sg cd (G s)))) (xl_H xlay V)) := by
    intro n
    induction n using Nat.strongRecOn with
    | ind n ih =>
      intro i hn hi hd
      refine xx_iload_n e_M_valueOf_2 rfl rfl ?_
      refine xx_aload_n e_M_valueOf_3 rfl rfl ?_
      refine xh_getR e_M_valueOf_4 fg_M_45 rfl rfl ?_
      refine xx_iload_n e_M_valueOf_7 rfl rfl ?_
      refine xh_ialN e_M_valueOf_8 rfl (by omega) ?_
      rw [g1]
      refine xx_icmp_ge e_M_valueOf_9 (fun q => ?_) (fun q => ?_)
      · have e1 : (G s).length ≤ i := (xle rfl rfl (by omega) (by omega)).mp q
        refine xx_iconst (v := 0) e_M_valueOf_39 (by decide) ?_
        refine xx_iret e_M_valueOf_40 rfl rfl ?_
        rw [hd, List.drop_of_length_le e1]
        exact ⟨rfl, rfl⟩
      · have e1 : i < (G s).length := Nat.lt_of_not_le (fun z => q ((xle rfl rfl (by omega) (by omega)).mpr z))
        have hx : (G s)[i]? = some ((G s)[i]'e1) := List.getElem?_eq_getElem e1
        have hdr : (G s).drop i = (G s)[i]'e1 :: (G s).drop (i + 1) := List.drop_eq_getElem_cons e1
        have lx := l2 _ (List.getElem_mem e1)
        generalize (G s)[i]'e1 = p at hx hdr lx
        refine xx_aload_n e_M_valueOf_12 rfl rfl ?_
        refine xx_aload_n e_M_valueOf_13 rfl rfl ?_
        refine xh_getR e_M_valueOf_14 fg_M_48 rfl rfl ?_
        refine xx_bipush (v := 8) e_M_valueOf_17 (by decide) ?_
        refine xx_iload_n e_M_valueOf_19 rfl rfl ?_
        refine xx_imul e_M_valueOf_20 ?_
        refine xx_iload_n e_M_valueOf_21 rfl rfl ?_
        refine xx_iadd e_M_valueOf_22 ?_
        rw [show (8 : Int32) = nI 8 from rfl, pk_mul, nI_add]
        refine xh_ialN e_M_valueOf_23 rfl (by omega) ?_
        refine xx_iload_n e_M_valueOf_24 rfl rfl ?_
        rw [g2 i p hx]
        refine xc_V2i e_M_valueOf_25 kv_M_155 (xl_obj rfl) (t_M_covers lx hs h5) ?_
        refine xx_if_eq e_M_valueOf_28 (fun q1 => ?_) (fun q1 => ?_)
        · skip
          refine xh_incN e_M_valueOf_33 rfl ?_
          refine xx_goto e_M_valueOf_36 ?_
          refine ih ((G s).length - (i + 1)) (by omega) (i + 1) rfl (by omega) ?_
          rw [hd, hdr, m_vl, if_pos q1]
        · skip
          refine xx_iconst (v := 1) e_M_valueOf_31 (by decide) ?_
          refine xx_iret e_M_valueOf_32 rfl rfl ?_
          rw [hd, hdr, m_vl, if_neg q1]
          exact ⟨rfl, rfl⟩
  refine xx_iconst (v := 0) e_M_valueOf_0 (by decide) ?_
  refine xx_istore_n e_M_valueOf_1 rfl rfl ?_
  exact loop _ 0 rfl (Nat.zero_le _) rfl
def m_vb (V : xl_V) (x cd : Int32) : Int32 := if m_ns V x = 0 then (if cd < 0 then 1 else if cd < (1 : Int32) <<< (V.1 47 1 &&& 31) then 0 else 1) else 1
theorem t_M_value {x cd : Int32} {sg : Nat} {G : Nat → List Nat} (hs : V.1 47 1 = nI sg) (h5 : sg ≤ 5) (hG : m_go V sg G) : xX S (d + 3) 146 0 (xa_ent 3 [.ref 47, .int x, .int cd]) [] V 0 0 (xq (some (.int (if m_vb V x cd = 0 then m_vl sg cd (G x.toNatClampNeg) else 0))) (xl_H xlay (xl_i V 47 0 (m_vb V x cd)))) := by
  have bad : m_vb V x cd = 1 → xX S (d + 3) 146 23 [.ref 47, .int x, .int cd] [.ref 47] V 0 0 (xq (some (.int (if m_vb V x cd = 0 then m_vl sg cd (G x.toNatClampNeg) else 0))) (xl_H xlay (xl_i V 47 0 (m_vb V x cd)))) := by
    intro h
    rw [h, if_neg (by decide)]
    refine xx_iconst (v := 1) e_M_value_23 (by decide) ?_
    refine xx_goto e_M_value_24 ?_
    refine xh_put e_M_value_28 fp_M_78 rfl rfl ⟨rfl, rfl⟩ ?_
    refine xx_aload_n e_M_value_31 rfl rfl ?_
    refine xh_get e_M_value_32 fg_M_78 rfl rfl ?_
    refine xx_if_le e_M_value_35 (fun q1 => absurd q1 (show ¬ (1 : Int32) ≤ 0 by decide)) (fun _ => ?_)
    refine xx_iconst (v := 0) e_M_value_38 (by decide) ?_
    refine xx_goto e_M_value_39 ?_
    refine xx_iret e_M_value_48 rfl rfl ?_
    exact ⟨rfl, rfl⟩
  refine xx_aload_n e_M_value_0 rfl rfl ?_
  refine xx_aload_n e_M_value_1 rfl rfl ?_
  refine xx_iload_n e_M_value_2 rfl rfl ?_
  refine xc_V1i e_M_value_3 kv_M_90 (xl_obj rfl) (t_M_noSignal) ?_
  refine xx_if_ne e_M_value_6 (fun q => bad (if_neg q)) (fun q => ?_)
  obtain ⟨j, j1, j2⟩ := m_ns_0 q hs h5
  have hcl : x.toNatClampNeg = j := by rw [j2]; exact nI_clamp (xn31 (by omega))
  refine xx_iload_n e_M_value_9 rfl rfl ?_
  refine xx_if_lt e_M_value_10 (fun q1 => bad (by unfold m_vb; rw [if_pos q, if_pos q1])) (fun q1 => ?_)
  refine xx_iload_n e_M_value_13 rfl rfl ?_
  refine xx_iconst (v := 1) e_M_value_14 (by decide) ?_
  refine xx_aload_n e_M_value_15 rfl rfl ?_
  refine xh_get e_M_value_16 fg_M_84 rfl rfl ?_
  refine xx_ishl e_M_value_19 ?_
  refine xx_icmp_lt e_M_value_20 (fun q2 => ?_) (fun q2 => bad (by unfold m_vb; rw [if_pos q, if_neg q1, if_neg q2]))
  have h0 : m_vb V x cd = 0 := by unfold m_vb; rw [if_pos q, if_neg q1, if_pos q2]
  rw [h0, if_pos rfl, hcl]
  refine xx_iconst (v := 0) e_M_value_27 (by decide) ?_
  refine xh_put e_M_value_28 fp_M_78 rfl rfl ⟨rfl, rfl⟩ ?_
  refine xx_aload_n e_M_value_31 rfl rfl ?_
  refine xh_get e_M_value_32 fg_M_78 rfl rfl ?_
  refine xx_if_le e_M_value_35 (fun _ => ?_) (fun q1 => absurd (show (0 : Int32) ≤ 0 by decide) q1)
  refine xx_aload_n e_M_value_42 rfl rfl ?_
  refine xx_iload_n e_M_value_43 rfl rfl ?_
  refine xx_iload_n e_M_value_44 rfl rfl ?_
  rw [show (Value.int x) = .int (nI j) from congrArg _ j2]
  refine xc_V2i e_M_value_45 kv_M_191 (xl_obj rfl) (t_M_valueOf (V := xl_i V 47 0 0) (G := G) hs h5 hG j1) ?_
  refine xx_iret e_M_value_48 rfl rfl ?_
  exact ⟨rfl, rfl⟩
def m_ac (V : xl_V) (sg : Nat) (G : Nat → List Nat) (k s : Nat) : Int32 := if V.2.1 48 s = 0 then (if m_vl sg (V.2.1 55 k) (G s) = (V.2.1 55 k >>> (nI s &&& 31)) &&& 1 then 0 else 1) else 0
theorem t_M_acts {k s sg : Nat} {G : Nat → List Nat} (hs : V.1 47 1 = nI sg) (h5 : sg ≤ 5) (hG : m_go V sg G) (hk : k < 81) (hsl : s < sg) : xX S (d + 3) 151 0 (xa_ent 3 [.ref 47, .int (nI k), .int (nI s)]) [] V 0 0 (xq (some (.int (m_ac V sg G k s))) (xl_H xlay V)) := by
  refine xx_aload_n e_M_acts_0 rfl rfl ?_
  refine xh_getR e_M_acts_1 fg_M_7 rfl rfl ?_
  refine xx_iload_n e_M_acts_4 rfl rfl ?_
  refine xh_balN e_M_acts_5 rfl (by omega) ?_
  refine xx_if_ne e_M_acts_6 (fun q => ?_) (fun q => ?_)
  · skip
    refine xx_iconst (v := 0) e_M_acts_37 (by decide) ?_
    refine xx_iret e_M_acts_38 rfl rfl ?_
    unfold m_ac
    rw [if_neg q]
    exact ⟨rfl, rfl⟩
  · skip
    refine xx_aload_n e_M_acts_9 rfl rfl ?_
    refine xx_iload_n e_M_acts_10 rfl rfl ?_
    refine xx_aload_n e_M_acts_11 rfl rfl ?_
    refine xh_getR e_M_acts_12 fg_M_39 rfl rfl ?_
    refine xx_iload_n e_M_acts_15 rfl rfl ?_
    refine xh_ialN e_M_acts_16 rfl (by omega) ?_
    refine xc_V2i e_M_acts_17 kv_M_191 (xl_obj rfl) (t_M_valueOf hs h5 hG hsl) ?_
    refine xx_aload_n e_M_acts_20 rfl rfl ?_
    refine xh_getR e_M_acts_21 fg_M_39 rfl rfl ?_
    refine xx_iload_n e_M_acts_24 rfl rfl ?_
    refine xh_ialN e_M_acts_25 rfl (by omega) ?_
    refine xx_iload_n e_M_acts_26 rfl rfl ?_
    refine xx_ishr e_M_acts_27 ?_
    refine xx_iconst (v := 1) e_M_acts_28 (by decide) ?_
    refine xx_iand e_M_acts_29 ?_
    refine xx_icmp_eq e_M_acts_30 (fun q1 => ?_) (fun q1 => ?_)
    · skip
      refine xx_iconst (v := 0) e_M_acts_37 (by decide) ?_
      refine xx_iret e_M_acts_38 rfl rfl ?_
      unfold m_ac
      rw [if_pos q, if_pos q1]
      exact ⟨rfl, rfl⟩
    · skip
      refine xx_iconst (v := 1) e_M_acts_33 (by decide) ?_
      refine xx_goto e_M_acts_34 ?_
      refine xx_iret e_M_acts_38 rfl rfl ?_
      unfold m_ac
      rw [if_pos q, if_neg q1]
      exact ⟨rfl, rfl⟩
def m_fr (V : xl_V) (sg : Nat) (G : Nat → List Nat) (k t : Nat) : Int32 := if m_en V k t = 0 then 0 else if m_inp V t = 0 then (if m_ac V sg G k (V.2.1 50 t).toNatClampNeg = 0 then 0 else 1) else 1
theorem t_M_fires {k t sg : Nat} {G : Nat → List Nat} (hs : V.1 47 1 = nI sg) (h5 : sg ≤ 5) (hG : m_go V sg G) (hk : k < 81) (ht : t < 14) (hof : ∃ s, s < sg ∧ V.2.1 50 t = nI s) : xX S (d + 4) 150 0 (xa_ent 3 [.ref 47, .int (nI k), .int (nI t)]) [] V 0 0 (xq (some (.int (m_fr V sg G k t))) (xl_H xlay V)) := by
  obtain ⟨s, s1, s2⟩ := hof
  have hcl : (V.2.1 50 t).toNatClampNeg = s := by rw [s2]; exact nI_clamp (xn31 (by omega))
  have hin : m_inp V t = V.2.1 48 s := by unfold m_inp; rw [hcl]
  refine xx_aload_n e_M_fires_0 rfl rfl ?_
  refine xx_iload_n e_M_fires_1 rfl rfl ?_
  refine xx_iload_n e_M_fires_2 rfl rfl ?_
  refine xc_V2i e_M_fires_3 kv_M_103 (xl_obj rfl) (t_M_enabled hk ht) ?_
  refine xx_if_eq e_M_fires_6 (fun q => ?_) (fun q => ?_)
  · skip
    refine xx_iconst (v := 0) e_M_fires_41 (by decide) ?_
    refine xx_iret e_M_fires_42 rfl rfl ?_
    unfold m_fr
    rw [if_pos q]
    exact ⟨rfl, rfl⟩
  · skip
    refine xx_aload_n e_M_fires_9 rfl rfl ?_
    refine xh_getR e_M_fires_10 fg_M_7 rfl rfl ?_
    refine xx_aload_n e_M_fires_13 rfl rfl ?_
    refine xh_getR e_M_fires_14 fg_M_16 rfl rfl ?_
    refine xx_iload_n e_M_fires_17 rfl rfl ?_
    refine xh_ialN e_M_fires_18 rfl (by omega) ?_
    rw [s2]
    refine xh_balN e_M_fires_19 rfl (by omega) ?_
    refine xx_if_ne e_M_fires_20 (fun q1 => ?_) (fun q1 => ?_)
    · skip
      refine xx_iconst (v := 1) e_M_fires_37 (by decide) ?_
      refine xx_goto e_M_fires_38 ?_
      refine xx_iret e_M_fires_42 rfl rfl ?_
      unfold m_fr
      rw [if_neg q, hin, if_neg q1]
      exact ⟨rfl, rfl⟩
    · skip
      refine xx_aload_n e_M_fires_23 rfl rfl ?_
      refine xx_iload_n e_M_fires_24 rfl rfl ?_
      refine xx_aload_n e_M_fires_25 rfl rfl ?_
      refine xh_getR e_M_fires_26 fg_M_16 rfl rfl ?_
      refine xx_iload_n e_M_fires_29 rfl rfl ?_
      refine xh_ialN e_M_fires_30 rfl (by omega) ?_
      rw [s2]
      refine xc_V2i e_M_fires_31 kv_M_194 (xl_obj rfl) (t_M_acts hs h5 hG hk s1) ?_
      refine xx_if_eq e_M_fires_34 (fun q2 => ?_) (fun q2 => ?_)
      · skip
        refine xx_iconst (v := 0) e_M_fires_41 (by decide) ?_
        refine xx_iret e_M_fires_42 rfl rfl ?_
        unfold m_fr
        rw [if_neg q, hin, if_pos q1, hcl, if_pos q2]
        exact ⟨rfl, rfl⟩
      · skip
        refine xx_iconst (v := 1) e_M_fires_37 (by decide) ?_
        refine xx_goto e_M_fires_38 ?_
        refine xx_iret e_M_fires_42 rfl rfl ?_
        unfold m_fr
        rw [if_neg q, hin, if_pos q1, hcl, if_neg q2]
        exact ⟨rfl, rfl⟩
end XModel12
