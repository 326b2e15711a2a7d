/-! The reference: its small methods. -/
section XModel
variable {S : Nat × (Nat → Int32)} {V : xl_V} {d : Nat}
theorem t_M_thrown : xX S d 102 0 (xa_ent 1 [.ref 47]) [] V 0 0 (xq (some (.int (V.1 47 0))) (xl_H xlay V)) := by
  refine xx_aload_n e_M_thrown_0 rfl rfl ?_
  refine xh_get e_M_thrown_1 fg_M_78 rfl rfl ?_
  refine xx_iret e_M_thrown_4 rfl rfl ?_
  exact ⟨rfl, rfl⟩
def m_d5 (V : xl_V) : Nat → xl_V
  | 0 => V
  | s + 1 => xl_a (m_d5 V s) 57 (upd ((m_d5 V s).2.1 57) s 0)
def m_di (V : xl_V) : xl_V := m_d5 (xl_i (xl_i (xl_i V 47 11 (-1)) 47 12 (-1)) 47 13 0) 5
theorem m_d5_1 (V : xl_V) : ∀ s, (m_d5 V s).1 = V.1
  | 0 => rfl
  | s + 1 => m_d5_1 V s
theorem m_d5_a (V : xl_V) {a : Nat} (h : a ≠ 57) : ∀ s, (m_d5 V s).2.1 a = V.2.1 a
  | 0 => rfl
  | s + 1 => (xa_up_n _ _ h).trans (m_d5_a V h s)
theorem m_d5_g (V : xl_V) : ∀ s, (m_d5 V s).2.2 = V.2.2
  | 0 => rfl
  | s + 1 => m_d5_g V s
theorem m_d5_z (V : xl_V) : ∀ s j, j < s → (m_d5 V s).2.1 57 j = 0
  | 0, j, h => absurd h (Nat.not_lt_zero j)
  | s + 1, j, h => by
    show xa_up (m_d5 V s).2.1 57 (upd ((m_d5 V s).2.1 57) s 0) 57 j = 0
    rw [xa_up_s]
    by_cases e : j = s
    · rw [e, pk_us]
    · rw [pk_un e]; exact m_d5_z V s j (by omega)
theorem t_M_discard : xX S d 104 0 (xa_ent 2 [.ref 47]) [] V 0 0 (xq none (xl_H xlay (m_di V))) := by
  have loop : ∀ n s, n + s = 5 → xX S d 104 17 [.ref 47, .int (nI s)] [] (m_d5 (xl_i (xl_i (xl_i V 47 11 (-1)) 47 12 (-1)) 47 13 0) s) 0 0 (xq none (xl_H xlay (m_di V))) := by
    intro n
    induction n with
    | zero =>
      intro s hs
      refine xx_iload_n e_M_discard_17 rfl rfl ?_
      refine xx_iconst (v := 5) e_M_discard_18 (by decide) ?_
      refine xx_icmp_ge e_M_discard_19 (fun q => ?_) (fun q => absurd ((xle (a := 5) (b := s) rfl rfl (by decide) (by omega)).mpr (by omega)) q)
      refine xx_vret e_M_discard_35 rfl ?_
      rw [show s = 5 by omega]
      exact ⟨rfl, rfl⟩
    | succ n ih =>
      intro s hs
      refine xx_iload_n e_M_discard_17 rfl rfl ?_
      refine xx_iconst (v := 5) e_M_discard_18 (by decide) ?_
      refine xx_icmp_ge e_M_discard_19 (fun q => ?_) (fun q => ?_)
      · have := (xle (a := 5) (b := s) rfl rfl (by decide) (by omega)).mp q
        omega
      · skip
        refine xx_aload_n e_M_discard_22 rfl rfl ?_
        refine xh_getR e_M_discard_23 fg_M_45 rfl rfl ?_
        refine xx_iload_n e_M_discard_26 rfl rfl ?_
        refine xx_iconst (v := 0) e_M_discard_27 (by decide) ?_
        refine xh_iasN e_M_discard_28 rfl (by omega) ?_
        refine xh_incN e_M_discard_29 rfl ?_
        refine xx_goto e_M_discard_32 ?_
        exact ih (s + 1) (by omega)
  refine xx_aload_n e_M_discard_0 rfl rfl ?_
  refine xx_iconst (v := (-1)) e_M_discard_1 (by decide) ?_
  refine xh_put e_M_discard_2 fp_M_29 rfl rfl ⟨rfl, rfl⟩ ?_
  refine xx_aload_n e_M_discard_5 rfl rfl ?_
  refine xx_iconst (v := (-1)) e_M_discard_6 (by decide) ?_
  refine xh_put e_M_discard_7 fp_M_33 rfl rfl ⟨rfl, rfl⟩ ?_
  refine xx_aload_n e_M_discard_10 rfl rfl ?_
  refine xx_iconst (v := 0) e_M_discard_11 (by decide) ?_
  refine xh_put e_M_discard_12 fp_M_81 rfl rfl ⟨rfl, rfl⟩ ?_
  refine xx_iconst (v := 0) e_M_discard_15 (by decide) ?_
  refine xx_istore_n e_M_discard_16 rfl rfl ?_
  exact loop 5 0 rfl
def m_ns (V : xl_V) (s : Int32) : Int32 := if s < 0 then 1 else if s < V.1 47 1 then 0 else 1
theorem t_M_noSignal {s : Int32} : xX S d 106 0 (xa_ent 2 [.ref 47, .int s]) [] V 0 0 (xq (some (.int (m_ns V s))) (xl_H xlay V)) := by
  refine xx_iload_n e_M_noSignal_0 rfl rfl ?_
  refine xx_if_lt e_M_noSignal_1 (fun q1 => ?_) (fun q1 => ?_)
  · refine xx_iconst (v := 1) e_M_noSignal_12 (by decide) ?_
    refine xx_goto e_M_noSignal_13 ?_
    refine xx_iret e_M_noSignal_17 rfl rfl ?_
    exact ⟨by simp only [m_ns, ↓reduceIte, *], rfl⟩
  · refine xx_iload_n e_M_noSignal_4 rfl rfl ?_
    refine xx_aload_n e_M_noSignal_5 rfl rfl ?_
    refine xh_get e_M_noSignal_6 fg_M_84 rfl rfl ?_
    refine xx_icmp_lt e_M_noSignal_9 (fun q9 => ?_) (fun q9 => ?_)
    · refine xx_iconst (v := 0) e_M_noSignal_16 (by decide) ?_
      refine xx_iret e_M_noSignal_17 rfl rfl ?_
      exact ⟨by simp only [m_ns, ↓reduceIte, *], rfl⟩
    · refine xx_iconst (v := 1) e_M_noSignal_12 (by decide) ?_
      refine xx_goto e_M_noSignal_13 ?_
      refine xx_iret e_M_noSignal_17 rfl rfl ?_
      exact ⟨by simp only [m_ns, ↓reduceIte, *], rfl⟩
def m_sg (V : xl_V) (n : Nat) (i h : Int32) : xl_V := (fun W : xl_V => xl_i (xl_a (xl_a W 48 (upd (W.2.1 48) n (vp_nar .boolean i))) 49 (upd (W.2.1 49) n (vp_nar .boolean h))) 47 1 (nI (n + 1))) (m_di (xl_i V 47 0 0))
theorem t_M_signal {n : Nat} {i h : Int32} (hn : V.1 47 1 = nI n) (h5 : n < 5) : xX S (d + 1) 103 0 (xa_ent 3 [.ref 47, .int i, .int h]) [] V 0 0 (xq (some (.int (nI n))) (xl_H xlay (m_sg V n i h))) := by
  refine xx_aload_n e_M_signal_0 rfl rfl ?_
  refine xx_aload_n e_M_signal_1 rfl rfl ?_
  refine xh_get e_M_signal_2 fg_M_84 rfl rfl ?_
  refine xx_iconst (v := 5) e_M_signal_5 (by decide) ?_
  refine xx_icmp_ne e_M_signal_6 (fun _ => ?_) (fun q => absurd ((xeq (b := 5) hn rfl (by omega) (by decide)).mp q) (by omega))
  refine xx_iconst (v := 0) e_M_signal_13 (by decide) ?_
  refine xh_put e_M_signal_14 fp_M_78 rfl rfl ⟨rfl, rfl⟩ ?_
  refine xx_aload_n e_M_signal_17 rfl rfl ?_
  refine xh_get e_M_signal_18 fg_M_78 rfl rfl ?_
  refine xx_if_le e_M_signal_21 (fun _ => ?_) (fun q => absurd (show (0 : Int32) ≤ 0 by decide) q)
  refine xx_aload_n e_M_signal_26 rfl rfl ?_
  refine xc_V0v e_M_signal_27 kv_M_87 (xl_obj rfl) (t_M_discard) ?_
  unfold m_sg
  have w1 : (m_di (xl_i V 47 0 0)).1 47 1 = nI n := by unfold m_di; rw [m_d5_1]; exact hn
  generalize m_di (xl_i V 47 0 0) = W at w1 ⊢
  have w2 : (W.1 47 1).toNatClampNeg = n := by rw [w1]; exact nI_clamp (xn31 (by omega))
  refine xx_aload_n e_M_signal_30 rfl rfl ?_
  refine xh_getR e_M_signal_31 fg_M_7 rfl rfl ?_
  refine xx_aload_n e_M_signal_34 rfl rfl ?_
  refine xh_get e_M_signal_35 fg_M_84 rfl rfl ?_
  refine xx_iload_n e_M_signal_38 rfl rfl ?_
  refine xh_bast e_M_signal_39 rfl (by rw [w1]; exact vp_in_nI h5 (by decide)) ?_
  refine xx_aload_n e_M_signal_40 rfl rfl ?_
  refine xh_getR e_M_signal_41 fg_M_13 rfl rfl ?_
  refine xx_aload_n e_M_signal_44 rfl rfl ?_
  refine xh_get e_M_signal_45 fg_M_84 rfl rfl ?_
  refine xx_iload_n e_M_signal_48 rfl rfl ?_
  refine xh_bast e_M_signal_49 rfl (by show vp_in (W.1 47 1) 5; rw [w1]; exact vp_in_nI h5 (by decide)) ?_
  refine xx_aload_n e_M_signal_50 rfl rfl ?_
  refine xx_dup e_M_signal_51 rfl ?_
  refine xh_get e_M_signal_52 fg_M_84 rfl rfl ?_
  refine xx_iconst (v := 1) e_M_signal_55 (by decide) ?_
  refine xx_iadd e_M_signal_56 ?_
  refine xh_put e_M_signal_57 fp_M_84 rfl rfl ⟨rfl, rfl⟩ ?_
  refine xx_aload_n e_M_signal_60 rfl rfl ?_
  refine xh_get e_M_signal_61 fg_M_84 rfl rfl ?_
  refine xx_iconst (v := 1) e_M_signal_64 (by decide) ?_
  refine xx_isub e_M_signal_65 ?_
  refine xx_iret e_M_signal_66 rfl rfl ?_
  refine ⟨?_, ?_⟩
  · show (Sum.inl (some (Value.int (W.1 47 1 + 1 - 1))) : xa_O) = _
    rw [w1, nI_1, nI_pred]
  · show xl_H xlay (xl_i (xl_a (xl_a W 48 (upd (W.2.1 48) (W.1 47 1).toNatClampNeg (vp_nar .boolean i))) 49 (upd (W.2.1 49) (W.1 47 1).toNatClampNeg (vp_nar .boolean h))) 47 1 (W.1 47 1 + 1)) = _
    rw [w2, w1, nI_1]
theorem t_M_signalX {i h : Int32} (hn : V.1 47 1 = 5) : xX S (d + 1) 103 0 (xa_ent 3 [.ref 47, .int i, .int h]) [] V 0 0 (xq (some (.int 0)) (xl_H xlay (xl_i V 47 0 1))) := by
  refine xx_aload_n e_M_signal_0 rfl rfl ?_
  refine xx_aload_n e_M_signal_1 rfl rfl ?_
  refine xh_get e_M_signal_2 fg_M_84 rfl rfl ?_
  refine xx_iconst (v := 5) e_M_signal_5 (by decide) ?_
  refine xx_icmp_ne e_M_signal_6 (fun q => absurd hn q) (fun _ => ?_)
  refine xx_iconst (v := 1) e_M_signal_9 (by decide) ?_
  refine xx_goto e_M_signal_10 ?_
  refine xh_put e_M_signal_14 fp_M_78 rfl rfl ⟨rfl, rfl⟩ ?_
  refine xx_aload_n e_M_signal_17 rfl rfl ?_
  refine xh_get e_M_signal_18 fg_M_78 rfl rfl ?_
  refine xx_if_le e_M_signal_21 (fun q => absurd q (show ¬ (1 : Int32) ≤ 0 by decide)) (fun _ => ?_)
  refine xx_iconst (v := 0) e_M_signal_24 (by decide) ?_
  refine xx_iret e_M_signal_25 rfl rfl ?_
  exact ⟨rfl, rfl⟩
def m_eg (V : xl_V) (n : Nat) (s r : Int32) : xl_V := (fun W : xl_V => xl_i (xl_a (xl_a (xl_a (xl_a W 50 (upd (W.2.1 50) n s)) 51 (upd (W.2.1 51) n (vp_nar .boolean r))) 52 (upd (W.2.1 52) n 0)) 53 (upd (W.2.1 53) n 0)) 47 4 (nI (n + 1))) (m_di (xl_i V 47 0 0))
theorem t_M_edge {n : Nat} {s r : Int32} (hs : m_ns V s = 0) (hn : V.1 47 4 = nI n) (h14 : n < 14) : xX S (d + 1) 105 0 (xa_ent 3 [.ref 47, .int s, .int r]) [] V 0 0 (xq (some (.int (nI n))) (xl_H xlay (m_eg V n s r))) := by
  refine xx_aload_n e_M_edge_0 rfl rfl ?_
  refine xx_aload_n e_M_edge_1 rfl rfl ?_
  refine xx_iload_n e_M_edge_2 rfl rfl ?_
  refine xc_V1i e_M_edge_3 kv_M_90 (xl_obj rfl) (t_M_noSignal) ?_
  refine xx_if_eq e_M_edge_6 (fun _ => ?_) (fun q => absurd hs q)
  refine xx_aload_n e_M_edge_13 rfl rfl ?_
  refine xh_get e_M_edge_14 fg_M_94 rfl rfl ?_
  refine xx_bipush (v := 14) e_M_edge_17 (by decide) ?_
  refine xx_icmp_ne e_M_edge_19 (fun _ => ?_) (fun q => absurd ((xeq (b := 14) hn rfl (by omega) (by decide)).mp q) (by omega))
  refine xx_iconst (v := 0) e_M_edge_26 (by decide) ?_
  refine xh_put e_M_edge_27 fp_M_78 rfl rfl ⟨rfl, rfl⟩ ?_
  refine xx_aload_n e_M_edge_30 rfl rfl ?_
  refine xh_get e_M_edge_31 fg_M_78 rfl rfl ?_
  refine xx_if_le e_M_edge_34 (fun _ => ?_) (fun q => absurd (show (0 : Int32) ≤ 0 by decide) q)
  refine xx_aload_n e_M_edge_39 rfl rfl ?_
  refine xc_V0v e_M_edge_40 kv_M_87 (xl_obj rfl) (t_M_discard) ?_
  unfold m_eg
  have w1 : (m_di (xl_i V 47 0 0)).1 47 4 = nI n := by unfold m_di; rw [m_d5_1]; exact hn
  generalize m_di (xl_i V 47 0 0) = W at w1 ⊢
  have w2 : (W.1 47 4).toNatClampNeg = n := by rw [w1]; exact nI_clamp (xn31 (by omega))
  refine xx_aload_n e_M_edge_43 rfl rfl ?_
  refine xh_getR e_M_edge_44 fg_M_16 rfl rfl ?_
  refine xx_aload_n e_M_edge_47 rfl rfl ?_
  refine xh_get e_M_edge_48 fg_M_94 rfl rfl ?_
  refine xx_iload_n e_M_edge_51 rfl rfl ?_
  refine xh_iast e_M_edge_52 rfl (by rw [w1]; exact vp_in_nI h14 (by decide)) ?_
  refine xx_aload_n e_M_edge_53 rfl rfl ?_
  refine xh_getR e_M_edge_54 fg_M_20 rfl rfl ?_
  refine xx_aload_n e_M_edge_57 rfl rfl ?_
  refine xh_get e_M_edge_58 fg_M_94 rfl rfl ?_
  refine xx_iload_n e_M_edge_61 rfl rfl ?_
  refine xh_bast e_M_edge_62 rfl (by show vp_in (W.1 47 4) 14; rw [w1]; exact vp_in_nI h14 (by decide)) ?_
  refine xx_aload_n e_M_edge_63 rfl rfl ?_
  refine xh_getR e_M_edge_64 fg_M_23 rfl rfl ?_
  refine xx_aload_n e_M_edge_67 rfl rfl ?_
  refine xh_get e_M_edge_68 fg_M_94 rfl rfl ?_
  refine xx_iconst (v := 0) e_M_edge_71 (by decide) ?_
  refine xh_iast e_M_edge_72 rfl (by show vp_in (W.1 47 4) 14; rw [w1]; exact vp_in_nI h14 (by decide)) ?_
  refine xx_aload_n e_M_edge_73 rfl rfl ?_
  refine xh_getR e_M_edge_74 fg_M_26 rfl rfl ?_
  refine xx_aload_n e_M_edge_77 rfl rfl ?_
  refine xh_get e_M_edge_78 fg_M_94 rfl rfl ?_
  refine xx_iconst (v := 0) e_M_edge_81 (by decide) ?_
  refine xh_iast e_M_edge_82 rfl (by show vp_in (W.1 47 4) 14; rw [w1]; exact vp_in_nI h14 (by decide)) ?_
  refine xx_aload_n e_M_edge_83 rfl rfl ?_
  refine xx_dup e_M_edge_84 rfl ?_
  refine xh_get e_M_edge_85 fg_M_94 rfl rfl ?_
  refine xx_iconst (v := 1) e_M_edge_88 (by decide) ?_
  refine xx_iadd e_M_edge_89 ?_
  refine xh_put e_M_edge_90 fp_M_94 rfl rfl ⟨rfl, rfl⟩ ?_
  refine xx_aload_n e_M_edge_93 rfl rfl ?_
  refine xh_get e_M_edge_94 fg_M_94 rfl rfl ?_
  refine xx_iconst (v := 1) e_M_edge_97 (by decide) ?_
  refine xx_isub e_M_edge_98 ?_
  refine xx_iret e_M_edge_99 rfl rfl ?_
  refine ⟨?_, ?_⟩
  · show (Sum.inl (some (Value.int (W.1 47 4 + 1 - 1))) : xa_O) = _
    rw [w1, nI_1, nI_pred]
  · show xl_H xlay (xl_i (xl_a (xl_a (xl_a (xl_a W 50 (upd (W.2.1 50) (W.1 47 4).toNatClampNeg s)) 51 (upd (W.2.1 51) (W.1 47 4).toNatClampNeg (vp_nar .boolean r))) 52 (upd (W.2.1 52) (W.1 47 4).toNatClampNeg 0)) 53 (upd (W.2.1 53) (W.1 47 4).toNatClampNeg 0)) 47 4 (W.1 47 4 + 1)) = _
    rw [w2, w1, nI_1]
theorem t_M_edgeX1 {s r : Int32} (hs : ¬ m_ns V s = 0) : xX S (d + 1) 105 0 (xa_ent 3 [.ref 47, .int s, .int r]) [] V 0 0 (xq (some (.int 0)) (xl_H xlay (xl_i V 47 0 1))) := by
  refine xx_aload_n e_M_edge_0 rfl rfl ?_
  refine xx_aload_n e_M_edge_1 rfl rfl ?_
  refine xx_iload_n e_M_edge_2 rfl rfl ?_
  refine xc_V1i e_M_edge_3 kv_M_90 (xl_obj rfl) (t_M_noSignal) ?_
  refine xx_if_eq e_M_edge_6 (fun q => absurd q hs) (fun _ => ?_)
  refine xx_iconst (v := 1) e_M_edge_9 (by decide) ?_
  refine xx_goto e_M_edge_10 ?_
  refine xh_put e_M_edge_27 fp_M_78 rfl rfl ⟨rfl, rfl⟩ ?_
  refine xx_aload_n e_M_edge_30 rfl rfl ?_
  refine xh_get e_M_edge_31 fg_M_78 rfl rfl ?_
  refine xx_if_le e_M_edge_34 (fun q => absurd q (show ¬ (1 : Int32) ≤ 0 by decide)) (fun _ => ?_)
  refine xx_iconst (v := 0) e_M_edge_37 (by decide) ?_
  refine xx_iret e_M_edge_38 rfl rfl ?_
  exact ⟨rfl, rfl⟩
theorem t_M_edgeX2 {s r : Int32} (hs : m_ns V s = 0) (hn : V.1 47 4 = 14) : xX S (d + 1) 105 0 (xa_ent 3 [.ref 47, .int s, .int r]) [] V 0 0 (xq (some (.int 0)) (xl_H xlay (xl_i V 47 0 2))) := by
  refine xx_aload_n e_M_edge_0 rfl rfl ?_
  refine xx_aload_n e_M_edge_1 rfl rfl ?_
  refine xx_iload_n e_M_edge_2 rfl rfl ?_
  refine xc_V1i e_M_edge_3 kv_M_90 (xl_obj rfl) (t_M_noSignal) ?_
  refine xx_if_eq e_M_edge_6 (fun _ => ?_) (fun q => absurd hs q)
  refine xx_aload_n e_M_edge_13 rfl rfl ?_
  refine xh_get e_M_edge_14 fg_M_94 rfl rfl ?_
  refine xx_bipush (v := 14) e_M_edge_17 (by decide) ?_
  refine xx_icmp_ne e_M_edge_19 (fun q => absurd hn q) (fun _ => ?_)
  refine xx_iconst (v := 2) e_M_edge_22 (by decide) ?_
  refine xx_goto e_M_edge_23 ?_
  refine xh_put e_M_edge_27 fp_M_78 rfl rfl ⟨rfl, rfl⟩ ?_
  refine xx_aload_n e_M_edge_30 rfl rfl ?_
  refine xh_get e_M_edge_31 fg_M_78 rfl rfl ?_
  refine xx_if_le e_M_edge_34 (fun q => absurd q (show ¬ (2 : Int32) ≤ 0 by decide)) (fun _ => ?_)
  refine xx_iconst (v := 0) e_M_edge_37 (by decide) ?_
  refine xx_iret e_M_edge_38 rfl rfl ?_
  exact ⟨rfl, rfl⟩
def m_pl (V : xl_V) (n : Nat) (b : Int32) : xl_V := (fun W : xl_V => xl_i (xl_i W 47 10 (if b = 0 then W.1 47 10 else W.1 47 10 ||| ((1 : Int32) <<< (nI n &&& 31)))) 47 9 (nI (n + 1))) (m_di (xl_i V 47 0 0))
theorem t_M_place {n : Nat} {b : Int32} (hn : V.1 47 9 = nI n) (h16 : n < 16) : xX S (d + 1) 107 0 (xa_ent 2 [.ref 47, .int b]) [] V 0 0 (xq (some (.int (nI n))) (xl_H xlay (m_pl V n b))) := by
  refine xx_aload_n e_M_place_0 rfl rfl ?_
  refine xx_aload_n e_M_place_1 rfl rfl ?_
  refine xh_get e_M_place_2 fg_M_97 rfl rfl ?_
  refine xx_bipush (v := 16) e_M_place_5 (by decide) ?_
  refine xx_icmp_ne e_M_place_7 (fun _ => ?_) (fun q => absurd ((xeq (b := 16) hn rfl (by omega) (by decide)).mp q) (by omega))
  refine xx_iconst (v := 0) e_M_place_14 (by decide) ?_
  refine xh_put e_M_place_15 fp_M_78 rfl rfl ⟨rfl, rfl⟩ ?_
  refine xx_aload_n e_M_place_18 rfl rfl ?_
  refine xh_get e_M_place_19 fg_M_78 rfl rfl ?_
  refine xx_if_le e_M_place_22 (fun _ => ?_) (fun q => absurd (show (0 : Int32) ≤ 0 by decide) q)
  refine xx_aload_n e_M_place_27 rfl rfl ?_
  refine xc_V0v e_M_place_28 kv_M_87 (xl_obj rfl) (t_M_discard) ?_
  unfold m_pl
  have w1 : (m_di (xl_i V 47 0 0)).1 47 9 = nI n := by unfold m_di; rw [m_d5_1]; exact hn
  generalize m_di (xl_i V 47 0 0) = W at w1 ⊢
  refine xx_aload_n e_M_place_31 rfl rfl ?_
  refine xx_iload_n e_M_place_32 rfl rfl ?_
  refine xx_if_eq e_M_place_33 (fun q => ?_) (fun q => ?_)
  · skip
    refine xx_aload_n e_M_place_50 rfl rfl ?_
    refine xh_get e_M_place_51 fg_M_100 rfl rfl ?_
    refine xh_put e_M_place_54 fp_M_100 rfl rfl ⟨rfl, rfl⟩ ?_
    refine xx_aload_n e_M_place_57 rfl rfl ?_
    refine xx_dup e_M_place_58 rfl ?_
    refine xh_get e_M_place_59 fg_M_97 rfl rfl ?_
    refine xx_iconst (v := 1) e_M_place_62 (by decide) ?_
    refine xx_iadd e_M_place_63 ?_
    refine xh_put e_M_place_64 fp_M_97 rfl rfl ⟨rfl, rfl⟩ ?_
    refine xx_aload_n e_M_place_67 rfl rfl ?_
    refine xh_get e_M_place_68 fg_M_97 rfl rfl ?_
    refine xx_iconst (v := 1) e_M_place_71 (by decide) ?_
    refine xx_isub e_M_place_72 ?_
    refine xx_iret e_M_place_73 rfl rfl ?_
    refine ⟨?_, ?_⟩
    · show (Sum.inl (some (Value.int (W.1 47 9 + 1 - 1))) : xa_O) = _
      rw [w1, nI_1, nI_pred]
    · show xl_H xlay (xl_i (xl_i W 47 10 (W.1 47 10)) 47 9 (W.1 47 9 + 1)) = _
      rw [w1, nI_1]
      show _ = xl_H xlay (xl_i (xl_i W 47 10 (if b = 0 then W.1 47 10 else _)) 47 9 _)
      rw [if_pos q]
  · skip
    refine xx_aload_n e_M_place_36 rfl rfl ?_
    refine xh_get e_M_place_37 fg_M_100 rfl rfl ?_
    refine xx_iconst (v := 1) e_M_place_40 (by decide) ?_
    refine xx_aload_n e_M_place_41 rfl rfl ?_
    refine xh_get e_M_place_42 fg_M_97 rfl rfl ?_
    refine xx_ishl e_M_place_45 ?_
    refine xx_ior e_M_place_46 ?_
    refine xx_goto e_M_place_47 ?_
    refine xh_put e_M_place_54 fp_M_100 rfl rfl ⟨rfl, rfl⟩ ?_
    refine xx_aload_n e_M_place_57 rfl rfl ?_
    refine xx_dup e_M_place_58 rfl ?_
    refine xh_get e_M_place_59 fg_M_97 rfl rfl ?_
    refine xx_iconst (v := 1) e_M_place_62 (by decide) ?_
    refine xx_iadd e_M_place_63 ?_
    refine xh_put e_M_place_64 fp_M_97 rfl rfl ⟨rfl, rfl⟩ ?_
    refine xx_aload_n e_M_place_67 rfl rfl ?_
    refine xh_get e_M_place_68 fg_M_97 rfl rfl ?_
    refine xx_iconst (v := 1) e_M_place_71 (by decide) ?_
    refine xx_isub e_M_place_72 ?_
    refine xx_iret e_M_place_73 rfl rfl ?_
    refine ⟨?_, ?_⟩
    · show (Sum.inl (some (Value.int (W.1 47 9 + 1 - 1))) : xa_O) = _
      rw [w1, nI_1, nI_pred]
    · show xl_H xlay (xl_i (xl_i W 47 10 (W.1 47 10 ||| ((1 : Int32) <<< (W.1 47 9 &&& 31)))) 47 9 (W.1 47 9 + 1)) = _
      rw [w1, nI_1]
      show _ = xl_H xlay (xl_i (xl_i W 47 10 (if b = 0 then W.1 47 10 else _)) 47 9 _)
      rw [if_neg q]
theorem t_M_placeX {b : Int32} (hn : V.1 47 9 = 16) : xX S (d + 1) 107 0 (xa_ent 2 [.ref 47, .int b]) [] V 0 0 (xq (some (.int 0)) (xl_H xlay (xl_i V 47 0 1))) := by
  refine xx_aload_n e_M_place_0 rfl rfl ?_
  refine xx_aload_n e_M_place_1 rfl rfl ?_
  refine xh_get e_M_place_2 fg_M_97 rfl rfl ?_
  refine xx_bipush (v := 16) e_M_place_5 (by decide) ?_
  refine xx_icmp_ne e_M_place_7 (fun q => absurd hn q) (fun _ => ?_)
  refine xx_iconst (v := 1) e_M_place_10 (by decide) ?_
  refine xx_goto e_M_place_11 ?_
  refine xh_put e_M_place_15 fp_M_78 rfl rfl ⟨rfl, rfl⟩ ?_
  refine xx_aload_n e_M_place_18 rfl rfl ?_
  refine xh_get e_M_place_19 fg_M_78 rfl rfl ?_
  refine xx_if_le e_M_place_22 (fun q => absurd q (show ¬ (1 : Int32) ≤ 0 by decide)) (fun _ => ?_)
  refine xx_iconst (v := 0) e_M_place_25 (by decide) ?_
  refine xx_iret e_M_place_26 rfl rfl ?_
  exact ⟨rfl, rfl⟩
end XModel
