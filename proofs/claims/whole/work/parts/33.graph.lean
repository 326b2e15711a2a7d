/-! The gate's and the graph's methods. -/
section XGraph
variable {S : Nat × (Nat → Int32)} {V : xl_V} {d : Nat}
theorem u_N_isEnabled {t : Nat} {mk : Int32} (ht : t < 14) : xX S d 14 0 (xa_ent 3 [.ref 1, .int (nI t), .int mk]) [] V 0 0 (xq (some (.int (n_en V t mk))) (xl_H xlay V)) := by
  have h := t_N_isEnabled (S := S) (V := V) (d := d) (t := nI t) (mk := mk) (vp_in_nI ht (by decide))
  rwa [nI_clamp (xn31 (by omega))] at h
theorem u_N_isSafe {t : Nat} {mk : Int32} (ht : t < 14) : xX S d 20 0 (xa_ent 3 [.ref 1, .int (nI t), .int mk]) [] V 0 0 (xq (some (.int (n_sf V t mk))) (xl_H xlay V)) := by
  have h := t_N_isSafe (S := S) (V := V) (d := d) (t := nI t) (mk := mk) (vp_in_nI ht (by decide))
  rwa [nI_clamp (xn31 (by omega))] at h
theorem u_N_isRight {t : Nat} {mk : Int32} (ht : t < 14) : xX S (d + 1) 21 0 (xa_ent 3 [.ref 1, .int (nI t), .int mk]) [] V 0 0 (xq (some (.int (n_rt V t mk))) (xl_H xlay V)) := by
  have h := t_N_isRight (S := S) (V := V) (d := d) (t := nI t) (cd := mk) (vp_in_nI ht (by decide))
  rwa [nI_clamp (xn31 (by omega))] at h
theorem u_N_markingAfter {t : Nat} {mk : Int32} (ht : t < 14) : xX S d 23 0 (xa_ent 3 [.ref 1, .int (nI t), .int mk]) [] V 0 0 (xq (some (.int (n_mk V t mk))) (xl_H xlay V)) := by
  have h := t_N_markingAfter (S := S) (V := V) (d := d) (t := nI t) (mk := mk) (vp_in_nI ht (by decide))
  rwa [nI_clamp (xn31 (by omega))] at h
theorem u_N_codeAfter {t : Nat} {mk : Int32} (ht : t < 14) : xX S d 24 0 (xa_ent 4 [.ref 1, .int (nI t), .int mk]) [] V 0 0 (xq (some (.int (n_cd V t mk))) (xl_H xlay V)) := by
  have h := t_N_codeAfter (S := S) (V := V) (d := d) (t := nI t) (cd := mk) (vp_in_nI ht (by decide))
  rwa [nI_clamp (xn31 (by omega))] at h
theorem u_N_signalOf {t : Nat} (ht : t < 14) : xX S d 18 0 (xa_ent 2 [.ref 1, .int (nI t)]) [] V 0 0 (xq (some (.int (V.2.1 2 t))) (xl_H xlay V)) := by
  have h := t_N_signalOf (S := S) (V := V) (d := d) (t := nI t) (vp_in_nI ht (by decide))
  rwa [nI_clamp (xn31 (by omega))] at h
theorem u_N_levelAfter {t : Nat} (ht : t < 14) : xX S d 17 0 (xa_ent 2 [.ref 1, .int (nI t)]) [] V 0 0 (xq (some (.int (n_lv V t))) (xl_H xlay V)) := by
  have h := t_N_levelAfter (S := S) (V := V) (d := d) (t := nI t) (vp_in_nI ht (by decide))
  rwa [nI_clamp (xn31 (by omega))] at h
theorem u_N_edgeBit {t : Nat} (ht : t < 14) : xX S (d + 1) 16 0 (xa_ent 2 [.ref 1, .int (nI t)]) [] V 0 0 (xq (some (.int (n_eb V t))) (xl_H xlay V)) := by
  have h := t_N_edgeBit (S := S) (V := V) (d := d) (t := nI t) (vp_in_nI ht (by decide))
  rwa [nI_clamp (xn31 (by omega))] at h
def ga_cl (V : xl_V) (g : Nat) : xl_V := xl_i (xl_i V g 0 0) g 2 0
theorem t_Ga_clear {g b : Nat} (hg : xlay[g]? = some (.inl (4, [none, some b, none]))) : xX S d 10 0 (xa_ent 1 [.ref g]) [] V 0 0 (xq none (xl_H xlay (ga_cl V g))) := by
  refine xx_aload_n e_Ga_clear_0 rfl rfl ?_
  refine xx_iconst (v := 0) e_Ga_clear_1 (by decide) ?_
  refine xh_put e_Ga_clear_2 fp_Ga_15 hg rfl ⟨rfl, rfl⟩ ?_
  refine xx_aload_n e_Ga_clear_5 rfl rfl ?_
  refine xx_iconst (v := 0) e_Ga_clear_6 (by decide) ?_
  refine xh_put e_Ga_clear_7 fp_Ga_19 hg rfl ⟨rfl, rfl⟩ ?_
  exact xx_vret e_Ga_clear_10 rfl ⟨rfl, rfl⟩
def ga_ou (V : xl_V) (g : Nat) (c : Int32) : Int32 := ((V.1 g 2).toUInt32 >>> (c.toUInt32 &&& Int32.toUInt32 31)).toInt32 &&& 1
theorem t_Ga_output {g b : Nat} {c : Int32} (hg : xlay[g]? = some (.inl (4, [none, some b, none]))) : xX S d 90 0 (xa_ent 2 [.ref g, .int c]) [] V 0 0 (xq (some (.int (ga_ou V g c))) (xl_H xlay V)) := by
  refine xx_aload_n e_Ga_output_0 rfl rfl ?_
  refine xh_get e_Ga_output_1 fg_Ga_19 hg rfl ?_
  refine xx_iload_n e_Ga_output_4 rfl rfl ?_
  refine xx_iushr e_Ga_output_5 ?_
  refine xx_iconst (v := 1) e_Ga_output_6 (by decide) ?_
  refine xx_iand e_Ga_output_7 ?_
  refine xx_iret e_Ga_output_8 rfl rfl ?_
  exact ⟨rfl, rfl⟩
def ga_ad (V : xl_V) (g b : Nat) (n sp : Int32) : xl_V := xl_i (xl_i (xl_a V b (upd (V.2.1 b) (V.1 g 0).toNatClampNeg n)) g 2 (V.1 g 2 ||| sp)) g 0 (V.1 g 0 + 1)
theorem t_Ga_add {g b : Nat} {n sp : Int32} (hg : xlay[g]? = some (.inl (4, [none, some b, none]))) (hb : xlay[b]? = some (.inr (0, 8))) (hc : vp_in (V.1 g 0) 8) : xX S d 77 0 (xa_ent 3 [.ref g, .int n, .int sp]) [] V 0 0 (xq (some (.int (V.1 g 0 + 1 - 1))) (xl_H xlay (ga_ad V g b n sp))) := by
  refine xx_aload_n e_Ga_add_0 rfl rfl ?_
  refine xh_getR e_Ga_add_1 fg_Ga_9 hg rfl ?_
  refine xx_aload_n e_Ga_add_4 rfl rfl ?_
  refine xh_get e_Ga_add_5 fg_Ga_15 hg rfl ?_
  refine xx_iload_n e_Ga_add_8 rfl rfl ?_
  refine xh_iast e_Ga_add_9 hb hc ?_
  refine xx_aload_n e_Ga_add_10 rfl rfl ?_
  refine xx_dup e_Ga_add_11 rfl ?_
  refine xh_get e_Ga_add_12 fg_Ga_19 hg rfl ?_
  refine xx_iload_n e_Ga_add_15 rfl rfl ?_
  refine xx_ior e_Ga_add_16 ?_
  refine xh_put e_Ga_add_17 fp_Ga_19 hg rfl ⟨rfl, rfl⟩ ?_
  refine xx_aload_n e_Ga_add_20 rfl rfl ?_
  refine xx_dup e_Ga_add_21 rfl ?_
  refine xh_get e_Ga_add_22 fg_Ga_15 hg rfl ?_
  refine xx_iconst (v := 1) e_Ga_add_25 (by decide) ?_
  refine xx_iadd e_Ga_add_26 ?_
  refine xh_put e_Ga_add_27 fp_Ga_15 hg rfl ⟨rfl, rfl⟩ ?_
  refine xx_aload_n e_Ga_add_30 rfl rfl ?_
  refine xh_get e_Ga_add_31 fg_Ga_15 hg rfl ?_
  refine xx_iconst (v := 1) e_Ga_add_34 (by decide) ?_
  refine xx_isub e_Ga_add_35 ?_
  have e1 : (xl_i (xl_a V b (upd (V.2.1 b) (V.1 g 0).toNatClampNeg n)) g 2 (V.1 g 2 ||| sp)).1 g 0 = V.1 g 0 := if_neg (fun z => absurd z.2 (by decide))
  have e2 : (xl_i (xl_i (xl_a V b (upd (V.2.1 b) (V.1 g 0).toNatClampNeg n)) g 2 (V.1 g 2 ||| sp)) g 0 ((xl_i (xl_a V b (upd (V.2.1 b) (V.1 g 0).toNatClampNeg n)) g 2 (V.1 g 2 ||| sp)).1 g 0 + 1)).1 g 0 = (xl_i (xl_a V b (upd (V.2.1 b) (V.1 g 0).toNatClampNeg n)) g 2 (V.1 g 2 ||| sp)).1 g 0 + 1 := if_pos ⟨rfl, rfl⟩
  refine xx_iret e_Ga_add_36 rfl rfl ⟨?_, ?_⟩
  · exact congrArg (fun z : Int32 => (Sum.inl (some (Value.int (z - 1))) : xa_O)) (e2.trans (congrArg (· + 1) e1))
  · exact congrArg (xl_H xlay) (congrArg (fun z => xl_i (xl_i (xl_a V b (upd (V.2.1 b) (V.1 g 0).toNatClampNeg n)) g 2 (V.1 g 2 ||| sp)) g 0 (z + 1)) e1)
theorem t_G_successor {k t : Nat} (hk : k < 80) (ht : t < 14) : xX S d 27 0 (xa_ent 3 [.ref 6, .int (nI k), .int (nI t)]) [] V 0 0 (xq (some (.int (V.2.1 12 (k * 14 + t)))) (xl_H xlay V)) := by
  refine xx_aload_n e_G_successor_0 rfl rfl ?_
  refine xh_getR e_G_successor_1 fg_G_27 rfl rfl ?_
  refine xx_iload_n e_G_successor_4 rfl rfl ?_
  refine xx_bipush (v := 14) e_G_successor_5 (by decide) ?_
  refine xx_imul e_G_successor_7 ?_
  refine xx_iload_n e_G_successor_8 rfl rfl ?_
  refine xx_iadd e_G_successor_9 ?_
  rw [show (14 : Int32) = nI 14 from rfl, pk_mul, nI_add]
  refine xh_ialN e_G_successor_10 rfl (by omega) ?_
  refine xx_iret e_G_successor_11 rfl rfl ?_
  exact ⟨rfl, rfl⟩
def g_ex (V : xl_V) (s : Int32) (k : Nat) : Int32 := if (V.2.1 10 k >>> (s &&& 31)) &&& 1 = 1 then 1 else 0
theorem t_G_isExcited {s : Int32} {k : Nat} (hk : k < 80) : xX S d 62 0 (xa_ent 3 [.ref 6, .int s, .int (nI k)]) [] V 0 0 (xq (some (.int (g_ex V s k))) (xl_H xlay V)) := by
  refine xx_aload_n e_G_isExcited_0 rfl rfl ?_
  refine xh_getR e_G_isExcited_1 fg_G_21 rfl rfl ?_
  refine xx_iload_n e_G_isExcited_4 rfl rfl ?_
  refine xh_ialN e_G_isExcited_5 rfl (by omega) ?_
  refine xx_iload_n e_G_isExcited_6 rfl rfl ?_
  refine xx_ishr e_G_isExcited_7 ?_
  refine xx_iconst (v := 1) e_G_isExcited_8 (by decide) ?_
  refine xx_iand e_G_isExcited_9 ?_
  refine xx_iconst (v := 1) e_G_isExcited_10 (by decide) ?_
  refine xx_icmp_ne e_G_isExcited_11 (fun q11 => ?_) (fun q11 => ?_)
  · refine xx_iconst (v := 0) e_G_isExcited_18 (by decide) ?_
    refine xx_iret e_G_isExcited_19 rfl rfl ?_
    exact ⟨by simp only [g_ex, ↓reduceIte, *], rfl⟩
  · refine xx_iconst (v := 1) e_G_isExcited_14 (by decide) ?_
    refine xx_goto e_G_isExcited_15 ?_
    refine xx_iret e_G_isExcited_19 rfl rfl ?_
    exact ⟨by simp only [g_ex, ↓reduceIte, *], rfl⟩
def g_ad (V : xl_V) (c : Nat) (m cd og : Int32) : xl_V := xl_i (xl_a (xl_a (xl_a (xl_a (xl_a V 7 (upd (V.2.1 7) c m)) 8 (upd (V.2.1 8) c cd)) 9 (upd (V.2.1 9) c og)) 10 (upd (V.2.1 10) c 0)) 11 (upd (V.2.1 11) c 0)) 6 0 (nI (c + 1))
theorem t_G_addState {c : Nat} {m cd og : Int32} (hc : V.1 6 0 = nI c) (h80 : c < 80) : xX S d 12 0 (xa_ent 4 [.ref 6, .int m, .int cd, .int og]) [] V 0 0 (xq (some (.int (nI c))) (xl_H xlay (g_ad V c m cd og))) := by
  refine xx_aload_n e_G_addState_0 rfl rfl ?_
  refine xh_getR e_G_addState_1 fg_G_9 rfl rfl ?_
  refine xx_aload_n e_G_addState_4 rfl rfl ?_
  refine xh_get e_G_addState_5 fg_G_41 rfl rfl ?_
  refine xx_iload_n e_G_addState_8 rfl rfl ?_
  refine xh_iast e_G_addState_9 rfl (by rw [hc]; exact vp_in_nI h80 (by decide)) ?_
  refine xx_aload_n e_G_addState_10 rfl rfl ?_
  refine xh_getR e_G_addState_11 fg_G_15 rfl rfl ?_
  refine xx_aload_n e_G_addState_14 rfl rfl ?_
  refine xh_get e_G_addState_15 fg_G_41 rfl rfl ?_
  refine xx_iload_n e_G_addState_18 rfl rfl ?_
  refine xh_iast e_G_addState_19 rfl (by show vp_in (V.1 6 0) 80; rw [hc]; exact vp_in_nI h80 (by decide)) ?_
  refine xx_aload_n e_G_addState_20 rfl rfl ?_
  refine xh_getR e_G_addState_21 fg_G_18 rfl rfl ?_
  refine xx_aload_n e_G_addState_24 rfl rfl ?_
  refine xh_get e_G_addState_25 fg_G_41 rfl rfl ?_
  refine xx_iload_n e_G_addState_28 rfl rfl ?_
  refine xh_iast e_G_addState_29 rfl (by show vp_in (V.1 6 0) 80; rw [hc]; exact vp_in_nI h80 (by decide)) ?_
  refine xx_aload_n e_G_addState_30 rfl rfl ?_
  refine xh_getR e_G_addState_31 fg_G_21 rfl rfl ?_
  refine xx_aload_n e_G_addState_34 rfl rfl ?_
  refine xh_get e_G_addState_35 fg_G_41 rfl rfl ?_
  refine xx_iconst (v := 0) e_G_addState_38 (by decide) ?_
  refine xh_iast e_G_addState_39 rfl (by show vp_in (V.1 6 0) 80; rw [hc]; exact vp_in_nI h80 (by decide)) ?_
  refine xx_aload_n e_G_addState_40 rfl rfl ?_
  refine xh_getR e_G_addState_41 fg_G_24 rfl rfl ?_
  refine xx_aload_n e_G_addState_44 rfl rfl ?_
  refine xh_get e_G_addState_45 fg_G_41 rfl rfl ?_
  refine xx_iconst (v := 0) e_G_addState_48 (by decide) ?_
  refine xh_iast e_G_addState_49 rfl (by show vp_in (V.1 6 0) 80; rw [hc]; exact vp_in_nI h80 (by decide)) ?_
  refine xx_aload_n e_G_addState_50 rfl rfl ?_
  refine xx_dup e_G_addState_51 rfl ?_
  refine xh_get e_G_addState_52 fg_G_41 rfl rfl ?_
  refine xx_iconst (v := 1) e_G_addState_55 (by decide) ?_
  refine xx_iadd e_G_addState_56 ?_
  refine xh_put e_G_addState_57 fp_G_41 rfl rfl ⟨rfl, rfl⟩ ?_
  refine xx_aload_n e_G_addState_60 rfl rfl ?_
  refine xh_get e_G_addState_61 fg_G_41 rfl rfl ?_
  refine xx_iconst (v := 1) e_G_addState_64 (by decide) ?_
  refine xx_isub e_G_addState_65 ?_
  refine xx_iret e_G_addState_66 rfl rfl ?_
  have e1 : (V.1 6 0).toNatClampNeg = c := by rw [hc]; exact nI_clamp (xn31 (by omega))
  refine ⟨?_, ?_⟩
  · show (Sum.inl (some (Value.int (V.1 6 0 + 1 - 1))) : xa_O) = _
    rw [hc, nI_1, nI_pred]
  · show xl_H xlay _ = xl_H xlay _
    unfold g_ad
    rw [← nI_1, ← hc, ← e1]
    rfl
end XGraph
