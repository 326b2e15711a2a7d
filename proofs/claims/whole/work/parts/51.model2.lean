/-! The reference: arcs, and what it asks of states and transitions. -/
section XModel2
variable {S : Nat × (Nat → Int32)} {V : xl_V} {d : Nat}
def m_ah (V : xl_V) (t : Nat) (b : Int32) : Int32 := if b = 0 then V.2.1 52 t else V.2.1 53 t
def m_ar (V : xl_V) (p t : Nat) (b : Int32) : xl_V := if b = 0 then xl_a (m_di (xl_i V 47 0 0)) 52 (upd (V.2.1 52) t (V.2.1 52 t ||| ((1 : Int32) <<< (nI p &&& 31)))) else xl_a (m_di (xl_i V 47 0 0)) 53 (upd (V.2.1 53) t (V.2.1 53 t ||| ((1 : Int32) <<< (nI p &&& 31))))
theorem m_di_a (V : xl_V) {a : Nat} (h : a ≠ 57) : (m_di V).2.1 a = V.2.1 a := m_d5_a _ h 5
theorem m_di_g (V : xl_V) : (m_di V).2.2 = V.2.2 := m_d5_g _ 5
theorem m_di_1 (V : xl_V) : (m_di V).1 = (xl_i (xl_i (xl_i V 47 11 (-1)) 47 12 (-1)) 47 13 0).1 := m_d5_1 _ 5
/-- the place or the transition isn't there -/
theorem t_M_arcX1 {p t b : Int32} (h : p < 0 ∨ V.1 47 9 ≤ p ∨ t < 0 ∨ V.1 47 4 ≤ t) : xX S (d + 1) 108 0 (xa_ent 6 [.ref 47, .int p, .int t, .int b]) [] V 0 0 (xq none (xl_H xlay (xl_i V 47 0 1))) := by
  have fin : xX S (d + 1) 108 28 [.ref 47, .int p, .int t, .int b, xa_j, xa_j] [] V 0 0 (xq none (xl_H xlay (xl_i V 47 0 1))) := by
    refine xx_iconst (v := 0) e_M_arc_28 (by decide) ?_
    refine xx_istore e_M_arc_29 rfl ?_
    refine xx_aload_n e_M_arc_31 rfl rfl ?_
    refine xx_iload e_M_arc_32 rfl ?_
    refine xx_if_eq e_M_arc_34 (fun _ => ?_) (fun q => absurd rfl q)
    refine xx_iconst (v := 1) e_M_arc_41 (by decide) ?_
    refine xh_put e_M_arc_42 fp_M_78 rfl rfl ⟨rfl, rfl⟩ ?_
    refine xx_iload e_M_arc_45 rfl ?_
    refine xx_if_ne e_M_arc_47 (fun q => absurd rfl q) (fun _ => ?_)
    refine xx_vret e_M_arc_50 rfl ?_
    exact ⟨rfl, rfl⟩
  refine xx_iload_n e_M_arc_0 rfl rfl ?_
  refine xx_if_lt e_M_arc_1 (fun _ => fin) (fun q1 => ?_)
  refine xx_iload_n e_M_arc_4 rfl rfl ?_
  refine xx_aload_n e_M_arc_5 rfl rfl ?_
  refine xh_get e_M_arc_6 fg_M_97 rfl rfl ?_
  refine xx_icmp_ge e_M_arc_9 (fun _ => fin) (fun q2 => ?_)
  refine xx_iload_n e_M_arc_12 rfl rfl ?_
  refine xx_if_lt e_M_arc_13 (fun _ => fin) (fun q3 => ?_)
  refine xx_iload_n e_M_arc_16 rfl rfl ?_
  refine xx_aload_n e_M_arc_17 rfl rfl ?_
  refine xh_get e_M_arc_18 fg_M_94 rfl rfl ?_
  refine xx_icmp_ge e_M_arc_21 (fun _ => fin) (fun q4 => ?_)
  rcases h with h | h | h | h
  · exact absurd h q1
  · exact absurd h q2
  · exact absurd h q3
  · exact absurd h q4
theorem t_M_arc_in {p t : Nat} {b : Int32} {Q : xa_Q} {pl e : Nat} (hpl : V.1 47 9 = nI pl) (he : V.1 47 4 = nI e) (hp : p < pl) (ht : t < e) (h16 : pl ≤ 16) (h14 : e ≤ 14)
    (kk : xX S (d + 1) 108 72 [.ref 47, .int (nI p), .int (nI t), .int b, .int 1, .int (m_ah V t b)] [] (xl_i V 47 0 0) 0 0 Q) : xX S (d + 1) 108 0 (xa_ent 6 [.ref 47, .int (nI p), .int (nI t), .int b]) [] V 0 0 Q := by
  refine xx_iload_n e_M_arc_0 rfl rfl ?_
  refine xx_if_lt e_M_arc_1 (fun q => absurd q (nI_pos (xn31 (by omega)))) (fun _ => ?_)
  refine xx_iload_n e_M_arc_4 rfl rfl ?_
  refine xx_aload_n e_M_arc_5 rfl rfl ?_
  refine xh_get e_M_arc_6 fg_M_97 rfl rfl ?_
  refine xx_icmp_ge e_M_arc_9 (fun q => absurd ((xle hpl rfl (by omega) (by omega)).mp q) (by omega)) (fun _ => ?_)
  refine xx_iload_n e_M_arc_12 rfl rfl ?_
  refine xx_if_lt e_M_arc_13 (fun q => absurd q (nI_pos (xn31 (by omega)))) (fun _ => ?_)
  refine xx_iload_n e_M_arc_16 rfl rfl ?_
  refine xx_aload_n e_M_arc_17 rfl rfl ?_
  refine xh_get e_M_arc_18 fg_M_94 rfl rfl ?_
  refine xx_icmp_ge e_M_arc_21 (fun q => absurd ((xle he rfl (by omega) (by omega)).mp q) (by omega)) (fun _ => ?_)
  refine xx_iconst (v := 1) e_M_arc_24 (by decide) ?_
  refine xx_goto e_M_arc_25 ?_
  refine xx_istore e_M_arc_29 rfl ?_
  refine xx_aload_n e_M_arc_31 rfl rfl ?_
  refine xx_iload e_M_arc_32 rfl ?_
  refine xx_if_eq e_M_arc_34 (fun q => absurd q (by decide)) (fun _ => ?_)
  refine xx_iconst (v := 0) e_M_arc_37 (by decide) ?_
  refine xx_goto e_M_arc_38 ?_
  refine xh_put e_M_arc_42 fp_M_78 rfl rfl ⟨rfl, rfl⟩ ?_
  refine xx_iload e_M_arc_45 rfl ?_
  refine xx_if_ne e_M_arc_47 (fun _ => ?_) (fun q => absurd q (by decide))
  refine xx_iload_n e_M_arc_51 rfl rfl ?_
  refine xx_if_eq e_M_arc_52 (fun q => ?_) (fun q => ?_)
  · skip
    refine xx_aload_n e_M_arc_64 rfl rfl ?_
    refine xh_getR e_M_arc_65 fg_M_23 rfl rfl ?_
    refine xx_iload_n e_M_arc_68 rfl rfl ?_
    refine xh_ialN e_M_arc_69 rfl (by omega) ?_
    refine xx_istore e_M_arc_70 rfl ?_
    rw [show m_ah V t b = V.2.1 52 t from if_pos q] at kk
    exact kk
  · skip
    refine xx_aload_n e_M_arc_55 rfl rfl ?_
    refine xh_getR e_M_arc_56 fg_M_26 rfl rfl ?_
    refine xx_iload_n e_M_arc_59 rfl rfl ?_
    refine xh_ialN e_M_arc_60 rfl (by omega) ?_
    refine xx_goto e_M_arc_61 ?_
    refine xx_istore e_M_arc_70 rfl ?_
    rw [show m_ah V t b = V.2.1 53 t from if_neg q] at kk
    exact kk
theorem t_M_arcX2 {p t : Nat} {b : Int32} {pl e : Nat} (hpl : V.1 47 9 = nI pl) (he : V.1 47 4 = nI e) (hp : p < pl) (ht : t < e) (h16 : pl ≤ 16) (h14 : e ≤ 14) (hh : (m_ah V t b >>> (nI p &&& 31)) &&& 1 = 1) :
    xX S (d + 1) 108 0 (xa_ent 6 [.ref 47, .int (nI p), .int (nI t), .int b]) [] V 0 0 (xq none (xl_H xlay (xl_i V 47 0 2))) := by
  refine t_M_arc_in hpl he hp ht h16 h14 ?_
  refine xx_iload e_M_arc_72 rfl ?_
  refine xx_iload_n e_M_arc_74 rfl rfl ?_
  refine xx_ishr e_M_arc_75 ?_
  refine xx_iconst (v := 1) e_M_arc_76 (by decide) ?_
  refine xx_iand e_M_arc_77 ?_
  refine xx_iconst (v := 1) e_M_arc_78 (by decide) ?_
  refine xx_icmp_ne e_M_arc_79 (fun q => absurd hh q) (fun _ => ?_)
  refine xx_aload_n e_M_arc_82 rfl rfl ?_
  refine xx_iconst (v := 2) e_M_arc_83 (by decide) ?_
  refine xh_put e_M_arc_84 fp_M_78 rfl rfl ⟨rfl, rfl⟩ ?_
  refine xx_vret e_M_arc_87 rfl ?_
  rw [xl_ii]
  exact ⟨rfl, rfl⟩
theorem t_M_arc {p t : Nat} {b : Int32} {pl e : Nat} (hpl : V.1 47 9 = nI pl) (he : V.1 47 4 = nI e) (hp : p < pl) (ht : t < e) (h16 : pl ≤ 16) (h14 : e ≤ 14) (hh : ¬ (m_ah V t b >>> (nI p &&& 31)) &&& 1 = 1) :
    xX S (d + 1) 108 0 (xa_ent 6 [.ref 47, .int (nI p), .int (nI t), .int b]) [] V 0 0 (xq none (xl_H xlay (m_ar V p t b))) := by
  refine t_M_arc_in hpl he hp ht h16 h14 ?_
  refine xx_iload e_M_arc_72 rfl ?_
  refine xx_iload_n e_M_arc_74 rfl rfl ?_
  refine xx_ishr e_M_arc_75 ?_
  refine xx_iconst (v := 1) e_M_arc_76 (by decide) ?_
  refine xx_iand e_M_arc_77 ?_
  refine xx_iconst (v := 1) e_M_arc_78 (by decide) ?_
  refine xx_icmp_ne e_M_arc_79 (fun _ => ?_) (fun q => absurd q hh)
  refine xx_aload_n e_M_arc_88 rfl rfl ?_
  refine xc_V0v e_M_arc_89 kv_M_87 (xl_obj rfl) (t_M_discard) ?_
  refine xx_iload_n e_M_arc_92 rfl rfl ?_
  refine xx_if_eq e_M_arc_93 (fun q => ?_) (fun q => ?_)
  · skip
    refine xx_aload_n e_M_arc_111 rfl rfl ?_
    refine xh_getR e_M_arc_112 fg_M_23 rfl rfl ?_
    refine xx_iload_n e_M_arc_115 rfl rfl ?_
    refine xx_iload e_M_arc_116 rfl ?_
    refine xx_iconst (v := 1) e_M_arc_118 (by decide) ?_
    refine xx_iload_n e_M_arc_119 rfl rfl ?_
    refine xx_ishl e_M_arc_120 ?_
    refine xx_ior e_M_arc_121 ?_
    refine xh_iasN e_M_arc_122 rfl (by omega) ?_
    refine xx_vret e_M_arc_123 rfl ?_
    unfold m_ar
    rw [if_pos q, show m_ah V t b = V.2.1 52 t from if_pos q]
    exact ⟨rfl, congrArg (fun z => xl_H xlay (xl_a (m_di (xl_i V 47 0 0)) 52 (upd z t _))) (m_di_a (xl_i V 47 0 0) (by decide : 52 ≠ 57))⟩
  · skip
    refine xx_aload_n e_M_arc_96 rfl rfl ?_
    refine xh_getR e_M_arc_97 fg_M_26 rfl rfl ?_
    refine xx_iload_n e_M_arc_100 rfl rfl ?_
    refine xx_iload e_M_arc_101 rfl ?_
    refine xx_iconst (v := 1) e_M_arc_103 (by decide) ?_
    refine xx_iload_n e_M_arc_104 rfl rfl ?_
    refine xx_ishl e_M_arc_105 ?_
    refine xx_ior e_M_arc_106 ?_
    refine xh_iasN e_M_arc_107 rfl (by omega) ?_
    refine xx_goto e_M_arc_108 ?_
    refine xx_vret e_M_arc_123 rfl ?_
    unfold m_ar
    rw [if_neg q, show m_ah V t b = V.2.1 53 t from if_neg q]
    exact ⟨rfl, congrArg (fun z => xl_H xlay (xl_a (m_di (xl_i V 47 0 0)) 53 (upd z t _))) (m_di_a (xl_i V 47 0 0) (by decide : 53 ≠ 57))⟩
def m_en (V : xl_V) (k t : Nat) : Int32 := if V.2.1 54 k &&& V.2.1 52 t = V.2.1 52 t then 1 else 0
theorem t_M_enabled {k t : Nat} (hk : k < 81) (ht : t < 14) : xX S d 111 0 (xa_ent 3 [.ref 47, .int (nI k), .int (nI t)]) [] V 0 0 (xq (some (.int (m_en V k t))) (xl_H xlay V)) := by
  refine xx_aload_n e_M_enabled_0 rfl rfl ?_
  refine xh_getR e_M_enabled_1 fg_M_36 rfl rfl ?_
  refine xx_iload_n e_M_enabled_4 rfl rfl ?_
  refine xh_ialN e_M_enabled_5 rfl (by omega) ?_
  refine xx_aload_n e_M_enabled_6 rfl rfl ?_
  refine xh_getR e_M_enabled_7 fg_M_23 rfl rfl ?_
  refine xx_iload_n e_M_enabled_10 rfl rfl ?_
  refine xh_ialN e_M_enabled_11 rfl (by omega) ?_
  refine xx_iand e_M_enabled_12 ?_
  refine xx_aload_n e_M_enabled_13 rfl rfl ?_
  refine xh_getR e_M_enabled_14 fg_M_23 rfl rfl ?_
  refine xx_iload_n e_M_enabled_17 rfl rfl ?_
  refine xh_ialN e_M_enabled_18 rfl (by omega) ?_
  refine xx_icmp_ne e_M_enabled_19 (fun q19 => ?_) (fun q19 => ?_)
  · refine xx_iconst (v := 0) e_M_enabled_26 (by decide) ?_
    refine xx_iret e_M_enabled_27 rfl rfl ?_
    exact ⟨by simp only [m_en, ↓reduceIte, *], rfl⟩
  · refine xx_iconst (v := 1) e_M_enabled_22 (by decide) ?_
    refine xx_goto e_M_enabled_23 ?_
    refine xx_iret e_M_enabled_27 rfl rfl ?_
    exact ⟨by simp only [m_en, ↓reduceIte, *], rfl⟩
def m_sf (V : xl_V) (k t : Nat) : Int32 := if V.2.1 54 k &&& V.2.1 53 t &&& (V.2.1 52 t ^^^ (-1)) = 0 then 1 else 0
theorem t_M_safe {k t : Nat} (hk : k < 81) (ht : t < 14) : xX S d 112 0 (xa_ent 3 [.ref 47, .int (nI k), .int (nI t)]) [] V 0 0 (xq (some (.int (m_sf V k t))) (xl_H xlay V)) := by
  refine xx_aload_n e_M_safe_0 rfl rfl ?_
  refine xh_getR e_M_safe_1 fg_M_36 rfl rfl ?_
  refine xx_iload_n e_M_safe_4 rfl rfl ?_
  refine xh_ialN e_M_safe_5 rfl (by omega) ?_
  refine xx_aload_n e_M_safe_6 rfl rfl ?_
  refine xh_getR e_M_safe_7 fg_M_26 rfl rfl ?_
  refine xx_iload_n e_M_safe_10 rfl rfl ?_
  refine xh_ialN e_M_safe_11 rfl (by omega) ?_
  refine xx_iand e_M_safe_12 ?_
  refine xx_aload_n e_M_safe_13 rfl rfl ?_
  refine xh_getR e_M_safe_14 fg_M_23 rfl rfl ?_
  refine xx_iload_n e_M_safe_17 rfl rfl ?_
  refine xh_ialN e_M_safe_18 rfl (by omega) ?_
  refine xx_iconst (v := (-1)) e_M_safe_19 (by decide) ?_
  refine xx_ixor e_M_safe_20 ?_
  refine xx_iand e_M_safe_21 ?_
  refine xx_if_ne e_M_safe_22 (fun q22 => ?_) (fun q22 => ?_)
  · refine xx_iconst (v := 0) e_M_safe_29 (by decide) ?_
    refine xx_iret e_M_safe_30 rfl rfl ?_
    exact ⟨by simp only [m_sf, ↓reduceIte, *], rfl⟩
  · refine xx_iconst (v := 1) e_M_safe_25 (by decide) ?_
    refine xx_goto e_M_safe_26 ?_
    refine xx_iret e_M_safe_30 rfl rfl ?_
    exact ⟨by simp only [m_sf, ↓reduceIte, *], rfl⟩
def m_rt (V : xl_V) (k t : Nat) : Int32 := if (V.2.1 55 k >>> (V.2.1 50 t &&& 31)) &&& 1 = (if V.2.1 51 t = 0 then 1 else 0) then 1 else 0
theorem t_M_right {k t : Nat} (hk : k < 81) (ht : t < 14) : xX S d 113 0 (xa_ent 3 [.ref 47, .int (nI k), .int (nI t)]) [] V 0 0 (xq (some (.int (m_rt V k t))) (xl_H xlay V)) := by
  refine xx_aload_n e_M_right_0 rfl rfl ?_
  refine xh_getR e_M_right_1 fg_M_39 rfl rfl ?_
  refine xx_iload_n e_M_right_4 rfl rfl ?_
  refine xh_ialN e_M_right_5 rfl (by omega) ?_
  refine xx_aload_n e_M_right_6 rfl rfl ?_
  refine xh_getR e_M_right_7 fg_M_16 rfl rfl ?_
  refine xx_iload_n e_M_right_10 rfl rfl ?_
  refine xh_ialN e_M_right_11 rfl (by omega) ?_
  refine xx_ishr e_M_right_12 ?_
  refine xx_iconst (v := 1) e_M_right_13 (by decide) ?_
  refine xx_iand e_M_right_14 ?_
  refine xx_aload_n e_M_right_15 rfl rfl ?_
  refine xh_getR e_M_right_16 fg_M_20 rfl rfl ?_
  refine xx_iload_n e_M_right_19 rfl rfl ?_
  refine xh_balN e_M_right_20 rfl (by omega) ?_
  refine xx_if_eq e_M_right_21 (fun q21 => ?_) (fun q21 => ?_)
  · refine xx_iconst (v := 1) e_M_right_28 (by decide) ?_
    refine xx_icmp_ne e_M_right_29 (fun q29 => ?_) (fun q29 => ?_)
    · refine xx_iconst (v := 0) e_M_right_36 (by decide) ?_
      refine xx_iret e_M_right_37 rfl rfl ?_
      exact ⟨by simp only [m_rt, ↓reduceIte, *], rfl⟩
    · refine xx_iconst (v := 1) e_M_right_32 (by decide) ?_
      refine xx_goto e_M_right_33 ?_
      refine xx_iret e_M_right_37 rfl rfl ?_
      exact ⟨by simp only [m_rt, ↓reduceIte, *], rfl⟩
  · refine xx_iconst (v := 0) e_M_right_24 (by decide) ?_
    refine xx_goto e_M_right_25 ?_
    refine xx_icmp_ne e_M_right_29 (fun q29 => ?_) (fun q29 => ?_)
    · refine xx_iconst (v := 0) e_M_right_36 (by decide) ?_
      refine xx_iret e_M_right_37 rfl rfl ?_
      exact ⟨by simp only [m_rt, ↓reduceIte, *], rfl⟩
    · refine xx_iconst (v := 1) e_M_right_32 (by decide) ?_
      refine xx_goto e_M_right_33 ?_
      refine xx_iret e_M_right_37 rfl rfl ?_
      exact ⟨by simp only [m_rt, ↓reduceIte, *], rfl⟩
def m_mk (V : xl_V) (k t : Nat) : Int32 := V.2.1 54 k &&& (V.2.1 52 t ^^^ (-1)) ||| V.2.1 53 t
theorem t_M_markAfter {k t : Nat} (hk : k < 81) (ht : t < 14) : xX S d 114 0 (xa_ent 3 [.ref 47, .int (nI k), .int (nI t)]) [] V 0 0 (xq (some (.int (m_mk V k t))) (xl_H xlay V)) := by
  refine xx_aload_n e_M_markAfter_0 rfl rfl ?_
  refine xh_getR e_M_markAfter_1 fg_M_36 rfl rfl ?_
  refine xx_iload_n e_M_markAfter_4 rfl rfl ?_
  refine xh_ialN e_M_markAfter_5 rfl (by omega) ?_
  refine xx_aload_n e_M_markAfter_6 rfl rfl ?_
  refine xh_getR e_M_markAfter_7 fg_M_23 rfl rfl ?_
  refine xx_iload_n e_M_markAfter_10 rfl rfl ?_
  refine xh_ialN e_M_markAfter_11 rfl (by omega) ?_
  refine xx_iconst (v := (-1)) e_M_markAfter_12 (by decide) ?_
  refine xx_ixor e_M_markAfter_13 ?_
  refine xx_iand e_M_markAfter_14 ?_
  refine xx_aload_n e_M_markAfter_15 rfl rfl ?_
  refine xh_getR e_M_markAfter_16 fg_M_26 rfl rfl ?_
  refine xx_iload_n e_M_markAfter_19 rfl rfl ?_
  refine xh_ialN e_M_markAfter_20 rfl (by omega) ?_
  refine xx_ior e_M_markAfter_21 ?_
  refine xx_iret e_M_markAfter_22 rfl rfl ?_
  exact ⟨rfl, rfl⟩
def m_cd (V : xl_V) (k t : Nat) : Int32 := if V.2.1 51 t = 0 then V.2.1 55 k &&& (((1 : Int32) <<< (V.2.1 50 t &&& 31)) ^^^ (-1)) else V.2.1 55 k ||| ((1 : Int32) <<< (V.2.1 50 t &&& 31))
theorem t_M_codeAfter {k t : Nat} (hk : k < 81) (ht : t < 14) : xX S d 115 0 (xa_ent 3 [.ref 47, .int (nI k), .int (nI t)]) [] V 0 0 (xq (some (.int (m_cd V k t))) (xl_H xlay V)) := by
  refine xx_aload_n e_M_codeAfter_0 rfl rfl ?_
  refine xh_getR e_M_codeAfter_1 fg_M_20 rfl rfl ?_
  refine xx_iload_n e_M_codeAfter_4 rfl rfl ?_
  refine xh_balN e_M_codeAfter_5 rfl (by omega) ?_
  refine xx_if_eq e_M_codeAfter_6 (fun q6 => ?_) (fun q6 => ?_)
  · refine xx_aload_n e_M_codeAfter_27 rfl rfl ?_
    refine xh_getR e_M_codeAfter_28 fg_M_39 rfl rfl ?_
    refine xx_iload_n e_M_codeAfter_31 rfl rfl ?_
    refine xh_ialN e_M_codeAfter_32 rfl (by omega) ?_
    refine xx_iconst (v := 1) e_M_codeAfter_33 (by decide) ?_
    refine xx_aload_n e_M_codeAfter_34 rfl rfl ?_
    refine xh_getR e_M_codeAfter_35 fg_M_16 rfl rfl ?_
    refine xx_iload_n e_M_codeAfter_38 rfl rfl ?_
    refine xh_ialN e_M_codeAfter_39 rfl (by omega) ?_
    refine xx_ishl e_M_codeAfter_40 ?_
    refine xx_iconst (v := (-1)) e_M_codeAfter_41 (by decide) ?_
    refine xx_ixor e_M_codeAfter_42 ?_
    refine xx_iand e_M_codeAfter_43 ?_
    refine xx_iret e_M_codeAfter_44 rfl rfl ?_
    exact ⟨by simp only [m_cd, ↓reduceIte, *], rfl⟩
  · refine xx_aload_n e_M_codeAfter_9 rfl rfl ?_
    refine xh_getR e_M_codeAfter_10 fg_M_39 rfl rfl ?_
    refine xx_iload_n e_M_codeAfter_13 rfl rfl ?_
    refine xh_ialN e_M_codeAfter_14 rfl (by omega) ?_
    refine xx_iconst (v := 1) e_M_codeAfter_15 (by decide) ?_
    refine xx_aload_n e_M_codeAfter_16 rfl rfl ?_
    refine xh_getR e_M_codeAfter_17 fg_M_16 rfl rfl ?_
    refine xx_iload_n e_M_codeAfter_20 rfl rfl ?_
    refine xh_ialN e_M_codeAfter_21 rfl (by omega) ?_
    refine xx_ishl e_M_codeAfter_22 ?_
    refine xx_ior e_M_codeAfter_23 ?_
    refine xx_goto e_M_codeAfter_24 ?_
    refine xx_iret e_M_codeAfter_44 rfl rfl ?_
    exact ⟨by simp only [m_cd, ↓reduceIte, *], rfl⟩
def m_is (V : xl_V) (m c : Int32) (j : Nat) : Bool := decide (V.2.1 54 j = m ∧ V.2.1 55 j = c)
theorem t_M_find {c : Nat} {m cd : Int32} (hc : V.1 47 13 = nI c) (h81 : c ≤ 81) : xX S d 116 0 (xa_ent 4 [.ref 47, .int m, .int cd]) [] V 0 0 (xq (some (.int (g_io (xfnd (m_is V m cd) c)))) (xl_H xlay V)) := by
  have loop : ∀ n j, c - j = n → j ≤ c → (∀ i, i < j → m_is V m cd i = false) → xX S d 116 2 [.ref 47, .int m, .int cd, .int (nI j)] [] V 0 0 (xq (some (.int (g_io (xfnd (m_is V m cd) c)))) (xl_H xlay V)) := by
    intro n
    induction n using Nat.strongRecOn with
    | ind n ih =>
      intro j hn hj hin
      have nxt : j < c → m_is V m cd j = false → xX S d 116 32 [.ref 47, .int m, .int cd, .int (nI j)] [] V 0 0 (xq (some (.int (g_io (xfnd (m_is V m cd) c)))) (xl_H xlay V)) := by
        intro h1 h2
        refine xh_incN e_M_find_32 rfl ?_
        refine xx_goto e_M_find_35 ?_
        exact ih (c - (j + 1)) (by omega) (j + 1) rfl (by omega) (lt_s' hin h2)
      refine xx_iload_n e_M_find_2 rfl rfl ?_
      refine xx_aload_n e_M_find_3 rfl rfl ?_
      refine xh_get e_M_find_4 fg_M_81 rfl rfl ?_
      refine xx_icmp_ge e_M_find_7 (fun q => ?_) (fun q => ?_)
      · have e1 : c ≤ j := (xle hc rfl (by omega) (by omega)).mp q
        refine xx_iconst (v := (-1)) e_M_find_38 (by decide) ?_
        refine xx_iret e_M_find_39 rfl rfl ?_
        rw [xfnd_o (fun i hi => hin i (by omega))]
        exact ⟨rfl, rfl⟩
      · have e1 : j < c := Nat.lt_of_not_le (fun z => q ((xle hc rfl (by omega) (by omega)).mpr z))
        refine xx_aload_n e_M_find_10 rfl rfl ?_
        refine xh_getR e_M_find_11 fg_M_36 rfl rfl ?_
        refine xx_iload_n e_M_find_14 rfl rfl ?_
        refine xh_ialN e_M_find_15 rfl (by omega) ?_
        refine xx_iload_n e_M_find_16 rfl rfl ?_
        refine xx_icmp_ne e_M_find_17 (fun q1 => nxt e1 (decide_eq_false (fun z => q1 z.1))) (fun q1 => ?_)
        refine xx_aload_n e_M_find_20 rfl rfl ?_
        refine xh_getR e_M_find_21 fg_M_39 rfl rfl ?_
        refine xx_iload_n e_M_find_24 rfl rfl ?_
        refine xh_ialN e_M_find_25 rfl (by omega) ?_
        refine xx_iload_n e_M_find_26 rfl rfl ?_
        refine xx_icmp_ne e_M_find_27 (fun q2 => nxt e1 (decide_eq_false (fun z => q2 z.2))) (fun q2 => ?_)
        refine xx_iload_n e_M_find_30 rfl rfl ?_
        refine xx_iret e_M_find_31 rfl rfl ?_
        rw [xfnd_i e1 (decide_eq_true ⟨q1, q2⟩) hin]
        exact ⟨rfl, rfl⟩
  refine xx_iconst (v := 0) e_M_find_0 (by decide) ?_
  refine xx_istore_n e_M_find_1 rfl rfl ?_
  exact loop _ 0 rfl (Nat.zero_le _) (fun i hi => absurd hi (Nat.not_lt_zero i))
def m_se (V : xl_V) (t u : Nat) : Int32 := if V.2.1 50 t = V.2.1 50 u then (if V.2.1 51 t = V.2.1 51 u then 1 else 0) else 0
theorem t_M_sameEdge {t u : Nat} (ht : t < 14) (hu : u < 14) : xX S d 119 0 (xa_ent 3 [.ref 47, .int (nI t), .int (nI u)]) [] V 0 0 (xq (some (.int (m_se V t u))) (xl_H xlay V)) := by
  refine xx_aload_n e_M_sameEdge_0 rfl rfl ?_
  refine xh_getR e_M_sameEdge_1 fg_M_16 rfl rfl ?_
  refine xx_iload_n e_M_sameEdge_4 rfl rfl ?_
  refine xh_ialN e_M_sameEdge_5 rfl (by omega) ?_
  refine xx_aload_n e_M_sameEdge_6 rfl rfl ?_
  refine xh_getR e_M_sameEdge_7 fg_M_16 rfl rfl ?_
  refine xx_iload_n e_M_sameEdge_10 rfl rfl ?_
  refine xh_ialN e_M_sameEdge_11 rfl (by omega) ?_
  refine xx_icmp_ne e_M_sameEdge_12 (fun q12 => ?_) (fun q12 => ?_)
  · refine xx_iconst (v := 0) e_M_sameEdge_34 (by decide) ?_
    refine xx_iret e_M_sameEdge_35 rfl rfl ?_
    exact ⟨by simp only [m_se, ↓reduceIte, *], rfl⟩
  · refine xx_aload_n e_M_sameEdge_15 rfl rfl ?_
    refine xh_getR e_M_sameEdge_16 fg_M_20 rfl rfl ?_
    refine xx_iload_n e_M_sameEdge_19 rfl rfl ?_
    refine xh_balN e_M_sameEdge_20 rfl (by omega) ?_
    refine xx_aload_n e_M_sameEdge_21 rfl rfl ?_
    refine xh_getR e_M_sameEdge_22 fg_M_20 rfl rfl ?_
    refine xx_iload_n e_M_sameEdge_25 rfl rfl ?_
    refine xh_balN e_M_sameEdge_26 rfl (by omega) ?_
    refine xx_icmp_ne e_M_sameEdge_27 (fun q27 => ?_) (fun q27 => ?_)
    · refine xx_iconst (v := 0) e_M_sameEdge_34 (by decide) ?_
      refine xx_iret e_M_sameEdge_35 rfl rfl ?_
      exact ⟨by simp only [m_se, ↓reduceIte, *], rfl⟩
    · refine xx_iconst (v := 1) e_M_sameEdge_30 (by decide) ?_
      refine xx_goto e_M_sameEdge_31 ?_
      refine xx_iret e_M_sameEdge_35 rfl rfl ?_
      exact ⟨by simp only [m_se, ↓reduceIte, *], rfl⟩
def m_ee1 (V : xl_V) (k u t : Nat) : Bool := decide (¬ m_se V t u = 0 ∧ ¬ m_en V k t = 0)
def m_ee (V : xl_V) (e k u : Nat) : Int32 := if (xfnd (m_ee1 V k u) e).isSome then 1 else 0
theorem t_M_edgeEnabled {k u e : Nat} (he : V.1 47 4 = nI e) (h14 : e ≤ 14) (hk : k < 81) (hu : u < 14) : xX S (d + 1) 120 0 (xa_ent 4 [.ref 47, .int (nI k), .int (nI u)]) [] V 0 0 (xq (some (.int (m_ee V e k u))) (xl_H xlay V)) := by
  have loop : ∀ n t, e - t = n → t ≤ e → (∀ i, i < t → m_ee1 V k u i = false) → xX S (d + 1) 120 2 [.ref 47, .int (nI k), .int (nI u), .int (nI t)] [] V 0 0 (xq (some (.int (m_ee V e k u))) (xl_H xlay V)) := by
    intro n
    induction n using Nat.strongRecOn with
    | ind n ih =>
      intro t hn ht hin
      have nxt : t < e → m_ee1 V k u t = false → xX S (d + 1) 120 30 [.ref 47, .int (nI k), .int (nI u), .int (nI t)] [] V 0 0 (xq (some (.int (m_ee V e k u))) (xl_H xlay V)) := by
        intro h1 h2
        refine xh_incN e_M_edgeEnabled_30 rfl ?_
        refine xx_goto e_M_edgeEnabled_33 ?_
        exact ih (e - (t + 1)) (by omega) (t + 1) rfl (by omega) (lt_s' hin h2)
      refine xx_iload_n e_M_edgeEnabled_2 rfl rfl ?_
      refine xx_aload_n e_M_edgeEnabled_3 rfl rfl ?_
      refine xh_get e_M_edgeEnabled_4 fg_M_94 rfl rfl ?_
      refine xx_icmp_ge e_M_edgeEnabled_7 (fun q => ?_) (fun q => ?_)
      · have e1 : e ≤ t := (xle he rfl (by omega) (by omega)).mp q
        refine xx_iconst (v := 0) e_M_edgeEnabled_36 (by decide) ?_
        refine xx_iret e_M_edgeEnabled_37 rfl rfl ?_
        unfold m_ee
        rw [xfnd_o (fun i hi => hin i (by omega))]
        exact ⟨rfl, rfl⟩
      · have e1 : t < e := Nat.lt_of_not_le (fun z => q ((xle he rfl (by omega) (by omega)).mpr z))
        refine xx_aload_n e_M_edgeEnabled_10 rfl rfl ?_
        refine xx_iload_n e_M_edgeEnabled_11 rfl rfl ?_
        refine xx_iload_n e_M_edgeEnabled_12 rfl rfl ?_
        refine xc_V2i e_M_edgeEnabled_13 kv_M_123 (xl_obj rfl) (t_M_sameEdge (by omega) hu) ?_
        refine xx_if_eq e_M_edgeEnabled_16 (fun q1 => nxt e1 (decide_eq_false (fun z => z.1 q1))) (fun q1 => ?_)
        refine xx_aload_n e_M_edgeEnabled_19 rfl rfl ?_
        refine xx_iload_n e_M_edgeEnabled_20 rfl rfl ?_
        refine xx_iload_n e_M_edgeEnabled_21 rfl rfl ?_
        refine xc_V2i e_M_edgeEnabled_22 kv_M_103 (xl_obj rfl) (t_M_enabled hk (by omega)) ?_
        refine xx_if_eq e_M_edgeEnabled_25 (fun q2 => nxt e1 (decide_eq_false (fun z => z.2 q2))) (fun q2 => ?_)
        refine xx_iconst (v := 1) e_M_edgeEnabled_28 (by decide) ?_
        refine xx_iret e_M_edgeEnabled_29 rfl rfl ?_
        unfold m_ee
        rw [xfnd_i e1 (decide_eq_true ⟨q1, q2⟩) hin]
        exact ⟨rfl, rfl⟩
  refine xx_iconst (v := 0) e_M_edgeEnabled_0 (by decide) ?_
  refine xx_istore_n e_M_edgeEnabled_1 rfl rfl ?_
  exact loop _ 0 rfl (Nat.zero_le _) (fun i hi => absurd hi (Nat.not_lt_zero i))
def m_ex (V : xl_V) (k : Nat) : Nat → Int32
  | 0 => 0
  | t + 1 => if m_en V k t = 0 then m_ex V k t else if V.2.1 48 (V.2.1 50 t).toNatClampNeg = 0 then m_ex V k t ||| ((1 : Int32) <<< (V.2.1 50 t &&& 31)) else m_ex V k t
theorem t_M_excitedIn {k e : Nat} (he : V.1 47 4 = nI e) (h14 : e ≤ 14) (hk : k < 81) (hsg : ∀ t, t < e → vp_in (V.2.1 50 t) 5) : xX S (d + 1) 122 0 (xa_ent 4 [.ref 47, .int (nI k)]) [] V 0 0 (xq (some (.int (m_ex V k e))) (xl_H xlay V)) := by
  have loop : ∀ n t, e - t = n → t ≤ e → xX S (d + 1) 122 4 [.ref 47, .int (nI k), .int (m_ex V k t), .int (nI t)] [] V 0 0 (xq (some (.int (m_ex V k e))) (xl_H xlay V)) := by
    intro n
    induction n using Nat.strongRecOn with
    | ind n ih =>
      intro t hn ht
      have nxt : t < e → ∀ z, z = m_ex V k (t + 1) → xX S (d + 1) 122 49 [.ref 47, .int (nI k), .int (m_ex V k t), .int (nI t)] [.int z] V 0 0 (xq (some (.int (m_ex V k e))) (xl_H xlay V)) := by
        intro h1 z hz
        refine xx_istore_n e_M_excitedIn_49 rfl rfl ?_
        refine xh_incN e_M_excitedIn_50 rfl ?_
        refine xx_goto e_M_excitedIn_53 ?_
        rw [hz]
        exact ih (e - (t + 1)) (by omega) (t + 1) rfl (by omega)
      refine xx_iload_n e_M_excitedIn_4 rfl rfl ?_
      refine xx_aload_n e_M_excitedIn_5 rfl rfl ?_
      refine xh_get e_M_excitedIn_6 fg_M_94 rfl rfl ?_
      refine xx_icmp_ge e_M_excitedIn_9 (fun q => ?_) (fun q => ?_)
      · have e1 : e ≤ t := (xle he rfl (by omega) (by omega)).mp q
        refine xx_iload_n e_M_excitedIn_56 rfl rfl ?_
        refine xx_iret e_M_excitedIn_57 rfl rfl ?_
        rw [show t = e by omega]
        exact ⟨rfl, rfl⟩
      · have e1 : t < e := Nat.lt_of_not_le (fun z => q ((xle he rfl (by omega) (by omega)).mpr z))
        refine xx_aload_n e_M_excitedIn_12 rfl rfl ?_
        refine xx_iload_n e_M_excitedIn_13 rfl rfl ?_
        refine xx_iload_n e_M_excitedIn_14 rfl rfl ?_
        refine xc_V2i e_M_excitedIn_15 kv_M_103 (xl_obj rfl) (t_M_enabled hk (by omega)) ?_
        refine xx_if_eq e_M_excitedIn_18 (fun q1 => ?_) (fun q1 => ?_)
        · skip
          refine xx_iload_n e_M_excitedIn_48 rfl rfl ?_
          exact nxt e1 _ (by unfold m_ex; rw [if_pos q1]; cases t <;> rfl)
        · skip
          refine xx_aload_n e_M_excitedIn_21 rfl rfl ?_
          refine xh_getR e_M_excitedIn_22 fg_M_7 rfl rfl ?_
          refine xx_aload_n e_M_excitedIn_25 rfl rfl ?_
          refine xh_getR e_M_excitedIn_26 fg_M_16 rfl rfl ?_
          refine xx_iload_n e_M_excitedIn_29 rfl rfl ?_
          refine xh_ialN e_M_excitedIn_30 rfl (by omega) ?_
          refine xh_bald e_M_excitedIn_31 rfl (hsg t e1) ?_
          refine xx_if_ne e_M_excitedIn_32 (fun q2 => ?_) (fun q2 => ?_)
          · skip
            refine xx_iload_n e_M_excitedIn_48 rfl rfl ?_
            exact nxt e1 _ (by rw [m_ex, if_neg q1, if_neg q2])
          · skip
            refine xx_iload_n e_M_excitedIn_35 rfl rfl ?_
            refine xx_iconst (v := 1) e_M_excitedIn_36 (by decide) ?_
            refine xx_aload_n e_M_excitedIn_37 rfl rfl ?_
            refine xh_getR e_M_excitedIn_38 fg_M_16 rfl rfl ?_
            refine xx_iload_n e_M_excitedIn_41 rfl rfl ?_
            refine xh_ialN e_M_excitedIn_42 rfl (by omega) ?_
            refine xx_ishl e_M_excitedIn_43 ?_
            refine xx_ior e_M_excitedIn_44 ?_
            refine xx_goto e_M_excitedIn_45 ?_
            exact nxt e1 _ (by rw [m_ex, if_neg q1, if_pos q2])
  refine xx_iconst (v := 0) e_M_excitedIn_0 (by decide) ?_
  refine xx_istore_n e_M_excitedIn_1 rfl rfl ?_
  refine xx_iconst (v := 0) e_M_excitedIn_2 (by decide) ?_
  refine xx_istore_n e_M_excitedIn_3 rfl rfl ?_
  exact loop _ 0 rfl (Nat.zero_le _)
def m_cj (V : xl_V) (e k j : Nat) : Bool := decide (V.2.1 55 j = V.2.1 55 k ∧ ¬ m_ex V j e = m_ex V k e)
def m_cf (V : xl_V) (e k : Nat) : Int32 := if (xfnd (m_cj V e k) k).isSome then 1 else 0
theorem t_M_conflicts {k e : Nat} (he : V.1 47 4 = nI e) (h14 : e ≤ 14) (hk : k < 81) (hsg : ∀ t, t < e → vp_in (V.2.1 50 t) 5) : xX S (d + 2) 121 0 (xa_ent 3 [.ref 47, .int (nI k)]) [] V 0 0 (xq (some (.int (m_cf V e k))) (xl_H xlay V)) := by
  have loop : ∀ n j, k - j = n → j ≤ k → (∀ i, i < j → m_cj V e k i = false) → xX S (d + 2) 121 2 [.ref 47, .int (nI k), .int (nI j)] [] V 0 0 (xq (some (.int (m_cf V e k))) (xl_H xlay V)) := by
    intro n
    induction n using Nat.strongRecOn with
    | ind n ih =>
      intro j hn hj hin
      have nxt : j < k → m_cj V e k j = false → xX S (d + 2) 121 37 [.ref 47, .int (nI k), .int (nI j)] [] V 0 0 (xq (some (.int (m_cf V e k))) (xl_H xlay V)) := by
        intro h1 h2
        refine xh_incN e_M_conflicts_37 rfl ?_
        refine xx_goto e_M_conflicts_40 ?_
        exact ih (k - (j + 1)) (by omega) (j + 1) rfl (by omega) (lt_s' hin h2)
      refine xx_iload_n e_M_conflicts_2 rfl rfl ?_
      refine xx_iload_n e_M_conflicts_3 rfl rfl ?_
      refine xx_icmp_ge e_M_conflicts_4 (fun q => ?_) (fun q => ?_)
      · have e1 : k ≤ j := (xle rfl rfl (by omega) (by omega)).mp q
        refine xx_iconst (v := 0) e_M_conflicts_43 (by decide) ?_
        refine xx_iret e_M_conflicts_44 rfl rfl ?_
        unfold m_cf
        rw [xfnd_o (fun i hi => hin i (by omega))]
        exact ⟨rfl, rfl⟩
      · have e1 : j < k := Nat.lt_of_not_le (fun z => q ((xle rfl rfl (by omega) (by omega)).mpr z))
        refine xx_aload_n e_M_conflicts_7 rfl rfl ?_
        refine xh_getR e_M_conflicts_8 fg_M_39 rfl rfl ?_
        refine xx_iload_n e_M_conflicts_11 rfl rfl ?_
        refine xh_ialN e_M_conflicts_12 rfl (by omega) ?_
        refine xx_aload_n e_M_conflicts_13 rfl rfl ?_
        refine xh_getR e_M_conflicts_14 fg_M_39 rfl rfl ?_
        refine xx_iload_n e_M_conflicts_17 rfl rfl ?_
        refine xh_ialN e_M_conflicts_18 rfl (by omega) ?_
        refine xx_icmp_ne e_M_conflicts_19 (fun q1 => nxt e1 (decide_eq_false (fun z => q1 z.1))) (fun q1 => ?_)
        refine xx_aload_n e_M_conflicts_22 rfl rfl ?_
        refine xx_iload_n e_M_conflicts_23 rfl rfl ?_
        refine xc_V1i e_M_conflicts_24 kv_M_129 (xl_obj rfl) (t_M_excitedIn he h14 (by omega) hsg) ?_
        refine xx_aload_n e_M_conflicts_27 rfl rfl ?_
        refine xx_iload_n e_M_conflicts_28 rfl rfl ?_
        refine xc_V1i e_M_conflicts_29 kv_M_129 (xl_obj rfl) (t_M_excitedIn he h14 hk hsg) ?_
        refine xx_icmp_eq e_M_conflicts_32 (fun q2 => nxt e1 (decide_eq_false (fun z => z.2 q2))) (fun q2 => ?_)
        refine xx_iconst (v := 1) e_M_conflicts_35 (by decide) ?_
        refine xx_iret e_M_conflicts_36 rfl rfl ?_
        unfold m_cf
        rw [xfnd_i e1 (decide_eq_true ⟨q1, q2⟩) hin]
        exact ⟨rfl, rfl⟩
  refine xx_iconst (v := 0) e_M_conflicts_0 (by decide) ?_
  refine xx_istore_n e_M_conflicts_1 rfl rfl ?_
  exact loop _ 0 rfl (Nat.zero_le _) (fun i hi => absurd hi (Nat.not_lt_zero i))
end XModel2
