/-! The net's own questions: what each answers. -/
section XNet
variable {S : Nat × (Nat → Int32)} {V : xl_V} {d : Nat}
def n_en (V : xl_V) (t : Nat) (mk : Int32) : Int32 := if V.2.1 4 t &&& (mk ^^^ (-1)) = 0 then 1 else 0
theorem t_N_isEnabled {t mk : Int32} (ht : vp_in t 14) : xX S d 14 0 (xa_ent 3 [.ref 1, .int t, .int mk]) [] V 0 0 (xq (some (.int (n_en V t.toNatClampNeg mk))) (xl_H xlay V)) := by
  refine xx_aload_n e_N_isEnabled_0 rfl rfl ?_
  refine xh_getR e_N_isEnabled_1 fg_N_19 rfl rfl ?_
  refine xx_iload_n e_N_isEnabled_4 rfl rfl ?_
  refine xh_iald e_N_isEnabled_5 rfl (by first | assumption | decide | (refine vp_in_nI ?_ (by decide); omega)) ?_
  refine xx_iload_n e_N_isEnabled_6 rfl rfl ?_
  refine xx_iconst (v := (-1)) e_N_isEnabled_7 (by decide) ?_
  refine xx_ixor e_N_isEnabled_8 ?_
  refine xx_iand e_N_isEnabled_9 ?_
  refine xx_if_ne e_N_isEnabled_10 (fun q10 => ?_) (fun q10 => ?_)
  · refine xx_iconst (v := 0) e_N_isEnabled_17 (by decide) ?_
    refine xx_iret e_N_isEnabled_18 rfl rfl ?_
    exact ⟨by simp only [n_en, ↓reduceIte, *], rfl⟩
  · refine xx_iconst (v := 1) e_N_isEnabled_13 (by decide) ?_
    refine xx_goto e_N_isEnabled_14 ?_
    refine xx_iret e_N_isEnabled_18 rfl rfl ?_
    exact ⟨by simp only [n_en, ↓reduceIte, *], rfl⟩
def n_cd (V : xl_V) (t : Nat) (cd : Int32) : Int32 := if V.2.1 3 t = 0 then cd &&& (((1 : Int32) <<< (V.2.1 2 t &&& 31)) ^^^ (-1)) else cd ||| ((1 : Int32) <<< (V.2.1 2 t &&& 31))
theorem t_N_codeAfter {t cd : Int32} (ht : vp_in t 14) : xX S d 24 0 (xa_ent 4 [.ref 1, .int t, .int cd]) [] V 0 0 (xq (some (.int (n_cd V t.toNatClampNeg cd))) (xl_H xlay V)) := by
  refine xx_iconst (v := 1) e_N_codeAfter_0 (by decide) ?_
  refine xx_aload_n e_N_codeAfter_1 rfl rfl ?_
  refine xh_getR e_N_codeAfter_2 fg_N_9 rfl rfl ?_
  refine xx_iload_n e_N_codeAfter_5 rfl rfl ?_
  refine xh_iald e_N_codeAfter_6 rfl (by first | assumption | decide | (refine vp_in_nI ?_ (by decide); omega)) ?_
  refine xx_ishl e_N_codeAfter_7 ?_
  refine xx_istore_n e_N_codeAfter_8 rfl rfl ?_
  refine xx_aload_n e_N_codeAfter_9 rfl rfl ?_
  refine xh_getR e_N_codeAfter_10 fg_N_15 rfl rfl ?_
  refine xx_iload_n e_N_codeAfter_13 rfl rfl ?_
  refine xh_bald e_N_codeAfter_14 rfl (by first | assumption | decide | (refine vp_in_nI ?_ (by decide); omega)) ?_
  refine xx_if_eq e_N_codeAfter_15 (fun q15 => ?_) (fun q15 => ?_)
  · refine xx_iload_n e_N_codeAfter_24 rfl rfl ?_
    refine xx_iload_n e_N_codeAfter_25 rfl rfl ?_
    refine xx_iconst (v := (-1)) e_N_codeAfter_26 (by decide) ?_
    refine xx_ixor e_N_codeAfter_27 ?_
    refine xx_iand e_N_codeAfter_28 ?_
    refine xx_iret e_N_codeAfter_29 rfl rfl ?_
    exact ⟨by simp only [n_cd, ↓reduceIte, *], rfl⟩
  · refine xx_iload_n e_N_codeAfter_18 rfl rfl ?_
    refine xx_iload_n e_N_codeAfter_19 rfl rfl ?_
    refine xx_ior e_N_codeAfter_20 ?_
    refine xx_goto e_N_codeAfter_21 ?_
    refine xx_iret e_N_codeAfter_29 rfl rfl ?_
    exact ⟨by simp only [n_cd, ↓reduceIte, *], rfl⟩
def n_sf (V : xl_V) (t : Nat) (mk : Int32) : Int32 := if V.2.1 5 t &&& (V.2.1 4 t ^^^ (-1)) &&& mk = 0 then 1 else 0
theorem t_N_isSafe {t mk : Int32} (ht : vp_in t 14) : xX S d 20 0 (xa_ent 3 [.ref 1, .int t, .int mk]) [] V 0 0 (xq (some (.int (n_sf V t.toNatClampNeg mk))) (xl_H xlay V)) := by
  refine xx_aload_n e_N_isSafe_0 rfl rfl ?_
  refine xh_getR e_N_isSafe_1 fg_N_22 rfl rfl ?_
  refine xx_iload_n e_N_isSafe_4 rfl rfl ?_
  refine xh_iald e_N_isSafe_5 rfl (by first | assumption | decide | (refine vp_in_nI ?_ (by decide); omega)) ?_
  refine xx_aload_n e_N_isSafe_6 rfl rfl ?_
  refine xh_getR e_N_isSafe_7 fg_N_19 rfl rfl ?_
  refine xx_iload_n e_N_isSafe_10 rfl rfl ?_
  refine xh_iald e_N_isSafe_11 rfl (by first | assumption | decide | (refine vp_in_nI ?_ (by decide); omega)) ?_
  refine xx_iconst (v := (-1)) e_N_isSafe_12 (by decide) ?_
  refine xx_ixor e_N_isSafe_13 ?_
  refine xx_iand e_N_isSafe_14 ?_
  refine xx_iload_n e_N_isSafe_15 rfl rfl ?_
  refine xx_iand e_N_isSafe_16 ?_
  refine xx_if_ne e_N_isSafe_17 (fun q17 => ?_) (fun q17 => ?_)
  · refine xx_iconst (v := 0) e_N_isSafe_24 (by decide) ?_
    refine xx_iret e_N_isSafe_25 rfl rfl ?_
    exact ⟨by simp only [n_sf, ↓reduceIte, *], rfl⟩
  · refine xx_iconst (v := 1) e_N_isSafe_20 (by decide) ?_
    refine xx_goto e_N_isSafe_21 ?_
    refine xx_iret e_N_isSafe_25 rfl rfl ?_
    exact ⟨by simp only [n_sf, ↓reduceIte, *], rfl⟩
def n_lv (V : xl_V) (t : Nat) : Int32 := if V.2.1 3 t = 0 then 0 else 1
theorem t_N_levelAfter {t : Int32} (ht : vp_in t 14) : xX S d 17 0 (xa_ent 2 [.ref 1, .int t]) [] V 0 0 (xq (some (.int (n_lv V t.toNatClampNeg))) (xl_H xlay V)) := by
  refine xx_aload_n e_N_levelAfter_0 rfl rfl ?_
  refine xh_getR e_N_levelAfter_1 fg_N_15 rfl rfl ?_
  refine xx_iload_n e_N_levelAfter_4 rfl rfl ?_
  refine xh_bald e_N_levelAfter_5 rfl (by first | assumption | decide | (refine vp_in_nI ?_ (by decide); omega)) ?_
  refine xx_if_eq e_N_levelAfter_6 (fun q6 => ?_) (fun q6 => ?_)
  · refine xx_iconst (v := 0) e_N_levelAfter_13 (by decide) ?_
    refine xx_iret e_N_levelAfter_14 rfl rfl ?_
    exact ⟨by simp only [n_lv, ↓reduceIte, *], rfl⟩
  · refine xx_iconst (v := 1) e_N_levelAfter_9 (by decide) ?_
    refine xx_goto e_N_levelAfter_10 ?_
    refine xx_iret e_N_levelAfter_14 rfl rfl ?_
    exact ⟨by simp only [n_lv, ↓reduceIte, *], rfl⟩
theorem t_N_signalOf {t : Int32} (ht : vp_in t 14) : xX S d 18 0 (xa_ent 2 [.ref 1, .int t]) [] V 0 0 (xq (some (.int (V.2.1 2 t.toNatClampNeg))) (xl_H xlay V)) := by
  refine xx_aload_n e_N_signalOf_0 rfl rfl ?_
  refine xh_getR e_N_signalOf_1 fg_N_9 rfl rfl ?_
  refine xx_iload_n e_N_signalOf_4 rfl rfl ?_
  refine xh_iald e_N_signalOf_5 rfl (by first | assumption | decide | (refine vp_in_nI ?_ (by decide); omega)) ?_
  refine xx_iret e_N_signalOf_6 rfl rfl ?_
  exact ⟨rfl, rfl⟩
def n_rt (V : xl_V) (t : Nat) (cd : Int32) : Int32 := if (cd >>> (V.2.1 2 t &&& 31)) &&& 1 = n_lv V t then 0 else 1
theorem t_N_isRight {t cd : Int32} (ht : vp_in t 14) : xX S (d + 1) 21 0 (xa_ent 3 [.ref 1, .int t, .int cd]) [] V 0 0 (xq (some (.int (n_rt V t.toNatClampNeg cd))) (xl_H xlay V)) := by
  refine xx_iload_n e_N_isRight_0 rfl rfl ?_
  refine xx_aload_n e_N_isRight_1 rfl rfl ?_
  refine xh_getR e_N_isRight_2 fg_N_9 rfl rfl ?_
  refine xx_iload_n e_N_isRight_5 rfl rfl ?_
  refine xh_iald e_N_isRight_6 rfl (by first | assumption | decide | (refine vp_in_nI ?_ (by decide); omega)) ?_
  refine xx_ishr e_N_isRight_7 ?_
  refine xx_iconst (v := 1) e_N_isRight_8 (by decide) ?_
  refine xx_iand e_N_isRight_9 ?_
  refine xx_aload_n e_N_isRight_10 rfl rfl ?_
  refine xx_iload_n e_N_isRight_11 rfl rfl ?_
  refine xc_V1i e_N_isRight_12 kv_N_47 (xl_obj rfl) (t_N_levelAfter ht) ?_
  refine xx_icmp_eq e_N_isRight_15 (fun q15 => ?_) (fun q15 => ?_)
  · refine xx_iconst (v := 0) e_N_isRight_22 (by decide) ?_
    refine xx_iret e_N_isRight_23 rfl rfl ?_
    exact ⟨by simp only [n_rt, ↓reduceIte, *], rfl⟩
  · refine xx_iconst (v := 1) e_N_isRight_18 (by decide) ?_
    refine xx_goto e_N_isRight_19 ?_
    refine xx_iret e_N_isRight_23 rfl rfl ?_
    exact ⟨by simp only [n_rt, ↓reduceIte, *], rfl⟩
def n_mk (V : xl_V) (t : Nat) (mk : Int32) : Int32 := mk &&& (V.2.1 4 t ^^^ (-1)) ||| V.2.1 5 t
theorem t_N_markingAfter {t mk : Int32} (ht : vp_in t 14) : xX S d 23 0 (xa_ent 3 [.ref 1, .int t, .int mk]) [] V 0 0 (xq (some (.int (n_mk V t.toNatClampNeg mk))) (xl_H xlay V)) := by
  refine xx_iload_n e_N_markingAfter_0 rfl rfl ?_
  refine xx_aload_n e_N_markingAfter_1 rfl rfl ?_
  refine xh_getR e_N_markingAfter_2 fg_N_19 rfl rfl ?_
  refine xx_iload_n e_N_markingAfter_5 rfl rfl ?_
  refine xh_iald e_N_markingAfter_6 rfl (by first | assumption | decide | (refine vp_in_nI ?_ (by decide); omega)) ?_
  refine xx_iconst (v := (-1)) e_N_markingAfter_7 (by decide) ?_
  refine xx_ixor e_N_markingAfter_8 ?_
  refine xx_iand e_N_markingAfter_9 ?_
  refine xx_aload_n e_N_markingAfter_10 rfl rfl ?_
  refine xh_getR e_N_markingAfter_11 fg_N_22 rfl rfl ?_
  refine xx_iload_n e_N_markingAfter_14 rfl rfl ?_
  refine xh_iald e_N_markingAfter_15 rfl (by first | assumption | decide | (refine vp_in_nI ?_ (by decide); omega)) ?_
  refine xx_ior e_N_markingAfter_16 ?_
  refine xx_iret e_N_markingAfter_17 rfl rfl ?_
  exact ⟨rfl, rfl⟩
def n_eb (V : xl_V) (t : Nat) : Int32 := (1 : Int32) <<< ((2 * V.2.1 2 t + n_lv V t) &&& 31)
theorem t_N_edgeBit {t : Int32} (ht : vp_in t 14) : xX S (d + 1) 16 0 (xa_ent 2 [.ref 1, .int t]) [] V 0 0 (xq (some (.int (n_eb V t.toNatClampNeg))) (xl_H xlay V)) := by
  refine xx_iconst (v := 1) e_N_edgeBit_0 (by decide) ?_
  refine xx_iconst (v := 2) e_N_edgeBit_1 (by decide) ?_
  refine xx_aload_n e_N_edgeBit_2 rfl rfl ?_
  refine xh_getR e_N_edgeBit_3 fg_N_9 rfl rfl ?_
  refine xx_iload_n e_N_edgeBit_6 rfl rfl ?_
  refine xh_iald e_N_edgeBit_7 rfl (by first | assumption | decide | (refine vp_in_nI ?_ (by decide); omega)) ?_
  refine xx_imul e_N_edgeBit_8 ?_
  refine xx_aload_n e_N_edgeBit_9 rfl rfl ?_
  refine xx_iload_n e_N_edgeBit_10 rfl rfl ?_
  refine xc_V1i e_N_edgeBit_11 kv_N_47 (xl_obj rfl) (t_N_levelAfter ht) ?_
  refine xx_iadd e_N_edgeBit_14 ?_
  refine xx_ishl e_N_edgeBit_15 ?_
  refine xx_iret e_N_edgeBit_16 rfl rfl ?_
  exact ⟨rfl, rfl⟩
def n_in (V : xl_V) (s : Int32) : Int32 := if (V.1 1 6 >>> (s &&& 31)) &&& 1 = 1 then 1 else 0
theorem t_N_isInput {s : Int32} : xX S d 19 0 (xa_ent 2 [.ref 1, .int s]) [] V 0 0 (xq (some (.int (n_in V s))) (xl_H xlay V)) := by
  refine xx_aload_n e_N_isInput_0 rfl rfl ?_
  refine xh_get e_N_isInput_1 fg_N_29 rfl rfl ?_
  refine xx_iload_n e_N_isInput_4 rfl rfl ?_
  refine xx_ishr e_N_isInput_5 ?_
  refine xx_iconst (v := 1) e_N_isInput_6 (by decide) ?_
  refine xx_iand e_N_isInput_7 ?_
  refine xx_iconst (v := 1) e_N_isInput_8 (by decide) ?_
  refine xx_icmp_ne e_N_isInput_9 (fun q9 => ?_) (fun q9 => ?_)
  · refine xx_iconst (v := 0) e_N_isInput_16 (by decide) ?_
    refine xx_iret e_N_isInput_17 rfl rfl ?_
    exact ⟨by simp only [n_in, ↓reduceIte, *], rfl⟩
  · refine xx_iconst (v := 1) e_N_isInput_12 (by decide) ?_
    refine xx_goto e_N_isInput_13 ?_
    refine xx_iret e_N_isInput_17 rfl rfl ?_
    exact ⟨by simp only [n_in, ↓reduceIte, *], rfl⟩
def n_ha (V : xl_V) (p : Int32) (t : Nat) (b : Int32) : Int32 := if ((if b = 0 then V.2.1 4 t else V.2.1 5 t) >>> (p &&& 31)) &&& 1 = 1 then 1 else 0
theorem t_N_hasArc {p t b : Int32} (ht : vp_in t 14) : xX S d 43 0 (xa_ent 5 [.ref 1, .int p, .int t, .int b]) [] V 0 0 (xq (some (.int (n_ha V p t.toNatClampNeg b))) (xl_H xlay V)) := by
  refine xx_iload_n e_N_hasArc_0 rfl rfl ?_
  refine xx_if_eq e_N_hasArc_1 (fun q1 => ?_) (fun q1 => ?_)
  · refine xx_aload_n e_N_hasArc_13 rfl rfl ?_
    refine xh_getR e_N_hasArc_14 fg_N_19 rfl rfl ?_
    refine xx_iload_n e_N_hasArc_17 rfl rfl ?_
    refine xh_iald e_N_hasArc_18 rfl (by first | assumption | decide | (refine vp_in_nI ?_ (by decide); omega)) ?_
    refine xx_istore e_N_hasArc_19 rfl ?_
    refine xx_iload e_N_hasArc_21 rfl ?_
    refine xx_iload_n e_N_hasArc_23 rfl rfl ?_
    refine xx_ishr e_N_hasArc_24 ?_
    refine xx_iconst (v := 1) e_N_hasArc_25 (by decide) ?_
    refine xx_iand e_N_hasArc_26 ?_
    refine xx_iconst (v := 1) e_N_hasArc_27 (by decide) ?_
    refine xx_icmp_ne e_N_hasArc_28 (fun q28 => ?_) (fun q28 => ?_)
    · refine xx_iconst (v := 0) e_N_hasArc_35 (by decide) ?_
      refine xx_iret e_N_hasArc_36 rfl rfl ?_
      exact ⟨by simp only [n_ha, ↓reduceIte, *], rfl⟩
    · refine xx_iconst (v := 1) e_N_hasArc_31 (by decide) ?_
      refine xx_goto e_N_hasArc_32 ?_
      refine xx_iret e_N_hasArc_36 rfl rfl ?_
      exact ⟨by simp only [n_ha, ↓reduceIte, *], rfl⟩
  · refine xx_aload_n e_N_hasArc_4 rfl rfl ?_
    refine xh_getR e_N_hasArc_5 fg_N_22 rfl rfl ?_
    refine xx_iload_n e_N_hasArc_8 rfl rfl ?_
    refine xh_iald e_N_hasArc_9 rfl (by first | assumption | decide | (refine vp_in_nI ?_ (by decide); omega)) ?_
    refine xx_goto e_N_hasArc_10 ?_
    refine xx_istore e_N_hasArc_19 rfl ?_
    refine xx_iload e_N_hasArc_21 rfl ?_
    refine xx_iload_n e_N_hasArc_23 rfl rfl ?_
    refine xx_ishr e_N_hasArc_24 ?_
    refine xx_iconst (v := 1) e_N_hasArc_25 (by decide) ?_
    refine xx_iand e_N_hasArc_26 ?_
    refine xx_iconst (v := 1) e_N_hasArc_27 (by decide) ?_
    refine xx_icmp_ne e_N_hasArc_28 (fun q28 => ?_) (fun q28 => ?_)
    · refine xx_iconst (v := 0) e_N_hasArc_35 (by decide) ?_
      refine xx_iret e_N_hasArc_36 rfl rfl ?_
      exact ⟨by simp only [n_ha, ↓reduceIte, *], rfl⟩
    · refine xx_iconst (v := 1) e_N_hasArc_31 (by decide) ?_
      refine xx_goto e_N_hasArc_32 ?_
      refine xx_iret e_N_hasArc_36 rfl rfl ?_
      exact ⟨by simp only [n_ha, ↓reduceIte, *], rfl⟩
def n_as (V : xl_V) (i h : Int32) : xl_V := xl_i (xl_i (xl_i (xl_i V 1 6 (V.1 1 6 ||| (if i = 0 then (0 : Int32) else (1 : Int32) <<< (V.1 1 0 &&& 31)))) 1 5 (V.1 1 5 ||| (if i = 0 then (3 : Int32) <<< ((2 * V.1 1 0) &&& 31) else 0))) 1 3 (V.1 1 3 ||| (if h = 0 then (0 : Int32) else (1 : Int32) <<< (V.1 1 0 &&& 31)))) 1 0 (V.1 1 0 + 1)
theorem t_N_addSignal {i h : Int32} : xX S d 33 0 (xa_ent 4 [.ref 1, .int i, .int h]) [] V 0 0 (xq (some (.int (V.1 1 0 + 1 - 1))) (xl_H xlay (n_as V i h))) := by
  refine xx_iconst (v := 1) e_N_addSignal_0 (by decide) ?_
  refine xx_aload_n e_N_addSignal_1 rfl rfl ?_
  refine xh_get e_N_addSignal_2 fg_N_25 rfl rfl ?_
  refine xx_ishl e_N_addSignal_5 ?_
  refine xx_istore_n e_N_addSignal_6 rfl rfl ?_
  refine xx_aload_n e_N_addSignal_7 rfl rfl ?_
  refine xx_dup e_N_addSignal_8 rfl ?_
  refine xh_get e_N_addSignal_9 fg_N_29 rfl rfl ?_
  refine xx_iload_n e_N_addSignal_12 rfl rfl ?_
  refine xx_if_eq e_N_addSignal_13 (fun q13 => ?_) (fun q13 => ?_)
  · refine xx_iconst (v := 0) e_N_addSignal_20 (by decide) ?_
    refine xx_ior e_N_addSignal_21 ?_
    refine xh_put e_N_addSignal_22 fp_N_29 rfl rfl ⟨rfl, rfl⟩ ?_
    refine xx_aload_n e_N_addSignal_25 rfl rfl ?_
    refine xx_dup e_N_addSignal_26 rfl ?_
    refine xh_get e_N_addSignal_27 fg_N_32 rfl rfl ?_
    refine xx_iload_n e_N_addSignal_30 rfl rfl ?_
    refine xx_if_eq e_N_addSignal_31 (fun q31 => ?_) (fun q31 => ?_)
    · refine xx_iconst (v := 3) e_N_addSignal_38 (by decide) ?_
      refine xx_iconst (v := 2) e_N_addSignal_39 (by decide) ?_
      refine xx_aload_n e_N_addSignal_40 rfl rfl ?_
      refine xh_get e_N_addSignal_41 fg_N_25 rfl rfl ?_
      refine xx_imul e_N_addSignal_44 ?_
      refine xx_ishl e_N_addSignal_45 ?_
      refine xx_ior e_N_addSignal_46 ?_
      refine xh_put e_N_addSignal_47 fp_N_32 rfl rfl ⟨rfl, rfl⟩ ?_
      refine xx_aload_n e_N_addSignal_50 rfl rfl ?_
      refine xx_dup e_N_addSignal_51 rfl ?_
      refine xh_get e_N_addSignal_52 fg_N_35 rfl rfl ?_
      refine xx_iload_n e_N_addSignal_55 rfl rfl ?_
      refine xx_if_eq e_N_addSignal_56 (fun q56 => ?_) (fun q56 => ?_)
      · refine xx_iconst (v := 0) e_N_addSignal_63 (by decide) ?_
        refine xx_ior e_N_addSignal_64 ?_
        refine xh_put e_N_addSignal_65 fp_N_35 rfl rfl ⟨rfl, rfl⟩ ?_
        refine xx_aload_n e_N_addSignal_68 rfl rfl ?_
        refine xx_dup e_N_addSignal_69 rfl ?_
        refine xh_get e_N_addSignal_70 fg_N_25 rfl rfl ?_
        refine xx_iconst (v := 1) e_N_addSignal_73 (by decide) ?_
        refine xx_iadd e_N_addSignal_74 ?_
        refine xh_put e_N_addSignal_75 fp_N_25 rfl rfl ⟨rfl, rfl⟩ ?_
        refine xx_aload_n e_N_addSignal_78 rfl rfl ?_
        refine xh_get e_N_addSignal_79 fg_N_25 rfl rfl ?_
        refine xx_iconst (v := 1) e_N_addSignal_82 (by decide) ?_
        refine xx_isub e_N_addSignal_83 ?_
        refine xx_iret e_N_addSignal_84 rfl rfl ?_
        first | contradiction | exact ⟨rfl, by simp only [n_as, ↓reduceIte, *]; rfl⟩
      · refine xx_iload_n e_N_addSignal_59 rfl rfl ?_
        refine xx_goto e_N_addSignal_60 ?_
        refine xx_ior e_N_addSignal_64 ?_
        refine xh_put e_N_addSignal_65 fp_N_35 rfl rfl ⟨rfl, rfl⟩ ?_
        refine xx_aload_n e_N_addSignal_68 rfl rfl ?_
        refine xx_dup e_N_addSignal_69 rfl ?_
        refine xh_get e_N_addSignal_70 fg_N_25 rfl rfl ?_
        refine xx_iconst (v := 1) e_N_addSignal_73 (by decide) ?_
        refine xx_iadd e_N_addSignal_74 ?_
        refine xh_put e_N_addSignal_75 fp_N_25 rfl rfl ⟨rfl, rfl⟩ ?_
        refine xx_aload_n e_N_addSignal_78 rfl rfl ?_
        refine xh_get e_N_addSignal_79 fg_N_25 rfl rfl ?_
        refine xx_iconst (v := 1) e_N_addSignal_82 (by decide) ?_
        refine xx_isub e_N_addSignal_83 ?_
        refine xx_iret e_N_addSignal_84 rfl rfl ?_
        first | contradiction | exact ⟨rfl, by simp only [n_as, ↓reduceIte, *]; rfl⟩
    · refine xx_iconst (v := 0) e_N_addSignal_34 (by decide) ?_
      refine xx_goto e_N_addSignal_35 ?_
      refine xx_ior e_N_addSignal_46 ?_
      refine xh_put e_N_addSignal_47 fp_N_32 rfl rfl ⟨rfl, rfl⟩ ?_
      refine xx_aload_n e_N_addSignal_50 rfl rfl ?_
      refine xx_dup e_N_addSignal_51 rfl ?_
      refine xh_get e_N_addSignal_52 fg_N_35 rfl rfl ?_
      refine xx_iload_n e_N_addSignal_55 rfl rfl ?_
      refine xx_if_eq e_N_addSignal_56 (fun q56 => ?_) (fun q56 => ?_)
      · refine xx_iconst (v := 0) e_N_addSignal_63 (by decide) ?_
        refine xx_ior e_N_addSignal_64 ?_
        refine xh_put e_N_addSignal_65 fp_N_35 rfl rfl ⟨rfl, rfl⟩ ?_
        refine xx_aload_n e_N_addSignal_68 rfl rfl ?_
        refine xx_dup e_N_addSignal_69 rfl ?_
        refine xh_get e_N_addSignal_70 fg_N_25 rfl rfl ?_
        refine xx_iconst (v := 1) e_N_addSignal_73 (by decide) ?_
        refine xx_iadd e_N_addSignal_74 ?_
        refine xh_put e_N_addSignal_75 fp_N_25 rfl rfl ⟨rfl, rfl⟩ ?_
        refine xx_aload_n e_N_addSignal_78 rfl rfl ?_
        refine xh_get e_N_addSignal_79 fg_N_25 rfl rfl ?_
        refine xx_iconst (v := 1) e_N_addSignal_82 (by decide) ?_
        refine xx_isub e_N_addSignal_83 ?_
        refine xx_iret e_N_addSignal_84 rfl rfl ?_
        first | contradiction | exact ⟨rfl, by simp only [n_as, ↓reduceIte, *]; rfl⟩
      · refine xx_iload_n e_N_addSignal_59 rfl rfl ?_
        refine xx_goto e_N_addSignal_60 ?_
        refine xx_ior e_N_addSignal_64 ?_
        refine xh_put e_N_addSignal_65 fp_N_35 rfl rfl ⟨rfl, rfl⟩ ?_
        refine xx_aload_n e_N_addSignal_68 rfl rfl ?_
        refine xx_dup e_N_addSignal_69 rfl ?_
        refine xh_get e_N_addSignal_70 fg_N_25 rfl rfl ?_
        refine xx_iconst (v := 1) e_N_addSignal_73 (by decide) ?_
        refine xx_iadd e_N_addSignal_74 ?_
        refine xh_put e_N_addSignal_75 fp_N_25 rfl rfl ⟨rfl, rfl⟩ ?_
        refine xx_aload_n e_N_addSignal_78 rfl rfl ?_
        refine xh_get e_N_addSignal_79 fg_N_25 rfl rfl ?_
        refine xx_iconst (v := 1) e_N_addSignal_82 (by decide) ?_
        refine xx_isub e_N_addSignal_83 ?_
        refine xx_iret e_N_addSignal_84 rfl rfl ?_
        first | contradiction | exact ⟨rfl, by simp only [n_as, ↓reduceIte, *]; rfl⟩
  · refine xx_iload_n e_N_addSignal_16 rfl rfl ?_
    refine xx_goto e_N_addSignal_17 ?_
    refine xx_ior e_N_addSignal_21 ?_
    refine xh_put e_N_addSignal_22 fp_N_29 rfl rfl ⟨rfl, rfl⟩ ?_
    refine xx_aload_n e_N_addSignal_25 rfl rfl ?_
    refine xx_dup e_N_addSignal_26 rfl ?_
    refine xh_get e_N_addSignal_27 fg_N_32 rfl rfl ?_
    refine xx_iload_n e_N_addSignal_30 rfl rfl ?_
    refine xx_if_eq e_N_addSignal_31 (fun q31 => ?_) (fun q31 => ?_)
    · refine xx_iconst (v := 3) e_N_addSignal_38 (by decide) ?_
      refine xx_iconst (v := 2) e_N_addSignal_39 (by decide) ?_
      refine xx_aload_n e_N_addSignal_40 rfl rfl ?_
      refine xh_get e_N_addSignal_41 fg_N_25 rfl rfl ?_
      refine xx_imul e_N_addSignal_44 ?_
      refine xx_ishl e_N_addSignal_45 ?_
      refine xx_ior e_N_addSignal_46 ?_
      refine xh_put e_N_addSignal_47 fp_N_32 rfl rfl ⟨rfl, rfl⟩ ?_
      refine xx_aload_n e_N_addSignal_50 rfl rfl ?_
      refine xx_dup e_N_addSignal_51 rfl ?_
      refine xh_get e_N_addSignal_52 fg_N_35 rfl rfl ?_
      refine xx_iload_n e_N_addSignal_55 rfl rfl ?_
      refine xx_if_eq e_N_addSignal_56 (fun q56 => ?_) (fun q56 => ?_)
      · refine xx_iconst (v := 0) e_N_addSignal_63 (by decide) ?_
        refine xx_ior e_N_addSignal_64 ?_
        refine xh_put e_N_addSignal_65 fp_N_35 rfl rfl ⟨rfl, rfl⟩ ?_
        refine xx_aload_n e_N_addSignal_68 rfl rfl ?_
        refine xx_dup e_N_addSignal_69 rfl ?_
        refine xh_get e_N_addSignal_70 fg_N_25 rfl rfl ?_
        refine xx_iconst (v := 1) e_N_addSignal_73 (by decide) ?_
        refine xx_iadd e_N_addSignal_74 ?_
        refine xh_put e_N_addSignal_75 fp_N_25 rfl rfl ⟨rfl, rfl⟩ ?_
        refine xx_aload_n e_N_addSignal_78 rfl rfl ?_
        refine xh_get e_N_addSignal_79 fg_N_25 rfl rfl ?_
        refine xx_iconst (v := 1) e_N_addSignal_82 (by decide) ?_
        refine xx_isub e_N_addSignal_83 ?_
        refine xx_iret e_N_addSignal_84 rfl rfl ?_
        first | contradiction | exact ⟨rfl, by simp only [n_as, ↓reduceIte, *]; rfl⟩
      · refine xx_iload_n e_N_addSignal_59 rfl rfl ?_
        refine xx_goto e_N_addSignal_60 ?_
        refine xx_ior e_N_addSignal_64 ?_
        refine xh_put e_N_addSignal_65 fp_N_35 rfl rfl ⟨rfl, rfl⟩ ?_
        refine xx_aload_n e_N_addSignal_68 rfl rfl ?_
        refine xx_dup e_N_addSignal_69 rfl ?_
        refine xh_get e_N_addSignal_70 fg_N_25 rfl rfl ?_
        refine xx_iconst (v := 1) e_N_addSignal_73 (by decide) ?_
        refine xx_iadd e_N_addSignal_74 ?_
        refine xh_put e_N_addSignal_75 fp_N_25 rfl rfl ⟨rfl, rfl⟩ ?_
        refine xx_aload_n e_N_addSignal_78 rfl rfl ?_
        refine xh_get e_N_addSignal_79 fg_N_25 rfl rfl ?_
        refine xx_iconst (v := 1) e_N_addSignal_82 (by decide) ?_
        refine xx_isub e_N_addSignal_83 ?_
        refine xx_iret e_N_addSignal_84 rfl rfl ?_
        first | contradiction | exact ⟨rfl, by simp only [n_as, ↓reduceIte, *]; rfl⟩
    · refine xx_iconst (v := 0) e_N_addSignal_34 (by decide) ?_
      refine xx_goto e_N_addSignal_35 ?_
      refine xx_ior e_N_addSignal_46 ?_
      refine xh_put e_N_addSignal_47 fp_N_32 rfl rfl ⟨rfl, rfl⟩ ?_
      refine xx_aload_n e_N_addSignal_50 rfl rfl ?_
      refine xx_dup e_N_addSignal_51 rfl ?_
      refine xh_get e_N_addSignal_52 fg_N_35 rfl rfl ?_
      refine xx_iload_n e_N_addSignal_55 rfl rfl ?_
      refine xx_if_eq e_N_addSignal_56 (fun q56 => ?_) (fun q56 => ?_)
      · refine xx_iconst (v := 0) e_N_addSignal_63 (by decide) ?_
        refine xx_ior e_N_addSignal_64 ?_
        refine xh_put e_N_addSignal_65 fp_N_35 rfl rfl ⟨rfl, rfl⟩ ?_
        refine xx_aload_n e_N_addSignal_68 rfl rfl ?_
        refine xx_dup e_N_addSignal_69 rfl ?_
        refine xh_get e_N_addSignal_70 fg_N_25 rfl rfl ?_
        refine xx_iconst (v := 1) e_N_addSignal_73 (by decide) ?_
        refine xx_iadd e_N_addSignal_74 ?_
        refine xh_put e_N_addSignal_75 fp_N_25 rfl rfl ⟨rfl, rfl⟩ ?_
        refine xx_aload_n e_N_addSignal_78 rfl rfl ?_
        refine xh_get e_N_addSignal_79 fg_N_25 rfl rfl ?_
        refine xx_iconst (v := 1) e_N_addSignal_82 (by decide) ?_
        refine xx_isub e_N_addSignal_83 ?_
        refine xx_iret e_N_addSignal_84 rfl rfl ?_
        first | contradiction | exact ⟨rfl, by simp only [n_as, ↓reduceIte, *]; rfl⟩
      · refine xx_iload_n e_N_addSignal_59 rfl rfl ?_
        refine xx_goto e_N_addSignal_60 ?_
        refine xx_ior e_N_addSignal_64 ?_
        refine xh_put e_N_addSignal_65 fp_N_35 rfl rfl ⟨rfl, rfl⟩ ?_
        refine xx_aload_n e_N_addSignal_68 rfl rfl ?_
        refine xx_dup e_N_addSignal_69 rfl ?_
        refine xh_get e_N_addSignal_70 fg_N_25 rfl rfl ?_
        refine xx_iconst (v := 1) e_N_addSignal_73 (by decide) ?_
        refine xx_iadd e_N_addSignal_74 ?_
        refine xh_put e_N_addSignal_75 fp_N_25 rfl rfl ⟨rfl, rfl⟩ ?_
        refine xx_aload_n e_N_addSignal_78 rfl rfl ?_
        refine xh_get e_N_addSignal_79 fg_N_25 rfl rfl ?_
        refine xx_iconst (v := 1) e_N_addSignal_82 (by decide) ?_
        refine xx_isub e_N_addSignal_83 ?_
        refine xx_iret e_N_addSignal_84 rfl rfl ?_
        first | contradiction | exact ⟨rfl, by simp only [n_as, ↓reduceIte, *]; rfl⟩
def n_ae (V : xl_V) (s r : Int32) : xl_V := xl_i (xl_a (xl_a V 2 (upd (V.2.1 2) (V.1 1 1).toNatClampNeg s)) 3 (upd (V.2.1 3) (V.1 1 1).toNatClampNeg (vp_nar .boolean r))) 1 1 (V.1 1 1 + 1)
theorem t_N_addEdge {s r : Int32} (he : vp_in (V.1 1 1) 14) : xX S d 37 0 (xa_ent 3 [.ref 1, .int s, .int r]) [] V 0 0 (xq (some (.int (V.1 1 1 + 1 - 1))) (xl_H xlay (n_ae V s r))) := by
  refine xx_aload_n e_N_addEdge_0 rfl rfl ?_
  refine xh_getR e_N_addEdge_1 fg_N_9 rfl rfl ?_
  refine xx_aload_n e_N_addEdge_4 rfl rfl ?_
  refine xh_get e_N_addEdge_5 fg_N_38 rfl rfl ?_
  refine xx_iload_n e_N_addEdge_8 rfl rfl ?_
  refine xh_iast e_N_addEdge_9 rfl (by first | assumption | decide | (refine vp_in_nI ?_ (by decide); omega)) ?_
  refine xx_aload_n e_N_addEdge_10 rfl rfl ?_
  refine xh_getR e_N_addEdge_11 fg_N_15 rfl rfl ?_
  refine xx_aload_n e_N_addEdge_14 rfl rfl ?_
  refine xh_get e_N_addEdge_15 fg_N_38 rfl rfl ?_
  refine xx_iload_n e_N_addEdge_18 rfl rfl ?_
  refine xh_bast e_N_addEdge_19 rfl (by first | assumption | decide | (refine vp_in_nI ?_ (by decide); omega)) ?_
  refine xx_aload_n e_N_addEdge_20 rfl rfl ?_
  refine xx_dup e_N_addEdge_21 rfl ?_
  refine xh_get e_N_addEdge_22 fg_N_38 rfl rfl ?_
  refine xx_iconst (v := 1) e_N_addEdge_25 (by decide) ?_
  refine xx_iadd e_N_addEdge_26 ?_
  refine xh_put e_N_addEdge_27 fp_N_38 rfl rfl ⟨rfl, rfl⟩ ?_
  refine xx_aload_n e_N_addEdge_30 rfl rfl ?_
  refine xh_get e_N_addEdge_31 fg_N_38 rfl rfl ?_
  refine xx_iconst (v := 1) e_N_addEdge_34 (by decide) ?_
  refine xx_isub e_N_addEdge_35 ?_
  refine xx_iret e_N_addEdge_36 rfl rfl ?_
  exact ⟨rfl, rfl⟩
def n_ap (V : xl_V) (b : Int32) : xl_V := xl_i (xl_i V 1 4 (V.1 1 4 ||| (if b = 0 then (0 : Int32) else (1 : Int32) <<< (V.1 1 2 &&& 31)))) 1 2 (V.1 1 2 + 1)
theorem t_N_addPlace {b : Int32} : xX S d 40 0 (xa_ent 2 [.ref 1, .int b]) [] V 0 0 (xq (some (.int (V.1 1 2 + 1 - 1))) (xl_H xlay (n_ap V b))) := by
  refine xx_aload_n e_N_addPlace_0 rfl rfl ?_
  refine xx_dup e_N_addPlace_1 rfl ?_
  refine xh_get e_N_addPlace_2 fg_N_41 rfl rfl ?_
  refine xx_iload_n e_N_addPlace_5 rfl rfl ?_
  refine xx_if_eq e_N_addPlace_6 (fun q6 => ?_) (fun q6 => ?_)
  · refine xx_iconst (v := 0) e_N_addPlace_18 (by decide) ?_
    refine xx_ior e_N_addPlace_19 ?_
    refine xh_put e_N_addPlace_20 fp_N_41 rfl rfl ⟨rfl, rfl⟩ ?_
    refine xx_aload_n e_N_addPlace_23 rfl rfl ?_
    refine xx_dup e_N_addPlace_24 rfl ?_
    refine xh_get e_N_addPlace_25 fg_N_44 rfl rfl ?_
    refine xx_iconst (v := 1) e_N_addPlace_28 (by decide) ?_
    refine xx_iadd e_N_addPlace_29 ?_
    refine xh_put e_N_addPlace_30 fp_N_44 rfl rfl ⟨rfl, rfl⟩ ?_
    refine xx_aload_n e_N_addPlace_33 rfl rfl ?_
    refine xh_get e_N_addPlace_34 fg_N_44 rfl rfl ?_
    refine xx_iconst (v := 1) e_N_addPlace_37 (by decide) ?_
    refine xx_isub e_N_addPlace_38 ?_
    refine xx_iret e_N_addPlace_39 rfl rfl ?_
    exact ⟨rfl, by simp only [n_ap, ↓reduceIte, *]; rfl⟩
  · refine xx_iconst (v := 1) e_N_addPlace_9 (by decide) ?_
    refine xx_aload_n e_N_addPlace_10 rfl rfl ?_
    refine xh_get e_N_addPlace_11 fg_N_44 rfl rfl ?_
    refine xx_ishl e_N_addPlace_14 ?_
    refine xx_goto e_N_addPlace_15 ?_
    refine xx_ior e_N_addPlace_19 ?_
    refine xh_put e_N_addPlace_20 fp_N_41 rfl rfl ⟨rfl, rfl⟩ ?_
    refine xx_aload_n e_N_addPlace_23 rfl rfl ?_
    refine xx_dup e_N_addPlace_24 rfl ?_
    refine xh_get e_N_addPlace_25 fg_N_44 rfl rfl ?_
    refine xx_iconst (v := 1) e_N_addPlace_28 (by decide) ?_
    refine xx_iadd e_N_addPlace_29 ?_
    refine xh_put e_N_addPlace_30 fp_N_44 rfl rfl ⟨rfl, rfl⟩ ?_
    refine xx_aload_n e_N_addPlace_33 rfl rfl ?_
    refine xh_get e_N_addPlace_34 fg_N_44 rfl rfl ?_
    refine xx_iconst (v := 1) e_N_addPlace_37 (by decide) ?_
    refine xx_isub e_N_addPlace_38 ?_
    refine xx_iret e_N_addPlace_39 rfl rfl ?_
    exact ⟨rfl, by simp only [n_ap, ↓reduceIte, *]; rfl⟩
def n_aa (V : xl_V) (p : Int32) (t : Nat) (b : Int32) : xl_V := if b = 0 then xl_a V 4 (upd (V.2.1 4) t (V.2.1 4 t ||| ((1 : Int32) <<< (p &&& 31)))) else xl_a V 5 (upd (V.2.1 5) t (V.2.1 5 t ||| ((1 : Int32) <<< (p &&& 31))))
theorem t_N_addArc {p t b : Int32} (ht : vp_in t 14) : xX S d 44 0 (xa_ent 4 [.ref 1, .int p, .int t, .int b]) [] V 0 0 (xq none (xl_H xlay (n_aa V p t.toNatClampNeg b))) := by
  refine xx_iload_n e_N_addArc_0 rfl rfl ?_
  refine xx_if_eq e_N_addArc_1 (fun q1 => ?_) (fun q1 => ?_)
  · refine xx_aload_n e_N_addArc_19 rfl rfl ?_
    refine xh_getR e_N_addArc_20 fg_N_19 rfl rfl ?_
    refine xx_iload_n e_N_addArc_23 rfl rfl ?_
    refine xx_dup2 e_N_addArc_24 rfl rfl ?_
    refine xh_iald e_N_addArc_25 rfl (by first | assumption | decide | (refine vp_in_nI ?_ (by decide); omega)) ?_
    refine xx_iconst (v := 1) e_N_addArc_26 (by decide) ?_
    refine xx_iload_n e_N_addArc_27 rfl rfl ?_
    refine xx_ishl e_N_addArc_28 ?_
    refine xx_ior e_N_addArc_29 ?_
    refine xh_iast e_N_addArc_30 rfl (by first | assumption | decide | (refine vp_in_nI ?_ (by decide); omega)) ?_
    refine xx_vret e_N_addArc_31 rfl ?_
    exact ⟨rfl, by simp only [n_aa, ↓reduceIte, *]⟩
  · refine xx_aload_n e_N_addArc_4 rfl rfl ?_
    refine xh_getR e_N_addArc_5 fg_N_22 rfl rfl ?_
    refine xx_iload_n e_N_addArc_8 rfl rfl ?_
    refine xx_dup2 e_N_addArc_9 rfl rfl ?_
    refine xh_iald e_N_addArc_10 rfl (by first | assumption | decide | (refine vp_in_nI ?_ (by decide); omega)) ?_
    refine xx_iconst (v := 1) e_N_addArc_11 (by decide) ?_
    refine xx_iload_n e_N_addArc_12 rfl rfl ?_
    refine xx_ishl e_N_addArc_13 ?_
    refine xx_ior e_N_addArc_14 ?_
    refine xh_iast e_N_addArc_15 rfl (by first | assumption | decide | (refine vp_in_nI ?_ (by decide); omega)) ?_
    refine xx_goto e_N_addArc_16 ?_
    refine xx_vret e_N_addArc_31 rfl ?_
    exact ⟨rfl, by simp only [n_aa, ↓reduceIte, *]⟩
end XNet
