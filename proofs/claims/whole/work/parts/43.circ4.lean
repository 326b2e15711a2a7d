/-! The circuit: its check. -/
section XCirc4
variable {S : Nat × (Nat → Int32)} {V : xl_V} {d : Nat}
/-- the same but for the circuit's own fields -/
def c_f8 (V W : xl_V) : Prop := (∀ b j, b ≠ 13 → W.1 b j = V.1 b j) ∧ W.2 = V.2
theorem ga_13 (w s : Nat) : ga w s ≠ 13 := by unfold ga; omega
theorem c_f8_ac {W : xl_V} (h : c_f8 V W) (w s : Nat) (cd : Int32) : c_ac W w s cd = c_ac V w s cd := by
  unfold c_ac ga_ou
  rw [h.1 _ _ (ga_13 w s)]
theorem c_f8_mf {W : xl_V} (h : c_f8 V W) (w k t : Nat) : c_mf W w k t = c_mf V w k t := by
  unfold c_mf ga_ou n_in n_lv
  rw [h.2, h.1 _ _ (ga_13 w _), h.1 1 6 (by decide)]
theorem c_f8_1 {W : xl_V} (h : c_f8 V W) (w e : Nat) : c_f1 W w e = c_f1 V w e := by
  have h1 : ∀ k s, c_st W w k s = c_st V w k s := fun k s => by
    funext t
    unfold c_st
    rw [c_f8_ac h, c_f8_mf h, h.2]
  funext k s
  unfold c_f1 c_ms
  rw [c_f8_ac h, h1, h.2]
theorem c_f8_2 {W : xl_V} (h : c_f8 V W) (w : Nat) : c_f2 W w = c_f2 V w := by
  funext k s
  unfold c_f2 g_ex
  rw [c_f8_ac h, h.2]
theorem c_f8_3 {W : xl_V} (h : c_f8 V W) (w : Nat) : c_f3 W w = c_f3 V w := by
  funext k s
  unfold c_f3 g_ex
  rw [c_f8_ac h, h.2]
theorem c_f8_k {W : xl_V} (h : c_f8 V W) (F : Nat → Nat → Int32) (n : Nat) : c_fk W F n = c_fk V F n := by
  have h1 : ∀ k, c_fs W F k = c_fs V F k := fun k => by
    funext s
    unfold c_fs n_in
    rw [h.2, h.1 1 6 (by decide)]
  funext k
  unfold c_fk
  rw [h1]
theorem c_f8_i (V : xl_V) (k : Nat) (x : Int32) : c_f8 V (xl_i V 13 k x) := ⟨fun b j hb => if_neg (fun z => hb z.1), rfl⟩
theorem c_f8_t {W U : xl_V} (h : c_f8 V W) (h2 : c_f8 W U) : c_f8 V U := ⟨fun b j hb => (h2.1 b j hb).trans (h.1 b j hb), h2.2.trans h.2⟩
/-- the check: a fault's kind and its least state -/
def c_xf (W : xl_V) (w e c n : Nat) : Int32 × Int32 :=
  if ¬ g_io (xfnd (c_fk W (c_f1 W w e) n) c) = -1 then (1, g_io (xfnd (c_fk W (c_f1 W w e) n) c)) else if ¬ g_io (xfnd (c_fk W (c_f2 W w) n) c) = -1 then (2, g_io (xfnd (c_fk W (c_f2 W w) n) c)) else
  if ¬ g_io (xfnd (c_fk W (c_f3 W w) n) c) = -1 then (3, g_io (xfnd (c_fk W (c_f3 W w) n) c)) else (0, -1)
theorem t_Ci_explore {w c e n : Nat} {Q : xa_Q} (hw : c_ok V w) (hc : V.1 6 0 = nI c) (h1c : 0 < c) (h80 : c ≤ 80) (he : V.1 1 1 = nI e) (h14 : e ≤ 14) (hn : V.1 1 0 = nI n) (h5 : n ≤ 5) (hsg : ∀ t, t < e → ∃ s, s < 5 ∧ V.2.1 2 t = nI s)
    (hsc : ∀ k t, k < c → t < e → ¬ V.2.1 12 (k * 14 + t) = -1 → ∃ j, j < c ∧ V.2.1 12 (k * 14 + t) = nI j)
    (hQ : ∀ W, c_rd V W w e c → Q (.inl (some (.int (c_xf W w e c n).1))) (xl_H xlay (xl_i W 13 0 (c_xf W w e c n).2))) :
    xX S (d + 5) 93 0 (xa_ent 4 [.ref 13, .ref 1, .ref 6]) [] V 0 0 Q := by
  refine xx_aload_n e_Ci_explore_0 rfl rfl ?_
  refine xx_aload_n e_Ci_explore_1 rfl rfl ?_
  refine xx_aload_n e_Ci_explore_2 rfl rfl ?_
  refine xc_V2z e_Ci_explore_3 kv_Ci_32 (xl_obj rfl) (t_Ci_reachStates (d := d + 2) hw h1c h80 he h14 hsg hsc (fun W hW => xk_v ?_))
  have hf := hW.1
  have hwW := c_fr_ok hf hw
  have hcW : W.1 6 0 = nI c := (hf.1 6 0 (fun z => absurd z.1 (by decide))).trans hc
  have heW : W.1 1 1 = nI e := (hf.1 1 1 (fun z => absurd z.1 (by decide))).trans he
  have hnW : W.1 1 0 = nI n := (hf.1 1 0 (fun z => absurd z.1 (by decide))).trans hn
  have hsgW : ∀ t, t < e → ∃ s, s < 5 ∧ W.2.1 2 t = nI s := by rw [hf.2.1 2 (by decide) (by decide)]; exact hsg
  have hscW : ∀ k t, k < c → t < e → ¬ W.2.1 12 (k * 14 + t) = -1 → vp_in (W.2.1 12 (k * 14 + t)) 80 := fun k t hk ht hne => by
    rw [hf.2.1 12 (by decide) (by decide)] at hne ⊢
    obtain ⟨j, hj, e1⟩ := hsc k t hk ht hne
    rw [e1]
    exact vp_in_nI (by omega) (by decide)
  have a1 : ∀ x z, c_f8 W (xl_i (xl_i W 13 0 x) 13 0 z) := fun x z => c_f8_t (c_f8_i W 0 x) (c_f8_i _ 0 z)
  refine xx_iconst (v := 1) e_Ci_explore_6 (by decide) ?_
  refine xx_istore_n e_Ci_explore_7 rfl rfl ?_
  refine xx_iload_n e_Ci_explore_8 rfl rfl ?_
  refine xx_iconst (v := 3) e_Ci_explore_9 (by decide) ?_
  refine xx_icmp_gt e_Ci_explore_10 (fun q => absurd q (by decide)) (fun _ => ?_)
  refine xx_aload_n e_Ci_explore_13 rfl rfl ?_
  refine xx_aload_n e_Ci_explore_14 rfl rfl ?_
  refine xx_aload_n e_Ci_explore_15 rfl rfl ?_
  refine xx_aload_n e_Ci_explore_16 rfl rfl ?_
  refine xx_iload_n e_Ci_explore_17 rfl rfl ?_
  refine xc_V3i e_Ci_explore_18 kv_Ci_36 (xl_obj rfl) (t_Ci_leastFaultyState (F := c_f1 W w e) hcW h80 hnW h5 (fun k s hk hs => t_Ci_isFaulty1 (d := d) hwW (by omega) (by omega) heW h14 hsgW (fun t ht => hscW k t hk ht))) ?_
  refine xh_put e_Ci_explore_21 fp_Ci_40 rfl rfl ⟨rfl, rfl⟩ ?_
  refine xx_aload_n e_Ci_explore_24 rfl rfl ?_
  refine xh_get e_Ci_explore_25 fg_Ci_40 rfl rfl ?_
  refine xx_iconst (v := (-1)) e_Ci_explore_28 (by decide) ?_
  refine xx_icmp_eq e_Ci_explore_29 (fun q => ?_) (fun q => ?_)
  · have q : g_io (xfnd (c_fk W (c_f1 W w e) n) c) = -1 := q
    refine xh_inc e_Ci_explore_34 rfl ?_
    refine xx_goto e_Ci_explore_37 ?_
    rw [show (1 : Int32) + 1 = 2 from rfl]
    refine xx_iload_n e_Ci_explore_8 rfl rfl ?_
    refine xx_iconst (v := 3) e_Ci_explore_9 (by decide) ?_
    refine xx_icmp_gt e_Ci_explore_10 (fun q => absurd q (by decide)) (fun _ => ?_)
    refine xx_aload_n e_Ci_explore_13 rfl rfl ?_
    refine xx_aload_n e_Ci_explore_14 rfl rfl ?_
    refine xx_aload_n e_Ci_explore_15 rfl rfl ?_
    refine xx_aload_n e_Ci_explore_16 rfl rfl ?_
    refine xx_iload_n e_Ci_explore_17 rfl rfl ?_
    refine xc_V3i e_Ci_explore_18 kv_Ci_36 (xl_obj rfl) (t_Ci_leastFaultyState (V := xl_i W 13 0 (g_io (xfnd (c_fk W (c_f1 W w e) n) c))) (F := c_f2 W w) hcW h80 hnW h5 (fun k s hk hs => by rw [← c_f8_2 (c_f8_i W 0 (g_io (xfnd (c_fk W (c_f1 W w e) n) c)))]; exact t_Ci_isFaulty2 (d := d) (V := xl_i W 13 0 (g_io (xfnd (c_fk W (c_f1 W w e) n) c))) hwW (by omega) (by omega))) ?_
    rw [c_f8_k (c_f8_i W 0 _)]
    refine xh_put e_Ci_explore_21 fp_Ci_40 rfl rfl ⟨rfl, rfl⟩ ?_
    refine xx_aload_n e_Ci_explore_24 rfl rfl ?_
    refine xh_get e_Ci_explore_25 fg_Ci_40 rfl rfl ?_
    refine xx_iconst (v := (-1)) e_Ci_explore_28 (by decide) ?_
    refine xx_icmp_eq e_Ci_explore_29 (fun q2 => ?_) (fun q2 => ?_)
    · have q2 : g_io (xfnd (c_fk W (c_f2 W w) n) c) = -1 := q2
      refine xh_inc e_Ci_explore_34 rfl ?_
      refine xx_goto e_Ci_explore_37 ?_
      rw [show (2 : Int32) + 1 = 3 from rfl]
      refine xx_iload_n e_Ci_explore_8 rfl rfl ?_
      refine xx_iconst (v := 3) e_Ci_explore_9 (by decide) ?_
      refine xx_icmp_gt e_Ci_explore_10 (fun q => absurd q (by decide)) (fun _ => ?_)
      refine xx_aload_n e_Ci_explore_13 rfl rfl ?_
      refine xx_aload_n e_Ci_explore_14 rfl rfl ?_
      refine xx_aload_n e_Ci_explore_15 rfl rfl ?_
      refine xx_aload_n e_Ci_explore_16 rfl rfl ?_
      refine xx_iload_n e_Ci_explore_17 rfl rfl ?_
      refine xc_V3i e_Ci_explore_18 kv_Ci_36 (xl_obj rfl) (t_Ci_leastFaultyState (V := xl_i (xl_i W 13 0 (g_io (xfnd (c_fk W (c_f1 W w e) n) c))) 13 0 (g_io (xfnd (c_fk W (c_f2 W w) n) c))) (F := c_f3 W w) hcW h80 hnW h5 (fun k s hk hs => by rw [← c_f8_3 (a1 (g_io (xfnd (c_fk W (c_f1 W w e) n) c)) (g_io (xfnd (c_fk W (c_f2 W w) n) c)))]; exact t_Ci_isFaulty3 (d := d) (V := xl_i (xl_i W 13 0 (g_io (xfnd (c_fk W (c_f1 W w e) n) c))) 13 0 (g_io (xfnd (c_fk W (c_f2 W w) n) c))) hwW (by omega) (by omega))) ?_
      rw [c_f8_k (a1 _ _)]
      refine xh_put e_Ci_explore_21 fp_Ci_40 rfl rfl ⟨rfl, rfl⟩ ?_
      refine xx_aload_n e_Ci_explore_24 rfl rfl ?_
      refine xh_get e_Ci_explore_25 fg_Ci_40 rfl rfl ?_
      refine xx_iconst (v := (-1)) e_Ci_explore_28 (by decide) ?_
      refine xx_icmp_eq e_Ci_explore_29 (fun q3 => ?_) (fun q3 => ?_)
      · have q3 : g_io (xfnd (c_fk W (c_f3 W w) n) c) = -1 := q3
        refine xh_inc e_Ci_explore_34 rfl ?_
        refine xx_goto e_Ci_explore_37 ?_
        rw [show (3 : Int32) + 1 = 4 from rfl]
        refine xx_iload_n e_Ci_explore_8 rfl rfl ?_
        refine xx_iconst (v := 3) e_Ci_explore_9 (by decide) ?_
        refine xx_icmp_gt e_Ci_explore_10 (fun _ => ?_) (fun q => absurd (by decide) q)
        refine xx_iconst (v := 0) e_Ci_explore_40 (by decide) ?_
        refine xx_iret e_Ci_explore_41 rfl rfl ?_
        rw [xl_ii, xl_ii]
        have h := hQ W hW
        simp only [c_xf, q, q2, q3, not_true_eq_false, ↓reduceIte] at h
        rw [q3]
        exact h
      · have q3 : ¬ g_io (xfnd (c_fk W (c_f3 W w) n) c) = -1 := q3
        refine xx_iload_n e_Ci_explore_32 rfl rfl ?_
        refine xx_iret e_Ci_explore_33 rfl rfl ?_
        rw [xl_ii, xl_ii]
        have h := hQ W hW
        simp only [c_xf, q, q2, q3, not_true_eq_false, not_false_eq_true, ↓reduceIte] at h
        exact h
    · have q2 : ¬ g_io (xfnd (c_fk W (c_f2 W w) n) c) = -1 := q2
      refine xx_iload_n e_Ci_explore_32 rfl rfl ?_
      refine xx_iret e_Ci_explore_33 rfl rfl ?_
      rw [xl_ii]
      have h := hQ W hW
      simp only [c_xf, q, q2, not_true_eq_false, not_false_eq_true, ↓reduceIte] at h
      exact h
  · have q : ¬ g_io (xfnd (c_fk W (c_f1 W w e) n) c) = -1 := q
    refine xx_iload_n e_Ci_explore_32 rfl rfl ?_
    refine xx_iret e_Ci_explore_33 rfl rfl ?_
    have h := hQ W hW
    simp only [c_xf, q, not_false_eq_true, ↓reduceIte] at h
    exact h
end XCirc4
