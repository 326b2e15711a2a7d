/-! The circuit: its gates, who may fire, who acts. -/
section XCirc
variable {S : Nat × (Nat → Int32)} {V : xl_V} {d : Nat}
theorem xh_aalN {K : xa_P} {tx : Nat → Nat × (Nat → Int32)} {d y pc n' : Nat} {ls st : List Value} {mc ms : Nat} {Q : xa_Q} {lay : List xl_S} {V : xl_V} {a n k0 b : Nat} (hd : xa_d K y pc (.aaload) 1 n') (ha : lay[a]? = some (.inr (3, n))) (hk : k0 < n) (hb : V.2.2.1 a k0 = some b) (k : xa_X K tx d y n' ls (.ref b :: st) (xl_H lay V) mc ms Q) (hn : n < 5000 := by decide) : xa_X K tx d y pc ls (.int (nI k0) :: .ref a :: st) (xl_H lay V) mc ms Q :=
  xh_aald hd ha (vp_in_nI hk (xn31 hn)) (by rw [nI_clamp (xn31 (by omega))]; exact hb) k
theorem xh_aasN {K : xa_P} {tx : Nat → Nat × (Nat → Int32)} {d y pc n' : Nat} {ls st : List Value} {mc ms : Nat} {Q : xa_Q} {lay : List xl_S} {V : xl_V} {a n k0 b ci : Nat} {fl : List (Option Nat)} (hd : xa_d K y pc (.aastore) 1 n') (ha : lay[a]? = some (.inr (3, n))) (hk : k0 < n) (hb : lay[b]? = some (.inl (ci, fl))) (hg : ∃ T N, K.2.1[ci]? = some (K.2.2.2.2.2, T, N)) (k : xa_X K tx d y n' ls st (xl_H lay (xl_g V a (va_up (V.2.2.1 a) k0 (some b)))) mc ms Q) (hn : n < 5000 := by decide) : xa_X K tx d y pc ls (.ref b :: .int (nI k0) :: .ref a :: st) (xl_H lay V) mc ms Q :=
  xh_aast hd ha (vp_in_nI hk (xn31 hn)) hb hg (by rw [nI_clamp (xn31 (by omega))]; exact k)
/-- where the gate of signal s lies: there are two rows of gates, and w says which one is in use -/
def ga (w s : Nat) : Nat := 18 + 4 * s + 2 * w
theorem ga_o0 : ∀ s, s < 5 → ∀ w, w < 2 → xlay[ga w s]? = some (.inl (4, [none, some (ga w s + 1), none])) ∧ xlay[ga w s + 1]? = some (.inr (0, 8)) := by
  intro s hs w hw
  rcases (show s = 0 ∨ s = 1 ∨ s = 2 ∨ s = 3 ∨ s = 4 by omega) with rfl | rfl | rfl | rfl | rfl <;> rcases (show w = 0 ∨ w = 1 by omega) with rfl | rfl <;> exact ⟨rfl, rfl⟩
theorem ga_o {s w : Nat} (hs : s < 5) (hw : w < 2) : xlay[ga w s]? = some (.inl (4, [none, some (ga w s + 1), none])) := (ga_o0 s hs w hw).1
theorem ga_n {s w : Nat} (hs : s < 5) (hw : w < 2) : xlay[ga w s + 1]? = some (.inr (0, 8)) := (ga_o0 s hs w hw).2
def c_ok (V : xl_V) (w : Nat) : Prop := w < 2 ∧ ∀ s, s < 5 → V.2.2.1 14 s = some (ga w s) ∧ V.2.2.1 15 s = some (ga (1 - w) s)
def c_cl (V : xl_V) (w : Nat) : Nat → xl_V
  | 0 => V
  | s + 1 => ga_cl (c_cl V w s) (ga w s)
theorem c_cl_g (V : xl_V) (w : Nat) : ∀ s, (c_cl V w s).2 = V.2
  | 0 => rfl
  | s + 1 => c_cl_g V w s
theorem t_Ci_clear {w : Nat} (hw : c_ok V w) : xX S (d + 1) 9 0 (xa_ent 2 [.ref 13]) [] V 0 0 (xq none (xl_H xlay (c_cl V w 5))) := by
  have loop : ∀ n s, n + s = 5 → xX S (d + 1) 9 2 [.ref 13, .int (nI s)] [] (c_cl V w s) 0 0 (xq none (xl_H xlay (c_cl V w 5))) := by
    intro n
    induction n with
    | zero =>
      intro s hs
      refine xx_iload_n e_Ci_clear_2 rfl rfl ?_
      refine xx_iconst (v := 5) e_Ci_clear_3 (by decide) ?_
      refine xx_icmp_ge e_Ci_clear_4 (fun q => ?_) (fun q => ?_)
      · skip
        refine xx_vret e_Ci_clear_22 rfl ?_
        rw [show s = 5 by omega]
        exact ⟨rfl, rfl⟩
      · exact absurd ((xle (a := 5) rfl rfl (by decide) (by omega)).mpr (by omega)) q
    | succ n ih =>
      intro s hs
      refine xx_iload_n e_Ci_clear_2 rfl rfl ?_
      refine xx_iconst (v := 5) e_Ci_clear_3 (by decide) ?_
      refine xx_icmp_ge e_Ci_clear_4 (fun q => ?_) (fun q => ?_)
      · have := (xle (a := 5) rfl rfl (by decide) (by omega)).mp q
        omega
      · skip
        refine xx_aload_n e_Ci_clear_7 rfl rfl ?_
        refine xh_getR e_Ci_clear_8 fg_Ci_11 rfl rfl ?_
        refine xx_iload_n e_Ci_clear_11 rfl rfl ?_
        refine xh_aalN e_Ci_clear_12 rfl (by omega) (by rw [c_cl_g]; exact (hw.2 s (by omega)).1) ?_
        refine xc_V0v e_Ci_clear_13 kv_Ci_29 (xl_obj (ga_o (by omega) hw.1)) (t_Ga_clear (ga_o (by omega) hw.1)) ?_
        refine xh_incN e_Ci_clear_16 rfl ?_
        refine xx_goto e_Ci_clear_19 ?_
        exact ih (s + 1) (by omega)
  refine xx_iconst (v := 0) e_Ci_clear_0 (by decide) ?_
  refine xx_istore_n e_Ci_clear_1 rfl rfl ?_
  exact loop 5 0 rfl
def c_ad (V : xl_V) (w : Nat) : Nat → xl_V
  | 0 => V
  | s + 1 => xl_g (xl_g (c_ad V w s) 14 (va_up ((c_ad V w s).2.2.1 14) s (some (ga (1 - w) s)))) 15 (va_up ((c_ad V w s).2.2.1 15) s (some (ga w s)))
theorem c_ad_k (V : xl_V) (w : Nat) : ∀ s j, s ≤ j → (c_ad V w s).2.2.1 14 j = V.2.2.1 14 j ∧ (c_ad V w s).2.2.1 15 j = V.2.2.1 15 j
  | 0, j, _ => ⟨rfl, rfl⟩
  | s + 1, j, h => by
    obtain ⟨h1, h2⟩ := c_ad_k V w s j (by omega)
    refine ⟨?_, ?_⟩
    · show va_up ((c_ad V w s).2.2.1 14) s (some (ga (1 - w) s)) j = _
      rw [va_up_ne _ _ (by omega)]; exact h1
    · show va_up ((c_ad V w s).2.2.1 15) s (some (ga w s)) j = _
      rw [va_up_ne _ _ (by omega)]; exact h2
theorem c_ad_n (V : xl_V) (w : Nat) : ∀ s j, j < s → (c_ad V w s).2.2.1 14 j = some (ga (1 - w) j) ∧ (c_ad V w s).2.2.1 15 j = some (ga w j)
  | 0, j, h => absurd h (Nat.not_lt_zero j)
  | s + 1, j, h => by
    by_cases e : j = s
    · subst e
      refine ⟨?_, ?_⟩
      · show va_up ((c_ad V w j).2.2.1 14) j (some (ga (1 - w) j)) j = _
        rw [va_up_self]
      · show va_up ((c_ad V w j).2.2.1 15) j (some (ga w j)) j = _
        rw [va_up_self]
    · obtain ⟨h1, h2⟩ := c_ad_n V w s j (by omega)
      refine ⟨?_, ?_⟩
      · show va_up ((c_ad V w s).2.2.1 14) s (some (ga (1 - w) s)) j = _
        rw [va_up_ne _ _ e]; exact h1
      · show va_up ((c_ad V w s).2.2.1 15) s (some (ga w s)) j = _
        rw [va_up_ne _ _ e]; exact h2
theorem c_ad_ok {w : Nat} (hw : c_ok V w) : c_ok (c_ad V w 5) (1 - w) := ⟨by have := hw.1; omega, fun s hs => by
  have := c_ad_n V w 5 s hs
  rw [show 1 - (1 - w) = w by have := hw.1; omega]
  exact this⟩
theorem t_Ci_adoptDrafts {w : Nat} (hw : c_ok V w) : xX S d 78 0 (xa_ent 3 [.ref 13]) [] V 0 0 (xq none (xl_H xlay (c_ad V w 5))) := by
  have hw1 : 1 - w < 2 := by have := hw.1; omega
  have loop : ∀ n s, n + s = 5 → xX S d 78 2 [.ref 13, .int (nI s), xa_j] [] (c_ad V w s) 0 0 (xq none (xl_H xlay (c_ad V w 5))) := by
    intro n
    induction n with
    | zero =>
      intro s hs
      refine xx_iload_n e_Ci_adoptDrafts_2 rfl rfl ?_
      refine xx_iconst (v := 5) e_Ci_adoptDrafts_3 (by decide) ?_
      refine xx_icmp_ge e_Ci_adoptDrafts_4 (fun q => ?_) (fun q => ?_)
      · skip
        refine xx_vret e_Ci_adoptDrafts_39 rfl ?_
        rw [show s = 5 by omega]
        exact ⟨rfl, rfl⟩
      · exact absurd ((xle (a := 5) rfl rfl (by decide) (by omega)).mpr (by omega)) q
    | succ n ih =>
      intro s hs
      have hk := c_ad_k V w s s (Nat.le_refl s)
      refine xx_iload_n e_Ci_adoptDrafts_2 rfl rfl ?_
      refine xx_iconst (v := 5) e_Ci_adoptDrafts_3 (by decide) ?_
      refine xx_icmp_ge e_Ci_adoptDrafts_4 (fun q => ?_) (fun q => ?_)
      · have := (xle (a := 5) rfl rfl (by decide) (by omega)).mp q
        omega
      · skip
        refine xx_aload_n e_Ci_adoptDrafts_7 rfl rfl ?_
        refine xh_getR e_Ci_adoptDrafts_8 fg_Ci_11 rfl rfl ?_
        refine xx_iload_n e_Ci_adoptDrafts_11 rfl rfl ?_
        refine xh_aalN (b := ga w s) e_Ci_adoptDrafts_12 rfl (by omega) (by rw [hk.1]; exact (hw.2 s (by omega)).1) ?_
        refine xx_astore_n e_Ci_adoptDrafts_13 rfl rfl ?_
        refine xx_aload_n e_Ci_adoptDrafts_14 rfl rfl ?_
        refine xh_getR e_Ci_adoptDrafts_15 fg_Ci_11 rfl rfl ?_
        refine xx_iload_n e_Ci_adoptDrafts_18 rfl rfl ?_
        refine xx_aload_n e_Ci_adoptDrafts_19 rfl rfl ?_
        refine xh_getR e_Ci_adoptDrafts_20 fg_Ci_17 rfl rfl ?_
        refine xx_iload_n e_Ci_adoptDrafts_23 rfl rfl ?_
        refine xh_aalN (b := ga (1 - w) s) e_Ci_adoptDrafts_24 rfl (by omega) (by rw [hk.2]; exact (hw.2 s (by omega)).2) ?_
        refine xh_aasN e_Ci_adoptDrafts_25 rfl (by omega) (ga_o (by omega) hw1) ⟨_, _, rfl⟩ ?_
        refine xx_aload_n e_Ci_adoptDrafts_26 rfl rfl ?_
        refine xh_getR e_Ci_adoptDrafts_27 fg_Ci_17 rfl rfl ?_
        refine xx_iload_n e_Ci_adoptDrafts_30 rfl rfl ?_
        refine xx_aload_n e_Ci_adoptDrafts_31 rfl rfl ?_
        refine xh_aasN e_Ci_adoptDrafts_32 rfl (by omega) (ga_o (by omega) hw.1) ⟨_, _, rfl⟩ ?_
        refine xh_incN e_Ci_adoptDrafts_33 rfl ?_
        refine xx_goto e_Ci_adoptDrafts_36 ?_
        exact xh_fg 2 (ih (s + 1) (by omega))
  refine xx_iconst (v := 0) e_Ci_adoptDrafts_0 (by decide) ?_
  refine xx_istore_n e_Ci_adoptDrafts_1 rfl rfl ?_
  exact loop 5 0 rfl
def c_ac (V : xl_V) (w s : Nat) (cd : Int32) : Int32 := if ga_ou V (ga w s) cd = (cd >>> (nI s &&& 31)) &&& 1 then 0 else 1
theorem t_Ci_acts {w s : Nat} {cd : Int32} (hw : c_ok V w) (hs : s < 5) : xX S (d + 1) 99 0 (xa_ent 3 [.ref 13, .int (nI s), .int cd]) [] V 0 0 (xq (some (.int (c_ac V w s cd))) (xl_H xlay V)) := by
  refine xx_aload_n e_Ci_acts_0 rfl rfl ?_
  refine xh_getR e_Ci_acts_1 fg_Ci_11 rfl rfl ?_
  refine xx_iload_n e_Ci_acts_4 rfl rfl ?_
  refine xh_aalN e_Ci_acts_5 rfl hs (hw.2 s hs).1 ?_
  refine xx_iload_n e_Ci_acts_6 rfl rfl ?_
  refine xc_V1i e_Ci_acts_7 kv_Ci_77 (xl_obj (ga_o hs hw.1)) (t_Ga_output (ga_o hs hw.1)) ?_
  refine xx_iload_n e_Ci_acts_10 rfl rfl ?_
  refine xx_iload_n e_Ci_acts_11 rfl rfl ?_
  refine xx_ishr e_Ci_acts_12 ?_
  refine xx_iconst (v := 1) e_Ci_acts_13 (by decide) ?_
  refine xx_iand e_Ci_acts_14 ?_
  refine xx_icmp_eq e_Ci_acts_15 (fun q15 => ?_) (fun q15 => ?_)
  · refine xx_iconst (v := 0) e_Ci_acts_22 (by decide) ?_
    refine xx_iret e_Ci_acts_23 rfl rfl ?_
    exact ⟨by simp only [c_ac, ↓reduceIte, *], rfl⟩
  · refine xx_iconst (v := 1) e_Ci_acts_18 (by decide) ?_
    refine xx_goto e_Ci_acts_19 ?_
    refine xx_iret e_Ci_acts_23 rfl rfl ?_
    exact ⟨by simp only [c_ac, ↓reduceIte, *], rfl⟩
/-- may transition t fire in state k, in the circuit? -/
def c_mf (V : xl_V) (w k t : Nat) : Int32 := if V.2.1 12 (k * 14 + t) = -1 then 0 else if n_in V (V.2.1 2 t) = 0 then (if ga_ou V (ga w (V.2.1 2 t).toNatClampNeg) (V.2.1 8 k) = n_lv V t then 1 else 0) else 1
theorem t_Ci_mayFire {w k t s : Nat} (hw : c_ok V w) (hk : k < 80) (ht : t < 14) (hs : s < 5) (hst : V.2.1 2 t = nI s) : xX S (d + 1) 96 0 (xa_ent 6 [.ref 13, .ref 1, .ref 6, .int (nI k), .int (nI t)]) [] V 0 0 (xq (some (.int (c_mf V w k t))) (xl_H xlay V)) := by
  have e0 : (V.2.1 2 t).toNatClampNeg = s := by rw [hst]; exact nI_clamp (xn31 (by omega))
  refine xx_aload_n e_Ci_mayFire_0 rfl rfl ?_
  refine xx_iload_n e_Ci_mayFire_1 rfl rfl ?_
  refine xx_iload e_Ci_mayFire_2 rfl ?_
  refine xc_V2i e_Ci_mayFire_4 kv_Ci_60 (xl_obj rfl) (t_G_successor hk ht) ?_
  refine xx_iconst (v := (-1)) e_Ci_mayFire_7 (by decide) ?_
  refine xx_icmp_ne e_Ci_mayFire_8 (fun q => ?_) (fun q => ?_)
  · skip
    refine xx_aload_n e_Ci_mayFire_13 rfl rfl ?_
    refine xx_iload e_Ci_mayFire_14 rfl ?_
    refine xc_V1i e_Ci_mayFire_16 kv_Ci_66 (xl_obj rfl) (u_N_signalOf ht) ?_
    refine xx_istore e_Ci_mayFire_19 rfl ?_
    refine xx_aload_n e_Ci_mayFire_21 rfl rfl ?_
    refine xx_iload e_Ci_mayFire_22 rfl ?_
    refine xc_V1i e_Ci_mayFire_24 kv_Ci_70 (xl_obj rfl) (t_N_isInput) ?_
    refine xx_if_ne e_Ci_mayFire_27 (fun q1 => ?_) (fun q1 => ?_)
    · skip
      refine xx_iconst (v := 1) e_Ci_mayFire_55 (by decide) ?_
      refine xx_goto e_Ci_mayFire_56 ?_
      refine xx_iret e_Ci_mayFire_60 rfl rfl ?_
      exact ⟨by unfold c_mf; rw [if_neg q, if_neg q1], rfl⟩
    · skip
      refine xx_aload_n e_Ci_mayFire_30 rfl rfl ?_
      refine xh_getR e_Ci_mayFire_31 fg_Ci_11 rfl rfl ?_
      refine xx_iload e_Ci_mayFire_34 rfl ?_
      rw [hst]
      refine xh_aalN e_Ci_mayFire_36 rfl hs (hw.2 s hs).1 ?_
      refine xx_aload_n e_Ci_mayFire_37 rfl rfl ?_
      refine xh_getR e_Ci_mayFire_38 fg_Ci_74 rfl rfl ?_
      refine xx_iload_n e_Ci_mayFire_41 rfl rfl ?_
      refine xh_ialN e_Ci_mayFire_42 rfl (by omega) ?_
      refine xc_V1i e_Ci_mayFire_43 kv_Ci_77 (xl_obj (ga_o hs hw.1)) (t_Ga_output (ga_o hs hw.1)) ?_
      refine xx_aload_n e_Ci_mayFire_46 rfl rfl ?_
      refine xx_iload e_Ci_mayFire_47 rfl ?_
      refine xc_V1i e_Ci_mayFire_49 kv_Ci_80 (xl_obj rfl) (u_N_levelAfter ht) ?_
      refine xx_icmp_ne e_Ci_mayFire_52 (fun q52 => ?_) (fun q52 => ?_)
      · refine xx_iconst (v := 0) e_Ci_mayFire_59 (by decide) ?_
        refine xx_iret e_Ci_mayFire_60 rfl rfl ?_
        exact ⟨by unfold c_mf; rw [if_neg q, if_pos q1, e0]; first | rw [if_pos q52] | rw [if_neg q52], rfl⟩
      · refine xx_iconst (v := 1) e_Ci_mayFire_55 (by decide) ?_
        refine xx_goto e_Ci_mayFire_56 ?_
        refine xx_iret e_Ci_mayFire_60 rfl rfl ?_
        exact ⟨by unfold c_mf; rw [if_neg q, if_pos q1, e0]; first | rw [if_pos q52] | rw [if_neg q52], rfl⟩
  · skip
    refine xx_iconst (v := 0) e_Ci_mayFire_11 (by decide) ?_
    refine xx_iret e_Ci_mayFire_12 rfl rfl ?_
    exact ⟨by simp only [c_mf, ↓reduceIte, *], rfl⟩
def c_st (V : xl_V) (w k s t : Nat) : Bool := decide (¬ V.2.1 2 t = nI s ∧ ¬ c_mf V w k t = 0 ∧ c_ac V w s (V.2.1 8 (V.2.1 12 (k * 14 + t)).toNatClampNeg) = 0)
def c_ms (V : xl_V) (w e k s : Nat) : Int32 := if (xfnd (c_st V w k s) e).isSome then 1 else 0
theorem t_Ci_mayStopActing {w k s e : Nat} (hw : c_ok V w) (hk : k < 80) (hs : s < 5) (he : V.1 1 1 = nI e) (h14 : e ≤ 14) (hsg : ∀ t, t < e → ∃ s, s < 5 ∧ V.2.1 2 t = nI s) (hsc : ∀ t, t < e → ¬ V.2.1 12 (k * 14 + t) = -1 → vp_in (V.2.1 12 (k * 14 + t)) 80) :
    xX S (d + 2) 100 0 (xa_ent 6 [.ref 13, .ref 1, .ref 6, .int (nI k), .int (nI s)]) [] V 0 0 (xq (some (.int (c_ms V w e k s))) (xl_H xlay V)) := by
  have loop : ∀ n t, e - t = n → t ≤ e → (∀ i, i < t → c_st V w k s i = false) → xX S (d + 2) 100 3 [.ref 13, .ref 1, .ref 6, .int (nI k), .int (nI s), .int (nI t)] [] V 0 0 (xq (some (.int (c_ms V w e k s))) (xl_H xlay V)) := by
    intro n
    induction n using Nat.strongRecOn with
    | ind n ih =>
      intro t hn ht hin
      have nxt : t < e → c_st V w k s t = false → xX S (d + 2) 100 58 [.ref 13, .ref 1, .ref 6, .int (nI k), .int (nI s), .int (nI t)] [] V 0 0 (xq (some (.int (c_ms V w e k s))) (xl_H xlay V)) := by
        intro h1 h2
        refine xh_incN e_Ci_mayStopActing_58 rfl ?_
        refine xx_goto e_Ci_mayStopActing_61 ?_
        exact ih (e - (t + 1)) (by omega) (t + 1) rfl (by omega) (lt_s' hin h2)
      refine xx_iload e_Ci_mayStopActing_3 rfl ?_
      refine xx_aload_n e_Ci_mayStopActing_5 rfl rfl ?_
      refine xh_get e_Ci_mayStopActing_6 fg_Ci_51 rfl rfl ?_
      refine xx_icmp_ge e_Ci_mayStopActing_9 (fun q => ?_) (fun q => ?_)
      · have e1 : e ≤ t := (xle he rfl (by omega) (by omega)).mp q
        refine xx_iconst (v := 0) e_Ci_mayStopActing_64 (by decide) ?_
        refine xx_iret e_Ci_mayStopActing_65 rfl rfl ?_
        unfold c_ms
        rw [xfnd_o (fun i hi => hin i (by omega))]
        exact ⟨rfl, rfl⟩
      · have e1 : t < e := Nat.lt_of_not_le (fun z => q ((xle he rfl (by omega) (by omega)).mpr z))
        obtain ⟨s1, hs1, hst⟩ := hsg t e1
        refine xx_aload_n e_Ci_mayStopActing_12 rfl rfl ?_
        refine xx_iload e_Ci_mayStopActing_13 rfl ?_
        refine xc_V1i e_Ci_mayStopActing_15 kv_Ci_66 (xl_obj rfl) (u_N_signalOf (by omega)) ?_
        refine xx_iload e_Ci_mayStopActing_18 rfl ?_
        refine xx_icmp_eq e_Ci_mayStopActing_20 (fun q1 => nxt e1 (decide_eq_false (fun z => z.1 q1))) (fun q1 => ?_)
        refine xx_aload_n e_Ci_mayStopActing_23 rfl rfl ?_
        refine xx_aload_n e_Ci_mayStopActing_24 rfl rfl ?_
        refine xx_aload_n e_Ci_mayStopActing_25 rfl rfl ?_
        refine xx_iload_n e_Ci_mayStopActing_26 rfl rfl ?_
        refine xx_iload e_Ci_mayStopActing_27 rfl ?_
        refine xc_V4i e_Ci_mayStopActing_29 kv_Ci_56 (xl_obj rfl) (t_Ci_mayFire hw hk (by omega) hs1 hst) ?_
        refine xx_if_eq e_Ci_mayStopActing_32 (fun q2 => nxt e1 (decide_eq_false (fun z => z.2.1 q2))) (fun q2 => ?_)
        have e2 : ¬ V.2.1 12 (k * 14 + t) = -1 := fun z => q2 (by unfold c_mf; rw [if_pos z])
        refine xx_aload_n e_Ci_mayStopActing_35 rfl rfl ?_
        refine xx_iload e_Ci_mayStopActing_36 rfl ?_
        refine xx_aload_n e_Ci_mayStopActing_38 rfl rfl ?_
        refine xh_getR e_Ci_mayStopActing_39 fg_Ci_74 rfl rfl ?_
        refine xx_aload_n e_Ci_mayStopActing_42 rfl rfl ?_
        refine xx_iload_n e_Ci_mayStopActing_43 rfl rfl ?_
        refine xx_iload e_Ci_mayStopActing_44 rfl ?_
        refine xc_V2i e_Ci_mayStopActing_46 kv_Ci_60 (xl_obj rfl) (t_G_successor hk (by omega)) ?_
        refine xh_iald e_Ci_mayStopActing_49 rfl (hsc t e1 e2) ?_
        refine xc_V2i e_Ci_mayStopActing_50 kv_Ci_93 (xl_obj rfl) (t_Ci_acts hw hs) ?_
        refine xx_if_ne e_Ci_mayStopActing_53 (fun q3 => nxt e1 (decide_eq_false (fun z => q3 z.2.2))) (fun q3 => ?_)
        refine xx_iconst (v := 1) e_Ci_mayStopActing_56 (by decide) ?_
        refine xx_iret e_Ci_mayStopActing_57 rfl rfl ?_
        unfold c_ms
        rw [xfnd_i e1 (decide_eq_true ⟨q1, q2, q3⟩) hin]
        exact ⟨rfl, rfl⟩
  refine xx_iconst (v := 0) e_Ci_mayStopActing_0 (by decide) ?_
  refine xx_istore e_Ci_mayStopActing_1 rfl ?_
  exact loop _ 0 rfl (Nat.zero_le _) (fun i hi => absurd hi (Nat.not_lt_zero i))
end XCirc
