/-! The circuit: the states that it comes to. -/
section XCirc3
variable {S : Nat × (Nat → Int32)} {V : xl_V} {d : Nat}
/-- an injection of n numbers below m: n ≤ m -/
theorem xpig : ∀ (m n : Nat) (f : Nat → Nat), (∀ i, i < n → f i < m) → (∀ i j, i < n → j < n → f i = f j → i = j) → n ≤ m
  | 0, n, f, h, _ => by
    rcases Nat.eq_zero_or_pos n with e | e
    · omega
    · exact absurd (h 0 e) (Nat.not_lt_zero _)
  | m + 1, n, f, h, inj => by
    rcases Nat.eq_zero_or_pos n with e | e
    · omega
    · by_cases hx : ∃ i, i < n ∧ f i = m
      · obtain ⟨i, hi, hm⟩ := hx
        have h1 := xpig m (n - 1) (fun j => if j < i then f j else f (j + 1)) (fun j hj => by
          show (if j < i then f j else f (j + 1)) < m
          split
          · rename_i hji
            have a := h j (by omega)
            have b : f j ≠ m := fun z => by have := inj j i (by omega) hi (z.trans hm.symm); omega
            omega
          · rename_i hji
            have a := h (j + 1) (by omega)
            have b : f (j + 1) ≠ m := fun z => by have := inj (j + 1) i (by omega) hi (z.trans hm.symm); omega
            omega) (fun j j2 hj hj2 hf => by
          have hf : (if j < i then f j else f (j + 1)) = (if j2 < i then f j2 else f (j2 + 1)) := hf
          split at hf
          · split at hf
            · exact inj j j2 (by omega) (by omega) hf
            · have := inj j (j2 + 1) (by omega) (by omega) hf; omega
          · split at hf
            · have := inj (j + 1) j2 (by omega) (by omega) hf; omega
            · have := inj (j + 1) (j2 + 1) (by omega) (by omega) hf; omega)
        omega
      · have h1 := xpig m n f (fun i hi => by
          have a := h i hi
          have b : f i ≠ m := fun z => hx ⟨i, hi, z⟩
          omega) inj
        omega
/-- the least set of states that holds 0 and goes on wherever the circuit may fire -/
def c_R (V : xl_V) (w e k : Nat) : Prop := ∀ P : Nat → Prop, P 0 → (∀ k t, P k → t < e → ¬ c_mf V w k t = 0 → P (V.2.1 12 (k * 14 + t)).toNatClampNeg) → P k
/-- what the search leaves alone -/
def c_fr (V W : xl_V) : Prop := (∀ b j, ¬ (b = 13 ∧ j = 5) → W.1 b j = V.1 b j) ∧ (∀ a, a ≠ 16 → a ≠ 17 → W.2.1 a = V.2.1 a) ∧ W.2.2 = V.2.2
theorem c_fr_mf {W : xl_V} (h : c_fr V W) (w k t : Nat) : c_mf W w k t = c_mf V w k t := by
  unfold c_mf n_in n_lv ga_ou
  rw [h.2.1 12 (by decide) (by decide), h.2.1 2 (by decide) (by decide), h.2.1 3 (by decide) (by decide), h.2.1 8 (by decide) (by decide), h.1 1 6 (fun z => absurd z.1 (by decide)), h.1 (ga w (V.2.1 2 t).toNatClampNeg) 2 (fun z => absurd z.2 (by decide))]
theorem c_fr_ok {W : xl_V} (h : c_fr V W) {w : Nat} (hw : c_ok V w) : c_ok W w := ⟨hw.1, fun s hs => by rw [h.2.2]; exact hw.2 s hs⟩
/-- the queue and the marks, as the search goes -/
def c_q (V W : xl_V) (w e c n : Nat) : Prop := c_fr V W ∧ W.1 13 5 = nI n ∧ n ≤ c ∧ (∀ i, i < n → ∃ k, k < c ∧ W.2.1 17 i = nI k ∧ W.2.1 16 k = 1) ∧
  (∀ i j, i < n → j < n → W.2.1 17 i = W.2.1 17 j → i = j) ∧ (∀ k, k < 80 → ¬ W.2.1 16 k = 0 → k < c ∧ (∃ i, i < n ∧ W.2.1 17 i = nI k) ∧ c_R V w e k)
theorem c_q_lt {W : xl_V} {w e c n k : Nat} (h : c_q V W w e c n) (h80 : c ≤ 80) (hk : k < c) (hz : W.2.1 16 k = 0) : n < c := by
  obtain ⟨h1, h2, h3, h4, h5, h6⟩ := h
  have := xpig c (n + 1) (fun i => if i < n then (W.2.1 17 i).toNatClampNeg else k) (fun i hi => by
    show (if i < n then (W.2.1 17 i).toNatClampNeg else k) < c
    split
    · rename_i hin
      obtain ⟨k1, a1, a2, -⟩ := h4 i hin
      rw [a2, nI_clamp (xn31 (by omega))]
      exact a1
    · exact hk) (fun i j hi hj hf => by
    have hf : (if i < n then (W.2.1 17 i).toNatClampNeg else k) = (if j < n then (W.2.1 17 j).toNatClampNeg else k) := hf
    by_cases hin : i < n
    · obtain ⟨k1, a1, a2, a3⟩ := h4 i hin
      rw [if_pos hin, a2, nI_clamp (xn31 (by omega))] at hf
      by_cases hjn : j < n
      · obtain ⟨k2, b1, b2, b3⟩ := h4 j hjn
        rw [if_pos hjn, b2, nI_clamp (xn31 (by omega))] at hf
        exact h5 i j hin hjn (by rw [a2, b2, hf])
      · rw [if_neg hjn] at hf
        rw [hf, hz] at a3
        exact absurd a3 (by decide)
    · rw [if_neg hin] at hf
      by_cases hjn : j < n
      · obtain ⟨k2, b1, b2, b3⟩ := h4 j hjn
        rw [if_pos hjn, b2, nI_clamp (xn31 (by omega))] at hf
        rw [← hf, hz] at b3
        exact absurd b3 (by decide)
      · omega)
  omega
theorem c_q_re {W : xl_V} {w e c n k : Nat} (h : c_q V W w e c n) (h80 : c ≤ 80) (hk : k < c) (hR : c_R V w e k) : ∃ n', c_q V (c_re W k) w e c n' ∧ n ≤ n' ∧ (∀ i, i < n → (c_re W k).2.1 17 i = W.2.1 17 i) ∧ (∀ j, ¬ W.2.1 16 j = 0 → ¬ (c_re W k).2.1 16 j = 0) ∧ ¬ (c_re W k).2.1 16 k = 0 := by
  by_cases hz : W.2.1 16 k = 0
  · have hn := c_q_lt h h80 hk hz
    obtain ⟨h1, h2, h3, h4, h5, h6⟩ := h
    have hcl : (W.1 13 5).toNatClampNeg = n := by rw [h2]; exact nI_clamp (xn31 (by omega))
    have e16 : (c_re W k).2.1 16 = upd (W.2.1 16) k 1 := by unfold c_re; rw [if_pos hz]; rfl
    have e17 : (c_re W k).2.1 17 = upd (W.2.1 17) n (nI k) := by unfold c_re; rw [if_pos hz, hcl]; rfl
    have u1 : ∀ j, j ≠ n → (c_re W k).2.1 17 j = W.2.1 17 j := fun j hj => by rw [e17]; exact pk_un hj
    have u2 : (c_re W k).2.1 17 n = nI k := by rw [e17]; exact pk_us
    have m1 : ∀ j, j ≠ k → (c_re W k).2.1 16 j = W.2.1 16 j := fun j hj => by rw [e16]; exact pk_un hj
    have m2 : (c_re W k).2.1 16 k = 1 := by rw [e16]; exact pk_us
    have keep : ∀ j, ¬ W.2.1 16 j = 0 → j ≠ k := fun j hj z => hj (by rw [z]; exact hz)
    refine ⟨n + 1, ⟨⟨fun b j hb => ?_, fun a ha hb => ?_, ?_⟩, ?_, by omega, fun i hi => ?_, fun i j hi hj hf => ?_, fun j hj8 hj => ?_⟩, by omega, fun i hi => u1 i (by omega), fun j hj => by rw [m1 j (keep j hj)]; exact hj, by rw [m2]; decide⟩
    · have := h1.1 b j hb
      rw [← this]
      unfold c_re
      rw [if_pos hz]
      exact if_neg hb
    · have := h1.2.1 a ha hb
      rw [← this]
      unfold c_re
      rw [if_pos hz]
      show xa_up (xa_up W.2.1 16 _) 17 _ a = _
      rw [xa_up_n _ _ hb, xa_up_n _ _ ha]
    · have := h1.2.2
      rw [← this]
      unfold c_re
      rw [if_pos hz]
      rfl
    · unfold c_re
      rw [if_pos hz]
      show W.1 13 5 + 1 = _
      rw [h2, nI_1]
    · by_cases e : i = n
      · exact ⟨k, hk, by rw [e]; exact u2, m2⟩
      · obtain ⟨k1, a1, a2, a3⟩ := h4 i (by omega)
        exact ⟨k1, a1, by rw [u1 i e]; exact a2, by rw [m1 k1 (keep k1 (by rw [a3]; decide))]; exact a3⟩
    · by_cases e : i = n
      · by_cases e2 : j = n
        · omega
        · obtain ⟨k1, a1, a2, a3⟩ := h4 j (by omega)
          rw [e, u2, u1 j e2, a2] at hf
          have : k = k1 := (nI_eq (xn31 (by omega)) (xn31 (by omega))).mp hf
          rw [← this, hz] at a3
          exact absurd a3 (by decide)
      · by_cases e2 : j = n
        · obtain ⟨k1, a1, a2, a3⟩ := h4 i (by omega)
          rw [e2, u2, u1 i e, a2] at hf
          have : k1 = k := (nI_eq (xn31 (by omega)) (xn31 (by omega))).mp hf
          rw [this, hz] at a3
          exact absurd a3 (by decide)
        · rw [u1 i e, u1 j e2] at hf
          exact h5 i j (by omega) (by omega) hf
    · by_cases e : j = k
      · rw [e]
        exact ⟨hk, ⟨n, by omega, u2⟩, hR⟩
      · rw [m1 j e] at hj
        obtain ⟨a1, ⟨i, a2, a3⟩, a4⟩ := h6 j hj8 hj
        exact ⟨a1, ⟨i, by omega, by rw [u1 i (by omega)]; exact a3⟩, a4⟩
  · have e : c_re W k = W := by unfold c_re; rw [if_neg hz]
    rw [e]
    exact ⟨n, h, Nat.le_refl _, fun _ _ => rfl, fun _ hj => hj, hz⟩
/-- what the search comes to -/
def c_rd (V W : xl_V) (w e c : Nat) : Prop := c_fr V W ∧ ∀ k, k < 80 → (¬ W.2.1 16 k = 0 ↔ c_R V w e k)
theorem t_Ci_reachStates {w c e : Nat} {Q : xa_Q} (hw : c_ok V w) (h1c : 0 < c) (h80 : c ≤ 80) (he : V.1 1 1 = nI e) (h14 : e ≤ 14) (hsg : ∀ t, t < e → ∃ s, s < 5 ∧ V.2.1 2 t = nI s)
    (hsc : ∀ k t, k < c → t < e → ¬ V.2.1 12 (k * 14 + t) = -1 → ∃ j, j < c ∧ V.2.1 12 (k * 14 + t) = nI j) (hQ : ∀ W, c_rd V W w e c → Q (.inl none) (xl_H xlay W)) :
    xX S (d + 2) 94 0 (xa_ent 6 [.ref 13, .ref 1, .ref 6]) [] V 0 0 Q := by
  have stepR : ∀ k t j, c_R V w e k → t < e → ¬ c_mf V w k t = 0 → V.2.1 12 (k * 14 + t) = nI j → j < c → c_R V w e j := fun k t j hR ht hm hj hjc P p0 ps => by
    have := ps k t (hR P p0 ps) ht hm
    rwa [hj, nI_clamp (xn31 (by omega))] at this
  have turns : ∀ m i (W : xl_V) n, 80 - i = m → i ≤ n → c_q V W w e c n → (∀ i2, i2 < i → ∀ k t j, W.2.1 17 i2 = nI k → k < c → t < e → ¬ c_mf V w k t = 0 → V.2.1 12 (k * 14 + t) = nI j → j < c → ¬ W.2.1 16 j = 0) → ¬ W.2.1 16 0 = 0 →
      xX S (d + 2) 94 33 [.ref 13, .ref 1, .ref 6, .int (nI i), xa_j, xa_j] [] W 0 0 Q := by
    intro m
    induction m using Nat.strongRecOn with
    | ind m ih =>
      intro i W n hm hin hq hcl h0
      have done : n ≤ i → xX S (d + 2) 94 104 [.ref 13, .ref 1, .ref 6, .int (nI i), xa_j, xa_j] [] W 0 0 Q := by
        intro hni
        refine xx_vret e_Ci_reachStates_104 rfl ?_
        refine hQ W ⟨hq.1, fun k hk8 => ⟨fun hk => (hq.2.2.2.2.2 k hk8 hk).2.2, fun hR => ?_⟩⟩
        refine (hR (fun k => k < 80 ∧ ¬ W.2.1 16 k = 0) ⟨by decide, h0⟩ (fun k t hk ht hm => ?_)).2
        obtain ⟨a1, ⟨i2, a2, a3⟩, a4⟩ := hq.2.2.2.2.2 k hk.1 hk.2
        have hne : ¬ V.2.1 12 (k * 14 + t) = -1 := fun z => hm (by unfold c_mf; rw [if_pos z])
        obtain ⟨j, b1, b2⟩ := hsc k t a1 ht hne
        rw [b2, nI_clamp (xn31 (by omega))]
        exact ⟨by omega, hcl i2 (by omega) k t j a3 a1 ht hm b2 b1⟩
      refine xx_iload_n e_Ci_reachStates_33 rfl rfl ?_
      refine xx_bipush (v := 80) e_Ci_reachStates_34 (by decide) ?_
      refine xx_icmp_ge e_Ci_reachStates_36 (fun q => ?_) (fun q => ?_)
      · have e1 := (xle (a := 80) (b := i) rfl rfl (by decide) (by have := hq.2.2.1; omega)).mp q
        exact done (by have := hq.2.2.1; omega)
      · have e1 : i < 80 := Nat.lt_of_not_le (fun z => q ((xle (a := 80) (b := i) rfl rfl (by decide) (by have := hq.2.2.1; omega)).mpr z))
        refine xx_iload_n e_Ci_reachStates_39 rfl rfl ?_
        refine xx_aload_n e_Ci_reachStates_40 rfl rfl ?_
        refine xh_get e_Ci_reachStates_41 fg_Ci_44 rfl rfl ?_
        refine xx_icmp_ge e_Ci_reachStates_44 (fun q1 => ?_) (fun q1 => ?_)
        · exact done ((xle hq.2.1 rfl (by have := hq.2.2.1; omega) (by omega)).mp q1)
        · have e2 : i < n := Nat.lt_of_not_le (fun z => q1 ((xle hq.2.1 rfl (by have := hq.2.2.1; omega) (by omega)).mpr z))
          obtain ⟨k, hkc, hki, hkm⟩ := hq.2.2.2.1 i e2
          have hRk : c_R V w e k := (hq.2.2.2.2.2 k (by omega) (by rw [hkm]; decide)).2.2
          have inner : ∀ m2 t (U : xl_V) n2, e - t = m2 → t ≤ e → n ≤ n2 → c_q V U w e c n2 → (∀ i2, i2 < n → U.2.1 17 i2 = W.2.1 17 i2) → (∀ j, ¬ W.2.1 16 j = 0 → ¬ U.2.1 16 j = 0) →
              (∀ t2 j, t2 < t → ¬ c_mf V w k t2 = 0 → V.2.1 12 (k * 14 + t2) = nI j → j < c → ¬ U.2.1 16 j = 0) → xX S (d + 2) 94 58 [.ref 13, .ref 1, .ref 6, .int (nI i), .int (nI k), .int (nI t)] [] U 0 0 Q := by
            intro m2
            induction m2 using Nat.strongRecOn with
            | ind m2 ih2 =>
              intro t U n2 hm2 ht hnn hqU hsame hkeep hdone
              have heU : U.1 1 1 = nI e := (hqU.1.1 1 1 (fun z => absurd z.1 (by decide))).trans he
              refine xx_iload e_Ci_reachStates_58 rfl ?_
              refine xx_aload_n e_Ci_reachStates_60 rfl rfl ?_
              refine xh_get e_Ci_reachStates_61 fg_Ci_51 rfl rfl ?_
              refine xx_icmp_ge e_Ci_reachStates_64 (fun q2 => ?_) (fun q2 => ?_)
              · have e3 := (xle heU rfl (by omega) (by omega)).mp q2
                refine xh_incN e_Ci_reachStates_98 rfl ?_
                refine xx_goto e_Ci_reachStates_101 ?_
                refine xh_fg 4 (xh_fg 5 ?_)
                refine ih (80 - (i + 1)) (by omega) (i + 1) U n2 rfl (by omega) hqU (fun i2 hi2 k2 t2 j ha hk2 ht2 hm2 hj hjc => ?_) (hkeep 0 h0)
                by_cases ei : i2 = i
                · rw [ei, hsame i e2, hki] at ha
                  have ek : k = k2 := (nI_eq (xn31 (by omega)) (xn31 (by omega))).mp ha
                  rw [← ek] at hm2 hj
                  exact hdone t2 j (by omega) hm2 hj hjc
                · rw [hsame i2 (by omega)] at ha
                  exact hkeep j (hcl i2 (by omega) k2 t2 j ha hk2 ht2 hm2 hj hjc)
              · have e3 : t < e := Nat.lt_of_not_le (fun z => q2 ((xle heU rfl (by omega) (by omega)).mpr z))
                obtain ⟨s1, hs1, hst⟩ := hsg t e3
                have hstU : U.2.1 2 t = nI s1 := by rw [hqU.1.2.1 2 (by decide) (by decide)]; exact hst
                have e12 : U.2.1 12 = V.2.1 12 := hqU.1.2.1 12 (by decide) (by decide)
                refine xx_aload_n e_Ci_reachStates_67 rfl rfl ?_
                refine xx_aload_n e_Ci_reachStates_68 rfl rfl ?_
                refine xx_aload_n e_Ci_reachStates_69 rfl rfl ?_
                refine xx_iload e_Ci_reachStates_70 rfl ?_
                refine xx_iload e_Ci_reachStates_72 rfl ?_
                refine xc_V4i e_Ci_reachStates_74 kv_Ci_56 (xl_obj rfl) (t_Ci_mayFire (c_fr_ok hqU.1 hw) (by omega) (by omega) hs1 hstU) ?_
                rw [c_fr_mf hqU.1]
                refine xx_if_eq e_Ci_reachStates_77 (fun q3 => ?_) (fun q3 => ?_)
                · skip
                  refine xh_incN e_Ci_reachStates_92 rfl ?_
                  refine xx_goto e_Ci_reachStates_95 ?_
                  refine ih2 (e - (t + 1)) (by omega) (t + 1) U n2 rfl (by omega) hnn hqU hsame hkeep (fun t2 j ht2 hm2 hj hjc => ?_)
                  by_cases et : t2 = t
                  · rw [et] at hm2; exact absurd q3 hm2
                  · exact hdone t2 j (by omega) hm2 hj hjc
                · have hne : ¬ V.2.1 12 (k * 14 + t) = -1 := fun z => q3 (by unfold c_mf; rw [if_pos z])
                  obtain ⟨j, hjc, hj⟩ := hsc k t hkc e3 hne
                  obtain ⟨n3, c1, c2, c3, c4, c5⟩ := c_q_re hqU h80 hjc (stepR k t j hRk e3 q3 hj hjc)
                  refine xx_aload_n e_Ci_reachStates_80 rfl rfl ?_
                  refine xx_aload_n e_Ci_reachStates_81 rfl rfl ?_
                  refine xx_iload e_Ci_reachStates_82 rfl ?_
                  refine xx_iload e_Ci_reachStates_84 rfl ?_
                  refine xc_V2i e_Ci_reachStates_86 kv_Ci_60 (xl_obj rfl) (t_G_successor (by omega) (by omega)) ?_
                  rw [e12, hj]
                  refine xc_V1v e_Ci_reachStates_89 kv_Ci_47 (xl_obj rfl) (t_Ci_reach (by omega) (fun hz => by rw [hqU.2.1]; exact vp_in_nI (Nat.lt_of_lt_of_le (c_q_lt hqU h80 hjc hz) h80) (by decide))) ?_
                  refine xh_incN e_Ci_reachStates_92 rfl ?_
                  refine xx_goto e_Ci_reachStates_95 ?_
                  refine ih2 (e - (t + 1)) (by omega) (t + 1) (c_re U j) n3 rfl (by omega) (by omega) c1 (fun i2 hi2 => (c3 i2 (by omega)).trans (hsame i2 hi2)) (fun j2 hj2 => c4 j2 (hkeep j2 hj2)) (fun t2 j2 ht2 hm2 hj2 hjc2 => ?_)
                  by_cases et : t2 = t
                  · rw [et, hj] at hj2
                    have ej : j = j2 := (nI_eq (xn31 (by omega)) (xn31 (by omega))).mp hj2
                    rw [← ej]; exact c5
                  · exact c4 j2 (hdone t2 j2 (by omega) hm2 hj2 hjc2)
          refine xx_aload_n e_Ci_reachStates_47 rfl rfl ?_
          refine xh_getR e_Ci_reachStates_48 fg_Ci_24 rfl rfl ?_
          refine xx_iload_n e_Ci_reachStates_51 rfl rfl ?_
          refine xh_ialN e_Ci_reachStates_52 rfl (by omega) ?_
          rw [hki]
          refine xx_istore e_Ci_reachStates_53 rfl ?_
          refine xx_iconst (v := 0) e_Ci_reachStates_55 (by decide) ?_
          refine xx_istore e_Ci_reachStates_56 rfl ?_
          exact inner _ 0 W n rfl (Nat.zero_le _) (Nat.le_refl _) hq (fun _ _ => rfl) (fun _ hj => hj) (fun t2 _ ht2 => absurd ht2 (Nat.not_lt_zero t2))
  have clr : ∀ m k (W : xl_V), m + k = 80 → c_fr V W → (∀ j, j < k → W.2.1 16 j = 0) → xX S (d + 2) 94 2 [.ref 13, .ref 1, .ref 6, .int (nI k), xa_j, xa_j] [] W 0 0 Q := by
    intro m
    induction m with
    | zero =>
      intro k W hm hf hz
      refine xx_iload_n e_Ci_reachStates_2 rfl rfl ?_
      refine xx_bipush (v := 80) e_Ci_reachStates_3 (by decide) ?_
      refine xx_icmp_ge e_Ci_reachStates_5 (fun q => ?_) (fun q => absurd ((xle (a := 80) (b := k) rfl rfl (by decide) (by omega)).mpr (by omega)) q)
      have hq0 : c_q V (xl_i W 13 5 0) w e c 0 := by
        refine ⟨⟨fun b j hb => ?_, hf.2.1, hf.2.2⟩, rfl, Nat.zero_le _, fun i hi => absurd hi (Nat.not_lt_zero i), fun i _ hi => absurd hi (Nat.not_lt_zero i), fun j hj8 hj => absurd (hz j (by omega)) hj⟩
        rw [← hf.1 b j hb]
        exact if_neg hb
      obtain ⟨n3, c1, c2, c3, c4, c5⟩ := c_q_re hq0 h80 h1c (fun P p0 _ => p0)
      refine xx_aload_n e_Ci_reachStates_21 rfl rfl ?_
      refine xx_iconst (v := 0) e_Ci_reachStates_22 (by decide) ?_
      refine xh_put e_Ci_reachStates_23 fp_Ci_44 rfl rfl ⟨rfl, rfl⟩ ?_
      refine xx_aload_n e_Ci_reachStates_26 rfl rfl ?_
      refine xx_iconst (v := 0) e_Ci_reachStates_27 (by decide) ?_
      refine xc_V1v e_Ci_reachStates_28 kv_Ci_47 (xl_obj rfl) (t_Ci_reach (k := 0) (by decide) (fun _ => vp_in_nI (n := 0) (by decide) (by decide))) ?_
      refine xx_iconst (v := 0) e_Ci_reachStates_31 (by decide) ?_
      refine xx_istore_n e_Ci_reachStates_32 rfl rfl ?_
      exact turns _ 0 _ n3 rfl (Nat.zero_le _) c1 (fun i2 hi2 => absurd hi2 (Nat.not_lt_zero i2)) c5
    | succ m ih =>
      intro k W hm hf hz
      refine xx_iload_n e_Ci_reachStates_2 rfl rfl ?_
      refine xx_bipush (v := 80) e_Ci_reachStates_3 (by decide) ?_
      refine xx_icmp_ge e_Ci_reachStates_5 (fun q => ?_) (fun q => ?_)
      · have := (xle (a := 80) (b := k) rfl rfl (by decide) (by omega)).mp q
        omega
      · skip
        refine xx_aload_n e_Ci_reachStates_8 rfl rfl ?_
        refine xh_getR e_Ci_reachStates_9 fg_Ci_20 rfl rfl ?_
        refine xx_iload_n e_Ci_reachStates_12 rfl rfl ?_
        refine xx_iconst (v := 0) e_Ci_reachStates_13 (by decide) ?_
        refine xh_basN e_Ci_reachStates_14 rfl (by omega) ?_
        refine xh_incN e_Ci_reachStates_15 rfl ?_
        refine xx_goto e_Ci_reachStates_18 ?_
        refine ih (k + 1) _ (by omega) ⟨hf.1, fun a ha hb => ?_, hf.2.2⟩ (fun j hj => ?_)
        · rw [← hf.2.1 a ha hb]
          exact xa_up_n _ _ ha
        · show upd (W.2.1 16) k (vp_nar .boolean 0) j = 0
          by_cases e1 : j = k
          · rw [e1, pk_us]; rfl
          · rw [pk_un e1]; exact hz j (by omega)
  refine xx_iconst (v := 0) e_Ci_reachStates_0 (by decide) ?_
  refine xx_istore_n e_Ci_reachStates_1 rfl rfl ?_
  exact clr 80 0 V rfl ⟨fun _ _ _ => rfl, fun _ _ _ => rfl, rfl⟩ (fun j hj => absurd hj (Nat.not_lt_zero j))
end XCirc3
