/-! The reference: the states that the circuit comes to. -/
section XModel13
variable {S : Nat × (Nat → Int32)} {V : xl_V} {d : Nat}
def xcnt (f : Nat → Int32) : Nat → Nat
  | 0 => 0
  | n + 1 => xcnt f n + (if f n = 0 then 1 else 0)
theorem xcnt_le {f g : Nat → Int32} : ∀ n, (∀ j, j < n → ¬ f j = 0 → ¬ g j = 0) → xcnt g n ≤ xcnt f n
  | 0, _ => Nat.le_refl _
  | n + 1, h => by
    have h1 := xcnt_le n (fun j hj => h j (by omega))
    have h2 := h n (by omega)
    show xcnt g n + (if g n = 0 then 1 else 0) ≤ xcnt f n + (if f n = 0 then 1 else 0)
    by_cases hf : f n = 0
    · rw [if_pos hf]; split <;> omega
    · rw [if_neg hf, if_neg (h2 hf)]; omega
theorem xcnt_lt {f g : Nat → Int32} : ∀ n, (∀ j, j < n → ¬ f j = 0 → ¬ g j = 0) → ∀ j, j < n → f j = 0 → ¬ g j = 0 → xcnt g n < xcnt f n
  | 0, _, j, hj, _, _ => absurd hj (Nat.not_lt_zero j)
  | n + 1, h, j, hj, h1, h2 => by
    show xcnt g n + (if g n = 0 then 1 else 0) < xcnt f n + (if f n = 0 then 1 else 0)
    rcases Nat.lt_or_ge j n with hjn | hjn
    · have i1 := xcnt_lt n (fun i hi => h i (by omega)) j hjn h1 h2
      have i2 := h n (by omega)
      by_cases hf : f n = 0
      · rw [if_pos hf]; split <;> omega
      · rw [if_neg hf, if_neg (i2 hf)]; omega
    · have e : j = n := by omega
      subst e
      have i1 := xcnt_le j (fun i hi => h i (by omega))
      rw [if_pos h1, if_neg h2]
      omega
/-- the least set of states that holds 0 and goes on wherever the circuit fires -/
def m_R (V : xl_V) (sg : Nat) (G : Nat → List Nat) (e c k : Nat) : Prop := ∀ P : Nat → Prop, P 0 → (∀ k t, P k → k < c → t < e → ¬ m_fr V sg G k t = 0 → P (m_to V c k t)) → P k
theorem t_M_comeTo {c e sg : Nat} {G : Nat → List Nat} {Q : xa_Q} (hc : V.1 47 13 = nI c) (h8 : c ≤ 81) (h0 : 0 < c) (he : V.1 47 4 = nI e) (h14 : e ≤ 14) (hs : V.1 47 1 = nI sg) (h5 : sg ≤ 5) (hG : m_go V sg G) (hof : ∀ t, t < e → ∃ s, s < sg ∧ V.2.1 50 t = nI s)
    (hcl : ∀ k t, k < c → t < e → ¬ m_en V k t = 0 → ∃ j, xfnd (m_is V (m_mk V k t) (m_cd V k t)) c = some j)
    (kk : ∀ f : Nat → Int32, (∀ k, k < c → (¬ f k = 0 ↔ m_R V sg G e c k)) → Q (.inl none) (xl_H xlay (xl_a V 67 f))) :
    xX S (d + 5) 149 0 (xa_ent 5 [.ref 47]) [] V 0 0 Q := by
  have fin : ∀ f : Nat → Int32, ¬ f 0 = 0 → (∀ k, k < c → ¬ f k = 0 → m_R V sg G e c k) → (∀ k t, k < c → t < e → ¬ f k = 0 → ¬ m_fr V sg G k t = 0 → ¬ f (m_to V c k t) = 0) → ∀ l2 l3 l4, xX S (d + 5) 149 33 [.ref 47, .int 0, l2, l3, l4] [] (xl_a V 67 f) 0 0 Q := by
    intro f f0 fR fc l2 l3 l4
    refine xx_iload_n e_M_comeTo_33 rfl rfl ?_
    refine xx_if_eq e_M_comeTo_34 (fun _ => ?_) (fun q => absurd rfl q)
    refine xx_vret e_M_comeTo_142 rfl ?_
    refine kk f (fun k hk => ⟨fR k hk, fun hR => ?_⟩)
    exact (hR (fun k => k < c ∧ ¬ f k = 0) ⟨h0, f0⟩ (fun k t hk _ ht hfr => by
      have hen : ¬ m_en V k t = 0 := fun z => hfr (if_pos z)
      obtain ⟨j, hj⟩ := hcl k t hk.1 ht hen
      refine ⟨?_, fc k t hk.1 ht hk.2 hfr⟩
      unfold m_to
      rw [hj]
      exact (xfnd_s hj).1)).2
  have outer : ∀ m (f : Nat → Int32), xcnt f c = m → ¬ f 0 = 0 → (∀ k, k < c → ¬ f k = 0 → m_R V sg G e c k) → ∀ z l2 l3 l4, ¬ z = 0 → xX S (d + 5) 149 33 [.ref 47, .int z, l2, l3, l4] [] (xl_a V 67 f) 0 0 Q := by
    intro m
    induction m using Nat.strongRecOn with
    | ind m ih =>
      intro g hm g0 gR z l2 l3 l4 hz
      have passk : ∀ n k, c - k = n → k ≤ c → ∀ (f : Nat → Int32) (z : Int32) l3 l4, (∀ j, ¬ g j = 0 → ¬ f j = 0) → (∀ k, k < c → ¬ f k = 0 → m_R V sg G e c k) → (z = 0 → ∀ j, ¬ f j = 0 → ¬ g j = 0) → (¬ z = 0 → xcnt f c < xcnt g c) →
          (z = 0 → ∀ k' t', k' < k → t' < e → ¬ g k' = 0 → ¬ m_fr V sg G k' t' = 0 → ¬ g (m_to V c k' t') = 0) → xX S (d + 5) 149 41 [.ref 47, .int z, .int (nI k), l3, l4] [] (xl_a V 67 f) 0 0 Q := by
        intro n
        induction n using Nat.strongRecOn with
        | ind n ihk =>
          intro k hn hk f z l3 l4 hA fR hz0 hz1 hcz
          refine xx_iload_n e_M_comeTo_41 rfl rfl ?_
          refine xx_aload_n e_M_comeTo_42 rfl rfl ?_
          refine xh_get e_M_comeTo_43 fg_M_81 rfl rfl ?_
          refine xx_icmp_ge e_M_comeTo_46 (fun q => ?_) (fun q => ?_)
          · have e1 : c ≤ k := (xle hc rfl (by omega) (by omega)).mp q
            refine xx_goto e_M_comeTo_139 ?_
            by_cases hzz : z = 0
            · subst hzz
              refine fin f (hA 0 g0) fR (fun k' t' hk' ht' hf hfr => hA _ (hcz rfl k' t' (by omega) ht' (hz0 rfl k' hf) hfr)) _ _ _
            · exact ih (xcnt f c) (by have := hz1 hzz; omega) f rfl (hA 0 g0) fR z _ _ _ hzz
          · have e1 : k < c := Nat.lt_of_not_le (fun w => q ((xle hc rfl (by omega) (by omega)).mpr w))
            have passt : ∀ w t, e - t = w → t ≤ e → ∀ (f : Nat → Int32) (z : Int32) l4, (∀ j, ¬ g j = 0 → ¬ f j = 0) → (∀ k, k < c → ¬ f k = 0 → m_R V sg G e c k) → (z = 0 → ∀ j, ¬ f j = 0 → ¬ g j = 0) → (¬ z = 0 → xcnt f c < xcnt g c) →
                (z = 0 → ∀ k' t', (k' < k ∨ k' = k ∧ t' < t) → t' < e → ¬ g k' = 0 → ¬ m_fr V sg G k' t' = 0 → ¬ g (m_to V c k' t') = 0) → xX S (d + 5) 149 51 [.ref 47, .int z, .int (nI k), .int (nI t), l4] [] (xl_a V 67 f) 0 0 Q := by
              intro w
              induction w using Nat.strongRecOn with
              | ind w iht =>
                intro t hw ht f z l4 hA fR hz0 hz1 hcz
                refine xx_iload_n e_M_comeTo_51 rfl rfl ?_
                refine xx_aload_n e_M_comeTo_52 rfl rfl ?_
                refine xh_get e_M_comeTo_53 fg_M_94 rfl rfl ?_
                refine xx_icmp_ge e_M_comeTo_56 (fun q => ?_) (fun q => ?_)
                · have e2 : e ≤ t := (xle he rfl (by omega) (by omega)).mp q
                  refine xh_incN e_M_comeTo_133 rfl ?_
                  refine xx_goto e_M_comeTo_136 ?_
                  exact ihk (c - (k + 1)) (by omega) (k + 1) rfl (by omega) f z _ _ hA fR hz0 hz1 (fun h k' t' hk' ht' => hcz h k' t' (by omega) ht')
                · have e2 : t < e := Nat.lt_of_not_le (fun w => q ((xle he rfl (by omega) (by omega)).mpr w))
                  refine xx_aload_n e_M_comeTo_59 rfl rfl ?_
                  refine xh_getR e_M_comeTo_60 fg_M_75 rfl rfl ?_
                  refine xx_iload_n e_M_comeTo_63 rfl rfl ?_
                  refine xh_balN e_M_comeTo_64 rfl (by omega) ?_
                  rw [show (xl_a V 67 f).2.1 67 = f from xl_a_s V 67 f]
                  refine xx_if_eq e_M_comeTo_65 (fun q1 => ?_) (fun q1 => ?_)
                  · skip
                    refine xh_incN e_M_comeTo_133 rfl ?_
                    refine xx_goto e_M_comeTo_136 ?_
                    refine ihk (c - (k + 1)) (by omega) (k + 1) rfl (by omega) f z _ _ hA fR hz0 hz1 (fun h k' t' hk' ht' hg => ?_)
                    rcases Nat.lt_or_ge k' k with h1 | h1
                    · exact hcz h k' t' (.inl h1) ht' hg
                    · rw [show k' = k by omega] at hg
                      exact absurd q1 (hA k hg)
                  · have put : ∀ j, j < c → m_R V sg G e c j → (¬ m_fr V sg G k t = 0 → j = m_to V c k t) → xX S (d + 5) 149 97 [.ref 47, .int z, .int (nI k), .int (nI t), l4] [.int (nI j)] (xl_a V 67 f) 0 0 Q := by
                      intro j hj hjR hjt
                      have hA' : ∀ i, ¬ f i = 0 → ¬ upd f j 1 i = 0 := fun i hi => by
                        by_cases e3 : i = j
                        · rw [e3, pk_us]; decide
                        · rw [pk_un e3]; exact hi
                      have fR' : ∀ k, k < c → ¬ upd f j 1 k = 0 → m_R V sg G e c k := fun i hi hf => by
                        by_cases e3 : i = j
                        · rw [e3]; exact hjR
                        · rw [pk_un e3] at hf; exact fR i hi hf
                      have one : xcnt (upd f j 1) c < xcnt g c → xX S (d + 5) 149 113 [.ref 47, .int z, .int (nI k), .int (nI t), .int (nI j)] [] (xl_a V 67 f) 0 0 Q := by
                        intro hlt
                        refine xx_iconst (v := 1) e_M_comeTo_113 (by decide) ?_
                        refine xx_goto e_M_comeTo_114 ?_
                        refine xx_istore_n e_M_comeTo_118 rfl rfl ?_
                        refine xx_aload_n e_M_comeTo_119 rfl rfl ?_
                        refine xh_getR e_M_comeTo_120 fg_M_75 rfl rfl ?_
                        refine xx_iload e_M_comeTo_123 rfl ?_
                        refine xx_iconst (v := 1) e_M_comeTo_125 (by decide) ?_
                        refine xh_basN e_M_comeTo_126 rfl (by omega) ?_
                        refine xh_incN e_M_comeTo_127 rfl ?_
                        refine xx_goto e_M_comeTo_130 ?_
                        rw [xl_aa, xl_a_s]
                        exact iht (e - (t + 1)) (by omega) (t + 1) rfl (by omega) (upd f j 1) 1 _ (fun i hi => hA' i (hA i hi)) fR' (fun h => absurd h (by decide)) (fun _ => hlt) (fun h => absurd h (by decide))
                      refine xx_istore e_M_comeTo_97 rfl ?_
                      refine xx_iload_n e_M_comeTo_99 rfl rfl ?_
                      refine xx_if_ne e_M_comeTo_100 (fun q2 => one ?_) (fun q2 => ?_)
                      · have := xcnt_le c (fun i _ => hA' i)
                        have := hz1 q2
                        omega
                      · skip
                        refine xx_aload_n e_M_comeTo_103 rfl rfl ?_
                        refine xh_getR e_M_comeTo_104 fg_M_75 rfl rfl ?_
                        refine xx_iload e_M_comeTo_107 rfl ?_
                        refine xh_balN e_M_comeTo_109 rfl (by omega) ?_
                        rw [show (xl_a V 67 f).2.1 67 = f from xl_a_s V 67 f]
                        refine xx_if_ne e_M_comeTo_110 (fun q3 => ?_) (fun q3 => one ?_)
                        · skip
                          refine xx_iconst (v := 0) e_M_comeTo_117 (by decide) ?_
                          refine xx_istore_n e_M_comeTo_118 rfl rfl ?_
                          refine xx_aload_n e_M_comeTo_119 rfl rfl ?_
                          refine xh_getR e_M_comeTo_120 fg_M_75 rfl rfl ?_
                          refine xx_iload e_M_comeTo_123 rfl ?_
                          refine xx_iconst (v := 1) e_M_comeTo_125 (by decide) ?_
                          refine xh_basN e_M_comeTo_126 rfl (by omega) ?_
                          refine xh_incN e_M_comeTo_127 rfl ?_
                          refine xx_goto e_M_comeTo_130 ?_
                          rw [xl_aa, xl_a_s]
                          refine iht (e - (t + 1)) (by omega) (t + 1) rfl (by omega) (upd f j 1) 0 _ (fun i hi => hA' i (hA i hi)) fR' (fun _ i hi => ?_) (fun h => absurd rfl h) (fun _ k' t' hk' ht' hg hfr => ?_)
                          · by_cases e3 : i = j
                            · rw [e3]; exact hz0 q2 j q3
                            · rw [pk_un e3] at hi; exact hz0 q2 i hi
                          · by_cases e3 : k' = k ∧ t' = t
                            · obtain ⟨e3, e4⟩ := e3
                              subst e3
                              subst e4
                              rw [← hjt hfr]
                              exact hz0 q2 j q3
                            · exact hcz q2 k' t' (by omega) ht' hg hfr
                        · have i1 := xcnt_lt c (fun i _ => hA' i) j hj q3 (by rw [pk_us]; decide)
                          have i2 := xcnt_le c (fun i _ => hA i)
                          omega
                    refine xx_aload_n e_M_comeTo_68 rfl rfl ?_
                    refine xx_iload_n e_M_comeTo_69 rfl rfl ?_
                    refine xx_iload_n e_M_comeTo_70 rfl rfl ?_
                    refine xc_V2i e_M_comeTo_71 kv_M_197 (xl_obj rfl) (t_M_fires (V := xl_a V 67 f) (G := G) hs h5 hG (by omega) (by omega) (hof t e2)) ?_
                    rw [show m_fr (xl_a V 67 f) sg G k t = m_fr V sg G k t from rfl]
                    refine xx_if_eq e_M_comeTo_74 (fun q2 => ?_) (fun q2 => ?_)
                    · skip
                      refine xx_iload_n e_M_comeTo_96 rfl rfl ?_
                      exact put k e1 (fR k e1 q1) (fun h => absurd q2 h)
                    · have hen : ¬ m_en V k t = 0 := fun w => q2 (if_pos w)
                      obtain ⟨j, hj⟩ := hcl k t e1 e2 hen
                      have hto : m_to V c k t = j := by unfold m_to; rw [hj]; rfl
                      refine xx_aload_n e_M_comeTo_77 rfl rfl ?_
                      refine xx_aload_n e_M_comeTo_78 rfl rfl ?_
                      refine xx_iload_n e_M_comeTo_79 rfl rfl ?_
                      refine xx_iload_n e_M_comeTo_80 rfl rfl ?_
                      refine xc_V2i e_M_comeTo_81 kv_M_113 (xl_obj rfl) (t_M_markAfter (by omega) (by omega)) ?_
                      refine xx_aload_n e_M_comeTo_84 rfl rfl ?_
                      refine xx_iload_n e_M_comeTo_85 rfl rfl ?_
                      refine xx_iload_n e_M_comeTo_86 rfl rfl ?_
                      refine xc_V2i e_M_comeTo_87 kv_M_117 (xl_obj rfl) (t_M_codeAfter (by omega) (by omega)) ?_
                      refine xc_V2i e_M_comeTo_90 kv_M_120 (xl_obj rfl) (t_M_find (V := xl_a V 67 f) hc h8) ?_
                      rw [show xfnd (m_is (xl_a V 67 f) (m_mk (xl_a V 67 f) k t) (m_cd (xl_a V 67 f) k t)) c = some j from hj]
                      refine xx_goto e_M_comeTo_93 ?_
                      exact put j (xfnd_s hj).1 (fun P p0 ps => by rw [← hto]; exact ps k t (fR k e1 q1 P p0 ps) e1 e2 q2) (fun _ => hto.symm)
            refine xx_iconst (v := 0) e_M_comeTo_49 (by decide) ?_
            refine xx_istore_n e_M_comeTo_50 rfl rfl ?_
            exact passt _ 0 rfl (Nat.zero_le _) f z _ hA fR hz0 hz1 (fun h k' t' hk' => hcz h k' t' (by omega))
      refine xx_iload_n e_M_comeTo_33 rfl rfl ?_
      refine xx_if_eq e_M_comeTo_34 (fun q => absurd q hz) (fun _ => ?_)
      refine xx_iconst (v := 0) e_M_comeTo_37 (by decide) ?_
      refine xx_istore_n e_M_comeTo_38 rfl rfl ?_
      refine xx_iconst (v := 0) e_M_comeTo_39 (by decide) ?_
      refine xx_istore_n e_M_comeTo_40 rfl rfl ?_
      exact passk _ 0 rfl (Nat.zero_le _) g 0 _ _ (fun j h => h) gR (fun _ j h => h) (fun h => absurd rfl h) (fun _ k' t' hk' => absurd hk' (Nat.not_lt_zero k'))
  have init : ∀ n k, c - k = n → k ≤ c → ∀ f : Nat → Int32, (∀ q, q < k → f q = if q = 0 then 1 else 0) → xX S (d + 5) 149 2 [.ref 47, .int (nI k), xa_j, xa_j, xa_j] [] (xl_a V 67 f) 0 0 Q := by
    intro n
    induction n using Nat.strongRecOn with
    | ind n ih =>
      intro k hn hk f hf
      refine xx_iload_n e_M_comeTo_2 rfl rfl ?_
      refine xx_aload_n e_M_comeTo_3 rfl rfl ?_
      refine xh_get e_M_comeTo_4 fg_M_81 rfl rfl ?_
      refine xx_icmp_ge e_M_comeTo_7 (fun q => ?_) (fun q => ?_)
      · have e1 : c ≤ k := (xle hc rfl (by omega) (by omega)).mp q
        refine xx_iconst (v := 1) e_M_comeTo_31 (by decide) ?_
        refine xx_istore_n e_M_comeTo_32 rfl rfl ?_
        refine outer _ f rfl (by rw [hf 0 (by omega)]; decide) (fun k' hk' hne => ?_) 1 _ _ _ (by decide)
        rw [hf k' (by omega)] at hne
        by_cases e2 : k' = 0
        · rw [e2]
          exact fun P p0 _ => p0
        · rw [if_neg e2] at hne
          exact absurd rfl hne
      · have e1 : k < c := Nat.lt_of_not_le (fun w => q ((xle hc rfl (by omega) (by omega)).mpr w))
        have put : ∀ z : Int32, vp_nar .boolean z = (if k = 0 then 1 else 0) → xX S (d + 5) 149 24 [.ref 47, .int (nI k), xa_j, xa_j, xa_j] [.int z, .int (nI k), .ref 67] (xl_a V 67 f) 0 0 Q := by
          intro z hz
          refine xh_basN e_M_comeTo_24 rfl (by omega) ?_
          refine xh_incN e_M_comeTo_25 rfl ?_
          refine xx_goto e_M_comeTo_28 ?_
          rw [hz, xl_aa, xl_a_s]
          refine ih (c - (k + 1)) (by omega) (k + 1) rfl (by omega) _ (fun q hq => ?_)
          by_cases e2 : q = k
          · rw [e2, pk_us]
          · rw [pk_un e2]
            exact hf q (by omega)
        refine xx_aload_n e_M_comeTo_10 rfl rfl ?_
        refine xh_getR e_M_comeTo_11 fg_M_75 rfl rfl ?_
        refine xx_iload_n e_M_comeTo_14 rfl rfl ?_
        refine xx_iload_n e_M_comeTo_15 rfl rfl ?_
        refine xx_if_ne e_M_comeTo_16 (fun q1 => ?_) (fun q1 => ?_)
        · have e2 : k ≠ 0 := fun w => q1 (by rw [w]; rfl)
          refine xx_iconst (v := 0) e_M_comeTo_23 (by decide) ?_
          exact put 0 (by rw [if_neg e2]; rfl)
        · have e2 : k = 0 := (xeq (b := 0) rfl rfl (by omega) (by decide)).mp q1
          refine xx_iconst (v := 1) e_M_comeTo_19 (by decide) ?_
          refine xx_goto e_M_comeTo_20 ?_
          exact put 1 (by rw [if_pos e2]; rfl)
  refine xx_iconst (v := 0) e_M_comeTo_0 (by decide) ?_
  refine xx_istore_n e_M_comeTo_1 rfl rfl ?_
  have h := init _ 0 rfl (Nat.zero_le _) (V.2.1 67) (fun q hq => absurd hq (Nat.not_lt_zero q))
  rw [xl_a_id] at h
  exact h
end XModel13
