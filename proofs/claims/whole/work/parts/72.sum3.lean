/-! The class's least sums: the search. -/
section XSum3
variable {S : Nat × (Nat → Int32)} {V : xl_V} {d : Nat}
/-- what is asked of the library's count of bits -/
def xBC (S : Nat × (Nat → Int32)) : Prop := ∀ (V : xl_V) (d : Nat) (x : Int32), xX S d 68 0 (xa_ent 1 [.int x]) [] V 0 0 (xq (some (.int (nI (xpc x)))) (xl_H xlay V))
theorem t_L_leastCostOf (hbc : xBC S) {w : Nat} {op : Int32} (hw : V.1 38 9 = nI w) (h1 : 1 ≤ w) (h32 : w ≤ 32) : xX S (d + 1) 73 0 (xa_ent 2 [.ref 38, .int op]) [] V 0 0 (xq (some (.int (nI ((xpc op + w - 1) / w * 100)))) (xl_H xlay V)) := by
  have hp : xpc op ≤ 32 := xpn_le op 32
  refine xx_iload_n e_L_leastCostOf_0 rfl rfl ?_
  refine xc_S1i e_L_leastCostOf_1 ks_L_78 (hbc V d op) ?_
  refine xx_aload_n e_L_leastCostOf_4 rfl rfl ?_
  refine xh_get e_L_leastCostOf_5 fg_L_68 rfl rfl ?_
  refine xx_iadd e_L_leastCostOf_8 ?_
  refine xx_iconst (v := 1) e_L_leastCostOf_9 (by decide) ?_
  refine xx_isub e_L_leastCostOf_10 ?_
  refine xx_aload_n e_L_leastCostOf_11 rfl rfl ?_
  refine xh_get e_L_leastCostOf_12 fg_L_68 rfl rfl ?_
  rw [hw, nI_add, show (1 : Int32) = nI 1 from rfl, pk_sub (by omega)]
  refine xx_idiv e_L_leastCostOf_15 (nI_ne0 (by omega) (xn31 (by omega))) ?_
  rw [pk_div (xn31 (by omega)) (by omega) (xn31 (by omega))]
  refine xx_bipush (v := 100) e_L_leastCostOf_16 (by decide) ?_
  refine xx_imul e_L_leastCostOf_18 ?_
  rw [show (100 : Int32) = nI 100 from rfl, pk_mul]
  refine xx_iret e_L_leastCostOf_19 rfl rfl ?_
  exact ⟨rfl, rfl⟩
def l_sf (V W : xl_V) : Prop := (∀ a j, ¬ (a = 38 ∧ j = 10) → W.1 a j = V.1 a j) ∧ (∀ a, a ≠ 42 → a ≠ 43 → a ≠ 44 → W.2.1 a = V.2.1 a) ∧ W.2.2 = V.2.2
theorem l_sf_r (V : xl_V) : l_sf V V := ⟨fun _ _ _ => rfl, fun _ _ _ _ => rfl, rfl⟩
theorem l_sf_t {W U : xl_V} (h : l_sf V W) (h2 : l_sf W U) : l_sf V U := ⟨fun a j hj => (h2.1 a j hj).trans (h.1 a j hj), fun a a1 a2 a3 => (h2.2.1 a a1 a2 a3).trans (h.2.1 a a1 a2 a3), h2.2.2.trans h.2.2⟩
theorem l_sf_a {a : Nat} {f : Nat → Int32} (ha : a = 42 ∨ a = 43 ∨ a = 44) : l_sf V (xl_a V a f) := ⟨fun _ _ _ => rfl, fun b b1 b2 b3 => xa_up_n _ _ (by omega), rfl⟩
/-- what holds throughout the search -/
def s_in (V : xl_V) (n w : Nat) (ct : Nat → Nat) : Prop := V.1 38 8 = nI n ∧ n ≤ 243 ∧ V.1 38 9 = nI w ∧ 1 ≤ w ∧ w ≤ 32 ∧ (∀ i, i < n → V.2.1 41 i = nI (ct i) ∧ 100 ≤ ct i ∧ ct i ≤ 105) ∧ (∀ i, i < n → xpc (V.2.1 40 i) ≤ w) ∧ (∀ c, c < 32 → V.2.1 45 c < 243)
theorem s_in_f {W : xl_V} {n w : Nat} {ct : Nat → Nat} (h : s_in V n w ct) (hf : l_sf V W) : s_in W n w ct := by
  obtain ⟨h1, h2, h3, h4, h5, h6, h7, h8⟩ := h
  refine ⟨(hf.1 38 8 (by decide)).trans h1, h2, (hf.1 38 9 (by decide)).trans h3, h4, h5, ?_, ?_, ?_⟩
  · rw [hf.2.1 41 (by decide) (by decide) (by decide)]; exact h6
  · rw [hf.2.1 40 (by decide) (by decide) (by decide)]; exact h7
  · rw [hf.2.1 45 (by decide) (by decide) (by decide)]; exact h8
def s_bi (bar cv : Nat → Int32) (code dp i : Nat) (j : Nat) : Int32 := if j < i ∧ bar j = 0 ∧ xub (cv j) code = 1 then nI (dp + 1) else bar j
theorem k_lt_as {n : Nat} {a b : Nat × (Nat → Int32)} (hA : ∀ i, i < n → a.2 i = 0 ∨ a.2 i = 1) (hB : ∀ i, i < n → b.2 i = 0 ∨ b.2 i = 1) (h : k_lt n a b) (h2 : k_lt n b a) : False := by
  rcases h with h | ⟨h, i, i1, i2, i3, i4⟩
  · rcases h2 with h2 | h2
    · omega
    · have := h2.1; omega
  · rcases h2 with h2 | ⟨-, j, j1, j2, j3, j4⟩
    · omega
    · rcases Nat.lt_trichotomy i j with w | w | w
      · exact i3 (j2 i w).symm
      · subst w
        exact i3 (((hA i i1).resolve_left i4).trans ((hB i i1).resolve_left j4).symm)
      · exact j3 (i2 j w).symm
theorem s_keep {n k cost b dp : Nat} {op : Int32} {ct : Nat → Nat} {Q : xa_Q} (h0 : op = 0) (hct : ∀ i, i < n → 100 ≤ ct i) (hT : ∀ i, i < n → V.2.1 43 i = 0 ∨ V.2.1 43 i = 1) (hB : b < 900 → ∀ i, i < n → V.2.1 44 i = 0 ∨ V.2.1 44 i = 1) (hb : V.1 38 10 = nI b) (hb9 : b ≤ 900) (hdp : dp ≤ 8) (hcost : cost ≤ 105 * dp)
    (kk : ∀ W b', l_sf V W → W.2.1 42 = V.2.1 42 → W.2.1 43 = V.2.1 43 → W.1 38 10 = nI b' → b' ≤ 900 → s_post n (V.2.1 40) (V.2.1 43) (V.2.1 42) ct op cost k (b, V.2.1 44) (b', W.2.1 44) → Q (.inl none) (xl_H xlay W)) : Q (.inl none) (xl_H xlay (l_kp V n (nI cost))) := by
  have hlt : nI cost < V.1 38 10 ↔ cost < b := xlt rfl hb (by omega) (by omega)
  have heq : nI cost = V.1 38 10 ↔ cost = b := xeq rfl hb (by omega) (by omega)
  have hD : ∀ D, s_ok n (V.2.1 40) (V.2.1 43) (V.2.1 42) op k D → ∀ b' : Nat × (Nat → Int32), ¬ k_lt n (cost, V.2.1 43) b' → ¬ k_lt n (cost + l_sm ct D, l_lu (V.2.1 43) D) b' := by
    intro D hD b' hb' hk
    cases D with
    | nil =>
      rw [l_lu_n] at hk
      exact hb' hk
    | cons i D =>
      have h1 := hct i (hD.2.2.1 i List.mem_cons_self).1
      have h2 : cost < cost + l_sm ct (i :: D) := by show cost < cost + (ct i + l_sm ct D); omega
      refine hb' (.inl ?_)
      rcases hk with z | z
      · exact Nat.lt_trans h2 z
      · have z1 : cost + l_sm ct (i :: D) = b'.1 := z.1
        show cost < b'.1
        omega
  have hnil : s_ok n (V.2.1 40) (V.2.1 43) (V.2.1 42) op k [] := ⟨List.nodup_nil, Nat.zero_le _, fun i hi => (by cases hi), fun c hc hx => (by rw [h0, xbit_0] at hx; cases hx)⟩
  by_cases h : nI cost < V.1 38 10 ∨ nI cost = V.1 38 10 ∧ ¬ l_cf V n = 0
  · have hk : k_lt n (cost, V.2.1 43) (b, V.2.1 44) := by
      rcases h with h | h
      · exact .inl (hlt.mp h)
      · exact .inr ⟨heq.mp h.1, l_cf_k.mp h.2⟩
    have hkp : l_kp V n (nI cost) = xl_a (xl_i V 38 10 (nI cost)) 44 (l_kq V n) := if_pos h
    rw [hkp]
    have hq : ∀ i, i < n → l_kq V n i = V.2.1 43 i := fun i hi => if_pos hi
    have hcv : ∀ a : Nat × (Nat → Int32), k_lt n a (cost, l_kq V n) → k_lt n a (cost, V.2.1 43) := fun a ha => by
      rcases ha with z | z
      · exact .inl z
      · exact .inr ⟨z.1, k_clt_c (fun _ _ => rfl) (fun i hi => (hq i hi).symm) z.2⟩
    refine kk _ cost ⟨fun a j hj => if_neg hj, fun a a1 a2 a3 => xa_up_n _ _ a3, rfl⟩ rfl rfl rfl (by omega) ⟨.inr ⟨[], hnil, rfl, fun i hi => ?_⟩, fun D hDo => hD D hDo _ (fun z => k_lt_i n _ (hcv _ z)), fun z => ?_⟩
    · rw [l_lu_n]; exact hq i hi
    · by_cases hb' : b < 900
      · exact k_lt_as hT (hB hb') hk (hcv _ z)
      · rcases hcv _ z with y | y
        · have y : b < cost := y
          omega
        · have y : b = cost := y.1
          omega
  · have hk : ¬ k_lt n (cost, V.2.1 43) (b, V.2.1 44) := fun z => h (by
      rcases z with z | z
      · exact .inl (hlt.mpr z)
      · exact .inr ⟨heq.mpr z.1, l_cf_k.mpr z.2⟩)
    have hkp : l_kp V n (nI cost) = V := if_neg h
    rw [hkp]
    exact kk V b (l_sf_r V) rfl rfl hb hb9 ⟨.inl ⟨rfl, fun _ _ => rfl⟩, fun D hDo => hD D hDo _ hk, k_lt_i n _⟩
/-- the best stays a set -/
theorem s_post_b {n k cost b b' : Nat} {op : Int32} {cv T bar B B' : Nat → Int32} {ct : Nat → Nat} (hT : ∀ i, i < n → T i = 0 ∨ T i = 1) (hB : b < 900 → ∀ i, i < n → B i = 0 ∨ B i = 1) (h : s_post n cv T bar ct op cost k (b, B) (b', B')) : b' < 900 → ∀ i, i < n → B' i = 0 ∨ B' i = 1 := by
  intro hlt i hi
  rcases h.1 with ⟨y, z⟩ | ⟨D, -, -, z⟩
  · have y : b' = b := y
    rw [show B' i = B i from z i hi]; exact hB (by omega) i hi
  · rw [show B' i = l_lu T D i from z i hi]
    unfold l_lu
    split
    · exact .inr rfl
    · exact hT i hi
theorem t_L_search (hbc : xBC S) {n w : Nat} {ct : Nat → Nat} : ∀ k dp, dp + k = 8 → ∀ (e : Nat), k + 2 ≤ e → ∀ (V : xl_V) (op : Int32) (cost b : Nat) (Q : xa_Q), s_in V n w ct → (∀ i, i < n → V.2.1 43 i = 0 ∨ V.2.1 43 i = 1) → (b < 900 → ∀ i, i < n → V.2.1 44 i = 0 ∨ V.2.1 44 i = 1) → (∀ i, i < n → ¬ V.2.1 43 i = 0 → ∀ c, c < 32 → xbit (V.2.1 40 i) c = true → ¬ xbit op c = true) →
    (∀ i, i < n → ∃ q, q ≤ dp ∧ V.2.1 42 i = nI q) → V.1 38 10 = nI b → b ≤ 900 → cost ≤ 105 * dp →
    (∀ W b', l_sf V W → W.2.1 42 = V.2.1 42 → W.2.1 43 = V.2.1 43 → W.1 38 10 = nI b' → b' ≤ 900 → s_post n (V.2.1 40) (V.2.1 43) (V.2.1 42) ct op cost k (b, V.2.1 44) (b', W.2.1 44) → Q (.inl none) (xl_H xlay W)) →
    xX S e 70 0 (xa_ent 6 [.ref 38, .int (nI dp), .int op, .int (nI cost)]) [] V 0 0 Q := by
  intro k
  induction k with
  | zero =>
    intro dp hdp e he V op cost b Q hin hT hB hTo hbar hb hb9 hcost kk
    obtain ⟨d, rfl⟩ : ∃ d, e = d + 2 := ⟨e - 2, by omega⟩
    obtain ⟨hn, h243, hw, hw1, hw32, hct, hcw, hrv⟩ := hin
    refine xx_iload_n e_L_search_0 rfl rfl ?_
    refine xx_if_ne e_L_search_1 (fun q => ?_) (fun q => ?_)
    · skip
      refine xx_iload_n e_L_search_10 rfl rfl ?_
      refine xx_bipush (v := 8) e_L_search_11 (by decide) ?_
      refine xx_icmp_ge e_L_search_13 (fun q1 => ?_) (fun q1 => absurd ((xle (a := 8) rfl rfl (by decide) (by omega)).mpr (by omega)) q1)
      refine xx_vret e_L_search_30 rfl ?_
      refine kk V b (l_sf_r V) rfl rfl hb hb9 ⟨.inl ⟨rfl, fun _ _ => rfl⟩, fun D hD => ?_, k_lt_i n _⟩
      obtain ⟨d1, d2, d3, d4⟩ := hD
      have hD0 : D = [] := List.eq_nil_of_length_eq_zero (by omega)
      subst hD0
      obtain ⟨c, hc⟩ := m_op_0 q
      have hc1 := (xfnd_s hc).1
      have hc2 := (xfnd_s hc).2.1
      rw [m_op1_b hc1, Bool.and_eq_true] at hc2
      obtain ⟨i, hi, -⟩ := d4 c hc1 hc2.1
      cases hi
    · skip
      refine xx_aload_n e_L_search_4 rfl rfl ?_
      refine xx_iload_n e_L_search_5 rfl rfl ?_
      refine xc_V1v e_L_search_6 kv_L_92 (xl_obj rfl) (t_L_keepIfLess (d := d) hn h243 hT) ?_
      refine xx_vret e_L_search_9 rfl ?_
      exact s_keep q (fun i hi => (hct i hi).2.1) hT hB hb hb9 (by omega) hcost kk
  | succ k ihk =>
    intro dp hdp e he V op cost b Q hin hT hB hTo hbar hb hb9 hcost kk
    obtain ⟨d, rfl⟩ : ∃ d, e = d + 2 := ⟨e - 2, by omega⟩
    have hin0 := hin
    obtain ⟨hn, h243, hw, hw1, hw32, hct, hcw, hrv⟩ := hin
    have hpc : xpc op ≤ 32 := xpn_le op 32
    refine xx_iload_n e_L_search_0 rfl rfl ?_
    refine xx_if_ne e_L_search_1 (fun q => ?_) (fun q => ?_)
    · obtain ⟨c0, hc0⟩ := m_op_0 q
      have hc01 := (xfnd_s hc0).1
      have hc02 := (xfnd_s hc0).2.1
      rw [m_op1_b hc01, Bool.and_eq_true] at hc02
      refine xx_iload_n e_L_search_10 rfl rfl ?_
      refine xx_bipush (v := 8) e_L_search_11 (by decide) ?_
      refine xx_icmp_ge e_L_search_13 (fun q1 => by have := (xle (a := 8) rfl rfl (by decide) (by omega)).mp q1; omega) (fun _ => ?_)
      refine xx_iload_n e_L_search_16 rfl rfl ?_
      refine xx_aload_n e_L_search_17 rfl rfl ?_
      refine xx_iload_n e_L_search_18 rfl rfl ?_
      refine xc_V1i e_L_search_19 kv_L_96 (xl_obj rfl) (t_L_leastCostOf (d := d) hbc hw hw1 hw32) ?_
      refine xx_iadd e_L_search_22 ?_
      refine xx_aload_n e_L_search_23 rfl rfl ?_
      refine xh_get e_L_search_24 fg_L_51 rfl rfl ?_
      rw [nI_add]
      have hlc : (xpc op + w - 1) / w * 100 ≤ 32 * 100 := by
        refine Nat.mul_le_mul_right _ ?_
        refine Nat.div_le_of_le_mul ?_
        have : w * 32 ≥ 32 := by omega
        rcases Nat.eq_zero_or_pos (xpc op) with z | z
        · omega
        · have : w * 32 = w + w * 31 := by omega
          omega
      refine xx_icmp_le e_L_search_27 (fun q1 => ?_) (fun q1 => ?_)
      · skip
        refine xx_aload_n e_L_search_31 rfl rfl ?_
        refine xx_iload_n e_L_search_32 rfl rfl ?_
        refine xc_V1z e_L_search_33 kv_L_99 (xl_obj rfl) (t_L_codeWithFewestRivals (V := V) (fun code hcode hcx => xk_i ?_))
        have hop : xub op code = 1 := hcx ⟨c0, hc01, (xub_1 op hc01).mpr hc02.1, hrv c0 hc01⟩
        have hopb := (xub_1 op hcode).mp hop
        have loop : ∀ m i, n - i = m → i ≤ n → ∀ (W : xl_V) (bi : Nat), l_sf V W → W.2.1 43 = V.2.1 43 → W.2.1 42 = s_bi (V.2.1 42) (V.2.1 40) code dp i → W.1 38 10 = nI bi → bi ≤ 900 → (bi < 900 → ∀ j, j < n → W.2.1 44 j = 0 ∨ W.2.1 44 j = 1) →
            ((bi = b ∧ ∀ j, j < n → W.2.1 44 j = V.2.1 44 j) ∨ ∃ D, s_ok n (V.2.1 40) (V.2.1 43) (V.2.1 42) op (k + 1) D ∧ bi = cost + l_sm ct D ∧ ∀ j, j < n → W.2.1 44 j = l_lu (V.2.1 43) D j) →
            (∀ D, s_ok n (V.2.1 40) (V.2.1 43) (V.2.1 42) op (k + 1) D → (∃ j, j ∈ D ∧ j < i ∧ xub (V.2.1 40 j) code = 1) → ¬ k_lt n (cost + l_sm ct D, l_lu (V.2.1 43) D) (bi, W.2.1 44)) → ¬ k_lt n (b, V.2.1 44) (bi, W.2.1 44) →
            xX S (d + 2) 70 41 [.ref 38, .int (nI dp), .int op, .int (nI cost), .int (nI code), .int (nI i)] [] W 0 0 Q := by
          intro m
          induction m using Nat.strongRecOn with
          | ind m ih =>
            intro i hm hi W bi wf w43 w42 wb wb9 wB w1 w2 w3
            have winW := s_in_f hin0 wf
            have hnW : W.1 38 8 = nI n := winW.1
            have e40 : W.2.1 40 = V.2.1 40 := wf.2.1 40 (by decide) (by decide) (by decide)
            have e41 : W.2.1 41 = V.2.1 41 := wf.2.1 41 (by decide) (by decide) (by decide)
            refine xx_iload e_L_search_41 rfl ?_
            refine xx_aload_n e_L_search_43 rfl rfl ?_
            refine xh_get e_L_search_44 fg_L_59 rfl rfl ?_
            refine xx_icmp_ge e_L_search_47 (fun q2 => ?_) (fun q2 => ?_)
            · have e1 : n ≤ i := (xle hnW rfl (by omega) (by omega)).mp q2
              have e2 : i = n := by omega
              subst e2
              refine xx_aload_n e_L_search_135 rfl rfl ?_
              refine xx_iload_n e_L_search_136 rfl rfl ?_
              refine xx_iconst (v := 1) e_L_search_137 (by decide) ?_
              refine xx_iadd e_L_search_138 ?_
              rw [nI_1]
              refine xc_V1v e_L_search_139 kv_L_102 (xl_obj rfl) (t_L_liftBars (d := d + 1) hnW h243) ?_
              have hl : l_lb (W.2.1 42) (nI (dp + 1)) i = V.2.1 42 := by
                rw [w42]
                funext j
                unfold l_lb s_bi
                by_cases hj : j < i
                · obtain ⟨qb, qb1, qb2⟩ := hbar j hj
                  by_cases hp : j < i ∧ V.2.1 42 j = 0 ∧ xub (V.2.1 40 j) code = 1
                  · rw [if_pos hp, if_pos ⟨hj, rfl⟩, hp.2.1]
                  · rw [if_neg hp, if_neg (fun z => by have := z.2; rw [qb2] at this; have := (nI_eq (xn31 (by omega)) (xn31 (by omega))).mp this; omega)]
                · rw [if_neg (fun z => hj z.1), if_neg (fun z => hj z.1)]
              rw [hl]
              refine xx_vret e_L_search_142 rfl ?_
              refine kk _ bi (l_sf_t wf (l_sf_a (.inl rfl))) (xl_a_s W 42 _) w43 wb wb9 ⟨w1, fun D hD => w2 D hD ?_, w3⟩
              obtain ⟨j, j1, j2⟩ := hD.2.2.2 code hcode hopb
              exact ⟨j, j1, (hD.2.2.1 j j1).1, (xub_1 _ hcode).mpr j2⟩
            · have e1 : i < n := Nat.lt_of_not_le (fun z => q2 ((xle hnW rfl (by omega) (by omega)).mpr z))
              have hm1 : n - (i + 1) < m := by clear w1 w2 w3; omega
              have w42i : W.2.1 42 i = V.2.1 42 i := by rw [w42]; unfold s_bi; rw [if_neg (fun z => by have := z.1; omega)]
              have skip : (∀ D, s_ok n (V.2.1 40) (V.2.1 43) (V.2.1 42) op (k + 1) D → i ∈ D → ¬ xub (V.2.1 40 i) code = 1) → s_bi (V.2.1 42) (V.2.1 40) code dp i = s_bi (V.2.1 42) (V.2.1 40) code dp (i + 1) → xX S (d + 2) 70 129 [.ref 38, .int (nI dp), .int op, .int (nI cost), .int (nI code), .int (nI i)] [] W 0 0 Q := by
                intro h1 h2
                refine xh_incN e_L_search_129 rfl ?_
                refine xx_goto e_L_search_132 ?_
                refine ih (n - (i + 1)) (by omega) (i + 1) rfl (by omega) W bi wf w43 (by rw [w42, h2]) wb wb9 wB w1 (fun D hD hj => ?_) w3
                obtain ⟨j, j1, j2, j3⟩ := hj
                rcases Nat.lt_or_ge j i with z | z
                · exact w2 D hD ⟨j, j1, z, j3⟩
                · have e3 : j = i := by omega
                  subst e3
                  exact absurd j3 (h1 D hD j1)
              have same : ¬ (V.2.1 42 i = 0 ∧ xub (V.2.1 40 i) code = 1) → s_bi (V.2.1 42) (V.2.1 40) code dp i = s_bi (V.2.1 42) (V.2.1 40) code dp (i + 1) := by
                intro h1
                funext j
                unfold s_bi
                by_cases hj : j = i
                · subst hj
                  rw [if_neg (fun z => h1 z.2), if_neg (fun z => h1 z.2)]
                · by_cases hp : j < i ∧ V.2.1 42 j = 0 ∧ xub (V.2.1 40 j) code = 1
                  · rw [if_pos hp, if_pos ⟨by have := hp.1; omega, hp.2⟩]
                  · rw [if_neg hp, if_neg (fun z => hp ⟨by have := z.1; omega, z.2⟩)]
              refine xx_aload_n e_L_search_50 rfl rfl ?_
              refine xh_getR e_L_search_51 fg_L_21 rfl rfl ?_
              refine xx_iload e_L_search_54 rfl ?_
              refine xh_ialN e_L_search_56 rfl (by omega) ?_
              rw [w42i]
              refine xx_if_ne e_L_search_57 (fun q3 => skip (fun D hD hiD => absurd (hD.2.2.1 i hiD).2.1 q3) (same (fun z => q3 z.1))) (fun q3 => ?_)
              refine xx_aload_n e_L_search_60 rfl rfl ?_
              refine xh_getR e_L_search_61 fg_L_15 rfl rfl ?_
              refine xx_iload e_L_search_64 rfl ?_
              refine xh_ialN e_L_search_66 rfl (by omega) ?_
              refine xx_iload e_L_search_67 rfl ?_
              refine xx_iushr e_L_search_69 ?_
              refine xx_iconst (v := 1) e_L_search_70 (by decide) ?_
              refine xx_iand e_L_search_71 ?_
              refine xx_iconst (v := 1) e_L_search_72 (by decide) ?_
              rw [show W.2.1 40 i = V.2.1 40 i by rw [e40]]
              refine xx_icmp_ne e_L_search_73 (fun q4 => skip (fun D hD hiD => q4) (same (fun z => q4 z.2))) (fun q4 => ?_)
              have q4 : xub (V.2.1 40 i) code = 1 := q4
              have q4b := (xub_1 _ hcode).mp q4
              have hTi : V.2.1 43 i = 0 := by
                rcases hT i e1 with z | z
                · exact z
                · exact absurd hopb (hTo i e1 (by rw [z]; decide) code hcode q4b)
              obtain ⟨c1, c2, c3⟩ := hct i e1
              refine xx_aload_n e_L_search_76 rfl rfl ?_
              refine xh_getR e_L_search_77 fg_L_24 rfl rfl ?_
              refine xx_iload e_L_search_80 rfl ?_
              refine xx_iconst (v := 1) e_L_search_82 (by decide) ?_
              refine xh_basN e_L_search_83 rfl (by omega) ?_
              refine xx_aload_n e_L_search_84 rfl rfl ?_
              refine xx_iload_n e_L_search_85 rfl rfl ?_
              refine xx_iconst (v := 1) e_L_search_86 (by decide) ?_
              refine xx_iadd e_L_search_87 ?_
              rw [nI_1]
              refine xx_iload_n e_L_search_88 rfl rfl ?_
              refine xx_aload_n e_L_search_89 rfl rfl ?_
              refine xh_getR e_L_search_90 fg_L_15 rfl rfl ?_
              refine xx_iload e_L_search_93 rfl ?_
              refine xh_ialN e_L_search_95 rfl (by omega) ?_
              refine xx_iconst (v := (-1)) e_L_search_96 (by decide) ?_
              refine xx_ixor e_L_search_97 ?_
              refine xx_iand e_L_search_98 ?_
              refine xx_iload_n e_L_search_99 rfl rfl ?_
              refine xx_aload_n e_L_search_100 rfl rfl ?_
              refine xh_getR e_L_search_101 fg_L_18 rfl rfl ?_
              refine xx_iload e_L_search_104 rfl ?_
              refine xh_ialN e_L_search_106 rfl (by omega) ?_
              refine xx_iadd e_L_search_107 ?_
              rw [show (xl_a W 43 (upd (W.2.1 43) i (vp_nar .boolean 1))).2.1 40 i = V.2.1 40 i from congrFun e40 i, show (xl_a W 43 (upd (W.2.1 43) i (vp_nar .boolean 1))).2.1 41 i = nI (ct i) from (congrFun e41 i).trans c1, nI_add]
              generalize hW1 : xl_a W 43 (upd (W.2.1 43) i (vp_nar .boolean 1)) = W1
              have f1 : l_sf V W1 := by rw [← hW1]; exact l_sf_t wf (l_sf_a (.inr (.inl rfl)))
              have g43 : W1.2.1 43 = upd (V.2.1 43) i 1 := by rw [← hW1, xl_a_s, w43]; rfl
              have g42 : W1.2.1 42 = s_bi (V.2.1 42) (V.2.1 40) code dp i := by rw [← hW1]; exact w42
              have g44 : W1.2.1 44 = W.2.1 44 := by rw [← hW1]; rfl
              have g40 : W1.2.1 40 = V.2.1 40 := by rw [← hW1]; exact e40
              have hT1 : ∀ j, j < n → W1.2.1 43 j = 0 ∨ W1.2.1 43 j = 1 := fun j hj => by
                rw [g43]
                by_cases z : j = i
                · rw [z, pk_us]; exact .inr rfl
                · rw [pk_un z]; exact hT j hj
              have hop' : ∀ c, c < 32 → (xbit (op &&& (V.2.1 40 i ^^^ (-1))) c = true ↔ xbit op c = true ∧ ¬ xbit (V.2.1 40 i) c = true) := fun c hc => by
                rw [xbit_and, xbit_xor, xbit_m c hc, Bool.xor_true, Bool.and_eq_true]
                cases xbit (V.2.1 40 i) c <;> simp
              have hbz : ∀ j, s_bi (V.2.1 42) (V.2.1 40) code dp i j = 0 → V.2.1 42 j = 0 ∧ ¬ (j < i ∧ xub (V.2.1 40 j) code = 1) := fun j hj => by
                unfold s_bi at hj
                by_cases hp : j < i ∧ V.2.1 42 j = 0 ∧ xub (V.2.1 40 j) code = 1
                · rw [if_pos hp] at hj
                  exact absurd hj (nI_ne0 (by omega) (xn31 (by omega)))
                · rw [if_neg hp] at hj
                  exact ⟨hj, fun z => hp ⟨z.1, hj, z.2⟩⟩
              refine xc_S4z e_L_search_108 ks_L_55 (ihk (dp + 1) (by omega) (d + 1) (by omega) W1 (op &&& (V.2.1 40 i ^^^ (-1))) (cost + ct i) bi _ (s_in_f hin0 f1) hT1 (by rw [g44]; exact wB) (fun j hj hjT c hc hx hy => ?_) (fun j hj => ?_) (by rw [← hW1]; exact wb) wb9 (by omega) (fun U b' u1 u2 u3 u4 u5 u6 => xk_v ?_))
              · rw [g40] at hx
                rw [g43] at hjT
                have hy := (hop' c hc).mp hy
                by_cases z : j = i
                · rw [z] at hx; exact hy.2 hx
                · rw [pk_un z] at hjT
                  exact hTo j hj hjT c hc hx hy.1
              · rw [g42]
                unfold s_bi
                split
                · exact ⟨dp + 1, Nat.le_refl _, rfl⟩
                · obtain ⟨qb, qb1, qb2⟩ := hbar j hj
                  exact ⟨qb, by omega, qb2⟩
              · rw [g40, g43, g42, g44] at u6
                have uB := s_post_b (fun j hj => by have := hT1 j hj; rw [g43] at this; exact this) wB u6
                obtain ⟨s1, s2, s3⟩ := u6
                have uf : l_sf V U := l_sf_t f1 u1
                refine xx_aload_n e_L_search_111 rfl rfl ?_
                refine xh_getR e_L_search_112 fg_L_24 rfl rfl ?_
                refine xx_iload e_L_search_115 rfl ?_
                refine xx_iconst (v := 0) e_L_search_117 (by decide) ?_
                refine xh_basN e_L_search_118 rfl (by omega) ?_
                refine xx_aload_n e_L_search_119 rfl rfl ?_
                refine xh_getR e_L_search_120 fg_L_21 rfl rfl ?_
                refine xx_iload e_L_search_123 rfl ?_
                refine xx_iload_n e_L_search_125 rfl rfl ?_
                refine xx_iconst (v := 1) e_L_search_126 (by decide) ?_
                refine xx_iadd e_L_search_127 ?_
                rw [nI_1]
                refine xh_iasN e_L_search_128 rfl (by omega) ?_
                have hU43 : upd (U.2.1 43) i (vp_nar .boolean 0) = V.2.1 43 := by
                  rw [u3, g43]
                  funext j
                  by_cases z : j = i
                  · rw [z, pk_us, hTi]; rfl
                  · rw [pk_un z, pk_un z]
                have hU42 : upd (U.2.1 42) i (nI (dp + 1)) = s_bi (V.2.1 42) (V.2.1 40) code dp (i + 1) := by
                  rw [u2, g42]
                  funext j
                  by_cases z : j = i
                  · rw [z, pk_us]
                    unfold s_bi
                    rw [if_pos ⟨by omega, q3, q4⟩]
                  · rw [pk_un z]
                    unfold s_bi
                    by_cases hp : j < i ∧ V.2.1 42 j = 0 ∧ xub (V.2.1 40 j) code = 1
                    · rw [if_pos hp, if_pos ⟨by have := hp.1; omega, hp.2⟩]
                    · rw [if_neg hp, if_neg (fun y => hp ⟨by have := y.1; omega, y.2⟩)]
                rw [hU43, show (xl_a U 43 (V.2.1 43)).2.1 42 = U.2.1 42 from rfl, hU42]
                refine xh_incN e_L_search_129 rfl ?_
                refine xx_goto e_L_search_132 ?_
                refine ih (n - (i + 1)) hm1 (i + 1) rfl e1 _ b' (l_sf_t uf (l_sf_t (l_sf_a (.inr (.inl rfl))) (l_sf_a (.inl rfl)))) (xl_a_s U 43 _) (xl_a_s (xl_a U 43 (V.2.1 43)) 42 _) u4 u5 uB ?_ (fun D hD hj => ?_) (fun z => ?_)
                · rcases s1 with ⟨z1, z2⟩ | ⟨D, z1, z2, z3⟩
                  · have z1 : b' = bi := z1
                    have z2 : ∀ j, j < n → U.2.1 44 j = W.2.1 44 j := z2
                    rcases w1 with ⟨y1, y2⟩ | ⟨D, y1, y2, y3⟩
                    · exact .inl ⟨z1.trans y1, fun j hj => (z2 j hj).trans (y2 j hj)⟩
                    · exact .inr ⟨D, y1, z1.trans y2, fun j hj => (z2 j hj).trans (y3 j hj)⟩
                  · obtain ⟨o1, o2, o3, o4⟩ := z1
                    have hiD : ¬ i ∈ D := fun y => by have := (o3 i y).2.2; rw [pk_us] at this; exact absurd this (by decide)
                    refine .inr ⟨i :: D, ⟨List.nodup_cons.mpr ⟨hiD, o1⟩, by show D.length + 1 ≤ k + 1; omega, fun j hj => ?_, fun c hc hx => ?_⟩, ?_, fun j hj => ?_⟩
                    · rcases List.mem_cons.mp hj with y | y
                      · rw [y]; exact ⟨e1, q3, hTi⟩
                      · obtain ⟨p1, p2, p3⟩ := o3 j y
                        rw [pk_un (fun x => hiD (by rw [← x]; exact y))] at p3
                        exact ⟨p1, (hbz j p2).1, p3⟩
                    · by_cases y : xbit (V.2.1 40 i) c = true
                      · exact ⟨i, List.mem_cons_self, y⟩
                      · obtain ⟨j, j1, j2⟩ := o4 c hc ((hop' c hc).mpr ⟨hx, y⟩)
                        exact ⟨j, List.mem_cons_of_mem _ j1, j2⟩
                    · have z2 : b' = cost + ct i + l_sm ct D := z2
                      show b' = cost + (ct i + l_sm ct D)
                      omega
                    · have z3 : U.2.1 44 j = l_lu (upd (V.2.1 43) i 1) D j := z3 j hj
                      rw [l_lu_c] at z3
                      exact z3
                · show ¬ k_lt n (cost + l_sm ct D, l_lu (V.2.1 43) D) (b', U.2.1 44)
                  by_cases hx : ∃ j, j ∈ D ∧ j < i ∧ xub (V.2.1 40 j) code = 1
                  · intro z
                    rcases k_lt_t (bi, W.2.1 44) z with y | y
                    · exact w2 D hD hx y
                    · exact s3 y
                  · obtain ⟨j, j1, j2, j3⟩ := hj
                    have hji : j = i := by
                      rcases Nat.lt_or_ge j i with z | z
                      · exact absurd ⟨j, j1, z, j3⟩ hx
                      · omega
                    subst hji
                    obtain ⟨o1, o2, o3, o4⟩ := hD
                    have hl1 := List.length_erase_of_mem j1
                    have hpos := List.length_pos_of_mem j1
                    have := s2 (D.erase j) ⟨o1.erase j, by omega, fun q hq => ?_, fun c hc hxc => ?_⟩
                    · rw [l_lu_e j1] at this
                      have e9 := l_sm_e (ct := ct) j1
                      rw [show cost + l_sm ct D = cost + ct j + l_sm ct (D.erase j) by omega]
                      exact this
                    · have hqj : q ≠ j := fun z => by rw [z] at hq; exact (List.Nodup.not_mem_erase o1) hq
                      obtain ⟨p1, p2, p3⟩ := o3 q (List.mem_of_mem_erase hq)
                      refine ⟨p1, ?_, by rw [pk_un hqj]; exact p3⟩
                      unfold s_bi
                      rw [if_neg (fun z => hx ⟨q, List.mem_of_mem_erase hq, z.1, z.2.2⟩)]
                      exact p2
                    · have hxc := (hop' c hc).mp hxc
                      obtain ⟨q, q5, q6⟩ := o4 c hc hxc.1
                      have hqj : q ≠ j := fun z => by rw [z] at q6; exact hxc.2 q6
                      exact ⟨q, (List.mem_erase_of_ne hqj).mpr q5, q6⟩
                · rcases k_lt_t (bi, W.2.1 44) z with y | y
                  · exact w3 y
                  · exact s3 y
        refine xx_istore e_L_search_36 rfl ?_
        refine xx_iconst (v := 0) e_L_search_38 (by decide) ?_
        refine xx_istore e_L_search_39 rfl ?_
        refine loop _ 0 rfl (Nat.zero_le _) V b (l_sf_r V) rfl ?_ hb hb9 hB (.inl ⟨rfl, fun _ _ => rfl⟩) (fun D hD hj => by obtain ⟨j, -, j2, -⟩ := hj; exact absurd j2 (Nat.not_lt_zero j)) (k_lt_i n _)
        funext j
        unfold s_bi
        rw [if_neg (fun z => absurd z.1 (Nat.not_lt_zero j))]
      · have e1 : b < cost + (xpc op + w - 1) / w * 100 := Nat.lt_of_not_le (fun z => q1 ((xle rfl hb (by omega) (by omega)).mpr z))
        refine xx_vret e_L_search_30 rfl ?_
        refine kk V b (l_sf_r V) rfl rfl hb hb9 ⟨.inl ⟨rfl, fun _ _ => rfl⟩, fun D hD => ?_, k_lt_i n _⟩
        have h1 := s_ok_w (w := w) (fun i hi => hcw i (hD.2.2.1 i hi).1) hD.2.2.2
        have h2 := l_sm_g (ct := ct) (fun i hi => (hct i (hD.2.2.1 i hi).1).2.1)
        have h3 : (xpc op + w - 1) / w ≤ D.length := by
          refine Nat.le_of_lt_succ ?_
          refine (Nat.div_lt_iff_lt_mul (by omega)).mpr ?_
          rw [Nat.succ_mul, Nat.mul_comm]
          omega
        have h4 : b < cost + l_sm ct D := by omega
        intro z
        rcases z with z | z
        · have z : cost + l_sm ct D < b := z
          omega
        · have z : cost + l_sm ct D = b := z.1
          omega
    · skip
      refine xx_aload_n e_L_search_4 rfl rfl ?_
      refine xx_iload_n e_L_search_5 rfl rfl ?_
      refine xc_V1v e_L_search_6 kv_L_92 (xl_obj rfl) (t_L_keepIfLess (d := d) hn h243 hT) ?_
      refine xx_vret e_L_search_9 rfl ?_
      exact s_keep q (fun i hi => (hct i hi).2.1) hT hB hb hb9 (by omega) hcost kk
end XSum3
