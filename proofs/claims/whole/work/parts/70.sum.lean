/-! The class's least sums: digits, primes, rivals, bars, keeping. -/
section XSum
variable {S : Nat × (Nat → Int32)} {V : xl_V} {d : Nat}
theorem x3t : ∀ s, s < 6 → xp3 s = nI (3 ^ s) := by decide
theorem x3u {s : Nat} (h : s < 6) : (xtx S 0).2 (nI s).toNatClampNeg = nI (3 ^ s) := by
  rw [nI_clamp (xn31 (by omega))]
  exact x3t s h
theorem x3v {s : Nat} (h : s < 6) : vp_in (nI s) (xtx S 0).1 := vp_in_nI (show s < 6 from h) (show 6 < 2 ^ 31 by decide)
theorem t_L_digit {p s : Nat} (hp : p < 243) (hs : s < 5) : xX S d 66 0 (xa_ent 2 [.int (nI p), .int (nI s)]) [] V 0 0 (xq (some (.int (nI (xdg p s)))) (xl_H xlay V)) := by
  have hv := x3v (S := S) (s := s) (by omega)
  refine xx_iload_n e_L_digit_0 rfl rfl ?_
  refine xx_gets e_L_digit_1 gs_L_41 ?_
  refine xx_iload_n e_L_digit_4 rfl rfl ?_
  refine xx_tload e_L_digit_5 (by decide) (by first | assumption | decide | (refine vp_in_nI ?_ (by decide); omega)) ?_
  rw [x3u (by omega)]
  refine xx_idiv e_L_digit_6 (nI_ne0 (x3p s) (xn31 (by have := x3 s (by omega); omega))) ?_
  refine xx_iconst (v := 3) e_L_digit_7 (by decide) ?_
  refine xx_irem e_L_digit_8 (by decide) ?_
  rw [(xdg_r (s := s) hp).resolve_right (by omega)]
  refine xx_iret e_L_digit_9 rfl rfl ?_
  exact ⟨rfl, rfl⟩
theorem t_L_fixedDigits {p sg : Nat} (hp : p < 243) (h5 : sg ≤ 5) : xX S (d + 1) 67 0 (xa_ent 4 [.int (nI p), .int (nI sg)]) [] V 0 0 (xq (some (.int (nI (xdt p sg)))) (xl_H xlay V)) := by
  have loop : ∀ n s, sg - s = n → s ≤ sg → xX S (d + 1) 67 4 [.int (nI p), .int (nI sg), .int (nI (xdt p s)), .int (nI s)] [] V 0 0 (xq (some (.int (nI (xdt p sg)))) (xl_H xlay V)) := by
    intro n
    induction n using Nat.strongRecOn with
    | ind n ih =>
      intro s hn hsg
      have nxt : s < sg → ∀ z, nI (xdt p s) + z = nI (xdt p (s + 1)) → xX S (d + 1) 67 24 [.int (nI p), .int (nI sg), .int (nI (xdt p s)), .int (nI s)] [.int z, .int (nI (xdt p s))] V 0 0 (xq (some (.int (nI (xdt p sg)))) (xl_H xlay V)) := by
        intro h1 z hz
        refine xx_iadd e_L_fixedDigits_24 ?_
        rw [hz]
        refine xx_istore_n e_L_fixedDigits_25 rfl rfl ?_
        refine xh_incN e_L_fixedDigits_26 rfl ?_
        refine xx_goto e_L_fixedDigits_29 ?_
        exact ih (sg - (s + 1)) (by omega) (s + 1) rfl (by omega)
      refine xx_iload_n e_L_fixedDigits_4 rfl rfl ?_
      refine xx_iload_n e_L_fixedDigits_5 rfl rfl ?_
      refine xx_icmp_ge e_L_fixedDigits_6 (fun q => ?_) (fun q => ?_)
      · have e1 : sg ≤ s := (xle rfl rfl (by omega) (by omega)).mp q
        refine xx_iload_n e_L_fixedDigits_32 rfl rfl ?_
        refine xx_iret e_L_fixedDigits_33 rfl rfl ?_
        rw [show s = sg by omega]
        exact ⟨rfl, rfl⟩
      · have e1 : s < sg := Nat.lt_of_not_le (fun z => q ((xle rfl rfl (by omega) (by omega)).mpr z))
        have hd3 : xdg p s < 3 := Nat.mod_lt _ (by decide)
        refine xx_iload_n e_L_fixedDigits_9 rfl rfl ?_
        refine xx_iload_n e_L_fixedDigits_10 rfl rfl ?_
        refine xx_iload_n e_L_fixedDigits_11 rfl rfl ?_
        refine xc_S2i e_L_fixedDigits_12 ks_L_89 (t_L_digit hp (by omega)) ?_
        refine xx_iconst (v := 2) e_L_fixedDigits_15 (by decide) ?_
        refine xx_icmp_eq e_L_fixedDigits_16 (fun q1 => ?_) (fun q1 => ?_)
        · have e2 : xdg p s = 2 := (xeq (b := 2) rfl rfl (by omega) (by decide)).mp q1
          refine xx_iconst (v := 0) e_L_fixedDigits_23 (by decide) ?_
          exact nxt e1 _ (by rw [xdt, if_neg (by omega)]; exact nI_add _ 0)
        · have e2 : xdg p s ≠ 2 := fun z => q1 ((xeq (b := 2) rfl rfl (by omega) (by decide)).mpr z)
          refine xx_iconst (v := 1) e_L_fixedDigits_19 (by decide) ?_
          refine xx_goto e_L_fixedDigits_20 ?_
          exact nxt e1 _ (by rw [xdt, if_pos (by omega)]; exact nI_1 _)
  refine xx_iconst (v := 0) e_L_fixedDigits_0 (by decide) ?_
  refine xx_istore_n e_L_fixedDigits_1 rfl rfl ?_
  refine xx_iconst (v := 0) e_L_fixedDigits_2 (by decide) ?_
  refine xx_istore_n e_L_fixedDigits_3 rfl rfl ?_
  exact loop _ 0 rfl (Nat.zero_le _)
def l_ip1 (f : Nat → Int32) (off : Int32) (p s : Nat) : Bool := decide (m_wd f off p s)
def l_ip (f : Nat → Int32) (off : Int32) (sg p : Nat) : Int32 := if f p &&& off = 0 then (if (xfnd (l_ip1 f off p) sg).isSome then 0 else 1) else 0
theorem t_L_isPrime {p sg : Nat} {off : Int32} (hp : p < 243) (h5 : sg ≤ 5) : xX S (d + 1) 65 0 (xa_ent 6 [.ref 38, .int (nI p), .int off, .int (nI sg)]) [] V 0 0 (xq (some (.int (l_ip (V.2.1 46) off sg p))) (xl_H xlay V)) := by
  have loop : V.2.1 46 p &&& off = 0 → ∀ n s, sg - s = n → s ≤ sg → (∀ i, i < s → l_ip1 (V.2.1 46) off p i = false) → ∀ l5, xX S (d + 1) 65 16 [.ref 38, .int (nI p), .int off, .int (nI sg), .int (nI s), l5] [] V 0 0 (xq (some (.int (l_ip (V.2.1 46) off sg p))) (xl_H xlay V)) := by
    intro h0 n
    induction n using Nat.strongRecOn with
    | ind n ih =>
      intro s hn hsg hin l5
      have nxt : s < sg → l_ip1 (V.2.1 46) off p s = false → ∀ l5, xX S (d + 1) 65 61 [.ref 38, .int (nI p), .int off, .int (nI sg), .int (nI s), l5] [] V 0 0 (xq (some (.int (l_ip (V.2.1 46) off sg p))) (xl_H xlay V)) := by
        intro h1 h2 l5
        refine xh_incN e_L_isPrime_61 rfl ?_
        refine xx_goto e_L_isPrime_64 ?_
        exact ih (sg - (s + 1)) (by omega) (s + 1) rfl (by omega) (lt_s' hin h2) _
      refine xx_iload e_L_isPrime_16 rfl ?_
      refine xx_iload_n e_L_isPrime_18 rfl rfl ?_
      refine xx_icmp_ge e_L_isPrime_19 (fun q => ?_) (fun q => ?_)
      · have e1 : sg ≤ s := (xle rfl rfl (by omega) (by omega)).mp q
        refine xx_iconst (v := 1) e_L_isPrime_67 (by decide) ?_
        refine xx_iret e_L_isPrime_68 rfl rfl ?_
        unfold l_ip
        rw [if_pos h0, xfnd_o (fun i hi => hin i (by omega))]
        exact ⟨rfl, rfl⟩
      · have e1 : s < sg := Nat.lt_of_not_le (fun z => q ((xle rfl rfl (by omega) (by omega)).mpr z))
        have hd3 : xdg p s < 3 := Nat.mod_lt _ (by decide)
        have hv := x3v (S := S) (s := s) (by omega)
        have hs3 := x3 s (by omega)
        have hs3p := x3p s
        refine xx_iload_n e_L_isPrime_22 rfl rfl ?_
        refine xx_iconst (v := 2) e_L_isPrime_23 (by decide) ?_
        refine xx_iload_n e_L_isPrime_24 rfl rfl ?_
        refine xx_iload e_L_isPrime_25 rfl ?_
        refine xc_S2i e_L_isPrime_27 ks_L_89 (t_L_digit hp (by omega)) ?_
        refine xx_isub e_L_isPrime_30 ?_
        rw [show (2 : Int32) = nI 2 from rfl, pk_sub (by omega)]
        refine xx_gets e_L_isPrime_31 gs_L_41 ?_
        refine xx_iload e_L_isPrime_34 rfl ?_
        refine xx_tload e_L_isPrime_36 (by decide) (by first | assumption | decide | (refine vp_in_nI ?_ (by decide); omega)) ?_
        rw [x3u (by omega)]
        refine xx_imul e_L_isPrime_37 ?_
        refine xx_iadd e_L_isPrime_38 ?_
        rw [pk_mul, nI_add]
        refine xx_istore e_L_isPrime_39 rfl ?_
        refine xx_iload e_L_isPrime_41 rfl ?_
        refine xx_iload_n e_L_isPrime_43 rfl rfl ?_
        have hle : p + (2 - xdg p s) * 3 ^ s < 243 + 2 * 243 := by
          have : (2 - xdg p s) * 3 ^ s ≤ 2 * 243 := Nat.mul_le_mul (by omega) hs3
          omega
        refine xx_icmp_eq e_L_isPrime_44 (fun q1 => ?_) (fun q1 => ?_)
        · have e2 : p + (2 - xdg p s) * 3 ^ s = p := (xeq rfl rfl (by omega) (by omega)).mp q1
          refine nxt e1 (decide_eq_false (fun z => ?_)) _
          have h1 : 1 * 3 ^ s ≤ (2 - xdg p s) * 3 ^ s := Nat.mul_le_mul_right _ (by have := z.1; omega)
          omega
        · have e2 : xdg p s ≠ 2 := fun z => q1 (by rw [z, show p + (2 - 2) * 3 ^ s = p by simp])
          have e3 := xdg_w hp (by omega) (show xdg p s < 2 by omega)
          refine xx_aload_n e_L_isPrime_47 rfl rfl ?_
          refine xh_getR e_L_isPrime_48 fg_L_38 rfl rfl ?_
          refine xx_iload e_L_isPrime_51 rfl ?_
          refine xh_ialN e_L_isPrime_53 rfl (by omega) ?_
          refine xx_iload_n e_L_isPrime_54 rfl rfl ?_
          refine xx_iand e_L_isPrime_55 ?_
          refine xx_if_ne e_L_isPrime_56 (fun q2 => nxt e1 (decide_eq_false (fun z => q2 z.2)) _) (fun q2 => ?_)
          refine xx_iconst (v := 0) e_L_isPrime_59 (by decide) ?_
          refine xx_iret e_L_isPrime_60 rfl rfl ?_
          unfold l_ip
          rw [if_pos h0, xfnd_i e1 (decide_eq_true ⟨by omega, q2⟩) hin]
          exact ⟨rfl, rfl⟩
  refine xx_aload_n e_L_isPrime_0 rfl rfl ?_
  refine xh_getR e_L_isPrime_1 fg_L_38 rfl rfl ?_
  refine xx_iload_n e_L_isPrime_4 rfl rfl ?_
  refine xh_ialN e_L_isPrime_5 rfl (by omega) ?_
  refine xx_iload_n e_L_isPrime_6 rfl rfl ?_
  refine xx_iand e_L_isPrime_7 ?_
  refine xx_if_eq e_L_isPrime_8 (fun q => ?_) (fun q => ?_)
  · skip
    refine xx_iconst (v := 0) e_L_isPrime_13 (by decide) ?_
    refine xx_istore e_L_isPrime_14 rfl ?_
    exact loop q _ 0 rfl (Nat.zero_le _) (fun i hi => absurd hi (Nat.not_lt_zero i)) _
  · skip
    refine xx_iconst (v := 0) e_L_isPrime_11 (by decide) ?_
    refine xx_iret e_L_isPrime_12 rfl rfl ?_
    unfold l_ip
    rw [if_neg q]
    exact ⟨rfl, rfl⟩
/-- bit c of x, as the class reads it -/
def xub (x : Int32) (c : Nat) : Int32 := (x.toUInt32 >>> ((nI c).toUInt32 &&& Int32.toUInt32 31)).toInt32 &&& 1
def l_rv (f : Nat → Int32) (c : Nat) : Nat → Int32
  | 0 => 0
  | i + 1 => l_rv f c i + xub (f i) c
def l_rg (f g : Nat → Int32) (n c : Nat) (q : Nat) : Int32 := if q < c then l_rv f q n else g q
theorem t_L_countRivals {n : Nat} (hn : V.1 38 8 = nI n) (h243 : n ≤ 243) : xX S d 69 0 (xa_ent 3 [.ref 38]) [] V 0 0 (xq none (xl_H xlay (xl_a V 45 (l_rg (V.2.1 40) (V.2.1 45) n 32)))) := by
  have outer : ∀ m c, 32 - c = m → c ≤ 32 → ∀ l2, xX S d 69 2 [.ref 38, .int (nI c), l2] [] (xl_a V 45 (l_rg (V.2.1 40) (V.2.1 45) n c)) 0 0 (xq none (xl_H xlay (xl_a V 45 (l_rg (V.2.1 40) (V.2.1 45) n 32)))) := by
    intro m
    induction m using Nat.strongRecOn with
    | ind m ih =>
      intro c hm hc l2
      refine xx_iload_n e_L_countRivals_2 rfl rfl ?_
      refine xx_bipush (v := 32) e_L_countRivals_3 (by decide) ?_
      refine xx_icmp_ge e_L_countRivals_5 (fun q => ?_) (fun q => ?_)
      · have e1 : 32 ≤ c := (xle (a := 32) rfl rfl (by decide) (by omega)).mp q
        refine xx_vret e_L_countRivals_56 rfl ?_
        rw [show c = 32 by omega]
        exact ⟨rfl, rfl⟩
      · have e1 : c < 32 := Nat.lt_of_not_le (fun z => q ((xle (a := 32) rfl rfl (by decide) (by omega)).mpr z))
        have inner : ∀ w i, n - i = w → i ≤ n → xX S d 69 17 [.ref 38, .int (nI c), .int (nI i)] [] (xl_a V 45 (upd (l_rg (V.2.1 40) (V.2.1 45) n c) c (l_rv (V.2.1 40) c i))) 0 0 (xq none (xl_H xlay (xl_a V 45 (l_rg (V.2.1 40) (V.2.1 45) n 32)))) := by
          intro w
          induction w using Nat.strongRecOn with
          | ind w ih2 =>
            intro i hw hi
            refine xx_iload_n e_L_countRivals_17 rfl rfl ?_
            refine xx_aload_n e_L_countRivals_18 rfl rfl ?_
            refine xh_get e_L_countRivals_19 fg_L_59 rfl rfl ?_
            refine xx_icmp_ge e_L_countRivals_22 (fun q1 => ?_) (fun q1 => ?_)
            · have e2 : n ≤ i := (xle hn rfl (by omega) (by omega)).mp q1
              have e3 : upd (l_rg (V.2.1 40) (V.2.1 45) n c) c (l_rv (V.2.1 40) c i) = l_rg (V.2.1 40) (V.2.1 45) n (c + 1) := by
                rw [show i = n by omega]
                funext q
                by_cases h : q = c
                · rw [h, pk_us]; unfold l_rg; rw [if_pos (by omega)]
                · rw [pk_un h]
                  unfold l_rg
                  by_cases h2 : q < c
                  · rw [if_pos h2, if_pos (by omega)]
                  · rw [if_neg h2, if_neg (by omega)]
              refine xh_incN e_L_countRivals_50 rfl ?_
              refine xx_goto e_L_countRivals_53 ?_
              rw [e3]
              exact ih (32 - (c + 1)) (by omega) (c + 1) rfl (by omega) _
            · have e2 : i < n := Nat.lt_of_not_le (fun z => q1 ((xle hn rfl (by omega) (by omega)).mpr z))
              refine xx_aload_n e_L_countRivals_25 rfl rfl ?_
              refine xh_getR e_L_countRivals_26 fg_L_31 rfl rfl ?_
              refine xx_iload_n e_L_countRivals_29 rfl rfl ?_
              refine xx_dup2 e_L_countRivals_30 rfl rfl ?_
              refine xh_ialN e_L_countRivals_31 rfl (by omega) ?_
              refine xx_aload_n e_L_countRivals_32 rfl rfl ?_
              refine xh_getR e_L_countRivals_33 fg_L_15 rfl rfl ?_
              refine xx_iload_n e_L_countRivals_36 rfl rfl ?_
              refine xh_ialN e_L_countRivals_37 rfl (by omega) ?_
              refine xx_iload_n e_L_countRivals_38 rfl rfl ?_
              refine xx_iushr e_L_countRivals_39 ?_
              refine xx_iconst (v := 1) e_L_countRivals_40 (by decide) ?_
              refine xx_iand e_L_countRivals_41 ?_
              refine xx_iadd e_L_countRivals_42 ?_
              refine xh_iasN e_L_countRivals_43 rfl (by omega) ?_
              refine xh_incN e_L_countRivals_44 rfl ?_
              refine xx_goto e_L_countRivals_47 ?_
              rw [xl_aa, xl_a_s, pk_us]
              have e3 : ∀ z, upd (upd (l_rg (V.2.1 40) (V.2.1 45) n c) c (l_rv (V.2.1 40) c i)) c z = upd (l_rg (V.2.1 40) (V.2.1 45) n c) c z := fun z => by
                funext q
                by_cases h : q = c
                · rw [h, pk_us, pk_us]
                · rw [pk_un h, pk_un h, pk_un h]
              rw [e3]
              exact ih2 (n - (i + 1)) (by omega) (i + 1) rfl (by omega)
        refine xx_aload_n e_L_countRivals_8 rfl rfl ?_
        refine xh_getR e_L_countRivals_9 fg_L_31 rfl rfl ?_
        refine xx_iload_n e_L_countRivals_12 rfl rfl ?_
        refine xx_iconst (v := 0) e_L_countRivals_13 (by decide) ?_
        refine xh_iasN e_L_countRivals_14 rfl (by omega) ?_
        refine xx_iconst (v := 0) e_L_countRivals_15 (by decide) ?_
        refine xx_istore_n e_L_countRivals_16 rfl rfl ?_
        rw [xl_aa, xl_a_s]
        exact inner _ 0 rfl (Nat.zero_le _)
  refine xx_iconst (v := 0) e_L_countRivals_0 (by decide) ?_
  refine xx_istore_n e_L_countRivals_1 rfl rfl ?_
  have e0 : l_rg (V.2.1 40) (V.2.1 45) n 0 = V.2.1 45 := by funext q; unfold l_rg; rw [if_neg (by omega)]
  have h := outer _ 0 rfl (Nat.zero_le _) xa_j
  rw [e0, xl_a_id] at h
  exact h
def l_lb (g : Nat → Int32) (dp : Int32) (n : Nat) (q : Nat) : Int32 := if q < n ∧ g q = dp then 0 else g q
theorem t_L_liftBars {n : Nat} {dp : Int32} (hn : V.1 38 8 = nI n) (h243 : n ≤ 243) : xX S d 75 0 (xa_ent 3 [.ref 38, .int dp]) [] V 0 0 (xq none (xl_H xlay (xl_a V 42 (l_lb (V.2.1 42) dp n)))) := by
  have loop : ∀ m i, n - i = m → i ≤ n → xX S d 75 2 [.ref 38, .int dp, .int (nI i)] [] (xl_a V 42 (l_lb (V.2.1 42) dp i)) 0 0 (xq none (xl_H xlay (xl_a V 42 (l_lb (V.2.1 42) dp n)))) := by
    intro m
    induction m using Nat.strongRecOn with
    | ind m ih =>
      intro i hm hi
      refine xx_iload_n e_L_liftBars_2 rfl rfl ?_
      refine xx_aload_n e_L_liftBars_3 rfl rfl ?_
      refine xh_get e_L_liftBars_4 fg_L_59 rfl rfl ?_
      refine xx_icmp_ge e_L_liftBars_7 (fun q => ?_) (fun q => ?_)
      · have e1 : n ≤ i := (xle hn rfl (by omega) (by omega)).mp q
        refine xx_vret e_L_liftBars_33 rfl ?_
        rw [show i = n by omega]
        exact ⟨rfl, rfl⟩
      · have e1 : i < n := Nat.lt_of_not_le (fun z => q ((xle hn rfl (by omega) (by omega)).mpr z))
        have ei : l_lb (V.2.1 42) dp i i = V.2.1 42 i := by unfold l_lb; rw [if_neg (fun z => by have := z.1; omega)]
        refine xx_aload_n e_L_liftBars_10 rfl rfl ?_
        refine xh_getR e_L_liftBars_11 fg_L_21 rfl rfl ?_
        refine xx_iload_n e_L_liftBars_14 rfl rfl ?_
        refine xh_ialN e_L_liftBars_15 rfl (by omega) ?_
        refine xx_iload_n e_L_liftBars_16 rfl rfl ?_
        rw [xl_a_s, ei]
        refine xx_icmp_ne e_L_liftBars_17 (fun q1 => ?_) (fun q1 => ?_)
        · have e2 : l_lb (V.2.1 42) dp i = l_lb (V.2.1 42) dp (i + 1) := by
            funext q
            unfold l_lb
            by_cases h : q = i
            · rw [h, if_neg (fun z => q1 z.2), if_neg (fun z => q1 z.2)]
            · by_cases h2 : q < i ∧ V.2.1 42 q = dp
              · rw [if_pos h2, if_pos ⟨by have := h2.1; omega, h2.2⟩]
              · rw [if_neg h2, if_neg (fun z => h2 ⟨by have := z.1; omega, z.2⟩)]
          refine xh_incN e_L_liftBars_27 rfl ?_
          refine xx_goto e_L_liftBars_30 ?_
          rw [e2]
          exact ih (n - (i + 1)) (by omega) (i + 1) rfl (by omega)
        · have e2 : upd (l_lb (V.2.1 42) dp i) i 0 = l_lb (V.2.1 42) dp (i + 1) := by
            funext q
            by_cases h : q = i
            · rw [h, pk_us]; unfold l_lb; rw [if_pos ⟨by omega, q1⟩]
            · rw [pk_un h]
              unfold l_lb
              by_cases h2 : q < i ∧ V.2.1 42 q = dp
              · rw [if_pos h2, if_pos ⟨by have := h2.1; omega, h2.2⟩]
              · rw [if_neg h2, if_neg (fun z => h2 ⟨by have := z.1; omega, z.2⟩)]
          refine xx_aload_n e_L_liftBars_20 rfl rfl ?_
          refine xh_getR e_L_liftBars_21 fg_L_21 rfl rfl ?_
          refine xx_iload_n e_L_liftBars_24 rfl rfl ?_
          refine xx_iconst (v := 0) e_L_liftBars_25 (by decide) ?_
          refine xh_iasN e_L_liftBars_26 rfl (by omega) ?_
          refine xh_incN e_L_liftBars_27 rfl ?_
          refine xx_goto e_L_liftBars_30 ?_
          rw [xl_aa, xl_a_s, e2]
          exact ih (n - (i + 1)) (by omega) (i + 1) rfl (by omega)
  refine xx_iconst (v := 0) e_L_liftBars_0 (by decide) ?_
  refine xx_istore_n e_L_liftBars_1 rfl rfl ?_
  have e0 : l_lb (V.2.1 42) dp 0 = V.2.1 42 := by funext q; unfold l_lb; rw [if_neg (fun z => absurd z.1 (Nat.not_lt_zero q))]
  have h := loop _ 0 rfl (Nat.zero_le _)
  rw [e0, xl_a_id] at h
  exact h
theorem t_L_codeWithFewestRivals {op : Int32} {Q : xa_Q} (kk : ∀ c, c < 32 → ((∃ c', c' < 32 ∧ xub op c' = 1 ∧ V.2.1 45 c' < 243) → xub op c = 1) → Q (.inl (some (.int (nI c)))) (xl_H xlay V)) : xX S d 74 0 (xa_ent 5 [.ref 38, .int op]) [] V 0 0 Q := by
  have loop : ∀ n i, 32 - i = n → i ≤ 32 → ∀ c (fw : Int32), c < 32 → ((fw = 243 ∧ ∀ c', c' < i → xub op c' = 1 → ¬ V.2.1 45 c' < 243) ∨ xub op c = 1) → xX S d 74 9 [.ref 38, .int op, .int (nI c), .int fw, .int (nI i)] [] V 0 0 Q := by
    intro n
    induction n using Nat.strongRecOn with
    | ind n ih =>
      intro i hn hi c fw hc hinv
      refine xx_iload e_L_codeWithFewestRivals_9 rfl ?_
      refine xx_bipush (v := 32) e_L_codeWithFewestRivals_11 (by decide) ?_
      refine xx_icmp_ge e_L_codeWithFewestRivals_13 (fun q => ?_) (fun q => ?_)
      · have e1 : 32 ≤ i := (xle (a := 32) rfl rfl (by decide) (by omega)).mp q
        refine xx_iload_n e_L_codeWithFewestRivals_54 rfl rfl ?_
        refine xx_iret e_L_codeWithFewestRivals_55 rfl rfl ?_
        refine kk c hc (fun hx => ?_)
        rcases hinv with h | h
        · obtain ⟨c', c1, c2, c3⟩ := hx
          exact absurd c3 (h.2 c' (by omega) c2)
        · exact h
      · have e1 : i < 32 := Nat.lt_of_not_le (fun z => q ((xle (a := 32) rfl rfl (by decide) (by omega)).mpr z))
        have nxt : ∀ c (fw : Int32), c < 32 → ((fw = 243 ∧ ∀ c', c' < i + 1 → xub op c' = 1 → ¬ V.2.1 45 c' < 243) ∨ xub op c = 1) → xX S d 74 48 [.ref 38, .int op, .int (nI c), .int fw, .int (nI i)] [] V 0 0 Q := by
          intro c fw hc hinv
          refine xh_incN e_L_codeWithFewestRivals_48 rfl ?_
          refine xx_goto e_L_codeWithFewestRivals_51 ?_
          exact ih (32 - (i + 1)) (by omega) (i + 1) rfl (by omega) c fw hc hinv
        refine xx_iload_n e_L_codeWithFewestRivals_16 rfl rfl ?_
        refine xx_iload e_L_codeWithFewestRivals_17 rfl ?_
        refine xx_iushr e_L_codeWithFewestRivals_19 ?_
        refine xx_iconst (v := 1) e_L_codeWithFewestRivals_20 (by decide) ?_
        refine xx_iand e_L_codeWithFewestRivals_21 ?_
        refine xx_iconst (v := 1) e_L_codeWithFewestRivals_22 (by decide) ?_
        refine xx_icmp_ne e_L_codeWithFewestRivals_23 (fun q1 => nxt c fw hc ?_) (fun q1 => ?_)
        · rcases hinv with h | h
          · refine .inl ⟨h.1, fun c' hc' hb => ?_⟩
            rcases Nat.lt_or_ge c' i with h2 | h2
            · exact h.2 c' h2 hb
            · rw [show c' = i by omega] at hb
              exact absurd hb q1
          · exact .inr h
        · skip
          refine xx_aload_n e_L_codeWithFewestRivals_26 rfl rfl ?_
          refine xh_getR e_L_codeWithFewestRivals_27 fg_L_31 rfl rfl ?_
          refine xx_iload e_L_codeWithFewestRivals_30 rfl ?_
          refine xh_ialN e_L_codeWithFewestRivals_32 rfl (by omega) ?_
          refine xx_iload_n e_L_codeWithFewestRivals_33 rfl rfl ?_
          refine xx_icmp_ge e_L_codeWithFewestRivals_34 (fun q2 => nxt c fw hc ?_) (fun q2 => ?_)
          · rcases hinv with h | h
            · refine .inl ⟨h.1, fun c' hc' hb hlt => ?_⟩
              rcases Nat.lt_or_ge c' i with h2 | h2
              · exact h.2 c' h2 hb hlt
              · rw [show c' = i by omega] at hlt
                rw [h.1] at q2
                exact absurd hlt (Int32.not_lt.mpr q2)
            · exact .inr h
          · skip
            refine xx_iload e_L_codeWithFewestRivals_37 rfl ?_
            refine xx_istore_n e_L_codeWithFewestRivals_39 rfl rfl ?_
            refine xx_aload_n e_L_codeWithFewestRivals_40 rfl rfl ?_
            refine xh_getR e_L_codeWithFewestRivals_41 fg_L_31 rfl rfl ?_
            refine xx_iload e_L_codeWithFewestRivals_44 rfl ?_
            refine xh_ialN e_L_codeWithFewestRivals_46 rfl (by omega) ?_
            refine xx_istore_n e_L_codeWithFewestRivals_47 rfl rfl ?_
            exact nxt i _ e1 (.inr q1)
  refine xx_iconst (v := 0) e_L_codeWithFewestRivals_0 (by decide) ?_
  refine xx_istore_n e_L_codeWithFewestRivals_1 rfl rfl ?_
  refine xx_sipush (v := 243) e_L_codeWithFewestRivals_2 (by decide) ?_
  refine xx_istore_n e_L_codeWithFewestRivals_5 rfl rfl ?_
  refine xx_iconst (v := 0) e_L_codeWithFewestRivals_6 (by decide) ?_
  refine xx_istore e_L_codeWithFewestRivals_7 rfl ?_
  exact loop _ 0 rfl (Nat.zero_le _) 0 243 (by decide) (.inl ⟨rfl, fun c' hc' => absurd hc' (Nat.not_lt_zero c')⟩)
def l_df (V : xl_V) (i : Nat) : Bool := decide (¬ V.2.1 43 i = V.2.1 44 i)
def l_cf (V : xl_V) (n : Nat) : Int32 := match xfnd (l_df V) n with
  | some i => V.2.1 43 i
  | none => 0
theorem t_L_takenComesFirst {n : Nat} (hn : V.1 38 8 = nI n) (h243 : n ≤ 243) (hb : ∀ i, i < n → V.2.1 43 i = 0 ∨ V.2.1 43 i = 1) : xX S d 72 0 (xa_ent 2 [.ref 38]) [] V 0 0 (xq (some (.int (l_cf V n))) (xl_H xlay V)) := by
  have loop : ∀ m i, n - i = m → i ≤ n → (∀ j, j < i → l_df V j = false) → xX S d 72 2 [.ref 38, .int (nI i)] [] V 0 0 (xq (some (.int (l_cf V n))) (xl_H xlay V)) := by
    intro m
    induction m using Nat.strongRecOn with
    | ind m ih =>
      intro i hm hi hin
      refine xx_iload_n e_L_takenComesFirst_2 rfl rfl ?_
      refine xx_aload_n e_L_takenComesFirst_3 rfl rfl ?_
      refine xh_get e_L_takenComesFirst_4 fg_L_59 rfl rfl ?_
      refine xx_icmp_ge e_L_takenComesFirst_7 (fun q => ?_) (fun q => ?_)
      · have e1 : n ≤ i := (xle hn rfl (by omega) (by omega)).mp q
        refine xx_iconst (v := 0) e_L_takenComesFirst_38 (by decide) ?_
        refine xx_iret e_L_takenComesFirst_39 rfl rfl ?_
        unfold l_cf
        rw [xfnd_o (fun i hi => hin i (by omega))]
        exact ⟨rfl, rfl⟩
      · have e1 : i < n := Nat.lt_of_not_le (fun z => q ((xle hn rfl (by omega) (by omega)).mpr z))
        refine xx_aload_n e_L_takenComesFirst_10 rfl rfl ?_
        refine xh_getR e_L_takenComesFirst_11 fg_L_24 rfl rfl ?_
        refine xx_iload_n e_L_takenComesFirst_14 rfl rfl ?_
        refine xh_balN e_L_takenComesFirst_15 rfl (by omega) ?_
        refine xx_aload_n e_L_takenComesFirst_16 rfl rfl ?_
        refine xh_getR e_L_takenComesFirst_17 fg_L_28 rfl rfl ?_
        refine xx_iload_n e_L_takenComesFirst_20 rfl rfl ?_
        refine xh_balN e_L_takenComesFirst_21 rfl (by omega) ?_
        refine xx_icmp_eq e_L_takenComesFirst_22 (fun q1 => ?_) (fun q1 => ?_)
        · skip
          refine xh_incN e_L_takenComesFirst_32 rfl ?_
          refine xx_goto e_L_takenComesFirst_35 ?_
          exact ih (n - (i + 1)) (by omega) (i + 1) rfl (by omega) (lt_s' hin (decide_eq_false (fun z => z q1)))
        · skip
          refine xx_aload_n e_L_takenComesFirst_25 rfl rfl ?_
          refine xh_getR e_L_takenComesFirst_26 fg_L_24 rfl rfl ?_
          refine xx_iload_n e_L_takenComesFirst_29 rfl rfl ?_
          refine xh_balN e_L_takenComesFirst_30 rfl (by omega) ?_
          refine xx_iret e_L_takenComesFirst_31 rfl (m_nb (hb i e1)) ?_
          unfold l_cf
          rw [xfnd_i e1 (decide_eq_true q1) hin]
          exact ⟨rfl, rfl⟩
  refine xx_iconst (v := 0) e_L_takenComesFirst_0 (by decide) ?_
  refine xx_istore_n e_L_takenComesFirst_1 rfl rfl ?_
  exact loop _ 0 rfl (Nat.zero_le _) (fun i hi => absurd hi (Nat.not_lt_zero i))
def l_kq (V : xl_V) (n : Nat) (q : Nat) : Int32 := if q < n then V.2.1 43 q else V.2.1 44 q
def l_kp (V : xl_V) (n : Nat) (cost : Int32) : xl_V := if cost < V.1 38 10 ∨ cost = V.1 38 10 ∧ ¬ l_cf V n = 0 then xl_a (xl_i V 38 10 cost) 44 (l_kq V n) else V
theorem t_L_keepIfLess {n : Nat} {cost : Int32} (hn : V.1 38 8 = nI n) (h243 : n ≤ 243) (hb : ∀ i, i < n → V.2.1 43 i = 0 ∨ V.2.1 43 i = 1) : xX S (d + 1) 71 0 (xa_ent 3 [.ref 38, .int cost]) [] V 0 0 (xq none (xl_H xlay (l_kp V n cost))) := by
  have no : ¬ (cost < V.1 38 10 ∨ cost = V.1 38 10 ∧ ¬ l_cf V n = 0) → ∀ l2, xX S (d + 1) 71 56 [.ref 38, .int cost, l2] [] V 0 0 (xq none (xl_H xlay (l_kp V n cost))) := by
    intro h l2
    refine xx_vret e_L_keepIfLess_56 rfl ?_
    unfold l_kp
    rw [if_neg h]
    exact ⟨rfl, rfl⟩
  have yes : (cost < V.1 38 10 ∨ cost = V.1 38 10 ∧ ¬ l_cf V n = 0) → ∀ l2, xX S (d + 1) 71 23 [.ref 38, .int cost, l2] [] V 0 0 (xq none (xl_H xlay (l_kp V n cost))) := by
    intro h l2
    have hk : l_kp V n cost = xl_a (xl_i V 38 10 cost) 44 (l_kq V n) := if_pos h
    have loop : ∀ m i, n - i = m → i ≤ n → xX S (d + 1) 71 30 [.ref 38, .int cost, .int (nI i)] [] (xl_a (xl_i V 38 10 cost) 44 (l_kq V i)) 0 0 (xq none (xl_H xlay (l_kp V n cost))) := by
      intro m
      induction m using Nat.strongRecOn with
      | ind m ih =>
        intro i hm hi
        refine xx_iload_n e_L_keepIfLess_30 rfl rfl ?_
        refine xx_aload_n e_L_keepIfLess_31 rfl rfl ?_
        refine xh_get e_L_keepIfLess_32 fg_L_59 rfl rfl ?_
        refine xx_icmp_ge e_L_keepIfLess_35 (fun q => ?_) (fun q => ?_)
        · have e1 : n ≤ i := (xle hn rfl (by omega) (by omega)).mp q
          refine xx_vret e_L_keepIfLess_56 rfl ?_
          rw [hk, show i = n by omega]
          exact ⟨rfl, rfl⟩
        · have e1 : i < n := Nat.lt_of_not_le (fun z => q ((xle hn rfl (by omega) (by omega)).mpr z))
          have e2 : upd (l_kq V i) i (vp_nar .boolean (V.2.1 43 i)) = l_kq V (i + 1) := by
            have : vp_nar .boolean (V.2.1 43 i) = V.2.1 43 i := by rcases hb i e1 with z | z <;> rw [z] <;> rfl
            rw [this]
            funext q
            by_cases h : q = i
            · rw [h, pk_us]; unfold l_kq; rw [if_pos (by omega)]
            · rw [pk_un h]
              unfold l_kq
              by_cases h2 : q < i
              · rw [if_pos h2, if_pos (by omega)]
              · rw [if_neg h2, if_neg (by omega)]
          refine xx_aload_n e_L_keepIfLess_38 rfl rfl ?_
          refine xh_getR e_L_keepIfLess_39 fg_L_28 rfl rfl ?_
          refine xx_iload_n e_L_keepIfLess_42 rfl rfl ?_
          refine xx_aload_n e_L_keepIfLess_43 rfl rfl ?_
          refine xh_getR e_L_keepIfLess_44 fg_L_24 rfl rfl ?_
          refine xx_iload_n e_L_keepIfLess_47 rfl rfl ?_
          refine xh_balN e_L_keepIfLess_48 rfl (by omega) ?_
          refine xh_basN e_L_keepIfLess_49 rfl (by omega) ?_
          refine xh_incN e_L_keepIfLess_50 rfl ?_
          refine xx_goto e_L_keepIfLess_53 ?_
          rw [xl_aa, xl_a_s, show (xl_a (xl_i V 38 10 cost) 44 (l_kq V i)).2.1 43 i = V.2.1 43 i from rfl, e2]
          exact ih (n - (i + 1)) (by omega) (i + 1) rfl (by omega)
    refine xx_aload_n e_L_keepIfLess_23 rfl rfl ?_
    refine xx_iload_n e_L_keepIfLess_24 rfl rfl ?_
    refine xh_put e_L_keepIfLess_25 fp_L_51 rfl rfl ⟨rfl, rfl⟩ ?_
    refine xx_iconst (v := 0) e_L_keepIfLess_28 (by decide) ?_
    refine xx_istore_n e_L_keepIfLess_29 rfl rfl ?_
    have e0 : l_kq V 0 = V.2.1 44 := by funext q; unfold l_kq; rw [if_neg (by omega)]
    have hl := loop _ 0 rfl (Nat.zero_le _)
    rw [e0, show xl_a (xl_i V 38 10 cost) 44 (V.2.1 44) = xl_i V 38 10 cost from xl_a_id (xl_i V 38 10 cost) 44] at hl
    exact hl
  refine xx_iload_n e_L_keepIfLess_0 rfl rfl ?_
  refine xx_aload_n e_L_keepIfLess_1 rfl rfl ?_
  refine xh_get e_L_keepIfLess_2 fg_L_51 rfl rfl ?_
  refine xx_icmp_lt e_L_keepIfLess_5 (fun q => yes (.inl q) _) (fun q => ?_)
  refine xx_iload_n e_L_keepIfLess_8 rfl rfl ?_
  refine xx_aload_n e_L_keepIfLess_9 rfl rfl ?_
  refine xh_get e_L_keepIfLess_10 fg_L_51 rfl rfl ?_
  refine xx_icmp_ne e_L_keepIfLess_13 (fun q1 => no (fun z => z.elim q (fun w => q1 w.1)) _) (fun q1 => ?_)
  refine xx_aload_n e_L_keepIfLess_16 rfl rfl ?_
  refine xc_V0i e_L_keepIfLess_17 kv_L_105 (xl_obj rfl) (t_L_takenComesFirst hn h243 hb) ?_
  exact xx_if_eq e_L_keepIfLess_20 (fun q2 => no (fun z => z.elim q (fun w => w.2 q2)) _) (fun q2 => yes (.inr ⟨q1, q2⟩) _)
theorem t_L_spanOf {p : Nat} (hp : p < 243) : xX S d 85 0 (xa_ent 2 [.ref 38, .int (nI p)]) [] V 0 0 (xq (some (.int (V.2.1 46 p))) (xl_H xlay V)) := by
  refine xx_aload_n e_L_spanOf_0 rfl rfl ?_
  refine xh_getR e_L_spanOf_1 fg_L_38 rfl rfl ?_
  refine xx_iload_n e_L_spanOf_4 rfl rfl ?_
  refine xh_ialN e_L_spanOf_5 rfl (by omega) ?_
  refine xx_iret e_L_spanOf_6 rfl rfl ?_
  exact ⟨rfl, rfl⟩
end XSum
