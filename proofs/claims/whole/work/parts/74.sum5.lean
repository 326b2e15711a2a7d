/-! The class's least sums: collecting primes. -/
section XSum5
variable {S : Nat × (Nat → Int32)} {V : xl_V} {d : Nat}
set_option maxRecDepth 100000 in
theorem x_mx4 : Cond.code Lib.Math.max.name Lib.Math.max.code 2 (some .int) ∈ xP.2.2.1 := xw_t (i := 589) rfl (by decide +kernel)
/-- product p is collected -/
abbrev l_co (sp : Nat → Int32) (on off : Int32) (sg p : Nat) : Prop := ¬ sp p &&& on = 0 ∧ ¬ l_ip sp off sg p = 0
def l_cp (sp : Nat → Int32) (on off : Int32) (sg : Nat) : Nat → List Nat
  | 0 => []
  | p + 1 => if l_co sp on off sg p then l_cp sp on off sg p ++ [p] else l_cp sp on off sg p
def l_wi (sp : Nat → Int32) (on off : Int32) (sg : Nat) : Nat → Nat
  | 0 => 1
  | p + 1 => if l_co sp on off sg p then (if l_wi sp on off sg p < xpc (sp p &&& on) then xpc (sp p &&& on) else l_wi sp on off sg p) else l_wi sp on off sg p
theorem l_wi_1 (sp : Nat → Int32) (on off : Int32) (sg : Nat) : ∀ p, 1 ≤ l_wi sp on off sg p ∧ l_wi sp on off sg p ≤ 32
  | 0 => ⟨Nat.le_refl _, show 1 ≤ 32 by decide⟩
  | p + 1 => by
    have h := l_wi_1 sp on off sg p
    have h2 : xpc (sp p &&& on) ≤ 32 := xpn_le _ 32
    unfold l_wi
    split
    · split <;> omega
    · exact h
theorem l_cp_le (sp : Nat → Int32) (on off : Int32) (sg : Nat) : ∀ p, (l_cp sp on off sg p).length ≤ p
  | 0 => Nat.le_refl _
  | p + 1 => by
    have h := l_cp_le sp on off sg p
    unfold l_cp
    split
    · rw [List.length_append]; show _ + 1 ≤ _; omega
    · omega
theorem l_cp_lt (sp : Nat → Int32) (on off : Int32) (sg : Nat) : ∀ p q, q ∈ l_cp sp on off sg p → q < p ∧ l_co sp on off sg q
  | 0, q, h => by cases h
  | p + 1, q, h => by
    unfold l_cp at h
    split at h
    · rename_i hc
      rcases List.mem_append.mp h with z | z
      · have := l_cp_lt sp on off sg p q z
        exact ⟨by omega, this.2⟩
      · rw [List.mem_singleton.mp z]
        exact ⟨by omega, hc⟩
    · have := l_cp_lt sp on off sg p q h
      exact ⟨by omega, this.2⟩
/-- the arrays hold what is known of the list's products -/
def l_ca (W : xl_V) (sp : Nat → Int32) (on : Int32) (sg : Nat) (L : List Nat) : Prop := ∀ i p, L[i]? = some p → W.2.1 39 i = nI p ∧ W.2.1 40 i = sp p &&& on ∧ W.2.1 41 i = nI (100 + xdt p sg) ∧ W.2.1 42 i = 0 ∧ W.2.1 43 i = 0
def l_cfm (V W : xl_V) : Prop := (∀ a j, ¬ (a = 38 ∧ (j = 8 ∨ j = 9)) → W.1 a j = V.1 a j) ∧ (∀ a, a < 39 ∨ 43 < a → W.2.1 a = V.2.1 a) ∧ W.2.2 = V.2.2
theorem t_L_collectPrimes (hbc : xBC S) {on off : Int32} {sg : Nat} {Q : xa_Q} (h5 : sg ≤ 5)
    (kk : ∀ W, l_cfm V W → W.1 38 8 = nI (l_cp (V.2.1 46) on off sg (3 ^ sg)).length → W.1 38 9 = nI (l_wi (V.2.1 46) on off sg (3 ^ sg)) → l_ca W (V.2.1 46) on sg (l_cp (V.2.1 46) on off sg (3 ^ sg)) → Q (.inl none) (xl_H xlay W)) :
    xX S (d + 2) 64 0 (xa_ent 6 [.ref 38, .int on, .int off, .int (nI sg)]) [] V 0 0 Q := by
  have h3 := x3 sg h5
  have loop : ∀ m p, 3 ^ sg - p = m → p ≤ 3 ^ sg → ∀ (W : xl_V) l5, l_cfm V W → W.1 38 8 = nI (l_cp (V.2.1 46) on off sg p).length → W.1 38 9 = nI (l_wi (V.2.1 46) on off sg p) → l_ca W (V.2.1 46) on sg (l_cp (V.2.1 46) on off sg p) → xX S (d + 2) 64 13 [.ref 38, .int on, .int off, .int (nI sg), .int (nI p), l5] [] W 0 0 Q := by
    intro m
    induction m using Nat.strongRecOn with
    | ind m ih =>
      intro p hm hp W l5 wf w8 w9 wa
      have hv := x3v (S := S) (s := sg) (by omega)
      have e46 : W.2.1 46 = V.2.1 46 := wf.2.1 46 (.inr (by decide))
      refine xx_iload e_L_collectPrimes_13 rfl ?_
      refine xx_gets e_L_collectPrimes_15 gs_L_41 ?_
      refine xx_iload_n e_L_collectPrimes_18 rfl rfl ?_
      refine xx_tload e_L_collectPrimes_19 (by decide) (by first | assumption | decide | (refine vp_in_nI ?_ (by decide); omega)) ?_
      rw [x3u (by omega)]
      refine xx_icmp_ge e_L_collectPrimes_20 (fun q => ?_) (fun q => ?_)
      · have e1 : 3 ^ sg ≤ p := (xle rfl rfl (by omega) (by omega)).mp q
        refine xx_vret e_L_collectPrimes_142 rfl ?_
        rw [show p = 3 ^ sg by omega] at w8 w9 wa
        exact kk W wf w8 w9 wa
      · have e1 : p < 3 ^ sg := Nat.lt_of_not_le (fun z => q ((xle rfl rfl (by omega) (by omega)).mpr z))
        have skip : ¬ l_co (V.2.1 46) on off sg p → ∀ l5, xX S (d + 2) 64 136 [.ref 38, .int on, .int off, .int (nI sg), .int (nI p), l5] [] W 0 0 Q := by
          intro h l5
          refine xh_incN e_L_collectPrimes_136 rfl ?_
          refine xx_goto e_L_collectPrimes_139 ?_
          refine ih (3 ^ sg - (p + 1)) (by omega) (p + 1) rfl (by omega) W _ wf ?_ ?_ ?_
          · rw [l_cp, if_neg h]; exact w8
          · rw [l_wi, if_neg h]; exact w9
          · rw [l_cp, if_neg h]; exact wa
        refine xx_aload_n e_L_collectPrimes_23 rfl rfl ?_
        refine xh_getR e_L_collectPrimes_24 fg_L_38 rfl rfl ?_
        refine xx_iload e_L_collectPrimes_27 rfl ?_
        refine xh_ialN e_L_collectPrimes_29 rfl (by omega) ?_
        refine xx_iload_n e_L_collectPrimes_30 rfl rfl ?_
        refine xx_iand e_L_collectPrimes_31 ?_
        refine xx_istore e_L_collectPrimes_32 rfl ?_
        refine xx_iload e_L_collectPrimes_34 rfl ?_
        rw [show W.2.1 46 p = V.2.1 46 p by rw [e46]]
        refine xx_if_eq e_L_collectPrimes_36 (fun q1 => skip (fun z => z.1 q1) _) (fun q1 => ?_)
        refine xx_aload_n e_L_collectPrimes_39 rfl rfl ?_
        refine xx_iload e_L_collectPrimes_40 rfl ?_
        refine xx_iload_n e_L_collectPrimes_42 rfl rfl ?_
        refine xx_iload_n e_L_collectPrimes_43 rfl rfl ?_
        refine xc_V3i e_L_collectPrimes_44 kv_L_71 (xl_obj rfl) (t_L_isPrime (V := W) (p := p) (d := d) (by omega) h5) ?_
        rw [e46]
        refine xx_if_eq e_L_collectPrimes_47 (fun q2 => skip (fun z => z.2 q2) _) (fun q2 => ?_)
        have hco : l_co (V.2.1 46) on off sg p := ⟨q1, q2⟩
        have hll := l_cp_le (V.2.1 46) on off sg p
        generalize hL : l_cp (V.2.1 46) on off sg p = L at *
        generalize hwp : l_wi (V.2.1 46) on off sg p = w at *
        have hw32 : w ≤ 32 := by rw [← hwp]; exact (l_wi_1 _ _ _ _ p).2
        have hcl : (W.1 38 8).toNatClampNeg = L.length := by rw [w8]; exact nI_clamp (xn31 (by omega))
        have hv8 : vp_in (W.1 38 8) 243 := by rw [w8]; exact vp_in_nI (by omega) (by decide)
        refine xx_aload_n e_L_collectPrimes_50 rfl rfl ?_
        refine xh_getR e_L_collectPrimes_51 fg_L_9 rfl rfl ?_
        refine xx_aload_n e_L_collectPrimes_54 rfl rfl ?_
        refine xh_get e_L_collectPrimes_55 fg_L_59 rfl rfl ?_
        refine xx_iload e_L_collectPrimes_58 rfl ?_
        refine xh_iast e_L_collectPrimes_60 rfl hv8 ?_
        refine xx_aload_n e_L_collectPrimes_61 rfl rfl ?_
        refine xh_getR e_L_collectPrimes_62 fg_L_15 rfl rfl ?_
        refine xx_aload_n e_L_collectPrimes_65 rfl rfl ?_
        refine xh_get e_L_collectPrimes_66 fg_L_59 rfl rfl ?_
        refine xx_iload e_L_collectPrimes_69 rfl ?_
        refine xh_iast e_L_collectPrimes_71 rfl hv8 ?_
        refine xx_aload_n e_L_collectPrimes_72 rfl rfl ?_
        refine xh_getR e_L_collectPrimes_73 fg_L_18 rfl rfl ?_
        refine xx_aload_n e_L_collectPrimes_76 rfl rfl ?_
        refine xh_get e_L_collectPrimes_77 fg_L_59 rfl rfl ?_
        refine xx_bipush (v := 100) e_L_collectPrimes_80 (by decide) ?_
        refine xx_iload e_L_collectPrimes_82 rfl ?_
        refine xx_iload_n e_L_collectPrimes_84 rfl rfl ?_
        refine xc_S2i e_L_collectPrimes_85 ks_L_75 (t_L_fixedDigits (p := p) (d := d) (by omega) h5) ?_
        refine xx_iadd e_L_collectPrimes_88 ?_
        refine xh_iast e_L_collectPrimes_89 rfl hv8 ?_
        refine xx_aload_n e_L_collectPrimes_90 rfl rfl ?_
        refine xh_getR e_L_collectPrimes_91 fg_L_21 rfl rfl ?_
        refine xx_aload_n e_L_collectPrimes_94 rfl rfl ?_
        refine xh_get e_L_collectPrimes_95 fg_L_59 rfl rfl ?_
        refine xx_iconst (v := 0) e_L_collectPrimes_98 (by decide) ?_
        refine xh_iast e_L_collectPrimes_99 rfl hv8 ?_
        refine xx_aload_n e_L_collectPrimes_100 rfl rfl ?_
        refine xh_getR e_L_collectPrimes_101 fg_L_24 rfl rfl ?_
        refine xx_aload_n e_L_collectPrimes_104 rfl rfl ?_
        refine xh_get e_L_collectPrimes_105 fg_L_59 rfl rfl ?_
        refine xx_iconst (v := 0) e_L_collectPrimes_108 (by decide) ?_
        refine xh_bast e_L_collectPrimes_109 rfl hv8 ?_
        refine xx_aload_n e_L_collectPrimes_110 rfl rfl ?_
        refine xx_aload_n e_L_collectPrimes_111 rfl rfl ?_
        refine xh_get e_L_collectPrimes_112 fg_L_68 rfl rfl ?_
        refine xx_iload e_L_collectPrimes_115 rfl ?_
        refine xc_S1i e_L_collectPrimes_117 ks_L_78 (hbc _ _ (V.2.1 46 p &&& on)) ?_
        refine xx_mmax e_L_collectPrimes_120 (xw_t (i := 587) (by decide +kernel) (by decide +kernel)) (xw_t (i := 588) (by decide +kernel) (by decide +kernel)) (xw_t (i := 15) (by decide +kernel) (by decide +kernel)) x_mx4 (by exact Nat.le_of_ble_eq_true rfl) ?_
        refine xh_put e_L_collectPrimes_123 fp_L_68 rfl rfl ⟨rfl, rfl⟩ ?_
        refine xx_aload_n e_L_collectPrimes_126 rfl rfl ?_
        refine xx_dup e_L_collectPrimes_127 rfl ?_
        refine xh_get e_L_collectPrimes_128 fg_L_59 rfl rfl ?_
        refine xx_iconst (v := 1) e_L_collectPrimes_131 (by decide) ?_
        refine xx_iadd e_L_collectPrimes_132 ?_
        refine xh_put e_L_collectPrimes_133 fp_L_59 rfl rfl ⟨rfl, rfl⟩ ?_
        refine xh_incN e_L_collectPrimes_136 rfl ?_
        refine xx_goto e_L_collectPrimes_139 ?_
        refine ih (3 ^ sg - (p + 1)) (by omega) (p + 1) rfl (by omega) _ _ ⟨fun a j hj => ?_, fun a ha => ?_, wf.2.2⟩ ?_ ?_ ?_
        · show (if a = 38 ∧ j = 8 then _ else if a = 38 ∧ j = 9 then _ else W.1 a j) = _
          rw [if_neg (fun z => hj ⟨z.1, .inl z.2⟩), if_neg (fun z => hj ⟨z.1, .inr z.2⟩)]
          exact wf.1 a j hj
        · show xa_up (xa_up (xa_up (xa_up (xa_up W.2.1 39 _) 40 _) 41 _) 42 _) 43 _ a = _
          rw [xa_up_n _ _ (by omega), xa_up_n _ _ (by omega), xa_up_n _ _ (by omega), xa_up_n _ _ (by omega), xa_up_n _ _ (by omega)]
          exact wf.2.1 a ha
        · rw [l_cp, if_pos hco, hL, List.length_append]
          show W.1 38 8 + 1 = _
          rw [w8, nI_1]
          rfl
        · rw [l_wi, if_pos hco, hwp]
          show (if W.1 38 9 < nI (xpc (V.2.1 46 p &&& on)) then nI (xpc (V.2.1 46 p &&& on)) else W.1 38 9) = _
          have h32 : xpc (V.2.1 46 p &&& on) ≤ 32 := xpn_le _ 32
          by_cases h : w < xpc (V.2.1 46 p &&& on)
          · rw [if_pos h, if_pos ((xlt w9 rfl (by omega) (by omega)).mpr h)]
          · rw [if_neg h, if_neg (fun z => h ((xlt w9 rfl (by omega) (by omega)).mp z)), w9]
        · rw [l_cp, if_pos hco, hL]
          intro i r hr
          show upd (W.2.1 39) (W.1 38 8).toNatClampNeg (nI p) i = _ ∧ upd (W.2.1 40) (W.1 38 8).toNatClampNeg (V.2.1 46 p &&& on) i = _ ∧ upd (W.2.1 41) (W.1 38 8).toNatClampNeg (100 + nI (xdt p sg)) i = _ ∧ upd (W.2.1 42) (W.1 38 8).toNatClampNeg 0 i = _ ∧ upd (W.2.1 43) (W.1 38 8).toNatClampNeg (vp_nar .boolean 0) i = _
          rw [hcl]
          rcases Nat.lt_or_ge i L.length with z | z
          · rw [List.getElem?_append_left z] at hr
            rw [pk_un (by omega), pk_un (by omega), pk_un (by omega), pk_un (by omega), pk_un (by omega)]
            exact wa i r hr
          · rw [List.getElem?_append_right z] at hr
            rcases Nat.eq_or_lt_of_le z with y | y
            · rw [show i - L.length = 0 by omega] at hr
              have : p = r := Option.some.inj hr
              subst this
              rw [← y, pk_us, pk_us, pk_us, pk_us, pk_us]
              exact ⟨rfl, rfl, nI_add 100 _, rfl, rfl⟩
            · rw [List.getElem?_eq_none (by show 1 ≤ _; omega)] at hr
              cases hr
  refine xx_aload_n e_L_collectPrimes_0 rfl rfl ?_
  refine xx_iconst (v := 0) e_L_collectPrimes_1 (by decide) ?_
  refine xh_put e_L_collectPrimes_2 fp_L_59 rfl rfl ⟨rfl, rfl⟩ ?_
  refine xx_aload_n e_L_collectPrimes_5 rfl rfl ?_
  refine xx_iconst (v := 1) e_L_collectPrimes_6 (by decide) ?_
  refine xh_put e_L_collectPrimes_7 fp_L_68 rfl rfl ⟨rfl, rfl⟩ ?_
  refine xx_iconst (v := 0) e_L_collectPrimes_10 (by decide) ?_
  refine xx_istore e_L_collectPrimes_11 rfl ?_
  exact loop _ 0 rfl (Nat.zero_le _) _ _ ⟨fun a j hj => by
    show (if a = 38 ∧ j = 9 then _ else if a = 38 ∧ j = 8 then _ else V.1 a j) = _
    rw [if_neg (fun z => hj ⟨z.1, .inr z.2⟩), if_neg (fun z => hj ⟨z.1, .inl z.2⟩)], fun _ _ => rfl, rfl⟩ rfl rfl (fun i r hr => by cases hr)
end XSum5
