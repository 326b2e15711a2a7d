/-! The class's least sums: giving to a gate, collecting primes, finding. -/
section XSum4
variable {S : Nat × (Nat → Int32)} {V : xl_V} {d : Nat}
/-- the primes of the best among the first i -/
def l_bp (pn : Nat → Nat) (bs : Nat → Int32) : Nat → List Nat
  | 0 => []
  | i + 1 => if bs i = 0 then l_bp pn bs i else l_bp pn bs i ++ [pn i]
theorem l_bp_le (pn : Nat → Nat) (bs : Nat → Int32) : ∀ i j, (l_bp pn bs i).length ≤ (l_bp pn bs (i + j)).length
  | i, 0 => Nat.le_refl _
  | i, j + 1 => by
    have h := l_bp_le pn bs i j
    show _ ≤ (if bs (i + j) = 0 then l_bp pn bs (i + j) else l_bp pn bs (i + j) ++ [pn (i + j)]).length
    split
    · exact h
    · rw [List.length_append]; omega
def l_os (sp : Nat → Int32) (P : List Nat) : Int32 := P.foldl (fun a p => a ||| sp p) 0
/-- the gate g with numbers at b holds the list -/
def l_gt (V : xl_V) (g b : Nat) (P : List Nat) : Prop := V.1 g 0 = nI P.length ∧ l_ar (V.2.1 b) P ∧ V.1 g 2 = l_os (V.2.1 46) P
def l_gf (g b : Nat) (V W : xl_V) : Prop := (∀ a j, ¬ (a = g ∧ (j = 0 ∨ j = 2)) → W.1 a j = V.1 a j) ∧ (∀ a, a ≠ b → W.2.1 a = V.2.1 a) ∧ W.2.2 = V.2.2
theorem t_L_giveTo {g b n : Nat} {pn : Nat → Nat} {Q : xa_Q} (hg : xlay[g]? = some (.inl (4, [none, some b, none]))) (hb : xlay[b]? = some (.inr (0, 8))) (hgb : g ≠ 38) (hb1 : b ≠ 39) (hb2 : b ≠ 44) (hb3 : b ≠ 46) (hn : V.1 38 8 = nI n) (h243 : n ≤ 243) (hpn : ∀ i, i < n → V.2.1 39 i = nI (pn i) ∧ pn i < 243) (hlen : (l_bp pn (V.2.1 44) n).length ≤ 8) (h0 : l_gt V g b [])
    (kk : ∀ W, l_gf g b V W → l_gt W g b (l_bp pn (V.2.1 44) n) → Q (.inl none) (xl_H xlay W)) :
    xX S (d + 1) 76 0 (xa_ent 3 [.ref 38, .ref g]) [] V 0 0 Q := by
  have loop : ∀ m i, n - i = m → i ≤ n → ∀ W : xl_V, l_gf g b V W → l_gt W g b (l_bp pn (V.2.1 44) i) → xX S (d + 1) 76 2 [.ref 38, .ref g, .int (nI i)] [] W 0 0 Q := by
    intro m
    induction m using Nat.strongRecOn with
    | ind m ih =>
      intro i hm hi W wf wg
      have hnW : W.1 38 8 = nI n := (wf.1 38 8 (fun z => hgb z.1.symm)).trans hn
      have e39 : W.2.1 39 = V.2.1 39 := wf.2.1 39 (fun z => hb1 z.symm)
      have e44 : W.2.1 44 = V.2.1 44 := wf.2.1 44 (fun z => hb2 z.symm)
      have e46 : W.2.1 46 = V.2.1 46 := wf.2.1 46 (fun z => hb3 z.symm)
      refine xx_iload_n e_L_giveTo_2 rfl rfl ?_
      refine xx_aload_n e_L_giveTo_3 rfl rfl ?_
      refine xh_get e_L_giveTo_4 fg_L_59 rfl rfl ?_
      refine xx_icmp_ge e_L_giveTo_7 (fun q => ?_) (fun q => ?_)
      · have e1 : n ≤ i := (xle hnW rfl (by omega) (by omega)).mp q
        refine xx_vret e_L_giveTo_47 rfl ?_
        rw [show i = n by omega] at wg
        exact kk W wf wg
      · have e1 : i < n := Nat.lt_of_not_le (fun z => q ((xle hnW rfl (by omega) (by omega)).mpr z))
        obtain ⟨p1, p2⟩ := hpn i e1
        refine xx_aload_n e_L_giveTo_10 rfl rfl ?_
        refine xh_getR e_L_giveTo_11 fg_L_28 rfl rfl ?_
        refine xx_iload_n e_L_giveTo_14 rfl rfl ?_
        refine xh_balN e_L_giveTo_15 rfl (by omega) ?_
        rw [e44]
        refine xx_if_eq e_L_giveTo_16 (fun q1 => ?_) (fun q1 => ?_)
        · skip
          refine xh_incN e_L_giveTo_41 rfl ?_
          refine xx_goto e_L_giveTo_44 ?_
          refine ih (n - (i + 1)) (by omega) (i + 1) rfl (by omega) W wf ?_
          rw [l_bp, if_pos q1]
          exact wg
        · have hl : (l_bp pn (V.2.1 44) i).length < 8 := by
            have h1 := l_bp_le pn (V.2.1 44) (i + 1) (n - (i + 1))
            rw [show i + 1 + (n - (i + 1)) = n by omega, l_bp, if_neg q1, List.length_append] at h1
            have h1 : (l_bp pn (V.2.1 44) i).length + 1 ≤ (l_bp pn (V.2.1 44) n).length := h1
            omega
          have hv : vp_in (W.1 g 0) 8 := by rw [wg.1]; exact vp_in_nI hl (by decide)
          have hcl : (W.1 g 0).toNatClampNeg = (l_bp pn (V.2.1 44) i).length := by rw [wg.1]; exact nI_clamp (xn31 (by omega))
          refine xx_aload_n e_L_giveTo_19 rfl rfl ?_
          refine xx_aload_n e_L_giveTo_20 rfl rfl ?_
          refine xh_getR e_L_giveTo_21 fg_L_9 rfl rfl ?_
          refine xx_iload_n e_L_giveTo_24 rfl rfl ?_
          refine xh_ialN e_L_giveTo_25 rfl (by omega) ?_
          rw [show W.2.1 39 i = nI (pn i) by rw [e39]; exact p1]
          refine xx_aload_n e_L_giveTo_26 rfl rfl ?_
          refine xh_getR e_L_giveTo_27 fg_L_38 rfl rfl ?_
          refine xx_aload_n e_L_giveTo_30 rfl rfl ?_
          refine xh_getR e_L_giveTo_31 fg_L_9 rfl rfl ?_
          refine xx_iload_n e_L_giveTo_34 rfl rfl ?_
          refine xh_ialN e_L_giveTo_35 rfl (by omega) ?_
          rw [show W.2.1 39 i = nI (pn i) by rw [e39]; exact p1]
          refine xh_ialN e_L_giveTo_36 rfl (by omega) ?_
          refine xc_V2i e_L_giveTo_37 kv_L_62 (xl_obj hg) (t_Ga_add (d := d) hg hb hv) ?_
          refine xx_pop e_L_giveTo_40 rfl ?_
          refine xh_incN e_L_giveTo_41 rfl ?_
          refine xx_goto e_L_giveTo_44 ?_
          refine ih (n - (i + 1)) (by omega) (i + 1) rfl (by omega) _ ⟨fun a j hj => ?_, fun a ha => ?_, ?_⟩ ?_
          · show (if a = g ∧ j = 0 then _ else if a = g ∧ j = 2 then _ else W.1 a j) = _
            rw [if_neg (fun z => hj ⟨z.1, .inl z.2⟩), if_neg (fun z => hj ⟨z.1, .inr z.2⟩)]
            exact wf.1 a j hj
          · exact (xa_up_n _ _ ha).trans (wf.2.1 a ha)
          · exact wf.2.2
          · rw [l_bp, if_neg q1]
            refine ⟨?_, fun q a ha => ?_, ?_⟩
            · show (if g = g ∧ 0 = 0 then W.1 g 0 + 1 else _) = _
              rw [if_pos ⟨rfl, rfl⟩, wg.1, nI_1, List.length_append]
              rfl
            · show xa_up W.2.1 b (upd (W.2.1 b) (W.1 g 0).toNatClampNeg (nI (pn i))) b q = _
              rw [xa_up_s, hcl]
              rcases Nat.lt_or_ge q (l_bp pn (V.2.1 44) i).length with z | z
              · rw [List.getElem?_append_left z] at ha
                rw [pk_un (by omega)]
                exact wg.2.1 q a ha
              · rw [List.getElem?_append_right z] at ha
                rcases Nat.eq_or_lt_of_le z with y | y
                · rw [show q - (l_bp pn (V.2.1 44) i).length = 0 by omega] at ha
                  have : pn i = a := Option.some.inj ha
                  rw [← y, pk_us, this]
                · rw [List.getElem?_eq_none (by show 1 ≤ _; omega)] at ha
                  cases ha
            · show (if g = g ∧ 2 = 0 then _ else if g = g ∧ 2 = 2 then W.1 g 2 ||| W.2.1 46 (pn i) else _) = l_os (xa_up W.2.1 b _ 46) _
              rw [if_neg (fun z => absurd z.2 (by decide)), if_pos ⟨rfl, rfl⟩, xa_up_n _ _ (fun z => hb3 z.symm), wg.2.2]
              unfold l_os
              rw [List.foldl_append]
              rfl
  refine xx_iconst (v := 0) e_L_giveTo_0 (by decide) ?_
  refine xx_istore_n e_L_giveTo_1 rfl rfl ?_
  exact loop _ 0 rfl (Nat.zero_le _) V ⟨fun _ _ _ => rfl, fun _ _ => rfl, rfl⟩ h0
end XSum4
