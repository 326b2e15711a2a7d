/-! The class: appending a product, making a draft. -/
section XCg2
variable {S : Nat × (Nat → Int32)} {V : xl_V} {d : Nat}
theorem t_CG_append {x p : Int32} {w s sg q : Nat} (hw : c_ok V w) (h0 : ¬ x < 0) (h1 : x < V.1 1 0) (hx : x = nI s) (hs : s < 5) (hin : n_in V x = 0) (hsg : V.1 1 0 = nI sg) (h5 : sg ≤ 5) (hp0 : ¬ p < 0) (hp1 : p < nI (3 ^ sg)) (hq : p = nI q) (hq2 : q < 243) (hc : V.1 (ga w s) 0 < 8) (hv : vp_in (V.1 (ga w s) 0) 8) :
    xX S (d + 1) 84 0 (xa_ent 3 [.ref 0, .int x, .int p]) [] V 0 0 (xq (some (.int (V.1 (ga w s) 0 + 1 - 1))) (xl_H xlay (ga_ad V (ga w s) (ga w s + 1) p (V.2.1 46 q)))) := by
  refine xx_aload_n e_CG_append_0 rfl rfl ?_
  refine xx_iload_n e_CG_append_1 rfl rfl ?_
  refine xc_V1v e_CG_append_2 kv_CG_61 (xl_obj rfl) (t_CG_requireSignal h0 h1) ?_
  refine xx_aload_n e_CG_append_5 rfl rfl ?_
  refine xh_getR e_CG_append_6 fg_CG_10 rfl rfl ?_
  refine xx_iload_n e_CG_append_9 rfl rfl ?_
  refine xc_V1i e_CG_append_10 kv_CG_166 (xl_obj rfl) (t_N_isInput) ?_
  refine xx_if_eq e_CG_append_13 (fun _ => ?_) (fun z => absurd hin z)
  refine xx_iload_n e_CG_append_26 rfl rfl ?_
  refine xx_if_lt e_CG_append_27 (fun z => absurd z hp0) (fun _ => ?_)
  have hv3 := x3v (S := S) (s := sg) (by omega)
  refine xx_iload_n e_CG_append_30 rfl rfl ?_
  refine xx_gets e_CG_append_31 gs_CG_171 ?_
  refine xx_aload_n e_CG_append_34 rfl rfl ?_
  refine xh_getR e_CG_append_35 fg_CG_10 rfl rfl ?_
  refine xh_get e_CG_append_38 fg_CG_44 rfl rfl ?_
  rw [hsg]
  refine xx_tload e_CG_append_41 (by decide) hv3 ?_
  rw [x3u (by omega)]
  refine xx_icmp_lt e_CG_append_42 (fun _ => ?_) (fun z => absurd hp1 z)
  subst hx
  refine xx_aload_n e_CG_append_55 rfl rfl ?_
  refine xh_getR e_CG_append_56 fg_CG_26 rfl rfl ?_
  refine xh_getR e_CG_append_59 fg_CG_158 rfl rfl ?_
  refine xx_iload_n e_CG_append_62 rfl rfl ?_
  refine xh_aalN e_CG_append_63 rfl hs (hw.2 s hs).1 ?_
  refine xh_get e_CG_append_64 fg_CG_152 (ga_o hs hw.1) rfl ?_
  refine xx_bipush (v := 8) e_CG_append_67 (by decide) ?_
  refine xx_icmp_lt e_CG_append_69 (fun _ => ?_) (fun z => absurd hc z)
  refine xx_aload_n e_CG_append_82 rfl rfl ?_
  refine xh_getR e_CG_append_83 fg_CG_26 rfl rfl ?_
  refine xh_getR e_CG_append_86 fg_CG_158 rfl rfl ?_
  refine xx_iload_n e_CG_append_89 rfl rfl ?_
  refine xh_aalN e_CG_append_90 rfl hs (hw.2 s hs).1 ?_
  refine xx_iload_n e_CG_append_91 rfl rfl ?_
  refine xx_aload_n e_CG_append_92 rfl rfl ?_
  refine xh_getR e_CG_append_93 fg_CG_33 rfl rfl ?_
  refine xx_iload_n e_CG_append_96 rfl rfl ?_
  rw [show (Value.int p) = .int (nI q) from congrArg _ hq]
  refine xc_V1i e_CG_append_97 kv_CG_178 (xl_obj rfl) (t_L_spanOf hq2) ?_
  refine xc_V2i e_CG_append_100 kv_CG_182 (xl_obj (ga_o hs hw.1)) (t_Ga_add (ga_o hs hw.1) (ga_n hs hw.1) hv) ?_
  refine xx_iret e_CG_append_103 rfl rfl ?_
  rw [hq]
  exact ⟨rfl, rfl⟩
theorem l_bp_D {pn : Nat → Nat} {bs : Nat → Int32} : ∀ (n : Nat) (D : List Nat), (∀ i, i < n → ¬ bs i = 0 → i ∈ D) → (l_bp pn bs n).length ≤ D.length
  | 0, D, _ => Nat.zero_le _
  | n + 1, D, h => by
    by_cases hb : bs n = 0
    · rw [l_bp, if_pos hb]
      exact l_bp_D n D (fun i hi => h i (by omega))
    · have hn := h n (by omega) hb
      have ih := l_bp_D (pn := pn) (bs := bs) n (D.erase n) (fun i hi hbi => (List.mem_erase_of_ne (by omega)).mpr (h i (by omega) hbi))
      rw [List.length_erase_of_mem hn] at ih
      have hpos := List.length_pos_of_mem hn
      rw [l_bp, if_neg hb, List.length_append]
      show _ + 1 ≤ _
      omega
def l_pn (L : List Nat) (i : Nat) : Nat := (L[i]?).getD 0
theorem t_CG_makeDraft (hbc : xBC S) {w s c sg : Nat} {Q : xa_Q} (hw : c_ok V w) (hs : s < 5) (hc : V.1 6 0 = nI c) (h80 : c ≤ 80) (hsg : V.1 1 0 = nI sg) (h5 : sg ≤ 5) (hs0 : V.2.1 46 0 = 1) (hs1 : V.2.1 46 1 = 2)
    (k1 : ¬ n_in V (nI s) = 0 → Q (.inl (some (.int 1))) (xl_H xlay (ga_cl V (ga (1 - w) s))))
    (k2 : n_in V (nI s) = 0 → ∀ U L, L = l_cp (V.2.1 46) (g_cn (ga_cl V (ga (1 - w) s)) (nI s) 1 c) (g_cn (ga_cl V (ga (1 - w) s)) (nI s) 0 c) sg (3 ^ sg) → l_ff (ga_cl V (ga (1 - w) s)) U → l_ca U (V.2.1 46) (g_cn (ga_cl V (ga (1 - w) s)) (nI s) 1 c) sg L →
      s_post L.length (U.2.1 40) (U.2.1 43) (U.2.1 42) (l_ct sg L) (g_cn (ga_cl V (ga (1 - w) s)) (nI s) 1 c) 0 8 (900, V.2.1 44) (900, U.2.1 44) → Q (.inl (some (.int 0))) (xl_H xlay U))
    (k3 : n_in V (nI s) = 0 → ∀ U W b' L, L = l_cp (V.2.1 46) (g_cn (ga_cl V (ga (1 - w) s)) (nI s) 1 c) (g_cn (ga_cl V (ga (1 - w) s)) (nI s) 0 c) sg (3 ^ sg) → l_ff (ga_cl V (ga (1 - w) s)) U → l_ca U (V.2.1 46) (g_cn (ga_cl V (ga (1 - w) s)) (nI s) 1 c) sg L → b' < 900 →
      s_post L.length (U.2.1 40) (U.2.1 43) (U.2.1 42) (l_ct sg L) (g_cn (ga_cl V (ga (1 - w) s)) (nI s) 1 c) 0 8 (900, V.2.1 44) (b', U.2.1 44) → l_gf (ga (1 - w) s) (ga (1 - w) s + 1) U W → l_gt W (ga (1 - w) s) (ga (1 - w) s + 1) (l_bp (l_pn L) (U.2.1 44) L.length) → Q (.inl (some (.int 1))) (xl_H xlay W)) :
    xX S (d + 12) 60 0 (xa_ent 4 [.ref 0, .int (nI s)]) [] V 0 0 Q := by
  have hw1 : 1 - w < 2 := by omega
  have hgl : ga (1 - w) s < 38 ∧ 18 ≤ ga (1 - w) s := by have := hw.1; unfold ga; omega
  refine xx_aload_n e_CG_makeDraft_0 rfl rfl ?_
  refine xh_getR e_CG_makeDraft_1 fg_CG_26 rfl rfl ?_
  refine xh_getR e_CG_makeDraft_4 fg_CG_148 rfl rfl ?_
  refine xx_iload_n e_CG_makeDraft_7 rfl rfl ?_
  refine xh_aalN e_CG_makeDraft_8 rfl hs (hw.2 s hs).2 ?_
  refine xc_V0v e_CG_makeDraft_9 kv_CG_186 (xl_obj (ga_o hs hw1)) (t_Ga_clear (ga_o hs hw1)) ?_
  refine xx_aload_n e_CG_makeDraft_12 rfl rfl ?_
  refine xh_getR e_CG_makeDraft_13 fg_CG_10 rfl rfl ?_
  refine xx_iload_n e_CG_makeDraft_16 rfl rfl ?_
  refine xc_V1i e_CG_makeDraft_17 kv_CG_166 (xl_obj rfl) (t_N_isInput) ?_
  have hf : ∀ a j, a ≠ ga (1 - w) s → (ga_cl V (ga (1 - w) s)).1 a j = V.1 a j := fun a j ha => by
    show (if a = ga (1 - w) s ∧ j = 2 then _ else if a = ga (1 - w) s ∧ j = 0 then _ else V.1 a j) = _
    rw [if_neg (fun z => ha z.1), if_neg (fun z => ha z.1)]
  have hni : n_in (ga_cl V (ga (1 - w) s)) (nI s) = n_in V (nI s) := by
    unfold n_in
    rw [hf 1 6 (by omega)]
  rw [hni]
  refine xx_if_eq e_CG_makeDraft_20 (fun q => ?_) (fun q => ?_)
  · have h22 : (ga_cl V (ga (1 - w) s)).2.2.1 15 s = some (ga (1 - w) s) := (hw.2 s hs).2
    have g0 : (ga_cl V (ga (1 - w) s)).1 (ga (1 - w) s) 0 = 0 := by
      show (if ga (1 - w) s = ga (1 - w) s ∧ 0 = 2 then _ else if ga (1 - w) s = ga (1 - w) s ∧ 0 = 0 then (0 : Int32) else _) = _
      rw [if_neg (fun z => absurd z.2 (by decide)), if_pos ⟨rfl, rfl⟩]
    have g2 : (ga_cl V (ga (1 - w) s)).1 (ga (1 - w) s) 2 = 0 := by
      show (if ga (1 - w) s = ga (1 - w) s ∧ 2 = 2 then (0 : Int32) else _) = _
      rw [if_pos ⟨rfl, rfl⟩]
    have ha : (ga_cl V (ga (1 - w) s)).2.1 = V.2.1 := rfl
    have k2 := k2 q
    have k3 := k3 q
    rw [← ha] at hs0 hs1 k2 k3
    have hc1 : (ga_cl V (ga (1 - w) s)).1 6 0 = nI c := (hf 6 0 (by omega)).trans hc
    have hsg1 : (ga_cl V (ga (1 - w) s)).1 1 0 = nI sg := (hf 1 0 (by omega)).trans hsg
    generalize ga_cl V (ga (1 - w) s) = V1 at hs0 hs1 k2 k3 hc1 hsg1 g0 g2 h22 ⊢
    refine xx_aload_n e_CG_makeDraft_25 rfl rfl ?_
    refine xh_getR e_CG_makeDraft_26 fg_CG_19 rfl rfl ?_
    refine xx_iload_n e_CG_makeDraft_29 rfl rfl ?_
    refine xx_iconst (v := 1) e_CG_makeDraft_30 (by decide) ?_
    refine xc_V2i e_CG_makeDraft_31 kv_CG_199 (xl_obj rfl) (t_G_codesWithNext (d := d + 10) hc1 h80) ?_
    refine xx_istore_n e_CG_makeDraft_34 rfl rfl ?_
    refine xx_aload_n e_CG_makeDraft_35 rfl rfl ?_
    refine xh_getR e_CG_makeDraft_36 fg_CG_19 rfl rfl ?_
    refine xx_iload_n e_CG_makeDraft_39 rfl rfl ?_
    refine xx_iconst (v := 0) e_CG_makeDraft_40 (by decide) ?_
    refine xc_V2i e_CG_makeDraft_41 kv_CG_199 (xl_obj rfl) (t_G_codesWithNext (d := d + 10) hc1 h80) ?_
    generalize g_cn V1 (nI s) 1 c = on at k2 k3
    generalize g_cn V1 (nI s) 0 c = off at k2 k3
    refine xx_istore_n e_CG_makeDraft_44 rfl rfl ?_
    refine xx_aload_n e_CG_makeDraft_45 rfl rfl ?_
    refine xh_getR e_CG_makeDraft_46 fg_CG_33 rfl rfl ?_
    refine xx_iload_n e_CG_makeDraft_49 rfl rfl ?_
    refine xx_iload_n e_CG_makeDraft_50 rfl rfl ?_
    refine xx_aload_n e_CG_makeDraft_51 rfl rfl ?_
    refine xh_getR e_CG_makeDraft_52 fg_CG_10 rfl rfl ?_
    refine xh_get e_CG_makeDraft_55 fg_CG_44 rfl rfl ?_
    rw [hsg1]
    refine xc_V3z e_CG_makeDraft_58 kv_CG_202 (xl_obj rfl) (t_L_find (V := V1) (d := d) (on := on) (off := off) (sg := sg) hbc h5 hs0 hs1 (fun U b' L hL u1 u2 u3 u4 u5 u6 => xk_i ?_))
    by_cases hb : b' < 900
    · rw [if_pos hb]
      refine xx_if_ne e_CG_makeDraft_61 (fun _ => ?_) (fun z => absurd z (by decide))
      have hex : ∃ D : List Nat, D.length ≤ 8 ∧ ∀ i, i < L.length → ¬ U.2.1 44 i = 0 → i ∈ D := by
        rcases u6.1 with ⟨z, -⟩ | ⟨D, z1, z2, z3⟩
        · have z : b' = 900 := z
          omega
        · refine ⟨D, z1.2.1, fun i hi hne => ?_⟩
          have e : U.2.1 44 i = l_lu (U.2.1 43) D i := z3 i hi
          have e0 := (u3 i _ (List.getElem?_eq_getElem hi)).2.2.2.2
          unfold l_lu at e
          by_cases hm : i ∈ D
          · exact hm
          · rw [if_neg hm, e0] at e
            exact absurd e hne
      obtain ⟨D, d1, d2⟩ := hex
      have hlen : (l_bp (l_pn L) (U.2.1 44) L.length).length ≤ 8 := Nat.le_trans (l_bp_D _ D d2) d1
      have h3 := x3 sg h5
      have hLl : L.length ≤ 243 := by rw [hL]; exact Nat.le_trans (l_cp_le _ _ _ _ _) h3
      have hpn : ∀ i, i < L.length → U.2.1 39 i = nI (l_pn L i) ∧ l_pn L i < 243 := fun i hi => by
        have e := List.getElem?_eq_getElem hi
        have e2 : l_pn L i = L[i] := by unfold l_pn; rw [e]; rfl
        rw [e2]
        have hm : L[i] ∈ l_cp (V1.2.1 46) on off sg (3 ^ sg) := by rw [← hL]; exact List.getElem_mem hi
        exact ⟨(u3 i _ e).1, Nat.lt_of_lt_of_le (l_cp_lt _ _ _ _ _ _ hm).1 h3⟩
      have hg0 : l_gt U (ga (1 - w) s) (ga (1 - w) s + 1) [] := by
        refine ⟨(u1.1 _ 0 (fun z => by have := z.1; omega)).trans g0, fun q a hq => (by cases hq), (u1.1 _ 2 (fun z => by have := z.1; omega)).trans g2⟩
      have hwU : U.2.2.1 15 s = some (ga (1 - w) s) := by rw [u1.2.2]; exact h22
      refine xx_aload_n e_CG_makeDraft_66 rfl rfl ?_
      refine xh_getR e_CG_makeDraft_67 fg_CG_33 rfl rfl ?_
      refine xx_aload_n e_CG_makeDraft_70 rfl rfl ?_
      refine xh_getR e_CG_makeDraft_71 fg_CG_26 rfl rfl ?_
      refine xh_getR e_CG_makeDraft_74 fg_CG_148 rfl rfl ?_
      refine xx_iload_n e_CG_makeDraft_77 rfl rfl ?_
      refine xh_aalN e_CG_makeDraft_78 rfl hs hwU ?_
      refine xc_V1z e_CG_makeDraft_79 kv_CG_206 (xl_obj rfl) (t_L_giveTo (V := U) (d := d + 10) (n := L.length) (pn := l_pn L) (ga_o hs hw1) (ga_n hs hw1) (by omega) (by omega) (by omega) (by omega) u2 hLl hpn hlen hg0 (fun W f1 f2 => xk_v ?_))
      refine xx_iconst (v := 1) e_CG_makeDraft_82 (by decide) ?_
      refine xx_iret e_CG_makeDraft_83 rfl rfl ?_
      exact k3 U W b' L hL u1 u3 hb u6 f1 f2
    · have hb9 : b' = 900 := by omega
      subst hb9
      rw [if_neg hb]
      refine xx_if_ne e_CG_makeDraft_61 (fun z => absurd rfl z) (fun _ => ?_)
      refine xx_iconst (v := 0) e_CG_makeDraft_64 (by decide) ?_
      refine xx_iret e_CG_makeDraft_65 rfl rfl ?_
      exact k2 U L hL u1 u3 u6
  · skip
    refine xx_iconst (v := 1) e_CG_makeDraft_23 (by decide) ?_
    refine xx_iret e_CG_makeDraft_24 rfl rfl ?_
    exact k1 q
end XCg2
