/-! The class: synthesising. -/
section XCg3
variable {S : Nat × (Nat → Int32)} {V : xl_V} {d : Nat}
theorem g_cn_c {V W : xl_V} (h8 : W.2.1 8 = V.2.1 8) (h10 : W.2.1 10 = V.2.1 10) (s l : Int32) : ∀ k, g_cn W s l k = g_cn V s l k
  | 0 => rfl
  | k + 1 => by
    rw [g_cn, g_cn, g_cn_c h8 h10 s l k, h8]
    unfold g_nx g_ex
    rw [h8, h10]
/-- what the search leaves, with the cost b' and the primes of the best -/
def k_lr (sg : Nat) (sp : Nat → Int32) (on off : Int32) (b' : Nat) (l : List Nat) : Prop := ∃ (L : List Nat) (cv T bar B B' : Nat → Int32), L = l_cp sp on off sg (3 ^ sg) ∧ (∀ i p, L[i]? = some p → cv i = sp p &&& on ∧ bar i = 0 ∧ T i = 0) ∧ s_post L.length cv T bar (l_ct sg L) on 0 8 (900, B) (b', B') ∧ l = l_bp (l_pn L) B' L.length
def k_sf (V W : xl_V) (w : Nat) : Prop := (∀ a j, (∀ s, s < 5 → a ≠ ga (1 - w) s) → a ≠ 38 → W.1 a j = V.1 a j) ∧ (∀ a, (∀ s, s < 5 → a ≠ ga (1 - w) s + 1) → (a < 39 ∨ 45 < a) → W.2.1 a = V.2.1 a) ∧ W.2.2 = V.2.2
def k_yg (V : xl_V) (sg c s : Nat) (l : List Nat) : Prop := l.length ≤ 8 ∧ (n_in V (nI s) = 0 → ∃ b', b' < 900 ∧ k_lr sg (V.2.1 46) (g_cn V (nI s) 1 c) (g_cn V (nI s) 0 c) b' l) ∧ (¬ n_in V (nI s) = 0 → l = [])
theorem t_CG_synthesise (hbc : xBC S) {mc ms : Nat} {w c sg : Nat} {Q : xa_Q} (hfine : V.1 0 4 = 0) (hw : c_ok V w) (hc : V.1 6 0 = nI c) (h80 : c ≤ 80) (hsg : V.1 1 0 = nI sg) (h5 : sg ≤ 5) (hs0 : V.2.1 46 0 = 1) (hs1 : V.2.1 46 1 = 2)
    (kt : ∀ W s l l1, k_sf V W w → s < sg → n_in V (nI s) = 0 → k_lr sg (V.2.1 46) (g_cn V (nI s) 1 c) (g_cn V (nI s) 0 c) 900 l → xX S (d + 13) 58 27 [.ref 0, l1, .int (nI s)] [] W mc ms Q)
    (kk : ∀ W H, k_sf V W w → (∀ q, q < sg → k_yg V sg c q (H q) ∧ l_gt W (ga (1 - w) q) (ga (1 - w) q + 1) (H q)) → Q (.inl (some (.int (nI (m_to2 H sg))))) (xl_H xlay (c_ad W w 5))) :
    xX S (d + 13) 58 0 (xa_ent 3 [.ref 0]) [] V mc ms Q := by
  have hga : ∀ s, s < 5 → ga (1 - w) s < 38 ∧ 18 ≤ ga (1 - w) s := fun s hs => by have := hw.1; unfold ga; omega
  have hgi : ∀ s q, ga (1 - w) s = ga (1 - w) q → s = q := fun s q h => by unfold ga at h; omega
  have hgo : ∀ s q, s < 5 → q < 5 → ga (1 - w) s ≠ ga (1 - w) q + 1 := fun s q _ _ h => by have := hw.1; unfold ga at h; omega
  have loop : ∀ m s, sg - s = m → s ≤ sg → ∀ (W : xl_V) (H : Nat → List Nat), k_sf V W w → (∀ q, q < s → k_yg V sg c q (H q) ∧ l_gt W (ga (1 - w) q) (ga (1 - w) q + 1) (H q)) → xX S (d + 13) 58 8 [.ref 0, .int (nI (m_to2 H s)), .int (nI s)] [] W mc ms Q := by
    intro m
    induction m using Nat.strongRecOn with
    | ind m ih =>
      intro s hm hs W H wf wH
      have fld : ∀ a j, (a < 18 ∨ 38 < a) → W.1 a j = V.1 a j := fun a j ha => wf.1 a j (fun q hq z => by have := hga q hq; omega) (by omega)
      have arr : ∀ a, (a < 18 ∨ 45 < a) → W.2.1 a = V.2.1 a := fun a ha => wf.2.1 a (fun q hq z => by have := hga q hq; omega) (by omega)
      have hsgW : W.1 1 0 = nI sg := (fld 1 0 (by omega)).trans hsg
      have hcW : W.1 6 0 = nI c := (fld 6 0 (by omega)).trans hc
      have hwW : c_ok W w := ⟨hw.1, fun q hq => by rw [wf.2.2]; exact hw.2 q hq⟩
      have hniW : ∀ x, n_in W x = n_in V x := fun x => by unfold n_in; rw [fld 1 6 (by omega)]
      refine xx_iload_n e_CG_synthesise_8 rfl rfl ?_
      refine xx_aload_n e_CG_synthesise_9 rfl rfl ?_
      refine xh_getR e_CG_synthesise_10 fg_CG_10 rfl rfl ?_
      refine xh_get e_CG_synthesise_13 fg_CG_44 rfl rfl ?_
      refine xx_icmp_ge e_CG_synthesise_16 (fun q => ?_) (fun q => ?_)
      · have e1 : sg ≤ s := (xle hsgW rfl (by omega) (by omega)).mp q
        have e2 : s = sg := by omega
        subst e2
        refine xx_aload_n e_CG_synthesise_58 rfl rfl ?_
        refine xh_getR e_CG_synthesise_59 fg_CG_26 rfl rfl ?_
        refine xc_V0v e_CG_synthesise_62 kv_CG_155 (xl_obj rfl) (t_Ci_adoptDrafts (d := d + 12) hwW) ?_
        refine xx_iload_n e_CG_synthesise_65 rfl rfl ?_
        refine xx_iret e_CG_synthesise_66 rfl rfl ?_
        exact kk W H wf wH
      · have e1 : s < sg := Nat.lt_of_not_le (fun z => q ((xle hsgW rfl (by omega) (by omega)).mpr z))
        have hs5 : s < 5 := by omega
        have next : ∀ (U : xl_V) l, (∀ a j, a ≠ ga (1 - w) s → a ≠ 38 → U.1 a j = W.1 a j) → (∀ a, a ≠ ga (1 - w) s + 1 → (a < 39 ∨ 45 < a) → U.2.1 a = W.2.1 a) → U.2.2 = W.2.2 → k_yg V sg c s l → l_gt U (ga (1 - w) s) (ga (1 - w) s + 1) l → xX S (d + 13) 58 37 [.ref 0, .int (nI (m_to2 H s)), .int (nI s)] [] U mc ms Q := by
          intro U l u1 u2 u3 u4 u5
          let H' : Nat → List Nat := fun q => if q = s then l else H q
          have Hs : H' s = l := if_pos rfl
          have Hq : ∀ q, q < s → H' q = H q := fun q hq => if_neg (by omega)
          have hto : m_to2 H s + l.length = m_to2 H' (s + 1) := by
            show _ = m_to2 H' s + (H' s).length
            rw [m_to2_c s Hq, Hs]
          have hd15 : U.2.2.1 15 s = some (ga (1 - w) s) := by rw [u3]; exact (hwW.2 s hs5).2
          refine xx_iload_n e_CG_synthesise_37 rfl rfl ?_
          refine xx_aload_n e_CG_synthesise_38 rfl rfl ?_
          refine xh_getR e_CG_synthesise_39 fg_CG_26 rfl rfl ?_
          refine xh_getR e_CG_synthesise_42 fg_CG_148 rfl rfl ?_
          refine xx_iload_n e_CG_synthesise_45 rfl rfl ?_
          refine xh_aalN e_CG_synthesise_46 rfl hs5 hd15 ?_
          refine xh_get e_CG_synthesise_47 fg_CG_152 (ga_o hs5 (by omega)) rfl ?_
          refine xx_iadd e_CG_synthesise_50 ?_
          rw [u5.1, nI_add, hto]
          refine xx_istore_n e_CG_synthesise_51 rfl rfl ?_
          refine xh_incN e_CG_synthesise_52 rfl ?_
          refine xx_goto e_CG_synthesise_55 ?_
          refine ih (sg - (s + 1)) (by omega) (s + 1) rfl (by omega) U H' ⟨fun a j ha h38 => (u1 a j (ha s hs5) h38).trans (wf.1 a j ha h38), fun a ha h3 => (u2 a (ha s hs5) h3).trans (wf.2.1 a ha h3), u3.trans wf.2.2⟩ (fun q hq => ?_)
          rcases Nat.lt_or_ge q s with h | h
          · rw [Hq q h]
            obtain ⟨y1, y2⟩ := wH q h
            have hq5 : q < 5 := by omega
            have hgq := hga q hq5
            refine ⟨y1, ?_, ?_, ?_⟩
            · rw [u1 _ 0 (fun z => by have := hgi q s z; omega) (by omega)]; exact y2.1
            · rw [u2 _ (fun z => by have := hgi q s (by omega); omega) (by omega)]; exact y2.2.1
            · rw [u1 _ 2 (fun z => by have := hgi q s z; omega) (by omega), u2 46 (by have := hga s hs5; omega) (by omega)]; exact y2.2.2
          · rw [show q = s by omega, Hs]
            exact ⟨u4, u5⟩
        have hgs := hga s hs5
        have cl1 : ∀ a j, a ≠ ga (1 - w) s → (ga_cl W (ga (1 - w) s)).1 a j = W.1 a j := fun a j ha => by
          show (if a = ga (1 - w) s ∧ j = 2 then _ else if a = ga (1 - w) s ∧ j = 0 then _ else W.1 a j) = _
          rw [if_neg (fun z => ha z.1), if_neg (fun z => ha z.1)]
        have hgc : ∀ l, g_cn (ga_cl W (ga (1 - w) s)) (nI s) l c = g_cn V (nI s) l c := fun l => g_cn_c (V := V) (W := ga_cl W (ga (1 - w) s)) (arr 8 (by omega)) (arr 10 (by omega)) _ _ _
        have e46 : W.2.1 46 = V.2.1 46 := arr 46 (by omega)
        refine xx_aload_n e_CG_synthesise_19 rfl rfl ?_
        refine xx_iload_n e_CG_synthesise_20 rfl rfl ?_
        refine xc_V1z e_CG_synthesise_21 kv_CG_139 (xl_obj rfl) (t_CG_makeDraft (V := W) (d := d) (w := w) (s := s) (c := c) (sg := sg) hbc hwW hs5 hcW h80 hsgW h5 (by rw [e46]; exact hs0) (by rw [e46]; exact hs1) (fun hn => xk_i ?_) (fun hn U L hL f1 f2 f3 => xk_i ?_) (fun hn U X b' L hL f1 f2 hb f3 f4 f5 => xk_i ?_))
        · rw [hniW] at hn
          refine xx_if_ne e_CG_synthesise_24 (fun _ => ?_) (fun z => absurd z (by decide))
          refine next _ [] (fun a j ha _ => cl1 a j ha) (fun _ _ _ => rfl) rfl ⟨Nat.zero_le _, fun z => absurd z hn, fun _ => rfl⟩ ⟨?_, fun q a hq => (by cases hq), ?_⟩
          · show (if ga (1 - w) s = ga (1 - w) s ∧ 0 = 2 then _ else if ga (1 - w) s = ga (1 - w) s ∧ 0 = 0 then (0 : Int32) else _) = _
            rw [if_neg (fun z => absurd z.2 (by decide)), if_pos ⟨rfl, rfl⟩]
            rfl
          · show (if ga (1 - w) s = ga (1 - w) s ∧ 2 = 2 then (0 : Int32) else _) = _
            rw [if_pos ⟨rfl, rfl⟩]
            rfl
        · rw [hniW] at hn
          rw [hgc, hgc, e46] at hL
          rw [hgc, e46] at f2
          rw [hgc] at f3
          refine xx_if_ne e_CG_synthesise_24 (fun z => absurd rfl z) (fun _ => ?_)
          refine kt U s (l_bp (l_pn L) (U.2.1 44) L.length) _ ⟨fun a j ha h38 => (f1.1 a j (fun z => h38 z.1)).trans ((cl1 a j (ha s hs5)).trans (wf.1 a j ha h38)), fun a ha h3 => (f1.2.1 a h3).trans (wf.2.1 a ha h3), f1.2.2.trans wf.2.2⟩ e1 hn ⟨L, U.2.1 40, U.2.1 43, U.2.1 42, W.2.1 44, U.2.1 44, hL, fun i p hp => ⟨(f2 i p hp).2.1, (f2 i p hp).2.2.2.1, (f2 i p hp).2.2.2.2⟩, f3, rfl⟩
        · rw [hniW] at hn
          rw [hgc, hgc, e46] at hL
          rw [hgc, e46] at f2
          rw [hgc] at f3
          refine xx_if_ne e_CG_synthesise_24 (fun _ => ?_) (fun z => absurd z (by decide))
          have hlen : (l_bp (l_pn L) (U.2.1 44) L.length).length ≤ 8 := by
            rcases f3.1 with ⟨z, -⟩ | ⟨D, z1, z2, z3⟩
            · have z : b' = 900 := z
              omega
            · refine Nat.le_trans (l_bp_D _ D (fun i hi hne => ?_)) z1.2.1
              have e : U.2.1 44 i = l_lu (U.2.1 43) D i := z3 i hi
              have e0 := (f2 i _ (List.getElem?_eq_getElem hi)).2.2.2.2
              unfold l_lu at e
              by_cases hmm : i ∈ D
              · exact hmm
              · rw [if_neg hmm, e0] at e
                exact absurd e hne
          refine next X _ (fun a j ha h38 => ?_) (fun a ha h3 => ?_) (f4.2.2.trans f1.2.2) ⟨hlen, fun _ => ⟨b', hb, L, U.2.1 40, U.2.1 43, U.2.1 42, W.2.1 44, U.2.1 44, hL, fun i p hp => ⟨(f2 i p hp).2.1, (f2 i p hp).2.2.2.1, (f2 i p hp).2.2.2.2⟩, f3, rfl⟩, fun z => absurd hn z⟩ f5
          · exact (f4.1 a j (fun z => ha z.1)).trans ((f1.1 a j (fun z => h38 z.1)).trans (cl1 a j ha))
          · exact (f4.2.1 a ha).trans (f1.2.1 a h3)
  refine xx_aload_n e_CG_synthesise_0 rfl rfl ?_
  refine xc_V0v e_CG_synthesise_1 kv_CG_136 (xl_obj rfl) (t_CG_requireFine (d := d + 12) hfine) ?_
  refine xx_iconst (v := 0) e_CG_synthesise_4 (by decide) ?_
  refine xx_istore_n e_CG_synthesise_5 rfl rfl ?_
  refine xx_iconst (v := 0) e_CG_synthesise_6 (by decide) ?_
  refine xx_istore_n e_CG_synthesise_7 rfl rfl ?_
  exact loop _ 0 rfl (Nat.zero_le _) V (fun _ => []) ⟨fun _ _ _ _ => rfl, fun _ _ _ => rfl, rfl⟩ (fun q hq => absurd hq (Nat.not_lt_zero q))
end XCg3
