section XOps9
variable {S : Nat × (Nat → Int32)} {V W U : xl_V} {d : Nat} {e c : Nat}
theorem m_co_cg {s : Nat} {b : Int32} (h48 : W.2.1 48 = V.2.1 48) (h50 : W.2.1 50 = V.2.1 50) (h52 : W.2.1 52 = V.2.1 52) (h54 : W.2.1 54 = V.2.1 54) (h55 : W.2.1 55 = V.2.1 55) : ∀ k, m_co W e s b k = m_co V e s b k
  | 0 => rfl
  | k + 1 => by
    rw [m_co, m_co, m_co_cg h48 h50 h52 h54 h55 k]
    unfold m_nx
    rw [m_ex_cg h48 h50 h52 h54, h55]
/-- the codes of a level are one -/
theorem co_cn (hG : sG V e c) {s : Nat} (hs : s < 5) {b : Int32} : ∀ k, k ≤ c → g_cn V (nI s) b k = m_co V e s b k
  | 0, _ => rfl
  | k + 1, hk => by
    obtain ⟨q1, q2, q3, q4⟩ := hG.2.2.2.2.1 k (by omega)
    rw [g_cn, m_co, co_cn hG hs k (by omega)]
    have : g_nx V (nI s) k = m_nx V e s k := by
      unfold g_nx g_ex m_nx
      rw [q2, q4, xbit_sh _ (show s < 32 by omega), xbit_sh _ (show s < 32 by omega)]
      cases xbit (V.2.1 55 k) s <;> cases xbit (m_ex V k e) s <;> decide
    rw [this, q2]
    by_cases z : m_nx V e s k = b
    · rw [if_pos z, if_pos z]
    · rw [if_neg z, if_neg z, Int32.or_zero]
theorem k_lr_m {sg : Nat} {sp : Nat → Int32} {on off : Int32} {b' : Nat} {l : List Nat} (h : k_lr sg sp on off b' l) : ∀ q, q ∈ l → q < 3 ^ sg := by
  obtain ⟨L, cv, T, bar, B, B', hL, -, -, hl⟩ := h
  intro q hq
  rw [hl] at hq
  obtain ⟨i, hi, -, hp⟩ := (l_bp_m L.length).mp hq
  have hpn : L[i]? = some (l_pn L i) := by unfold l_pn; rw [List.getElem?_eq_getElem hi]; rfl
  have hm := List.mem_of_getElem? hpn
  rw [hp, hL] at hm
  exact (l_cp_lt sp on off sg _ q hm).1
/-- what makes drafts alone leaves the relation -/
theorem Sim_sf {n e p w : Nat} {G : Nat → List Nat} (hN : sN V n e p) (hV : sV V e) (hW : sW V n w G) (h : k_sf V W w) : sN W n e p ∧ sV W e ∧ sW W n w G := by
  have hw : w < 2 := hW.1.1
  have n5 := hN.1.2.2
  have g1 : ∀ s, s < 5 → 18 ≤ ga (1 - w) s ∧ ga (1 - w) s < 38 := fun s hs => by unfold ga; omega
  have c1 : ∀ a j, a < 13 → W.1 a j = V.1 a j := fun a j ha => h.1 a j (fun s hs => by have := g1 s hs; omega) (by omega)
  have c47 : ∀ j, W.1 47 j = V.1 47 j := fun j => h.1 47 j (fun s hs => by have := g1 s hs; omega) (by omega)
  have c2 : ∀ a, (a < 18 ∨ 45 < a) → W.2.1 a = V.2.1 a := fun a ha => h.2.1 a (fun s hs => by have := g1 s hs; omega) (by omega)
  have cg : ∀ s, s < 5 → (∀ j, W.1 (ga w s) j = V.1 (ga w s) j) ∧ W.2.1 (ga w s + 1) = V.2.1 (ga w s + 1) := fun s hs => by
    obtain ⟨l1, l2, l3⟩ := ga_lt hw hs
    refine ⟨fun j => h.1 _ j (fun q hq => ?_) (by omega), h.2.1 _ (fun q hq => ?_) (by omega)⟩
    · unfold ga; omega
    · unfold ga; omega
  refine ⟨sN_c2 c1 (fun j _ _ => c47 j) (fun a ha => c2 a (by omega)) hN, sV_c2 c1 (fun j _ _ => c47 j) (fun a ha => c2 a (by omega)) hV, ?_⟩
  obtain ⟨w1, w2, w3, w4⟩ := hW
  refine ⟨?_, by rw [c2 46 (by omega)]; exact w2, ?_, fun s hs => ⟨?_, (w4 s hs).2⟩⟩
  · unfold c_ok; rw [h.2.2]; exact w1
  · unfold m_go; rw [c2 57 (by omega), c2 58 (by omega)]; exact w3
  · obtain ⟨y1, y2⟩ := cg s (by omega)
    unfold l_gt
    rw [y1, y1, y2, c2 46 (by omega)]
    exact (w4 s hs).1
theorem op_11 (h : Sim V) : xX S 18 58 0 (xa_ent 3 [.ref 0]) [] V 1 6 (xpo (Jd [(eS, 1), (eU, 2)] (RK S Sim 19 131 4 [.ref 47]))) := by
  obtain ⟨n, e, p, w, G, hN, hV, hW⟩ := id h
  obtain ⟨n1, n2, n5⟩ := hN.1
  obtain ⟨e1, e2, e14⟩ := hN.2.1
  have ed := hN.2.2.2.2.2.2.2.1
  have hin := hN.2.2.2.2.2.1.1
  have hsg : ∀ t, t < e → vp_in (V.2.1 50 t) 5 := fun t ht => by
    obtain ⟨q1, ⟨s, q2, q3⟩, -⟩ := ed t ht
    rw [q1, q3]
    exact vp_in_nI (by omega) (by decide)
  by_cases hf : V.1 0 4 = 0
  · have hG : ∃ c, sG V e c := by
      rcases hV.2.2 with ⟨hv, -⟩ | ⟨v, c, -, -, hG⟩
      · rw [hf] at hv
        rcases hv with hv | hv <;> exact absurd hv (by decide)
      · exact ⟨c, hG⟩
    obtain ⟨c, hG⟩ := hG
    have h80 := hG.2.2.2.1
    have hw := hW.1.1
    have w2 := hW.2.1
    have hsp : ∀ q, q < 3 ^ n → V.2.1 46 q = p_cv n q := fun q hq => by rw [w2]; exact spf_cv n5 hq
    -- the reference from a state that differs from V in the drafts
    have refS : ∀ (X : xl_V) (w' : Nat) (H : Nat → List Nat), (∀ j, X.1 47 j = V.1 47 j) → (∀ a, 48 ≤ a → a < 59 → X.2.1 a = V.2.1 a) → ∀ (cd : Nat) (r : Option Int32),
        (∀ (X2 : xl_V) s l, m_yf (xl_i X 47 0 0) X2 → s < n → V.2.1 48 s = 0 → p_lr n (m_co V e s 1 c) (m_co V e s 0 c) 9 l → xpo (fun o V2 => ∃ b, o = .inl (some (.int b)) ∧ V2.1 47 0 = nI cd ∧ (∀ x, r = some x → b = x) ∧ Sim V2 ∧ V2.2.2.2 = X.2.2.2) (.inl (some (.int 0))) (xl_H xlay (xl_i X2 47 0 2))) →
        (∀ (X2 : xl_V) G' many gate, m_yf (xl_i X 47 0 0) X2 → (∀ s, s < n → m_yg V n e c s (G' s)) → m_gs G' many gate n → xpo (fun o V2 => ∃ b, o = .inl (some (.int b)) ∧ V2.1 47 0 = nI cd ∧ (∀ x, r = some x → b = x) ∧ Sim V2 ∧ V2.2.2.2 = X.2.2.2) (.inl (some (.int (nI (m_to2 G' n))))) (xl_H xlay (xl_a (xl_a X2 57 many) 58 gate))) →
        RK S Sim 19 131 4 [.ref 47] X cd r := by
      intro X w' H x1 x2 cd r k2 k3
      have ce : ∀ s b, m_co X e s b c = m_co V e s b c := fun s b => m_co_cg (x2 48 (by decide) (by decide)) (x2 50 (by decide) (by decide)) (x2 52 (by decide) (by decide)) (x2 54 (by decide) (by decide)) (x2 55 (by decide) (by decide)) c
      refine t_M_synthesise (S := S) (V := X) (d := 14) (c := c) (e := e) (sg := n) (by rw [x1]; exact hG.2.1) (by omega) (by rw [x1]; exact e2) e14 (by rw [x1]; exact n2) n5 (fun t ht => by rw [x2 50 (by decide) (by decide)]; exact hsg t ht) (fun z => ?_) (fun _ X2 s l a1 a2 a3 a4 => ?_) (fun _ X2 G' many gate a1 a2 a3 _ => ?_)
      · rw [x1, ← hV.1] at z; exact absurd hf z
      · rw [ce, ce] at a4
        rw [x2 48 (by decide) (by decide)] at a3
        exact k2 X2 s l a1 a2 a3 a4
      · refine k3 X2 G' many gate a1 (fun s hs => ?_) a3
        have := a2 s hs
        unfold m_yg at this ⊢
        rw [x2 48 (by decide) (by decide), ce, ce] at this
        exact this
    refine t_CG_synthesise (S := S) (d := 5) xBC_ok hf hW.1 hG.1 h80 n1 n5 (by rw [w2]; exact spf_0) (by rw [w2]; exact spf_1) (fun X s l l1 hsf hs hi hk => ?_) (fun X H hsf hH => ?_)
    · -- no sum: both refuse
      refine th_CG_synthesise_27 (mc := 0) (ms := 0) (by decide) ⟨X, rfl, Or.inr ⟨eU, 2, by decide, rfl, ?_⟩⟩
      obtain ⟨sn, sv, sw⟩ := Sim_sf hN hV hW hsf
      have hSX : Sim X := ⟨n, e, p, w, G, sn, sv, sw⟩
      have g1 : ∀ s, s < 5 → 18 ≤ ga (1 - w) s ∧ ga (1 - w) s < 38 := fun s hs => by unfold ga; omega
      refine refS X w G (fun j => hsf.1 47 j (fun s hs => by have := g1 s hs; omega) (by omega)) (fun a h1 h2 => hsf.2.1 a (fun s hs => by have := g1 s hs; omega) (by omega)) 2 none (fun X2 s' l' y1 _ _ _ => ?_) (fun X2 G' many gate y1 y2 y3 => ?_)
      · refine ⟨_, rfl, 0, rfl, rfl, fun x hx => (by cases hx), ?_, ?_⟩
        · refine Sim_cg (V := X) (fun a j hn h13 h38 => ?_) (fun a ha => ?_) ?_ hSX
          · show (if a = 47 ∧ j = 0 then 2 else X2.1 a j) = _
            rw [if_neg (fun z => hn ⟨z.1, Or.inl z.2⟩), y1.1 a j (fun z => hn ⟨z.1, by omega⟩)]
            show (if a = 47 ∧ j = 0 then 0 else X.1 a j) = _
            rw [if_neg (fun z => hn ⟨z.1, Or.inl z.2⟩)]
          · exact y1.2.1 a (Or.inl ha.1)
          · show X2.2.2.1 = _; rw [y1.2.2]; rfl
        · show X2.2.2.2 = _; rw [y1.2.2]; rfl
      · exfalso
        obtain ⟨z1, z2, -⟩ := y2 s hs
        have z3 := z2 (by rw [hin s hs]; exact hi)
        rw [co_cn hG (by omega) c (Nat.le_refl c), co_cn hG (by omega) c (Nat.le_refl c)] at hk
        by_cases h0 : m_co V e s 1 c = 0
        · have := (k_lr_0 z3 h0 hk).2.2.1
          omega
        · have := (k_lr_eq n5 hsp z3 h0 (by omega) hk (Nat.le_refl _)).1.mp z1
          omega
    · -- sums for all
      refine ⟨_, rfl, Or.inl ⟨_, rfl, fun f => ?_⟩⟩
      obtain ⟨sn, sv, sw⟩ := Sim_sf hN hV hW hsf
      have g1 : ∀ s, s < 5 → 18 ≤ ga (1 - w) s ∧ ga (1 - w) s < 38 := fun s hs => by unfold ga; omega
      have cad : ∀ k, (c_ad X w k).1 = X.1 ∧ (c_ad X w k).2.1 = X.2.1 ∧ (c_ad X w k).2.2.2 = X.2.2.2 := by
        intro k
        induction k with
        | zero => exact ⟨rfl, rfl, rfl⟩
        | succ k ih => exact ih
      obtain ⟨cd1, cd2, cd3⟩ := cad 5
      have cdo : c_ok (c_ad X w 5) (1 - w) := c_ad_ok sw.1
      generalize c_ad X w 5 = Y at cd1 cd2 cd3 cdo
      refine refS (xl_o Y f) w G (fun j => by show Y.1 47 j = _; rw [cd1]; exact hsf.1 47 j (fun s hs => by have := g1 s hs; omega) (by omega)) (fun a h1 h2 => by show Y.2.1 a = _; rw [cd2]; exact hsf.2.1 a (fun s hs => by have := g1 s hs; omega) (by omega)) 0 (some _) (fun X2 s' l' y1 y2 y3 y4 => ?_) (fun X2 G' many gate y1 y2 y3 => ?_)
      · exfalso
        have hi' : n_in V (nI s') = 0 := by rw [← hin s' y2]; exact y3
        obtain ⟨b', hb', hk⟩ := (hH s' y2).1.2.1 hi'
        rw [co_cn hG (by omega) c (Nat.le_refl c), co_cn hG (by omega) c (Nat.le_refl c)] at hk
        by_cases h0 : m_co V e s' 1 c = 0
        · have := (k_lr_0 y4 h0 hk).1
          omega
        · have := (k_lr_eq n5 hsp y4 h0 (by omega) hk (by omega)).1.mpr hb'
          omega
      · have hGH : ∀ s, s < n → G' s = H s := fun s hs => by
          obtain ⟨a1, a2, a3⟩ := y2 s hs
          obtain ⟨b1, b2, b3⟩ := (hH s hs).1
          by_cases hi : n_in V (nI s) = 0
          · obtain ⟨b', hb', hk⟩ := b2 hi
            have z3 := a2 (by rw [hin s hs]; exact hi)
            rw [co_cn hG (by omega) c (Nat.le_refl c), co_cn hG (by omega) c (Nat.le_refl c)] at hk
            by_cases h0 : m_co V e s 1 c = 0
            · obtain ⟨-, u1, -, u2⟩ := k_lr_0 z3 h0 hk
              rw [u1, u2]
            · exact ((k_lr_eq n5 hsp z3 h0 (by omega) hk (by omega)).2 a1).symm
          · rw [a3 (by rw [hin s hs]; exact hi), b3 hi]
        have hlt : ∀ s, s < n → ∀ q, q ∈ H s → q < 3 ^ n := fun s hs q hq => by
          by_cases hi : n_in V (nI s) = 0
          · obtain ⟨b', -, hk⟩ := (hH s hs).1.2.1 hi
            exact k_lr_m hk q hq
          · rw [(hH s hs).1.2.2 hi] at hq; cases hq
        have t1 : ∀ a j, ¬ (a = 47 ∧ (j = 0 ∨ 13 < j)) → X2.1 a j = X.1 a j := fun a j hn => by
          rw [y1.1 a j (fun z => hn ⟨z.1, by omega⟩)]
          show (if a = 47 ∧ j = 0 then 0 else Y.1 a j) = _
          rw [if_neg (fun z => hn ⟨z.1, Or.inl z.2⟩), cd1]
        have t2 : ∀ a, a < 59 → X2.2.1 a = X.2.1 a := fun a ha => by
          rw [y1.2.1 a (Or.inl ha)]
          show Y.2.1 a = _
          rw [cd2]
        have t3 : X2.2.2 = (xl_o Y f).2.2 := by rw [y1.2.2]; rfl
        have t0 : X2.1 47 0 = 0 := by rw [y1.1 47 0 (by decide)]; rfl
        refine ⟨_, rfl, _, rfl, t0, fun x hx => ?_, ?_, ?_⟩
        · rw [← Option.some.inj hx, m_to2_c n (fun q hq => (hGH q hq).symm)]
        · have s1 : ∀ a j, ¬ (a = 47 ∧ (j = 0 ∨ 13 < j)) → (xl_a (xl_a X2 57 many) 58 gate).1 a j = X.1 a j := t1
          have s2 : ∀ a, a < 57 → (xl_a (xl_a X2 57 many) 58 gate).2.1 a = X.2.1 a := fun a ha => by
            show xa_up (xa_up X2.2.1 57 many) 58 gate a = _
            rw [xa_up_n _ _ (by omega), xa_up_n _ _ (by omega), t2 a (by omega)]
          refine ⟨n, e, p, 1 - w, H, sN_c2 (fun a j ha => s1 a j (by omega)) (fun j h0 h13 => s1 47 j (by omega)) (fun a ha => s2 a (by omega)) sn, sV_c2 (fun a j ha => s1 a j (by omega)) (fun j h0 h13 => s1 47 j (by omega)) (fun a ha => s2 a (by omega)) sv, ?_, ?_, ⟨?_, fun s hs => ⟨?_, fun q hq => ?_⟩⟩, fun s hs => ⟨?_, hlt s hs⟩⟩
          · show c_ok X2 (1 - w)
            unfold c_ok; rw [t3]; exact cdo
          · rw [s2 46 (by decide)]; exact sw.2.1
          · show m_gs H many gate n
            intro q hq
            rw [← hGH q hq]
            exact y3 q hq
          · rw [← hGH s hs]; exact (y2 s hs).1
          · have h3n : 3 ^ n ≤ 3 ^ 5 := Nat.pow_le_pow_right (by decide) n5
            have := hlt s hs q hq
            omega
          · have hw1 : 1 - w < 2 := by omega
            obtain ⟨l1, l2, l3⟩ := ga_lt hw1 (show s < 5 by omega)
            have := (hH s hs).2
            unfold l_gt at this ⊢
            rw [s1 _ _ (by omega), s1 _ _ (by omega), s2 _ (by omega), s2 46 (by decide)]
            exact this
        · show X2.2.2.2 = _
          rw [t3]
  · refine cl_ex (t_CG_synthesise_e (d := 17) hf) (c := 1) (by decide) ?_
    have hcm : ∃ c, V.1 47 13 = nI c ∧ c ≤ 81 := by
      rcases hV.2.2 with ⟨-, -, h13⟩ | ⟨v, c, -, -, hG⟩
      · exact ⟨0, h13, by decide⟩
      · exact ⟨c, hG.2.1, by have := hG.2.2.2.1; omega⟩
    obtain ⟨c, hc, h81⟩ := hcm
    refine t_M_synthesise (S := S) (V := V) (d := 14) hc h81 e2 e14 n2 n5 hsg (fun _ => ?_) (fun z => absurd (hV.1.trans z) hf) (fun z => absurd (hV.1.trans z) hf)
    exact ⟨_, rfl, 0, rfl, rfl, fun x hx => (by cases hx), Sim_c0 h, rfl⟩
end XOps9
