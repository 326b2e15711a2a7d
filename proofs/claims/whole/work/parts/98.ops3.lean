section XExpl
/-- one transition at one state: what it leaves -/
abbrev xEn (W : xl_V) (k t : Nat) : Prop := ¬ n_en W t (W.2.1 7 k) = 0
abbrev xSf (W : xl_V) (k t : Nat) : Prop := ¬ n_sf W t (W.2.1 7 k) = 0
abbrev xRt (W : xl_V) (k t : Nat) : Prop := ¬ n_rt W t (W.2.1 8 k) = 0
def xTo (W : xl_V) (c k t : Nat) : Option Nat := xfnd (g_is W (n_mk W t (W.2.1 7 k)) (n_cd W t (W.2.1 8 k))) c
/-- the net and all that isn't the graph's -/
def xFr (W W' : xl_V) : Prop := (∀ a j, a ≠ 6 → W'.1 a j = W.1 a j) ∧ (∀ a, a < 7 ∨ 12 < a → W'.2.1 a = W.2.1 a) ∧ W'.2.2 = W.2.2
def xNt (W W' : xl_V) (c k t : Nat) : Prop :=
  (∀ i, i ≠ k * 14 + t → W'.2.1 12 i = W.2.1 12 i) ∧ (∀ j, j ≠ k → j < c → W'.2.1 10 j = W.2.1 10 j ∧ W'.2.1 11 j = W.2.1 11 j) ∧
  (W'.2.1 10 k = if xEn W k t then (if n_in W (W.2.1 2 t) = 0 then W.2.1 10 k ||| ((1 : Int32) <<< (W.2.1 2 t &&& 31)) else W.2.1 10 k) else W.2.1 10 k) ∧ (W'.2.1 11 k = if xEn W k t then W.2.1 11 k ||| n_eb W t else W.2.1 11 k) ∧
  (W'.1 6 9 = if xEn W k t ∧ ¬ xSf W k t ∧ W.1 6 9 = -1 then nI k else W.1 6 9) ∧ (W'.1 6 10 = if xEn W k t ∧ ¬ xRt W k t ∧ W.1 6 10 = -1 then nI k else W.1 6 10)
def xSm (W W' : xl_V) : Prop := W'.1 6 0 = W.1 6 0 ∧ W'.2.1 7 = W.2.1 7 ∧ W'.2.1 8 = W.2.1 8 ∧ W'.2.1 9 = W.2.1 9
theorem xs_desc {W : xl_V} {c k t : Nat} (hc : W.1 6 0 = nI c) (hk : k < c) (h80 : c ≤ 80) : xFr W (g_xs W k t) ∧ xNt W (g_xs W k t) c k t ∧
    ((¬ (xEn W k t ∧ xSf W k t ∧ xRt W k t) ∧ xSm W (g_xs W k t) ∧ (g_xs W k t).1 6 8 = W.1 6 8 ∧ (g_xs W k t).2.1 12 (k * 14 + t) = -1) ∨
     ((xEn W k t ∧ xSf W k t ∧ xRt W k t) ∧ ((∃ i, xTo W c k t = some i ∧ xSm W (g_xs W k t) ∧ (g_xs W k t).1 6 8 = W.1 6 8 ∧ (g_xs W k t).2.1 12 (k * 14 + t) = nI i) ∨
       (xTo W c k t = none ∧ c < 80 ∧ (g_xs W k t).1 6 0 = nI (c + 1) ∧ (g_xs W k t).1 6 8 = W.1 6 8 ∧ (g_xs W k t).2.1 7 = upd (W.2.1 7) c (n_mk W t (W.2.1 7 k)) ∧ (g_xs W k t).2.1 8 = upd (W.2.1 8) c (n_cd W t (W.2.1 8 k)) ∧ (g_xs W k t).2.1 9 = upd (W.2.1 9) c (nI (100 * k + t)) ∧
         (g_xs W k t).2.1 10 c = 0 ∧ (g_xs W k t).2.1 11 c = 0 ∧ (g_xs W k t).2.1 12 (k * 14 + t) = nI c) ∨
       (xTo W c k t = none ∧ c = 80 ∧ (g_xs W k t).1 6 8 = 1 ∧ xSm W (g_xs W k t))))) := by
  have n0 : ∀ X : xl_V, X = xl_a W 12 (upd (W.2.1 12) (k * 14 + t) (-1)) → X.1 = W.1 ∧ X.2.1 12 = upd (W.2.1 12) (k * 14 + t) (-1) ∧ (∀ a, a ≠ 12 → X.2.1 a = W.2.1 a) ∧ X.2.2 = W.2.2 := fun X e => by
    subst e; exact ⟨rfl, rfl, fun a ha => xa_up_n _ _ ha, rfl⟩
  by_cases en : n_en W t (W.2.1 7 k) = 0
  · have e1 : g_xs W k t = xl_a W 12 (upd (W.2.1 12) (k * 14 + t) (-1)) := by unfold g_xs; rw [if_pos en]
    obtain ⟨x1, x2, x3, x4⟩ := n0 _ e1
    have nE : ¬ xEn W k t := fun z => z en
    refine ⟨⟨fun a j _ => by rw [x1], fun a ha => x3 a (by omega), x4⟩, ⟨fun i hi => by rw [x2, pk_un hi], fun j _ _ => ⟨by rw [x3 10 (by decide)], by rw [x3 11 (by decide)]⟩, ?_, ?_, ?_, ?_⟩, Or.inl ⟨fun z => nE z.1, ⟨by rw [x1], x3 7 (by decide), x3 8 (by decide), x3 9 (by decide)⟩, by rw [x1], by rw [x2, pk_us]⟩⟩
    · rw [if_neg nE, x3 10 (by decide)]
    · rw [if_neg nE, x3 11 (by decide)]
    · rw [if_neg (fun z => nE z.1), x1]
    · rw [if_neg (fun z => nE z.1), x1]
  · -- noted
    have n1 : ∀ X : xl_V, X = g_ne (xl_a W 12 (upd (W.2.1 12) (k * 14 + t) (-1))) k t → X.1 = W.1 ∧ X.2.1 12 = upd (W.2.1 12) (k * 14 + t) (-1) ∧ (∀ a, a ≠ 10 → a ≠ 11 → a ≠ 12 → X.2.1 a = W.2.1 a) ∧ X.2.2 = W.2.2 ∧
        X.2.1 11 = upd (W.2.1 11) k (W.2.1 11 k ||| n_eb W t) ∧ X.2.1 10 = (if n_in W (W.2.1 2 t) = 0 then upd (W.2.1 10) k (W.2.1 10 k ||| ((1 : Int32) <<< (W.2.1 2 t &&& 31))) else W.2.1 10) := fun X e => by
      refine ⟨by rw [e, g_ne_1]; rfl, by rw [e, g_ne_a _ _ _ (by decide) (by decide)]; rfl, fun a h1 h2 h3 => by rw [e, g_ne_a _ _ _ h1 h2]; exact xa_up_n _ _ h3, ?_, ?_, ?_⟩
      · rw [e]; unfold g_ne; split <;> rfl
      · rw [e]; unfold g_ne; split <;> rfl
      · rw [e]
        unfold g_ne
        by_cases z : n_in W (W.2.1 2 t) = 0
        · rw [if_pos z]
          rw [if_pos (show n_in (xl_a W 12 (upd (W.2.1 12) (k * 14 + t) (-1))) ((xl_a W 12 (upd (W.2.1 12) (k * 14 + t) (-1))).2.1 2 t) = 0 from z)]
          rfl
        · rw [if_neg z]
          rw [if_neg (show ¬ n_in (xl_a W 12 (upd (W.2.1 12) (k * 14 + t) (-1))) ((xl_a W 12 (upd (W.2.1 12) (k * 14 + t) (-1))).2.1 2 t) = 0 from z)]
          rfl
    generalize hX : g_ne (xl_a W 12 (upd (W.2.1 12) (k * 14 + t) (-1))) k t = X at n1
    obtain ⟨x1, x2, x3, x4, x5, x6⟩ := n1 X rfl
    -- what a state that differs from X in the field 6 alone has of the notes
    have note : ∀ Y : xl_V, (∀ a j, a ≠ 6 → Y.1 a j = W.1 a j) → (∀ a, a ≠ 7 → a ≠ 8 → a ≠ 9 → a ≠ 10 → a ≠ 11 → a ≠ 12 → Y.2.1 a = X.2.1 a) → Y.2.2 = X.2.2 → (∀ i, i ≠ k * 14 + t → Y.2.1 12 i = X.2.1 12 i) → (∀ j, j < c → Y.2.1 10 j = X.2.1 10 j ∧ Y.2.1 11 j = X.2.1 11 j) →
        Y.1 6 9 = (if ¬ xSf W k t ∧ W.1 6 9 = -1 then nI k else W.1 6 9) → Y.1 6 10 = (if ¬ xRt W k t ∧ W.1 6 10 = -1 then nI k else W.1 6 10) → xFr W Y ∧ xNt W Y c k t := by
      intro Y y1 y2 y3 y4 y5 y6 y7
      refine ⟨⟨y1, fun a ha => (y2 a (by omega) (by omega) (by omega) (by omega) (by omega) (by omega)).trans (x3 a (by omega) (by omega) (by omega)), y3.trans x4⟩, fun i hi => ?_, fun j hj hjc => ?_, ?_, ?_, ?_, ?_⟩
      · rw [y4 i hi, x2, pk_un hi]
      · refine ⟨?_, ?_⟩
        · rw [(y5 j hjc).1, x6]
          split
          · rw [pk_un hj]
          · rfl
        · rw [(y5 j hjc).2, x5, pk_un hj]
      · rw [(y5 k hk).1, x6, if_pos en]
        split
        · rw [pk_us]
        · rfl
      · rw [(y5 k hk).2, x5, if_pos en, pk_us]
      · rw [y6]
        by_cases z : ¬ xSf W k t ∧ W.1 6 9 = -1
        · rw [if_pos z, if_pos ⟨en, z⟩]
        · rw [if_neg z, if_neg (fun q => z q.2)]
      · rw [y7]
        by_cases z : ¬ xRt W k t ∧ W.1 6 10 = -1
        · rw [if_pos z, if_pos ⟨en, z⟩]
        · rw [if_neg z, if_neg (fun q => z q.2)]
    have nu : ∀ Y : xl_V, (g_nu Y k).2 = Y.2 ∧ (∀ a j, ¬ (a = 6 ∧ j = 9) → (g_nu Y k).1 a j = Y.1 a j) ∧ (g_nu Y k).1 6 9 = if Y.1 6 9 = -1 then nI k else Y.1 6 9 := fun Y => by
      unfold g_nu
      by_cases z : Y.1 6 9 = -1
      · rw [if_pos z, if_pos z]
        refine ⟨rfl, fun a j h => ?_, rfl⟩
        show (if a = 6 ∧ j = 9 then _ else _) = _
        rw [if_neg h]
      · rw [if_neg z, if_neg z]; exact ⟨rfl, fun _ _ _ => rfl, rfl⟩
    have nw : ∀ Y : xl_V, (g_nw Y k).2 = Y.2 ∧ (∀ a j, ¬ (a = 6 ∧ j = 10) → (g_nw Y k).1 a j = Y.1 a j) ∧ (g_nw Y k).1 6 10 = if Y.1 6 10 = -1 then nI k else Y.1 6 10 := fun Y => by
      unfold g_nw
      by_cases z : Y.1 6 10 = -1
      · rw [if_pos z, if_pos z]
        refine ⟨rfl, fun a j h => ?_, rfl⟩
        show (if a = 6 ∧ j = 10 then _ else _) = _
        rw [if_neg h]
      · rw [if_neg z, if_neg z]; exact ⟨rfl, fun _ _ _ => rfl, rfl⟩
    by_cases sf : n_sf W t (W.2.1 7 k) = 0
    · have nS : ¬ xSf W k t := fun z => z sf
      by_cases rt : n_rt W t (W.2.1 8 k) = 0
      · have nR : ¬ xRt W k t := fun z => z rt
        have e1 : g_xs W k t = g_nw (g_nu X k) k := by unfold g_xs; rw [if_neg en, if_pos sf, if_pos rt, hX]
        rw [e1]
        obtain ⟨u1, u2, u3⟩ := nu X
        obtain ⟨v1, v2, v3⟩ := nw (g_nu X k)
        have e2 : (g_nw (g_nu X k) k).2 = X.2 := v1.trans u1
        have e3 : ∀ a j, ¬ (a = 6 ∧ (j = 9 ∨ j = 10)) → (g_nw (g_nu X k) k).1 a j = W.1 a j := fun a j h => by rw [v2 a j (fun z => h ⟨z.1, Or.inr z.2⟩), u2 a j (fun z => h ⟨z.1, Or.inl z.2⟩), x1]
        have nt := note (g_nw (g_nu X k) k) (fun a j h => e3 a j (fun z => h z.1)) (fun a _ _ _ _ _ _ => by rw [e2]) (by rw [e2]) (fun i _ => by rw [e2]) (fun j _ => by rw [e2]; exact ⟨rfl, rfl⟩)
          (by rw [v2 6 9 (by decide), u3, x1]; by_cases z : W.1 6 9 = -1
              · rw [if_pos z, if_pos ⟨nS, z⟩]
              · rw [if_neg z, if_neg (fun q => z q.2)])
          (by rw [v3, u2 6 10 (by decide), x1]; by_cases z : W.1 6 10 = -1
              · rw [if_pos z, if_pos ⟨nR, z⟩]
              · rw [if_neg z, if_neg (fun q => z q.2)])
        exact ⟨nt.1, nt.2, Or.inl ⟨fun z => nS z.2.1, ⟨e3 6 0 (by decide), by rw [e2]; exact x3 7 (by decide) (by decide) (by decide), by rw [e2]; exact x3 8 (by decide) (by decide) (by decide), by rw [e2]; exact x3 9 (by decide) (by decide) (by decide)⟩, e3 6 8 (by decide), by rw [e2, x2, pk_us]⟩⟩
      · have e1 : g_xs W k t = g_nu X k := by unfold g_xs; rw [if_neg en, if_pos sf, if_neg rt, hX]
        rw [e1]
        obtain ⟨e2, u2, u3⟩ := nu X
        have e3 : ∀ a j, ¬ (a = 6 ∧ j = 9) → (g_nu X k).1 a j = W.1 a j := fun a j h => by rw [u2 a j h, x1]
        have nt := note (g_nu X k) (fun a j h => e3 a j (fun z => h z.1)) (fun a _ _ _ _ _ _ => by rw [e2]) (by rw [e2]) (fun i _ => by rw [e2]) (fun j _ => by rw [e2]; exact ⟨rfl, rfl⟩)
          (by rw [u3, x1]; by_cases z : W.1 6 9 = -1
              · rw [if_pos z, if_pos ⟨nS, z⟩]
              · rw [if_neg z, if_neg (fun q => z q.2)])
          (by rw [e3 6 10 (by decide), if_neg (fun q => q.1 rt)])
        exact ⟨nt.1, nt.2, Or.inl ⟨fun z => nS z.2.1, ⟨e3 6 0 (by decide), by rw [e2]; exact x3 7 (by decide) (by decide) (by decide), by rw [e2]; exact x3 8 (by decide) (by decide) (by decide), by rw [e2]; exact x3 9 (by decide) (by decide) (by decide)⟩, e3 6 8 (by decide), by rw [e2, x2, pk_us]⟩⟩
    · by_cases rt : n_rt W t (W.2.1 8 k) = 0
      · have nR : ¬ xRt W k t := fun z => z rt
        have e1 : g_xs W k t = g_nw X k := by unfold g_xs; rw [if_neg en, if_neg sf, if_pos rt, hX]
        rw [e1]
        obtain ⟨e2, u2, u3⟩ := nw X
        have e3 : ∀ a j, ¬ (a = 6 ∧ j = 10) → (g_nw X k).1 a j = W.1 a j := fun a j h => by rw [u2 a j h, x1]
        have nt := note (g_nw X k) (fun a j h => e3 a j (fun z => h z.1)) (fun a _ _ _ _ _ _ => by rw [e2]) (by rw [e2]) (fun i _ => by rw [e2]) (fun j _ => by rw [e2]; exact ⟨rfl, rfl⟩)
          (by rw [e3 6 9 (by decide), if_neg (fun q => q.1 sf)])
          (by rw [u3, x1]; by_cases z : W.1 6 10 = -1
              · rw [if_pos z, if_pos ⟨nR, z⟩]
              · rw [if_neg z, if_neg (fun q => z q.2)])
        exact ⟨nt.1, nt.2, Or.inl ⟨fun z => nR z.2.2, ⟨e3 6 0 (by decide), by rw [e2]; exact x3 7 (by decide) (by decide) (by decide), by rw [e2]; exact x3 8 (by decide) (by decide) (by decide), by rw [e2]; exact x3 9 (by decide) (by decide) (by decide)⟩, e3 6 8 (by decide), by rw [e2, x2, pk_us]⟩⟩
      · have e1 : g_xs W k t = g_x2 X k t := by unfold g_xs; rw [if_neg en, if_neg sf, if_neg rt, hX]
        have hcX : X.1 6 0 = nI c := by rw [x1]; exact hc
        have hct : g_ct X = c := by unfold g_ct; rw [hcX]; exact nI_clamp (xn31 (by omega))
        have x7 := x3 7 (by decide) (by decide) (by decide)
        have x8 := x3 8 (by decide) (by decide) (by decide)
        have x9 := x3 9 (by decide) (by decide) (by decide)
        have mkE : n_mk X t (X.2.1 7 k) = n_mk W t (W.2.1 7 k) := by unfold n_mk; rw [x7, x3 4 (by decide) (by decide) (by decide), x3 5 (by decide) (by decide) (by decide)]
        have cdE : n_cd X t (X.2.1 8 k) = n_cd W t (W.2.1 8 k) := by unfold n_cd; rw [x8, x3 3 (by decide) (by decide) (by decide), x3 2 (by decide) (by decide) (by decide)]
        have isE : ∀ m q, g_is X m q = g_is W m q := fun m q => by funext j; unfold g_is; rw [x7, x8]
        have toE : xfnd (g_is X (n_mk X t (X.2.1 7 k)) (n_cd X t (X.2.1 8 k))) c = xTo W c k t := by rw [mkE, cdE, isE]; rfl
        rw [e1]
        unfold g_x2
        rw [hct]
        unfold g_fi
        rw [toE]
        cases hto : xTo W c k t with
        | some i =>
          dsimp only
          have nt := note (xl_a X 12 (upd (X.2.1 12) (k * 14 + t) (nI i))) (fun a j _ => by show X.1 a j = _; rw [x1]) (fun a _ _ _ _ _ h => xa_up_n _ _ h) rfl (fun q hq => by show upd (X.2.1 12) (k * 14 + t) (nI i) q = _; rw [pk_un hq]) (fun j _ => ⟨rfl, rfl⟩)
            (by show X.1 6 9 = _; rw [x1, if_neg (fun q => q.1 sf)]) (by show X.1 6 10 = _; rw [x1, if_neg (fun q => q.1 rt)])
          exact ⟨nt.1, nt.2, Or.inr ⟨⟨en, sf, rt⟩, Or.inl ⟨i, rfl, ⟨by show X.1 6 0 = _; rw [x1], x7, x8, x9⟩, by show X.1 6 8 = _; rw [x1], by show upd (X.2.1 12) (k * 14 + t) (nI i) (k * 14 + t) = _; rw [pk_us]⟩⟩⟩
        | none =>
          dsimp only
          by_cases h8 : 80 ≤ c
          · simp only [if_pos h8]
            have nt := note (xl_a (xl_i X 6 8 1) 12 (upd (X.2.1 12) (k * 14 + t) (-1))) (fun a j h => by show (if a = 6 ∧ j = 8 then _ else X.1 a j) = _; rw [if_neg (fun z => h z.1), x1]) (fun a _ _ _ _ _ h => xa_up_n _ _ h) rfl (fun q hq => by show upd (X.2.1 12) (k * 14 + t) (-1) q = _; rw [pk_un hq]) (fun j _ => ⟨rfl, rfl⟩)
              (by show X.1 6 9 = _; rw [x1, if_neg (fun q => q.1 sf)]) (by show X.1 6 10 = _; rw [x1, if_neg (fun q => q.1 rt)])
            exact ⟨nt.1, nt.2, Or.inr ⟨⟨en, sf, rt⟩, Or.inr (Or.inr ⟨trivial, by omega, rfl, by show X.1 6 0 = _; rw [x1], x7, x8, x9⟩)⟩⟩
          · simp only [if_neg h8]
            rw [mkE, cdE]
            have hkc : k ≠ c := by omega
            have nt := note (xl_a (g_ad X c (n_mk W t (W.2.1 7 k)) (n_cd W t (W.2.1 8 k)) (nI (100 * k + t))) 12 (upd (X.2.1 12) (k * 14 + t) (nI c))) (fun a j h => by show (if a = 6 ∧ j = 0 then _ else X.1 a j) = _; rw [if_neg (fun z => h z.1), x1]) (fun a h1 h2 h3 h4 h5 h6 => by
                show xa_up (xa_up (xa_up (xa_up (xa_up (xa_up X.2.1 7 _) 8 _) 9 _) 10 _) 11 _) 12 _ a = _
                rw [xa_up_n _ _ h6, xa_up_n _ _ h5, xa_up_n _ _ h4, xa_up_n _ _ h3, xa_up_n _ _ h2, xa_up_n _ _ h1]) rfl (fun q hq => by show upd (X.2.1 12) (k * 14 + t) (nI c) q = _; rw [pk_un hq]) (fun j hj => ⟨by show upd (X.2.1 10) c 0 j = _; rw [pk_un (by omega)], by show upd (X.2.1 11) c 0 j = _; rw [pk_un (by omega)]⟩)
              (by show X.1 6 9 = _; rw [x1, if_neg (fun q => q.1 sf)]) (by show X.1 6 10 = _; rw [x1, if_neg (fun q => q.1 rt)])
            refine ⟨nt.1, nt.2, Or.inr ⟨⟨en, sf, rt⟩, Or.inr (Or.inl ⟨trivial, by omega, rfl, by show X.1 6 8 = _; rw [x1], ?_, ?_, ?_, ?_, ?_, ?_⟩)⟩⟩
            · show upd (X.2.1 7) c _ = _; rw [x7]
            · show upd (X.2.1 8) c _ = _; rw [x8]
            · show upd (X.2.1 9) c _ = _; rw [x9]
            · show upd (X.2.1 10) c 0 c = 0; rw [pk_us]
            · show upd (X.2.1 11) c 0 c = 0; rw [pk_us]
            · show upd (X.2.1 12) (k * 14 + t) (nI c) (k * 14 + t) = _; rw [pk_us]
end XExpl
section XExpl2
theorem xfnd_cg {p q : Nat → Bool} : ∀ n, (∀ j, j < n → p j = q j) → xfnd p n = xfnd q n
  | 0, _ => rfl
  | n + 1, h => by
    unfold xfnd
    rw [xfnd_cg n (fun j hj => h j (by omega)), h n (by omega)]
def cEX (W : xl_V) (j : Nat) : Nat → Int32
  | 0 => 0
  | t + 1 => if xEn W j t then (if n_in W (W.2.1 2 t) = 0 then cEX W j t ||| ((1 : Int32) <<< (W.2.1 2 t &&& 31)) else cEX W j t) else cEX W j t
def cEE (W : xl_V) (j : Nat) : Nat → Int32
  | 0 => 0
  | t + 1 => if xEn W j t then cEE W j t ||| n_eb W t else cEE W j t
abbrev xOk (W : xl_V) (j u : Nat) : Prop := xEn W j u ∧ xSf W j u ∧ xRt W j u
def cSC (W : xl_V) (c j u : Nat) : Int32 := if xOk W j u then g_io (xTo W c j u) else -1
/-- how many transitions of state j have been looked at -/
def xT (e k t j : Nat) : Nat := if j < k then e else if j = k then t else 0
def xP4 (v : Int32) (bad : Nat → Nat → Prop) (e k t : Nat) : Prop := (v = -1 ∧ ∀ j u, u < xT e k t j → ¬ bad j u) ∨ ∃ j u, v = nI j ∧ u < xT e k t j ∧ bad j u ∧ ∀ i, i < j → ∀ u, u < xT e k t i → ¬ bad i u
def xI (W : xl_V) (e k t c : Nat) : Prop := W.1 6 0 = nI c ∧ c ≤ 80 ∧ W.1 6 8 = 0 ∧ (∀ j, j < c → W.2.1 10 j = cEX W j (xT e k t j) ∧ W.2.1 11 j = cEE W j (xT e k t j)) ∧
  (∀ j u, j < c → u < xT e k t j → W.2.1 12 (j * 14 + u) = cSC W c j u ∧ (xOk W j u → ∃ i, xTo W c j u = some i)) ∧
  xP4 (W.1 6 9) (fun j u => j < c ∧ xEn W j u ∧ ¬ xSf W j u) e k t ∧ xP4 (W.1 6 10) (fun j u => j < c ∧ xEn W j u ∧ ¬ xRt W j u) e k t
/-- the same states -/
def xR (W U : xl_V) (c : Nat) : Prop := U.1 47 13 = nI c ∧ ∀ j, j < c → W.2.1 7 j = U.2.1 54 j ∧ W.2.1 8 j = U.2.1 55 j ∧ W.2.1 9 j = U.2.1 56 j
/-- the same net -/
def xE (W U : xl_V) (e : Nat) : Prop := ∀ t, t < e → U.2.1 50 t = W.2.1 2 t ∧ U.2.1 51 t = W.2.1 3 t ∧ U.2.1 52 t = W.2.1 4 t ∧ U.2.1 53 t = W.2.1 5 t ∧ ∃ s, s < 5 ∧ W.2.1 2 t = nI s
section
variable {W W' U : xl_V} {e k t c : Nat}
theorem x_en (f : xFr W W') {j u : Nat} (h7 : W'.2.1 7 j = W.2.1 7 j) : n_en W' u (W'.2.1 7 j) = n_en W u (W.2.1 7 j) := by unfold n_en; rw [h7, f.2.1 4 (by omega)]
theorem x_sf (f : xFr W W') {j u : Nat} (h7 : W'.2.1 7 j = W.2.1 7 j) : n_sf W' u (W'.2.1 7 j) = n_sf W u (W.2.1 7 j) := by unfold n_sf; rw [h7, f.2.1 4 (by omega), f.2.1 5 (by omega)]
theorem x_rt (f : xFr W W') {j u : Nat} (h8 : W'.2.1 8 j = W.2.1 8 j) : n_rt W' u (W'.2.1 8 j) = n_rt W u (W.2.1 8 j) := by unfold n_rt n_lv; rw [h8, f.2.1 2 (by omega), f.2.1 3 (by omega)]
theorem x_mk (f : xFr W W') {j u : Nat} (h7 : W'.2.1 7 j = W.2.1 7 j) : n_mk W' u (W'.2.1 7 j) = n_mk W u (W.2.1 7 j) := by unfold n_mk; rw [h7, f.2.1 4 (by omega), f.2.1 5 (by omega)]
theorem x_cd (f : xFr W W') {j u : Nat} (h8 : W'.2.1 8 j = W.2.1 8 j) : n_cd W' u (W'.2.1 8 j) = n_cd W u (W.2.1 8 j) := by unfold n_cd; rw [h8, f.2.1 2 (by omega), f.2.1 3 (by omega)]
theorem x_in (f : xFr W W') (s : Int32) : n_in W' s = n_in W s := by unfold n_in; rw [f.1 1 6 (by decide)]
theorem x_eb (f : xFr W W') (u : Nat) : n_eb W' u = n_eb W u := by unfold n_eb n_lv; rw [f.2.1 2 (by omega), f.2.1 3 (by omega)]
theorem cEX_cg (f : xFr W W') {j : Nat} (h7 : W'.2.1 7 j = W.2.1 7 j) : ∀ x, cEX W' j x = cEX W j x
  | 0 => rfl
  | x + 1 => by
    unfold cEX xEn
    rw [cEX_cg f h7 x, x_en f h7, f.2.1 2 (by omega), x_in f]
theorem cEE_cg (f : xFr W W') {j : Nat} (h7 : W'.2.1 7 j = W.2.1 7 j) : ∀ x, cEE W' j x = cEE W j x
  | 0 => rfl
  | x + 1 => by
    unfold cEE xEn
    rw [cEE_cg f h7 x, x_en f h7, x_eb f]
theorem xOk_cg (f : xFr W W') {j u : Nat} (h7 : W'.2.1 7 j = W.2.1 7 j) (h8 : W'.2.1 8 j = W.2.1 8 j) : xOk W' j u ↔ xOk W j u := by unfold xOk xEn xSf xRt; rw [x_en f h7, x_sf f h7, x_rt f h8]
theorem xTo_ext (f : xFr W W') {c c' j u i : Nat} (hcc : c ≤ c') (h7 : ∀ i, i < c → W'.2.1 7 i = W.2.1 7 i) (h8 : ∀ i, i < c → W'.2.1 8 i = W.2.1 8 i) (hj : j < c) (h : xTo W c j u = some i) : xTo W' c' j u = some i := by
  unfold xTo at h ⊢
  rw [x_mk f (h7 j hj), x_cd f (h8 j hj)]
  obtain ⟨a1, a2, a3⟩ := xfnd_s h
  refine xfnd_i (by omega) ?_ (fun q hq => ?_)
  · have := a2; unfold g_is at this ⊢; rw [h7 i a1, h8 i a1]; exact this
  · have := a3 q hq; unfold g_is at this ⊢; rw [h7 q (by omega), h8 q (by omega)]; exact this
theorem xT_s {e k t j : Nat} (h : j ≠ k) : xT e k (t + 1) j = xT e k t j := by unfold xT; rw [if_neg h, if_neg h]
theorem xT_k {e k t : Nat} : xT e k t k = t := by unfold xT; rw [if_neg (Nat.lt_irrefl k), if_pos rfl]
theorem xT_lt {e k t j : Nat} (h : j < k) : xT e k t j = e := by unfold xT; rw [if_pos h]
theorem xT_gt {e k t j : Nat} (h : k < j) : xT e k t j = 0 := by unfold xT; rw [if_neg (by omega), if_neg (by omega)]
theorem xT_u {e k t j u : Nat} (ht : t < e) (h : u < xT e k t j) : u < e := by
  unfold xT at h
  split at h
  · exact h
  · split at h
    · omega
    · omega
theorem xP4_step {v v' : Int32} {bad bad' : Nat → Nat → Prop} {e k t : Nat} (h : xP4 v bad e k t) (hb : ∀ j u, j ≤ k → (bad' j u ↔ bad j u)) (hv : (bad k t ∧ v = -1 ∧ v' = nI k) ∨ (¬ (bad k t ∧ v = -1) ∧ v' = v)) (hk : k < 100) : xP4 v' bad' e k (t + 1) := by
  have tr : ∀ j u, u < xT e k (t + 1) j → (u < xT e k t j ∨ (j = k ∧ u = t)) ∧ j ≤ k := fun j u hu => by
    by_cases z : j = k
    · subst z; rw [xT_k] at hu ⊢; exact ⟨by omega, Nat.le_refl _⟩
    · rw [xT_s z] at hu
      refine ⟨Or.inl hu, ?_⟩
      unfold xT at hu
      split at hu
      · omega
      · first | omega | (split at hu <;> omega)
  have up : ∀ j u, u < xT e k t j → u < xT e k (t + 1) j := fun j u hu => by
    by_cases z : j = k
    · subst z; rw [xT_k] at hu ⊢; omega
    · rw [xT_s z]; exact hu
  rcases hv with ⟨b1, b2, b3⟩ | ⟨b1, b2⟩
  · rcases h with ⟨h1, h2⟩ | ⟨j, u, h1, h2, h3, h4⟩
    · refine Or.inr ⟨k, t, b3, by rw [xT_k]; omega, (hb k t (Nat.le_refl _)).mpr b1, fun i hi u hu z => ?_⟩
      rw [xT_s (by omega)] at hu
      exact h2 i u hu ((hb i u (by omega)).mp z)
    · exfalso
      rw [b2] at h1
      have hj := (tr j u (up j u h2)).2
      have : ¬ (nI j : Int32) = -1 := fun z => by
        have q : (nI j).toInt = (-1 : Int32).toInt := by rw [z]
        rw [nI_toInt (xn31 (by omega))] at q
        have : (-1 : Int32).toInt = -1 := by decide
        omega
      exact this h1.symm
  · rw [b2]
    rcases h with ⟨h1, h2⟩ | ⟨j, u, h1, h2, h3, h4⟩
    · refine Or.inl ⟨h1, fun j u hu z => ?_⟩
      obtain ⟨q1, q2⟩ := tr j u hu
      have z := (hb j u q2).mp z
      rcases q1 with q1 | ⟨rfl, rfl⟩
      · exact h2 j u q1 z
      · exact b1 ⟨z, h1⟩
    · have hj := (tr j u (up j u h2)).2
      refine Or.inr ⟨j, u, h1, up j u h2, (hb j u hj).mpr h3, fun i hi u hu z => ?_⟩
      rw [xT_s (by omega)] at hu
      exact h4 i hi u hu ((hb i u (by omega)).mp z)
/-- the class's own invariant, one transition on -/
theorem xI_step (h : xI W e k t c) (hk : k < c) (ht : t < e) (h14 : e ≤ 14) : xFr W (g_xs W k t) ∧
    ((xSm W (g_xs W k t) ∧ xI (g_xs W k t) e k (t + 1) c ∧ (xOk W k t → ∃ i, xTo W c k t = some i)) ∨
     (xOk W k t ∧ xTo W c k t = none ∧ c < 80 ∧ xI (g_xs W k t) e k (t + 1) (c + 1) ∧ (g_xs W k t).2.1 7 = upd (W.2.1 7) c (n_mk W t (W.2.1 7 k)) ∧ (g_xs W k t).2.1 8 = upd (W.2.1 8) c (n_cd W t (W.2.1 8 k)) ∧ (g_xs W k t).2.1 9 = upd (W.2.1 9) c (nI (100 * k + t))) ∨
     (xOk W k t ∧ xTo W c k t = none ∧ c = 80 ∧ (g_xs W k t).1 6 8 = 1 ∧ xSm W (g_xs W k t))) := by
  obtain ⟨i1, i2, i3, i4, i5, i6, i7⟩ := h
  obtain ⟨f, nt, hd⟩ := xs_desc (t := t) i1 hk i2
  obtain ⟨t1, t2, t3, t4, t5, t6⟩ := nt
  refine ⟨f, ?_⟩
  -- the parts that all ends share
  have fin : ∀ c', c ≤ c' → (g_xs W k t).1 6 0 = nI c' → c' ≤ 80 → (g_xs W k t).1 6 8 = 0 → (∀ i, i < c → (g_xs W k t).2.1 7 i = W.2.1 7 i) → (∀ i, i < c → (g_xs W k t).2.1 8 i = W.2.1 8 i) → (∀ j, c ≤ j → j < c' → (g_xs W k t).2.1 10 j = 0 ∧ (g_xs W k t).2.1 11 j = 0) →
      (g_xs W k t).2.1 12 (k * 14 + t) = cSC (g_xs W k t) c' k t → (xOk (g_xs W k t) k t → ∃ i, xTo (g_xs W k t) c' k t = some i) → xI (g_xs W k t) e k (t + 1) c' := by
    intro c' hcc a1 a2 a3 h7 h8 a5 a6 a7
    refine ⟨a1, a2, a3, fun j hj => ?_, fun j u hj hu => ?_, ?_, ?_⟩
    · by_cases hjc : j < c
      · rw [cEX_cg f (h7 j hjc), cEE_cg f (h7 j hjc)]
        by_cases z : j = k
        · subst z
          obtain ⟨q1, q2⟩ := i4 j hjc
          rw [xT_k] at q1 q2 ⊢
          rw [t3, t4, q1, q2]
          exact ⟨rfl, rfl⟩
        · rw [(t2 j z hjc).1, (t2 j z hjc).2, xT_s z]
          exact i4 j hjc
      · rw [xT_gt (by omega)]
        exact a5 j (by omega) hj
    · by_cases z : j = k ∧ u = t
      · obtain ⟨rfl, rfl⟩ := z
        exact ⟨a6, a7⟩
      · have hu' : u < xT e k t j := by
          by_cases y : j = k
          · subst y; rw [xT_k] at hu ⊢; omega
          · rw [xT_s y] at hu; exact hu
        have hjk : j ≤ k := by
          unfold xT at hu'
          split at hu'
          · omega
          · split at hu'
            · omega
            · omega
        have hjc : j < c := by omega
        have hue := xT_u ht hu'
        have hne : j * 14 + u ≠ k * 14 + t := fun q => z (by omega)
        obtain ⟨q1, q2⟩ := i5 j u hjc hu'
        rw [t1 _ hne, q1]
        have ok := xOk_cg f (u := u) (h7 j hjc) (h8 j hjc)
        refine ⟨?_, fun o => ?_⟩
        · unfold cSC
          by_cases o : xOk W j u
          · obtain ⟨i, hi⟩ := q2 o
            rw [if_pos o, if_pos (ok.mpr o), hi, xTo_ext f hcc h7 h8 hjc hi]
          · rw [if_neg o, if_neg (fun z => o (ok.mp z))]
        · obtain ⟨i, hi⟩ := q2 (ok.mp o)
          exact ⟨i, xTo_ext f hcc h7 h8 hjc hi⟩
    · refine xP4_step i6 (fun j u hj => ?_) ?_ (by omega)
      · have hjc : j < c := by omega
        unfold xEn xSf
        rw [x_en f (h7 j hjc), x_sf f (h7 j hjc)]
        exact ⟨fun q => ⟨hjc, q.2⟩, fun q => ⟨by omega, q.2⟩⟩
      · by_cases z : xEn W k t ∧ ¬ xSf W k t ∧ W.1 6 9 = -1
        · rw [if_pos z] at t5
          exact Or.inl ⟨⟨hk, z.1, z.2.1⟩, z.2.2, t5⟩
        · rw [if_neg z] at t5
          exact Or.inr ⟨fun q => z ⟨q.1.2.1, q.1.2.2, q.2⟩, t5⟩
    · refine xP4_step i7 (fun j u hj => ?_) ?_ (by omega)
      · have hjc : j < c := by omega
        unfold xEn xRt
        rw [x_en f (h7 j hjc), x_rt f (h8 j hjc)]
        exact ⟨fun q => ⟨hjc, q.2⟩, fun q => ⟨by omega, q.2⟩⟩
      · by_cases z : xEn W k t ∧ ¬ xRt W k t ∧ W.1 6 10 = -1
        · rw [if_pos z] at t6
          exact Or.inl ⟨⟨hk, z.1, z.2.1⟩, z.2.2, t6⟩
        · rw [if_neg z] at t6
          exact Or.inr ⟨fun q => z ⟨q.1.2.1, q.1.2.2, q.2⟩, t6⟩
  rcases hd with ⟨no, sm, tb, v12⟩ | ⟨ok, ⟨i, hi, sm, tb, v12⟩ | ⟨hn, hc80, n0, tb, n7, n8, n9, n10, n11, n12⟩ | ⟨hn, hc80, tb, sm⟩⟩
  · obtain ⟨s0, s7, s8, s9⟩ := id sm
    refine Or.inl ⟨sm, ?_, fun z => absurd z no⟩
    have ok := xOk_cg f (u := t) (show (g_xs W k t).2.1 7 k = W.2.1 7 k by rw [s7]) (show (g_xs W k t).2.1 8 k = W.2.1 8 k by rw [s8])
    refine fin c (Nat.le_refl _) (s0.trans i1) i2 (tb.trans i3) (fun i _ => by rw [s7]) (fun i _ => by rw [s8]) (fun j h1 h2 => by omega) ?_ (fun z => absurd (ok.mp z) no)
    unfold cSC
    rw [v12, if_neg (fun z => no (ok.mp z))]
  · obtain ⟨s0, s7, s8, s9⟩ := id sm
    refine Or.inl ⟨sm, ?_, fun _ => ⟨i, hi⟩⟩
    have okk := xOk_cg f (u := t) (show (g_xs W k t).2.1 7 k = W.2.1 7 k by rw [s7]) (show (g_xs W k t).2.1 8 k = W.2.1 8 k by rw [s8])
    have hi' := xTo_ext f (Nat.le_refl c) (fun i _ => by rw [s7]) (fun i _ => by rw [s8]) hk hi
    refine fin c (Nat.le_refl _) (s0.trans i1) i2 (tb.trans i3) (fun i _ => by rw [s7]) (fun i _ => by rw [s8]) (fun j h1 h2 => by omega) ?_ (fun _ => ⟨i, hi'⟩)
    unfold cSC
    rw [v12, if_pos (okk.mpr ok), hi']
    rfl
  · refine Or.inr (Or.inl ⟨ok, hn, hc80, ?_, n7, n8, n9⟩)
    have h7 : ∀ i, i < c → (g_xs W k t).2.1 7 i = W.2.1 7 i := fun i hi => by rw [n7, pk_un (by omega)]
    have h8 : ∀ i, i < c → (g_xs W k t).2.1 8 i = W.2.1 8 i := fun i hi => by rw [n8, pk_un (by omega)]
    have hto : xTo (g_xs W k t) (c + 1) k t = some c := by
      unfold xTo
      rw [x_mk f (h7 k hk), x_cd f (h8 k hk)]
      refine xfnd_i (Nat.lt_succ_self c) ?_ (fun q hq => ?_)
      · unfold g_is
        rw [n7, n8, pk_us, pk_us]
        exact decide_eq_true ⟨rfl, rfl⟩
      · have := xfnd_n hn q hq
        unfold g_is at this ⊢
        rw [h7 q hq, h8 q hq]
        exact this
    have okk := xOk_cg f (u := t) (h7 k hk) (h8 k hk)
    refine fin (c + 1) (Nat.le_succ _) n0 (by omega) (tb.trans i3) h7 h8 (fun j h1 h2 => ?_) ?_ (fun _ => ⟨c, hto⟩)
    · have : j = c := by omega
      subst this
      exact ⟨n10, n11⟩
    · unfold cSC
      rw [n12, if_pos (okk.mpr ok), hto]
      rfl
  · exact Or.inr (Or.inr ⟨ok, hn, hc80, tb, sm⟩)
end
end XExpl2
section XExpl3
theorem and_n0 (x m : Int32) : x &&& (m ^^^ (-1)) = 0 ↔ m &&& x = x := by
  constructor
  · intro h
    apply xbit_ext
    intro i hi
    have h1 : xbit (x &&& (m ^^^ (-1))) i = false := by rw [h]; exact xbit_0 i
    rw [xbit_and, xbit_xor, xbit_m i hi] at h1
    rw [xbit_and]
    cases hx : xbit x i <;> cases hm : xbit m i <;> simp [hx, hm] at h1 ⊢
  · intro h
    apply xbit_ext
    intro i hi
    have h1 : xbit (m &&& x) i = xbit x i := by rw [h]
    rw [xbit_and] at h1
    rw [xbit_and, xbit_xor, xbit_m i hi, xbit_0]
    cases hx : xbit x i <;> cases hm : xbit m i <;> simp [hx, hm] at h1 ⊢
section
variable {W U : xl_V} {e k t c : Nat}
theorem r_en (hE : xE W U e) (hR : xR W U c) (hk : k < c) (ht : t < e) : m_en U k t = n_en W t (W.2.1 7 k) := by
  obtain ⟨-, -, e3, -, -⟩ := hE t ht
  unfold m_en n_en
  rw [e3, ← (hR.2 k hk).1]
  by_cases h : W.2.1 4 t &&& (W.2.1 7 k ^^^ (-1)) = 0
  · rw [if_pos h, if_pos ((and_n0 _ _).mp h)]
  · rw [if_neg h, if_neg (fun z => h ((and_n0 _ _).mpr z))]
theorem r_sf (hE : xE W U e) (hR : xR W U c) (hk : k < c) (ht : t < e) : m_sf U k t = n_sf W t (W.2.1 7 k) := by
  obtain ⟨-, -, e3, e4, -⟩ := hE t ht
  unfold m_sf n_sf
  rw [e3, e4, ← (hR.2 k hk).1, Int32.and_assoc, Int32.and_comm (W.2.1 7 k)]
theorem r_rt (hE : xE W U e) (hR : xR W U c) (hk : k < c) (ht : t < e) : m_rt U k t = n_rt W t (W.2.1 8 k) := by
  obtain ⟨e1, e2, -, -, s, hs, e5⟩ := hE t ht
  unfold m_rt n_rt n_lv
  rw [e1, e2, ← (hR.2 k hk).2.1, e5, xbit_sh _ (show s < 32 by omega)]
  cases xbit (W.2.1 8 k) s <;> by_cases h : W.2.1 3 t = 0 <;> simp [h] <;> decide
theorem r_mk (hE : xE W U e) (hR : xR W U c) (hk : k < c) (ht : t < e) : m_mk U k t = n_mk W t (W.2.1 7 k) := by
  obtain ⟨-, -, e3, e4, -⟩ := hE t ht
  unfold m_mk n_mk
  rw [e3, e4, ← (hR.2 k hk).1]
theorem r_cd (hE : xE W U e) (hR : xR W U c) (hk : k < c) (ht : t < e) : m_cd U k t = n_cd W t (W.2.1 8 k) := by
  obtain ⟨e1, e2, -, -, -⟩ := hE t ht
  unfold m_cd n_cd
  rw [e1, e2, ← (hR.2 k hk).2.1]
theorem r_to (hE : xE W U e) (hR : xR W U c) (hk : k < c) (ht : t < e) : xfnd (m_is U (m_mk U k t) (m_cd U k t)) c = xTo W c k t := by
  unfold xTo
  rw [r_mk hE hR hk ht, r_cd hE hR hk ht]
  refine xfnd_cg c (fun j hj => ?_)
  unfold m_is g_is
  rw [(hR.2 j hj).1, (hR.2 j hj).2.1]
/-- both sides, in the midst of state k -/
def xJ (W U : xl_V) (e k t : Nat) : Prop := W.1 1 1 = nI e ∧ U.1 47 4 = nI e ∧ ((∃ c, k < c ∧ xI W e k t c ∧ xR W U c ∧ xE W U e) ∨ ∃ c, k < c ∧ c ≤ 80 ∧ W.1 6 0 = nI c ∧ ¬ W.1 6 8 = 0 ∧ U.1 47 13 = nI 81)
theorem xJ_step (h : xJ W U e k t) (ht : t < e) (h14 : e ≤ 14) : xJ (g_xs W k t) (m_xs U k t) e k (t + 1) := by
  obtain ⟨hw, hu, h⟩ := h
  rcases h with ⟨c, hk, hI, hR, hE⟩ | ⟨c, hk, h80, h0, h8, h13⟩
  · obtain ⟨f, hd⟩ := xI_step hI hk ht h14
    have h80 : c ≤ 80 := hI.2.1
    have gr := m_gr_xs (V := U) hR.1 (show c ≤ 81 by omega) k t
    have ct : m_ct U = c := m_ct_c hR.1 (by omega)
    have hE' : xE (g_xs W k t) (m_xs U k t) e := fun u hu => by
      rw [gr.2.1 50 (by decide) (by decide) (by decide), gr.2.1 51 (by decide) (by decide) (by decide), gr.2.1 52 (by decide) (by decide) (by decide), gr.2.1 53 (by decide) (by decide) (by decide), f.2.1 2 (by omega), f.2.1 3 (by omega), f.2.1 4 (by omega), f.2.1 5 (by omega)]
      exact hE u hu
    refine ⟨by rw [f.1 1 1 (by decide)]; exact hw, by rw [gr.1 47 4 (by decide)]; exact hu, ?_⟩
    have nw : m_nw U k t ↔ xOk W k t ∧ xTo W c k t = none := by
      unfold m_nw xOk xEn xSf xRt
      rw [ct, r_en hE hR hk ht, r_sf hE hR hk ht, r_rt hE hR hk ht, r_to hE hR hk ht]
      exact ⟨fun z => ⟨⟨z.2.1, z.2.2.1, z.2.2.2.1⟩, z.2.2.2.2⟩, fun z => ⟨by omega, z.1.1, z.1.2.1, z.1.2.2, z.2⟩⟩
    rcases hd with ⟨sm, hI', hto⟩ | ⟨ok, hn, hc, hI', n7, n8, n9⟩ | ⟨ok, hn, hc, tb, sm⟩
    · have e1 : m_xs U k t = U := by
        unfold m_xs
        rw [if_neg]
        intro z
        obtain ⟨z1, z2⟩ := nw.mp z
        obtain ⟨i, hi⟩ := hto z1
        rw [hi] at z2; cases z2
      rw [e1] at hE' ⊢
      refine Or.inl ⟨c, hk, hI', ⟨hR.1, fun j hj => ?_⟩, hE'⟩
      rw [sm.2.1, sm.2.2.1, sm.2.2.2]
      exact hR.2 j hj
    · have e1 : m_xs U k t = m_ad U k t := by unfold m_xs; rw [if_pos (nw.mpr ⟨ok, hn⟩)]
      rw [e1] at hE' ⊢
      refine Or.inl ⟨c + 1, by omega, hI', ⟨?_, fun j hj => ?_⟩, hE'⟩
      · show U.1 47 13 + 1 = _
        rw [hR.1]; exact nI_s c
      · have u4 : (m_ad U k t).2.1 54 = upd (U.2.1 54) c (m_mk U k t) := by rw [← ct]; rfl
        have u5 : (m_ad U k t).2.1 55 = upd (U.2.1 55) c (m_cd U k t) := by rw [← ct]; rfl
        have u6 : (m_ad U k t).2.1 56 = upd (U.2.1 56) c (100 * nI k + nI t) := by rw [← ct]; rfl
        rw [n7, n8, n9, u4, u5, u6]
        by_cases z : j = c
        · subst z
          rw [pk_us, pk_us, pk_us, pk_us, pk_us, pk_us, r_mk hE hR hk ht, r_cd hE hR hk ht, show (100 : Int32) = nI 100 from rfl, pk_mul, nI_add]
          exact ⟨rfl, rfl, rfl⟩
        · rw [pk_un z, pk_un z, pk_un z, pk_un z, pk_un z, pk_un z]
          exact hR.2 j (by omega)
    · have e1 : m_xs U k t = m_ad U k t := by unfold m_xs; rw [if_pos (nw.mpr ⟨ok, hn⟩)]
      rw [e1]
      refine Or.inr ⟨c, hk, h80, sm.1.trans hI.1, by rw [tb]; decide, ?_⟩
      show U.1 47 13 + 1 = _
      rw [hR.1, hc]; exact nI_s 80
  · obtain ⟨f, -, hd⟩ := xs_desc (t := t) h0 hk h80
    have e1 : m_xs U k t = U := by
      unfold m_xs
      rw [if_neg]
      intro z
      have ct : m_ct U = 81 := m_ct_c h13 (by omega)
      have := z.1
      rw [ct] at this
      omega
    rw [e1]
    refine ⟨by rw [f.1 1 1 (by decide)]; exact hw, hu, Or.inr ?_⟩
    rcases hd with ⟨-, sm, tb, -⟩ | ⟨-, ⟨i, -, sm, tb, -⟩ | ⟨-, hc, n0, tb, -⟩ | ⟨-, hc, tb, sm⟩⟩
    · exact ⟨c, hk, h80, sm.1.trans h0, by rw [tb]; exact h8, h13⟩
    · exact ⟨c, hk, h80, sm.1.trans h0, by rw [tb]; exact h8, h13⟩
    · exact ⟨c + 1, by omega, by omega, n0, by rw [tb]; exact h8, h13⟩
    · exact ⟨c, hk, h80, sm.1.trans h0, by rw [tb]; decide, h13⟩
theorem xJ_loop (h14 : e ≤ 14) (h : xJ W U e k 0) : ∀ t, t ≤ e → xJ (g_xr W k t) (m_xr U k t) e k t
  | 0, _ => h
  | t + 1, ht => xJ_step (xJ_loop h14 h t (by omega)) (by omega) h14
theorem xT_n {e k j : Nat} : xT e (k + 1) 0 j = xT e k e j := by
  unfold xT
  by_cases h : j < k
  · rw [if_pos (by omega), if_pos h]
  · rw [if_neg h]
    by_cases h2 : j = k
    · rw [if_pos (by omega), if_pos h2]
    · rw [if_neg (by omega), if_neg h2]
      split <;> rfl
theorem xI_n (h : xI W e k e c) : xI W e (k + 1) 0 c := by
  unfold xI xP4 at h ⊢
  simp only [xT_n]
  exact h
/-- what the two searches come to -/
def xK (W U : xl_V) (e : Nat) : Prop := (∃ c, 0 < c ∧ xI W e c 0 c ∧ xR W U c ∧ xE W U e) ∨ (¬ W.1 6 8 = 0 ∧ U.1 47 13 = nI 81)
theorem xK_bl (h14 : e ≤ 14) : ∀ (n k : Nat) (W U : xl_V), n + k = 80 → W.1 1 1 = nI e → U.1 47 4 = nI e → ((∃ c, 0 < c ∧ k ≤ c ∧ xI W e k 0 c ∧ xR W U c ∧ xE W U e) ∨ (¬ W.1 6 8 = 0 ∧ U.1 47 13 = nI 81)) → xK (g_bl n k W) (m_bl (n + 1) k U) e := by
  intro n
  induction n with
  | zero =>
    intro k W U hk hw hu h
    have hk : k = 80 := by omega
    subst hk
    have e1 : m_bl (0 + 1) 80 U = U := by
      unfold m_bl
      rw [if_neg]
      intro z
      rcases h with ⟨c, c0, ck, hI, hR, hE⟩ | ⟨h8, h13⟩
      · rw [m_ct_c hR.1 (by have := hI.2.1; omega)] at z
        have := hI.2.1; omega
      · rw [m_ct_c h13 (by omega)] at z; omega
    rw [e1]
    show xK W U e
    rcases h with ⟨c, c0, ck, hI, hR, hE⟩ | h
    · have : c = 80 := by have := hI.2.1; omega
      subst this
      exact Or.inl ⟨80, c0, hI, hR, hE⟩
    · exact Or.inr h
  | succ n ih =>
    intro k W U hk hw hu h
    rcases h with ⟨c, c0, ck, hI, hR, hE⟩ | ⟨h8, h13⟩
    · have hc80 := hI.2.1
      have ctW : g_ct W = c := by unfold g_ct; rw [hI.1]; exact nI_clamp (xn31 (by omega))
      have ctU : m_ct U = c := m_ct_c hR.1 (by omega)
      have ge : g_e W = e := by unfold g_e; rw [hw]; exact nI_clamp (xn31 (by omega))
      have me : m_es U = e := by unfold m_es; rw [hu]; exact nI_clamp (xn31 (by omega))
      by_cases hkc : k < c
      · have e1 : g_bl (n + 1) k W = g_bl n (k + 1) (g_xr W k e) := by unfold g_bl; rw [ctW, ge, if_pos ⟨hkc, hI.2.2.1⟩]; cases n <;> rfl
        have e2 : m_bl (n + 1 + 1) k U = m_bl (n + 1) (k + 1) (m_xr U k e) := by
          show (if k < m_ct U ∧ m_ct U < 81 then m_bl (n + 1) (k + 1) (m_xr U k (m_es U)) else U) = _
          rw [ctU, me, if_pos ⟨hkc, by omega⟩]
        rw [e1, e2]
        obtain ⟨j1, j2, j3⟩ := xJ_loop h14 (show xJ W U e k 0 from ⟨hw, hu, Or.inl ⟨c, hkc, hI, hR, hE⟩⟩) e (Nat.le_refl e)
        refine ih (k + 1) _ _ (by omega) j1 j2 ?_
        rcases j3 with ⟨c', a1, a2, a3, a4⟩ | ⟨c', a1, a2, a3, a4, a5⟩
        · exact Or.inl ⟨c', by omega, by omega, xI_n a2, a3, a4⟩
        · exact Or.inr ⟨a4, a5⟩
      · have hkc' : k = c := by omega
        subst hkc'
        have e1 : g_bl (n + 1) k W = W := by unfold g_bl; rw [ctW, if_neg (fun z => hkc z.1)]
        have e2 : m_bl (n + 1 + 1) k U = U := by
          show (if k < m_ct U ∧ m_ct U < 81 then m_bl (n + 1) (k + 1) (m_xr U k (m_es U)) else U) = _
          rw [ctU, if_neg (fun z => hkc z.1)]
        rw [e1, e2]
        exact Or.inl ⟨k, c0, hI, hR, hE⟩
    · have e1 : g_bl (n + 1) k W = W := by unfold g_bl; rw [if_neg (fun z => h8 z.2)]
      have e2 : m_bl (n + 1 + 1) k U = U := by
        show (if k < m_ct U ∧ m_ct U < 81 then m_bl (n + 1) (k + 1) (m_xr U k (m_es U)) else U) = _
        rw [m_ct_c h13 (by omega), if_neg (fun z => by omega)]
      rw [e1, e2]
      exact Or.inr ⟨h8, h13⟩
end
end XExpl3
section XVerd
variable {W U : xl_V} {e c : Nat}
/-- the inputs, as the reference has them -/
def xN4 (W U : xl_V) (e : Nat) : Prop := (∀ t, t < e → U.2.1 48 (U.2.1 50 t).toNatClampNeg = n_in W (W.2.1 2 t)) ∧ (∀ t, t < e → W.2.1 3 t = 0 ∨ W.2.1 3 t = 1) ∧ ∀ t l, t < e → l < 2 → (xbit (W.1 1 5) (2 * (W.2.1 2 t).toNatClampNeg + l) = true ↔ n_in W (W.2.1 2 t) = 0)
theorem r_ex (hE : xE W U e) (hR : xR W U c) (hN : xN4 W U e) {j : Nat} (hj : j < c) : ∀ x, x ≤ e → cEX W j x = m_ex U j x
  | 0, _ => rfl
  | x + 1, hx => by
    have h1 := r_ex hE hR hN hj x (by omega)
    have h2 := r_en hE hR hj (show x < e by omega)
    have h3 := hN.1 x (by omega)
    have h4 := (hE x (by omega)).1
    unfold cEX m_ex
    rw [h1, h2, h3, h4]
    unfold xEn
    by_cases z : n_en W x (W.2.1 7 j) = 0
    · rw [if_neg (fun q => q z), if_pos z]
    · rw [if_pos z, if_neg z]
def bN (W : xl_V) (t : Nat) : Nat := 2 * (W.2.1 2 t).toNatClampNeg + (if W.2.1 3 t = 0 then 0 else 1)
theorem bN_s (hE : xE W U e) {t : Nat} (ht : t < e) : ∃ s, s < 5 ∧ W.2.1 2 t = nI s ∧ bN W t = 2 * s + (if W.2.1 3 t = 0 then 0 else 1) := by
  obtain ⟨-, -, -, -, s, hs, h⟩ := hE t ht
  refine ⟨s, hs, h, ?_⟩
  unfold bN
  rw [h, nI_clamp (xn31 (by omega))]
theorem bN_lt (hE : xE W U e) {t : Nat} (ht : t < e) : bN W t < 10 := by
  obtain ⟨s, hs, -, h⟩ := bN_s hE ht
  rw [h]
  split <;> omega
theorem r_eb (hE : xE W U e) {t : Nat} (ht : t < e) : n_eb W t = (1 : Int32) <<< (nI (bN W t) &&& 31) := by
  obtain ⟨s, hs, h, hb⟩ := bN_s hE ht
  unfold n_eb n_lv
  rw [h, hb]
  have e2 : (2 : Int32) * nI s = nI (2 * s) := by rw [show (2 : Int32) = nI 2 from rfl, pk_mul]
  rw [e2]
  by_cases z : W.2.1 3 t = 0
  · rw [if_pos z, if_pos z, show (0 : Int32) = nI 0 from rfl, nI_add]
  · rw [if_neg z, if_neg z, show (1 : Int32) = nI 1 from rfl, nI_add]
theorem cEE_b (hE : xE W U e) {j b : Nat} (hb : b < 32) : ∀ x, x ≤ e → (xbit (cEE W j x) b = true ↔ ∃ u, u < x ∧ xEn W j u ∧ bN W u = b)
  | 0, _ => by
    show xbit 0 b = true ↔ _
    rw [xbit_0]
    exact ⟨fun z => (by cases z), fun ⟨u, hu, _⟩ => absurd hu (Nat.not_lt_zero u)⟩
  | x + 1, hx => by
    have ih := cEE_b hE (j := j) hb x (by omega)
    have hl := bN_lt hE (show x < e by omega)
    unfold cEE
    by_cases z : xEn W j x
    · rw [if_pos z, xbit_or, r_eb hE (by omega), xbit_1 _ (by omega) b hb, Bool.or_eq_true, ih]
      constructor
      · rintro (⟨u, h1, h2⟩ | h)
        · exact ⟨u, by omega, h2⟩
        · exact ⟨x, Nat.lt_succ_self x, z, (of_decide_eq_true h).symm⟩
      · rintro ⟨u, h1, h2, h3⟩
        by_cases q : u = x
        · subst q; exact Or.inr (decide_eq_true h3.symm)
        · exact Or.inl ⟨u, by omega, h2, h3⟩
    · rw [if_neg z, ih]
      constructor
      · rintro ⟨u, h1, h2⟩; exact ⟨u, by omega, h2⟩
      · rintro ⟨u, h1, h2, h3⟩
        by_cases q : u = x
        · subst q; exact absurd h2 z
        · exact ⟨u, by omega, h2, h3⟩
theorem r_se (hE : xE W U e) (hN : xN4 W U e) {t u : Nat} (ht : t < e) (hu : u < e) : m_se U t u = 0 ↔ ¬ bN W t = bN W u := by
  obtain ⟨s, hs, h, hb⟩ := bN_s hE ht
  obtain ⟨s', hs', h', hb'⟩ := bN_s hE hu
  obtain ⟨a1, a2, -⟩ := hE t ht
  obtain ⟨b1, b2, -⟩ := hE u hu
  have v1 := hN.2.1 t ht
  have v2 := hN.2.1 u hu
  unfold m_se
  rw [a1, a2, b1, b2, hb, hb', h, h']
  have hs2 : (nI s = nI s') ↔ s = s' := nI_eq (xn31 (by omega)) (xn31 (by omega))
  by_cases z : s = s'
  · rw [if_pos (hs2.mpr z)]
    rcases v1 with v1 | v1 <;> rcases v2 with v2 | v2 <;> rw [v1, v2] <;> simp [z]
  · rw [if_neg (fun q => z (hs2.mp q))]
    refine ⟨fun _ q => z ?_, fun _ => rfl⟩
    split at q <;> split at q <;> omega
theorem r_ee (hE : xE W U e) (hR : xR W U c) (hN : xN4 W U e) {i u : Nat} (hi : i < c) (hu : u < e) : m_ee U e i u = 0 ↔ xbit (cEE W i e) (bN W u) = false := by
  have hl := bN_lt hE hu
  have hb := cEE_b hE (j := i) (b := bN W u) (by omega) e (Nat.le_refl e)
  unfold m_ee
  cases hx : xfnd (m_ee1 U i u) e with
  | none =>
    refine ⟨fun _ => ?_, fun _ => rfl⟩
    cases hq : xbit (cEE W i e) (bN W u) with
    | false => rfl
    | true =>
      exfalso
      obtain ⟨v, h1, h2, h3⟩ := hb.mp hq
      have := xfnd_n hx v h1
      unfold m_ee1 at this
      refine absurd (decide_eq_false_iff_not.mp this) (fun k => k ⟨fun z => (r_se hE hN h1 hu).mp z h3, ?_⟩)
      rw [r_en hE hR hi h1]; exact h2
  | some v =>
    refine ⟨fun z => absurd z (show ¬ (1 : Int32) = 0 by decide), fun z => ?_⟩
    obtain ⟨h1, h2, -⟩ := xfnd_s hx
    unfold m_ee1 at h2
    obtain ⟨h3, h4⟩ := of_decide_eq_true h2
    have h5 : bN W v = bN W u := Decidable.not_not.mp (fun q => h3 ((r_se hE hN h1 hu).mpr q))
    rw [r_en hE hR hi h1] at h4
    have : xbit (cEE W i e) (bN W u) = true := hb.mpr ⟨v, h1, h4, h5⟩
    rw [z] at this; cases this
theorem xnz (x : Int32) : ¬ x = 0 ↔ ∃ b, b < 32 ∧ xbit x b = true := by
  constructor
  · intro h
    by_cases q : ∃ b, b < 32 ∧ xbit x b = true
    · exact q
    · refine absurd (xbit_ext (fun i hi => ?_)) h
      rw [xbit_0]
      cases hx : xbit x i with
      | false => rfl
      | true => exact absurd ⟨i, hi, hx⟩ q
  · rintro ⟨b, -, hb⟩ rfl
    rw [xbit_0] at hb; cases hb
/-- a state that loses an edge -/
theorem r_lo (hI : xI W e c 0 c) (hE : xE W U e) (hR : xR W U c) (hN : xN4 W U e) {k t i : Nat} (hk : k < c) (ht : t < e) (ho : xOk W k t) (hto : xTo W c k t = some i) : (¬ W.2.1 12 (k * 14 + t) = -1 ∧ ¬ g_lo W k t = 0) ↔ ∃ u, u < e ∧ m_l1 U e c k t u = true := by
  obtain ⟨i1, i2, i3, i4, i5, -⟩ := hI
  obtain ⟨hic, -⟩ := xfnd_s hto
  have h12 : W.2.1 12 (k * 14 + t) = nI i := by
    rw [(i5 k t hk (by rw [xT_lt hk]; exact ht)).1]
    unfold cSC
    rw [if_pos ho, hto]; rfl
  have hci : (W.2.1 12 (k * 14 + t)).toNatClampNeg = i := by rw [h12]; exact nI_clamp (xn31 (by omega))
  have hne : ¬ W.2.1 12 (k * 14 + t) = -1 := by
    rw [h12]; intro z
    have q : (nI i).toInt = (-1 : Int32).toInt := by rw [z]
    rw [nI_toInt (xn31 (by omega))] at q
    have : (-1 : Int32).toInt = -1 := by decide
    omega
  have wk : W.2.1 11 k = cEE W k e := by have := (i4 k hk).2; rwa [xT_lt hk] at this
  have wi : W.2.1 11 i = cEE W i e := by have := (i4 i hic).2; rwa [xT_lt hic] at this
  have mto : m_to U c k t = i := by unfold m_to; rw [r_to hE hR hk ht, hto]; rfl
  have hlt := bN_lt hE ht
  have inp : ∀ u, u < e → m_inp U u = n_in W (W.2.1 2 u) := fun u hu => hN.1 u hu
  have glo : ¬ g_lo W k t = 0 ↔ ∃ b, b < 32 ∧ xbit (cEE W k e) b = true ∧ xbit (cEE W i e) b = false ∧ ¬ b = bN W t ∧ (n_in W (W.2.1 2 t) = 0 ∨ xbit (W.1 1 5) b = true) := by
    unfold g_lo
    rw [hci, wk, wi, r_eb hE ht]
    by_cases z : n_in W (W.2.1 2 t) = 0
    · rw [if_pos z]
      generalize hX : cEE W k e &&& (cEE W i e ^^^ (-1)) &&& ((1 : Int32) <<< (nI (bN W t) &&& 31) ^^^ (-1)) = X
      have q1 : ¬ (if X = 0 then (0 : Int32) else 1) = 0 ↔ ¬ X = 0 := by
        by_cases y : X = 0
        · rw [if_pos y]; exact ⟨fun q => absurd rfl q, fun q => absurd y q⟩
        · rw [if_neg y]; exact ⟨fun _ => y, fun _ => by decide⟩
      rw [q1, xnz]
      constructor
      · rintro ⟨b, hb, h⟩
        rw [← hX, xbit_and, xbit_and, xbit_xor, xbit_xor, xbit_m b hb, xbit_1 _ (by omega) b hb] at h
        simp at h
        exact ⟨b, hb, h.1.1, h.1.2, h.2, Or.inl z⟩
      · rintro ⟨b, hb, h1, h2, h3, -⟩
        refine ⟨b, hb, ?_⟩
        rw [← hX, xbit_and, xbit_and, xbit_xor, xbit_xor, xbit_m b hb, xbit_1 _ (by omega) b hb]
        simp [h1, h2, h3]
    · rw [if_neg z]
      generalize hX : cEE W k e &&& (cEE W i e ^^^ (-1)) &&& ((1 : Int32) <<< (nI (bN W t) &&& 31) ^^^ (-1)) &&& W.1 1 5 = X
      have q1 : ¬ (if X = 0 then (0 : Int32) else 1) = 0 ↔ ¬ X = 0 := by
        by_cases y : X = 0
        · rw [if_pos y]; exact ⟨fun q => absurd rfl q, fun q => absurd y q⟩
        · rw [if_neg y]; exact ⟨fun _ => y, fun _ => by decide⟩
      rw [q1, xnz]
      constructor
      · rintro ⟨b, hb, h⟩
        rw [← hX, xbit_and, xbit_and, xbit_and, xbit_xor, xbit_xor, xbit_m b hb, xbit_1 _ (by omega) b hb] at h
        simp at h
        exact ⟨b, hb, h.1.1.1, h.1.1.2, h.1.2, Or.inr h.2⟩
      · rintro ⟨b, hb, h1, h2, h3, h4⟩
        refine ⟨b, hb, ?_⟩
        rcases h4 with h4 | h4
        · exact absurd h4 z
        · rw [← hX, xbit_and, xbit_and, xbit_and, xbit_xor, xbit_xor, xbit_m b hb, xbit_1 _ (by omega) b hb]
          simp [h1, h2, h3, h4]
  have outb : ∀ u, u < e → (xbit (W.1 1 5) (bN W u) = true ↔ n_in W (W.2.1 2 u) = 0) := fun u hu => by
    unfold bN
    exact hN.2.2 u _ hu (by split <;> omega)
  constructor
  · rintro ⟨-, h⟩
    obtain ⟨b, hb, h1, h2, h3, h4⟩ := glo.mp h
    obtain ⟨u, hu, q1, q2⟩ := (cEE_b hE hb e (Nat.le_refl e)).mp h1
    refine ⟨u, hu, decide_eq_true ⟨⟨?_, ?_, ?_, ?_⟩, ?_⟩⟩
    · rw [r_en hE hR hk ht]; exact ho.1
    · rw [r_en hE hR hk hu]; exact q1
    · exact (r_se hE hN ht hu).mpr (fun z => h3 (by rw [z]; exact q2.symm))
    · rw [inp t ht, inp u hu]
      exact h4.imp id (fun z => (outb u hu).mp (by rw [q2]; exact z))
    · rw [mto]
      exact (r_ee hE hR hN hic hu).mpr (by rw [q2]; exact h2)
  · rintro ⟨u, hu, h⟩
    obtain ⟨⟨q1, q2, q3, q4⟩, q5⟩ := of_decide_eq_true h
    rw [mto] at q5
    rw [r_en hE hR hk hu] at q2
    rw [inp t ht, inp u hu] at q4
    have hlu := bN_lt hE hu
    refine ⟨hne, glo.mpr ⟨bN W u, by omega, (cEE_b hE (by omega) e (Nat.le_refl e)).mpr ⟨u, hu, q2, rfl⟩, (r_ee hE hR hN hic hu).mp q5, fun z => (r_se hE hN ht hu).mp q3 z.symm, q4.imp id (fun z => (outb u hu).mpr z)⟩⟩
theorem isS {p q : Nat → Bool} {n m : Nat} (h : (∃ i, i < n ∧ p i = true) ↔ ∃ i, i < m ∧ q i = true) : (xfnd p n).isSome = (xfnd q m).isSome := by
  cases h1 : xfnd p n with
  | some i =>
    obtain ⟨a1, a2, -⟩ := xfnd_s h1
    obtain ⟨j, b1, b2⟩ := h.mp ⟨i, a1, a2⟩
    cases h2 : xfnd q m with
    | some _ => rfl
    | none => rw [xfnd_n h2 j b1] at b2; cases b2
  | none =>
    cases h2 : xfnd q m with
    | none => rfl
    | some j =>
      obtain ⟨a1, a2, -⟩ := xfnd_s h2
      obtain ⟨i, b1, b2⟩ := h.mpr ⟨j, a1, a2⟩
      rw [xfnd_n h1 i b1] at b2; cases b2
theorem isS_t {p : Nat → Bool} {n : Nat} : (xfnd p n).isSome = true ↔ ∃ i, i < n ∧ p i = true := by
  cases h : xfnd p n with
  | some i => obtain ⟨a, b, -⟩ := xfnd_s h; exact ⟨fun _ => ⟨i, a, b⟩, fun _ => rfl⟩
  | none => exact ⟨fun z => (by cases z), fun ⟨i, a, b⟩ => (by rw [xfnd_n h i a] at b; cases b)⟩
theorem bool_eq {a b : Bool} (h : a = true ↔ b = true) : a = b := by cases a <;> cases b <;> simp at h ⊢
theorem r_3 (hI : xI W e c 0 c) (hE : xE W U e) (hR : xR W U c) (hN : xN4 W U e) (hok : ∀ k t, k < c → t < e → xEn W k t → xOk W k t) : xfnd (g_ds W e) c = m_ban U e c 3 := by
  unfold m_ban
  refine xfnd_cg c (fun k hk => bool_eq ?_)
  have i5 := hI.2.2.2.2.1
  have e1 : (decide (¬ m_bd U e c 3 k = 0) = true) ↔ ∃ t, t < e ∧ m_l2 U e c k t = true := by
    rw [decide_eq_true_iff]
    unfold m_bd m_ls
    rw [if_neg (by decide), if_pos rfl, ← isS_t]
    cases (xfnd (m_l2 U e c k) e).isSome <;> simp
  rw [e1]
  unfold g_ds
  rw [isS_t]
  constructor
  · rintro ⟨t, ht, h⟩
    have h : (¬ W.2.1 12 (k * 14 + t) = -1 ∧ ¬ g_lo W k t = 0) := of_decide_eq_true h
    obtain ⟨q1, q2⟩ := i5 k t hk (by rw [xT_lt hk]; exact ht)
    by_cases ho : xOk W k t
    · obtain ⟨i, hi⟩ := q2 ho
      obtain ⟨u, hu, hm⟩ := (r_lo hI hE hR hN hk ht ho hi).mp h
      exact ⟨t, ht, isS_t.mpr ⟨u, hu, hm⟩⟩
    · exfalso
      refine h.1 ?_
      rw [q1]; unfold cSC; rw [if_neg ho]
  · rintro ⟨t, ht, h⟩
    obtain ⟨u, hu, hm⟩ := isS_t.mp h
    have hen : xEn W k t := by
      have := (of_decide_eq_true hm).1.1
      rwa [r_en hE hR hk ht] at this
    have ho := hok k t hk ht hen
    obtain ⟨i, hi⟩ := (i5 k t hk (by rw [xT_lt hk]; exact ht)).2 ho
    exact ⟨t, ht, decide_eq_true ((r_lo hI hE hR hN hk ht ho hi).mpr ⟨u, hu, hm⟩)⟩
theorem r_4 (hI : xI W e c 0 c) (hE : xE W U e) (hR : xR W U c) (hN : xN4 W U e) : xfnd (g_cs W) c = m_ban U e c 4 := by
  unfold m_ban
  refine xfnd_cg c (fun k hk => bool_eq ?_)
  have wx : ∀ j, j < c → W.2.1 10 j = m_ex U j e := fun j hj => by
    have := (hI.2.2.2.1 j hj).1
    rw [xT_lt hj] at this
    rw [this]; exact r_ex hE hR hN hj e (Nat.le_refl e)
  have e1 : (decide (¬ m_bd U e c 4 k = 0) = true) ↔ (xfnd (m_cj U e k) k).isSome = true := by
    rw [decide_eq_true_iff]
    unfold m_bd m_cf
    rw [if_neg (by decide), if_neg (by decide)]
    cases (xfnd (m_cj U e k) k).isSome <;> simp
  rw [e1]
  unfold g_cs
  have : xfnd (g_cj W k) k = xfnd (m_cj U e k) k := xfnd_cg k (fun j hj => by
    unfold g_cj m_cj
    rw [(hR.2 j (by omega)).2.1, (hR.2 k hk).2.1, wx j (by omega), wx k hk])
  rw [this]
theorem xP4_io {v : Int32} {bad : Nat → Nat → Prop} {p : Nat → Bool} (h : xP4 v bad e c 0) (hp : ∀ j, j < c → (p j = true ↔ ∃ u, u < e ∧ bad j u)) (hb : ∀ j u, bad j u → j < c) : v = g_io (xfnd p c) := by
  rcases h with ⟨h1, h2⟩ | ⟨j, u, h1, h2, h3, h4⟩
  · have : xfnd p c = none := xfnd_o (fun j hj => by
      cases hq : p j with
      | false => rfl
      | true =>
        obtain ⟨u, hu, hx⟩ := (hp j hj).mp hq
        exact absurd hx (h2 j u (by rw [xT_lt hj]; exact hu)))
    rw [this]; exact h1
  · have hj := hb j u h3
    rw [xT_lt hj] at h2
    have : xfnd p c = some j := xfnd_i hj ((hp j hj).mpr ⟨u, h2, h3⟩) (fun i hi => by
      cases hq : p i with
      | false => rfl
      | true =>
        obtain ⟨u', hu', hx⟩ := (hp i (by omega)).mp hq
        exact absurd hx (h4 i hi u' (by rw [xT_lt (by omega)]; exact hu')))
    rw [this]; exact h1
theorem r_1 (hI : xI W e c 0 c) (hE : xE W U e) (hR : xR W U c) : W.1 6 9 = g_io (m_ban U e c 1) := by
  refine xP4_io hI.2.2.2.2.2.1 (fun j hj => ?_) (fun j u h => h.1)
  rw [decide_eq_true_iff]
  unfold m_bd
  rw [if_pos (by decide)]
  have : (xfnd (m_b1 U 1 j) e).isSome = true ↔ ∃ u, u < e ∧ (j < c ∧ xEn W j u ∧ ¬ xSf W j u) := by
    rw [isS_t]
    constructor
    · rintro ⟨u, hu, h⟩
      obtain ⟨q1, q2⟩ := of_decide_eq_true h
      rw [r_en hE hR hj hu] at q1
      rw [if_pos rfl, r_sf hE hR hj hu] at q2
      exact ⟨u, hu, hj, q1, fun z => z q2⟩
    · rintro ⟨u, hu, -, q1, q2⟩
      refine ⟨u, hu, decide_eq_true ⟨?_, ?_⟩⟩
      · rw [r_en hE hR hj hu]; exact q1
      · rw [if_pos rfl, r_sf hE hR hj hu]; exact Decidable.not_not.mp q2
  rw [← this]
  cases (xfnd (m_b1 U 1 j) e).isSome <;> simp
theorem r_2 (hI : xI W e c 0 c) (hE : xE W U e) (hR : xR W U c) : W.1 6 10 = g_io (m_ban U e c 2) := by
  refine xP4_io hI.2.2.2.2.2.2 (fun j hj => ?_) (fun j u h => h.1)
  rw [decide_eq_true_iff]
  unfold m_bd
  rw [if_pos (by decide)]
  have : (xfnd (m_b1 U 2 j) e).isSome = true ↔ ∃ u, u < e ∧ (j < c ∧ xEn W j u ∧ ¬ xRt W j u) := by
    rw [isS_t]
    constructor
    · rintro ⟨u, hu, h⟩
      obtain ⟨q1, q2⟩ := of_decide_eq_true h
      rw [r_en hE hR hj hu] at q1
      rw [if_neg (by decide), r_rt hE hR hj hu] at q2
      exact ⟨u, hu, hj, q1, fun z => z q2⟩
    · rintro ⟨u, hu, -, q1, q2⟩
      refine ⟨u, hu, decide_eq_true ⟨?_, ?_⟩⟩
      · rw [r_en hE hR hj hu]; exact q1
      · rw [if_neg (by decide), r_rt hE hR hj hu]; exact Decidable.not_not.mp q2
  rw [← this]
  cases (xfnd (m_b1 U 2 j) e).isSome <;> simp
end XVerd
