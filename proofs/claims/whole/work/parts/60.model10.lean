/-! The reference: the least sum of a signal. -/
section XModel10
variable {S : Nat × (Nat → Int32)} {V : xl_V} {d : Nat}
theorem xdg_w2 {sg p s : Nat} (h5 : sg ≤ 5) (hp : p < 3 ^ sg) (hs : s < sg) (h : xdg p s < 2) : p + (2 - xdg p s) * 3 ^ s < 3 ^ sg := by
  unfold xdg at h ⊢
  match sg, s, h5, hs with
  | 1, 0, _, _ => omega
  | 2, 0, _, _ => omega
  | 2, 1, _, _ => omega
  | 3, 0, _, _ => omega
  | 3, 1, _, _ => omega
  | 3, 2, _, _ => omega
  | 4, 0, _, _ => omega
  | 4, 1, _, _ => omega
  | 4, 2, _, _ => omega
  | 4, 3, _, _ => omega
  | 5, 0, _, _ => omega
  | 5, 1, _, _ => omega
  | 5, 2, _, _ => omega
  | 5, 3, _, _ => omega
  | 5, 4, _, _ => omega
/-- the codes that product p covers -/
def p_cv (sg p : Nat) : Int32 := m_tc sg p (2 ^ sg)
/-- p is clear of off, and no wider product is -/
def p_pr (sg : Nat) (off : Int32) (p : Nat) : Prop := p_cv sg p &&& off = 0 ∧ ∀ s, s < sg → ¬ (xdg p s < 2 ∧ p_cv sg (p + (2 - xdg p s) * 3 ^ s) &&& off = 0)
theorem m_pr_n (f : Nat → Int32) (off : Int32) (p : Nat) : ∀ n, ¬ m_pr f off p n = 0 ↔ f p &&& off = 0 ∧ ∀ s, s < n → ¬ m_wd f off p s
  | 0 => by
    unfold m_pr
    split
    · rename_i h
      exact ⟨fun _ => ⟨h, fun s hs => absurd hs (Nat.not_lt_zero s)⟩, fun _ => by decide⟩
    · rename_i h
      exact ⟨fun z => absurd rfl z, fun z => absurd z.1 h⟩
  | n + 1 => by
    have ih := m_pr_n f off p n
    unfold m_pr
    split
    · rename_i h
      exact ⟨fun z => absurd rfl z, fun z => absurd h (ih.mpr ⟨z.1, fun s hs => z.2 s (by omega)⟩)⟩
    · rename_i h
      have ih := ih.mp h
      split
      · rename_i h2
        exact ⟨fun z => absurd rfl z, fun z => absurd h2 (z.2 n (by omega))⟩
      · rename_i h2
        refine ⟨fun _ => ⟨ih.1, fun s hs => ?_⟩, fun _ => by decide⟩
        rcases Nat.lt_or_ge s n with h3 | h3
        · exact ih.2 s h3
        · rw [show s = n by omega]; exact h2
theorem m_tb_cv {off : Int32} {sg p : Nat} (hp : p < 3 ^ sg) : (m_tb V off sg).2.1 59 p = p_cv sg p := by
  show m_tg sg (V.2.1 59) (3 ^ sg) p = _
  unfold m_tg
  rw [if_pos hp]
  rfl
theorem m_tb_pr {off : Int32} {sg p : Nat} (h5 : sg ≤ 5) (hp : p < 3 ^ sg) : ¬ (m_tb V off sg).2.1 60 p = 0 ↔ p_pr sg off p := by
  have h0 : (m_tb V off sg).2.1 60 p = m_pr (m_tg sg (V.2.1 59) (3 ^ sg)) off p sg := by
    show m_pf _ off sg (V.2.1 60) (3 ^ sg) p = _
    unfold m_pf
    rw [if_pos hp]
  rw [h0, m_pr_n]
  have hf : ∀ q, q < 3 ^ sg → m_tg sg (V.2.1 59) (3 ^ sg) q = p_cv sg q := fun q hq => by unfold m_tg; rw [if_pos hq]; rfl
  unfold p_pr m_wd
  rw [hf p hp]
  constructor
  · rintro ⟨h1, h2⟩
    refine ⟨h1, fun s hs hw => h2 s hs ⟨hw.1, ?_⟩⟩
    rw [hf _ (xdg_w2 h5 hp hs hw.1)]
    exact hw.2
  · rintro ⟨h1, h2⟩
    refine ⟨h1, fun s hs hw => h2 s hs ⟨hw.1, ?_⟩⟩
    have := hw.2
    rw [hf _ (xdg_w2 h5 hp hs hw.1)] at this
    exact this
/-- primes that cover the open codes one after another until none is open -/
def p_ch (sg : Nat) (on off : Int32) : Int32 → List Nat → Prop
  | r, [] => m_op on r = none
  | r, p :: l => ∃ c, m_op on r = some c ∧ p < 3 ^ sg ∧ p_pr sg off p ∧ (p_cv sg p >>> (nI c &&& 31)) &&& 1 = 1 ∧ p_ch sg on off (r ||| p_cv sg p) l
theorem l_ch_p {W : xl_V} {sg : Nat} {on off : Int32} (h5 : sg ≤ 5) (h59 : W.2.1 59 = (m_tb V off sg).2.1 59) (h60 : W.2.1 60 = (m_tb V off sg).2.1 60) : ∀ L r, l_ch W sg on r L ↔ p_ch sg on off r L
  | [], r => Iff.rfl
  | p :: L, r => by
    constructor
    · rintro ⟨c, a1, a2, a3, a4, a5⟩
      rw [h60] at a3
      rw [h59, m_tb_cv a2] at a4
      have a5 := (l_ch_p h5 h59 h60 L _).mp a5
      rw [h59, m_tb_cv a2] at a5
      exact ⟨c, a1, a2, (m_tb_pr h5 a2).mp a3, a4, a5⟩
    · rintro ⟨c, a1, a2, a3, a4, a5⟩
      refine ⟨c, a1, a2, ?_, ?_, (l_ch_p h5 h59 h60 L _).mpr ?_⟩
      · rw [h60]; exact (m_tb_pr h5 a2).mpr a3
      · rw [h59, m_tb_cv a2]; exact a4
      · rw [h59, m_tb_cv a2]; exact a5
theorem l_fo_s {sg : Nat} : ∀ {Ls : List (List Nat)} {b : Nat × List Nat} {B' : Option (Nat × List Nat)}, l_fo sg (some b) Ls B' → ∃ b', B' = some b'
  | [], b, _, h => ⟨b, h⟩
  | _ :: _, _, _, ⟨B1, h1, h2⟩ => by
    obtain ⟨b1, -, ⟨h3, -⟩ | ⟨h4, b0, h3, -⟩⟩ := h1
    · rw [h3] at h2; exact l_fo_s h2
    · rw [h4] at h2
      exact l_fo_s h2
theorem l_fo_n {sg : Nat} {Ls : List (List Nat)} (h : l_fo sg none Ls none) : Ls = [] := by
  cases Ls with
  | nil => rfl
  | cons L Ls =>
    obtain ⟨B1, ⟨b1, -, ⟨h3, -⟩ | ⟨-, b0, h3, -⟩⟩, h2⟩ := h
    · rw [h3] at h2
      obtain ⟨b', hb⟩ := l_fo_s h2
      cases hb
    · cases h3
/-- r is the least number of products, and b the best of that number -/
def p_lr (sg : Nat) (on off : Int32) (r : Nat) (l : List Nat) : Prop :=
  (on = 0 ∧ r = 0 ∧ l = []) ∨ (¬ on = 0 ∧ (∀ L, p_ch sg on off 0 L → r ≤ L.length) ∧ (r = 9 ∨ (1 ≤ r ∧ r ≤ 8 ∧ ∃ g Ls, l_fo sg none Ls (some (g, l)) ∧ ∀ L, L ∈ Ls ↔ p_ch sg on off 0 L ∧ L.length ≤ r)))
def m_lf (V W : xl_V) : Prop := (∀ b j, ¬ (b = 47 ∧ (j = 25 ∨ j = 26)) → W.1 b j = V.1 b j) ∧ (∀ a, (a < 59 ∨ 64 < a) → W.2.1 a = V.2.1 a) ∧ W.2.2 = V.2.2
theorem t_M_leastSum {s c e sg : Nat} {Q : xa_Q} (hc : V.1 47 13 = nI c) (h8 : c ≤ 81) (he : V.1 47 4 = nI e) (h14 : e ≤ 14) (hs : V.1 47 1 = nI sg) (h5 : sg ≤ 5) (hsg : ∀ t, t < e → vp_in (V.2.1 50 t) 5)
    (kk : ∀ W r l, m_lf V W → p_lr sg (m_co V e s 1 c) (m_co V e s 0 c) r l → (r ≤ 8 → l.length = r ∧ l_ar (W.2.1 64) l) → r ≤ 9 → Q (.inl (some (.int (nI r)))) (xl_H xlay W)) :
    xX S (d + 4) 132 0 (xa_ent 4 [.ref 47, .int (nI s)]) [] V 0 0 Q := by
  refine xx_aload_n e_M_leastSum_0 rfl rfl ?_
  refine xx_iload_n e_M_leastSum_1 rfl rfl ?_
  refine xx_iconst (v := 1) e_M_leastSum_2 (by decide) ?_
  refine xc_V2i e_M_leastSum_3 kv_M_178 (xl_obj rfl) (t_M_codesOf (b := 1) hc h8 he h14 hsg) ?_
  refine xx_istore_n e_M_leastSum_6 rfl rfl ?_
  refine xx_iload_n e_M_leastSum_7 rfl rfl ?_
  refine xx_if_ne e_M_leastSum_8 (fun q => ?_) (fun q => ?_)
  · skip
    refine xx_aload_n e_M_leastSum_13 rfl rfl ?_
    refine xx_aload_n e_M_leastSum_14 rfl rfl ?_
    refine xx_iload_n e_M_leastSum_15 rfl rfl ?_
    refine xx_iconst (v := 0) e_M_leastSum_16 (by decide) ?_
    refine xc_V2i e_M_leastSum_17 kv_M_178 (xl_obj rfl) (t_M_codesOf (b := 0) hc h8 he h14 hsg) ?_
    generalize hon : m_co V e s 1 c = on at q kk
    generalize hoff : m_co V e s 0 c = off at kk
    refine xc_V1v e_M_leastSum_20 kv_M_181 (xl_obj rfl) (t_M_tabulate (off := off) hs h5) ?_
    generalize hT : m_tb V off sg = T
    have t1 : T.1 = V.1 := by rw [← hT]; rfl
    have t2 : T.2.2 = V.2.2 := by rw [← hT]; rfl
    have ta : ∀ a, a ≠ 59 → a ≠ 60 → T.2.1 a = V.2.1 a := fun a h1 h2 => by
      rw [← hT]
      show xa_up (xa_up V.2.1 59 _) 60 _ a = _
      rw [xa_up_n _ _ h2, xa_up_n _ _ h1]
    have loop : ∀ m n, 9 - n = m → n ≤ 9 → 1 ≤ n → ∀ W : xl_V, m_vf T W → W.1 47 26 = 0 → (∀ L, p_ch sg on off 0 L → n ≤ L.length) → xX S (d + 4) 132 30 [.ref 47, .int (nI s), .int on, .int (nI n)] [] W 0 0 Q := by
      intro m
      induction m using Nat.strongRecOn with
      | ind m ih =>
        intro n hm hn h1 W hvf hso hmin
        have lf : ∀ U, m_vf T U → m_lf V U := fun U hU => ⟨fun b j hb => by rw [hU.1 b j hb, t1], fun a ha => by rw [hU.2.1 a (by omega) (by omega) (by omega) (by omega), ta a (by omega) (by omega)], hU.2.2.trans t2⟩
        refine xx_iload_n e_M_leastSum_30 rfl rfl ?_
        refine xx_bipush (v := 9) e_M_leastSum_31 (by decide) ?_
        refine xx_icmp_ge e_M_leastSum_33 (fun q1 => ?_) (fun q1 => ?_)
        · have e1 : 9 ≤ n := (xle (a := 9) rfl rfl (by decide) (by omega)).mp q1
          have e2 : n = 9 := by omega
          subst e2
          refine xx_bipush (v := 9) e_M_leastSum_57 (by decide) ?_
          refine xx_iret e_M_leastSum_59 rfl rfl ?_
          exact kk W 9 [] (lf W hvf) (.inr ⟨q, hmin, .inl rfl⟩) (fun z => absurd z (by decide)) (by decide)
        · have e1 : n < 9 := Nat.lt_of_not_le (fun z => q1 ((xle (a := 9) rfl rfl (by decide) (by omega)).mpr z))
          have hsW : W.1 47 1 = nI sg := by rw [hvf.1 47 1 (fun z => by rcases z.2 with z | z <;> exact absurd z (by decide)), t1]; exact hs
          have hlp : ∀ L, l_ch W sg on 0 L ↔ p_ch sg on off 0 L := fun L => l_ch_p (V := V) h5 (by rw [hvf.2.1 59 (by decide) (by decide) (by decide) (by decide), hT]) (by rw [hvf.2.1 60 (by decide) (by decide) (by decide) (by decide), hT]) L 0
          refine xx_aload_n e_M_leastSum_36 rfl rfl ?_
          refine xx_iload_n e_M_leastSum_37 rfl rfl ?_
          refine xx_iload_n e_M_leastSum_38 rfl rfl ?_
          refine xc_V2z e_M_leastSum_39 kv_M_184 (xl_obj rfl) (t_M_tryCovers (V := W) (d := d) (n := n) (sg := sg) (on := on) (B := none) h1 (by omega) hsW h5 (fun L hL => hmin L ((hlp L).mp hL)) hso (fun U B' Ls u1 u2 u3 u4 => xk_v ?_))
          have u1' : m_vf T U := ⟨fun b j hb => (u1.1 b j hb).trans (hvf.1 b j hb), fun a a1 a2 a3 a4 => (u1.2.1 a a1 a2 a3 a4).trans (hvf.2.1 a a1 a2 a3 a4), u1.2.2.trans hvf.2.2⟩
          refine xx_aload_n e_M_leastSum_42 rfl rfl ?_
          refine xh_get e_M_leastSum_43 fg_M_161 rfl rfl ?_
          cases B' with
          | none =>
            have u2 : U.1 47 26 = 0 := u2
            have hLs := l_fo_n u3
            refine xx_if_eq e_M_leastSum_46 (fun _ => ?_) (fun q2 => absurd u2 q2)
            refine xh_incN e_M_leastSum_51 rfl ?_
            refine xx_goto e_M_leastSum_54 ?_
            refine ih (9 - (n + 1)) (by omega) (n + 1) rfl (by omega) (by omega) U u1' u2 (fun L hL => ?_)
            have := hmin L hL
            rcases Nat.lt_or_ge n L.length with h | h
            · exact h
            · have := (u4 L).mpr ⟨(hlp L).mpr hL, h⟩
              rw [hLs] at this
              cases this
          | some b =>
            obtain ⟨g, l⟩ := b
            obtain ⟨r1, r2, r3, r4, r5, r6⟩ := u2
            refine xx_if_eq e_M_leastSum_46 (fun q2 => absurd q2 (by show ¬ U.1 47 26 = 0; rw [r1]; decide)) (fun _ => ?_)
            refine xx_iload_n e_M_leastSum_49 rfl rfl ?_
            refine xx_iret e_M_leastSum_50 rfl rfl ?_
            exact kk U n l (lf U u1') (.inr ⟨q, hmin, .inr ⟨h1, by omega, g, Ls, u3, fun L => by rw [u4 L, hlp L]⟩⟩) (fun _ => ⟨r4, r6⟩) (by omega)
    refine xx_aload_n e_M_leastSum_23 rfl rfl ?_
    refine xx_iconst (v := 0) e_M_leastSum_24 (by decide) ?_
    refine xh_put e_M_leastSum_25 fp_M_161 rfl rfl ⟨rfl, rfl⟩ ?_
    refine xx_iconst (v := 1) e_M_leastSum_28 (by decide) ?_
    refine xx_istore_n e_M_leastSum_29 rfl rfl ?_
    refine loop _ 1 rfl (by decide) (by decide) (xl_i T 47 26 0) ⟨fun b j hb => if_neg (fun z => hb ⟨z.1, .inr z.2⟩), fun _ _ _ _ _ => rfl, rfl⟩ rfl (fun L hL => ?_)
    cases L with
    | nil =>
      have hL : m_op on 0 = none := hL
      obtain ⟨c, hc⟩ := m_op_0 q
      rw [hL] at hc
      cases hc
    | cons p L => exact Nat.succ_le_succ (Nat.zero_le _)
  · skip
    refine xx_iconst (v := 0) e_M_leastSum_11 (by decide) ?_
    refine xx_iret e_M_leastSum_12 rfl rfl ?_
    exact kk V 0 [] ⟨fun _ _ _ => rfl, fun _ _ => rfl, rfl⟩ (.inl ⟨q, rfl, rfl⟩) (fun _ => ⟨rfl, fun q a ha => by cases ha⟩) (by decide)
end XModel10
