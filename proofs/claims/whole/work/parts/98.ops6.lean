section XOps10
variable {S : Nat × (Nat → Int32)} {V A B : xl_V} {d : Nat} {n e c w : Nat} {G : Nat → List Nat}
/-- what the check needs of the class's side A and of the reference's side B -/
def cH (A B : xl_V) (n e c w : Nat) (G : Nat → List Nat) : Prop :=
  (∀ k, k < c → A.2.1 8 k = B.2.1 55 k ∧ (∃ q, q < 2 ^ n ∧ B.2.1 55 k = nI q) ∧ A.2.1 10 k = m_ex B k e) ∧
  (∀ k t, k < c → t < e → (m_en B k t = 0 ∧ A.2.1 12 (k * 14 + t) = -1) ∨ (¬ m_en B k t = 0 ∧ (∃ j, j < c ∧ A.2.1 12 (k * 14 + t) = nI j ∧ m_to B c k t = j) ∧ ¬ (B.2.1 55 k >>> (A.2.1 2 t &&& 31)) &&& 1 = n_lv A t)) ∧
  (∀ t, t < e → ∃ s, s < n ∧ A.2.1 2 t = nI s ∧ B.2.1 50 t = nI s) ∧ (∀ s, s < n → B.2.1 48 s = n_in A (nI s)) ∧ (∀ s q, s < n → q < 2 ^ n → ga_ou A (ga w s) (nI q) = m_vl n (nI q) (G s)) ∧ n ≤ 5 ∧ c ≤ 80 ∧ 0 < c
theorem mvl01 (sg : Nat) (cd : Int32) : ∀ l, m_vl sg cd l = 0 ∨ m_vl sg cd l = 1
  | [] => Or.inl rfl
  | p :: l => by
    unfold m_vl
    split
    · exact mvl01 sg cd l
    · exact Or.inr rfl
theorem c_acE (h : cH A B n e c w G) {k s : Nat} (hk : k < c) (hs : s < n) (hi : n_in A (nI s) = 0) : c_ac A w s (A.2.1 8 k) = m_ac B n G k s := by
  obtain ⟨h1, -, -, h4, h5, -⟩ := h
  obtain ⟨a1, ⟨q, hq, a2⟩, -⟩ := h1 k hk
  unfold c_ac m_ac
  rw [h4 s hs, if_pos hi, a1, a2, h5 s q hs hq]
theorem m_ac_in (h : cH A B n e c w G) {k s : Nat} (hs : s < n) (hi : ¬ n_in A (nI s) = 0) : m_ac B n G k s = 0 := by
  unfold m_ac
  rw [h.2.2.2.1 s hs, if_neg hi]
theorem c_mfE (h : cH A B n e c w G) {k t : Nat} (hk : k < c) (ht : t < e) : c_mf A w k t = 0 ↔ m_fr B n G k t = 0 := by
  obtain ⟨s, hs, s1, s2⟩ := h.2.2.1 t ht
  have h80 := h.2.2.2.2.2.2.1
  have h5n := h.2.2.2.2.2.1
  have es : (nI s).toNatClampNeg = s := nI_clamp (xn31 (by omega))
  rcases h.2.1 k t hk ht with ⟨a1, a2⟩ | ⟨a1, ⟨j, hj, a2, -⟩, a3⟩
  · unfold c_mf m_fr
    rw [if_pos a2, if_pos a1]
  · have hne : ¬ A.2.1 12 (k * 14 + t) = -1 := by rw [a2]; exact nI_m1 (by omega)
    have hinp : m_inp B t = n_in A (nI s) := by unfold m_inp; rw [s2, es]; exact h.2.2.2.1 s hs
    unfold c_mf m_fr
    rw [if_neg hne, if_neg a1, s1, es, hinp, s2, es]
    by_cases hi : n_in A (nI s) = 0
    · rw [if_pos hi, if_pos hi]
      obtain ⟨b1, ⟨q, hq, b2⟩, -⟩ := h.1 k hk
      have hv := h.2.2.2.2.1 s q hs hq
      unfold m_ac
      rw [h.2.2.2.1 s hs, if_pos hi, b1, b2, hv]
      rw [s1, b2, xbit_sh _ (show s < 32 by omega)] at a3
      rw [xbit_sh _ (show s < 32 by omega)]
      unfold n_lv at a3 ⊢
      rcases mvl01 n (nI q) (G s) with z | z <;> rw [z] <;> cases hb : xbit (nI q) s <;> rw [hb] at a3 <;> by_cases hl : A.2.1 3 t = 0 <;> simp [hl] at a3 ⊢
    · rw [if_neg hi, if_neg hi]
theorem c_toE (h : cH A B n e c w G) {k t : Nat} (hk : k < c) (ht : t < e) (hf : ¬ m_fr B n G k t = 0) : (A.2.1 12 (k * 14 + t)).toNatClampNeg = m_to B c k t ∧ m_to B c k t < c := by
  have h80 := h.2.2.2.2.2.2.1
  rcases h.2.1 k t hk ht with ⟨a1, -⟩ | ⟨-, ⟨j, hj, a2, a3⟩, -⟩
  · exfalso
    refine hf ?_
    unfold m_fr; rw [if_pos a1]
  · rw [a2, a3, nI_clamp (xn31 (by omega))]; exact ⟨rfl, hj⟩
theorem c_RE (h : cH A B n e c w G) {k : Nat} (hk : k < c) : c_R A w e k ↔ m_R B n G e c k := by
  have c0 := h.2.2.2.2.2.2.2
  constructor
  · intro hR P p0 ps
    refine (hR (fun j => j < c ∧ P j) ⟨c0, p0⟩ (fun j t hj ht hm => ?_)).2
    have hf : ¬ m_fr B n G j t = 0 := fun z => hm ((c_mfE h hj.1 ht).mpr z)
    obtain ⟨e1, e2⟩ := c_toE h hj.1 ht hf
    rw [e1]
    exact ⟨e2, ps j t hj.2 hj.1 ht hf⟩
  · intro hR P p0 ps
    refine (hR (fun j => j < c ∧ P j) ⟨c0, p0⟩ (fun j t hj hjc ht hf => ?_)).2
    obtain ⟨e1, e2⟩ := c_toE h hjc ht hf
    have := ps j t hj.2 ht (fun z => hf ((c_mfE h hjc ht).mp z))
    rw [e1] at this
    exact ⟨e2, this⟩
theorem m_ex_out (h : cH A B n e c w G) {k s : Nat} (hs : s < n) : ∀ t, t ≤ e → xbit (m_ex B k t) s = true → n_in A (nI s) = 0
  | 0, _, z => by
    have : xbit (0 : Int32) s = true := z
    rw [xbit_0] at this; cases this
  | t + 1, ht, z => by
    have ih := m_ex_out h (k := k) hs t (by omega)
    obtain ⟨s', h1, h2, h3⟩ := h.2.2.1 t (by omega)
    have h5n := h.2.2.2.2.2.1
    unfold m_ex at z
    split at z
    · exact ih z
    · split at z
      · rename_i q
        rw [h3, xbit_or, xbit_1 s' (by omega) s (by omega), Bool.or_eq_true] at z
        rcases z with z | z
        · exact ih z
        · have e1 : s = s' := of_decide_eq_true z
          subst e1
          rw [h3, nI_clamp (xn31 (by omega))] at q
          rw [← h.2.2.2.1 s hs]; exact q
      · exact ih z
theorem g_exE (h : cH A B n e c w G) {k s : Nat} (hk : k < c) (hs : s < n) : g_ex A (nI s) k = if xbit (m_ex B k e) s = true then 1 else 0 := by
  have h5n := h.2.2.2.2.2.1
  unfold g_ex
  rw [(h.1 k hk).2.2, xbit_sh _ (show s < 32 by omega)]
  cases xbit (m_ex B k e) s <;> decide
theorem c_x1 (h : cH A B n e c w G) (hr : ∀ k, k < c → (¬ A.2.1 16 k = 0 ↔ ¬ B.2.1 67 k = 0)) : xfnd (c_fk A (c_f1 A w e) n) c = m_cb B n G e c 1 := by
  unfold m_cb
  refine xfnd_cg c (fun k hk => bool_eq ?_)
  have e1 : (¬ m_ck B n G e c 1 k = 0) ↔ ∃ t, t < e ∧ m_ht B n G c k t = true := by
    unfold m_ck m_hz
    rw [if_pos rfl, ← isS_t]
    cases (xfnd (m_ht B n G c k) e).isSome <;> simp
  rw [decide_eq_true_iff, e1]
  unfold c_fk
  rw [isS_t]
  constructor
  · rintro ⟨s, hs, z⟩
    obtain ⟨z1, z2, z3⟩ := of_decide_eq_true z
    refine ⟨(hr k hk).mp z1, ?_⟩
    unfold c_f1 at z3
    by_cases q1 : c_ac A w s (A.2.1 8 k) = 0
    · rw [if_pos q1] at z3; exact absurd rfl z3
    · rw [if_neg q1] at z3
      by_cases q2 : c_ms A w e k s = 0
      · rw [if_pos q2] at z3; exact absurd rfl z3
      · have q3 : (xfnd (c_st A w k s) e).isSome = true := by
          unfold c_ms at q2
          cases hq : (xfnd (c_st A w k s) e).isSome with
          | true => rfl
          | false => rw [hq] at q2; exact absurd rfl q2
        obtain ⟨t, ht, y⟩ := isS_t.mp q3
        obtain ⟨y1, y2, y3⟩ := of_decide_eq_true y
        obtain ⟨s', t1, t2, t3⟩ := h.2.2.1 t ht
        have hf : ¬ m_fr B n G k t = 0 := fun u => y2 ((c_mfE h hk ht).mpr u)
        obtain ⟨o1, o2⟩ := c_toE h hk ht hf
        refine ⟨t, ht, isS_t.mpr ⟨s, hs, decide_eq_true ⟨?_, ?_, ?_⟩⟩⟩
        · rw [t3, ← t2]; exact fun u => y1 u.symm
        · rw [← c_acE h hk hs z2]; exact q1
        · unfold m_hj
          rw [if_neg hf, ← c_acE h o2 hs z2, ← o1]; exact y3
  · rintro ⟨z1, t, ht, z⟩
    obtain ⟨s, hs, y⟩ := isS_t.mp z
    obtain ⟨y1, y2, y3⟩ := of_decide_eq_true y
    have hi : n_in A (nI s) = 0 := Decidable.not_not.mp (fun u => y2 (m_ac_in h hs u))
    have hf : ¬ m_fr B n G k t = 0 := fun u => by
      unfold m_hj at y3
      rw [if_pos u] at y3
      exact y2 y3
    obtain ⟨o1, o2⟩ := c_toE h hk ht hf
    obtain ⟨s', t1, t2, t3⟩ := h.2.2.1 t ht
    refine ⟨s, hs, decide_eq_true ⟨(hr k hk).mpr z1, hi, ?_⟩⟩
    unfold c_f1
    rw [if_neg (by rw [c_acE h hk hs hi]; exact y2), if_neg]
    · decide
    · unfold c_ms
      have : (xfnd (c_st A w k s) e).isSome = true := isS_t.mpr ⟨t, ht, decide_eq_true ⟨by rw [t2, ← t3]; exact fun u => y1 u.symm, fun u => hf ((c_mfE h hk ht).mp u), by
        unfold m_hj at y3
        rw [if_neg hf] at y3
        rw [o1, c_acE h o2 hs hi]; exact y3⟩⟩
      rw [this]; decide
theorem c_x2 (h : cH A B n e c w G) (hr : ∀ k, k < c → (¬ A.2.1 16 k = 0 ↔ ¬ B.2.1 67 k = 0)) : xfnd (c_fk A (c_f2 A w) n) c = m_cb B n G e c 2 := by
  unfold m_cb
  refine xfnd_cg c (fun k hk => bool_eq ?_)
  have h5n := h.2.2.2.2.2.1
  have e1 : (¬ m_ck B n G e c 2 k = 0) ↔ ∃ s, s < n ∧ m_us B n G e k s = true := by
    unfold m_ck m_un
    rw [if_neg (by decide), if_pos rfl, ← isS_t]
    cases (xfnd (m_us B n G e k) n).isSome <;> simp
  rw [decide_eq_true_iff, e1]
  unfold c_fk
  rw [isS_t]
  constructor
  · rintro ⟨s, hs, z⟩
    obtain ⟨z1, z2, z3⟩ := of_decide_eq_true z
    unfold c_f2 at z3
    by_cases q1 : c_ac A w s (A.2.1 8 k) = 0
    · rw [if_pos q1] at z3; exact absurd rfl z3
    · rw [if_neg q1, g_exE h hk hs] at z3
      refine ⟨(hr k hk).mp z1, s, hs, decide_eq_true ⟨by rw [← c_acE h hk hs z2]; exact q1, ?_⟩⟩
      rw [xbit_sh _ (show s < 32 by omega)]
      cases hb : xbit (m_ex B k e) s
      · rfl
      · rw [hb] at z3; simp at z3
  · rintro ⟨z1, s, hs, z⟩
    obtain ⟨y1, y2⟩ := of_decide_eq_true z
    have hi : n_in A (nI s) = 0 := Decidable.not_not.mp (fun u => y1 (m_ac_in h hs u))
    rw [xbit_sh _ (show s < 32 by omega)] at y2
    refine ⟨s, hs, decide_eq_true ⟨(hr k hk).mpr z1, hi, ?_⟩⟩
    unfold c_f2
    rw [if_neg (by rw [c_acE h hk hs hi]; exact y1), g_exE h hk hs]
    cases hb : xbit (m_ex B k e) s
    · decide
    · rw [hb] at y2; simp at y2
theorem c_x3 (h : cH A B n e c w G) (hr : ∀ k, k < c → (¬ A.2.1 16 k = 0 ↔ ¬ B.2.1 67 k = 0)) : xfnd (c_fk A (c_f3 A w) n) c = m_cb B n G e c 3 := by
  unfold m_cb
  refine xfnd_cg c (fun k hk => bool_eq ?_)
  have h5n := h.2.2.2.2.2.1
  have e1 : (¬ m_ck B n G e c 3 k = 0) ↔ ∃ s, s < n ∧ m_mss B n G e k s = true := by
    unfold m_ck m_mi
    rw [if_neg (by decide), if_neg (by decide), ← isS_t]
    cases (xfnd (m_mss B n G e k) n).isSome <;> simp
  rw [decide_eq_true_iff, e1]
  unfold c_fk
  rw [isS_t]
  constructor
  · rintro ⟨s, hs, z⟩
    obtain ⟨z1, z2, z3⟩ := of_decide_eq_true z
    unfold c_f3 at z3
    by_cases q1 : c_ac A w s (A.2.1 8 k) = 0
    · rw [if_pos q1, g_exE h hk hs] at z3
      refine ⟨(hr k hk).mp z1, s, hs, decide_eq_true ⟨?_, by rw [← c_acE h hk hs z2]; exact q1⟩⟩
      rw [xbit_sh _ (show s < 32 by omega)]
      cases hb : xbit (m_ex B k e) s
      · rw [hb] at z3; simp at z3
      · rfl
    · rw [if_neg q1] at z3; exact absurd rfl z3
  · rintro ⟨z1, s, hs, z⟩
    obtain ⟨y1, y2⟩ := of_decide_eq_true z
    rw [xbit_t _ (show s < 32 by omega)] at y1
    have hi : n_in A (nI s) = 0 := m_ex_out h hs e (Nat.le_refl e) y1
    refine ⟨s, hs, decide_eq_true ⟨(hr k hk).mpr z1, hi, ?_⟩⟩
    unfold c_f3
    rw [if_pos (by rw [c_acE h hk hs hi]; exact y2), g_exE h hk hs, y1]
    decide
/-- the two checks answer alike -/
theorem c_xE (h : cH A B n e c w G) (hr : ∀ k, k < c → (¬ A.2.1 16 k = 0 ↔ ¬ B.2.1 67 k = 0)) (hf : B.1 47 12 = -1) : (c_xf A w e c n).1 = (m_cs B n G e c 3 1).1 ∧ (m_cs B n G e c 3 1).2.1 47 12 = (c_xf A w e c n).2 ∧ (m_cs B n G e c 3 1).2.2 = B.2 ∧ ∀ a j, ¬ (a = 47 ∧ j = 12) → (m_cs B n G e c 3 1).2.1 a j = B.1 a j := by
  have x1 := c_x1 h hr
  have x2 := c_x2 h hr
  have x3 := c_x3 h hr
  have h80 := h.2.2.2.2.2.2.1
  have cb : ∀ v k, m_cb B n G e c v = some k → k < 5000 := fun v k z => by have := (xfnd_s z).1; omega
  have ii : ∀ k : Nat, ∀ a j, ¬ (a = 47 ∧ j = 12) → (xl_i B 47 12 (nI k)).1 a j = B.1 a j := fun k a j hn => by
    show (if a = 47 ∧ j = 12 then nI k else B.1 a j) = _
    rw [if_neg hn]
  unfold c_xf
  rw [x1, x2, x3]
  cases o1 : m_cb B n G e c 1 with
  | some k =>
    have e1 : m_cs B n G e c 3 1 = (nI 1, xl_i B 47 12 (nI k)) := by show (match m_cb B n G e c 1 with | some k => _ | none => _) = _; rw [o1]
    rw [e1, if_pos (show ¬ g_io (some k) = -1 from nI_m1 (cb 1 k o1))]
    exact ⟨rfl, rfl, rfl, ii k⟩
  | none =>
    rw [if_neg (fun z => z rfl)]
    cases o2 : m_cb B n G e c 2 with
    | some k =>
      have e1 : m_cs B n G e c 3 1 = (nI 2, xl_i B 47 12 (nI k)) := by
        show (match m_cb B n G e c 1 with | some k => _ | none => (match m_cb B n G e c 2 with | some k => _ | none => _)) = _
        rw [o1, o2]
      rw [e1, if_pos (show ¬ g_io (some k) = -1 from nI_m1 (cb 2 k o2))]
      exact ⟨rfl, rfl, rfl, ii k⟩
    | none =>
      rw [if_neg (fun z => z rfl)]
      cases o3 : m_cb B n G e c 3 with
      | some k =>
        have e1 : m_cs B n G e c 3 1 = (nI 3, xl_i B 47 12 (nI k)) := by
          show (match m_cb B n G e c 1 with | some k => _ | none => (match m_cb B n G e c 2 with | some k => _ | none => (match m_cb B n G e c 3 with | some k => _ | none => _))) = _
          rw [o1, o2, o3]
        rw [e1, if_pos (show ¬ g_io (some k) = -1 from nI_m1 (cb 3 k o3))]
        exact ⟨rfl, rfl, rfl, ii k⟩
      | none =>
        have e1 : m_cs B n G e c 3 1 = (0, B) := by
          show (match m_cb B n G e c 1 with | some k => _ | none => (match m_cb B n G e c 2 with | some k => _ | none => (match m_cb B n G e c 3 with | some k => _ | none => _))) = _
          rw [o1, o2, o3]
          rfl
        rw [e1, if_neg (fun z => z rfl)]
        exact ⟨rfl, hf, rfl, fun _ _ _ => rfl⟩
end XOps10
section XOps11
variable {S : Nat × (Nat → Int32)} {V A B : xl_V} {d : Nat} {n e c w : Nat} {G : Nat → List Nat}
theorem sG_c4 {V W : xl_V} {e c : Nat} (b1 : W.1 6 0 = V.1 6 0) (b2 : W.1 47 13 = V.1 47 13) (b3 : W.1 0 4 = V.1 0 4) (b4 : W.1 1 0 = V.1 1 0) (h2 : ∀ a, (a < 13 ∨ (48 ≤ a ∧ a < 57)) → W.2.1 a = V.2.1 a) (h : sG V e c) : sG W e c := by
  have a4 := h2 54 (by decide)
  have a5 := h2 55 (by decide)
  have a2 := h2 52 (by decide)
  have a3 := h2 53 (by decide)
  have a0 := h2 50 (by decide)
  have a1 := h2 51 (by decide)
  have en : ∀ k t, m_en W k t = m_en V k t := fun k t => by unfold m_en; rw [a4, a2]
  have sf : ∀ k t, m_sf W k t = m_sf V k t := fun k t => by unfold m_sf; rw [a4, a2, a3]
  have rt : ∀ k t, m_rt W k t = m_rt V k t := fun k t => by unfold m_rt; rw [a5, a0, a1]
  have mk : ∀ k t, m_mk W k t = m_mk V k t := fun k t => by unfold m_mk; rw [a4, a2, a3]
  have cd : ∀ k t, m_cd W k t = m_cd V k t := fun k t => by unfold m_cd; rw [a5, a0, a1]
  have is : ∀ m c, m_is W m c = m_is V m c := fun m c => by funext j; unfold m_is; rw [a4, a5]
  obtain ⟨g1, g2, g3, g4, g5, g6, g7, g8⟩ := h
  refine ⟨b1.trans g1, b2.trans g2, g3, g4, fun k hk => ?_, fun k t hk ht => ?_, fun hv k t hk ht => ?_, fun k hk => by rw [b4, h2 8 (by decide)]; exact g8 k hk⟩
  · rw [h2 7 (by decide), h2 8 (by decide), h2 9 (by decide), h2 10 (by decide), a4, a5, h2 56 (by decide), m_ex_cg (h2 48 (by decide)) a0 a2 a4]
    exact g5 k hk
  · unfold sC
    rw [h2 12 (by decide), en, sf, rt, mk, cd, is]
    exact g6 k t hk ht
  · rw [en, sf, rt]
    rw [b3] at hv
    exact g7 hv k t hk ht
theorem code_lt {x : Int32} {n : Nat} (hn : n ≤ 5) (h : ∀ b, n ≤ b → b < 32 → xbit x b = false) : ∃ q, q < 2 ^ n ∧ x = nI q := by
  have hlt : x.toBitVec.toNat < 2 ^ n := by
    apply Nat.lt_pow_two_of_testBit
    intro b hb
    by_cases h32 : b < 32
    · exact h b hb h32
    · exact xbit_h (by omega) x
  have h2 : 2 ^ n ≤ 2 ^ 5 := Nat.pow_le_pow_right (by decide) hn
  refine ⟨x.toBitVec.toNat, hlt, ?_⟩
  apply xN_inj
  rw [xN_nI (by omega)]
  rfl
/-- the check's facts, out of the relation -/
theorem cH_of {p : Nat} (hN : sN V n e p) (hG : sG V e c) (hf : V.1 0 4 = 0) (hW : sW V n w G) (a1 : A.1 1 6 = V.1 1 6) (a2 : ∀ s, s < 5 → A.1 (ga w s) 2 = V.1 (ga w s) 2) (a3 : ∀ a, a < 13 → A.2.1 a = V.2.1 a) (b1 : ∀ a, 48 ≤ a → a < 57 → B.2.1 a = V.2.1 a) : cH A B n e c w G := by
  obtain ⟨n1, n2, n5⟩ := hN.1
  have ed := hN.2.2.2.2.2.2.2.1
  obtain ⟨g1, g2, g3, g4, g5, g6, g7, g8⟩ := hG
  have hin : ∀ s, n_in A s = n_in V s := fun s => by unfold n_in; rw [a1]
  have en : ∀ k t, m_en B k t = m_en V k t := fun k t => by unfold m_en; rw [b1 54 (by decide) (by decide), b1 52 (by decide) (by decide)]
  have to : ∀ k t, m_to B c k t = m_to V c k t := fun k t => by
    unfold m_to m_mk m_cd
    rw [b1 54 (by decide) (by decide), b1 52 (by decide) (by decide), b1 53 (by decide) (by decide), b1 55 (by decide) (by decide), b1 50 (by decide) (by decide), b1 51 (by decide) (by decide)]
    congr 1
    refine xfnd_cg c (fun j _ => ?_)
    unfold m_is
    rw [b1 54 (by decide) (by decide), b1 55 (by decide) (by decide)]
  refine ⟨fun k hk => ?_, fun k t hk ht => ?_, fun t ht => ?_, fun s hs => ?_, fun s q hs hq => ?_, n5, g4, g3⟩
  · obtain ⟨q1, q2, q3, q4⟩ := g5 k hk
    rw [a3 8 (by decide), a3 10 (by decide), b1 55 (by decide) (by decide), m_ex_cg (V := V) (W := B) (b1 48 (by decide) (by decide)) (b1 50 (by decide) (by decide)) (b1 52 (by decide) (by decide)) (b1 54 (by decide) (by decide))]
    refine ⟨q2, ?_, q4⟩
    rw [← q2]
    refine code_lt n5 (fun b hb h32 => g8 k hk b ?_ h32)
    rw [n1, nI_clamp (xn31 (by omega))]; exact hb
  · obtain ⟨q1, q2⟩ := g6 k t hk ht
    rw [en, a3 12 (by decide), q1, to]
    by_cases z : m_en V k t = 0
    · refine Or.inl ⟨z, ?_⟩
      unfold sC; rw [if_pos (Or.inl z)]
    · obtain ⟨y1, y2⟩ := g7 hf k t hk ht z
      obtain ⟨j, hj⟩ := q2 z y1 y2
      refine Or.inr ⟨z, ⟨j, (xfnd_s hj).1, ?_, ?_⟩, ?_⟩
      · unfold sC
        rw [if_neg, hj]
        · rfl
        · rintro (u | u | u)
          · exact z u
          · exact y1 u
          · exact y2 u
      · unfold m_to; rw [hj]; rfl
      · obtain ⟨r1, ⟨s, r2, r3⟩, r4, r5, -⟩ := ed t ht
        rw [b1 55 (by decide) (by decide), a3 2 (by decide)]
        unfold n_lv
        rw [a3 3 (by decide)]
        unfold m_rt at y2
        rw [r1, r4] at y2
        rw [r3, xbit_sh _ (show s < 32 by omega)] at y2 ⊢
        rcases r5 with r5 | r5 <;> rw [r5] at y2 ⊢ <;> cases hb : xbit (V.2.1 55 k) s <;> rw [hb] at y2 <;> simp at y2 ⊢
  · obtain ⟨r1, ⟨s, r2, r3⟩, -⟩ := ed t ht
    rw [a3 2 (by decide), b1 50 (by decide) (by decide), r1]
    exact ⟨s, r2, r3, r3⟩
  · rw [b1 48 (by decide) (by decide), hin]; exact hN.2.2.2.2.2.1.1 s hs
  · obtain ⟨w1, w2, w3, w4⟩ := hW
    rw [ga_ou_u, a2 s (by omega), (w4 s hs).1.2.2, w2]
    exact (m_vl_u n5 hq (fun z hz => spf_cv n5 ((w4 s hs).2 z hz))).symm
theorem op_17 (h : Sim V) : xX S 18 92 0 (xa_ent 2 [.ref 0]) [] V 1 6 (xpo (Jd [(eS, 1)] (RK S Sim 19 148 3 [.ref 47]))) := by
  obtain ⟨n, e, p, w, G, hN, hV, hW⟩ := id h
  obtain ⟨n1, n2, n5⟩ := hN.1
  obtain ⟨e1, e2, e14⟩ := hN.2.1
  have ed := hN.2.2.2.2.2.2.2.1
  by_cases hf : V.1 0 4 = 0
  · have hG : ∃ c, sG V e c := by
      rcases hV.2.2 with ⟨hv, -⟩ | ⟨v, c, -, -, hG⟩
      · rw [hf] at hv
        rcases hv with hv | hv <;> exact absurd hv (by decide)
      · exact ⟨c, hG⟩
    obtain ⟨c, hG⟩ := hG
    have h80 := hG.2.2.2.1
    have c0 := hG.2.2.1
    have hw := hW.1.1
    have hsg : ∀ t, t < e → ∃ s, s < 5 ∧ V.2.1 2 t = nI s := fun t ht => by
      obtain ⟨-, ⟨s, q2, q3⟩, -⟩ := ed t ht
      exact ⟨s, by omega, q3⟩
    have hsc : ∀ k t, k < c → t < e → ¬ V.2.1 12 (k * 14 + t) = -1 → ∃ j, j < c ∧ V.2.1 12 (k * 14 + t) = nI j := fun k t hk ht hne => by
      obtain ⟨q1, q2⟩ := hG.2.2.2.2.2.1 k t hk ht
      rw [q1] at hne ⊢
      unfold sC at hne ⊢
      by_cases z : m_en V k t = 0 ∨ m_sf V k t = 0 ∨ m_rt V k t = 0
      · rw [if_pos z] at hne; exact absurd rfl hne
      · obtain ⟨j, hj⟩ := q2 (fun u => z (Or.inl u)) (fun u => z (Or.inr (Or.inl u))) (fun u => z (Or.inr (Or.inr u)))
        rw [if_neg z, hj]
        exact ⟨j, (xfnd_s hj).1, rfl⟩
    refine xx_wide (mc' := 0) (ms' := 0) (by decide) (by decide) (t_CG_check (S := S) (d := 12) hf hW.1 hG.1 c0 h80 e1 e14 n1 n5 hsg hsc (fun X hX => ?_))
    refine ⟨_, rfl, Or.inl ⟨_, rfl, fun f0 => ?_⟩⟩
    obtain ⟨⟨f1, f2, f3⟩, hrd⟩ := hX
    generalize hxf : c_xf X w e c n = xf
    -- the class's end
    have v1 : ∀ a j, a ≠ 13 → ¬ (a = 0 ∧ j = 5) → (xl_o (xl_i (xl_i X 13 0 xf.2) 0 5 xf.2) f0).1 a j = V.1 a j := fun a j h13 h05 => by
      show (if a = 0 ∧ j = 5 then xf.2 else if a = 13 ∧ j = 0 then xf.2 else X.1 a j) = _
      rw [if_neg h05, if_neg (fun z => h13 z.1), f1 a j (fun z => h13 z.1)]
    have v05 : (xl_o (xl_i (xl_i X 13 0 xf.2) 0 5 xf.2) f0).1 0 5 = xf.2 := rfl
    have v2 : ∀ a, a ≠ 16 → a ≠ 17 → (xl_o (xl_i (xl_i X 13 0 xf.2) 0 5 xf.2) f0).2.1 a = V.2.1 a := fun a h1 h2 => f2 a h1 h2
    have v3 : (xl_o (xl_i (xl_i X 13 0 xf.2) 0 5 xf.2) f0).2.2.1 = V.2.2.1 := by show X.2.2.1 = _; rw [f3]
    generalize xl_o (xl_i (xl_i X 13 0 xf.2) 0 5 xf.2) f0 = V1 at v1 v05 v2 v3
    have hof : ∀ t, t < e → ∃ s, s < n ∧ V1.2.1 50 t = nI s := fun t ht => by
      obtain ⟨q1, ⟨s, q2, q3⟩, -⟩ := ed t ht
      rw [v2 50 (by decide) (by decide), q1]
      exact ⟨s, q2, q3⟩
    have enE : ∀ k t, m_en V1 k t = m_en V k t := fun k t => by unfold m_en; rw [v2 54 (by decide) (by decide), v2 52 (by decide) (by decide)]
    have hcl : ∀ k t, k < c → t < e → ¬ m_en V1 k t = 0 → ∃ j, xfnd (m_is V1 (m_mk V1 k t) (m_cd V1 k t)) c = some j := fun k t hk ht hen => by
      rw [enE] at hen
      obtain ⟨y1, y2⟩ := hG.2.2.2.2.2.2.1 hf k t hk ht hen
      obtain ⟨j, hj⟩ := (hG.2.2.2.2.2.1 k t hk ht).2 hen y1 y2
      refine ⟨j, ?_⟩
      rw [← hj]
      unfold m_mk m_cd
      rw [v2 54 (by decide) (by decide), v2 52 (by decide) (by decide), v2 53 (by decide) (by decide), v2 55 (by decide) (by decide), v2 50 (by decide) (by decide), v2 51 (by decide) (by decide)]
      refine xfnd_cg c (fun q _ => ?_)
      unfold m_is
      rw [v2 54 (by decide) (by decide), v2 55 (by decide) (by decide)]
    have hgo : m_go V1 n G := by unfold m_go; rw [v2 57 (by decide) (by decide), v2 58 (by decide) (by decide)]; exact hW.2.2.1
    have gad : ∀ s, s < 5 → ga w s ≠ 13 ∧ ga w s ≠ 0 ∧ ga w s + 1 ≠ 16 ∧ ga w s + 1 ≠ 17 := fun s hs => by have := ga_lt hw hs; omega
    have cA : cH V (xl_i V1 47 0 0) n e c w G := cH_of hN hG hf hW rfl (fun _ _ => rfl) (fun _ _ => rfl) (fun a h1 h2 => v2 a (by omega) (by omega))
    refine t_M_check (S := S) (V := V1) (d := 13) (by rw [v1 47 13 (by decide) (by decide)]; exact hG.2.1) (by omega) c0 (by rw [v1 47 4 (by decide) (by decide)]; exact e2) e14 (by rw [v1 47 1 (by decide) (by decide)]; exact n2) n5 hgo hof (by rw [v1 47 11 (by decide) (by decide), ← hV.1]; exact hf) hcl (fun fR hfR Y hY => ?_)
    have y1 : ∀ a j, ¬ (a = 47 ∧ (j = 0 ∨ j = 12)) → Y.1 a j = V1.1 a j := fun a j hn => by
      rw [hY]
      show (if a = 47 ∧ j = 12 then -1 else if a = 47 ∧ j = 0 then 0 else V1.1 a j) = _
      rw [if_neg (fun z => hn ⟨z.1, Or.inr z.2⟩), if_neg (fun z => hn ⟨z.1, Or.inl z.2⟩)]
    have y2 : ∀ a, a ≠ 67 → Y.2.1 a = V1.2.1 a := fun a ha => by rw [hY]; exact xa_up_n _ _ ha
    have y67 : Y.2.1 67 = fR := by rw [hY]; rfl
    have y0 : Y.1 47 0 = 0 := by rw [hY]; rfl
    have y12 : Y.1 47 12 = -1 := by rw [hY]; rfl
    have y22 : Y.2.2 = V1.2.2 := by rw [hY]; rfl
    have cB : cH X Y n e c w G := cH_of hN hG hf hW (f1 1 6 (by decide)) (fun s hs => f1 _ _ (fun z => (gad s hs).1 z.1)) (fun a ha => f2 a (by omega) (by omega)) (fun a h1 h2 => by rw [y2 a (by omega)]; exact v2 a (by omega) (by omega))
    have hr : ∀ k, k < c → (¬ X.2.1 16 k = 0 ↔ ¬ Y.2.1 67 k = 0) := fun k hk => by
      rw [hrd k (by omega), y67, hfR k hk]
      exact c_RE cA hk
    obtain ⟨q1, q2, q3, q4⟩ := c_xE cB hr y12
    rw [hxf] at q1 q2
    generalize m_cs Y n G e c 3 1 = Z at q1 q2 q3 q4
    obtain ⟨Z1, V2⟩ := Z
    have q1 : xf.1 = Z1 := q1
    have q2 : V2.1 47 12 = xf.2 := q2
    have q3 : V2.2 = Y.2 := q3
    have q4 : ∀ a j, ¬ (a = 47 ∧ j = 12) → V2.1 a j = Y.1 a j := q4
    have z1 : ∀ a j, a ≠ 13 → ¬ (a = 0 ∧ j = 5) → ¬ (a = 47 ∧ (j = 0 ∨ j = 12)) → V2.1 a j = V.1 a j := fun a j h13 h05 h47 => by
      rw [q4 a j (fun z => h47 ⟨z.1, Or.inr z.2⟩), y1 a j h47, v1 a j h13 h05]
    have z2 : ∀ a, a ≠ 16 → a ≠ 17 → a ≠ 67 → V2.2.1 a = V.2.1 a := fun a h1 h2 h3 => by rw [q3, y2 a h3, v2 a h1 h2]
    refine ⟨V2, rfl, Z1, rfl, ?_, fun x hx => ?_, ?_, ?_⟩
    · rw [q4 47 0 (by decide)]; exact y0
    · rw [← Option.some.inj hx]; exact q1.symm
    · refine ⟨n, e, p, w, G, sN_c3 (fun j => z1 1 j (by decide) (by omega) (by omega)) (fun j h0 h11 => z1 47 j (by decide) (by omega) (by omega)) (fun a ha => z2 a (by omega) (by omega) (by omega)) hN, ⟨?_, ?_, Or.inr ⟨0, c, by decide, ?_, ?_⟩⟩, ?_, ?_, ?_, fun s hs => ⟨?_, (hW.2.2.2 s hs).2⟩⟩
      · rw [z1 0 4 (by decide) (by decide) (by decide), z1 47 11 (by decide) (by decide) (by decide)]; exact hV.1
      · rw [q2, q4 0 5 (by decide), y1 0 5 (by decide)]; exact v05
      · rw [z1 0 4 (by decide) (by decide) (by decide)]; exact hf
      · exact sG_c4 (z1 6 0 (by decide) (by decide) (by decide)) (z1 47 13 (by decide) (by decide) (by decide)) (z1 0 4 (by decide) (by decide) (by decide)) (z1 1 0 (by decide) (by decide) (by decide)) (fun a ha => z2 a (by omega) (by omega) (by omega)) hG
      · unfold c_ok; rw [q3, y22, v3]; exact hW.1
      · rw [z2 46 (by decide) (by decide) (by decide)]; exact hW.2.1
      · unfold m_go; rw [z2 57 (by decide) (by decide) (by decide), z2 58 (by decide) (by decide) (by decide)]; exact hW.2.2.1
      · obtain ⟨t1, t2, t3, t4⟩ := gad s (by omega)
        have gl := ga_lt hw (show s < 5 by omega)
        have := (hW.2.2.2 s hs).1
        unfold l_gt at this ⊢
        rw [z1 _ _ t1 (fun z => t2 z.1) (by omega), z1 _ _ t1 (fun z => t2 z.1) (by omega), z2 _ t3 t4 (by omega), z2 46 (by decide) (by decide) (by decide)]
        exact this
    · rw [q3, y22]
  · refine cl_ex (t_CG_check_e (d := 17) hf) (c := 1) (by decide) ?_
    refine rf_ok (t_M_checkX (d := 18) (fun z => hf (hV.1.trans z))) rfl (fun x hx => by cases hx) (Sim_c0 h) rfl
end XOps11
