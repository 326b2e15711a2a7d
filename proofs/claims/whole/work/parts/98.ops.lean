/-! The calls that make the net: class and reference stay alike. -/
section XOps
variable {S : Nat × (Nat → Int32)} {V : xl_V} {d : Nat}
theorem cl_ok {y nL : Nat} {as : List Value} {r : Int32} {V1 : xl_V} {cs : List (String × Nat)} {R : xl_V → Nat → Option Int32 → Prop} (k : xX S d y 0 (xa_ent nL as) [] V 0 0 (xq (some (.int r)) (xl_H xlay V1))) (hr : ∀ f, R (xl_o V1 f) 0 (some r)) : xX S d y 0 (xa_ent nL as) [] V 1 6 (xpo (Jd cs R)) :=
  xx_wide (by decide) (by decide) (xx_post (fun o h' q => by obtain ⟨rfl, rfl⟩ := q; exact ⟨_, rfl, Or.inl ⟨_, rfl, hr⟩⟩) k)
theorem cl_ex {y nL : Nat} {as : List Value} {E : String} {c : Nat} {V1 : xl_V} {cs : List (String × Nat)} {R : xl_V → Nat → Option Int32 → Prop} (k : xX S d y 0 (xa_ent nL as) [] V 1 6 (xqe E (xl_H xlay V1))) (hc : (E, c) ∈ cs) (hr : R V1 c none) : xX S d y 0 (xa_ent nL as) [] V 1 6 (xpo (Jd cs R)) :=
  xx_post (fun o h' q => by obtain ⟨rfl, rfl⟩ := q; exact ⟨_, rfl, Or.inr ⟨_, _, hc, rfl, hr⟩⟩) k
theorem cl_okv {y nL : Nat} {as : List Value} {V1 : xl_V} {cs : List (String × Nat)} {R : xl_V → Nat → Option Int32 → Prop} (k : xX S d y 0 (xa_ent nL as) [] V 0 0 (xq none (xl_H xlay V1))) (hr : R V1 0 none) : xX S d y 0 (xa_ent nL as) [] V 1 6 (xpo (Jv cs R)) :=
  xx_wide (by decide) (by decide) (xx_post (fun o h' q => by obtain ⟨rfl, rfl⟩ := q; exact ⟨_, rfl, Or.inl ⟨rfl, hr⟩⟩) k)
theorem cl_exv {y nL : Nat} {as : List Value} {E : String} {c : Nat} {V1 : xl_V} {cs : List (String × Nat)} {R : xl_V → Nat → Option Int32 → Prop} (k : xX S d y 0 (xa_ent nL as) [] V 1 6 (xqe E (xl_H xlay V1))) (hc : (E, c) ∈ cs) (hr : R V1 c none) : xX S d y 0 (xa_ent nL as) [] V 1 6 (xpo (Jv cs R)) :=
  xx_post (fun o h' q => by obtain ⟨rfl, rfl⟩ := q; exact ⟨_, rfl, Or.inr ⟨_, _, hc, rfl, hr⟩⟩) k
theorem rf_ok {y nL : Nat} {as : List Value} {W V2 : xl_V} {b : Int32} {c : Nat} {r : Option Int32} (k : xX S d y 0 (xa_ent nL as) [] W 0 0 (xq (some (.int b)) (xl_H xlay V2))) (hc : V2.1 47 0 = nI c) (hb : ∀ x, r = some x → b = x) (hS : Sim V2) (ho : V2.2.2.2 = W.2.2.2) : RK S Sim d y nL as W c r :=
  xx_post (fun o h' q => by obtain ⟨rfl, rfl⟩ := q; exact ⟨_, rfl, _, rfl, hc, hb, hS, ho⟩) k
theorem rf_okv {y nL : Nat} {as : List Value} {W V2 : xl_V} {c : Nat} {r : Option Int32} (k : xX S d y 0 (xa_ent nL as) [] W 0 0 (xq none (xl_H xlay V2))) (hc : V2.1 47 0 = nI c) (hS : Sim V2) (ho : V2.2.2.2 = W.2.2.2) : RKv S Sim d y nL as W c r :=
  xx_post (fun o h' q => by obtain ⟨rfl, rfl⟩ := q; exact ⟨_, rfl, rfl, hc, hS, ho⟩) k
theorem bz_b (x : Int32) : bz x = 0 ∨ bz x = 1 := by unfold bz; split; exact Or.inl rfl; exact Or.inr rfl
theorem nI_s (n : Nat) : nI n + 1 = nI (n + 1) := by rw [show (1 : Int32) = nI 1 from rfl, nI_add]
theorem nI_p (n : Nat) : nI n + 1 - 1 = nI n := by
  rw [Int32.add_sub_cancel]
theorem xb_add (x i : Int32) {n s : Nat} (hn : n < 32) (hs : s < 32) : xbit (x ||| (if i = 0 then (0 : Int32) else (1 : Int32) <<< (nI n &&& 31))) s = (xbit x s || (decide (¬ i = 0) && decide (s = n))) := by
  rw [xbit_or]
  by_cases h : i = 0
  · rw [if_pos h, xbit_0, decide_eq_false (fun z => z h)]; rfl
  · rw [if_neg h, xbit_1 n hn s hs, decide_eq_true h]; rfl
theorem xb_3 : ∀ n, n < 5 → ∀ j, j < 32 → xbit ((3 : Int32) <<< ((2 * nI n) &&& 31)) j = decide (j = 2 * n ∨ j = 2 * n + 1) := by decide +kernel
theorem w01 {w : Nat} (h : w < 2) : w = 0 ∨ w = 1 := by omega
/-- a new signal -/
theorem sN_sig {n e p w : Nat} {i h : Int32} {f : Nat → Int64} (hi : i = 0 ∨ i = 1) (hh : h = 0 ∨ h = 1) (hw : w < 2) (hN : sN V n e p) (h5 : n < 5) : sN (m_sg (xl_o (n_as (k_dr V w) i h) f) n i h) (n + 1) e p := by
  obtain ⟨⟨n1, n2, n5⟩, ⟨e1, e2, e14⟩, ⟨p1, p2, p16⟩, t1, hc, ⟨i1, i2⟩, ⟨o1, o2⟩, ed, ez⟩ := hN
  have key : ∀ W : xl_V, W = m_sg (xl_o (n_as (k_dr V w) i h) f) n i h → W.1 1 0 = V.1 1 0 + 1 → W.1 47 1 = nI (n + 1) → W.1 1 1 = V.1 1 1 → W.1 47 4 = V.1 47 4 → W.1 1 2 = V.1 1 2 → W.1 47 9 = V.1 47 9 → W.1 1 4 = V.1 1 4 → W.1 47 10 = V.1 47 10 →
      W.1 1 3 = (V.1 1 3 ||| (if h = 0 then (0 : Int32) else (1 : Int32) <<< (V.1 1 0 &&& 31))) → W.1 1 6 = (V.1 1 6 ||| (if i = 0 then (0 : Int32) else (1 : Int32) <<< (V.1 1 0 &&& 31))) → W.1 1 5 = (V.1 1 5 ||| (if i = 0 then (3 : Int32) <<< ((2 * V.1 1 0) &&& 31) else 0)) →
      W.2.1 48 = upd (V.2.1 48) n (vp_nar .boolean i) → W.2.1 49 = upd (V.2.1 49) n (vp_nar .boolean h) → W.2.1 50 = V.2.1 50 → W.2.1 2 = V.2.1 2 → W.2.1 51 = V.2.1 51 → W.2.1 3 = V.2.1 3 → W.2.1 52 = V.2.1 52 → W.2.1 4 = V.2.1 4 → W.2.1 53 = V.2.1 53 → W.2.1 5 = V.2.1 5 → sN W (n + 1) e p := by
    intro W _ a1 a2 a3 a4 a5 a6 a7 a8 a9 a10 a11 b1 b2 b3 b4 b5 b6 b7 b8 b9 b10
    rw [n1] at a1 a9 a10 a11
    have vi : vp_nar .boolean i = i := by rcases hi with rfl | rfl <;> decide
    have vh : vp_nar .boolean h = h := by rcases hh with rfl | rfl <;> decide
    rw [vi] at b1
    rw [vh] at b2
    have hin : ∀ s, s < 32 → n_in W (nI s) = if (xbit (V.1 1 6) s || (decide (¬ i = 0) && decide (s = n))) = true then 1 else 0 := fun s hs => by
      rw [n_in_b W hs, a10, xb_add _ _ (by omega) hs]
    have hold : ∀ s, s < n → n_in W (nI s) = n_in V (nI s) := fun s hs => by
      rw [hin s (by omega), n_in_b V (by omega), decide_eq_false (show ¬ s = n by omega), Bool.and_false, Bool.or_false]
    have hnew : n_in W (nI n) = i := by
      rw [hin n (by omega), i2 n (Nat.le_refl _) (by omega), decide_eq_true rfl]
      rcases hi with rfl | rfl <;> decide
    refine ⟨⟨a1.trans (nI_s n), a2, by omega⟩, ⟨a3.trans e1, a4.trans e2, e14⟩, ⟨a5.trans p1, a6.trans p2, p16⟩, a7.trans (t1.trans a8.symm), ?_, ⟨fun s hs => ?_, fun s hs h32 => ?_⟩, ⟨fun s l hs hl => ?_, fun j hj h32 => ?_⟩, fun t ht => ?_, fun t ht h14 => ?_⟩
    · rw [a9, b2, hc]
      have hk : ∀ m, m ≤ n → hf (upd (V.2.1 49) n h) m = hf (V.2.1 49) m := by
        intro m
        induction m with
        | zero => intro _; rfl
        | succ m ih =>
          intro hm
          unfold hf
          rw [ih (by omega), pk_un (by omega)]
      show _ = if upd (V.2.1 49) n h n = 0 then hf (upd (V.2.1 49) n h) n else hf (upd (V.2.1 49) n h) n ||| _
      rw [pk_us, hk n (Nat.le_refl _)]
      by_cases z : h = 0
      · rw [if_pos z, if_pos z, Int32.or_zero]
      · rw [if_neg z, if_neg z]
    · rw [b1]
      by_cases z : s = n
      · subst z; rw [pk_us, hnew]
      · rw [pk_un z, hold s (by omega)]; exact i1 s (by omega)
    · rw [a10, xb_add _ _ (by omega) h32, i2 s (by omega) h32, decide_eq_false (show ¬ s = n by omega), Bool.and_false]; rfl
    · have hj : 2 * s + l < 32 := by omega
      rw [a11, xbit_or]
      by_cases z : s = n
      · subst z
        rw [hnew, o2 (2 * s + l) (by omega) hj, Bool.false_or]
        by_cases y : i = 0
        · rw [if_pos y, xb_3 s h5 _ hj, decide_eq_true (by omega)]; exact ⟨fun _ => y, fun _ => rfl⟩
        · rw [if_neg y, xbit_0]; exact ⟨fun q => (by cases q), fun q => absurd q y⟩
      · have h1 := o1 s l (by omega) hl
        rw [hold s (by omega), ← h1]
        by_cases y : i = 0
        · rw [if_pos y, xb_3 n h5 _ hj, decide_eq_false (by omega), Bool.or_false]
        · rw [if_neg y, xbit_0, Bool.or_false]
    · rw [a11, xbit_or, o2 j (by omega) h32, Bool.false_or]
      by_cases y : i = 0
      · rw [if_pos y, xb_3 n h5 _ h32, decide_eq_false (by omega)]
      · rw [if_neg y, xbit_0]
    · obtain ⟨q1, ⟨s, q2, q3⟩, q4, q5, q6, q7⟩ := ed t ht
      rw [b3, b4, b5, b6, b7, b8, b9, b10]
      exact ⟨q1, ⟨s, by omega, q3⟩, q4, q5, q6, q7⟩
    · rw [b8, b10]; exact ez t ht h14
  rcases w01 hw with rfl | rfl
  · exact key _ rfl rfl rfl rfl rfl rfl rfl rfl rfl rfl rfl rfl rfl rfl rfl rfl rfl rfl rfl rfl rfl rfl
  · exact key _ rfl rfl rfl rfl rfl rfl rfl rfl rfl rfl rfl rfl rfl rfl rfl rfl rfl rfl rfl rfl rfl rfl
theorem gz {W : xl_V} {w : Nat} (hw : w < 2) (h0 : ∀ s, s < 5 → ∀ u, u < 2 → u = w → W.1 (18 + 4 * s + 2 * u) 0 = 0 ∧ W.1 (18 + 4 * s + 2 * u) 2 = 0) : ∀ s, s < 5 → W.1 (ga w s) 0 = 0 ∧ W.1 (ga w s) 2 = 0 := fun s hs => h0 s hs w hw rfl
theorem s01 {s : Nat} (h : s < 5) : s = 0 ∨ s = 1 ∨ s = 2 ∨ s = 3 ∨ s = 4 := by omega
theorem op_0 (h : Sim V) (x1 x2 : Int32) : xX S 18 32 0 (xa_ent 3 [.ref 0, .int (bz x1), .int (bz x2)]) [] V 1 6 (xpo (Jd [(eS, 1)] (RK S Sim 19 103 3 [.ref 47, .int (bz x1), .int (bz x2)]))) := by
  obtain ⟨n, e, p, w, G, hN, hV, hW⟩ := id h
  have n1 := hN.1.1
  have n2 := hN.1.2.1
  have n5 := hN.1.2.2
  by_cases h5 : n < 5
  · refine cl_ok (t_CG_signal (d := 15) hW.1 ((xlt (b := 5) n1 rfl (by omega) (by decide)).mpr h5)) (fun f => ?_)
    refine rf_ok (t_M_signal (d := 18) (n := n) ?_ h5) ?_ (fun x hx => ?_) ?_ ?_
    · rcases w01 hW.1.1 with rfl | rfl <;> exact n2
    · rfl
    · rw [← Option.some.inj hx]
      rcases w01 hW.1.1 with rfl | rfl
      · show nI n = V.1 1 0 + 1 - 1; rw [n1, nI_p]
      · show nI n = V.1 1 0 + 1 - 1; rw [n1, nI_p]
    · refine Sim_reset (w := w) (sN_sig (bz_b x1) (bz_b x2) hW.1.1 hN h5) ?_ ?_ ?_ ?_ ?_ ?_ ?_ ?_ (fun s hs => ?_) (fun s hs => ?_)
      · have := hW.1; rcases w01 hW.1.1 with rfl | rfl <;> exact this
      · have := hW.2.1; rcases w01 hW.1.1 with rfl | rfl <;> exact this
      · rfl
      · rfl
      · rfl
      · rfl
      · rcases w01 hW.1.1 with rfl | rfl <;> rfl
      · rfl
      · rcases w01 hW.1.1 with rfl | rfl <;> rcases s01 hs with rfl | rfl | rfl | rfl | rfl <;> exact ⟨rfl, rfl⟩
      · rcases s01 hs with rfl | rfl | rfl | rfl | rfl <;> rfl
    · rfl
  · have e5 : n = 5 := by omega
    subst e5
    refine cl_ex (t_CG_signal_e (d := 18) (fun z => h5 ((xlt (b := 5) n1 rfl (by omega) (by decide)).mp z))) (c := 1) (by decide) ?_
    exact rf_ok (t_M_signalX (d := 18) n2) rfl (fun x hx => by cases hx) (Sim_c0 h) rfl
end XOps
section XOps2
variable {S : Nat × (Nat → Int32)} {V : xl_V} {d : Nat}
theorem nat_of {x : Int32} {L : Nat} (h0 : ¬ x < 0) (h : x < nI L) (hL : L < 5000) : ∃ j, j < L ∧ x = nI j := by
  obtain ⟨j, h1, h2, -⟩ := pk_mu h0 (Int32.not_le.mpr h) (xn31 hL)
  exact ⟨j, h1, h2⟩
theorem nI_lt5 {a b : Nat} (ha : a < 5000) (hb : b < 5000) : nI a < nI b ↔ a < b := nI_ltI (xn31 ha) (xn31 hb)
theorem nI_nn {a : Nat} (ha : a < 5000) : ¬ nI a < 0 := fun z => absurd ((nI_lt5 (a := a) (b := 0) ha (by decide)).mp z) (Nat.not_lt_zero _)
theorem ns_0 {x : Int32} : m_ns V x = 0 ↔ ¬ x < 0 ∧ x < V.1 47 1 := by
  unfold m_ns
  by_cases h : x < 0
  · rw [if_pos h]; exact ⟨fun z => absurd z (by decide), fun z => absurd h z.1⟩
  · rw [if_neg h]
    by_cases h2 : x < V.1 47 1
    · rw [if_pos h2]; exact ⟨fun _ => ⟨h, h2⟩, fun _ => rfl⟩
    · rw [if_neg h2]; exact ⟨fun z => absurd z (by decide), fun z => absurd z.2 h2⟩
theorem ns_1 {x : Int32} (h : ¬ m_ns V x = 0) : m_ns V x = 1 := by
  unfold m_ns at *
  by_cases h1 : x < 0
  · rw [if_pos h1]
  · rw [if_neg h1] at h ⊢
    by_cases h2 : x < V.1 47 1
    · rw [if_pos h2] at h; exact absurd rfl h
    · rw [if_neg h2]
/-- a new transition -/
theorem sN_edge {n e p w s : Nat} {r : Int32} {f : Nat → Int64} (hr : r = 0 ∨ r = 1) (hw : w < 2) (hN : sN V n e p) (h14 : e < 14) (hs : s < n) : sN (m_eg (xl_o (n_ae (k_dr V w) (nI s) r) f) e (nI s) r) n (e + 1) p := by
  obtain ⟨⟨n1, n2, n5⟩, ⟨e1, e2, e14⟩, ⟨p1, p2, p16⟩, t1, hc, ⟨i1, i2⟩, ⟨o1, o2⟩, ed, ez⟩ := hN
  have key : ∀ W : xl_V, W.1 1 0 = V.1 1 0 → W.1 47 1 = V.1 47 1 → W.1 1 1 = V.1 1 1 + 1 → W.1 47 4 = nI (e + 1) → W.1 1 2 = V.1 1 2 → W.1 47 9 = V.1 47 9 → W.1 1 4 = V.1 1 4 → W.1 47 10 = V.1 47 10 →
      W.1 1 3 = V.1 1 3 → W.1 1 6 = V.1 1 6 → W.1 1 5 = V.1 1 5 → W.2.1 48 = V.2.1 48 → W.2.1 49 = V.2.1 49 → W.2.1 50 = upd (V.2.1 50) e (nI s) → W.2.1 2 = upd (V.2.1 2) (V.1 1 1).toNatClampNeg (nI s) → W.2.1 51 = upd (V.2.1 51) e (vp_nar .boolean r) → W.2.1 3 = upd (V.2.1 3) (V.1 1 1).toNatClampNeg (vp_nar .boolean r) → W.2.1 52 = upd (V.2.1 52) e 0 → W.2.1 4 = V.2.1 4 → W.2.1 53 = upd (V.2.1 53) e 0 → W.2.1 5 = V.2.1 5 → sN W n (e + 1) p := by
    intro W a1 a2 a3 a4 a5 a6 a7 a8 a9 a10 a11 b1 b2 b3 b4 b5 b6 b7 b8 b9 b10
    have ec : (V.1 1 1).toNatClampNeg = e := by rw [e1]; exact nI_clamp (xn31 (by omega))
    rw [ec] at b4 b6
    have vr : vp_nar .boolean r = r := by rcases hr with rfl | rfl <;> decide
    rw [vr] at b5 b6
    have hin : ∀ s, n_in W s = n_in V s := fun s => by unfold n_in; rw [a10]
    refine ⟨⟨a1.trans n1, a2.trans n2, n5⟩, ⟨by rw [a3, e1]; exact nI_s e, a4, by omega⟩, ⟨a5.trans p1, a6.trans p2, p16⟩, a7.trans (t1.trans a8.symm), ?_, ⟨fun s hs => ?_, fun s hs h32 => ?_⟩, ⟨fun s l hs hl => ?_, fun j hj h32 => ?_⟩, fun t ht => ?_, fun t ht h14 => ?_⟩
    · rw [a9, b2]; exact hc
    · rw [b1, hin]; exact i1 s hs
    · rw [a10]; exact i2 s hs h32
    · rw [a11, hin]; exact o1 s l hs hl
    · rw [a11]; exact o2 j hj h32
    · rw [b3, b4, b5, b6, b7, b8, b9, b10]
      by_cases z : t = e
      · subst z
        rw [pk_us, pk_us, pk_us, pk_us, pk_us, pk_us]
        exact ⟨rfl, ⟨s, hs, rfl⟩, rfl, hr, (ez t (Nat.le_refl _) (by omega)).1.symm, (ez t (Nat.le_refl _) (by omega)).2.symm⟩
      · rw [pk_un z, pk_un z, pk_un z, pk_un z, pk_un z, pk_un z]
        exact ed t (by omega)
    · rw [b8, b10]; exact ez t (by omega) h14
  rcases w01 hw with rfl | rfl
  · exact key _ rfl rfl rfl rfl rfl rfl rfl rfl rfl rfl rfl rfl rfl rfl rfl rfl rfl rfl rfl rfl rfl
  · exact key _ rfl rfl rfl rfl rfl rfl rfl rfl rfl rfl rfl rfl rfl rfl rfl rfl rfl rfl rfl rfl rfl
theorem op_1 (h : Sim V) (x x2 : Int32) : xX S 18 35 0 (xa_ent 3 [.ref 0, .int x, .int (bz x2)]) [] V 1 6 (xpo (Jd [(eI, 1), (eS, 2)] (RK S Sim 19 105 3 [.ref 47, .int x, .int (bz x2)]))) := by
  obtain ⟨n, e, p, w, G, hN, hV, hW⟩ := id h
  have n1 := hN.1.1
  have n2 := hN.1.2.1
  have n5 := hN.1.2.2
  have e1 := hN.2.1.1
  have e2 := hN.2.1.2.1
  have e14 := hN.2.1.2.2
  by_cases hs : m_ns V x = 0
  · obtain ⟨h0, h1⟩ := ns_0.mp hs
    rw [n2] at h1
    obtain ⟨s, hsn, rfl⟩ := nat_of h0 h1 (by omega)
    by_cases h14 : e < 14
    · refine cl_ok (t_CG_edge (d := 15) hW.1 h0 (by rw [n1]; exact h1) ((xlt (b := 14) e1 rfl (by omega) (by decide)).mpr h14) ?_) (fun f => ?_)
      · rcases w01 hW.1.1 with rfl | rfl
        · show vp_in (V.1 1 1) 14; rw [e1]; exact vp_in_nI h14 (by decide)
        · show vp_in (V.1 1 1) 14; rw [e1]; exact vp_in_nI h14 (by decide)
      refine rf_ok (t_M_edge (d := 18) (n := e) ?_ ?_ h14) ?_ (fun z hx => ?_) ?_ ?_
      · refine ns_0.mpr ⟨h0, ?_⟩
        rcases w01 hW.1.1 with rfl | rfl
        · show nI s < V.1 47 1; rw [n2]; exact h1
        · show nI s < V.1 47 1; rw [n2]; exact h1
      · rcases w01 hW.1.1 with rfl | rfl <;> exact e2
      · rfl
      · rw [← Option.some.inj hx]
        rcases w01 hW.1.1 with rfl | rfl
        · show nI e = V.1 1 1 + 1 - 1; rw [e1, nI_p]
        · show nI e = V.1 1 1 + 1 - 1; rw [e1, nI_p]
      · refine Sim_reset (w := w) (sN_edge (bz_b x2) hW.1.1 hN h14 hsn) ?_ ?_ ?_ ?_ ?_ ?_ ?_ ?_ (fun s hs => ?_) (fun s hs => ?_)
        · have := hW.1; rcases w01 hW.1.1 with rfl | rfl <;> exact this
        · have := hW.2.1; rcases w01 hW.1.1 with rfl | rfl <;> exact this
        · rfl
        · rfl
        · rfl
        · rfl
        · rcases w01 hW.1.1 with rfl | rfl <;> rfl
        · rfl
        · rcases w01 hW.1.1 with rfl | rfl <;> rcases s01 hs with rfl | rfl | rfl | rfl | rfl <;> exact ⟨rfl, rfl⟩
        · rcases s01 hs with rfl | rfl | rfl | rfl | rfl <;> rfl
      · rfl
    · have e5 : e = 14 := by omega
      subst e5
      refine cl_ex (t_CG_edge_f (d := 17) h0 (by rw [n1]; exact h1) (fun z => h14 ((xlt (b := 14) e1 rfl (by omega) (by decide)).mp z))) (c := 2) (by decide) ?_
      exact rf_ok (t_M_edgeX2 (d := 18) hs e2) rfl (fun x hx => by cases hx) (Sim_c0 h) rfl
  · refine cl_ex (t_CG_edge_e (d := 17) ?_) (c := 1) (by decide) ?_
    · by_cases h0 : x < 0
      · exact Or.inl h0
      · exact Or.inr (fun z => hs (ns_0.mpr ⟨h0, by rw [n2, ← n1]; exact z⟩))
    · exact rf_ok (t_M_edgeX1 (d := 18) hs) rfl (fun x hx => by cases hx) (Sim_c0 h) rfl
/-- a new place -/
theorem op_2 (h : Sim V) (x : Int32) : xX S 18 39 0 (xa_ent 2 [.ref 0, .int (bz x)]) [] V 1 6 (xpo (Jd [(eS, 1)] (RK S Sim 19 107 2 [.ref 47, .int (bz x)]))) := by
  obtain ⟨n, e, p, w, G, hN, hV, hW⟩ := id h
  have p1 := hN.2.2.1.1
  have p2 := hN.2.2.1.2.1
  have p16 := hN.2.2.1.2.2
  by_cases h16 : p < 16
  · refine cl_ok (t_CG_place (d := 15) hW.1 ((xlt (b := 16) p1 rfl (by omega) (by decide)).mpr h16)) (fun f => ?_)
    refine rf_ok (t_M_place (d := 18) (n := p) ?_ h16) ?_ (fun z hx => ?_) ?_ ?_
    · rcases w01 hW.1.1 with rfl | rfl <;> exact p2
    · rfl
    · rw [← Option.some.inj hx]
      rcases w01 hW.1.1 with rfl | rfl
      · show nI p = V.1 1 2 + 1 - 1; rw [p1, nI_p]
      · show nI p = V.1 1 2 + 1 - 1; rw [p1, nI_p]
    · refine Sim_reset (w := w) (n := n) (e := e) (p := p + 1) ?_ ?_ ?_ ?_ ?_ ?_ ?_ ?_ ?_ (fun s hs => ?_) (fun s hs => ?_)
      · obtain ⟨hn, he, ⟨p1, p2, p16⟩, t1, hc, hi, ho, ed, ez⟩ := hN
        have key : ∀ W : xl_V, W.1 1 0 = V.1 1 0 → W.1 1 1 = V.1 1 1 → W.1 1 2 = V.1 1 2 + 1 → W.1 1 3 = V.1 1 3 → W.1 1 4 = (V.1 1 4 ||| (if bz x = 0 then (0 : Int32) else (1 : Int32) <<< (V.1 1 2 &&& 31))) → W.1 1 5 = V.1 1 5 → W.1 1 6 = V.1 1 6 → W.1 47 1 = V.1 47 1 → W.1 47 4 = V.1 47 4 → W.1 47 9 = nI (p + 1) → W.1 47 10 = (if bz x = 0 then V.1 47 10 else V.1 47 10 ||| ((1 : Int32) <<< (nI p &&& 31))) →
            W.2.1 48 = V.2.1 48 → W.2.1 49 = V.2.1 49 → W.2.1 50 = V.2.1 50 → W.2.1 2 = V.2.1 2 → W.2.1 51 = V.2.1 51 → W.2.1 3 = V.2.1 3 → W.2.1 52 = V.2.1 52 → W.2.1 4 = V.2.1 4 → W.2.1 53 = V.2.1 53 → W.2.1 5 = V.2.1 5 → sN W n e (p + 1) := by
          intro W c0 c1 c2 c3 c4 c5 c6 a2 a3 a4 a5 b1 b2 b3 b4 b5 b6 b7 b8 b9 b10
          have hin : ∀ s, n_in W s = n_in V s := fun s => by unfold n_in; rw [c6]
          unfold sN
          simp only [hin]
          rw [c0, c1, c2, c3, c4, c5, c6, a2, a3, a4, a5, b1, b2, b3, b4, b5, b6, b7, b8, b9, b10]
          refine ⟨hn, he, ⟨by rw [p1]; exact nI_s p, rfl, by omega⟩, ?_, hc, hi, ho, ed, ez⟩
          rw [p1, t1]
          by_cases z : bz x = 0
          · rw [if_pos z, if_pos z, Int32.or_zero]
          · rw [if_neg z, if_neg z]
        rcases w01 hW.1.1 with rfl | rfl
        · exact key _ rfl rfl rfl rfl rfl rfl rfl rfl rfl rfl rfl rfl rfl rfl rfl rfl rfl rfl rfl rfl rfl
        · exact key _ rfl rfl rfl rfl rfl rfl rfl rfl rfl rfl rfl rfl rfl rfl rfl rfl rfl rfl rfl rfl rfl
      · have := hW.1; rcases w01 hW.1.1 with rfl | rfl <;> exact this
      · have := hW.2.1; rcases w01 hW.1.1 with rfl | rfl <;> exact this
      · rfl
      · rfl
      · rfl
      · rfl
      · rcases w01 hW.1.1 with rfl | rfl <;> rfl
      · rfl
      · rcases w01 hW.1.1 with rfl | rfl <;> rcases s01 hs with rfl | rfl | rfl | rfl | rfl <;> exact ⟨rfl, rfl⟩
      · rcases s01 hs with rfl | rfl | rfl | rfl | rfl <;> rfl
    · rfl
  · have e5 : p = 16 := by omega
    subst e5
    refine cl_ex (t_CG_place_e (d := 18) (fun z => h16 ((xlt (b := 16) p1 rfl (by omega) (by decide)).mp z))) (c := 1) (by decide) ?_
    exact rf_ok (t_M_placeX (d := 18) p2) rfl (fun x hx => by cases hx) (Sim_c0 h) rfl
end XOps2
section XOps3
variable {S : Nat × (Nat → Int32)} {V : xl_V} {d : Nat}
theorem sN_arc {n e p w q t : Nat} {b : Int32} (hb : b = 0 ∨ b = 1) (hw : w < 2) (hN : sN V n e p) (ht : t < e) : sN (m_ar (n_aa (k_dr V w) (nI q) t b) q t b) n e p := by
  obtain ⟨hn, he, hp, t1, hc, hi, ho, ed, ez⟩ := hN
  have key : ∀ W : xl_V, W.1 1 0 = V.1 1 0 → W.1 1 1 = V.1 1 1 → W.1 1 2 = V.1 1 2 → W.1 1 3 = V.1 1 3 → W.1 1 4 = V.1 1 4 → W.1 1 5 = V.1 1 5 → W.1 1 6 = V.1 1 6 → W.1 47 1 = V.1 47 1 → W.1 47 4 = V.1 47 4 → W.1 47 9 = V.1 47 9 → W.1 47 10 = V.1 47 10 →
      W.2.1 48 = V.2.1 48 → W.2.1 49 = V.2.1 49 → W.2.1 50 = V.2.1 50 → W.2.1 2 = V.2.1 2 → W.2.1 51 = V.2.1 51 → W.2.1 3 = V.2.1 3 → (W.2.1 52 = V.2.1 52 ∧ W.2.1 4 = V.2.1 4 ∧ W.2.1 53 = upd (V.2.1 53) t (V.2.1 53 t ||| ((1 : Int32) <<< (nI q &&& 31))) ∧ W.2.1 5 = upd (V.2.1 5) t (V.2.1 5 t ||| ((1 : Int32) <<< (nI q &&& 31))) ∨
      W.2.1 53 = V.2.1 53 ∧ W.2.1 5 = V.2.1 5 ∧ W.2.1 52 = upd (V.2.1 52) t (V.2.1 52 t ||| ((1 : Int32) <<< (nI q &&& 31))) ∧ W.2.1 4 = upd (V.2.1 4) t (V.2.1 4 t ||| ((1 : Int32) <<< (nI q &&& 31)))) → sN W n e p := by
    intro W c0 c1 c2 c3 c4 c5 c6 a2 a3 a4 a5 b1 b2 b3 b4 b5 b6 b7
    have hin : ∀ s, n_in W s = n_in V s := fun s => by unfold n_in; rw [c6]
    unfold sN
    simp only [hin]
    rw [c0, c1, c2, c3, c4, c5, c6, a2, a3, a4, a5, b1, b2, b3, b4, b5, b6]
    refine ⟨hn, he, hp, t1, hc, hi, ho, fun u hu => ?_, fun u hu h14 => ?_⟩
    · obtain ⟨q1, q2, q3, q4, q5, q6⟩ := ed u hu
      refine ⟨q1, q2, q3, q4, ?_⟩
      rcases b7 with ⟨d1, d2, d3, d4⟩ | ⟨d1, d2, d3, d4⟩
      · rw [d1, d2, d3, d4]
        refine ⟨q5, ?_⟩
        by_cases z : u = t
        · subst z; rw [pk_us, pk_us, q6]
        · rw [pk_un z, pk_un z, q6]
      · rw [d1, d2, d3, d4]
        refine ⟨?_, q6⟩
        by_cases z : u = t
        · subst z; rw [pk_us, pk_us, q5]
        · rw [pk_un z, pk_un z, q5]
    · obtain ⟨z1, z2⟩ := ez u hu h14
      rcases b7 with ⟨d1, d2, d3, d4⟩ | ⟨d1, d2, d3, d4⟩
      · rw [d2, d4, pk_un (show u ≠ t by omega)]; exact ⟨z1, z2⟩
      · rw [d2, d4, pk_un (show u ≠ t by omega)]; exact ⟨z1, z2⟩
  rcases w01 hw with rfl | rfl <;> rcases hb with rfl | rfl
  · exact key _ rfl rfl rfl rfl rfl rfl rfl rfl rfl rfl rfl rfl rfl rfl rfl rfl rfl (Or.inr ⟨rfl, rfl, rfl, rfl⟩)
  · exact key _ rfl rfl rfl rfl rfl rfl rfl rfl rfl rfl rfl rfl rfl rfl rfl rfl rfl (Or.inl ⟨rfl, rfl, rfl, rfl⟩)
  · exact key _ rfl rfl rfl rfl rfl rfl rfl rfl rfl rfl rfl rfl rfl rfl rfl rfl rfl (Or.inr ⟨rfl, rfl, rfl, rfl⟩)
  · exact key _ rfl rfl rfl rfl rfl rfl rfl rfl rfl rfl rfl rfl rfl rfl rfl rfl rfl (Or.inl ⟨rfl, rfl, rfl, rfl⟩)
theorem op_3 (h : Sim V) (x y z : Int32) : xX S 18 42 0 (xa_ent 4 [.ref 0, .int x, .int y, .int (bz z)]) [] V 1 6 (xpo (Jv [(eI, 1), (eA, 2)] (RKv S Sim 19 108 6 [.ref 47, .int x, .int y, .int (bz z)]))) := by
  obtain ⟨n, e, p, w, G, hN, hV, hW⟩ := id h
  obtain ⟨e1, e2, e14⟩ := hN.2.1
  obtain ⟨p1, p2, p16⟩ := hN.2.2.1
  have ed := hN.2.2.2.2.2.2.2.1
  have hbz := bz_b z
  generalize bz z = b at hbz ⊢
  by_cases hx : x < 0 ∨ ¬ x < V.1 1 2
  · refine cl_exv (t_CG_arc_p (d := 18) hx) (c := 1) (by decide) ?_
    refine rf_okv (t_M_arcX1 (d := 18) ?_) rfl (Sim_c0 h) rfl
    rcases hx with hx | hx
    · exact Or.inl hx
    · exact Or.inr (Or.inl (by rw [p2, ← p1]; exact Int32.not_lt.mp hx))
  · have hx0 : ¬ x < 0 := fun q => hx (Or.inl q)
    have hx1 : x < V.1 1 2 := Decidable.not_not.mp (fun q => hx (Or.inr q))
    by_cases hy : y < 0 ∨ ¬ y < V.1 1 1
    · refine cl_exv (t_CG_arc_t (d := 18) hx0 hx1 hy) (c := 1) (by decide) ?_
      refine rf_okv (t_M_arcX1 (d := 18) ?_) rfl (Sim_c0 h) rfl
      rcases hy with hy | hy
      · exact Or.inr (Or.inr (Or.inl hy))
      · exact Or.inr (Or.inr (Or.inr (by rw [e2, ← e1]; exact Int32.not_lt.mp hy)))
    · have hy0 : ¬ y < 0 := fun q => hy (Or.inl q)
      have hy1 : y < V.1 1 1 := Decidable.not_not.mp (fun q => hy (Or.inr q))
      obtain ⟨q, hq, rfl⟩ := nat_of hx0 (by rw [← p1]; exact hx1) (by omega)
      obtain ⟨t, ht, rfl⟩ := nat_of hy0 (by rw [← e1]; exact hy1) (by omega)
      have hv : vp_in (nI t) 14 := vp_in_nI (by omega) (by decide)
      have ec : (nI t).toNatClampNeg = t := nI_clamp (xn31 (by omega))
      obtain ⟨-, -, -, -, q5, q6⟩ := ed t ht
      have hah : n_ha V (nI q) t b = 0 ↔ ¬ (m_ah V t b >>> (nI q &&& 31)) &&& 1 = 1 := by
        unfold n_ha m_ah
        rw [q5, q6]
        by_cases k : ((if b = 0 then V.2.1 4 t else V.2.1 5 t) >>> (nI q &&& 31)) &&& 1 = 1
        · rw [if_pos k]; exact ⟨fun z => absurd z (by decide), fun z => absurd k z⟩
        · rw [if_neg k]; exact ⟨fun _ => k, fun _ => rfl⟩
      by_cases hh : n_ha V (nI q) t b = 0
      · refine cl_okv (t_CG_arc (d := 15) hW.1 hx0 hx1 hy0 hy1 hv (by rw [ec]; exact hh)) ?_
        rw [ec]
        have hp2 : (n_aa (k_dr V w) (nI q) t b).1 47 9 = nI p := by rcases w01 hW.1.1 with rfl | rfl <;> rcases hbz with rfl | rfl <;> exact p2
        have he2 : (n_aa (k_dr V w) (nI q) t b).1 47 4 = nI e := by rcases w01 hW.1.1 with rfl | rfl <;> rcases hbz with rfl | rfl <;> exact e2
        have hm : ¬ (m_ah (n_aa (k_dr V w) (nI q) t b) t b >>> (nI q &&& 31)) &&& 1 = 1 := by
          have := hah.mp hh
          rcases w01 hW.1.1 with rfl | rfl <;> rcases hbz with rfl | rfl <;> exact this
        refine rf_okv (t_M_arc (d := 18) hp2 he2 hq ht p16 e14 hm) ?_ ?_ ?_
        · rcases hbz with rfl | rfl <;> rfl
        · refine Sim_reset (w := w) (sN_arc hbz hW.1.1 hN ht) ?_ ?_ ?_ ?_ ?_ ?_ ?_ ?_ (fun s hs => ?_) (fun s hs => ?_)
          · have := hW.1; rcases w01 hW.1.1 with rfl | rfl <;> rcases hbz with rfl | rfl <;> exact this
          · have := hW.2.1; rcases w01 hW.1.1 with rfl | rfl <;> rcases hbz with rfl | rfl <;> exact this
          · rcases hbz with rfl | rfl <;> rfl
          · rcases hbz with rfl | rfl <;> rfl
          · rcases hbz with rfl | rfl <;> rfl
          · rcases hbz with rfl | rfl <;> rfl
          · rcases w01 hW.1.1 with rfl | rfl <;> rcases hbz with rfl | rfl <;> rfl
          · rcases hbz with rfl | rfl <;> rfl
          · rcases w01 hW.1.1 with rfl | rfl <;> rcases hbz with rfl | rfl <;> rcases s01 hs with rfl | rfl | rfl | rfl | rfl <;> exact ⟨rfl, rfl⟩
          · rcases hbz with rfl | rfl <;> rcases s01 hs with rfl | rfl | rfl | rfl | rfl <;> rfl
        · rcases hbz with rfl | rfl <;> rfl
      · refine cl_exv (t_CG_arc_a (d := 17) hx0 hx1 hy0 hy1 hv (by rw [ec]; exact hh)) (c := 2) (by decide) ?_
        exact rf_okv (t_M_arcX2 (d := 18) p2 e2 hq ht p16 e14 (Decidable.not_not.mp (fun z => hh (hah.mpr z)))) rfl (Sim_c0 h) rfl
end XOps3
