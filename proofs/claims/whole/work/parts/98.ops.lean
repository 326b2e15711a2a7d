/-! The calls that make the net: class and reference stay alike. -/
section XOps
variable {S : Nat × (Nat → Int32)} {V : xl_V} {d : Nat}
theorem cl_ok {y nL : Nat} {as : List Value} {r : Int32} {V1 : xl_V} {cs : List (String × Nat)} {R : xl_V → Nat → Option Int32 → Prop} (k : xX S d y 0 (xa_ent nL as) [] V 0 0 (xq (some (.int r)) (xl_H xlay V1))) (hr : ∀ f, R (xl_o V1 f) 0 (some r)) : xX S d y 0 (xa_ent nL as) [] V 1 6 (xpo (Jd cs R)) :=
  xx_wide (by decide) (by decide) (xx_post (fun o h' q => by obtain ⟨rfl, rfl⟩ := q; exact ⟨_, rfl, Or.inl ⟨_, rfl, hr⟩⟩) k)
theorem cl_ex {y nL : Nat} {as : List Value} {E : String} {c : Nat} {V1 : xl_V} {cs : List (String × Nat)} {R : xl_V → Nat → Option Int32 → Prop} (k : xX S d y 0 (xa_ent nL as) [] V 1 6 (xqe E (xl_H xlay V1))) (hc : (E, c) ∈ cs) (hr : R V1 c none) : xX S d y 0 (xa_ent nL as) [] V 1 6 (xpo (Jd cs R)) :=
  xx_post (fun o h' q => by obtain ⟨rfl, rfl⟩ := q; exact ⟨_, rfl, Or.inr ⟨_, _, hc, rfl, hr⟩⟩) k
theorem cl_okv {y nL : Nat} {as : List Value} {V1 : xl_V} {cs : List (String × Nat)} {R : xl_V → Nat → Option Int32 → Prop} (k : xX S d y 0 (xa_ent nL as) [] V 0 0 (xq none (xl_H xlay V1))) (hr : R V1 0 none) : xX S d y 0 (xa_ent nL as) [] V 1 6 (xpo (Jv cs R)) :=
  xx_wide (by decide) (by decide) (xx_post (fun o h' q => by obtain ⟨rfl, rfl⟩ := q; exact ⟨_, rfl, Or.inl ⟨rfl, hr⟩⟩) k)
theorem cl_exv {y nL : Nat} {as : List Value} {E : String} {c : Nat} {V1 : xl_V} {cs : List (String × Nat)} {R : xl_V → Nat → Option Int32 → Prop} (k : xX S d y 0 (xa_ent nL as) [] V 1 6 (xqe E (xl_H xlay V1))) (hc : (E, c) ∈ cs) (hr : R V1 c none) : xX S d y 0 (xa_ent nL as) [] V 1 6 (xpo (Jv cs R)) :=
  xx_post (fun o h' q => by obtain ⟨rfl, rfl⟩ := q; exact ⟨_, rfl, Or.inr ⟨_, _, hc, rfl, hr⟩⟩) k
theorem rf_ok {y nL : Nat} {as : List Value} {W V2 : xl_V} {b : Int32} {c : Nat} {r : Option Int32} (k : xX S d y 0 (xa_ent nL as) [] W 0 0 (xq (some (.int b)) (xl_H xlay V2))) (hc : V2.1 47 0 = nI c) (hb : ∀ x, r = some x → b = x) (hS : Sim V2) (ho : V2.2.2.2 = W.2.2.2) : RK S Sim d y nL as W c r :=
  xx_post (fun o h' q => by obtain ⟨rfl, rfl⟩ := q; exact ⟨_, rfl, _, rfl, hc, hb, hS, ho⟩) k
theorem rf_okv {y nL : Nat} {as : List Value} {W V2 : xl_V} {c : Nat} {r : Option Int32} (k : xX S d y 0 (xa_ent nL as) [] W 0 0 (xq none (xl_H xlay V2))) (hc : V2.1 47 0 = nI c) (hS : Sim V2) (ho : V2.2.2.2 = W.2.2.2) : RKv S Sim d y nL as W c r :=
  xx_post (fun o h' q => by obtain ⟨rfl, rfl⟩ := q; exact ⟨_, rfl, rfl, hc, hS, ho⟩) k
theorem bz_b (x : Int32) : bz x = 0 ∨ bz x = 1 := by unfold bz; split; exact Or.inl rfl; exact Or.inr rfl
theorem nI_s (n : Nat) : nI n + 1 = nI (n + 1) := by rw [show (1 : Int32) = nI 1 from rfl, nI_add]
theorem nI_p (n : Nat) : nI n + 1 - 1 = nI n := by
  rw [Int32.add_sub_cancel]
theorem xb_add (x i : Int32) {n s : Nat} (hn : n < 32) (hs : s < 32) : xbit (x ||| (if i = 0 then (0 : Int32) else (1 : Int32) <<< (nI n &&& 31))) s = (xbit x s || (decide (¬ i = 0) && decide (s = n))) := by
  rw [xbit_or]
  by_cases h : i = 0
  · rw [if_pos h, xbit_0, decide_eq_false (fun z => z h)]; rfl
  · rw [if_neg h, xbit_1 n hn s hs, decide_eq_true h]; rfl
theorem xb_3 : ∀ n, n < 5 → ∀ j, j < 32 → xbit ((3 : Int32) <<< ((2 * nI n) &&& 31)) j = decide (j = 2 * n ∨ j = 2 * n + 1) := by decide +kernel
theorem w01 {w : Nat} (h : w < 2) : w = 0 ∨ w = 1 := by omega
/-- a new signal -/
theorem sN_sig {n e p w : Nat} {i h : Int32} {f : Nat → Int64} (hi : i = 0 ∨ i = 1) (hh : h = 0 ∨ h = 1) (hw : w < 2) (hN : sN V n e p) (h5 : n < 5) : sN (m_sg (xl_o (n_as (k_dr V w) i h) f) n i h) (n + 1) e p := by
  obtain ⟨⟨n1, n2, n5⟩, ⟨e1, e2, e14⟩, ⟨p1, p2, p16⟩, t1, hc, ⟨i1, i2⟩, ⟨o1, o2⟩, ed, ez⟩ := hN
  have key : ∀ W : xl_V, W = m_sg (xl_o (n_as (k_dr V w) i h) f) n i h → W.1 1 0 = V.1 1 0 + 1 → W.1 47 1 = nI (n + 1) → W.1 1 1 = V.1 1 1 → W.1 47 4 = V.1 47 4 → W.1 1 2 = V.1 1 2 → W.1 47 9 = V.1 47 9 → W.1 1 4 = V.1 1 4 → W.1 47 10 = V.1 47 10 →
      W.1 1 3 = (V.1 1 3 ||| (if h = 0 then (0 : Int32) else (1 : Int32) <<< (V.1 1 0 &&& 31))) → W.1 1 6 = (V.1 1 6 ||| (if i = 0 then (0 : Int32) else (1 : Int32) <<< (V.1 1 0 &&& 31))) → W.1 1 5 = (V.1 1 5 ||| (if i = 0 then (3 : Int32) <<< ((2 * V.1 1 0) &&& 31) else 0)) →
      W.2.1 48 = upd (V.2.1 48) n (vp_nar .boolean i) → W.2.1 49 = upd (V.2.1 49) n (vp_nar .boolean h) → W.2.1 50 = V.2.1 50 → W.2.1 2 = V.2.1 2 → W.2.1 51 = V.2.1 51 → W.2.1 3 = V.2.1 3 → W.2.1 52 = V.2.1 52 → W.2.1 4 = V.2.1 4 → W.2.1 53 = V.2.1 53 → W.2.1 5 = V.2.1 5 → sN W (n + 1) e p := by
    intro W _ a1 a2 a3 a4 a5 a6 a7 a8 a9 a10 a11 b1 b2 b3 b4 b5 b6 b7 b8 b9 b10
    rw [n1] at a1 a9 a10 a11
    have vi : vp_nar .boolean i = i := by rcases hi with rfl | rfl <;> decide
    have vh : vp_nar .boolean h = h := by rcases hh with rfl | rfl <;> decide
    rw [vi] at b1
    rw [vh] at b2
    have hin : ∀ s, s < 32 → n_in W (nI s) = if (xbit (V.1 1 6) s || (decide (¬ i = 0) && decide (s = n))) = true then 1 else 0 := fun s hs => by
      rw [n_in_b W hs, a10, xb_add _ _ (by omega) hs]
    have hold : ∀ s, s < n → n_in W (nI s) = n_in V (nI s) := fun s hs => by
      rw [hin s (by omega), n_in_b V (by omega), decide_eq_false (show ¬ s = n by omega), Bool.and_false, Bool.or_false]
    have hnew : n_in W (nI n) = i := by
      rw [hin n (by omega), i2 n (Nat.le_refl _) (by omega), decide_eq_true rfl]
      rcases hi with rfl | rfl <;> decide
    refine ⟨⟨a1.trans (nI_s n), a2, by omega⟩, ⟨a3.trans e1, a4.trans e2, e14⟩, ⟨a5.trans p1, a6.trans p2, p16⟩, a7.trans (t1.trans a8.symm), ?_, ⟨fun s hs => ?_, fun s hs h32 => ?_⟩, ⟨fun s l hs hl => ?_, fun j hj h32 => ?_⟩, fun t ht => ?_, fun t ht h14 => ?_⟩
    · rw [a9, b2, hc]
      have hk : ∀ m, m ≤ n → hf (upd (V.2.1 49) n h) m = hf (V.2.1 49) m := by
        intro m
        induction m with
        | zero => intro _; rfl
        | succ m ih =>
          intro hm
          unfold hf
          rw [ih (by omega), pk_un (by omega)]
      show _ = if upd (V.2.1 49) n h n = 0 then hf (upd (V.2.1 49) n h) n else hf (upd (V.2.1 49) n h) n ||| _
      rw [pk_us, hk n (Nat.le_refl _)]
      by_cases z : h = 0
      · rw [if_pos z, if_pos z, Int32.or_zero]
      · rw [if_neg z, if_neg z]
    · rw [b1]
      by_cases z : s = n
      · subst z; rw [pk_us, hnew]
      · rw [pk_un z, hold s (by omega)]; exact i1 s (by omega)
    · rw [a10, xb_add _ _ (by omega) h32, i2 s (by omega) h32, decide_eq_false (show ¬ s = n by omega), Bool.and_false]; rfl
    · have hj : 2 * s + l < 32 := by omega
      rw [a11, xbit_or]
      by_cases z : s = n
      · subst z
        rw [hnew, o2 (2 * s + l) (by omega) hj, Bool.false_or]
        by_cases y : i = 0
        · rw [if_pos y, xb_3 s h5 _ hj, decide_eq_true (by omega)]; exact ⟨fun _ => y, fun _ => rfl⟩
        · rw [if_neg y, xbit_0]; exact ⟨fun q => (by cases q), fun q => absurd q y⟩
      · have h1 := o1 s l (by omega) hl
        rw [hold s (by omega), ← h1]
        by_cases y : i = 0
        · rw [if_pos y, xb_3 n h5 _ hj, decide_eq_false (by omega), Bool.or_false]
        · rw [if_neg y, xbit_0, Bool.or_false]
    · rw [a11, xbit_or, o2 j (by omega) h32, Bool.false_or]
      by_cases y : i = 0
      · rw [if_pos y, xb_3 n h5 _ h32, decide_eq_false (by omega)]
      · rw [if_neg y, xbit_0]
    · obtain ⟨q1, ⟨s, q2, q3⟩, q4, q5, q6, q7⟩ := ed t ht
      rw [b3, b4, b5, b6, b7, b8, b9, b10]
      exact ⟨q1, ⟨s, by omega, q3⟩, q4, q5, q6, q7⟩
    · rw [b8, b10]; exact ez t ht h14
  rcases w01 hw with rfl | rfl
  · exact key _ rfl rfl rfl rfl rfl rfl rfl rfl rfl rfl rfl rfl rfl rfl rfl rfl rfl rfl rfl rfl rfl rfl
  · exact key _ rfl rfl rfl rfl rfl rfl rfl rfl rfl rfl rfl rfl rfl rfl rfl rfl rfl rfl rfl rfl rfl rfl
theorem gz {W : xl_V} {w : Nat} (hw : w < 2) (h0 : ∀ s, s < 5 → ∀ u, u < 2 → u = w → W.1 (18 + 4 * s + 2 * u) 0 = 0 ∧ W.1 (18 + 4 * s + 2 * u) 2 = 0) : ∀ s, s < 5 → W.1 (ga w s) 0 = 0 ∧ W.1 (ga w s) 2 = 0 := fun s hs => h0 s hs w hw rfl
theorem s01 {s : Nat} (h : s < 5) : s = 0 ∨ s = 1 ∨ s = 2 ∨ s = 3 ∨ s = 4 := by omega
theorem op_0 (h : Sim V) (x1 x2 : Int32) : xX S 18 32 0 (xa_ent 3 [.ref 0, .int (bz x1), .int (bz x2)]) [] V 1 6 (xpo (Jd [(eS, 1)] (RK S Sim 19 103 3 [.ref 47, .int (bz x1), .int (bz x2)]))) := by
  obtain ⟨n, e, p, w, G, hN, hV, hW⟩ := id h
  have n1 := hN.1.1
  have n2 := hN.1.2.1
  have n5 := hN.1.2.2
  by_cases h5 : n < 5
  · refine cl_ok (t_CG_signal (d := 15) hW.1 ((xlt (b := 5) n1 rfl (by omega) (by decide)).mpr h5)) (fun f => ?_)
    refine rf_ok (t_M_signal (d := 18) (n := n) ?_ h5) ?_ (fun x hx => ?_) ?_ ?_
    · rcases w01 hW.1.1 with rfl | rfl <;> exact n2
    · rfl
    · rw [← Option.some.inj hx]
      rcases w01 hW.1.1 with rfl | rfl
      · show nI n = V.1 1 0 + 1 - 1; rw [n1, nI_p]
      · show nI n = V.1 1 0 + 1 - 1; rw [n1, nI_p]
    · refine Sim_reset (w := w) (sN_sig (bz_b x1) (bz_b x2) hW.1.1 hN h5) ?_ ?_ ?_ ?_ ?_ ?_ ?_ ?_ (fun s hs => ?_) (fun s hs => ?_)
      · have := hW.1; rcases w01 hW.1.1 with rfl | rfl <;> exact this
      · have := hW.2.1; rcases w01 hW.1.1 with rfl | rfl <;> exact this
      · rfl
      · rfl
      · rfl
      · rfl
      · rcases w01 hW.1.1 with rfl | rfl <;> rfl
      · rfl
      · rcases w01 hW.1.1 with rfl | rfl <;> rcases s01 hs with rfl | rfl | rfl | rfl | rfl <;> exact ⟨rfl, rfl⟩
      · rcases s01 hs with rfl | rfl | rfl | rfl | rfl <;> rfl
    · rfl
  · have e5 : n = 5 := by omega
    subst e5
    refine cl_ex (t_CG_signal_e (d := 18) (fun z => h5 ((xlt (b := 5) n1 rfl (by omega) (by decide)).mp z))) (c := 1) (by decide) ?_
    exact rf_ok (t_M_signalX (d := 18) n2) rfl (fun x hx => by cases hx) (Sim_c0 h) rfl
end XOps
