section XOps4
variable {S : Nat × (Nat → Int32)} {V : xl_V} {d : Nat}
/-- there is no graph on either side, or the same on both -/
theorem sV_d {e : Nat} (h : sV V e) : (V.1 6 0 = 0 ∧ m_ng V = 1 ∧ V.1 47 13 = nI 0) ∨ ∃ c, ¬ V.1 6 0 = 0 ∧ m_ng V = 0 ∧ sG V e c := by
  obtain ⟨h1, h2, h3⟩ := h
  rcases h3 with ⟨hv, h60, h13⟩ | ⟨v, c, hv, h04, hG⟩
  · refine Or.inl ⟨h60, ?_, h13⟩
    unfold m_ng
    rw [← h1]
    rcases hv with hv | hv
    · rw [if_pos hv]
    · rw [hv]; decide
  · refine Or.inr ⟨c, fun z => ?_, ?_, hG⟩
    · have := (nI_eq (xn31 (by have := hG.2.2.2.1; omega)) (xn31 (by decide))).mp (hG.1.symm.trans z : nI c = nI 0)
      have := hG.2.2.1
      omega
    · unfold m_ng
      rw [← h1, h04]
      have hc : v = 0 ∨ v = 1 ∨ v = 2 ∨ v = 3 ∨ v = 4 := by omega
      rcases hc with rfl | rfl | rfl | rfl | rfl <;> decide
theorem op_5 (h : Sim V) : xX S 18 46 0 (xa_ent 1 [.ref 0]) [] V 1 6 (xpo (Jd [(eS, 1)] (RK S Sim 19 123 1 [.ref 47]))) := by
  obtain ⟨n, e, p, w, G, hN, hV, hW⟩ := id h
  rcases sV_d hV with ⟨a1, a2, a3⟩ | ⟨c, a1, a2, hG⟩
  · refine cl_ex (t_CG_states_e (d := 17) a1) (c := 1) (by decide) ?_
    have e1 : m_sts V = (0, xl_i V 47 0 1) := by unfold m_sts; rw [a2]; rfl
    refine rf_ok (t_M_states (d := 18)) ?_ (fun x hx => by cases hx) ?_ ?_
    · rw [e1]; rfl
    · rw [e1]; exact Sim_c0 h
    · rw [e1]; rfl
  · refine cl_ok (t_CG_states (d := 17) a1) (fun f => ?_)
    have e1 : m_sts (xl_o V f) = (V.1 47 13, xl_i (xl_o V f) 47 0 0) := by unfold m_sts; rw [show m_ng (xl_o V f) = 0 from a2]; rfl
    refine rf_ok (t_M_states (d := 18)) ?_ (fun x hx => ?_) ?_ ?_
    · rw [e1]; rfl
    · rw [e1, ← Option.some.inj hx, hG.1]; exact hG.2.1
    · rw [e1]; exact Sim_c0 (Sim_o h)
    · rw [e1]; rfl
theorem mno_g {x : Int32} (h : m_ng V = 1) : m_no V x = 1 := by unfold m_no; rw [h]; rfl
theorem mno_2 {x : Int32} (h : m_ng V = 0) (hx : x < 0 ∨ ¬ x < V.1 47 13) : m_no V x = 2 := by
  unfold m_no
  rw [if_pos h]
  rcases hx with hx | hx
  · rw [if_pos hx]
  · by_cases h0 : x < 0
    · rw [if_pos h0]
    · rw [if_neg h0, if_neg hx]
theorem mno_0 {x : Int32} (h : m_ng V = 0) (h0 : ¬ x < 0) (hx : x < V.1 47 13) : m_no V x = 0 := by
  unfold m_no
  rw [if_pos h, if_neg h0, if_pos hx]
theorem op_6 (h : Sim V) (x : Int32) : xX S 18 49 0 (xa_ent 2 [.ref 0, .int x]) [] V 1 6 (xpo (Jd [(eS, 1), (eI, 2)] (RK S Sim 19 125 2 [.ref 47, .int x]))) := by
  obtain ⟨n, e, p, w, G, hN, hV, hW⟩ := id h
  rcases sV_d hV with ⟨a1, a2, a3⟩ | ⟨c, a1, a2, hG⟩
  · refine cl_ex (t_CG_code_g (d := 16) a1) (c := 1) (by decide) ?_
    refine rf_ok (t_M_code (d := 17) a3 (by decide)) ?_ (fun x hx => by cases hx) (Sim_c0 h) rfl
    rw [mno_g a2]; rfl
  · have hc := hG.2.2.2.1
    by_cases hx : x < 0 ∨ ¬ x < V.1 6 0
    · refine cl_ex (t_CG_code_e (d := 16) a1 hx) (c := 2) (by decide) ?_
      refine rf_ok (t_M_code (d := 17) hG.2.1 (by omega)) ?_ (fun x hx => by cases hx) (Sim_c0 h) rfl
      rw [mno_2 a2 (by rw [hG.2.1, ← hG.1]; exact hx)]; rfl
    · have hx0 : ¬ x < 0 := fun q => hx (Or.inl q)
      have hx1 : x < V.1 6 0 := Decidable.not_not.mp (fun q => hx (Or.inr q))
      have e0 : m_no V x = 0 := mno_0 a2 hx0 (by rw [hG.2.1, ← hG.1]; exact hx1)
      obtain ⟨k, hk, hxk⟩ := nat_of hx0 (by rw [← hG.1]; exact hx1) (by omega)
      have ek : x.toNatClampNeg = k := by rw [hxk]; exact nI_clamp (xn31 (by omega))
      refine cl_ok (t_CG_code (d := 16) a1 hx0 hx1 (by rw [hxk]; exact vp_in_nI (by omega) (by decide))) (fun f => ?_)
      refine rf_ok (t_M_code (V := xl_o V f) (d := 17) hG.2.1 (by omega)) ?_ (fun z hz => ?_) (Sim_c0 (Sim_o h)) rfl
      · show m_no V x = 0; exact e0
      · rw [← Option.some.inj hz, show m_no (xl_o V f) x = 0 from e0, if_pos rfl, ek]
        exact (hG.2.2.2.2.1 k hk).2.1.symm
theorem op_7 (h : Sim V) (x : Int32) : xX S 18 52 0 (xa_ent 2 [.ref 0, .int x]) [] V 1 6 (xpo (Jd [(eS, 1), (eI, 2)] (RK S Sim 19 127 2 [.ref 47, .int x]))) := by
  obtain ⟨n, e, p, w, G, hN, hV, hW⟩ := id h
  rcases sV_d hV with ⟨a1, a2, a3⟩ | ⟨c, a1, a2, hG⟩
  · refine cl_ex (t_CG_marking_g (d := 16) a1) (c := 1) (by decide) ?_
    refine rf_ok (t_M_marking (d := 17) a3 (by decide)) ?_ (fun x hx => by cases hx) (Sim_c0 h) rfl
    rw [mno_g a2]; rfl
  · have hc := hG.2.2.2.1
    by_cases hx : x < 0 ∨ ¬ x < V.1 6 0
    · refine cl_ex (t_CG_marking_e (d := 16) a1 hx) (c := 2) (by decide) ?_
      refine rf_ok (t_M_marking (d := 17) hG.2.1 (by omega)) ?_ (fun x hx => by cases hx) (Sim_c0 h) rfl
      rw [mno_2 a2 (by rw [hG.2.1, ← hG.1]; exact hx)]; rfl
    · have hx0 : ¬ x < 0 := fun q => hx (Or.inl q)
      have hx1 : x < V.1 6 0 := Decidable.not_not.mp (fun q => hx (Or.inr q))
      have e0 : m_no V x = 0 := mno_0 a2 hx0 (by rw [hG.2.1, ← hG.1]; exact hx1)
      obtain ⟨k, hk, hxk⟩ := nat_of hx0 (by rw [← hG.1]; exact hx1) (by omega)
      have ek : x.toNatClampNeg = k := by rw [hxk]; exact nI_clamp (xn31 (by omega))
      refine cl_ok (t_CG_marking (d := 16) a1 hx0 hx1 (by rw [hxk]; exact vp_in_nI (by omega) (by decide))) (fun f => ?_)
      refine rf_ok (t_M_marking (V := xl_o V f) (d := 17) hG.2.1 (by omega)) ?_ (fun z hz => ?_) (Sim_c0 (Sim_o h)) rfl
      · show m_no V x = 0; exact e0
      · rw [← Option.some.inj hz, show m_no (xl_o V f) x = 0 from e0, if_pos rfl, ek]
        exact (hG.2.2.2.2.1 k hk).1.symm
theorem op_8 (h : Sim V) (x : Int32) : xX S 18 54 0 (xa_ent 2 [.ref 0, .int x]) [] V 1 6 (xpo (Jd [(eS, 1), (eI, 2)] (RK S Sim 19 128 2 [.ref 47, .int x]))) := by
  obtain ⟨n, e, p, w, G, hN, hV, hW⟩ := id h
  rcases sV_d hV with ⟨a1, a2, a3⟩ | ⟨c, a1, a2, hG⟩
  · refine cl_ex (t_CG_found_g (d := 16) a1) (c := 1) (by decide) ?_
    refine rf_ok (t_M_found (d := 17) a3 (by decide)) ?_ (fun x hx => by cases hx) (Sim_c0 h) rfl
    rw [mno_g a2]; rfl
  · have hc := hG.2.2.2.1
    by_cases hx : x < 0 ∨ ¬ x < V.1 6 0
    · refine cl_ex (t_CG_found_e (d := 16) a1 hx) (c := 2) (by decide) ?_
      refine rf_ok (t_M_found (d := 17) hG.2.1 (by omega)) ?_ (fun x hx => by cases hx) (Sim_c0 h) rfl
      rw [mno_2 a2 (by rw [hG.2.1, ← hG.1]; exact hx)]; rfl
    · have hx0 : ¬ x < 0 := fun q => hx (Or.inl q)
      have hx1 : x < V.1 6 0 := Decidable.not_not.mp (fun q => hx (Or.inr q))
      have e0 : m_no V x = 0 := mno_0 a2 hx0 (by rw [hG.2.1, ← hG.1]; exact hx1)
      obtain ⟨k, hk, hxk⟩ := nat_of hx0 (by rw [← hG.1]; exact hx1) (by omega)
      have ek : x.toNatClampNeg = k := by rw [hxk]; exact nI_clamp (xn31 (by omega))
      refine cl_ok (t_CG_found (d := 16) a1 hx0 hx1 (by rw [hxk]; exact vp_in_nI (by omega) (by decide))) (fun f => ?_)
      refine rf_ok (t_M_found (V := xl_o V f) (d := 17) hG.2.1 (by omega)) ?_ (fun z hz => ?_) (Sim_c0 (Sim_o h)) rfl
      · show m_no V x = 0; exact e0
      · rw [← Option.some.inj hz, show m_no (xl_o V f) x = 0 from e0, if_pos rfl, ek]
        exact (hG.2.2.2.2.1 k hk).2.2.1.symm
theorem op_9 (h : Sim V) (x : Int32) : xX S 18 56 0 (xa_ent 2 [.ref 0, .int x]) [] V 1 6 (xpo (Jd [(eS, 1), (eI, 2)] (RK S Sim 19 129 2 [.ref 47, .int x]))) := by
  obtain ⟨n, e, p, w, G, hN, hV, hW⟩ := id h
  obtain ⟨-, he2, he14⟩ := hN.2.1
  have hof : ∀ t, t < e → vp_in (V.2.1 50 t) 5 := fun t ht => by
    obtain ⟨q1, ⟨s, q2, q3⟩, -⟩ := hN.2.2.2.2.2.2.2.1 t ht
    rw [q1, q3]
    exact vp_in_nI (by have := hN.1.2.2; omega) (by decide)
  rcases sV_d hV with ⟨a1, a2, a3⟩ | ⟨c, a1, a2, hG⟩
  · refine cl_ex (t_CG_excited_g (d := 16) a1) (c := 1) (by decide) ?_
    refine rf_ok (t_M_excited (d := 17) a3 (by decide) he2 he14 hof) ?_ (fun x hx => by cases hx) (Sim_c0 h) rfl
    rw [mno_g a2]; rfl
  · have hc := hG.2.2.2.1
    by_cases hx : x < 0 ∨ ¬ x < V.1 6 0
    · refine cl_ex (t_CG_excited_e (d := 16) a1 hx) (c := 2) (by decide) ?_
      refine rf_ok (t_M_excited (d := 17) hG.2.1 (by omega) he2 he14 hof) ?_ (fun x hx => by cases hx) (Sim_c0 h) rfl
      rw [mno_2 a2 (by rw [hG.2.1, ← hG.1]; exact hx)]; rfl
    · have hx0 : ¬ x < 0 := fun q => hx (Or.inl q)
      have hx1 : x < V.1 6 0 := Decidable.not_not.mp (fun q => hx (Or.inr q))
      have e0 : m_no V x = 0 := mno_0 a2 hx0 (by rw [hG.2.1, ← hG.1]; exact hx1)
      obtain ⟨k, hk, hxk⟩ := nat_of hx0 (by rw [← hG.1]; exact hx1) (by omega)
      have ek : x.toNatClampNeg = k := by rw [hxk]; exact nI_clamp (xn31 (by omega))
      refine cl_ok (t_CG_excited (d := 16) a1 hx0 hx1 (by rw [hxk]; exact vp_in_nI (by omega) (by decide))) (fun f => ?_)
      refine rf_ok (t_M_excited (V := xl_o V f) (d := 17) hG.2.1 (by omega) he2 he14 hof) ?_ (fun z hz => ?_) (Sim_c0 (Sim_o h)) rfl
      · show m_no V x = 0; exact e0
      · rw [← Option.some.inj hz, show m_no (xl_o V f) x = 0 from e0, if_pos rfl, ek]
        exact (m_ex_cg (V := V) (W := xl_o V f) rfl rfl rfl rfl e).trans (hG.2.2.2.2.1 k hk).2.2.2.symm
theorem op_10 (h : Sim V) : xX S 19 30 0 (xa_ent 1 [.ref 0]) [] V 0 0 (xpo (fun o V1 => ∃ r, o = .inl (some (.int r)) ∧ RK S Sim 19 130 1 [.ref 47] V1 0 (some r))) := by
  obtain ⟨n, e, p, w, G, hN, hV, hW⟩ := id h
  refine xx_post (fun o h' q => ?_) (t_CG_fault (d := 19))
  obtain ⟨rfl, rfl⟩ := q
  exact ⟨V, rfl, _, rfl, rf_ok (t_M_fault (d := 19)) rfl (fun x hx => by rw [← Option.some.inj hx]; exact hV.2.1.symm) (Sim_c0 h) rfl⟩
end XOps4
section XOps5
variable {S : Nat × (Nat → Int32)} {V : xl_V} {d : Nat}
theorem sN_c2 {V W : xl_V} {n e p : Nat} (h1 : ∀ a j, a < 13 → W.1 a j = V.1 a j) (h47 : ∀ j, j ≠ 0 → j ≤ 13 → W.1 47 j = V.1 47 j) (h2 : ∀ a, (a < 13 ∨ (48 ≤ a ∧ a < 57)) → W.2.1 a = V.2.1 a) (h : sN V n e p) : sN W n e p := by
  have hin : ∀ s, n_in W s = n_in V s := fun s => by unfold n_in; rw [h1 1 6 (by decide)]
  unfold sN
  simp only [hin]
  rw [h1 1 0 (by decide), h47 1 (by decide) (by decide), h1 1 1 (by decide), h47 4 (by decide) (by decide), h1 1 2 (by decide), h47 9 (by decide) (by decide), h1 1 4 (by decide), h47 10 (by decide) (by decide), h1 1 3 (by decide), h1 1 6 (by decide), h1 1 5 (by decide),
    h2 49 (by decide), h2 48 (by decide), h2 50 (by decide), h2 2 (by decide), h2 51 (by decide), h2 3 (by decide), h2 52 (by decide), h2 4 (by decide), h2 53 (by decide), h2 5 (by decide)]
  exact h
theorem sG_c2 {V W : xl_V} {e c : Nat} (h1 : ∀ a j, a < 13 → W.1 a j = V.1 a j) (h47 : ∀ j, j ≠ 0 → j ≤ 13 → W.1 47 j = V.1 47 j) (h2 : ∀ a, (a < 13 ∨ (48 ≤ a ∧ a < 57)) → W.2.1 a = V.2.1 a) (h : sG V e c) : sG W e c := by
  have a4 := h2 54 (by decide)
  have a5 := h2 55 (by decide)
  have a2 := h2 52 (by decide)
  have a3 := h2 53 (by decide)
  have a0 := h2 50 (by decide)
  have a1 := h2 51 (by decide)
  have en : ∀ k t, m_en W k t = m_en V k t := fun k t => by unfold m_en; rw [a4, a2]
  have sf : ∀ k t, m_sf W k t = m_sf V k t := fun k t => by unfold m_sf; rw [a4, a2, a3]
  have rt : ∀ k t, m_rt W k t = m_rt V k t := fun k t => by unfold m_rt; rw [a5, a0, a1]
  have mk : ∀ k t, m_mk W k t = m_mk V k t := fun k t => by unfold m_mk; rw [a4, a2, a3]
  have cd : ∀ k t, m_cd W k t = m_cd V k t := fun k t => by unfold m_cd; rw [a5, a0, a1]
  have is : ∀ m c, m_is W m c = m_is V m c := fun m c => by funext j; unfold m_is; rw [a4, a5]
  obtain ⟨g1, g2, g3, g4, g5, g6, g7, g8⟩ := h
  refine ⟨by rw [h1 6 0 (by decide)]; exact g1, by rw [h47 13 (by decide) (by decide)]; exact g2, g3, g4, fun k hk => ?_, fun k t hk ht => ?_, fun hv k t hk ht => ?_, fun k hk => by rw [h1 1 0 (by decide), h2 8 (by decide)]; exact g8 k hk⟩
  · rw [h2 7 (by decide), h2 8 (by decide), h2 9 (by decide), h2 10 (by decide), a4, a5, h2 56 (by decide), m_ex_cg (h2 48 (by decide)) a0 a2 a4]
    exact g5 k hk
  · unfold sC
    rw [h2 12 (by decide), en, sf, rt, mk, cd, is]
    exact g6 k t hk ht
  · rw [en, sf, rt]
    rw [h1 0 4 (by decide)] at hv
    exact g7 hv k t hk ht
theorem sV_c2 {V W : xl_V} {e : Nat} (h1 : ∀ a j, a < 13 → W.1 a j = V.1 a j) (h47 : ∀ j, j ≠ 0 → j ≤ 13 → W.1 47 j = V.1 47 j) (h2 : ∀ a, (a < 13 ∨ (48 ≤ a ∧ a < 57)) → W.2.1 a = V.2.1 a) (h : sV V e) : sV W e := by
  unfold sV
  rw [h1 0 4 (by decide), h1 0 5 (by decide), h47 11 (by decide) (by decide), h47 12 (by decide) (by decide), h1 6 0 (by decide), h47 13 (by decide) (by decide)]
  obtain ⟨v1, v2, v3⟩ := h
  refine ⟨v1, v2, v3.imp id ?_⟩
  rintro ⟨v, c, a1, a2, a3⟩
  exact ⟨v, c, a1, a2, sG_c2 h1 h47 h2 a3⟩
theorem sg_ns {n : Nat} {x : Int32} (n1 : V.1 1 0 = nI n) (n2 : V.1 47 1 = nI n) (h : ¬ m_ns V x = 0) : x < 0 ∨ ¬ x < V.1 1 0 := by
  by_cases h0 : x < 0
  · exact Or.inl h0
  · exact Or.inr (fun z => h (ns_0.mpr ⟨h0, by rw [n2, ← n1]; exact z⟩))
theorem op_12 (h : Sim V) (x : Int32) : xX S 18 80 0 (xa_ent 2 [.ref 0, .int x]) [] V 1 6 (xpo (Jd [(eI, 1)] (RK S Sim 19 142 2 [.ref 47, .int x]))) := by
  obtain ⟨n, e, p, w, G, hN, hV, hW⟩ := id h
  obtain ⟨n1, n2, n5⟩ := hN.1
  obtain ⟨w1, w2, w3, w4⟩ := hW
  by_cases hs : m_ns V x = 0
  · obtain ⟨h0, h1⟩ := ns_0.mp hs
    rw [n2] at h1
    obtain ⟨s, hsn, rfl⟩ := nat_of h0 h1 (by omega)
    refine cl_ok (t_CG_products (d := 17) w1 h0 (by rw [n1]; exact h1) rfl (by omega)) (fun f => ?_)
    refine rf_ok (t_M_products (V := xl_o V f) (d := 18) n2 n5) ?_ (fun z hz => ?_) (Sim_c0 (Sim_o h)) rfl
    · exact hs
    · rw [← Option.some.inj hz, if_pos (show m_ns (xl_o V f) (nI s) = 0 from hs), nI_clamp (xn31 (by omega)), (w4 s hsn).1.1]
      exact (w3.1 s hsn).1
  · refine cl_ex (t_CG_products_e (d := 17) (sg_ns n1 n2 hs)) (c := 1) (by decide) ?_
    exact rf_ok (t_M_products (d := 18) n2 n5) (ns_1 hs) (fun x hx => by cases hx) (Sim_c0 h) rfl
theorem op_13 (h : Sim V) (x i : Int32) : xX S 18 82 0 (xa_ent 3 [.ref 0, .int x, .int i]) [] V 1 6 (xpo (Jd [(eI, 1)] (RK S Sim 19 143 3 [.ref 47, .int x, .int i]))) := by
  obtain ⟨n, e, p, w, G, hN, hV, hW⟩ := id h
  obtain ⟨n1, n2, n5⟩ := hN.1
  obtain ⟨w1, w2, w3, w4⟩ := hW
  by_cases hs : m_ns V x = 0
  · obtain ⟨h0, h1⟩ := ns_0.mp hs
    rw [n2] at h1
    obtain ⟨s, hsn, rfl⟩ := nat_of h0 h1 (by omega)
    have h8 := (w3.2 s hsn).1
    have ec : (nI s).toNatClampNeg = s := nI_clamp (xn31 (by omega))
    have el := (w4 s hsn).1.1
    have em := (w3.1 s hsn).1
    by_cases hi : i < 0 ∨ ¬ i < V.1 (ga w s) 0
    · refine cl_ex (t_CG_product_i (d := 17) w1 h0 (by rw [n1]; exact h1) rfl (by omega) hi) (c := 1) (by decide) ?_
      refine rf_ok (t_M_product (d := 18) n2 n5 w3) ?_ (fun x hx => by cases hx) (Sim_c0 h) rfl
      show m_pb V (nI s) i = 1
      unfold m_pb
      rw [if_pos hs, ec, em, ← el]
      rcases hi with hi | hi
      · rw [if_pos hi]
      · by_cases q : i < 0
        · rw [if_pos q]
        · rw [if_neg q, if_neg hi]
    · have hi0 : ¬ i < 0 := fun q => hi (Or.inl q)
      have hi1 : i < V.1 (ga w s) 0 := Decidable.not_not.mp (fun q => hi (Or.inr q))
      obtain ⟨k, hk, rfl⟩ := nat_of hi0 (by rw [← el]; exact hi1) (by omega)
      refine cl_ok (t_CG_product (d := 17) w1 h0 (by rw [n1]; exact h1) rfl (by omega) hi0 hi1 (vp_in_nI (by omega) (by decide))) (fun f => ?_)
      have e0 : m_pb V (nI s) (nI k) = 0 := by
        unfold m_pb
        rw [if_pos hs, ec, em, ← el, if_neg hi0, if_pos hi1]
      refine rf_ok (t_M_product (V := xl_o V f) (d := 18) n2 n5 w3) ?_ (fun z hz => ?_) (Sim_c0 (Sim_o h)) rfl
      · exact e0
      · have ek : (8 * nI s + nI k : Int32).toNatClampNeg = 8 * s + k := by
          rw [show (8 : Int32) = nI 8 from rfl, pk_mul, nI_add]
          exact nI_clamp (xn31 (by omega))
        rw [← Option.some.inj hz, if_pos (show m_pb (xl_o V f) (nI s) (nI k) = 0 from e0), ek, nI_clamp (xn31 (by omega))]
        have hg : (G s)[k]? = some (G s)[k] := List.getElem?_eq_getElem hk
        exact ((w3.1 s hsn).2 k _ hg).trans ((w4 s hsn).1.2.1 k _ hg).symm
  · refine cl_ex (t_CG_product_e (d := 17) (sg_ns n1 n2 hs)) (c := 1) (by decide) ?_
    refine rf_ok (t_M_product (d := 18) n2 n5 w3) ?_ (fun x hx => by cases hx) (Sim_c0 h) rfl
    show m_pb V x i = 1
    unfold m_pb
    rw [if_neg hs]
theorem x2I : ∀ n, n < 6 → (1 : Int32) <<< (nI n &&& 31) = nI (2 ^ n) ∧ 2 ^ n ≤ 32 := by decide
theorem op_16 (h : Sim V) (x cd : Int32) : xX S 18 89 0 (xa_ent 3 [.ref 0, .int x, .int cd]) [] V 1 6 (xpo (Jd [(eI, 1)] (RK S Sim 19 146 3 [.ref 47, .int x, .int cd]))) := by
  obtain ⟨n, e, p, w, G, hN, hV, hW⟩ := id h
  obtain ⟨n1, n2, n5⟩ := hN.1
  obtain ⟨w1, w2, w3, w4⟩ := hW
  by_cases hs : m_ns V x = 0
  · obtain ⟨h0, h1⟩ := ns_0.mp hs
    rw [n2] at h1
    obtain ⟨s, hsn, rfl⟩ := nat_of h0 h1 (by omega)
    have ec : (nI s).toNatClampNeg = s := nI_clamp (xn31 (by omega))
    obtain ⟨y1, y2⟩ := x2I n (by omega)
    by_cases hi : cd < 0 ∨ ¬ cd < (1 : Int32) <<< (V.1 1 0 &&& 31)
    · refine cl_ex (t_CG_value_i (d := 17) h0 (by rw [n1]; exact h1) hi) (c := 1) (by decide) ?_
      refine rf_ok (t_M_value (d := 16) n2 n5 w3) ?_ (fun x hx => by cases hx) (Sim_c0 h) rfl
      show m_vb V (nI s) cd = 1
      unfold m_vb
      rw [if_pos hs, n2, ← n1]
      rcases hi with hi | hi
      · rw [if_pos hi]
      · by_cases q : cd < 0
        · rw [if_pos q]
        · rw [if_neg q, if_neg hi]
    · have hi0 : ¬ cd < 0 := fun q => hi (Or.inl q)
      have hi1 : cd < (1 : Int32) <<< (V.1 1 0 &&& 31) := Decidable.not_not.mp (fun q => hi (Or.inr q))
      have hi2 := hi1
      rw [n1, y1] at hi2
      obtain ⟨c, hc, rfl⟩ := nat_of hi0 hi2 (by omega)
      refine cl_ok (t_CG_value (d := 17) w1 h0 (by rw [n1]; exact h1) rfl (by omega) hi0 hi1) (fun f => ?_)
      have e0 : m_vb V (nI s) (nI c) = 0 := by
        unfold m_vb
        rw [if_pos hs, n2, ← n1, if_neg hi0, if_pos hi1]
      refine rf_ok (t_M_value (V := xl_o V f) (d := 16) n2 n5 w3) ?_ (fun z hz => ?_) (Sim_c0 (Sim_o h)) rfl
      · exact e0
      · rw [← Option.some.inj hz, if_pos (show m_vb (xl_o V f) (nI s) (nI c) = 0 from e0), ec, ga_ou_u, (w4 s hsn).1.2.2, w2]
        exact m_vl_u n5 hc (fun q hq => spf_cv n5 ((w4 s hsn).2 q hq))
  · refine cl_ex (t_CG_value_e (d := 17) (sg_ns n1 n2 hs)) (c := 1) (by decide) ?_
    refine rf_ok (t_M_value (d := 16) n2 n5 w3) ?_ (fun x hx => by cases hx) (Sim_c0 h) rfl
    show m_vb V x cd = 1
    unfold m_vb
    rw [if_neg hs]
end XOps5
section XOps6
variable {S : Nat × (Nat → Int32)} {V : xl_V} {d : Nat}
/-- one gate has changed, on both sides -/
theorem Sim_gate {V W : xl_V} {n e p w s : Nat} {G : Nat → List Nat} {L : List Nat} (hN : sN V n e p) (hV : sV V e) (hW : sW V n w G) (hs : s < n)
    (h1 : ∀ a j, a ≠ ga w s → a ≠ 47 → W.1 a j = V.1 a j) (h47 : ∀ j, j ≠ 0 → W.1 47 j = V.1 47 j) (h2 : ∀ a, a ≠ ga w s + 1 → a ≠ 57 → a ≠ 58 → W.2.1 a = V.2.1 a) (h3 : W.2.2.1 = V.2.2.1)
    (hm : ∀ q, W.2.1 57 q = if q = s then nI L.length else V.2.1 57 q) (hg : ∀ q i, q < n → q ≠ s → i < 8 → W.2.1 58 (8 * q + i) = V.2.1 58 (8 * q + i)) (hg2 : ∀ i a, L[i]? = some a → W.2.1 58 (8 * s + i) = nI a) (hl : l_gt W (ga w s) (ga w s + 1) L) (hL8 : L.length ≤ 8) (hL3 : ∀ q, q ∈ L → q < 3 ^ n) : Sim W := by
  obtain ⟨w1, w2, w3, w4⟩ := hW
  have n5 := hN.1.2.2
  have gl := ga_lt w1.1 (show s < 5 by omega)
  have c1 : ∀ a j, a < 13 → W.1 a j = V.1 a j := fun a j ha => h1 a j (by omega) (by omega)
  have c2 : ∀ a, (a < 13 ∨ (48 ≤ a ∧ a < 57)) → W.2.1 a = V.2.1 a := fun a ha => h2 a (by omega) (by omega) (by omega)
  have lo : ∀ r P, r < 5 → r ≠ s → l_gt V (ga w r) (ga w r + 1) P → l_gt W (ga w r) (ga w r + 1) P := fun r P hr hrs z => by
    have g2 := ga_lt w1.1 hr
    have d1 : ga w r ≠ ga w s := by unfold ga; omega
    have d2 : ga w r ≠ ga w s + 1 := by unfold ga; omega
    unfold l_gt
    rw [h1 (ga w r) 0 d1 (by omega), h1 (ga w r) 2 d1 (by omega), h2 (ga w r + 1) (by omega) (by omega) (by omega), h2 46 (by omega) (by omega) (by omega)]
    exact z
  refine ⟨n, e, p, w, fun r => if r = s then L else G r, sN_c2 c1 (fun j hj _ => h47 j hj) c2 hN, sV_c2 c1 (fun j hj _ => h47 j hj) c2 hV, ?_, ?_, ⟨fun q hq => ?_, fun q hq => ?_⟩, fun r hr => ?_⟩
  · unfold c_ok; rw [h3]; exact w1
  · rw [h2 46 (by omega) (by omega) (by omega)]; exact w2
  · by_cases z : q = s
    · subst z
      rw [hm, if_pos rfl]
      simp only [if_pos]
      exact ⟨trivial, hg2⟩
    · rw [hm, if_neg z]
      simp only [if_neg z]
      refine ⟨(w3.1 q hq).1, fun i a ha => ?_⟩
      have hi : i < (G q).length := (List.getElem?_eq_some_iff.mp ha).1
      have := (w3.2 q hq).1
      rw [hg q i hq z (by omega)]
      exact (w3.1 q hq).2 i a ha
  · by_cases z : q = s
    · simp only [if_pos z]
      refine ⟨hL8, fun a ha => ?_⟩
      have h3n : 3 ^ n ≤ 3 ^ 5 := Nat.pow_le_pow_right (by decide) n5
      have := hL3 a ha
      omega
    · simp only [if_neg z]; exact w3.2 q hq
  · by_cases z : r = s
    · subst z; simp only [if_pos]; exact ⟨hl, hL3⟩
    · simp only [if_neg z]; exact ⟨lo r _ (by omega) z (w4 r hr).1, (w4 r hr).2⟩
theorem op_15 (h : Sim V) (x : Int32) : xX S 18 87 0 (xa_ent 2 [.ref 0, .int x]) [] V 1 6 (xpo (Jv [(eI, 1)] (RKv S Sim 19 145 2 [.ref 47, .int x]))) := by
  obtain ⟨n, e, p, w, G, hN, hV, hW⟩ := id h
  obtain ⟨n1, n2, n5⟩ := hN.1
  have w1 := hW.1
  by_cases hs : m_ns V x = 0
  · obtain ⟨h0, h1⟩ := ns_0.mp hs
    rw [n2] at h1
    obtain ⟨s, hsn, rfl⟩ := nat_of h0 h1 (by omega)
    have gl := ga_lt w1.1 (show s < 5 by omega)
    have ec : (nI s).toNatClampNeg = s := nI_clamp (xn31 (by omega))
    refine cl_okv (t_CG_strip (d := 17) w1 h0 (by rw [n1]; exact h1) rfl (by omega)) ?_
    have x1 : ∀ a j, a ≠ ga w s → (ga_cl V (ga w s)).1 a j = V.1 a j := fun a j ha => by
      show (if a = ga w s ∧ j = 2 then _ else if a = ga w s ∧ j = 0 then _ else V.1 a j) = V.1 a j
      rw [if_neg (fun z => ha z.1), if_neg (fun z => ha z.1)]
    have hs' : m_ns (ga_cl V (ga w s)) (nI s) = 0 := ns_0.mpr ⟨h0, by rw [x1 47 1 (by omega), n2]; exact h1⟩
    have e1 : m_st2 (ga_cl V (ga w s)) (nI s) = xl_a (xl_i (ga_cl V (ga w s)) 47 0 0) 57 (upd (V.2.1 57) s 0) := by unfold m_st2; rw [if_pos hs', ec]; rfl
    have n2' : (ga_cl V (ga w s)).1 47 1 = nI n := by rw [x1 47 1 (by omega)]; exact n2
    refine rf_okv (t_M_strip (d := 18) n2' n5) ?_ ?_ ?_
    · rw [e1]; rfl
    · rw [e1]
      have y1 : ∀ a j, (xl_a (xl_i (ga_cl V (ga w s)) 47 0 0) 57 (upd (V.2.1 57) s 0)).1 a j = if a = 47 ∧ j = 0 then 0 else (ga_cl V (ga w s)).1 a j := fun a j => rfl
      have y2 : ∀ a, a ≠ 57 → (xl_a (xl_i (ga_cl V (ga w s)) 47 0 0) 57 (upd (V.2.1 57) s 0)).2.1 a = V.2.1 a := fun a ha => xa_up_n _ _ ha
      have y3 : (xl_a (xl_i (ga_cl V (ga w s)) 47 0 0) 57 (upd (V.2.1 57) s 0)).2.1 57 = upd (V.2.1 57) s 0 := rfl
      refine Sim_gate (L := []) hN hV hW hsn (fun a j ha h47 => ?_) (fun j hj => ?_) (fun a _ ha _ => y2 a ha) rfl (fun q => ?_) (fun q i _ _ _ => by rw [y2 58 (by decide)]) (fun i a ha => by simp at ha) ⟨?_, fun i a ha => by simp at ha, ?_⟩ (by decide) (fun q hq => by cases hq)
      · rw [y1, if_neg (fun z => h47 z.1), x1 a j ha]
      · rw [y1, if_neg (fun z => hj z.2), x1 47 j (by omega)]
      · rw [y3]
        by_cases z : q = s
        · subst z; rw [pk_us, if_pos rfl]; rfl
        · rw [pk_un z, if_neg z]
      · rw [y1, if_neg (by omega)]
        show (if ga w s = ga w s ∧ 0 = 2 then _ else if ga w s = ga w s ∧ 0 = 0 then _ else _) = _
        rw [if_neg (by omega), if_pos ⟨rfl, rfl⟩]; rfl
      · rw [y1, if_neg (by omega)]
        show (if ga w s = ga w s ∧ 2 = 2 then _ else _) = _
        rw [if_pos ⟨rfl, rfl⟩]; rfl
    · rw [e1]; rfl
  · refine cl_exv (t_CG_strip_e (d := 17) (sg_ns n1 n2 hs)) (c := 1) (by decide) ?_
    have e1 : m_st2 V x = xl_i V 47 0 1 := by unfold m_st2; rw [if_neg hs]
    refine rf_okv (t_M_strip (d := 18) n2 n5) ?_ ?_ ?_
    · rw [e1]; rfl
    · rw [e1]; exact Sim_c0 h
    · rw [e1]; rfl
theorem l_os_ap (sp : Nat → Int32) (l : List Nat) (q : Nat) : l_os sp (l ++ [q]) = l_os sp l ||| sp q := by
  unfold l_os; rw [List.foldl_append]; rfl
theorem op_14 (h : Sim V) (x p0 : Int32) : xX S 18 84 0 (xa_ent 3 [.ref 0, .int x, .int p0]) [] V 1 6 (xpo (Jd [(eI, 1), (eA, 2), (eS, 3)] (RK S Sim 19 144 3 [.ref 47, .int x, .int p0]))) := by
  obtain ⟨n, e, p, w, G, hN, hV, hW⟩ := id h
  obtain ⟨n1, n2, n5⟩ := hN.1
  have hin := hN.2.2.2.2.2.1.1
  obtain ⟨w1, w2, w3, w4⟩ := id hW
  have bad : ∀ z : Nat, 0 < z → z < 4 → m_ab V n x p0 = nI z → RK S Sim 19 144 3 [.ref 47, .int x, .int p0] V z none := fun z h0 h4 hz => by
    have hne : ¬ m_ab V n x p0 = 0 := by
      rw [hz]; intro q
      have := (nI_eq (a := z) (b := 0) (xn31 (by omega)) (xn31 (by decide))).mp q
      omega
    have e1 : m_ap V n x p0 = (0, xl_i V 47 0 (m_ab V n x p0)) := by unfold m_ap; rw [if_neg hne]
    refine rf_ok (t_M_append (d := 18) n2 n5 w3) ?_ (fun x hx => by cases hx) ?_ ?_
    · rw [e1]; exact hz
    · rw [e1]; exact Sim_c0 h
    · rw [e1]; rfl
  by_cases hs : m_ns V x = 0
  · obtain ⟨h0, h1⟩ := ns_0.mp hs
    rw [n2] at h1
    obtain ⟨s, hsn, rfl⟩ := nat_of h0 h1 (by omega)
    have ec : (nI s).toNatClampNeg = s := nI_clamp (xn31 (by omega))
    have h1' : nI s < V.1 1 0 := by rw [n1]; exact h1
    by_cases hi : n_in V (nI s) = 0
    · have hi' : V.2.1 48 s = 0 := by rw [hin s hsn]; exact hi
      by_cases hp : p0 < 0 ∨ ¬ p0 < nI (3 ^ n)
      · refine cl_ex (t_CG_append_p (d := 17) h0 h1' hi n1 n5 hp) (c := 2) (by decide) (bad 2 (by decide) (by decide) ?_)
        unfold m_ab
        rw [if_pos hs, ec, if_pos hi']
        rcases hp with hp | hp
        · rw [if_pos hp]; rfl
        · by_cases q : p0 < 0
          · rw [if_pos q]; rfl
          · rw [if_neg q, if_neg hp]; rfl
      · have hp0 : ¬ p0 < 0 := fun q => hp (Or.inl q)
        have hp1 : p0 < nI (3 ^ n) := Decidable.not_not.mp (fun q => hp (Or.inr q))
        have h3n : 3 ^ n ≤ 3 ^ 5 := Nat.pow_le_pow_right (by decide) n5
        obtain ⟨q, hq, rfl⟩ := nat_of hp0 hp1 (by omega)
        have el := (w4 s hsn).1.1
        have em := (w3.1 s hsn).1
        have h8 := (w3.2 s hsn).1
        by_cases hf : (G s).length < 8
        · have hc : V.1 (ga w s) 0 < 8 := (xlt (b := 8) el rfl (by omega) (by decide)).mpr hf
          have gl := ga_lt w1.1 (show s < 5 by omega)
          refine cl_ok (t_CG_append (d := 17) w1 h0 h1' rfl (by omega) hi n1 n5 hp0 hp1 rfl (by omega) hc (by rw [el]; exact vp_in_nI hf (by decide))) (fun f => ?_)
          have ek : (V.1 (ga w s) 0).toNatClampNeg = (G s).length := by rw [el]; exact nI_clamp (xn31 (by omega))
          have x1 : ∀ a j, a ≠ ga w s → (xl_o (ga_ad V (ga w s) (ga w s + 1) (nI q) (V.2.1 46 q)) f).1 a j = V.1 a j := fun a j ha => by
            show (if a = ga w s ∧ j = 0 then _ else if a = ga w s ∧ j = 2 then _ else V.1 a j) = V.1 a j
            rw [if_neg (fun z => ha z.1), if_neg (fun z => ha z.1)]
          have x2 : ∀ a, a ≠ ga w s + 1 → (xl_o (ga_ad V (ga w s) (ga w s + 1) (nI q) (V.2.1 46 q)) f).2.1 a = V.2.1 a := fun a ha => xa_up_n _ _ ha
          have x3 : (xl_o (ga_ad V (ga w s) (ga w s + 1) (nI q) (V.2.1 46 q)) f).2.1 (ga w s + 1) = upd (V.2.1 (ga w s + 1)) (G s).length (nI q) := by
            show xa_up V.2.1 (ga w s + 1) (upd (V.2.1 (ga w s + 1)) (V.1 (ga w s) 0).toNatClampNeg (nI q)) (ga w s + 1) = _
            rw [xa_up_s, ek]
          have x4 : (xl_o (ga_ad V (ga w s) (ga w s + 1) (nI q) (V.2.1 46 q)) f).1 (ga w s) 0 = V.1 (ga w s) 0 + 1 := by
            show (if ga w s = ga w s ∧ 0 = 0 then _ else _) = _
            rw [if_pos ⟨rfl, rfl⟩]
          have x5 : (xl_o (ga_ad V (ga w s) (ga w s + 1) (nI q) (V.2.1 46 q)) f).1 (ga w s) 2 = (V.1 (ga w s) 2 ||| V.2.1 46 q) := by
            show (if ga w s = ga w s ∧ 2 = 0 then _ else if ga w s = ga w s ∧ 2 = 2 then _ else _) = _
            rw [if_neg (by omega), if_pos ⟨rfl, rfl⟩]
          generalize hV1 : xl_o (ga_ad V (ga w s) (ga w s + 1) (nI q) (V.2.1 46 q)) f = V1 at x1 x2 x3 x4 x5
          have v3 : V1.2.2.1 = V.2.2.1 := by rw [← hV1]; rfl
          have n2' : V1.1 47 1 = nI n := by rw [x1 47 1 (by omega)]; exact n2
          have w3' : m_go V1 n G := by unfold m_go; rw [x2 57 (by omega), x2 58 (by omega)]; exact w3
          have hs' : m_ns V1 (nI s) = 0 := ns_0.mpr ⟨h0, by rw [n2']; exact h1⟩
          have ab : m_ab V1 n (nI s) (nI q) = 0 := by
            unfold m_ab
            rw [if_pos hs', ec, x2 48 (by omega), if_pos hi', if_neg hp0, if_pos hp1, x2 57 (by omega), em, if_neg]
            intro z
            have := (nI_eq (a := (G s).length) (b := 8) (xn31 (by omega)) (xn31 (by decide))).mp z
            omega
          have e8 : (8 * nI s + V1.2.1 57 s : Int32).toNatClampNeg = 8 * s + (G s).length := by
            rw [x2 57 (by omega), em, show (8 : Int32) = nI 8 from rfl, pk_mul, nI_add]
            exact nI_clamp (xn31 (by omega))
          have e1 : m_ap V1 n (nI s) (nI q) = (V1.2.1 57 s, xl_a (xl_a (xl_i V1 47 0 0) 58 (upd (V1.2.1 58) (8 * s + (G s).length) (nI q))) 57 (upd (V1.2.1 57) s (V1.2.1 57 s + 1))) := by
            unfold m_ap; rw [if_pos ab, ec, e8]
          refine rf_ok (t_M_append (d := 18) n2' n5 w3') ?_ (fun z hz => ?_) ?_ ?_
          · rw [e1]; rfl
          · rw [e1, ← Option.some.inj hz]
            show V1.2.1 57 s = _
            rw [x2 57 (by omega), em, el, nI_p]
          · rw [e1]
            have y1 : ∀ a j, (xl_a (xl_a (xl_i V1 47 0 0) 58 (upd (V1.2.1 58) (8 * s + (G s).length) (nI q))) 57 (upd (V1.2.1 57) s (V1.2.1 57 s + 1))).1 a j = if a = 47 ∧ j = 0 then 0 else V1.1 a j := fun a j => rfl
            have y2 : ∀ a, a ≠ 57 → a ≠ 58 → (xl_a (xl_a (xl_i V1 47 0 0) 58 (upd (V1.2.1 58) (8 * s + (G s).length) (nI q))) 57 (upd (V1.2.1 57) s (V1.2.1 57 s + 1))).2.1 a = V1.2.1 a := fun a ha hb => (xa_up_n _ _ ha).trans (xa_up_n _ _ hb)
            have y3 : (xl_a (xl_a (xl_i V1 47 0 0) 58 (upd (V1.2.1 58) (8 * s + (G s).length) (nI q))) 57 (upd (V1.2.1 57) s (V1.2.1 57 s + 1))).2.1 57 = upd (V1.2.1 57) s (V1.2.1 57 s + 1) := rfl
            have y4 : (xl_a (xl_a (xl_i V1 47 0 0) 58 (upd (V1.2.1 58) (8 * s + (G s).length) (nI q))) 57 (upd (V1.2.1 57) s (V1.2.1 57 s + 1))).2.1 58 = upd (V1.2.1 58) (8 * s + (G s).length) (nI q) := rfl
            have e57 := x2 57 (by omega)
            have e58 := x2 58 (by omega)
            refine Sim_gate (L := G s ++ [q]) hN hV hW hsn (fun a j ha h47 => ?_) (fun j hj => ?_) (fun a ha hb hc => ?_) v3 (fun r => ?_) (fun r i hr hrs hi => ?_) (fun i a ha => ?_) ⟨?_, fun i a ha => ?_, ?_⟩ (by rw [List.length_append]; show _ + 1 ≤ 8; omega) (fun r hr => ?_)
            · rw [y1, if_neg (fun z => h47 z.1), x1 a j ha]
            · rw [y1, if_neg (fun z => hj z.2), x1 47 j (by omega)]
            · rw [y2 a hb hc, x2 a ha]
            · rw [y3, e57]
              by_cases z : r = s
              · subst z; rw [pk_us, if_pos rfl, em, nI_s, List.length_append]; rfl
              · rw [pk_un z, if_neg z]
            · rw [y4, e58, pk_un (by omega)]
            · rw [y4, e58]
              by_cases z : i < (G s).length
              · rw [List.getElem?_append_left z] at ha
                rw [pk_un (by omega)]
                exact (w3.1 s hsn).2 i a ha
              · have hi2 : i < (G s ++ [q]).length := (List.getElem?_eq_some_iff.mp ha).1
                rw [List.length_append] at hi2
                have hi2 : i < (G s).length + 1 := hi2
                have ei : i = (G s).length := by omega
                subst ei
                rw [List.getElem?_append_right (Nat.le_refl _), Nat.sub_self] at ha
                have ea : q = a := Option.some.inj ha
                rw [pk_us, ea]
            · rw [y1, if_neg (by omega), x4, el, nI_s, List.length_append]; rfl
            · rw [y2 (ga w s + 1) (by omega) (by omega), x3]
              by_cases z : i < (G s).length
              · rw [List.getElem?_append_left z] at ha
                rw [pk_un (by omega)]
                exact (w4 s hsn).1.2.1 i a ha
              · have hi2 : i < (G s ++ [q]).length := (List.getElem?_eq_some_iff.mp ha).1
                rw [List.length_append] at hi2
                have hi2 : i < (G s).length + 1 := hi2
                have ei : i = (G s).length := by omega
                subst ei
                rw [List.getElem?_append_right (Nat.le_refl _), Nat.sub_self] at ha
                have ea : q = a := Option.some.inj ha
                rw [pk_us, ea]
            · rw [y1, if_neg (by omega), x5, y2 46 (by omega) (by omega), x2 46 (by omega), (w4 s hsn).1.2.2, l_os_ap]
            · rcases List.mem_append.mp hr with z | z
              · exact (w4 s hsn).2 r z
              · rw [List.mem_singleton.mp z]; exact hq
          · rw [e1]; rfl
        · have h88 : (G s).length = 8 := by omega
          refine cl_ex (t_CG_append_f (d := 17) w1 h0 h1' rfl (by omega) hi n1 n5 hp0 hp1 (fun z => hf ((xlt (b := 8) el rfl (by omega) (by decide)).mp z))) (c := 3) (by decide) (bad 3 (by decide) (by decide) ?_)
          unfold m_ab
          rw [if_pos hs, ec, if_pos hi', if_neg hp0, if_pos hp1, em, h88]
          rfl
    · refine cl_ex (t_CG_append_n (d := 17) h0 h1' hi) (c := 2) (by decide) (bad 2 (by decide) (by decide) ?_)
      unfold m_ab
      rw [if_pos hs, ec, if_neg (by rw [hin s hsn]; exact hi)]
      rfl
  · refine cl_ex (t_CG_append_e (d := 17) (sg_ns n1 n2 hs)) (c := 1) (by decide) (bad 1 (by decide) (by decide) ?_)
    unfold m_ab
    rw [if_neg hs]
    rfl
end XOps6
