section XOps7
variable {S : Nat × (Nat → Int32)} {V W U : xl_V} {d : Nat}
theorem xFr_r (W : xl_V) : xFr W W := ⟨fun _ _ _ => rfl, fun _ _ => rfl, rfl⟩
theorem xFr_t {A B C : xl_V} (h : xFr A B) (h2 : xFr B C) : xFr A C := ⟨fun a j ha => (h2.1 a j ha).trans (h.1 a j ha), fun a ha => (h2.2.1 a ha).trans (h.2.1 a ha), h2.2.2.trans h.2.2⟩
theorem xFr_i (W : xl_V) (j : Nat) (x : Int32) : xFr W (xl_i W 6 j x) := ⟨fun a q ha => by show (if a = 6 ∧ q = j then _ else _) = _; rw [if_neg (fun z => ha z.1)], fun _ _ => rfl, rfl⟩
theorem xFr_a (W : xl_V) {b : Nat} (h1 : 7 ≤ b) (h2 : b ≤ 12) (f : Nat → Int32) : xFr W (xl_a W b f) := ⟨fun _ _ _ => rfl, fun a ha => xa_up_n _ _ (by omega), rfl⟩
theorem xFr_xs (W : xl_V) (k t : Nat) : xFr W (g_xs W k t) := by
  have ne : ∀ Y : xl_V, xFr Y (g_ne Y k t) := fun Y => by
    unfold g_ne
    split
    · exact xFr_t (xFr_a Y (by decide) (by decide) _) (xFr_a _ (by decide) (by decide) _)
    · exact xFr_a Y (by decide) (by decide) _
  have nu : ∀ Y : xl_V, xFr Y (g_nu Y k) := fun Y => by
    unfold g_nu; split
    · exact xFr_i _ _ _
    · exact xFr_r _
  have nw : ∀ Y : xl_V, xFr Y (g_nw Y k) := fun Y => by
    unfold g_nw; split
    · exact xFr_i _ _ _
    · exact xFr_r _
  have ad : ∀ (Y : xl_V) c m q o, xFr Y (g_ad Y c m q o) := fun Y c m q o => by
    unfold g_ad
    exact xFr_t (xFr_a Y (by decide) (by decide) _) (xFr_t (xFr_a _ (by decide) (by decide) _) (xFr_t (xFr_a _ (by decide) (by decide) _) (xFr_t (xFr_a _ (by decide) (by decide) _) (xFr_t (xFr_a _ (by decide) (by decide) _) (xFr_i _ _ _)))))
  have fi : ∀ (Y : xl_V) c, xFr Y (g_fi Y c k t).2 := fun Y c => by
    unfold g_fi
    split
    · exact xFr_r _
    · split
      · exact xFr_i _ _ _
      · exact ad _ _ _ _ _
  have h0 : xFr W (g_ne (xl_a W 12 (upd (W.2.1 12) (k * 14 + t) (-1))) k t) := xFr_t (xFr_a W (by decide) (by decide) _) (ne _)
  unfold g_xs
  split
  · exact xFr_a W (by decide) (by decide) _
  · split
    · split
      · exact xFr_t h0 (xFr_t (nu _) (nw _))
      · exact xFr_t h0 (nu _)
    · split
      · exact xFr_t h0 (nw _)
      · exact xFr_t h0 (xFr_t (fi _ _) (xFr_a _ (by decide) (by decide) _))
theorem xFr_xr (W : xl_V) (k : Nat) : ∀ t, xFr W (g_xr W k t)
  | 0 => xFr_r W
  | t + 1 => xFr_t (xFr_xr W k t) (xFr_xs _ k t)
theorem xFr_bl : ∀ (n k : Nat) (W : xl_V), xFr W (g_bl n k W)
  | 0, _, W => xFr_r W
  | n + 1, k, W => by
    unfold g_bl
    split
    · exact xFr_t (xFr_xr W k _) (xFr_bl n (k + 1) _)
    · exact xFr_r W
theorem xFr_b0 (W : xl_V) : xFr W (g_b0 W) := by
  unfold g_b0 g_ad
  exact xFr_t (xFr_i W _ _) (xFr_t (xFr_i _ _ _) (xFr_t (xFr_i _ _ _) (xFr_t (xFr_i _ _ _) (xFr_t (xFr_a _ (by decide) (by decide) _) (xFr_t (xFr_a _ (by decide) (by decide) _) (xFr_t (xFr_a _ (by decide) (by decide) _) (xFr_t (xFr_a _ (by decide) (by decide) _) (xFr_t (xFr_a _ (by decide) (by decide) _) (xFr_i _ _ _)))))))))
theorem sN_c3 {V W : xl_V} {n e p : Nat} (h1 : ∀ j, W.1 1 j = V.1 1 j) (h47 : ∀ j, j ≠ 0 → j < 11 → W.1 47 j = V.1 47 j) (h2 : ∀ a, (a < 7 ∨ (48 ≤ a ∧ a < 54)) → W.2.1 a = V.2.1 a) (h : sN V n e p) : sN W n e p := by
  have hin : ∀ s, n_in W s = n_in V s := fun s => by unfold n_in; rw [h1 6]
  unfold sN
  simp only [hin]
  rw [h1 0, h47 1 (by decide) (by decide), h1 1, h47 4 (by decide) (by decide), h1 2, h47 9 (by decide) (by decide), h1 4, h47 10 (by decide) (by decide), h1 3, h1 6, h1 5,
    h2 49 (by decide), h2 48 (by decide), h2 50 (by decide), h2 2 (by decide), h2 51 (by decide), h2 3 (by decide), h2 52 (by decide), h2 4 (by decide), h2 53 (by decide), h2 5 (by decide)]
  exact h
theorem m_h_55 {V : xl_V} {H : Nat → Int32} (hH : V.2.1 49 = H) : ∀ s, (m_h V s).2.1 55 0 = hf H s
  | 0 => by show upd (V.2.1 55) 0 0 0 = 0; rw [pk_us]
  | s + 1 => by
    have ih := m_h_55 hH s
    have h49 : (m_h V s).2.1 49 = H := by rw [m_h_a V (by decide) (by decide) s]; exact hH
    show upd ((m_h V s).2.1 55) 0 (if (m_h V s).2.1 49 s = 0 then (m_h V s).2.1 55 0 else (m_h V s).2.1 55 0 ||| ((1 : Int32) <<< (nI s &&& 31))) 0 = _
    rw [pk_us, h49, ih]
    rfl
theorem m_h_54 (V : xl_V) : ∀ s, (m_h V s).2.1 54 0 = V.1 47 10
  | 0 => by
    show upd (V.2.1 54) 0 (V.1 47 10) 0 = _
    rw [pk_us]
  | s + 1 => m_h_54 V s
theorem kd_1 {w : Nat} (hw : w < 2) (j : Nat) : (k_dr V w).1 1 j = V.1 1 j := by
  show (if 1 = 0 ∧ j = 5 then -1 else if 1 = 0 ∧ j = 4 then -1 else (c_cl (xl_i V 6 0 0) w 5).1 1 j) = _
  rw [if_neg (by omega), if_neg (by omega)]
  rcases w01 hw with rfl | rfl <;> simp [c_cl, ga_cl, xl_i, ga]
theorem kd_47 {w : Nat} (hw : w < 2) (j : Nat) : (k_dr V w).1 47 j = V.1 47 j := by
  show (if 47 = 0 ∧ j = 5 then -1 else if 47 = 0 ∧ j = 4 then -1 else (c_cl (xl_i V 6 0 0) w 5).1 47 j) = _
  rw [if_neg (by omega), if_neg (by omega)]
  rcases w01 hw with rfl | rfl <;> simp [c_cl, ga_cl, xl_i, ga]
theorem kd_2 (w : Nat) : (k_dr V w).2 = V.2 := c_cl_g _ w 5
theorem kd_g {w s : Nat} (hw : w < 2) (hs : s < 5) : (k_dr V w).1 (ga w s) 0 = 0 ∧ (k_dr V w).1 (ga w s) 2 = 0 := by
  rcases w01 hw with rfl | rfl <;> rcases s01 hs with rfl | rfl | rfl | rfl | rfl <;> exact ⟨rfl, rfl⟩
/-- the class's and the reference's searches, each from where it stands -/
theorem an_K {n e p w : Nat} (hN : sN V n e p) (hw : w < 2) {D : xl_V} (d1 : D.1 47 4 = nI e) (d10 : D.1 47 10 = V.1 47 10) (d2 : ∀ a, 48 ≤ a → a < 54 → D.2.1 a = V.2.1 a) : xK (g_bl 80 0 (g_b0 (k_dr V w))) (m_xp D n) e := by
  obtain ⟨⟨n1, n2, n5⟩, ⟨e1, e2, e14⟩, -, t1, hc, -, -, ed, -⟩ := hN
  have f0 := xFr_b0 (k_dr V w)
  refine xK_bl e14 80 0 _ _ rfl (by rw [f0.1 1 1 (by decide), kd_1 hw]; exact e1) (by show (m_h D n).1 47 4 = _; rw [m_h_1]; exact d1) (Or.inl ⟨1, by decide, Nat.zero_le _, ?_, ?_, ?_⟩)
  · have x0 : ∀ j, xT e 0 0 j = 0 := fun j => by unfold xT; rw [if_neg (Nat.not_lt_zero j)]; split <;> rfl
    refine ⟨rfl, by decide, rfl, fun j hj => ?_, fun j u hj hu => ?_, Or.inl ⟨rfl, fun j u hu => ?_⟩, Or.inl ⟨rfl, fun j u hu => ?_⟩⟩
    · have : j = 0 := by omega
      subst this
      rw [x0]
      exact ⟨rfl, rfl⟩
    · rw [x0] at hu; omega
    · rw [x0] at hu; omega
    · rw [x0] at hu; omega
  · refine ⟨rfl, fun j hj => ?_⟩
    have : j = 0 := by omega
    subst this
    refine ⟨?_, ?_, rfl⟩
    · show (k_dr V w).1 1 4 = (m_h D n).2.1 54 0
      rw [m_h_54, d10, kd_1 hw]; exact t1
    · show (k_dr V w).1 1 3 = (m_h D n).2.1 55 0
      rw [m_h_55 (d2 49 (by decide) (by decide)), kd_1 hw]; exact hc
  · intro t ht
    obtain ⟨q1, ⟨s, q2, q3⟩, q4, q5, q6, q7⟩ := ed t ht
    have mb : ∀ a, 48 ≤ a → a < 54 → (m_b0 D n).2.1 a = V.2.1 a := fun a h1 h2 => by
      show xa_up (m_h D n).2.1 56 _ a = _
      rw [xa_up_n _ _ (by omega), m_h_a D (by omega) (by omega)]
      exact d2 a h1 h2
    rw [mb 50 (by decide) (by decide), mb 51 (by decide) (by decide), mb 52 (by decide) (by decide), mb 53 (by decide) (by decide), f0.2.1 2 (by omega), f0.2.1 3 (by omega), f0.2.1 4 (by omega), f0.2.1 5 (by omega), kd_2]
    exact ⟨q1, q4, q6, q7, s, by omega, q3⟩
end XOps7
section XOps8
variable {S : Nat × (Nat → Int32)} {V W U : xl_V} {d : Nat} {e c : Nat}
theorem nI_m1 {j : Nat} (h : j < 5000) : ¬ nI j = -1 := fun z => by
  have q : (nI j).toInt = (-1 : Int32).toInt := by rw [z]
  rw [nI_toInt (xn31 h)] at q
  have : (-1 : Int32).toInt = -1 := by decide
  omega
theorem xP4_no {v : Int32} {bad : Nat → Nat → Prop} (h : xP4 v bad e c 0) (hv : v = -1) (hb : ∀ j u, bad j u → j < 100) : ∀ j u, j < c → u < e → ¬ bad j u := by
  rcases h with ⟨-, h2⟩ | ⟨j, u, h1, -, h3, -⟩
  · intro j u hj hu
    exact h2 j u (by rw [xT_lt hj]; exact hu)
  · rw [hv] at h1
    exact absurd h1.symm (nI_m1 (by have := hb j u h3; omega))
theorem g_io_m {o : Option Nat} (h : ∀ k, o = some k → k < 5000) : g_io o = -1 ↔ o = none := by
  cases o with
  | none => exact ⟨fun _ => rfl, fun _ => rfl⟩
  | some k => exact ⟨fun z => absurd z (nI_m1 (h k rfl)), fun z => by cases z⟩
/-- the verdicts are one -/
theorem verd (hI : xI W e c 0 c) (hE : xE W U e) (hR : xR W U c) (hN : xN4 W U e) (hf : U.1 47 12 = -1) :
    ∃ v f, v < 5 ∧ g_jf W c e = (nI v, f) ∧ (m_vs U e c 4 1).1 = nI v ∧ (m_vs U e c 4 1).2.1 47 11 = nI v ∧ (m_vs U e c 4 1).2.1 47 12 = f ∧ (m_vs U e c 4 1).2.2 = U.2 ∧ (∀ a j, ¬ (a = 47 ∧ (j = 11 ∨ j = 12)) → (m_vs U e c 4 1).2.1 a j = U.1 a j) ∧ (v = 0 → ∀ k t, k < c → t < e → xEn W k t → xOk W k t) := by
  have h1 := r_1 hI hE hR
  have h2 := r_2 hI hE hR
  have h4 := r_4 hI hE hR hN
  have h80 := hI.2.1
  have ban : ∀ v k, m_ban U e c v = some k → k < 5000 := fun v k h => by have := (xfnd_s h).1; omega
  have ii : ∀ (v k : Nat), (∀ a j, ¬ (a = 47 ∧ (j = 11 ∨ j = 12)) → (xl_i (xl_i U 47 11 (nI v)) 47 12 (nI k)).1 a j = U.1 a j) := fun v k a j hn => by
    show (if a = 47 ∧ j = 12 then nI k else if a = 47 ∧ j = 11 then nI v else U.1 a j) = _
    rw [if_neg (fun z => hn ⟨z.1, Or.inr z.2⟩), if_neg (fun z => hn ⟨z.1, Or.inl z.2⟩)]
  have t8 : ¬ (¬ W.1 6 8 = 0) := fun z => z hI.2.2.1
  cases o1 : m_ban U e c 1 with
  | some k =>
    have e1 : m_vs U e c 4 1 = (nI 1, xl_i (xl_i U 47 11 (nI 1)) 47 12 (nI k)) := by show (match m_ban U e c 1 with | some k => _ | none => _) = _; rw [o1]
    rw [e1]
    have n1 : ¬ W.1 6 9 = -1 := by rw [h1, o1]; exact nI_m1 (ban 1 k o1)
    refine ⟨1, nI k, by decide, ?_, rfl, rfl, rfl, rfl, ii 1 k, fun z => by cases z⟩
    unfold g_jf
    rw [if_neg t8, if_pos n1, h1, o1]; rfl
  | none =>
    have n1 : W.1 6 9 = -1 := by rw [h1, o1]; rfl
    cases o2 : m_ban U e c 2 with
    | some k =>
      have e1 : m_vs U e c 4 1 = (nI 2, xl_i (xl_i U 47 11 (nI 2)) 47 12 (nI k)) := by
        show (match m_ban U e c 1 with | some k => _ | none => (match m_ban U e c 2 with | some k => _ | none => _)) = _
        rw [o1, o2]
      rw [e1]
      have n2 : ¬ W.1 6 10 = -1 := by rw [h2, o2]; exact nI_m1 (ban 2 k o2)
      refine ⟨2, nI k, by decide, ?_, rfl, rfl, rfl, rfl, ii 2 k, fun z => by cases z⟩
      unfold g_jf
      rw [if_neg t8, if_neg (fun z => z n1), if_pos n2, h2, o2]; rfl
    | none =>
      have n2 : W.1 6 10 = -1 := by rw [h2, o2]; rfl
      have hok : ∀ k t, k < c → t < e → xEn W k t → xOk W k t := fun k t hk ht hen => by
        refine ⟨hen, ?_, ?_⟩
        · have := xP4_no hI.2.2.2.2.2.1 n1 (fun j u z => by have := z.1; omega) k t hk ht
          exact Decidable.not_not.mp (fun z => this ⟨hk, hen, z⟩)
        · have := xP4_no hI.2.2.2.2.2.2 n2 (fun j u z => by have := z.1; omega) k t hk ht
          exact Decidable.not_not.mp (fun z => this ⟨hk, hen, z⟩)
      have h3 := r_3 hI hE hR hN hok
      cases o3 : m_ban U e c 3 with
      | some k =>
        have e1 : m_vs U e c 4 1 = (nI 3, xl_i (xl_i U 47 11 (nI 3)) 47 12 (nI k)) := by
          show (match m_ban U e c 1 with | some k => _ | none => (match m_ban U e c 2 with | some k => _ | none => (match m_ban U e c 3 with | some k => _ | none => _))) = _
          rw [o1, o2, o3]
        rw [e1]
        have n3 : ¬ g_io (xfnd (g_ds W e) c) = -1 := by rw [h3, o3]; exact nI_m1 (ban 3 k o3)
        refine ⟨3, nI k, by decide, ?_, rfl, rfl, rfl, rfl, ii 3 k, fun z => by cases z⟩
        unfold g_jf
        rw [if_neg t8, if_neg (fun z => z n1), if_neg (fun z => z n2), if_pos n3, h3, o3]; rfl
      | none =>
        have n3 : g_io (xfnd (g_ds W e) c) = -1 := by rw [h3, o3]; rfl
        cases o4 : m_ban U e c 4 with
        | some k =>
          have e1 : m_vs U e c 4 1 = (nI 4, xl_i (xl_i U 47 11 (nI 4)) 47 12 (nI k)) := by
            show (match m_ban U e c 1 with | some k => _ | none => (match m_ban U e c 2 with | some k => _ | none => (match m_ban U e c 3 with | some k => _ | none => (match m_ban U e c 4 with | some k => _ | none => _)))) = _
            rw [o1, o2, o3, o4]
          rw [e1]
          have n4 : ¬ g_io (xfnd (g_cs W) c) = -1 := by rw [h4, o4]; exact nI_m1 (ban 4 k o4)
          refine ⟨4, nI k, by decide, ?_, rfl, rfl, rfl, rfl, ii 4 k, fun z => by cases z⟩
          unfold g_jf
          rw [if_neg t8, if_neg (fun z => z n1), if_neg (fun z => z n2), if_neg (fun z => z n3), if_pos n4, h4, o4]; rfl
        | none =>
          have e1 : m_vs U e c 4 1 = (0, xl_i U 47 11 0) := by
            show (match m_ban U e c 1 with | some k => _ | none => (match m_ban U e c 2 with | some k => _ | none => (match m_ban U e c 3 with | some k => _ | none => (match m_ban U e c 4 with | some k => _ | none => _)))) = _
            rw [o1, o2, o3, o4]
            rfl
          rw [e1]
          have n4 : g_io (xfnd (g_cs W) c) = -1 := by rw [h4, o4]; rfl
          refine ⟨0, -1, by decide, ?_, rfl, rfl, hf, rfl, fun a j hn => ?_, fun _ => hok⟩
          · unfold g_jf
            rw [if_neg t8, if_neg (fun z => z n1), if_neg (fun z => z n2), if_neg (fun z => z n3), if_neg (fun z => z n4)]; rfl
          · show (if a = 47 ∧ j = 11 then 0 else U.1 a j) = _
            rw [if_neg (fun z => hn ⟨z.1, Or.inl z.2⟩)]
/-- the codes have no bits but the signals' -/
def xB (W : xl_V) (n c : Nat) : Prop := W.1 6 0 = nI c ∧ c ≤ 80 ∧ ∀ j, j < c → ∀ b, n ≤ b → b < 32 → xbit (W.2.1 8 j) b = false
theorem xB_cd {n k t : Nat} (h : ∀ b, n ≤ b → b < 32 → xbit (W.2.1 8 k) b = false) (hs : ∃ s, s < n ∧ s < 5 ∧ W.2.1 2 t = nI s) : ∀ b, n ≤ b → b < 32 → xbit (n_cd W t (W.2.1 8 k)) b = false := by
  intro b hb h32
  obtain ⟨s, s1, s2, s3⟩ := hs
  unfold n_cd
  rw [s3]
  split
  · rw [xbit_and, h b hb h32]; rfl
  · rw [xbit_or, h b hb h32, xbit_1 s (by omega) b h32, decide_eq_false (by omega)]; rfl
theorem xB_xs {n k t : Nat} (h : xB W n c) (hk : k < c) (hs : ∃ s, s < n ∧ s < 5 ∧ W.2.1 2 t = nI s) : ∃ c', c ≤ c' ∧ xB (g_xs W k t) n c' := by
  obtain ⟨b1, b2, b3⟩ := h
  obtain ⟨f, -, hd⟩ := xs_desc (t := t) b1 hk b2
  rcases hd with ⟨-, sm, -⟩ | ⟨-, ⟨i, -, sm, -⟩ | ⟨-, hc, n0, -, -, n8, -⟩ | ⟨-, -, -, sm⟩⟩
  · exact ⟨c, Nat.le_refl _, sm.1.trans b1, b2, by rw [sm.2.2.1]; exact b3⟩
  · exact ⟨c, Nat.le_refl _, sm.1.trans b1, b2, by rw [sm.2.2.1]; exact b3⟩
  · refine ⟨c + 1, by omega, n0, by omega, fun j hj => ?_⟩
    rw [n8]
    by_cases z : j = c
    · subst z; rw [pk_us]; exact xB_cd (b3 k hk) hs
    · rw [pk_un z]; exact b3 j (by omega)
  · exact ⟨c, Nat.le_refl _, sm.1.trans b1, b2, by rw [sm.2.2.1]; exact b3⟩
theorem xB_xr {n k : Nat} (h : xB W n c) (hk : k < c) : ∀ t, (∀ u, u < t → ∃ s, s < n ∧ s < 5 ∧ W.2.1 2 u = nI s) → ∃ c', c ≤ c' ∧ xB (g_xr W k t) n c'
  | 0, _ => ⟨c, Nat.le_refl _, h⟩
  | t + 1, hs => by
    obtain ⟨c1, h1, h2⟩ := xB_xr h hk t (fun u hu => hs u (by omega))
    obtain ⟨c2, h3, h4⟩ := xB_xs (k := k) (t := t) h2 (by omega) (by rw [(xFr_xr W k t).2.1 2 (by omega)]; exact hs t (Nat.lt_succ_self t))
    exact ⟨c2, by omega, h4⟩
theorem xB_bl {n e : Nat} : ∀ (m k : Nat) (W : xl_V) (c : Nat), xB W n c → W.1 1 1 = nI e → e ≤ 14 → (∀ u, u < e → ∃ s, s < n ∧ s < 5 ∧ W.2.1 2 u = nI s) → ∃ c', xB (g_bl m k W) n c'
  | 0, _, W, c, h, _, _, _ => ⟨c, h⟩
  | m + 1, k, W, c, h, he, h14, hs => by
    have ct : g_ct W = c := by unfold g_ct; rw [h.1]; exact nI_clamp (xn31 (by have := h.2.1; omega))
    have ge : g_e W = e := by unfold g_e; rw [he]; exact nI_clamp (xn31 (by omega))
    unfold g_bl
    rw [ct, ge]
    split
    · rename_i hh
      obtain ⟨c1, h1, h2⟩ := xB_xr h hh.1 e hs
      have f := xFr_xr W k e
      exact xB_bl m (k + 1) _ c1 h2 (by rw [f.1 1 1 (by decide)]; exact he) h14 (fun u hu => by rw [f.2.1 2 (by omega)]; exact hs u hu)
    · exact ⟨c, h⟩
theorem hf_b {H : Nat → Int32} : ∀ n, n ≤ 5 → ∀ b, n ≤ b → b < 32 → xbit (hf H n) b = false
  | 0, _, b, _, _ => xbit_0 b
  | n + 1, hn, b, hb, h32 => by
    have ih := hf_b (H := H) n (by omega) b (by omega) h32
    unfold hf
    split
    · exact ih
    · rw [xbit_or, ih, xbit_1 n (by omega) b h32, decide_eq_false (by omega)]; rfl
theorem op_4 (h : Sim V) : xX S 19 7 0 (xa_ent 1 [.ref 0]) [] V 0 0 (xpo (fun o V1 => ∃ r, o = .inl (some (.int r)) ∧ RK S Sim 19 109 3 [.ref 47] V1 0 (some r))) := by
  obtain ⟨n, e, p, w, G, hN, hV, hW⟩ := id h
  obtain ⟨n1, n2, n5⟩ := hN.1
  obtain ⟨e1, e2, e14⟩ := hN.2.1
  have ed := hN.2.2.2.2.2.2.2.1
  have hw := hW.1.1
  have K0 := an_K (D := V) hN hw e2 rfl (fun _ _ _ => rfl)
  generalize hWs : g_bl 80 0 (g_b0 (k_dr V w)) = Ws at K0
  have hBs : ∃ c', Ws.1 6 0 = nI c' ∧ c' ≤ 80 ∧ ∀ j, j < c' → ∀ b, n ≤ b → b < 32 → xbit (Ws.2.1 8 j) b = false := by
    have f0 := xFr_b0 (k_dr V w)
    have := xB_bl (n := n) (e := e) 80 0 (g_b0 (k_dr V w)) 1 ⟨rfl, by decide, fun j hj => by
      have e0 : j = 0 := by omega
      subst e0
      show ∀ b, n ≤ b → b < 32 → xbit ((k_dr V w).1 1 3) b = false
      rw [kd_1 hw, hN.2.2.2.2.1]
      exact hf_b n n5⟩ (by rw [f0.1 1 1 (by decide), kd_1 hw]; exact e1) e14 (fun u hu => by
        obtain ⟨-, ⟨s, q2, q3⟩, -⟩ := ed u hu
        rw [f0.2.1 2 (by omega), kd_2]
        exact ⟨s, q2, by omega, q3⟩)
    rw [hWs] at this
    exact this
  have fr : xFr (k_dr V w) Ws := by rw [← hWs]; exact xFr_t (xFr_b0 _) (xFr_bl 80 0 _)
  have gbd : g_bd (k_dr V w) = if Ws.1 6 8 = 0 then Ws else xl_i Ws 6 0 0 := by unfold g_bd; rw [hWs]
  obtain ⟨gb1, cc, gb2, gb3⟩ := g_bd_c (k_dr V w)
  have he : (k_dr V w).1 1 1 = nI e := by rw [kd_1 hw]; exact e1
  have heB : (g_bd (k_dr V w)).1 1 1 = nI e := by rw [gb1]; exact he
  have frb : xFr (k_dr V w) (g_bd (k_dr V w)) := by
    rw [gbd]; split
    · exact fr
    · exact xFr_t fr (xFr_i _ _ _)
  have hs : (g_bd (k_dr V w)).1 6 8 = 0 → ∀ k t, k < cc → t < e → ¬ (g_bd (k_dr V w)).2.1 12 (k * 14 + t) = -1 → vp_in ((g_bd (k_dr V w)).2.1 12 (k * 14 + t)) 80 := by
    intro h8 k t hk ht hne
    rcases K0 with ⟨c, c0, hI, -, -⟩ | ⟨hb, -⟩
    · rw [gbd, if_pos hI.2.2.1] at hne gb2 ⊢
      have : c = cc := (nI_eq (xn31 (by have := hI.2.1; omega)) (xn31 (by omega))).mp (hI.1.symm.trans gb2)
      subst this
      obtain ⟨q1, q2⟩ := hI.2.2.2.2.1 k t hk (by rw [xT_lt hk]; exact ht)
      rw [q1] at hne ⊢
      unfold cSC at hne ⊢
      by_cases ho : xOk Ws k t
      · obtain ⟨i, hi⟩ := q2 ho
        rw [if_pos ho, hi]
        exact vp_in_nI (by have := (xfnd_s hi).1; have := hI.2.1; omega) (by decide)
      · rw [if_neg ho] at hne; exact absurd rfl hne
    · exfalso
      rw [gbd, if_neg hb] at h8
      exact hb h8
  have tC := t_CG_analyse (S := S) (d := 14) hW.1 he e14 gb2 gb3 heB hs
  clear hs heB gb1
  generalize g_bd (k_dr V w) = B at gbd gb2 frb tC
  generalize hjf : g_jf B cc e = jf at tC
  obtain ⟨v, f⟩ := jf
  refine xx_post (fun o h' q => ?_) tC
  obtain ⟨rfl, rfl⟩ := q
  refine ⟨_, rfl, v, rfl, ?_⟩
  have r1 : ∀ a j, a ≠ 0 → ¬ (a = 6 ∧ j = 1) → (xl_i (xl_i (xl_i B 6 1 f) 0 4 v) 0 5 f).1 a j = B.1 a j := fun a j h0 h6 => by
    show (if a = 0 ∧ j = 5 then f else if a = 0 ∧ j = 4 then v else if a = 6 ∧ j = 1 then f else B.1 a j) = _
    rw [if_neg (fun z => h0 z.1), if_neg (fun z => h0 z.1), if_neg h6]
  have r2 : (xl_i (xl_i (xl_i B 6 1 f) 0 4 v) 0 5 f).2 = B.2 := rfl
  show RK S Sim 19 109 3 [.ref 47] (xl_i (xl_i (xl_i B 6 1 f) 0 4 v) 0 5 f) 0 (some v)
  generalize hV1 : xl_i (xl_i (xl_i B 6 1 f) 0 4 v) 0 5 f = V1 at r1 r2 ⊢
  have v04 : V1.1 0 4 = v := by rw [← hV1]; rfl
  have v05 : V1.1 0 5 = f := by rw [← hV1]; rfl
  have w47 : ∀ j, V1.1 47 j = V.1 47 j := fun j => by rw [r1 47 j (by decide) (by omega), frb.1 47 j (by decide), kd_47 hw]
  have w1 : ∀ j, V1.1 1 j = V.1 1 j := fun j => by rw [r1 1 j (by decide) (by omega), frb.1 1 j (by decide), kd_1 hw]
  have wa : ∀ a, (a < 7 ∨ 12 < a) → V1.2.1 a = V.2.1 a := fun a ha => by rw [r2, frb.2.1 a ha, kd_2]
  have w22 : V1.2.2 = V.2.2 := by rw [r2, frb.2.2, kd_2]
  have hsg : ∀ t, t < e → vp_in (V1.2.1 50 t) 5 := fun t ht => by
    obtain ⟨q1, ⟨s, q2, q3⟩, -⟩ := ed t ht
    rw [wa 50 (by omega), q1, q3]
    exact vp_in_nI (by omega) (by decide)
  -- the reference
  have D1 : ∀ j, j ≠ 0 → j ≠ 11 → j ≠ 12 → j ≠ 13 → (m_di (xl_i V1 47 0 0)).1 47 j = V.1 47 j := fun j h0 h1 h2 h3 => by
    rw [m_di_1]
    show (if 47 = 47 ∧ j = 13 then 0 else if 47 = 47 ∧ j = 12 then -1 else if 47 = 47 ∧ j = 11 then -1 else if 47 = 47 ∧ j = 0 then 0 else V1.1 47 j) = _
    rw [if_neg (fun z => h3 z.2), if_neg (fun z => h2 z.2), if_neg (fun z => h1 z.2), if_neg (fun z => h0 z.2), w47]
  have D2 : ∀ a, a ≠ 57 → (m_di (xl_i V1 47 0 0)).2.1 a = V1.2.1 a := fun a ha => m_di_a _ ha
  have K1 := an_K (D := m_di (xl_i V1 47 0 0)) hN hw (by rw [D1 4 (by decide) (by decide) (by decide) (by decide)]; exact e2) (D1 10 (by decide) (by decide) (by decide) (by decide)) (fun a h1 h2 => by rw [D2 a (by omega), wa a (by omega)])
  rw [hWs] at K1
  obtain ⟨gr, -⟩ := m_gr_xp (V := m_di (xl_i V1 47 0 0)) (sg := n) (by rw [D1 4 (by decide) (by decide) (by decide) (by decide)]; exact e2) e14
  have ean : m_an V1 e n = m_an2 (m_xp (m_di (xl_i V1 47 0 0)) n) e := rfl
  generalize hU : m_xp (m_di (xl_i V1 47 0 0)) n = U at K1 gr ean
  have b1 : ∀ a j, ¬ (a = 47 ∧ j = 13) → (m_b0 (m_di (xl_i V1 47 0 0)) n).1 a j = (m_di (xl_i V1 47 0 0)).1 a j := fun a j hn => by
    show (if a = 47 ∧ j = 13 then 1 else (m_h (m_di (xl_i V1 47 0 0)) n).1 a j) = _
    rw [if_neg hn, m_h_1]
  have b2 : ∀ a, a ≠ 54 → a ≠ 55 → a ≠ 56 → (m_b0 (m_di (xl_i V1 47 0 0)) n).2.1 a = (m_di (xl_i V1 47 0 0)).2.1 a := fun a h1 h2 h3 => by
    show xa_up (m_h (m_di (xl_i V1 47 0 0)) n).2.1 56 _ a = _
    rw [xa_up_n _ _ h3, m_h_a _ h1 h2]
  have U1 : ∀ a j, a ≠ 47 → U.1 a j = V1.1 a j := fun a j ha => by
    rw [gr.1 a j (fun z => ha z.1), b1 a j (fun z => ha z.1), m_di_1]
    show (if a = 47 ∧ j = 13 then 0 else if a = 47 ∧ j = 12 then -1 else if a = 47 ∧ j = 11 then -1 else if a = 47 ∧ j = 0 then 0 else V1.1 a j) = _
    rw [if_neg (fun z => ha z.1), if_neg (fun z => ha z.1), if_neg (fun z => ha z.1), if_neg (fun z => ha z.1)]
  have U47 : ∀ j, j ≠ 0 → j ≠ 11 → j ≠ 12 → j ≠ 13 → U.1 47 j = V.1 47 j := fun j h0 h1 h2 h3 => by
    rw [gr.1 47 j (fun z => h3 z.2), b1 47 j (fun z => h3 z.2), D1 j h0 h1 h2 h3]
  have U0 : U.1 47 0 = 0 := by rw [gr.1 47 0 (by decide), b1 47 0 (by decide), m_di_1]; rfl
  have U11 : U.1 47 11 = -1 := by rw [gr.1 47 11 (by decide), b1 47 11 (by decide), m_di_1]; rfl
  have U12 : U.1 47 12 = -1 := by rw [gr.1 47 12 (by decide), b1 47 12 (by decide), m_di_1]; rfl
  have Ua : ∀ a, a ≠ 54 → a ≠ 55 → a ≠ 56 → a ≠ 57 → U.2.1 a = V1.2.1 a := fun a h1 h2 h3 h4 => by rw [gr.2.1 a h1 h2 h3, b2 a h1 h2 h3, D2 a h4]
  have U57 : ∀ s, s < 5 → U.2.1 57 s = 0 := fun s hs => by
    rw [gr.2.1 57 (by decide) (by decide) (by decide), b2 57 (by decide) (by decide) (by decide)]
    exact m_d5_z _ 5 s hs
  have U22 : U.2.2 = V.2.2 := by
    rw [gr.2.2.1]
    show (m_h (m_di (xl_i V1 47 0 0)) n).2.2 = _
    rw [m_h_2, m_di_g]; exact w22
  -- the net and the gates stand at the end
  have fin : ∀ V2 : xl_V, (∀ a j, a ≠ 47 → V2.1 a j = V1.1 a j) → (∀ j, j ≠ 0 → j ≠ 11 → j ≠ 12 → j ≠ 13 → V2.1 47 j = V.1 47 j) → V2.2 = U.2 → sV V2 e → Sim V2 := by
    intro V2 x1 x2 x3 x4
    have x5 : ∀ a, a ≠ 54 → a ≠ 55 → a ≠ 56 → a ≠ 57 → V2.2.1 a = V1.2.1 a := fun a h1 h2 h3 h4 => by rw [x3]; exact Ua a h1 h2 h3 h4
    have hgz : ∀ s, s < 5 → l_gt V2 (ga w s) (ga w s + 1) [] := fun s hs5 => by
      obtain ⟨z1, z2⟩ := kd_g (V := V) hw hs5
      obtain ⟨g1, g2, g3⟩ := ga_lt hw hs5
      refine ⟨?_, fun i a ha => by simp at ha, ?_⟩
      · rw [x1 _ _ (by omega), r1 _ _ (by omega) (by omega), frb.1 _ _ (by omega)]; exact z1
      · rw [x1 _ _ (by omega), r1 _ _ (by omega) (by omega), frb.1 _ _ (by omega)]; exact z2
    refine ⟨n, e, p, w, fun _ => [], sN_c3 (fun j => by rw [x1 1 j (by decide), w1]) (fun j h0 h11 => x2 j h0 (by omega) (by omega) (by omega)) (fun a ha => by rw [x5 a (by omega) (by omega) (by omega) (by omega), wa a (by omega)]) hN, x4, ?_, ?_, ⟨fun s hs => ⟨?_, fun k p hk => by simp at hk⟩, fun s hs => ⟨Nat.zero_le _, fun p hp => by cases hp⟩⟩, fun s hs => ⟨hgz s (by omega), fun p hp => by cases hp⟩⟩
    · unfold c_ok; rw [x3, U22]; exact hW.1
    · rw [x5 46 (by decide) (by decide) (by decide) (by decide), wa 46 (by omega)]; exact hW.2.1
    · rw [x3]; exact U57 s (by omega)
  have tM := t_M_analyse (S := S) (V := V1) (d := 15) (e := e) (sg := n) (by rw [w47]; exact e2) e14 (by rw [w47]; exact n2) n5 hsg
  rw [ean] at tM
  rcases K1 with ⟨c, c0, hI, hR, hE⟩ | ⟨hb, h81⟩
  · have h80 := hI.2.1
    have gW : B = Ws := by rw [gbd, if_pos hI.2.2.1]
    rw [gW] at gb2 hjf r1 r2
    have ecc : c = cc := (nI_eq (xn31 (by omega)) (xn31 (by omega))).mp (hI.1.symm.trans gb2)
    subst ecc
    have ct : m_ct U = c := m_ct_c hR.1 (by omega)
    have em2 : m_an2 U e = m_vs U e c 4 1 := by unfold m_an2; rw [ct, if_neg (by omega)]
    rw [em2] at tM
    have wsn : ∀ s, n_in Ws s = n_in V s := fun s => by unfold n_in; rw [fr.1 1 6 (by decide), kd_1 hw]
    have ws2 : ∀ a, a < 7 → Ws.2.1 a = V.2.1 a := fun a ha => by rw [fr.2.1 a (by omega), kd_2]
    have hN4 : xN4 Ws U e := by
      refine ⟨fun t ht => ?_, fun t ht => ?_, fun t l ht hl => ?_⟩
      · obtain ⟨q1, ⟨s, q2, q3⟩, -⟩ := ed t ht
        rw [Ua 48 (by decide) (by decide) (by decide) (by decide), Ua 50 (by decide) (by decide) (by decide) (by decide), wa 48 (by omega), wa 50 (by omega), q1, ws2 2 (by decide), q3, nI_clamp (xn31 (by omega)), wsn]
        exact hN.2.2.2.2.2.1.1 s q2
      · rw [ws2 3 (by decide)]; exact (ed t ht).2.2.2.1
      · obtain ⟨q1, ⟨s, q2, q3⟩, -⟩ := ed t ht
        rw [fr.1 1 5 (by decide), kd_1 hw, ws2 2 (by decide), q3, nI_clamp (xn31 (by omega)), wsn]
        exact hN.2.2.2.2.2.2.1.1 s l q2 hl
    obtain ⟨v', f', hv5, j1, j2, j3, j4, j5, j6, j7⟩ := verd hI hE hR hN4 U12
    rw [j1] at hjf
    obtain ⟨rfl, rfl⟩ := Prod.mk.inj hjf
    refine rf_ok tM ?_ (fun x hx => ?_) ?_ ?_
    · rw [j6 47 0 (by decide)]; exact U0
    · rw [← Option.some.inj hx]; exact j2
    · refine fin _ (fun a j ha => by rw [j6 a j (fun z => ha z.1)]; exact U1 a j ha) (fun j h0 h1 h2 h3 => by rw [j6 47 j (by omega)]; exact U47 j h0 h1 h2 h3) j5 ?_
      have y0 : ∀ a j, a ≠ 47 → (m_vs U e c 4 1).2.1 a j = V1.1 a j := fun a j ha => by rw [j6 a j (fun z => ha z.1)]; exact U1 a j ha
      refine ⟨by rw [y0 0 4 (by decide), v04, j3], by rw [y0 0 5 (by decide), v05, j4], Or.inr ⟨v', c, hv5, by rw [y0 0 4 (by decide), v04], ?_⟩⟩
      have z7 : ∀ a, a < 13 → (m_vs U e c 4 1).2.2.1 a = Ws.2.1 a := fun a ha => by rw [j5, Ua a (by omega) (by omega) (by omega) (by omega), r2]
      have zu : ∀ a, (m_vs U e c 4 1).2.2.1 a = U.2.1 a := fun a => by rw [j5]
      have en : ∀ k t, m_en (m_vs U e c 4 1).2 k t = m_en U k t := fun k t => by unfold m_en; rw [zu, zu]
      have sf : ∀ k t, m_sf (m_vs U e c 4 1).2 k t = m_sf U k t := fun k t => by unfold m_sf; rw [zu, zu, zu]
      have rt : ∀ k t, m_rt (m_vs U e c 4 1).2 k t = m_rt U k t := fun k t => by unfold m_rt; rw [zu, zu, zu]
      have mk : ∀ k t, m_mk (m_vs U e c 4 1).2 k t = m_mk U k t := fun k t => by unfold m_mk; rw [zu, zu, zu]
      have cd : ∀ k t, m_cd (m_vs U e c 4 1).2 k t = m_cd U k t := fun k t => by unfold m_cd; rw [zu, zu, zu]
      have is : ∀ m q, m_is (m_vs U e c 4 1).2 m q = m_is U m q := fun m q => by funext j; unfold m_is; rw [zu, zu]
      refine ⟨?_, ?_, c0, h80, fun k hk => ?_, fun k t hk ht => ?_, fun hv0 k t hk ht => ?_, fun k hk => ?_⟩
      · rw [y0 6 0 (by decide), r1 6 0 (by decide) (by decide)]; exact hI.1
      · rw [j6 47 13 (by decide)]; exact hR.1
      · obtain ⟨q1, q2, q3⟩ := hR.2 k hk
        rw [z7 7 (by decide), z7 8 (by decide), z7 9 (by decide), z7 10 (by decide), zu, zu, zu, m_ex_cg (V := U) (zu 48) (zu 50) (zu 52) (zu 54)]
        refine ⟨q1, q2, q3, ?_⟩
        have := (hI.2.2.2.1 k hk).1
        rw [xT_lt hk] at this
        rw [this]; exact r_ex hE hR hN4 hk e (Nat.le_refl e)
      · obtain ⟨q1, q2⟩ := hI.2.2.2.2.1 k t hk (by rw [xT_lt hk]; exact ht)
        rw [z7 12 (by decide), q1]
        unfold sC cSC
        rw [en, sf, rt, mk, cd, is, r_en hE hR hk ht, r_sf hE hR hk ht, r_rt hE hR hk ht, r_to hE hR hk ht]
        refine ⟨?_, fun x1 x2 x3 => q2 ⟨x1, x2, x3⟩⟩
        by_cases ho : xOk Ws k t
        · rw [if_pos ho, if_neg]
          rintro (z | z | z)
          · exact ho.1 z
          · exact ho.2.1 z
          · exact ho.2.2 z
        · rw [if_neg ho, if_pos]
          by_cases a1 : n_en Ws t (Ws.2.1 7 k) = 0
          · exact Or.inl a1
          · by_cases a2 : n_sf Ws t (Ws.2.1 7 k) = 0
            · exact Or.inr (Or.inl a2)
            · exact Or.inr (Or.inr (Decidable.not_not.mp (fun z => ho ⟨a1, a2, z⟩)))
      · rw [en, sf, rt, r_en hE hR hk ht, r_sf hE hR hk ht, r_rt hE hR hk ht]
        intro hen
        have hv0' : v' = 0 := by
          rw [y0 0 4 (by decide), v04] at hv0
          exact (nI_eq (a := v') (b := 0) (xn31 (by omega)) (xn31 (by decide))).mp hv0
        obtain ⟨-, a2, a3⟩ := j7 hv0' k t hk ht hen
        exact ⟨a2, a3⟩
      · rw [y0 1 0 (by decide), w1, n1, nI_clamp (xn31 (by omega)), z7 8 (by decide)]
        obtain ⟨c', hB1, hB2, hB3⟩ := hBs
        have : c = c' := (nI_eq (xn31 (by omega)) (xn31 (by omega))).mp (hI.1.symm.trans hB1)
        subst this
        exact hB3 k hk
    · rw [j5]; show U.2.2.2 = V1.2.2.2; rw [U22, w22]
  · have gW : B = xl_i Ws 6 0 0 := by rw [gbd, if_neg hb]
    have hjf5 : g_jf B cc e = (5, -1) := by
      unfold g_jf
      rw [if_pos]
      rw [gW]; exact hb
    rw [hjf5] at hjf
    obtain ⟨rfl, rfl⟩ := Prod.mk.inj hjf
    have em2 : m_an2 U e = (5, xl_i (xl_i U 47 13 0) 47 11 5) := by unfold m_an2; rw [m_ct_c h81 (by omega), if_pos (by decide)]
    rw [em2] at tM
    have y : ∀ a j, ¬ (a = 47 ∧ (j = 11 ∨ j = 13)) → (xl_i (xl_i U 47 13 0) 47 11 5).1 a j = U.1 a j := fun a j hn => by
      show (if a = 47 ∧ j = 11 then 5 else if a = 47 ∧ j = 13 then 0 else U.1 a j) = _
      rw [if_neg (fun z => hn ⟨z.1, Or.inl z.2⟩), if_neg (fun z => hn ⟨z.1, Or.inr z.2⟩)]
    refine rf_ok tM ?_ (fun x hx => Option.some.inj hx) ?_ ?_
    · rw [y 47 0 (by decide)]; exact U0
    · refine fin _ (fun a j ha => by rw [y a j (fun z => ha z.1)]; exact U1 a j ha) (fun j h0 h1 h2 h3 => by rw [y 47 j (by omega)]; exact U47 j h0 h1 h2 h3) rfl ?_
      have y04 : (xl_i (xl_i U 47 13 0) 47 11 5).1 0 4 = 5 := by rw [y 0 4 (by decide), U1 0 4 (by decide)]; exact v04
      refine ⟨y04, ?_, Or.inl ⟨Or.inr y04, ?_, rfl⟩⟩
      · rw [y 0 5 (by decide), U1 0 5 (by decide), v05, y 47 12 (by decide)]; exact U12.symm
      · rw [y 6 0 (by decide), U1 6 0 (by decide), r1 6 0 (by decide) (by decide), gW]; rfl
    · show U.2.2.2 = V1.2.2.2; rw [U22, w22]
end XOps8
