/-! The relation between the class and the reference that every pair of calls keeps. -/
section XSim
/-- the signals that start high, as bits -/
def hf (H : Nat → Int32) : Nat → Int32
  | 0 => 0
  | s + 1 => if H s = 0 then hf H s else hf H s ||| ((1 : Int32) <<< (nI s &&& 31))
/-- the net -/
def sN (V : xl_V) (n e p : Nat) : Prop :=
  (V.1 1 0 = nI n ∧ V.1 47 1 = nI n ∧ n ≤ 5) ∧ (V.1 1 1 = nI e ∧ V.1 47 4 = nI e ∧ e ≤ 14) ∧ (V.1 1 2 = nI p ∧ V.1 47 9 = nI p ∧ p ≤ 16) ∧ V.1 1 4 = V.1 47 10 ∧ V.1 1 3 = hf (V.2.1 49) n ∧
  ((∀ s, s < n → V.2.1 48 s = n_in V (nI s)) ∧ (∀ s, n ≤ s → s < 32 → xbit (V.1 1 6) s = false)) ∧
  ((∀ s l, s < n → l < 2 → (xbit (V.1 1 5) (2 * s + l) = true ↔ n_in V (nI s) = 0)) ∧ (∀ j, 2 * n ≤ j → j < 32 → xbit (V.1 1 5) j = false)) ∧
  (∀ t, t < e → V.2.1 50 t = V.2.1 2 t ∧ (∃ s, s < n ∧ V.2.1 2 t = nI s) ∧ V.2.1 51 t = V.2.1 3 t ∧ (V.2.1 3 t = 0 ∨ V.2.1 3 t = 1) ∧ V.2.1 52 t = V.2.1 4 t ∧ V.2.1 53 t = V.2.1 5 t) ∧
  (∀ t, e ≤ t → t < 14 → V.2.1 4 t = 0 ∧ V.2.1 5 t = 0)
/-- where the reference's state k goes by t -/
def sC (V : xl_V) (c k t : Nat) : Int32 := if m_en V k t = 0 ∨ m_sf V k t = 0 ∨ m_rt V k t = 0 then -1 else g_io (xfnd (m_is V (m_mk V k t) (m_cd V k t)) c)
/-- the graph -/
def sG (V : xl_V) (e c : Nat) : Prop :=
  V.1 6 0 = nI c ∧ V.1 47 13 = nI c ∧ 0 < c ∧ c ≤ 80 ∧ (∀ k, k < c → V.2.1 7 k = V.2.1 54 k ∧ V.2.1 8 k = V.2.1 55 k ∧ V.2.1 9 k = V.2.1 56 k ∧ V.2.1 10 k = m_ex V k e) ∧
  (∀ k t, k < c → t < e → V.2.1 12 (k * 14 + t) = sC V c k t ∧ (¬ m_en V k t = 0 → ¬ m_sf V k t = 0 → ¬ m_rt V k t = 0 → ∃ j, xfnd (m_is V (m_mk V k t) (m_cd V k t)) c = some j)) ∧
  (V.1 0 4 = 0 → ∀ k t, k < c → t < e → ¬ m_en V k t = 0 → ¬ m_sf V k t = 0 ∧ ¬ m_rt V k t = 0) ∧ ∀ k, k < c → ∀ b, (V.1 1 0).toNatClampNeg ≤ b → b < 32 → xbit (V.2.1 8 k) b = false
/-- the verdict and the graph -/
def sV (V : xl_V) (e : Nat) : Prop := V.1 0 4 = V.1 47 11 ∧ V.1 0 5 = V.1 47 12 ∧ (((V.1 0 4 = -1 ∨ V.1 0 4 = 5) ∧ V.1 6 0 = 0 ∧ V.1 47 13 = 0) ∨ ∃ v c, v < 5 ∧ V.1 0 4 = nI v ∧ sG V e c)
/-- the gates -/
def sW (V : xl_V) (n w : Nat) (G : Nat → List Nat) : Prop := c_ok V w ∧ V.2.1 46 = spf ∧ m_go V n G ∧ (∀ s, s < n → l_gt V (ga w s) (ga w s + 1) (G s) ∧ ∀ p, p ∈ G s → p < 3 ^ n)
def Sim (V : xl_V) : Prop := ∃ n e p w G, sN V n e p ∧ sV V e ∧ sW V n w G
theorem n_in_b (V : xl_V) {s : Nat} (hs : s < 32) : n_in V (nI s) = if xbit (V.1 1 6) s = true then 1 else 0 := by
  unfold n_in
  by_cases h : xbit (V.1 1 6) s = true
  · rw [if_pos h, if_pos ((xbit_t _ hs).mpr h)]
  · rw [if_neg h, if_neg (fun z => h ((xbit_t _ hs).mp z))]
theorem n_in_0 (V : xl_V) {s : Nat} (hs : s < 32) : n_in V (nI s) = 0 ↔ xbit (V.1 1 6) s = false := by
  rw [n_in_b V hs]
  cases xbit (V.1 1 6) s <;> decide
theorem m_en_cg {V W : xl_V} {k t : Nat} (h1 : W.2.1 54 k = V.2.1 54 k) (h2 : W.2.1 52 t = V.2.1 52 t) : m_en W k t = m_en V k t := by unfold m_en; rw [h1, h2]
theorem m_ex_cg {V W : xl_V} {k : Nat} (h48 : W.2.1 48 = V.2.1 48) (h50 : W.2.1 50 = V.2.1 50) (h52 : W.2.1 52 = V.2.1 52) (h54 : W.2.1 54 = V.2.1 54) : ∀ t, m_ex W k t = m_ex V k t
  | 0 => rfl
  | t + 1 => by
    unfold m_ex
    rw [m_ex_cg h48 h50 h52 h54 t, h48, h50]
    unfold m_en
    rw [h52, h54]
/-- the arrays that the relation speaks of -/
abbrev sA (a : Nat) : Prop := a < 59 ∧ a ≠ 16 ∧ a ≠ 17 ∧ (a < 39 ∨ 45 < a)
theorem sG_cg {V W : xl_V} {e c : Nat} (h1 : ∀ a j, ¬ (a = 47 ∧ (j = 0 ∨ 13 < j)) → a ≠ 13 → a ≠ 38 → W.1 a j = V.1 a j) (h2 : ∀ a, sA a → W.2.1 a = V.2.1 a) (h : sG V e c) : sG W e c := by
  have a4 := h2 54 (by decide)
  have a5 := h2 55 (by decide)
  have a2 := h2 52 (by decide)
  have a3 := h2 53 (by decide)
  have a0 := h2 50 (by decide)
  have a1 := h2 51 (by decide)
  have en : ∀ k t, m_en W k t = m_en V k t := fun k t => by unfold m_en; rw [a4, a2]
  have sf : ∀ k t, m_sf W k t = m_sf V k t := fun k t => by unfold m_sf; rw [a4, a2, a3]
  have rt : ∀ k t, m_rt W k t = m_rt V k t := fun k t => by unfold m_rt; rw [a5, a0, a1]
  have mk : ∀ k t, m_mk W k t = m_mk V k t := fun k t => by unfold m_mk; rw [a4, a2, a3]
  have cd : ∀ k t, m_cd W k t = m_cd V k t := fun k t => by unfold m_cd; rw [a5, a0, a1]
  have is : ∀ m c, m_is W m c = m_is V m c := fun m c => by funext j; unfold m_is; rw [a4, a5]
  obtain ⟨g1, g2, g3, g4, g5, g6, g7, g8⟩ := h
  refine ⟨by rw [h1 6 0 (by decide) (by decide) (by decide)]; exact g1, by rw [h1 47 13 (by decide) (by decide) (by decide)]; exact g2, g3, g4, fun k hk => ?_, fun k t hk ht => ?_, fun hv k t hk ht => ?_, fun k hk => by rw [h1 1 0 (by decide) (by decide) (by decide), h2 8 (by decide)]; exact g8 k hk⟩
  · rw [h2 7 (by decide), h2 8 (by decide), h2 9 (by decide), h2 10 (by decide), a4, a5, h2 56 (by decide), m_ex_cg (h2 48 (by decide)) a0 a2 a4]
    exact g5 k hk
  · unfold sC
    rw [h2 12 (by decide), en, sf, rt, mk, cd, is]
    exact g6 k t hk ht
  · rw [en, sf, rt]
    rw [h1 0 4 (by decide) (by decide) (by decide)] at hv
    exact g7 hv k t hk ht
theorem sN_cg {V W : xl_V} {n e p : Nat} (h1 : ∀ a j, ¬ (a = 47 ∧ (j = 0 ∨ 13 < j)) → a ≠ 13 → a ≠ 38 → W.1 a j = V.1 a j) (h2 : ∀ a, sA a → W.2.1 a = V.2.1 a) (h : sN V n e p) : sN W n e p := by
  have hin : ∀ s, n_in W s = n_in V s := fun s => by unfold n_in; rw [h1 1 6 (by decide) (by decide) (by decide)]
  unfold sN
  simp only [hin]
  rw [h1 1 0 (by decide) (by decide) (by decide), h1 47 1 (by decide) (by decide) (by decide), h1 1 1 (by decide) (by decide) (by decide), h1 47 4 (by decide) (by decide) (by decide), h1 1 2 (by decide) (by decide) (by decide), h1 47 9 (by decide) (by decide) (by decide), h1 1 4 (by decide) (by decide) (by decide), h1 47 10 (by decide) (by decide) (by decide), h1 1 3 (by decide) (by decide) (by decide), h1 1 6 (by decide) (by decide) (by decide), h1 1 5 (by decide) (by decide) (by decide),
    h2 49 (by decide), h2 48 (by decide), h2 50 (by decide), h2 2 (by decide), h2 51 (by decide), h2 3 (by decide), h2 52 (by decide), h2 4 (by decide), h2 53 (by decide), h2 5 (by decide)]
  exact h
theorem ga_lt {w s : Nat} (hw : w < 2) (hs : s < 5) : 18 ≤ ga w s ∧ ga w s < 38 ∧ ga w s + 1 < 39 := by unfold ga; omega
theorem l_gt_cg {V W : xl_V} {w s : Nat} {P : List Nat} (hw : w < 2) (hs : s < 5) (h1 : ∀ a j, ¬ (a = 47 ∧ (j = 0 ∨ 13 < j)) → a ≠ 13 → a ≠ 38 → W.1 a j = V.1 a j) (h2 : ∀ a, sA a → W.2.1 a = V.2.1 a) (h : l_gt V (ga w s) (ga w s + 1) P) : l_gt W (ga w s) (ga w s + 1) P := by
  obtain ⟨g1, g2, g3⟩ := ga_lt hw hs
  unfold l_gt
  rw [h1 (ga w s) 0 (by omega) (by omega) (by omega), h1 (ga w s) 2 (by omega) (by omega) (by omega), h2 (ga w s + 1) ⟨by omega, by omega, by omega, by omega⟩, h2 46 (by decide)]
  exact h
theorem sW_cg {V W : xl_V} {n w : Nat} {G : Nat → List Nat} (h5 : n ≤ 5) (h1 : ∀ a j, ¬ (a = 47 ∧ (j = 0 ∨ 13 < j)) → a ≠ 13 → a ≠ 38 → W.1 a j = V.1 a j) (h2 : ∀ a, sA a → W.2.1 a = V.2.1 a) (h3 : W.2.2.1 = V.2.2.1) (h : sW V n w G) : sW W n w G := by
  obtain ⟨g1, g2, g3, g4⟩ := h
  have hw : w < 2 := g1.1
  refine ⟨?_, by rw [h2 46 (by decide)]; exact g2, ?_, fun s hs => ⟨l_gt_cg hw (by omega) h1 h2 (g4 s hs).1, (g4 s hs).2⟩⟩
  · unfold c_ok; rw [h3]; exact g1
  · unfold m_go; rw [h2 57 (by decide), h2 58 (by decide)]; exact g3
theorem Sim_cg {V W : xl_V} (h1 : ∀ a j, ¬ (a = 47 ∧ (j = 0 ∨ 13 < j)) → a ≠ 13 → a ≠ 38 → W.1 a j = V.1 a j) (h2 : ∀ a, sA a → W.2.1 a = V.2.1 a) (h3 : W.2.2.1 = V.2.2.1) (h : Sim V) : Sim W := by
  obtain ⟨n, e, p, w, G, hN, hV, hW⟩ := h
  refine ⟨n, e, p, w, G, sN_cg h1 h2 hN, ?_, sW_cg hN.1.2.2 h1 h2 h3 hW⟩
  unfold sV
  rw [h1 0 4 (by decide) (by decide) (by decide), h1 0 5 (by decide) (by decide) (by decide), h1 47 11 (by decide) (by decide) (by decide), h1 47 12 (by decide) (by decide) (by decide), h1 6 0 (by decide) (by decide) (by decide), h1 47 13 (by decide) (by decide) (by decide)]
  obtain ⟨v1, v2, v3⟩ := hV
  refine ⟨v1, v2, v3.imp id ?_⟩
  rintro ⟨v, c, a1, a2, a3⟩
  exact ⟨v, c, a1, a2, sG_cg h1 h2 a3⟩
/-- the law's own array is no part of it -/
theorem Sim_o {V : xl_V} {f : Nat → Int64} (h : Sim V) : Sim (xl_o V f) := Sim_cg (V := V) (fun _ _ _ _ _ => rfl) (fun _ _ => rfl) rfl h
theorem Sim_c0 {V : xl_V} {x : Int32} (h : Sim V) : Sim (xl_i V 47 0 x) := Sim_cg (V := V) (fun a j hn _ _ => by
  show (if a = 47 ∧ j = 0 then x else V.1 a j) = V.1 a j
  rw [if_neg (fun z => hn ⟨z.1, Or.inl z.2⟩)]) (fun _ _ => rfl) rfl h
/-- everything was thrown away -/
theorem Sim_reset {W : xl_V} {n e p w : Nat} (hN : sN W n e p) (hw : c_ok W w) (h46 : W.2.1 46 = spf) (a1 : W.1 0 4 = -1) (a2 : W.1 47 11 = -1) (a3 : W.1 0 5 = -1) (a4 : W.1 47 12 = -1) (a5 : W.1 6 0 = 0) (a6 : W.1 47 13 = 0) (hg : ∀ s, s < 5 → W.1 (ga w s) 0 = 0 ∧ W.1 (ga w s) 2 = 0) (hm : ∀ s, s < 5 → W.2.1 57 s = 0) : Sim W := by
  have hl : ∀ s, s < 5 → l_gt W (ga w s) (ga w s + 1) [] := fun s hs => ⟨(hg s hs).1, (fun i x hx => by simp at hx), (hg s hs).2⟩
  have h5 := hN.1.2.2
  refine ⟨n, e, p, w, fun _ => [], hN, ⟨a1.trans a2.symm, a3.trans a4.symm, Or.inl ⟨Or.inl a1, a5, a6⟩⟩, hw, h46, ⟨fun s hs => ?_, fun s hs => ⟨Nat.zero_le _, fun p hp => by cases hp⟩⟩, fun s hs => ⟨hl s (by omega), fun p hp => by cases hp⟩⟩
  exact ⟨hm s (by omega), fun k p hk => by simp at hk⟩
end XSim
