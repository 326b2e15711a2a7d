/-! The graph that is built: how many states, the net as it was. -/
section XGraph7
theorem g_bl_gr : ∀ (n k : Nat) (V : xl_V), (∃ c, V.1 6 0 = nI c ∧ c ≤ 80) → g_gr V (g_bl n k V)
  | 0, _, V, _ => g_gr_r V
  | n + 1, k, V, h => by
    unfold g_bl
    split
    · obtain ⟨c, hc, h8⟩ := h
      have hg := g_gr_xr hc h8 (k := k) (g_e V)
      obtain ⟨c1, a1, a2, a3⟩ := hg.2 c hc h8
      exact g_gr_t hg (g_bl_gr n (k + 1) _ ⟨c1, a1, a3⟩)
    · exact g_gr_r V
theorem g_bd_c (V : xl_V) : (g_bd V).1 1 = V.1 1 ∧ ∃ c, (g_bd V).1 6 0 = nI c ∧ c ≤ 80 := by
  have hg := g_bl_gr 80 0 (g_b0 V) ⟨1, rfl, by decide⟩
  obtain ⟨c, a1, -, a3⟩ := hg.2 1 rfl (by decide)
  have e0 : (g_b0 V).1 1 = V.1 1 := rfl
  unfold g_bd
  split
  · exact ⟨hg.1.trans e0, c, a1, a3⟩
  · exact ⟨(show (g_bl 80 0 (g_b0 V)).1 1 = _ from hg.1).trans e0, 0, rfl, by decide⟩
end XGraph7
