/-! The class's least sums: finding. -/
section XSum6
variable {S : Nat × (Nat → Int32)} {V : xl_V} {d : Nat}
def l_rN (sp : Nat → Int32) (on off : Int32) (sg c : Nat) : Nat → Nat
  | 0 => 0
  | p + 1 => if l_co sp on off sg p then l_rN sp on off sg c p + (if xbit (sp p &&& on) c = true then 1 else 0) else l_rN sp on off sg c p
theorem l_rN_v {sp f : Nat → Int32} {on off : Int32} {sg c : Nat} (hc : c < 32) : ∀ p, (∀ i q, (l_cp sp on off sg p)[i]? = some q → f i = sp q &&& on) → l_rv f c (l_cp sp on off sg p).length = nI (l_rN sp on off sg c p)
  | 0, _ => rfl
  | p + 1, h => by
    by_cases hco : l_co sp on off sg p
    · have e : l_cp sp on off sg (p + 1) = l_cp sp on off sg p ++ [p] := by rw [l_cp, if_pos hco]
      rw [e] at h ⊢
      have ih := l_rN_v hc p (fun i q hq => h i q (by rw [List.getElem?_append_left (l_il hq)]; exact hq))
      have hf := h (l_cp sp on off sg p).length p (by rw [List.getElem?_append_right (Nat.le_refl _), Nat.sub_self]; rfl)
      rw [List.length_append]
      show l_rv f c (l_cp sp on off sg p).length + xub (f (l_cp sp on off sg p).length) c = _
      rw [ih, hf, xub_b _ hc, l_rN, if_pos hco]
      split
      · exact nI_1 _
      · exact nI_add _ 0
    · have e : l_cp sp on off sg (p + 1) = l_cp sp on off sg p := by rw [l_cp, if_neg hco]
      rw [e] at h ⊢
      rw [l_rN_v hc p h, l_rN, if_neg hco]
theorem xbit_2 : ∀ c, c < 32 → xbit 2 c = decide (c = 1) := by decide
theorem l_rN_b {sp : Nat → Int32} {on off : Int32} {sg c : Nat} (hc : c < 32) (h0 : sp 0 = 1) (h1 : sp 1 = 2) : ∀ p, l_rN sp on off sg c p ≤ p ∧ (2 ≤ p → l_rN sp on off sg c p ≤ p - 1)
  | 0 => ⟨Nat.le_refl _, fun h => by omega⟩
  | 1 => by
    have : l_rN sp on off sg c 1 ≤ 1 := by
      show (if l_co sp on off sg 0 then 0 + (if xbit (sp 0 &&& on) c = true then 1 else 0) else 0) ≤ 1
      split
      · split <;> omega
      · omega
    exact ⟨this, fun h => by omega⟩
  | 2 => by
    have : l_rN sp on off sg c 2 ≤ 1 := by
      show (if l_co sp on off sg 1 then (if l_co sp on off sg 0 then 0 + (if xbit (sp 0 &&& on) c = true then 1 else 0) else 0) + (if xbit (sp 1 &&& on) c = true then 1 else 0) else (if l_co sp on off sg 0 then 0 + (if xbit (sp 0 &&& on) c = true then 1 else 0) else 0)) ≤ 1
      have hxy : (if xbit (sp 0 &&& on) c = true then 1 else 0) + (if xbit (sp 1 &&& on) c = true then 1 else 0) ≤ 1 := by
        by_cases hA : xbit (sp 0 &&& on) c = true
        · by_cases hB : xbit (sp 1 &&& on) c = true
          · rw [h0, xbit_and, xbit_o c hc, Bool.and_eq_true] at hA
            rw [h1, xbit_and, xbit_2 c hc, Bool.and_eq_true] at hB
            have a1 := of_decide_eq_true hA.1
            have b1 := of_decide_eq_true hB.1
            omega
          · rw [if_neg hB]; split <;> omega
        · rw [if_neg hA]; split <;> omega
      generalize (if xbit (sp 0 &&& on) c = true then 1 else 0) = x at hxy ⊢
      generalize (if xbit (sp 1 &&& on) c = true then 1 else 0) = y at hxy ⊢
      split
      · split <;> omega
      · split <;> omega
    exact ⟨by omega, fun _ => this⟩
  | p + 3 => by
    have ih := l_rN_b hc h0 h1 (p + 2) (on := on) (off := off) (sg := sg)
    have ih2 := ih.2 (by omega)
    have : l_rN sp on off sg c (p + 3) ≤ l_rN sp on off sg c (p + 2) + 1 := by
      rw [l_rN]
      split
      · split <;> omega
      · omega
    exact ⟨by omega, fun _ => by omega⟩
theorem l_wi_q {sp : Nat → Int32} {on off : Int32} {sg : Nat} : ∀ p q, q ∈ l_cp sp on off sg p → xpc (sp q &&& on) ≤ l_wi sp on off sg p
  | 0, q, h => by cases h
  | p + 1, q, h => by
    by_cases hco : l_co sp on off sg p
    · rw [l_cp, if_pos hco] at h
      rw [l_wi, if_pos hco]
      rcases List.mem_append.mp h with z | z
      · have := l_wi_q p q z
        split <;> omega
      · rw [List.mem_singleton.mp z]
        split <;> omega
    · rw [l_cp, if_neg hco] at h
      rw [l_wi, if_neg hco]
      exact l_wi_q p q h
def l_ff (V W : xl_V) : Prop := (∀ a j, ¬ (a = 38 ∧ (j = 8 ∨ j = 9 ∨ j = 10)) → W.1 a j = V.1 a j) ∧ (∀ a, a < 39 ∨ 45 < a → W.2.1 a = V.2.1 a) ∧ W.2.2 = V.2.2
def l_ct (sg : Nat) (L : List Nat) (i : Nat) : Nat := 100 + xdt ((L[i]?).getD 0) sg
theorem t_L_find (hbc : xBC S) {on off : Int32} {sg : Nat} {Q : xa_Q} (h5 : sg ≤ 5) (hs0 : V.2.1 46 0 = 1) (hs1 : V.2.1 46 1 = 2)
    (kk : ∀ W b' L, L = l_cp (V.2.1 46) on off sg (3 ^ sg) → l_ff V W → W.1 38 8 = nI L.length → l_ca W (V.2.1 46) on sg L → W.1 38 10 = nI b' → b' ≤ 900 → s_post L.length (W.2.1 40) (W.2.1 43) (W.2.1 42) (l_ct sg L) on 0 8 (900, V.2.1 44) (b', W.2.1 44) → Q (.inl (some (.int (if b' < 900 then 1 else 0)))) (xl_H xlay W)) :
    xX S (d + 11) 63 0 (xa_ent 4 [.ref 38, .int on, .int off, .int (nI sg)]) [] V 0 0 Q := by
  have h3 := x3 sg h5
  refine xx_aload_n e_L_find_0 rfl rfl ?_
  refine xx_iload_n e_L_find_1 rfl rfl ?_
  refine xx_iload_n e_L_find_2 rfl rfl ?_
  refine xx_iload_n e_L_find_3 rfl rfl ?_
  refine xc_V3z e_L_find_4 kv_L_44 (xl_obj rfl) (t_L_collectPrimes (d := d + 8) (on := on) (off := off) (sg := sg) hbc h5 (fun W wf w8 w9 wa => xk_v ?_))
  have hll := l_cp_le (V.2.1 46) on off sg (3 ^ sg)
  have hwi := l_wi_1 (V.2.1 46) on off sg (3 ^ sg)
  have hwq := l_wi_q (sp := V.2.1 46) (on := on) (off := off) (sg := sg) (3 ^ sg)
  have hrN : ∀ c, c < 32 → l_rv (W.2.1 40) c (l_cp (V.2.1 46) on off sg (3 ^ sg)).length = nI (l_rN (V.2.1 46) on off sg c (3 ^ sg)) := fun c hc => l_rN_v hc _ (fun i q hq => (wa i q hq).2.1)
  have kk := fun W b' => kk W b' _ rfl
  generalize l_cp (V.2.1 46) on off sg (3 ^ sg) = L at w8 wa hll hwq hrN kk
  generalize l_wi (V.2.1 46) on off sg (3 ^ sg) = w at w9 hwi hwq
  refine xx_aload_n e_L_find_7 rfl rfl ?_
  refine xc_V0v e_L_find_8 kv_L_48 (xl_obj rfl) (t_L_countRivals (d := d + 10) w8 (by omega)) ?_
  refine xx_aload_n e_L_find_11 rfl rfl ?_
  refine xx_sipush (v := 900) e_L_find_12 (by decide) ?_
  refine xh_put e_L_find_15 fp_L_51 rfl rfl ⟨rfl, rfl⟩ ?_
  refine xx_aload_n e_L_find_18 rfl rfl ?_
  refine xx_iconst (v := 0) e_L_find_19 (by decide) ?_
  refine xx_iload_n e_L_find_20 rfl rfl ?_
  refine xx_iconst (v := 0) e_L_find_21 (by decide) ?_
  generalize hU : xl_i (xl_a W 45 (l_rg (W.2.1 40) (W.2.1 45) L.length 32)) 38 10 900 = U
  have f1 : U.1 38 8 = nI L.length := by rw [← hU]; exact w8
  have f2 : U.1 38 9 = nI w := by rw [← hU]; exact w9
  have f3 : U.1 38 10 = nI 900 := by rw [← hU]; rfl
  have f4 : ∀ a, a ≠ 45 → U.2.1 a = W.2.1 a := fun a ha => by rw [← hU]; exact xa_up_n _ _ ha
  have f5 : U.2.1 45 = l_rg (W.2.1 40) (W.2.1 45) L.length 32 := by rw [← hU]; exact xl_a_s W 45 _
  have f6 : U.2.2 = V.2.2 := by rw [← hU]; exact wf.2.2
  have f7 : ∀ a j, ¬ (a = 38 ∧ (j = 8 ∨ j = 9 ∨ j = 10)) → U.1 a j = V.1 a j := fun a j hj => by
    rw [← hU]
    show (if a = 38 ∧ j = 10 then _ else W.1 a j) = _
    rw [if_neg (fun z => hj ⟨z.1, .inr (.inr z.2)⟩)]
    exact wf.1 a j (fun z => hj ⟨z.1, z.2.elim .inl (fun y => .inr (.inl y))⟩)
  have e44 : U.2.1 44 = V.2.1 44 := (f4 44 (by decide)).trans (wf.2.1 44 (.inr (by decide)))
  have hLi : ∀ i, i < L.length → ∃ q, L[i]? = some q ∧ q ∈ L := fun i hi => ⟨L[i], List.getElem?_eq_getElem hi, List.getElem_mem hi⟩
  have hsin : s_in U L.length w (l_ct sg L) := by
    refine ⟨f1, by omega, f2, hwi.1, hwi.2, fun i hi => ?_, fun i hi => ?_, fun c hc => ?_⟩
    · obtain ⟨q, q1, q2⟩ := hLi i hi
      have hx := xdt_le q sg
      have : l_ct sg L i = 100 + xdt q sg := by unfold l_ct; rw [q1]; rfl
      rw [this, f4 41 (by decide)]
      exact ⟨(wa i q q1).2.2.1, by omega, by omega⟩
    · obtain ⟨q, q1, q2⟩ := hLi i hi
      rw [f4 40 (by decide), (wa i q q1).2.1]
      exact hwq q q2
    · rw [f5]
      unfold l_rg
      rw [if_pos hc, hrN c hc]
      have hb := l_rN_b (sp := V.2.1 46) (on := on) (off := off) (sg := sg) hc hs0 hs1 (3 ^ sg)
      have h3p := x3p sg
      have : l_rN (V.2.1 46) on off sg c (3 ^ sg) < 243 := by
        rcases Nat.lt_or_ge (3 ^ sg) 2 with z | z
        · have := hb.1; omega
        · have := hb.2 z; omega
      exact (xlt (b := 243) rfl rfl (by omega) (by decide)).mpr this
  have hz : ∀ i, i < L.length → U.2.1 42 i = 0 ∧ U.2.1 43 i = 0 := fun i hi => by
    obtain ⟨q, q1, -⟩ := hLi i hi
    rw [f4 42 (by decide), f4 43 (by decide)]
    exact ⟨(wa i q q1).2.2.2.1, (wa i q q1).2.2.2.2⟩
  refine xc_S4z e_L_find_22 ks_L_55 (t_L_search (S := S) hbc (n := L.length) (w := w) (ct := l_ct sg L) 8 0 rfl (d + 10) (by omega) U on 0 900 _ hsin (fun i hi => .inl (hz i hi).2) (fun h => absurd h (Nat.lt_irrefl 900)) (fun i hi hne => absurd (hz i hi).2 hne) (fun i hi => ⟨0, Nat.le_refl _, (hz i hi).1⟩) f3 (Nat.le_refl _) (Nat.zero_le _) (fun X b' x1 x2 x3 x4 x5 x6 => xk_v ?_))
  have x40 : X.2.1 40 = U.2.1 40 := x1.2.1 40 (by decide) (by decide) (by decide)
  rw [← x40, ← x3, ← x2, e44] at x6
  have hkk := kk X b' ⟨fun a j hj => (x1.1 a j (fun z => hj ⟨z.1, .inr (.inr z.2)⟩)).trans (f7 a j hj), fun a ha => (x1.2.1 a (by omega) (by omega) (by omega)).trans ((f4 a (by omega)).trans (wf.2.1 a (by omega))), x1.2.2.trans f6⟩ ((x1.1 38 8 (by decide)).trans f1) (fun i q hq => by
    have := wa i q hq
    rw [x1.2.1 39 (by decide) (by decide) (by decide), x40, x1.2.1 41 (by decide) (by decide) (by decide), x2, x3, f4 39 (by decide), f4 40 (by decide), f4 41 (by decide), f4 42 (by decide), f4 43 (by decide)]
    exact this) x4 x5 x6
  refine xx_aload_n e_L_find_25 rfl rfl ?_
  refine xh_get e_L_find_26 fg_L_51 rfl rfl ?_
  refine xx_sipush (v := 900) e_L_find_29 (by decide) ?_
  refine xx_icmp_ge e_L_find_32 (fun q => ?_) (fun q => ?_)
  · have e1 : 900 ≤ b' := (xle (a := 900) rfl x4 (by decide) (by omega)).mp q
    refine xx_iconst (v := 0) e_L_find_39 (by decide) ?_
    refine xx_iret e_L_find_40 rfl rfl ?_
    rw [if_neg (by omega)] at hkk
    exact hkk
  · have e1 : b' < 900 := Nat.lt_of_not_le (fun z => q ((xle (a := 900) rfl x4 (by decide) (by omega)).mpr z))
    refine xx_iconst (v := 1) e_L_find_35 (by decide) ?_
    refine xx_goto e_L_find_36 ?_
    refine xx_iret e_L_find_40 rfl rfl ?_
    rw [if_pos e1] at hkk
    exact hkk
end XSum6
