/-! The class's least sum is the reference's. -/
section XLeast4
variable {sp : Nat → Int32} {sg : Nat} {on off : Int32}
theorem l_lt_x {a b : List Nat} (ha : a.Pairwise (· < ·)) (hb : b.Pairwise (· < ·)) (h : l_lt a b) : ∃ p, p ∈ a ∧ ¬ p ∈ b ∧ ∀ q, q < p → (q ∈ a ↔ q ∈ b) := by
  obtain ⟨j, x, z, h1, h2, h3, h4⟩ := h
  have mono : ∀ {c : List Nat}, c.Pairwise (· < ·) → ∀ {i k u v : Nat}, c[i]? = some u → c[k]? = some v → i < k → u < v := fun hc i k u v hi hk hik => by
    have li := l_il hi
    have lk := l_il hk
    rw [List.getElem?_eq_getElem li] at hi
    rw [List.getElem?_eq_getElem lk] at hk
    have := List.pairwise_iff_getElem.mp hc i k li lk hik
    rw [Option.some.inj hi, Option.some.inj hk] at this
    exact this
  refine ⟨x, List.mem_of_getElem? h2, fun hx => ?_, fun q hq => ⟨fun hm => ?_, fun hm => ?_⟩⟩
  · obtain ⟨i, hi⟩ := List.getElem?_of_mem hx
    rcases Nat.lt_trichotomy i j with w | w | w
    · have e := h1 i w
      rw [hi] at e
      have := mono ha e h2 w
      omega
    · rw [w, h3] at hi
      have := Option.some.inj hi
      omega
    · have := mono hb h3 hi w
      omega
  · obtain ⟨i, hi⟩ := List.getElem?_of_mem hm
    rcases Nat.lt_trichotomy i j with w | w | w
    · rw [h1 i w] at hi
      exact List.mem_of_getElem? hi
    · rw [w, h2] at hi
      have := Option.some.inj hi
      omega
    · have := mono ha h2 hi w
      omega
  · obtain ⟨i, hi⟩ := List.getElem?_of_mem hm
    rcases Nat.lt_trichotomy i j with w | w | w
    · rw [← h1 i w] at hi
      exact List.mem_of_getElem? hi
    · rw [w, h3] at hi
      have := Option.some.inj hi
      omega
    · have := mono hb h3 hi w
      omega
theorem l_lt_tri {a b : List Nat} (hl : a.length = b.length) : a = b ∨ l_lt a b ∨ l_lt b a := by
  cases hx : xfnd (fun i => decide (¬ a[i]? = b[i]?)) a.length with
  | none =>
    refine .inl (List.ext_getElem? (fun i => ?_))
    rcases Nat.lt_or_ge i a.length with w | w
    · exact Decidable.not_not.mp (of_decide_eq_false (xfnd_n hx i w))
    · rw [List.getElem?_eq_none w, List.getElem?_eq_none (by omega)]
  | some i =>
    obtain ⟨i1, i2, i3⟩ := xfnd_s hx
    have i2 := of_decide_eq_true i2
    have heq : ∀ q, q < i → a[q]? = b[q]? := fun q hq => Decidable.not_not.mp (of_decide_eq_false (i3 q hq))
    have hai : a[i]? = some (a[i]'(by omega)) := List.getElem?_eq_getElem (by omega)
    have hbi : b[i]? = some (b[i]'(by omega)) := List.getElem?_eq_getElem (by omega)
    generalize a[i]'(by omega) = u at hai
    generalize b[i]'(by omega) = v at hbi
    have hne : u ≠ v := fun e => i2 (by rw [hai, hbi, e])
    rcases Nat.lt_or_ge u v with w | w
    · exact .inr (.inl ⟨i, u, v, heq, hai, hbi, w⟩)
    · exact .inr (.inr ⟨i, v, u, fun q hq => (heq q hq).symm, hbi, hai, by omega⟩)
theorem l_strict {a : List Nat} (h : a.Pairwise (· ≤ ·)) (hn : a.Nodup) : a.Pairwise (· < ·) := by
  rw [List.pairwise_iff_getElem] at h ⊢
  intro i j hi hj hij
  have h1 := h i j hi hj hij
  have h2 := List.pairwise_iff_getElem.mp hn i j hi hj hij
  omega
theorem k_lr_eq {r b' : Nat} {lr lk : List Nat} (h5 : sg ≤ 5) (hsp : ∀ q, q < 3 ^ sg → sp q = p_cv sg q) (hr : p_lr sg on off r lr) (h0 : ¬ on = 0) (hr9 : r ≤ 9) (hk : k_lr sg sp on off b' lk) (hb9 : b' ≤ 900) : (r ≤ 8 ↔ b' < 900) ∧ (r ≤ 8 → lk = lr) := by
  obtain ⟨L, cv, T, bar, B, B', hL, hcv, ⟨s1, s2, s3⟩, hlk⟩ := hk
  obtain ⟨m1, m2⟩ := p_lr_min hr h0
  have hLs : L.Pairwise (· < ·) := by rw [hL]; exact l_cp_s _
  have hpn : ∀ i, i < L.length → L[i]? = some (l_pn L i) := fun i hi => by unfold l_pn; rw [List.getElem?_eq_getElem hi]; rfl
  have hmem : ∀ i, i < L.length → l_pn L i ∈ L := fun i hi => List.mem_of_getElem? (hpn i hi)
  have hco : ∀ p, p ∈ L → p < 3 ^ sg ∧ ¬ p_cv sg p &&& on = 0 ∧ p_pr sg off p := fun p hp => by
    rw [hL] at hp
    obtain ⟨a1, a2, a3⟩ := l_cp_lt sp on off sg _ p hp
    rw [hsp p a1] at a2
    exact ⟨a1, a2, (l_ip_p h5 a1 hsp).mp a3⟩
  have hinj : ∀ i j, i < L.length → j < L.length → l_pn L i = l_pn L j → i = j := fun i j hi hj e => by
    rcases Nat.lt_trichotomy i j with w | w | w
    · have := l_pn_s hLs w hj; omega
    · exact w
    · have := l_pn_s hLs w hi; omega
  have hdg : ∀ l : List Nat, l_dg sg l ≤ 5 * l.length := fun l => Nat.le_trans (l_dg_le sg l) (Nat.mul_le_mul_right _ h5)
  have bits : ∀ i, i < L.length → ∀ c, xbit (cv i) c = true ↔ xbit (p_cv sg (l_pn L i)) c = true ∧ xbit on c = true := fun i hi c => by
    rw [(hcv i _ (hpn i hi)).1, hsp _ (hco _ (hmem i hi)).1, xbit_and, Bool.and_eq_true]
  have fwd : b' < 900 → lk.length ≤ 8 ∧ p_cov sg on off lk ∧ b' = 100 * lk.length + l_dg sg lk ∧ (∀ i, i < L.length → (¬ B' i = 0 ↔ l_pn L i ∈ lk)) ∧ ∀ i, i < L.length → B' i = 0 ∨ B' i = 1 := fun hb => by
    rcases s1 with ⟨z, -⟩ | ⟨D, z1, z2, z3⟩
    · have z : b' = 900 := z
      omega
    · obtain ⟨d1, d2, d3, d4⟩ := z1
      have z2 : b' = 0 + l_sm (l_ct sg L) D := z2
      have z3 : ∀ i, i < L.length → B' i = l_lu T D i := z3
      have hB : ∀ i, i < L.length → (¬ B' i = 0 ↔ i ∈ D) := fun i hi => by
        rw [z3 i hi]
        unfold l_lu
        by_cases h : i ∈ D
        · rw [if_pos h]; exact ⟨fun _ => h, fun _ => by decide⟩
        · rw [if_neg h, (hcv i _ (hpn i hi)).2.2]; exact ⟨fun z => absurd rfl z, fun z => absurd z h⟩
      have hm : ∀ p, p ∈ lk ↔ p ∈ D.map (l_pn L) := fun p => by
        rw [hlk, l_bp_m, List.mem_map]
        constructor
        · rintro ⟨i, i1, i2, i3⟩
          exact ⟨i, (hB i i1).mp i2, i3⟩
        · rintro ⟨i, i1, i2⟩
          exact ⟨i, (d3 i i1).1, (hB i (d3 i i1).1).mpr i1, i2⟩
      have hnd : (D.map (l_pn L)).Nodup := by
        refine List.pairwise_map.mpr (List.Pairwise.imp_of_mem (fun {i j} hi hj hne e => ?_) d1)
        exact hne (hinj i j (d3 i hi).1 (d3 j hj).1 e)
      have hlks : lk.Pairwise (· < ·) := by rw [hlk]; exact l_bp_s _ (fun i j hij hj => l_pn_s hLs hij hj)
      have hlkn : lk.Nodup := List.Pairwise.imp (fun {a b} (h : a < b) => Nat.ne_of_lt h) hlks
      have hp : lk.Perm (D.map (l_pn L)) := (List.perm_ext_iff_of_nodup hlkn hnd).mpr hm
      have hll : lk.length = D.length := by rw [hp.length_eq, List.length_map]
      refine ⟨by omega, ⟨fun p hp' => ?_, fun c hc hx => ?_⟩, ?_, fun i hi => ?_, fun i hi => ?_⟩
      · obtain ⟨i, i1, i2⟩ := List.mem_map.mp ((hm p).mp hp')
        have := hco _ (hmem i (d3 i i1).1)
        rw [i2] at this
        exact ⟨this.1, this.2.2⟩
      · obtain ⟨i, i1, i2⟩ := d4 c hc hx
        exact ⟨l_pn L i, (hm _).mpr (List.mem_map.mpr ⟨i, i1, rfl⟩), ((bits i (d3 i i1).1 c).mp i2).1⟩
      · rw [z2, l_sm_d D (fun i hi => (d3 i hi).1), hll, l_dg_p hp]
        omega
      · rw [hB i hi]
        refine ⟨fun h => (hm _).mpr (List.mem_map.mpr ⟨i, h, rfl⟩), fun h => ?_⟩
        obtain ⟨j, j1, j2⟩ := List.mem_map.mp ((hm _).mp h)
        rw [← hinj j i (d3 j j1).1 hi j2]
        exact j1
      · rw [z3 i hi]
        unfold l_lu
        split
        · exact .inr rfl
        · exact .inl (hcv i _ (hpn i hi)).2.2
  have hlks : lk.Pairwise (· < ·) := by rw [hlk]; exact l_bp_s _ (fun i j hij hj => l_pn_s hLs hij hj)
  have bwd : r ≤ 8 → ∃ D1 : List Nat, (∀ i, i ∈ D1 ↔ i < L.length ∧ l_pn L i ∈ lr) ∧ ¬ k_lt L.length (100 * r + l_dg sg lr, l_lu T D1) (b', B') := fun h8 => by
    obtain ⟨n1, n2, n3, n4, -⟩ := m2 h8
    have hnz : ∀ p, p ∈ lr → ¬ p_cv sg p &&& on = 0 := fun p hp hz => by
      have hl := List.length_erase_of_mem hp
      have hpos := List.length_pos_of_mem hp
      have := m1 (lr.erase p) ⟨fun q hq => n4.1 q (List.mem_of_mem_erase hq), fun c hc hx => by
        obtain ⟨q, q1, q2⟩ := n4.2 c hc hx
        by_cases e : q = p
        · subst e
          have : xbit (p_cv sg q &&& on) c = true := by rw [xbit_and, q2, hx]; rfl
          rw [hz, xbit_0] at this
          cases this
        · exact ⟨q, (List.mem_erase_of_ne e).mpr q1, q2⟩⟩
      omega
    have hin : ∀ p, p ∈ lr → ∃ i, i < L.length ∧ l_pn L i = p := fun p hp => by
      obtain ⟨a1, a2⟩ := n4.1 p hp
      have : p ∈ L := by
        rw [hL]
        refine l_cp_m _ p a1 ⟨?_, (l_ip_p h5 a1 hsp).mpr a2⟩
        rw [hsp p a1]
        exact hnz p hp
      obtain ⟨i, hi⟩ := List.getElem?_of_mem this
      refine ⟨i, l_il hi, ?_⟩
      unfold l_pn
      rw [hi]
      rfl
    have D1m : ∀ i, i ∈ (List.range L.length).filter (fun i => decide (l_pn L i ∈ lr)) ↔ i < L.length ∧ l_pn L i ∈ lr := fun i => by
      rw [List.mem_filter, List.mem_range, decide_eq_true_iff]
    have D1n : ((List.range L.length).filter (fun i => decide (l_pn L i ∈ lr))).Nodup := List.Pairwise.filter _ List.nodup_range
    generalize (List.range L.length).filter (fun i => decide (l_pn L i ∈ lr)) = D1 at D1m D1n
    have hnd : (D1.map (l_pn L)).Nodup := by
      refine List.pairwise_map.mpr (List.Pairwise.imp_of_mem (fun {i j} hi hj hne e => ?_) D1n)
      exact hne (hinj i j ((D1m i).mp hi).1 ((D1m j).mp hj).1 e)
    have hp : (D1.map (l_pn L)).Perm lr := (List.perm_ext_iff_of_nodup hnd n2).mpr (fun p => by
      rw [List.mem_map]
      constructor
      · rintro ⟨i, i1, i2⟩
        rw [← i2]
        exact ((D1m i).mp i1).2
      · intro hpl
        obtain ⟨i, i1, i2⟩ := hin p hpl
        exact ⟨i, (D1m i).mpr ⟨i1, by rw [i2]; exact hpl⟩, i2⟩)
    have hll : D1.length = r := by rw [← n1, ← hp.length_eq, List.length_map]
    have hsm : 0 + l_sm (l_ct sg L) D1 = 100 * r + l_dg sg lr := by
      rw [l_sm_d D1 (fun i hi => ((D1m i).mp hi).1), hll, l_dg_p hp]
      omega
    refine ⟨D1, D1m, ?_⟩
    rw [← hsm]
    refine s2 D1 ⟨D1n, by omega, fun i hi => ?_, fun c hc hx => ?_⟩
    · have hi1 := ((D1m i).mp hi).1
      exact ⟨hi1, (hcv i _ (hpn i hi1)).2.1, (hcv i _ (hpn i hi1)).2.2⟩
    · obtain ⟨p, p1, p2⟩ := n4.2 c hc hx
      obtain ⟨i, i1, i2⟩ := hin p p1
      exact ⟨i, (D1m i).mpr ⟨i1, by rw [i2]; exact p1⟩, (bits i i1 c).mpr ⟨by rw [i2]; exact p2, hx⟩⟩
  have hlt : r ≤ 8 → b' ≤ 100 * r + l_dg sg lr ∧ b' < 900 := fun h8 => by
    obtain ⟨D1, -, h2⟩ := bwd h8
    have h3 := hdg lr
    rw [(m2 h8).1] at h3
    have : ¬ 100 * r + l_dg sg lr < b' := fun z => h2 (.inl z)
    omega
  refine ⟨⟨fun h8 => (hlt h8).2, fun hb => ?_⟩, fun h8 => ?_⟩
  · have f := fwd hb
    have := m1 lk f.2.1
    omega
  · obtain ⟨hle, hb⟩ := hlt h8
    obtain ⟨f1, f2, f3, f4, f5⟩ := fwd hb
    obtain ⟨n1, n2, n3, n4, n5⟩ := m2 h8
    obtain ⟨D1, D1m, h2⟩ := bwd h8
    have g1 := m1 lk f2
    have g2 := hdg lr
    have g3 := hdg lk
    have hlen : lk.length = r := by omega
    have hmn := n5 lk lk f2 hlen (List.Perm.refl _) (List.Pairwise.imp (fun {a b} (h : a < b) => Nat.le_of_lt h) hlks)
    have hd1 : ¬ l_dg sg lk < l_dg sg lr := fun z => hmn (.inl z)
    have hdd : l_dg sg lk = l_dg sg lr := by omega
    rcases l_lt_tri (a := lk) (b := lr) (by omega) with z | z | z
    · exact z
    · exact absurd (.inr ⟨hdd, z⟩) hmn
    · exfalso
      obtain ⟨p, p1, p2, p3⟩ := l_lt_x (l_strict n3 n2) hlks z
      have hpi : ∃ i, i ∈ D1 ∧ l_pn L i = p := by
        have hc := (n4.1 p p1)
        have hex : ∃ i, i < L.length ∧ l_pn L i = p := by
          by_cases hz : p_cv sg p &&& on = 0
          · exfalso
            have hl := List.length_erase_of_mem p1
            have hpos := List.length_pos_of_mem p1
            have := m1 (lr.erase p) ⟨fun q hq => n4.1 q (List.mem_of_mem_erase hq), fun c hc hx => by
              obtain ⟨q, q1, q2⟩ := n4.2 c hc hx
              by_cases e : q = p
              · subst e
                have : xbit (p_cv sg q &&& on) c = true := by rw [xbit_and, q2, hx]; rfl
                rw [hz, xbit_0] at this
                cases this
              · exact ⟨q, (List.mem_erase_of_ne e).mpr q1, q2⟩⟩
            omega
          · have : p ∈ L := by
              rw [hL]
              refine l_cp_m _ p hc.1 ⟨?_, (l_ip_p h5 hc.1 hsp).mpr hc.2⟩
              rw [hsp p hc.1]
              exact hz
            obtain ⟨i, hi⟩ := List.getElem?_of_mem this
            refine ⟨i, l_il hi, ?_⟩
            unfold l_pn
            rw [hi]
            rfl
        obtain ⟨i, i1, i2⟩ := hex
        exact ⟨i, (D1m i).mpr ⟨i1, by rw [i2]; exact p1⟩, i2⟩
      obtain ⟨i, i1, i2⟩ := hpi
      have hi := ((D1m i).mp i1).1
      have hBi : B' i = 0 := by
        by_cases h : B' i = 0
        · exact h
        · exact absurd (by rw [← i2]; exact (f4 i hi).mp h) p2
      have hui : l_lu T D1 i = 1 := if_pos i1
      refine h2 (.inr ⟨by show 100 * r + l_dg sg lr = b'; omega, i, hi, fun j hj => ?_, ?_, ?_⟩)
      · have hjn : j < L.length := by omega
        have hpj : l_pn L j < p := by rw [← i2]; exact l_pn_s hLs hj hi
        have hiff := p3 _ hpj
        show l_lu T D1 j = B' j
        by_cases hm : l_pn L j ∈ lr
        · have e1 : l_lu T D1 j = 1 := if_pos ((D1m j).mpr ⟨hjn, hm⟩)
          rw [e1]
          exact (((f5 j hjn).resolve_left ((f4 j hjn).mpr (hiff.mp hm)))).symm
        · have e1 : l_lu T D1 j = T j := if_neg (fun y => hm ((D1m j).mp y).2)
          rw [e1, (hcv j _ (hpn j hjn)).2.2]
          by_cases h : B' j = 0
          · exact h.symm
          · exact absurd (hiff.mpr ((f4 j hjn).mp h)) hm
      · show ¬ l_lu T D1 i = B' i
        rw [hui, hBi]; decide
      · show ¬ l_lu T D1 i = 0
        rw [hui]; decide
end XLeast4
