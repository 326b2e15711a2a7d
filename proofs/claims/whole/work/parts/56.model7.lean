/-! The reference: codes of a level, the table of products, the next prime, the open code. -/
section XModel7
variable {S : Nat × (Nat → Int32)} {V : xl_V} {d : Nat}
theorem xl_aa (V : xl_V) (a : Nat) (f g : Nat → Int32) : xl_a (xl_a V a f) a g = xl_a V a g := by
  unfold xl_a
  congr 2
  funext b
  by_cases h : b = a
  · rw [h, xa_up_s, xa_up_s]
  · rw [xa_up_n _ _ h, xa_up_n _ _ h]
    exact xa_up_n _ _ h
theorem xl_a_s (V : xl_V) (a : Nat) (f : Nat → Int32) : (xl_a V a f).2.1 a = f := xa_up_s _ _ _
theorem xl_a_id (V : xl_V) (a : Nat) : xl_a V a (V.2.1 a) = V := by
  unfold xl_a
  have : xa_up V.2.1 a (V.2.1 a) = V.2.1 := by
    funext b
    by_cases h : b = a
    · rw [h, xa_up_s]
    · rw [xa_up_n _ _ h]
  rw [this]
/-- the level that s is to have next at k -/
def m_nx (V : xl_V) (e s k : Nat) : Int32 := ((V.2.1 55 k >>> (nI s &&& 31)) &&& 1) ^^^ ((m_ex V k e >>> (nI s &&& 31)) &&& 1)
def m_co (V : xl_V) (e s : Nat) (b : Int32) : Nat → Int32
  | 0 => 0
  | k + 1 => if m_nx V e s k = b then m_co V e s b k ||| ((1 : Int32) <<< (V.2.1 55 k &&& 31)) else m_co V e s b k
theorem t_M_codesOf {s c e : Nat} {b : Int32} (hc : V.1 47 13 = nI c) (h8 : c ≤ 81) (he : V.1 47 4 = nI e) (h14 : e ≤ 14) (hsg : ∀ t, t < e → vp_in (V.2.1 50 t) 5) : xX S (d + 2) 133 0 (xa_ent 6 [.ref 47, .int (nI s), .int b]) [] V 0 0 (xq (some (.int (m_co V e s b c))) (xl_H xlay V)) := by
  have loop : ∀ n k, c - k = n → k ≤ c → ∀ l5, xX S (d + 2) 133 5 [.ref 47, .int (nI s), .int b, .int (m_co V e s b k), .int (nI k), l5] [] V 0 0 (xq (some (.int (m_co V e s b c))) (xl_H xlay V)) := by
    intro n
    induction n using Nat.strongRecOn with
    | ind n ih =>
      intro k hn hk l5
      have nxt : k < c → ∀ z, z = m_co V e s b (k + 1) → ∀ l5, xX S (d + 2) 133 59 [.ref 47, .int (nI s), .int b, .int (m_co V e s b k), .int (nI k), l5] [.int z] V 0 0 (xq (some (.int (m_co V e s b c))) (xl_H xlay V)) := by
        intro h1 z hz l5
        refine xx_istore_n e_M_codesOf_59 rfl rfl ?_
        refine xh_incN e_M_codesOf_60 rfl ?_
        refine xx_goto e_M_codesOf_63 ?_
        rw [hz]
        exact ih (c - (k + 1)) (by omega) (k + 1) rfl (by omega) _
      refine xx_iload e_M_codesOf_5 rfl ?_
      refine xx_aload_n e_M_codesOf_7 rfl rfl ?_
      refine xh_get e_M_codesOf_8 fg_M_81 rfl rfl ?_
      refine xx_icmp_ge e_M_codesOf_11 (fun q => ?_) (fun q => ?_)
      · have e1 : c ≤ k := (xle hc rfl (by omega) (by omega)).mp q
        refine xx_iload_n e_M_codesOf_66 rfl rfl ?_
        refine xx_iret e_M_codesOf_67 rfl rfl ?_
        rw [show k = c by omega]
        exact ⟨rfl, rfl⟩
      · have e1 : k < c := Nat.lt_of_not_le (fun z => q ((xle hc rfl (by omega) (by omega)).mpr z))
        refine xx_aload_n e_M_codesOf_14 rfl rfl ?_
        refine xh_getR e_M_codesOf_15 fg_M_39 rfl rfl ?_
        refine xx_iload e_M_codesOf_18 rfl ?_
        refine xh_ialN e_M_codesOf_20 rfl (by omega) ?_
        refine xx_iload_n e_M_codesOf_21 rfl rfl ?_
        refine xx_ishr e_M_codesOf_22 ?_
        refine xx_iconst (v := 1) e_M_codesOf_23 (by decide) ?_
        refine xx_iand e_M_codesOf_24 ?_
        refine xx_aload_n e_M_codesOf_25 rfl rfl ?_
        refine xx_iload e_M_codesOf_26 rfl ?_
        refine xc_V1i e_M_codesOf_28 kv_M_129 (xl_obj rfl) (t_M_excitedIn he h14 (by omega) hsg) ?_
        refine xx_iload_n e_M_codesOf_31 rfl rfl ?_
        refine xx_ishr e_M_codesOf_32 ?_
        refine xx_iconst (v := 1) e_M_codesOf_33 (by decide) ?_
        refine xx_iand e_M_codesOf_34 ?_
        refine xx_ixor e_M_codesOf_35 ?_
        refine xx_istore e_M_codesOf_36 rfl ?_
        refine xx_iload e_M_codesOf_38 rfl ?_
        refine xx_iload_n e_M_codesOf_40 rfl rfl ?_
        refine xx_icmp_ne e_M_codesOf_41 (fun q1 => ?_) (fun q1 => ?_)
        · skip
          refine xx_iload_n e_M_codesOf_58 rfl rfl ?_
          exact nxt e1 _ (by rw [m_co]; exact (if_neg q1).symm) _
        · skip
          refine xx_iload_n e_M_codesOf_44 rfl rfl ?_
          refine xx_iconst (v := 1) e_M_codesOf_45 (by decide) ?_
          refine xx_aload_n e_M_codesOf_46 rfl rfl ?_
          refine xh_getR e_M_codesOf_47 fg_M_39 rfl rfl ?_
          refine xx_iload e_M_codesOf_50 rfl ?_
          refine xh_ialN e_M_codesOf_52 rfl (by omega) ?_
          refine xx_ishl e_M_codesOf_53 ?_
          refine xx_ior e_M_codesOf_54 ?_
          refine xx_goto e_M_codesOf_55 ?_
          exact nxt e1 _ (by rw [m_co]; exact (if_pos q1).symm) _
  refine xx_iconst (v := 0) e_M_codesOf_0 (by decide) ?_
  refine xx_istore_n e_M_codesOf_1 rfl rfl ?_
  refine xx_iconst (v := 0) e_M_codesOf_2 (by decide) ?_
  refine xx_istore e_M_codesOf_3 rfl ?_
  exact loop _ 0 rfl (Nat.zero_le _) _
def m_np1 (V : xl_V) (a : Nat) (cd : Int32) (p : Nat) : Bool := decide (a ≤ p ∧ ¬ V.2.1 60 p = 0 ∧ (V.2.1 59 p >>> (cd &&& 31)) &&& 1 = 1)
def m_np (V : xl_V) (sg a : Nat) (cd : Int32) : Option Nat := xfnd (m_np1 V a cd) (3 ^ sg)
theorem t_M_nextPrime {sg a : Nat} {x cd : Int32} (hx : x + 1 = nI a) (ha : a ≤ 243) (hs : V.1 47 1 = nI sg) (h5 : sg ≤ 5) : xX S (d + 1) 139 0 (xa_ent 5 [.ref 47, .int x, .int cd]) [] V 0 0 (xq (some (.int (g_io (m_np V sg a cd)))) (xl_H xlay V)) := by
  have h3 := x3 sg h5
  have loop : ∀ n p, 3 ^ sg - p = n → a ≤ p → p ≤ 243 → (∀ i, i < p → m_np1 V a cd i = false) → xX S (d + 1) 139 13 [.ref 47, .int x, .int cd, .int (nI (3 ^ sg)), .int (nI p)] [] V 0 0 (xq (some (.int (g_io (m_np V sg a cd)))) (xl_H xlay V)) := by
    intro n
    induction n using Nat.strongRecOn with
    | ind n ih =>
      intro p hn hap hp hin
      have nxt : p < 3 ^ sg → m_np1 V a cd p = false → xX S (d + 1) 139 47 [.ref 47, .int x, .int cd, .int (nI (3 ^ sg)), .int (nI p)] [] V 0 0 (xq (some (.int (g_io (m_np V sg a cd)))) (xl_H xlay V)) := by
        intro h1 h2
        refine xh_incN e_M_nextPrime_47 rfl ?_
        refine xx_goto e_M_nextPrime_50 ?_
        exact ih (3 ^ sg - (p + 1)) (by omega) (p + 1) rfl (by omega) (by omega) (lt_s' hin h2)
      refine xx_iload e_M_nextPrime_13 rfl ?_
      refine xx_iload_n e_M_nextPrime_15 rfl rfl ?_
      refine xx_icmp_ge e_M_nextPrime_16 (fun q => ?_) (fun q => ?_)
      · have e1 : 3 ^ sg ≤ p := (xle rfl rfl (by omega) (by omega)).mp q
        refine xx_iconst (v := (-1)) e_M_nextPrime_53 (by decide) ?_
        refine xx_iret e_M_nextPrime_54 rfl rfl ?_
        unfold m_np
        rw [xfnd_o (fun i hi => hin i (by omega))]
        exact ⟨rfl, rfl⟩
      · have e1 : p < 3 ^ sg := Nat.lt_of_not_le (fun z => q ((xle rfl rfl (by omega) (by omega)).mpr z))
        refine xx_aload_n e_M_nextPrime_19 rfl rfl ?_
        refine xh_getR e_M_nextPrime_20 fg_M_54 rfl rfl ?_
        refine xx_iload e_M_nextPrime_23 rfl ?_
        refine xh_balN e_M_nextPrime_25 rfl (by omega) ?_
        refine xx_if_eq e_M_nextPrime_26 (fun q1 => nxt e1 (decide_eq_false (fun z => z.2.1 q1))) (fun q1 => ?_)
        refine xx_aload_n e_M_nextPrime_29 rfl rfl ?_
        refine xh_getR e_M_nextPrime_30 fg_M_51 rfl rfl ?_
        refine xx_iload e_M_nextPrime_33 rfl ?_
        refine xh_ialN e_M_nextPrime_35 rfl (by omega) ?_
        refine xx_iload_n e_M_nextPrime_36 rfl rfl ?_
        refine xx_ishr e_M_nextPrime_37 ?_
        refine xx_iconst (v := 1) e_M_nextPrime_38 (by decide) ?_
        refine xx_iand e_M_nextPrime_39 ?_
        refine xx_iconst (v := 1) e_M_nextPrime_40 (by decide) ?_
        refine xx_icmp_ne e_M_nextPrime_41 (fun q2 => nxt e1 (decide_eq_false (fun z => q2 z.2.2))) (fun q2 => ?_)
        refine xx_iload e_M_nextPrime_44 rfl ?_
        refine xx_iret e_M_nextPrime_46 rfl rfl ?_
        unfold m_np
        rw [xfnd_i e1 (decide_eq_true ⟨hap, q1, q2⟩) hin]
        exact ⟨rfl, rfl⟩
  refine xx_aload_n e_M_nextPrime_0 rfl rfl ?_
  refine xh_get e_M_nextPrime_1 fg_M_84 rfl rfl ?_
  rw [hs]
  refine xc_S1i e_M_nextPrime_4 ks_M_152 (t_M_three (n := sg) h5) ?_
  refine xx_istore_n e_M_nextPrime_7 rfl rfl ?_
  refine xx_iload_n e_M_nextPrime_8 rfl rfl ?_
  refine xx_iconst (v := 1) e_M_nextPrime_9 (by decide) ?_
  refine xx_iadd e_M_nextPrime_10 ?_
  rw [hx]
  refine xx_istore e_M_nextPrime_11 rfl ?_
  exact loop _ a rfl (Nat.le_refl _) ha (fun i hi => decide_eq_false (fun z => by have := z.1; omega))
def m_op1 (al hv : Int32) (i : Nat) : Bool := decide (((al &&& (hv ^^^ (-1))) >>> (nI i &&& 31)) &&& 1 = 1)
def m_op (al hv : Int32) : Option Nat := xfnd (m_op1 al hv) 32
theorem t_M_open {al hv : Int32} : xX S d 138 0 (xa_ent 3 [.int al, .int hv]) [] V 0 0 (xq (some (.int (g_io (m_op al hv)))) (xl_H xlay V)) := by
  have loop : ∀ n i, 32 - i = n → i ≤ 32 → (∀ j, j < i → m_op1 al hv j = false) → xX S d 138 2 [.int al, .int hv, .int (nI i)] [] V 0 0 (xq (some (.int (g_io (m_op al hv)))) (xl_H xlay V)) := by
    intro n
    induction n using Nat.strongRecOn with
    | ind n ih =>
      intro i hn hi hin
      refine xx_iload_n e_M_open_2 rfl rfl ?_
      refine xx_bipush (v := 32) e_M_open_3 (by decide) ?_
      refine xx_icmp_ge e_M_open_5 (fun q => ?_) (fun q => ?_)
      · have e1 : 32 ≤ i := (xle (a := 32) rfl rfl (by decide) (by omega)).mp q
        refine xx_iconst (v := (-1)) e_M_open_29 (by decide) ?_
        refine xx_iret e_M_open_30 rfl rfl ?_
        unfold m_op
        rw [xfnd_o (fun i hi => hin i (by omega))]
        exact ⟨rfl, rfl⟩
      · have e1 : i < 32 := Nat.lt_of_not_le (fun z => q ((xle (a := 32) rfl rfl (by decide) (by omega)).mpr z))
        refine xx_iload_n e_M_open_8 rfl rfl ?_
        refine xx_iload_n e_M_open_9 rfl rfl ?_
        refine xx_iconst (v := (-1)) e_M_open_10 (by decide) ?_
        refine xx_ixor e_M_open_11 ?_
        refine xx_iand e_M_open_12 ?_
        refine xx_iload_n e_M_open_13 rfl rfl ?_
        refine xx_ishr e_M_open_14 ?_
        refine xx_iconst (v := 1) e_M_open_15 (by decide) ?_
        refine xx_iand e_M_open_16 ?_
        refine xx_iconst (v := 1) e_M_open_17 (by decide) ?_
        refine xx_icmp_ne e_M_open_18 (fun q2 => ?_) (fun q2 => ?_)
        · skip
          refine xh_incN e_M_open_23 rfl ?_
          refine xx_goto e_M_open_26 ?_
          exact ih (32 - (i + 1)) (by omega) (i + 1) rfl (by omega) (lt_s' hin (decide_eq_false q2))
        · skip
          refine xx_iload_n e_M_open_21 rfl rfl ?_
          refine xx_iret e_M_open_22 rfl rfl ?_
          unfold m_op
          rw [xfnd_i e1 (decide_eq_true q2) hin]
          exact ⟨rfl, rfl⟩
  refine xx_iconst (v := 0) e_M_open_0 (by decide) ?_
  refine xx_istore_n e_M_open_1 rfl rfl ?_
  exact loop _ 0 rfl (Nat.zero_le _) (fun i hi => absurd hi (Nat.not_lt_zero i))
/-- the codes below n that product p covers -/
def m_tc (sg p : Nat) : Nat → Int32
  | 0 => 0
  | c + 1 => if m_cv sg p (nI c) = 0 then m_tc sg p c else m_tc sg p c ||| ((1 : Int32) <<< (nI c &&& 31))
def m_tf (sg : Nat) (g : Nat → Int32) (p c : Nat) (j : Nat) : Int32 := if j < p then m_tc sg j (2 ^ sg) else if j = p then m_tc sg p c else g j
theorem m_tf_s (sg : Nat) (g : Nat → Int32) (p c : Nat) : m_tf sg g p c p = m_tc sg p c := by unfold m_tf; rw [if_neg (by omega), if_pos rfl]
theorem m_tf_u (sg : Nat) (g : Nat → Int32) (p c c' : Nat) : upd (m_tf sg g p c) p (m_tc sg p c') = m_tf sg g p c' := by
  funext j
  by_cases h : j = p
  · rw [h, pk_us, m_tf_s]
  · rw [pk_un h]
    unfold m_tf
    rw [if_neg h, if_neg h]
/-- the table with the first p rows filled -/
def m_tg (sg : Nat) (g : Nat → Int32) (p : Nat) (j : Nat) : Int32 := if j < p then m_tc sg j (2 ^ sg) else g j
theorem m_tg_u (sg : Nat) (g : Nat → Int32) (p c : Nat) : upd (m_tg sg g p) p (m_tc sg p c) = m_tf sg g p c := by
  funext j
  by_cases h : j = p
  · rw [h, pk_us, m_tf_s]
  · rw [pk_un h]
    unfold m_tg m_tf
    rw [if_neg h]
theorem m_tf_f (sg : Nat) (g : Nat → Int32) (p : Nat) : m_tf sg g p (2 ^ sg) = m_tg sg g (p + 1) := by
  funext j
  unfold m_tg m_tf
  by_cases h : j < p
  · rw [if_pos h, if_pos (by omega)]
  · by_cases h2 : j = p
    · rw [if_neg h, if_pos h2, if_pos (by omega), h2]
    · rw [if_neg h, if_neg h2, if_neg (by omega)]
theorem x2 : ∀ n, n ≤ 5 → (1 : Int32) <<< (nI n &&& 31) = nI (2 ^ n) ∧ 2 ^ n ≤ 32 := by decide
theorem xdg_w {p s : Nat} (hp : p < 243) (hs : s < 5) (h : xdg p s < 2) : p + (2 - xdg p s) * 3 ^ s < 243 := by
  unfold xdg at h ⊢
  match s, hs with
  | 0, _ => omega
  | 1, _ => omega
  | 2, _ => omega
  | 3, _ => omega
  | 4, _ => omega
/-- product p made wider at s stays clear -/
abbrev m_wd (f : Nat → Int32) (off : Int32) (p s : Nat) : Prop := xdg p s < 2 ∧ f (p + (2 - xdg p s) * 3 ^ s) &&& off = 0
def m_pr (f : Nat → Int32) (off : Int32) (p : Nat) : Nat → Int32
  | 0 => if f p &&& off = 0 then 1 else 0
  | s + 1 => if m_pr f off p s = 0 then 0 else if m_wd f off p s then 0 else 1
def m_pf (f : Nat → Int32) (off : Int32) (sg : Nat) (g : Nat → Int32) (p : Nat) (j : Nat) : Int32 := if j < p then m_pr f off j sg else g j
def m_pq (f : Nat → Int32) (off : Int32) (sg : Nat) (g : Nat → Int32) (p s : Nat) (j : Nat) : Int32 := if j < p then m_pr f off j sg else if j = p then m_pr f off p s else g j
theorem m_pq_s (f : Nat → Int32) (off : Int32) (sg : Nat) (g : Nat → Int32) (p s : Nat) : m_pq f off sg g p s p = m_pr f off p s := by unfold m_pq; rw [if_neg (by omega), if_pos rfl]
theorem m_pq_u (f : Nat → Int32) (off : Int32) (sg : Nat) (g : Nat → Int32) (p s s' : Nat) : upd (m_pq f off sg g p s) p (m_pr f off p s') = m_pq f off sg g p s' := by
  funext j
  by_cases h : j = p
  · rw [h, pk_us, m_pq_s]
  · rw [pk_un h]
    unfold m_pq
    rw [if_neg h, if_neg h]
theorem m_pf_u (f : Nat → Int32) (off : Int32) (sg : Nat) (g : Nat → Int32) (p s : Nat) : upd (m_pf f off sg g p) p (m_pr f off p s) = m_pq f off sg g p s := by
  funext j
  by_cases h : j = p
  · rw [h, pk_us, m_pq_s]
  · rw [pk_un h]
    unfold m_pf m_pq
    rw [if_neg h]
theorem m_pq_f (f : Nat → Int32) (off : Int32) (sg : Nat) (g : Nat → Int32) (p : Nat) : m_pq f off sg g p sg = m_pf f off sg g (p + 1) := by
  funext j
  unfold m_pf m_pq
  by_cases h : j < p
  · rw [if_pos h, if_pos (by omega)]
  · by_cases h2 : j = p
    · rw [if_neg h, if_pos h2, if_pos (by omega), h2]
    · rw [if_neg h, if_neg h2, if_neg (by omega)]
def m_tb (V : xl_V) (off : Int32) (sg : Nat) : xl_V := xl_a (xl_a V 59 (m_tg sg (V.2.1 59) (3 ^ sg))) 60 (m_pf (m_tg sg (V.2.1 59) (3 ^ sg)) off sg (V.2.1 60) (3 ^ sg))
theorem t_M_tabulate {sg : Nat} {off : Int32} (hs : V.1 47 1 = nI sg) (h5 : sg ≤ 5) : xX S (d + 2) 134 0 (xa_ent 7 [.ref 47, .int off]) [] V 0 0 (xq none (xl_H xlay (m_tb V off sg))) := by
  have h3 := x3 sg h5
  obtain ⟨h2, h32⟩ := x2 sg h5
  have fin : ∀ W, W = m_tb V off sg → ∀ l2 l3 l4 l5 l6, xX S (d + 2) 134 208 [.ref 47, .int off, l2, l3, l4, l5, l6] [] W 0 0 (xq none (xl_H xlay (m_tb V off sg))) := by
    intro W hW l2 l3 l4 l5 l6
    refine xx_vret e_M_tabulate_208 rfl ?_
    rw [hW]
    exact ⟨rfl, rfl⟩
  have primes : ∀ n p, 3 ^ sg - p = n → p ≤ 3 ^ sg → ∀ (F : Nat → Int32), F = m_tg sg (V.2.1 59) (3 ^ sg) → ∀ l4 l5 l6, xX S (d + 2) 134 86 [.ref 47, .int off, .int (nI (3 ^ sg)), .int (nI p), l4, l5, l6] [] (xl_a (xl_a V 59 F) 60 (m_pf F off sg (V.2.1 60) p)) 0 0 (xq none (xl_H xlay (m_tb V off sg))) := by
    intro n
    induction n using Nat.strongRecOn with
    | ind n ih =>
      intro p hn hp F hF l4 l5 l6
      refine xx_iload_n e_M_tabulate_86 rfl rfl ?_
      refine xx_iload_n e_M_tabulate_87 rfl rfl ?_
      refine xx_icmp_ge e_M_tabulate_88 (fun q => ?_) (fun q => ?_)
      · have e1 : 3 ^ sg ≤ p := (xle rfl rfl (by omega) (by omega)).mp q
        exact fin _ (by unfold m_tb; rw [show p = 3 ^ sg by omega, hF]) _ _ _ _ _
      · have e1 : p < 3 ^ sg := Nat.lt_of_not_le (fun z => q ((xle rfl rfl (by omega) (by omega)).mpr z))
        have inner : ∀ m s, sg - s = m → s ≤ sg → ∀ l5 l6, xX S (d + 2) 134 116 [.ref 47, .int off, .int (nI (3 ^ sg)), .int (nI p), .int (nI s), l5, l6] [] (xl_a (xl_a V 59 F) 60 (m_pq F off sg (V.2.1 60) p s)) 0 0 (xq none (xl_H xlay (m_tb V off sg))) := by
          intro m
          induction m using Nat.strongRecOn with
          | ind m ih2 =>
            intro s hm hsg l5 l6
            refine xx_iload e_M_tabulate_116 rfl ?_
            refine xx_aload_n e_M_tabulate_118 rfl rfl ?_
            refine xh_get e_M_tabulate_119 fg_M_84 rfl rfl ?_
            refine xx_icmp_ge e_M_tabulate_122 (fun q1 => ?_) (fun q1 => ?_)
            · have e2 : sg ≤ s := (xle hs rfl (by omega) (by omega)).mp q1
              refine xh_incN e_M_tabulate_202 rfl ?_
              refine xx_goto e_M_tabulate_205 ?_
              rw [show s = sg by omega, m_pq_f]
              exact ih (3 ^ sg - (p + 1)) (by omega) (p + 1) rfl (by omega) F hF _ _ _
            · have e2 : s < sg := Nat.lt_of_not_le (fun z => q1 ((xle hs rfl (by omega) (by omega)).mpr z))
              have put : ∀ z, vp_nar .boolean z = m_pr F off p (s + 1) → ∀ l5 l6, xX S (d + 2) 134 195 [.ref 47, .int off, .int (nI (3 ^ sg)), .int (nI p), .int (nI s), l5, l6] [.int z, .int (nI p), .ref 60] (xl_a (xl_a V 59 F) 60 (m_pq F off sg (V.2.1 60) p s)) 0 0 (xq none (xl_H xlay (m_tb V off sg))) := by
                intro z hz l5 l6
                refine xh_basN e_M_tabulate_195 rfl (by omega) ?_
                refine xh_incN e_M_tabulate_196 rfl ?_
                refine xx_goto e_M_tabulate_199 ?_
                rw [hz, xl_aa, show (xl_a (xl_a V 59 F) 60 (m_pq F off sg (V.2.1 60) p s)).2.1 60 = _ from xl_a_s _ _ _, m_pq_u]
                exact ih2 (sg - (s + 1)) (by omega) (s + 1) rfl (by omega) _ _
              have wide : ∀ z, (z = 0 ∨ z = 1) → (z = 0 ↔ ¬ m_wd F off p s) → ∀ l5 l6, xX S (d + 2) 134 169 [.ref 47, .int off, .int (nI (3 ^ sg)), .int (nI p), .int (nI s), l5, l6] [.int z] (xl_a (xl_a V 59 F) 60 (m_pq F off sg (V.2.1 60) p s)) 0 0 (xq none (xl_H xlay (m_tb V off sg))) := by
                intro z hz hw l5 l6
                refine xx_istore e_M_tabulate_169 rfl ?_
                refine xx_aload_n e_M_tabulate_171 rfl rfl ?_
                refine xh_getR e_M_tabulate_172 fg_M_54 rfl rfl ?_
                refine xx_iload_n e_M_tabulate_175 rfl rfl ?_
                refine xx_aload_n e_M_tabulate_176 rfl rfl ?_
                refine xh_getR e_M_tabulate_177 fg_M_54 rfl rfl ?_
                refine xx_iload_n e_M_tabulate_180 rfl rfl ?_
                refine xh_balN e_M_tabulate_181 rfl (by omega) ?_
                rw [show (xl_a (xl_a V 59 F) 60 (m_pq F off sg (V.2.1 60) p s)).2.1 60 = _ from xl_a_s _ _ _, m_pq_s]
                refine xx_if_eq e_M_tabulate_182 (fun q2 => ?_) (fun q2 => ?_)
                · skip
                  refine xx_iconst (v := 0) e_M_tabulate_194 (by decide) ?_
                  exact put 0 (by rw [m_pr, if_pos q2]; rfl) _ _
                · skip
                  refine xx_iload e_M_tabulate_185 rfl ?_
                  refine xx_if_ne e_M_tabulate_187 (fun q3 => ?_) (fun q3 => ?_)
                  · skip
                    refine xx_iconst (v := 0) e_M_tabulate_194 (by decide) ?_
                    exact put 0 (by rw [m_pr, if_neg q2, if_pos (Decidable.not_not.mp (fun z => q3 (hw.mpr z)))]; rfl) _ _
                  · skip
                    refine xx_iconst (v := 1) e_M_tabulate_190 (by decide) ?_
                    refine xx_goto e_M_tabulate_191 ?_
                    exact put 1 (by rw [m_pr, if_neg q2, if_neg (hw.mp q3)]; rfl) _ _
              refine xx_iload_n e_M_tabulate_125 rfl rfl ?_
              refine xx_iload e_M_tabulate_126 rfl ?_
              refine xc_S1i e_M_tabulate_128 ks_M_152 (t_M_three (n := s) (by omega)) ?_
              refine xx_idiv e_M_tabulate_131 (nI_ne0 (x3p s) (xn31 (by have := x3 s (by omega); omega))) ?_
              refine xx_iconst (v := 3) e_M_tabulate_132 (by decide) ?_
              refine xx_irem e_M_tabulate_133 (by decide) ?_
              rw [(xdg_r (p := p) (s := s) (by omega)).resolve_right (by omega)]
              refine xx_istore e_M_tabulate_134 rfl ?_
              refine xx_iload e_M_tabulate_136 rfl ?_
              refine xx_iconst (v := 2) e_M_tabulate_138 (by decide) ?_
              have hd3 : xdg p s < 3 := Nat.mod_lt _ (by decide)
              refine xx_icmp_ge e_M_tabulate_139 (fun q2 => ?_) (fun q2 => ?_)
              · have e3 : 2 ≤ xdg p s := (xle (a := 2) rfl rfl (by decide) (by omega)).mp q2
                refine xx_iconst (v := 0) e_M_tabulate_168 (by decide) ?_
                exact wide 0 (.inl rfl) ⟨fun _ z => by have := z.1; omega, fun _ => rfl⟩ _ _
              · have e3 : xdg p s < 2 := Nat.lt_of_not_le (fun z => q2 ((xle (a := 2) rfl rfl (by decide) (by omega)).mpr z))
                have hw := xdg_w (p := p) (s := s) (by omega) (by omega) e3
                refine xx_aload_n e_M_tabulate_142 rfl rfl ?_
                refine xh_getR e_M_tabulate_143 fg_M_51 rfl rfl ?_
                refine xx_iload_n e_M_tabulate_146 rfl rfl ?_
                refine xx_iconst (v := 2) e_M_tabulate_147 (by decide) ?_
                refine xx_iload e_M_tabulate_148 rfl ?_
                refine xx_isub e_M_tabulate_150 ?_
                rw [show (2 : Int32) = nI 2 from rfl, pk_sub (by omega)]
                refine xx_iload e_M_tabulate_151 rfl ?_
                refine xc_S1i e_M_tabulate_153 ks_M_152 (t_M_three (n := s) (by omega)) ?_
                refine xx_imul e_M_tabulate_156 ?_
                refine xx_iadd e_M_tabulate_157 ?_
                rw [pk_mul, nI_add]
                refine xh_ialN e_M_tabulate_158 rfl (by omega) ?_
                refine xx_iload_n e_M_tabulate_159 rfl rfl ?_
                refine xx_iand e_M_tabulate_160 ?_
                refine xx_if_ne e_M_tabulate_161 (fun q3 => ?_) (fun q3 => ?_)
                · skip
                  refine xx_iconst (v := 0) e_M_tabulate_168 (by decide) ?_
                  exact wide 0 (.inl rfl) ⟨fun _ z => q3 z.2, fun _ => rfl⟩ _ _
                · skip
                  refine xx_iconst (v := 1) e_M_tabulate_164 (by decide) ?_
                  refine xx_goto e_M_tabulate_165 ?_
                  exact wide 1 (.inr rfl) ⟨fun z => absurd z (by decide), fun z => absurd ⟨e3, q3⟩ z⟩ _ _
        have put0 : ∀ z, vp_nar .boolean z = m_pr F off p 0 → xX S (d + 2) 134 112 [.ref 47, .int off, .int (nI (3 ^ sg)), .int (nI p), l4, l5, l6] [.int z, .int (nI p), .ref 60] (xl_a (xl_a V 59 F) 60 (m_pf F off sg (V.2.1 60) p)) 0 0 (xq none (xl_H xlay (m_tb V off sg))) := by
          intro z hz
          refine xh_basN e_M_tabulate_112 rfl (by omega) ?_
          refine xx_iconst (v := 0) e_M_tabulate_113 (by decide) ?_
          refine xx_istore e_M_tabulate_114 rfl ?_
          rw [hz, xl_aa, show (xl_a (xl_a V 59 F) 60 (m_pf F off sg (V.2.1 60) p)).2.1 60 = _ from xl_a_s _ _ _, m_pf_u]
          exact inner _ 0 rfl (Nat.zero_le _) _ _
        refine xx_aload_n e_M_tabulate_91 rfl rfl ?_
        refine xh_getR e_M_tabulate_92 fg_M_54 rfl rfl ?_
        refine xx_iload_n e_M_tabulate_95 rfl rfl ?_
        refine xx_aload_n e_M_tabulate_96 rfl rfl ?_
        refine xh_getR e_M_tabulate_97 fg_M_51 rfl rfl ?_
        refine xx_iload_n e_M_tabulate_100 rfl rfl ?_
        refine xh_ialN e_M_tabulate_101 rfl (by omega) ?_
        refine xx_iload_n e_M_tabulate_102 rfl rfl ?_
        refine xx_iand e_M_tabulate_103 ?_
        refine xx_if_ne e_M_tabulate_104 (fun q1 => ?_) (fun q1 => ?_)
        · skip
          refine xx_iconst (v := 0) e_M_tabulate_111 (by decide) ?_
          exact put0 0 (by rw [m_pr]; exact (if_neg q1).symm)
        · skip
          refine xx_iconst (v := 1) e_M_tabulate_107 (by decide) ?_
          refine xx_goto e_M_tabulate_108 ?_
          exact put0 1 (by rw [m_pr]; exact (if_pos q1).symm)
  have rows : ∀ n p, 3 ^ sg - p = n → p ≤ 3 ^ sg → ∀ l4, xX S (d + 2) 134 10 [.ref 47, .int off, .int (nI (3 ^ sg)), .int (nI p), l4, xa_j, xa_j] [] (xl_a V 59 (m_tg sg (V.2.1 59) p)) 0 0 (xq none (xl_H xlay (m_tb V off sg))) := by
    intro n
    induction n using Nat.strongRecOn with
    | ind n ih =>
      intro p hn hp l4
      refine xx_iload_n e_M_tabulate_10 rfl rfl ?_
      refine xx_iload_n e_M_tabulate_11 rfl rfl ?_
      refine xx_icmp_ge e_M_tabulate_12 (fun q => ?_) (fun q => ?_)
      · have e1 : 3 ^ sg ≤ p := (xle rfl rfl (by omega) (by omega)).mp q
        refine xx_iconst (v := 0) e_M_tabulate_84 (by decide) ?_
        refine xx_istore_n e_M_tabulate_85 rfl rfl ?_
        rw [show p = 3 ^ sg by omega]
        have e60 : m_pf (m_tg sg (V.2.1 59) (3 ^ sg)) off sg (V.2.1 60) 0 = V.2.1 60 := by funext j; unfold m_pf; rw [if_neg (by omega)]
        have hp := primes _ 0 rfl (Nat.zero_le _) _ rfl l4 xa_j xa_j
        rw [e60, show xl_a (xl_a V 59 (m_tg sg (V.2.1 59) (3 ^ sg))) 60 (V.2.1 60) = xl_a V 59 (m_tg sg (V.2.1 59) (3 ^ sg)) from xl_a_id (xl_a V 59 (m_tg sg (V.2.1 59) (3 ^ sg))) 60] at hp
        exact hp
      · have e1 : p < 3 ^ sg := Nat.lt_of_not_le (fun z => q ((xle rfl rfl (by omega) (by omega)).mpr z))
        have inner : ∀ m c, 2 ^ sg - c = m → c ≤ 2 ^ sg → xX S (d + 2) 134 25 [.ref 47, .int off, .int (nI (3 ^ sg)), .int (nI p), .int (nI c), xa_j, xa_j] [] (xl_a V 59 (m_tf sg (V.2.1 59) p c)) 0 0 (xq none (xl_H xlay (m_tb V off sg))) := by
          intro m
          induction m using Nat.strongRecOn with
          | ind m ih2 =>
            intro c hm hc
            refine xx_iload e_M_tabulate_25 rfl ?_
            refine xx_iconst (v := 1) e_M_tabulate_27 (by decide) ?_
            refine xx_aload_n e_M_tabulate_28 rfl rfl ?_
            refine xh_get e_M_tabulate_29 fg_M_84 rfl rfl ?_
            refine xx_ishl e_M_tabulate_32 ?_
            rw [show (xl_a V 59 (m_tf sg (V.2.1 59) p c)).1 47 1 = nI sg from hs, h2]
            refine xx_icmp_ge e_M_tabulate_33 (fun q1 => ?_) (fun q1 => ?_)
            · have e2 : 2 ^ sg ≤ c := (xle rfl rfl (by omega) (by omega)).mp q1
              refine xh_incN e_M_tabulate_78 rfl ?_
              refine xx_goto e_M_tabulate_81 ?_
              rw [show c = 2 ^ sg by omega, m_tf_f]
              exact ih (3 ^ sg - (p + 1)) (by omega) (p + 1) rfl (by omega) _
            · have e2 : c < 2 ^ sg := Nat.lt_of_not_le (fun z => q1 ((xle rfl rfl (by omega) (by omega)).mpr z))
              have put : ∀ z, z = m_tc sg p (c + 1) → xX S (d + 2) 134 71 [.ref 47, .int off, .int (nI (3 ^ sg)), .int (nI p), .int (nI c), xa_j, xa_j] [.int z, .int (nI p), .ref 59] (xl_a V 59 (m_tf sg (V.2.1 59) p c)) 0 0 (xq none (xl_H xlay (m_tb V off sg))) := by
                intro z hz
                refine xh_iasN e_M_tabulate_71 rfl (by omega) ?_
                refine xh_incN e_M_tabulate_72 rfl ?_
                refine xx_goto e_M_tabulate_75 ?_
                rw [hz, xl_aa, xl_a_s, m_tf_u]
                exact ih2 (2 ^ sg - (c + 1)) (by omega) (c + 1) rfl (by omega)
              refine xx_aload_n e_M_tabulate_36 rfl rfl ?_
              refine xh_getR e_M_tabulate_37 fg_M_51 rfl rfl ?_
              refine xx_iload_n e_M_tabulate_40 rfl rfl ?_
              refine xx_aload_n e_M_tabulate_41 rfl rfl ?_
              refine xx_iload_n e_M_tabulate_42 rfl rfl ?_
              refine xx_iload e_M_tabulate_43 rfl ?_
              refine xc_V2i e_M_tabulate_45 kv_M_155 (xl_obj rfl) (t_M_covers (p := p) (c := nI c) (by omega) hs h5) ?_
              refine xx_if_eq e_M_tabulate_48 (fun q2 => ?_) (fun q2 => ?_)
              · skip
                refine xx_aload_n e_M_tabulate_65 rfl rfl ?_
                refine xh_getR e_M_tabulate_66 fg_M_51 rfl rfl ?_
                refine xx_iload_n e_M_tabulate_69 rfl rfl ?_
                refine xh_ialN e_M_tabulate_70 rfl (by omega) ?_
                exact put _ (by rw [xl_a_s, m_tf_s, m_tc, if_pos q2])
              · skip
                refine xx_aload_n e_M_tabulate_51 rfl rfl ?_
                refine xh_getR e_M_tabulate_52 fg_M_51 rfl rfl ?_
                refine xx_iload_n e_M_tabulate_55 rfl rfl ?_
                refine xh_ialN e_M_tabulate_56 rfl (by omega) ?_
                refine xx_iconst (v := 1) e_M_tabulate_57 (by decide) ?_
                refine xx_iload e_M_tabulate_58 rfl ?_
                refine xx_ishl e_M_tabulate_60 ?_
                refine xx_ior e_M_tabulate_61 ?_
                refine xx_goto e_M_tabulate_62 ?_
                exact put _ (by rw [xl_a_s, m_tf_s, m_tc, if_neg q2])
        refine xx_aload_n e_M_tabulate_15 rfl rfl ?_
        refine xh_getR e_M_tabulate_16 fg_M_51 rfl rfl ?_
        refine xx_iload_n e_M_tabulate_19 rfl rfl ?_
        refine xx_iconst (v := 0) e_M_tabulate_20 (by decide) ?_
        refine xh_iasN e_M_tabulate_21 rfl (by omega) ?_
        refine xx_iconst (v := 0) e_M_tabulate_22 (by decide) ?_
        refine xx_istore e_M_tabulate_23 rfl ?_
        rw [xl_aa, xl_a_s, show (0 : Int32) = m_tc sg p 0 from rfl, m_tg_u]
        exact inner _ 0 rfl (Nat.zero_le _)
  refine xx_aload_n e_M_tabulate_0 rfl rfl ?_
  refine xh_get e_M_tabulate_1 fg_M_84 rfl rfl ?_
  rw [hs]
  refine xc_S1i e_M_tabulate_4 ks_M_152 (t_M_three (n := sg) h5) ?_
  refine xx_istore_n e_M_tabulate_7 rfl rfl ?_
  refine xx_iconst (v := 0) e_M_tabulate_8 (by decide) ?_
  refine xx_istore_n e_M_tabulate_9 rfl rfl ?_
  have e59 : m_tg sg (V.2.1 59) 0 = V.2.1 59 := by funext j; unfold m_tg; rw [if_neg (by omega)]
  have hr := rows _ 0 rfl (Nat.zero_le _) xa_j
  rw [e59, xl_a_id] at hr
  exact hr
end XModel7
