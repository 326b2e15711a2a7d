/-! The law: its cases and its loop, for any relation R that every pair of calls keeps (printed by wip/whole/gen_law.py). -/
section XLaw
/-- a boolean of the script -/
def bz (x : Int32) : Int32 := if x = 0 then 0 else 1
theorem law_bz {K : xa_P} {tx : Nat → Nat × (Nat → Int32)} {d y pc n1 n2 n3 t0 t1 : Nat} {o1 o2 : Int} {ls st : List Value} {h : xa_H} {mc ms : Nat} {Q : xa_Q} {x : Int32} (h1 : xa_db K y pc (.ifCond .eq o1) 3 n1 o1 t0) (h2 : xa_d K y n1 (.iconst 1) 1 n2) (h3 : xa_db K y n2 (.goto o2) 3 n3 o2 t1) (h4 : xa_d K y t0 (.iconst 0) 1 t1)
    (k : xa_X K tx d y t1 ls (.int (bz x) :: st) h mc ms Q) : xa_X K tx d y pc ls (.int x :: st) h mc ms Q := by
  refine xx_if_eq h1 (fun q => ?_) (fun q => ?_)
  · refine xx_iconst (v := 0) h4 (by decide) ?_
    unfold bz at k
    rw [if_pos q] at k
    exact k
  · refine xx_iconst (v := 1) h2 (by decide) ?_
    refine xx_goto h3 ?_
    unfold bz at k
    rw [if_neg q] at k
    exact k
variable {S : Nat × (Nat → Int32)} {d : Nat} {Rl : xl_V → Prop}
/-- the reference's method y answers as the class did: c is the number of what was thrown, r the answer -/
def RK (S : Nat × (Nat → Int32)) (Rl : xl_V → Prop) (d y nL : Nat) (as : List Value) (W : xl_V) (c : Nat) (r : Option Int32) : Prop :=
  xX S d y 0 (xa_ent nL as) [] W 0 0 (xpo (fun o V2 => ∃ b, o = .inl (some (.int b)) ∧ V2.1 47 0 = nI c ∧ (∀ x, r = some x → b = x) ∧ Rl V2 ∧ V2.2.2.2 = W.2.2.2))
def RKv (S : Nat × (Nat → Int32)) (Rl : xl_V → Prop) (d y nL : Nat) (as : List Value) (W : xl_V) (c : Nat) (r : Option Int32) : Prop :=
  xX S d y 0 (xa_ent nL as) [] W 0 0 (xpo (fun o V2 => o = .inl none ∧ V2.1 47 0 = nI c ∧ Rl V2 ∧ V2.2.2.2 = W.2.2.2))
/-- what the class may do: answer r, or throw E, and the reference does alike -/
def Jd (cs : List (String × Nat)) (R : xl_V → Nat → Option Int32 → Prop) (o : xa_O) (V1 : xl_V) : Prop := (∃ r, o = .inl (some (.int r)) ∧ ∀ f, R (xl_o V1 f) 0 (some r)) ∨ (∃ E c, (E, c) ∈ cs ∧ o = .inr E ∧ R V1 c none)
def Jv (cs : List (String × Nat)) (R : xl_V → Nat → Option Int32 → Prop) (o : xa_O) (V1 : xl_V) : Prop := (o = .inl none ∧ R V1 0 none) ∨ (∃ E c, (E, c) ∈ cs ∧ o = .inr E ∧ R V1 c none)
theorem Jd_I {cs : List (String × Nat)} {R : xl_V → Nat → Option Int32 → Prop} : ∀ o V1, Jd cs R (.inl o) V1 → ∃ r, o = some (.int r) := fun o V1 h => by
  rcases h with ⟨r, e, -⟩ | ⟨E, c, -, e, -⟩
  · exact ⟨r, Sum.inl.inj e⟩
  · cases e
theorem Jd_E {cs : List (String × Nat)} {R : xl_V → Nat → Option Int32 → Prop} : ∀ E V1, Jd cs R (.inr E) V1 → ∃ c, (E, c) ∈ cs := fun E V1 h => by
  rcases h with ⟨r, e, -⟩ | ⟨E', c, hc, e, -⟩
  · cases e
  · cases e; exact ⟨c, hc⟩
theorem Jv_I {cs : List (String × Nat)} {R : xl_V → Nat → Option Int32 → Prop} : ∀ o V1, Jv cs R (.inl o) V1 → o = none := fun o V1 h => by
  rcases h with ⟨e, -⟩ | ⟨E, c, -, e, -⟩
  · exact Sum.inl.inj e
  · cases e
theorem Jv_E {cs : List (String × Nat)} {R : xl_V → Nat → Option Int32 → Prop} : ∀ E V1, Jv cs R (.inr E) V1 → ∃ c, (E, c) ∈ cs := fun E V1 h => by
  rcases h with ⟨e, -⟩ | ⟨E', c, hc, e, -⟩
  · cases e
  · cases e; exact ⟨c, hc⟩
theorem xwk_J {cs : List (String × Nat)} {R : xl_V → Nat → Option Int32 → Prop} (hn : (cs.map (·.1)).Nodup) (h0 : ∀ q ∈ cs, 0 < q.2 ∧ q.2 < 4) {o : xa_O} {W : xl_V} (h : xwk cs (Jd cs R) o W) :
    ∃ c ro, o = .inl (some (.int (nI c))) ∧ c < 4 ∧ R W c ro ∧ (c = 0 → ∃ x, ro = some x ∧ W.2.2.2 0 = x.toInt64) := by
  rcases h with ⟨e, r, V0, e2, hj⟩ | ⟨E, c, hc, e, hj⟩
  · rcases hj with ⟨r', e3, hr⟩ | ⟨E, c, -, e3, -⟩
    · have e4 : r = r' := by cases e3; rfl
      subst e4
      refine ⟨0, some r, e, by decide, by rw [e2]; exact hr _, fun _ => ⟨r, rfl, ?_⟩⟩
      rw [e2]
      show vp_updL V0.2.2.2 0 r.toInt64 0 = _
      simp [vp_updL]
    · cases e3
  · rcases hj with ⟨r', e3, -⟩ | ⟨E', c', hc', e3, hr⟩
    · cases e3
    · cases e3
      have e4 : c = c' := by
        clear hr
        induction cs with
        | nil => cases hc
        | cons q r ih =>
          have hn' : q.1 ∉ r.map (·.1) ∧ (r.map (·.1)).Nodup := List.nodup_cons.mp hn
          rcases List.mem_cons.mp hc with z | z <;> rcases List.mem_cons.mp hc' with z' | z'
          · rw [← z] at z'; exact (Prod.mk.inj z').2.symm
          · exact absurd (List.mem_map.mpr ⟨_, z', rfl⟩) (by rw [← z] at hn'; exact hn'.1)
          · exact absurd (List.mem_map.mpr ⟨_, z, rfl⟩) (by rw [← z'] at hn'; exact hn'.1)
          · exact ih hn'.2 (fun q hq => h0 q (List.mem_cons_of_mem _ hq)) z z'
      subst e4
      have h4 := h0 _ hc
      exact ⟨c, none, e, h4.2, hr, fun z => by have := h4.1; simp only at this; omega⟩
theorem xwv_J {cs : List (String × Nat)} {R : xl_V → Nat → Option Int32 → Prop} (hn : (cs.map (·.1)).Nodup) (h0 : ∀ q ∈ cs, 0 < q.2 ∧ q.2 < 4) {o : xa_O} {W : xl_V} (h : xwv cs (Jv cs R) o W) :
    ∃ c, o = .inl (some (.int (nI c))) ∧ c < 4 ∧ R W c none := by
  rcases h with ⟨e, hj⟩ | ⟨E, c, hc, e, hj⟩
  · rcases hj with ⟨-, hr⟩ | ⟨E, c, -, e3, -⟩
    · exact ⟨0, e, by decide, hr⟩
    · cases e3
  · rcases hj with ⟨e3, -⟩ | ⟨E', c', hc', e3, hr⟩
    · cases e3
    · cases e3
      have e4 : c = c' := by
        clear hr
        induction cs with
        | nil => cases hc
        | cons q r ih =>
          have hn' : q.1 ∉ r.map (·.1) ∧ (r.map (·.1)).Nodup := List.nodup_cons.mp hn
          rcases List.mem_cons.mp hc with z | z <;> rcases List.mem_cons.mp hc' with z' | z'
          · rw [← z] at z'; exact (Prod.mk.inj z').2.symm
          · exact absurd (List.mem_map.mpr ⟨_, z', rfl⟩) (by rw [← z] at hn'; exact hn'.1)
          · exact absurd (List.mem_map.mpr ⟨_, z, rfl⟩) (by rw [← z'] at hn'; exact hn'.1)
          · exact ih hn'.2 (fun q hq => h0 q (List.mem_cons_of_mem _ hq)) z z'
      subst e4
      exact ⟨c, e, (h0 _ hc).2, hr⟩
theorem lg_cmp_0 (x : Int64) : lg_cmp x x = 0 := by unfold lg_cmp; simp
/-- the places of the script that a call reads -/
def lw_sc (S : Nat × (Nat → Int32)) (i : Nat) : Prop := ∀ c, c < 4 → vp_in (nI i + nI c) S.1 ∧ (nI i + nI c).toNatClampNeg = i + c

set_option maxRecDepth 100000 in
theorem law_0 {V : xl_V} {i mc ms : Nat} {Q : xa_Q} {l5 l6 : Value} (hsc : lw_sc S i) (hC : xX S (d + 18) 32 0 (xa_ent 3 [.ref 0, .int (bz (S.2 (i + 1))), .int (bz (S.2 (i + 2)))]) [] V 1 6 (xpo (Jd [(eS, 1)] (RK S Rl (d + 19) 103 3 [.ref 47, .int (bz (S.2 (i + 1))), .int (bz (S.2 (i + 2)))]))))
    (kk : ∀ V2 l5 l6, Rl V2 → xX S (d + 20) 155 1134 [.retAddr 1, .ref 0, .ref 47, .ref 68, .int (nI i), l5, l6] [] V2 mc ms Q) : xX S (d + 20) 155 124 [.retAddr 1, .ref 0, .ref 47, .ref 68, .int (nI i), l5, l6] [] V (mc + 1) (ms + 6) Q := by
  refine xx_aload_n e_W_law_124 rfl rfl ?_
  refine xx_aload_nT e_W_law_125 rfl rfl ?_
  refine xx_iload e_W_law_126 rfl ?_
  refine xx_iconst (v := 1) e_W_law_128 (by decide) ?_
  refine xx_iadd e_W_law_129 ?_
  refine xx_tload e_W_law_130 (by decide) (hsc 1 (by decide)).1 ?_
  rw [show (nI i + 1 : Int32).toNatClampNeg = i + 1 from (hsc 1 (by decide)).2]
  refine law_bz e_W_law_131 e_W_law_134 e_W_law_135 e_W_law_138 ?_
  refine xx_aload_nT e_W_law_139 rfl rfl ?_
  refine xx_iload e_W_law_140 rfl ?_
  refine xx_iconst (v := 2) e_W_law_142 (by decide) ?_
  refine xx_iadd e_W_law_143 ?_
  refine xx_tload e_W_law_144 (by decide) (hsc 2 (by decide)).1 ?_
  rw [show (nI i + 2 : Int32).toNatClampNeg = i + 2 from (hsc 2 (by decide)).2]
  refine law_bz e_W_law_145 e_W_law_148 e_W_law_149 e_W_law_152 ?_
  refine xx_aload_n e_W_law_153 rfl rfl ?_
  refine xx_callS (As := [.ref 0, .int (bz (S.2 (i + 1))), .int (bz (S.2 (i + 2))), .ref 68]) (mc := mc) (ms := ms) (mc' := 1) (ms' := 6) (P := xpo (xwk [(eS, 1)] (Jd [(eS, 1)] (RK S Rl (d + 19) 103 3 [.ref 47, .int (bz (S.2 (i + 1))), .int (bz (S.2 (i + 2)))])))) e_W_law_154 ks_W_77 (by intro v hv; simp only [List.mem_cons, List.not_mem_nil, or_false] at hv; rcases hv with rfl | rfl | rfl | rfl <;> rfl) (by exact Nat.le_of_ble_eq_true rfl) (fun E h' q => ?_) (t_W_signal Jd_I (fun E V1 z => ?_) hC) (fun v h' q => ?_)
  · obtain ⟨V1, -, z⟩ := q
    rcases z with ⟨z, -⟩ | ⟨_, _, -, z, -⟩ <;> cases z
  · obtain ⟨c, hc⟩ := Jd_E E V1 z
    simp only [List.mem_cons, List.not_mem_nil, or_false, Prod.mk.injEq] at hc
    exact hc.1
  · obtain ⟨V1, rfl, z⟩ := q
    obtain ⟨c, ro, ho, h4, hR, hout⟩ := xwk_J (by decide) (by decide) z
    obtain rfl := Sum.inl.inj ho
    refine xx_istore e_W_law_157 rfl ?_
    refine xx_aload_n e_W_law_159 rfl rfl ?_
    refine xx_aload_nT e_W_law_160 rfl rfl ?_
    refine xx_iload e_W_law_161 rfl ?_
    refine xx_iconst (v := 1) e_W_law_163 (by decide) ?_
    refine xx_iadd e_W_law_164 ?_
    refine xx_tload e_W_law_165 (by decide) (hsc 1 (by decide)).1 ?_
    rw [show (nI i + 1 : Int32).toNatClampNeg = i + 1 from (hsc 1 (by decide)).2]
    refine law_bz e_W_law_166 e_W_law_169 e_W_law_170 e_W_law_173 ?_
    refine xx_aload_nT e_W_law_174 rfl rfl ?_
    refine xx_iload e_W_law_175 rfl ?_
    refine xx_iconst (v := 2) e_W_law_177 (by decide) ?_
    refine xx_iadd e_W_law_178 ?_
    refine xx_tload e_W_law_179 (by decide) (hsc 2 (by decide)).1 ?_
    rw [show (nI i + 2 : Int32).toNatClampNeg = i + 2 from (hsc 2 (by decide)).2]
    refine law_bz e_W_law_180 e_W_law_183 e_W_law_184 e_W_law_187 ?_
    refine xx_callV (As := [.int (bz (S.2 (i + 1))), .int (bz (S.2 (i + 2)))]) (mc := mc) (ms := ms) (mc' := 0) (ms' := 0) e_W_law_188 kv_W_82 (xl_obj rfl) (by intro v hv; simp only [List.mem_cons, List.not_mem_nil, or_false] at hv; rcases hv with rfl | rfl <;> rfl) (by exact Nat.le_of_ble_eq_true rfl) (fun E h' q => ?_) hR (fun v h' q => ?_)
    · obtain ⟨V2, -, z⟩ := q
      obtain ⟨b, z, -⟩ := z; cases z
    · obtain ⟨V2, rfl, z⟩ := q
      obtain ⟨b, hb, hk, hx, hS, ho2⟩ := z
      obtain rfl := Sum.inl.inj hb
      refine xx_istore e_W_law_191 rfl ?_
      refine xx_aload_n e_W_law_193 rfl rfl ?_
      refine xc_V0i e_W_law_194 kv_W_83 (xl_obj rfl) t_M_thrown ?_
      refine xx_iload e_W_law_197 rfl ?_
      refine xx_icmp_eq e_W_law_199 (fun _ => ?_) (fun z => absurd hk z)
      refine xx_iload e_W_law_204 rfl ?_
      refine xx_if_ne e_W_law_206 (fun _ => ?_) (fun z => ?_)
      · exact xx_goto e_W_law_221 (kk V2 _ _ hS)
      · have c0 : c = 0 := (nI_eq (xn31 (by omega)) (xn31 (by omega))).mp z
        obtain ⟨x, hx2, hx3⟩ := hout c0
        refine xx_aload_n e_W_law_209 rfl rfl ?_
        refine xx_iconst (v := 0) e_W_law_210 (by decide) ?_
        refine xh_lald e_W_law_211 rfl (show vp_in (nI 0) 1 from vp_in_nI (by decide) (by decide)) ?_
        rw [show V2.2.2.2 (0 : Int32).toNatClampNeg = x.toInt64 by rw [ho2]; exact hx3]
        refine xx_iload e_W_law_212 rfl ?_
        refine xx_i2l e_W_law_214 ?_
        refine xx_lcmp e_W_law_215 ?_
        rw [hx x hx2, lg_cmp_0]
        refine xx_if_eq e_W_law_216 (fun _ => ?_) (fun z => absurd rfl z)
        exact xx_goto e_W_law_221 (kk V2 _ _ hS)
set_option maxRecDepth 100000 in
theorem law_1 {V : xl_V} {i mc ms : Nat} {Q : xa_Q} {l5 l6 : Value} (hsc : lw_sc S i) (hC : xX S (d + 18) 35 0 (xa_ent 3 [.ref 0, .int (S.2 (i + 1)), .int (bz (S.2 (i + 2)))]) [] V 1 6 (xpo (Jd [(eI, 1), (eS, 2)] (RK S Rl (d + 19) 105 3 [.ref 47, .int (S.2 (i + 1)), .int (bz (S.2 (i + 2)))]))))
    (kk : ∀ V2 l5 l6, Rl V2 → xX S (d + 20) 155 1134 [.retAddr 1, .ref 0, .ref 47, .ref 68, .int (nI i), l5, l6] [] V2 mc ms Q) : xX S (d + 20) 155 224 [.retAddr 1, .ref 0, .ref 47, .ref 68, .int (nI i), l5, l6] [] V (mc + 1) (ms + 6) Q := by
  refine xx_aload_n e_W_law_224 rfl rfl ?_
  refine xx_aload_nT e_W_law_225 rfl rfl ?_
  refine xx_iload e_W_law_226 rfl ?_
  refine xx_iconst (v := 1) e_W_law_228 (by decide) ?_
  refine xx_iadd e_W_law_229 ?_
  refine xx_tload e_W_law_230 (by decide) (hsc 1 (by decide)).1 ?_
  rw [show (nI i + 1 : Int32).toNatClampNeg = i + 1 from (hsc 1 (by decide)).2]
  refine xx_aload_nT e_W_law_231 rfl rfl ?_
  refine xx_iload e_W_law_232 rfl ?_
  refine xx_iconst (v := 2) e_W_law_234 (by decide) ?_
  refine xx_iadd e_W_law_235 ?_
  refine xx_tload e_W_law_236 (by decide) (hsc 2 (by decide)).1 ?_
  rw [show (nI i + 2 : Int32).toNatClampNeg = i + 2 from (hsc 2 (by decide)).2]
  refine law_bz e_W_law_237 e_W_law_240 e_W_law_241 e_W_law_244 ?_
  refine xx_aload_n e_W_law_245 rfl rfl ?_
  refine xx_callS (As := [.ref 0, .int (S.2 (i + 1)), .int (bz (S.2 (i + 2))), .ref 68]) (mc := mc) (ms := ms) (mc' := 1) (ms' := 6) (P := xpo (xwk [(eI, 1), (eS, 2)] (Jd [(eI, 1), (eS, 2)] (RK S Rl (d + 19) 105 3 [.ref 47, .int (S.2 (i + 1)), .int (bz (S.2 (i + 2)))])))) e_W_law_246 ks_W_86 (by intro v hv; simp only [List.mem_cons, List.not_mem_nil, or_false] at hv; rcases hv with rfl | rfl | rfl | rfl <;> rfl) (by exact Nat.le_of_ble_eq_true rfl) (fun E h' q => ?_) (t_W_edge Jd_I (fun E V1 z => ?_) hC) (fun v h' q => ?_)
  · obtain ⟨V1, -, z⟩ := q
    rcases z with ⟨z, -⟩ | ⟨_, _, -, z, -⟩ <;> cases z
  · obtain ⟨c, hc⟩ := Jd_E E V1 z
    simp only [List.mem_cons, List.not_mem_nil, or_false, Prod.mk.injEq] at hc
    rcases hc with hc | hc <;> simp [hc.1]
  · obtain ⟨V1, rfl, z⟩ := q
    obtain ⟨c, ro, ho, h4, hR, hout⟩ := xwk_J (by decide) (by decide) z
    obtain rfl := Sum.inl.inj ho
    refine xx_istore e_W_law_249 rfl ?_
    refine xx_aload_n e_W_law_251 rfl rfl ?_
    refine xx_aload_nT e_W_law_252 rfl rfl ?_
    refine xx_iload e_W_law_253 rfl ?_
    refine xx_iconst (v := 1) e_W_law_255 (by decide) ?_
    refine xx_iadd e_W_law_256 ?_
    refine xx_tload e_W_law_257 (by decide) (hsc 1 (by decide)).1 ?_
    rw [show (nI i + 1 : Int32).toNatClampNeg = i + 1 from (hsc 1 (by decide)).2]
    refine xx_aload_nT e_W_law_258 rfl rfl ?_
    refine xx_iload e_W_law_259 rfl ?_
    refine xx_iconst (v := 2) e_W_law_261 (by decide) ?_
    refine xx_iadd e_W_law_262 ?_
    refine xx_tload e_W_law_263 (by decide) (hsc 2 (by decide)).1 ?_
    rw [show (nI i + 2 : Int32).toNatClampNeg = i + 2 from (hsc 2 (by decide)).2]
    refine law_bz e_W_law_264 e_W_law_267 e_W_law_268 e_W_law_271 ?_
    refine xx_callV (As := [.int (S.2 (i + 1)), .int (bz (S.2 (i + 2)))]) (mc := mc) (ms := ms) (mc' := 0) (ms' := 0) e_W_law_272 kv_W_89 (xl_obj rfl) (by intro v hv; simp only [List.mem_cons, List.not_mem_nil, or_false] at hv; rcases hv with rfl | rfl <;> rfl) (by exact Nat.le_of_ble_eq_true rfl) (fun E h' q => ?_) hR (fun v h' q => ?_)
    · obtain ⟨V2, -, z⟩ := q
      obtain ⟨b, z, -⟩ := z; cases z
    · obtain ⟨V2, rfl, z⟩ := q
      obtain ⟨b, hb, hk, hx, hS, ho2⟩ := z
      obtain rfl := Sum.inl.inj hb
      refine xx_istore e_W_law_275 rfl ?_
      refine xx_aload_n e_W_law_277 rfl rfl ?_
      refine xc_V0i e_W_law_278 kv_W_83 (xl_obj rfl) t_M_thrown ?_
      refine xx_iload e_W_law_281 rfl ?_
      refine xx_icmp_eq e_W_law_283 (fun _ => ?_) (fun z => absurd hk z)
      refine xx_iload e_W_law_288 rfl ?_
      refine xx_if_ne e_W_law_290 (fun _ => ?_) (fun z => ?_)
      · exact xx_goto e_W_law_305 (kk V2 _ _ hS)
      · have c0 : c = 0 := (nI_eq (xn31 (by omega)) (xn31 (by omega))).mp z
        obtain ⟨x, hx2, hx3⟩ := hout c0
        refine xx_aload_n e_W_law_293 rfl rfl ?_
        refine xx_iconst (v := 0) e_W_law_294 (by decide) ?_
        refine xh_lald e_W_law_295 rfl (show vp_in (nI 0) 1 from vp_in_nI (by decide) (by decide)) ?_
        rw [show V2.2.2.2 (0 : Int32).toNatClampNeg = x.toInt64 by rw [ho2]; exact hx3]
        refine xx_iload e_W_law_296 rfl ?_
        refine xx_i2l e_W_law_298 ?_
        refine xx_lcmp e_W_law_299 ?_
        rw [hx x hx2, lg_cmp_0]
        refine xx_if_eq e_W_law_300 (fun _ => ?_) (fun z => absurd rfl z)
        exact xx_goto e_W_law_305 (kk V2 _ _ hS)
set_option maxRecDepth 100000 in
theorem law_2 {V : xl_V} {i mc ms : Nat} {Q : xa_Q} {l5 l6 : Value} (hsc : lw_sc S i) (hC : xX S (d + 18) 39 0 (xa_ent 2 [.ref 0, .int (bz (S.2 (i + 1)))]) [] V 1 6 (xpo (Jd [(eS, 1)] (RK S Rl (d + 19) 107 2 [.ref 47, .int (bz (S.2 (i + 1)))]))))
    (kk : ∀ V2 l5 l6, Rl V2 → xX S (d + 20) 155 1134 [.retAddr 1, .ref 0, .ref 47, .ref 68, .int (nI i), l5, l6] [] V2 mc ms Q) : xX S (d + 20) 155 308 [.retAddr 1, .ref 0, .ref 47, .ref 68, .int (nI i), l5, l6] [] V (mc + 1) (ms + 6) Q := by
  refine xx_aload_n e_W_law_308 rfl rfl ?_
  refine xx_aload_nT e_W_law_309 rfl rfl ?_
  refine xx_iload e_W_law_310 rfl ?_
  refine xx_iconst (v := 1) e_W_law_312 (by decide) ?_
  refine xx_iadd e_W_law_313 ?_
  refine xx_tload e_W_law_314 (by decide) (hsc 1 (by decide)).1 ?_
  rw [show (nI i + 1 : Int32).toNatClampNeg = i + 1 from (hsc 1 (by decide)).2]
  refine law_bz e_W_law_315 e_W_law_318 e_W_law_319 e_W_law_322 ?_
  refine xx_aload_n e_W_law_323 rfl rfl ?_
  refine xx_callS (As := [.ref 0, .int (bz (S.2 (i + 1))), .ref 68]) (mc := mc) (ms := ms) (mc' := 1) (ms' := 6) (P := xpo (xwk [(eS, 1)] (Jd [(eS, 1)] (RK S Rl (d + 19) 107 2 [.ref 47, .int (bz (S.2 (i + 1)))])))) e_W_law_324 ks_W_90 (by intro v hv; simp only [List.mem_cons, List.not_mem_nil, or_false] at hv; rcases hv with rfl | rfl | rfl <;> rfl) (by exact Nat.le_of_ble_eq_true rfl) (fun E h' q => ?_) (t_W_place Jd_I (fun E V1 z => ?_) hC) (fun v h' q => ?_)
  · obtain ⟨V1, -, z⟩ := q
    rcases z with ⟨z, -⟩ | ⟨_, _, -, z, -⟩ <;> cases z
  · obtain ⟨c, hc⟩ := Jd_E E V1 z
    simp only [List.mem_cons, List.not_mem_nil, or_false, Prod.mk.injEq] at hc
    exact hc.1
  · obtain ⟨V1, rfl, z⟩ := q
    obtain ⟨c, ro, ho, h4, hR, hout⟩ := xwk_J (by decide) (by decide) z
    obtain rfl := Sum.inl.inj ho
    refine xx_istore e_W_law_327 rfl ?_
    refine xx_aload_n e_W_law_329 rfl rfl ?_
    refine xx_aload_nT e_W_law_330 rfl rfl ?_
    refine xx_iload e_W_law_331 rfl ?_
    refine xx_iconst (v := 1) e_W_law_333 (by decide) ?_
    refine xx_iadd e_W_law_334 ?_
    refine xx_tload e_W_law_335 (by decide) (hsc 1 (by decide)).1 ?_
    rw [show (nI i + 1 : Int32).toNatClampNeg = i + 1 from (hsc 1 (by decide)).2]
    refine law_bz e_W_law_336 e_W_law_339 e_W_law_340 e_W_law_343 ?_
    refine xx_callV (As := [.int (bz (S.2 (i + 1)))]) (mc := mc) (ms := ms) (mc' := 0) (ms' := 0) e_W_law_344 kv_W_93 (xl_obj rfl) (by intro v hv; rw [List.mem_singleton.mp hv]; rfl) (by exact Nat.le_of_ble_eq_true rfl) (fun E h' q => ?_) hR (fun v h' q => ?_)
    · obtain ⟨V2, -, z⟩ := q
      obtain ⟨b, z, -⟩ := z; cases z
    · obtain ⟨V2, rfl, z⟩ := q
      obtain ⟨b, hb, hk, hx, hS, ho2⟩ := z
      obtain rfl := Sum.inl.inj hb
      refine xx_istore e_W_law_347 rfl ?_
      refine xx_aload_n e_W_law_349 rfl rfl ?_
      refine xc_V0i e_W_law_350 kv_W_83 (xl_obj rfl) t_M_thrown ?_
      refine xx_iload e_W_law_353 rfl ?_
      refine xx_icmp_eq e_W_law_355 (fun _ => ?_) (fun z => absurd hk z)
      refine xx_iload e_W_law_360 rfl ?_
      refine xx_if_ne e_W_law_362 (fun _ => ?_) (fun z => ?_)
      · exact xx_goto e_W_law_377 (kk V2 _ _ hS)
      · have c0 : c = 0 := (nI_eq (xn31 (by omega)) (xn31 (by omega))).mp z
        obtain ⟨x, hx2, hx3⟩ := hout c0
        refine xx_aload_n e_W_law_365 rfl rfl ?_
        refine xx_iconst (v := 0) e_W_law_366 (by decide) ?_
        refine xh_lald e_W_law_367 rfl (show vp_in (nI 0) 1 from vp_in_nI (by decide) (by decide)) ?_
        rw [show V2.2.2.2 (0 : Int32).toNatClampNeg = x.toInt64 by rw [ho2]; exact hx3]
        refine xx_iload e_W_law_368 rfl ?_
        refine xx_i2l e_W_law_370 ?_
        refine xx_lcmp e_W_law_371 ?_
        rw [hx x hx2, lg_cmp_0]
        refine xx_if_eq e_W_law_372 (fun _ => ?_) (fun z => absurd rfl z)
        exact xx_goto e_W_law_377 (kk V2 _ _ hS)
set_option maxRecDepth 100000 in
theorem law_3 {V : xl_V} {i mc ms : Nat} {Q : xa_Q} {l5 l6 : Value} (hsc : lw_sc S i) (hC : xX S (d + 18) 42 0 (xa_ent 4 [.ref 0, .int (S.2 (i + 1)), .int (S.2 (i + 2)), .int (bz (S.2 (i + 3)))]) [] V 1 6 (xpo (Jv [(eI, 1), (eA, 2)] (RKv S Rl (d + 19) 108 6 [.ref 47, .int (S.2 (i + 1)), .int (S.2 (i + 2)), .int (bz (S.2 (i + 3)))]))))
    (kk : ∀ V2 l5 l6, Rl V2 → xX S (d + 20) 155 1134 [.retAddr 1, .ref 0, .ref 47, .ref 68, .int (nI i), l5, l6] [] V2 mc ms Q) : xX S (d + 20) 155 380 [.retAddr 1, .ref 0, .ref 47, .ref 68, .int (nI i), l5, l6] [] V (mc + 1) (ms + 6) Q := by
  refine xx_aload_n e_W_law_380 rfl rfl ?_
  refine xx_aload_nT e_W_law_381 rfl rfl ?_
  refine xx_iload e_W_law_382 rfl ?_
  refine xx_iconst (v := 1) e_W_law_384 (by decide) ?_
  refine xx_iadd e_W_law_385 ?_
  refine xx_tload e_W_law_386 (by decide) (hsc 1 (by decide)).1 ?_
  rw [show (nI i + 1 : Int32).toNatClampNeg = i + 1 from (hsc 1 (by decide)).2]
  refine xx_aload_nT e_W_law_387 rfl rfl ?_
  refine xx_iload e_W_law_388 rfl ?_
  refine xx_iconst (v := 2) e_W_law_390 (by decide) ?_
  refine xx_iadd e_W_law_391 ?_
  refine xx_tload e_W_law_392 (by decide) (hsc 2 (by decide)).1 ?_
  rw [show (nI i + 2 : Int32).toNatClampNeg = i + 2 from (hsc 2 (by decide)).2]
  refine xx_aload_nT e_W_law_393 rfl rfl ?_
  refine xx_iload e_W_law_394 rfl ?_
  refine xx_iconst (v := 3) e_W_law_396 (by decide) ?_
  refine xx_iadd e_W_law_397 ?_
  refine xx_tload e_W_law_398 (by decide) (hsc 3 (by decide)).1 ?_
  rw [show (nI i + 3 : Int32).toNatClampNeg = i + 3 from (hsc 3 (by decide)).2]
  refine law_bz e_W_law_399 e_W_law_402 e_W_law_403 e_W_law_406 ?_
  refine xx_callS (As := [.ref 0, .int (S.2 (i + 1)), .int (S.2 (i + 2)), .int (bz (S.2 (i + 3)))]) (mc := mc) (ms := ms) (mc' := 1) (ms' := 6) (P := xpo (xwv [(eI, 1), (eA, 2)] (Jv [(eI, 1), (eA, 2)] (RKv S Rl (d + 19) 108 6 [.ref 47, .int (S.2 (i + 1)), .int (S.2 (i + 2)), .int (bz (S.2 (i + 3)))])))) e_W_law_407 ks_W_94 (by intro v hv; simp only [List.mem_cons, List.not_mem_nil, or_false] at hv; rcases hv with rfl | rfl | rfl | rfl <;> rfl) (by exact Nat.le_of_ble_eq_true rfl) (fun E h' q => ?_) (t_W_arc Jv_I (fun E V1 z => ?_) hC) (fun v h' q => ?_)
  · obtain ⟨V1, -, z⟩ := q
    rcases z with ⟨z, -⟩ | ⟨_, _, -, z, -⟩ <;> cases z
  · obtain ⟨c, hc⟩ := Jv_E E V1 z
    simp only [List.mem_cons, List.not_mem_nil, or_false, Prod.mk.injEq] at hc
    rcases hc with hc | hc <;> simp [hc.1]
  · obtain ⟨V1, rfl, z⟩ := q
    obtain ⟨c, ho, h4, hR⟩ := xwv_J (by decide) (by decide) z
    obtain rfl := Sum.inl.inj ho
    refine xx_istore e_W_law_410 rfl ?_
    refine xx_aload_n e_W_law_412 rfl rfl ?_
    refine xx_aload_nT e_W_law_413 rfl rfl ?_
    refine xx_iload e_W_law_414 rfl ?_
    refine xx_iconst (v := 1) e_W_law_416 (by decide) ?_
    refine xx_iadd e_W_law_417 ?_
    refine xx_tload e_W_law_418 (by decide) (hsc 1 (by decide)).1 ?_
    rw [show (nI i + 1 : Int32).toNatClampNeg = i + 1 from (hsc 1 (by decide)).2]
    refine xx_aload_nT e_W_law_419 rfl rfl ?_
    refine xx_iload e_W_law_420 rfl ?_
    refine xx_iconst (v := 2) e_W_law_422 (by decide) ?_
    refine xx_iadd e_W_law_423 ?_
    refine xx_tload e_W_law_424 (by decide) (hsc 2 (by decide)).1 ?_
    rw [show (nI i + 2 : Int32).toNatClampNeg = i + 2 from (hsc 2 (by decide)).2]
    refine xx_aload_nT e_W_law_425 rfl rfl ?_
    refine xx_iload e_W_law_426 rfl ?_
    refine xx_iconst (v := 3) e_W_law_428 (by decide) ?_
    refine xx_iadd e_W_law_429 ?_
    refine xx_tload e_W_law_430 (by decide) (hsc 3 (by decide)).1 ?_
    rw [show (nI i + 3 : Int32).toNatClampNeg = i + 3 from (hsc 3 (by decide)).2]
    refine law_bz e_W_law_431 e_W_law_434 e_W_law_435 e_W_law_438 ?_
    refine xx_callV (As := [.int (S.2 (i + 1)), .int (S.2 (i + 2)), .int (bz (S.2 (i + 3)))]) (mc := mc) (ms := ms) (mc' := 0) (ms' := 0) e_W_law_439 kv_W_97 (xl_obj rfl) (by intro v hv; simp only [List.mem_cons, List.not_mem_nil, or_false] at hv; rcases hv with rfl | rfl | rfl <;> rfl) (by exact Nat.le_of_ble_eq_true rfl) (fun E h' q => ?_) hR (fun v h' q => ?_)
    · obtain ⟨V2, -, z⟩ := q
      cases z.1
    · obtain ⟨V2, rfl, z⟩ := q
      obtain ⟨hb, hk, hS, ho2⟩ := z
      obtain rfl := Sum.inl.inj hb
      refine xx_aload_n e_W_law_442 rfl rfl ?_
      refine xc_V0i e_W_law_443 kv_W_83 (xl_obj rfl) t_M_thrown ?_
      refine xx_iload e_W_law_446 rfl ?_
      refine xx_icmp_eq e_W_law_448 (fun _ => ?_) (fun z => absurd hk z)
      exact xx_goto e_W_law_453 (kk V2 _ _ hS)
set_option maxRecDepth 100000 in
theorem law_4 {V : xl_V} {i mc ms : Nat} {Q : xa_Q} {l5 l6 : Value} (hC : xX S (d + 19) 7 0 (xa_ent 1 [.ref 0]) [] V 0 0 (xpo (fun o V1 => ∃ r, o = .inl (some (.int r)) ∧ RK S Rl (d + 19) 109 3 [.ref 47] V1 0 (some r))))
    (kk : ∀ V2 l5 l6, Rl V2 → xX S (d + 20) 155 1134 [.retAddr 1, .ref 0, .ref 47, .ref 68, .int (nI i), l5, l6] [] V2 mc ms Q) : xX S (d + 20) 155 456 [.retAddr 1, .ref 0, .ref 47, .ref 68, .int (nI i), l5, l6] [] V mc ms Q := by
  refine xx_aload_n e_W_law_456 rfl rfl ?_
  refine xx_callV (As := []) (mc := mc) (ms := ms) (mc' := 0) (ms' := 0) e_W_law_457 kv_W_98 (xl_obj rfl) (by intro v hv; cases hv) (by exact Nat.le_of_ble_eq_true rfl) (fun E h' q => ?_) hC (fun v h' q => ?_)
  · obtain ⟨V2, -, b, z, -⟩ := q
    cases z
  · obtain ⟨V1, rfl, r, z, hR⟩ := q
    obtain rfl := Sum.inl.inj z
    refine xx_aload_n e_W_law_460 rfl rfl ?_
    refine xx_callV (As := []) (mc := mc) (ms := ms) (mc' := 0) (ms' := 0) e_W_law_461 kv_W_101 (xl_obj rfl) (by intro v hv; cases hv) (by exact Nat.le_of_ble_eq_true rfl) (fun E h' q => ?_) hR (fun v h' q => ?_)
    · obtain ⟨V2, -, b, z, -⟩ := q
      cases z
    · obtain ⟨V2, rfl, b, hb, hk, hx, hS, ho2⟩ := q
      obtain rfl := Sum.inl.inj hb
      refine xx_icmp_eq e_W_law_464 (fun _ => kk V2 _ _ hS) (fun z => absurd (hx r rfl).symm z)
set_option maxRecDepth 100000 in
theorem law_5 {V : xl_V} {i mc ms : Nat} {Q : xa_Q} {l5 l6 : Value} (hsc : lw_sc S i) (hC : xX S (d + 18) 46 0 (xa_ent 1 [.ref 0]) [] V 1 6 (xpo (Jd [(eS, 1)] (RK S Rl (d + 19) 123 1 [.ref 47]))))
    (kk : ∀ V2 l5 l6, Rl V2 → xX S (d + 20) 155 1134 [.retAddr 1, .ref 0, .ref 47, .ref 68, .int (nI i), l5, l6] [] V2 mc ms Q) : xX S (d + 20) 155 469 [.retAddr 1, .ref 0, .ref 47, .ref 68, .int (nI i), l5, l6] [] V (mc + 1) (ms + 6) Q := by
  refine xx_aload_n e_W_law_469 rfl rfl ?_
  refine xx_aload_n e_W_law_470 rfl rfl ?_
  refine xx_callS (As := [.ref 0, .ref 68]) (mc := mc) (ms := ms) (mc' := 1) (ms' := 6) (P := xpo (xwk [(eS, 1)] (Jd [(eS, 1)] (RK S Rl (d + 19) 123 1 [.ref 47])))) e_W_law_471 ks_W_102 (by intro v hv; simp only [List.mem_cons, List.not_mem_nil, or_false] at hv; rcases hv with rfl | rfl <;> rfl) (by exact Nat.le_of_ble_eq_true rfl) (fun E h' q => ?_) (t_W_states Jd_I (fun E V1 z => ?_) hC) (fun v h' q => ?_)
  · obtain ⟨V1, -, z⟩ := q
    rcases z with ⟨z, -⟩ | ⟨_, _, -, z, -⟩ <;> cases z
  · obtain ⟨c, hc⟩ := Jd_E E V1 z
    simp only [List.mem_cons, List.not_mem_nil, or_false, Prod.mk.injEq] at hc
    exact hc.1
  · obtain ⟨V1, rfl, z⟩ := q
    obtain ⟨c, ro, ho, h4, hR, hout⟩ := xwk_J (by decide) (by decide) z
    obtain rfl := Sum.inl.inj ho
    refine xx_istore e_W_law_474 rfl ?_
    refine xx_aload_n e_W_law_476 rfl rfl ?_
    refine xx_callV (As := []) (mc := mc) (ms := ms) (mc' := 0) (ms' := 0) e_W_law_477 kv_W_105 (xl_obj rfl) (by intro v hv; cases hv) (by exact Nat.le_of_ble_eq_true rfl) (fun E h' q => ?_) hR (fun v h' q => ?_)
    · obtain ⟨V2, -, z⟩ := q
      obtain ⟨b, z, -⟩ := z; cases z
    · obtain ⟨V2, rfl, z⟩ := q
      obtain ⟨b, hb, hk, hx, hS, ho2⟩ := z
      obtain rfl := Sum.inl.inj hb
      refine xx_istore e_W_law_480 rfl ?_
      refine xx_aload_n e_W_law_482 rfl rfl ?_
      refine xc_V0i e_W_law_483 kv_W_83 (xl_obj rfl) t_M_thrown ?_
      refine xx_iload e_W_law_486 rfl ?_
      refine xx_icmp_eq e_W_law_488 (fun _ => ?_) (fun z => absurd hk z)
      refine xx_iload e_W_law_493 rfl ?_
      refine xx_if_ne e_W_law_495 (fun _ => ?_) (fun z => ?_)
      · exact xx_goto e_W_law_510 (kk V2 _ _ hS)
      · have c0 : c = 0 := (nI_eq (xn31 (by omega)) (xn31 (by omega))).mp z
        obtain ⟨x, hx2, hx3⟩ := hout c0
        refine xx_aload_n e_W_law_498 rfl rfl ?_
        refine xx_iconst (v := 0) e_W_law_499 (by decide) ?_
        refine xh_lald e_W_law_500 rfl (show vp_in (nI 0) 1 from vp_in_nI (by decide) (by decide)) ?_
        rw [show V2.2.2.2 (0 : Int32).toNatClampNeg = x.toInt64 by rw [ho2]; exact hx3]
        refine xx_iload e_W_law_501 rfl ?_
        refine xx_i2l e_W_law_503 ?_
        refine xx_lcmp e_W_law_504 ?_
        rw [hx x hx2, lg_cmp_0]
        refine xx_if_eq e_W_law_505 (fun _ => ?_) (fun z => absurd rfl z)
        exact xx_goto e_W_law_510 (kk V2 _ _ hS)
set_option maxRecDepth 100000 in
theorem law_6 {V : xl_V} {i mc ms : Nat} {Q : xa_Q} {l5 l6 : Value} (hsc : lw_sc S i) (hC : xX S (d + 18) 49 0 (xa_ent 2 [.ref 0, .int (S.2 (i + 1))]) [] V 1 6 (xpo (Jd [(eS, 1), (eI, 2)] (RK S Rl (d + 19) 125 2 [.ref 47, .int (S.2 (i + 1))]))))
    (kk : ∀ V2 l5 l6, Rl V2 → xX S (d + 20) 155 1134 [.retAddr 1, .ref 0, .ref 47, .ref 68, .int (nI i), l5, l6] [] V2 mc ms Q) : xX S (d + 20) 155 513 [.retAddr 1, .ref 0, .ref 47, .ref 68, .int (nI i), l5, l6] [] V (mc + 1) (ms + 6) Q := by
  refine xx_aload_n e_W_law_513 rfl rfl ?_
  refine xx_aload_nT e_W_law_514 rfl rfl ?_
  refine xx_iload e_W_law_515 rfl ?_
  refine xx_iconst (v := 1) e_W_law_517 (by decide) ?_
  refine xx_iadd e_W_law_518 ?_
  refine xx_tload e_W_law_519 (by decide) (hsc 1 (by decide)).1 ?_
  rw [show (nI i + 1 : Int32).toNatClampNeg = i + 1 from (hsc 1 (by decide)).2]
  refine xx_aload_n e_W_law_520 rfl rfl ?_
  refine xx_callS (As := [.ref 0, .int (S.2 (i + 1)), .ref 68]) (mc := mc) (ms := ms) (mc' := 1) (ms' := 6) (P := xpo (xwk [(eS, 1), (eI, 2)] (Jd [(eS, 1), (eI, 2)] (RK S Rl (d + 19) 125 2 [.ref 47, .int (S.2 (i + 1))])))) e_W_law_521 ks_W_106 (by intro v hv; simp only [List.mem_cons, List.not_mem_nil, or_false] at hv; rcases hv with rfl | rfl | rfl <;> rfl) (by exact Nat.le_of_ble_eq_true rfl) (fun E h' q => ?_) (t_W_code Jd_I (fun E V1 z => ?_) hC) (fun v h' q => ?_)
  · obtain ⟨V1, -, z⟩ := q
    rcases z with ⟨z, -⟩ | ⟨_, _, -, z, -⟩ <;> cases z
  · obtain ⟨c, hc⟩ := Jd_E E V1 z
    simp only [List.mem_cons, List.not_mem_nil, or_false, Prod.mk.injEq] at hc
    rcases hc with hc | hc <;> simp [hc.1]
  · obtain ⟨V1, rfl, z⟩ := q
    obtain ⟨c, ro, ho, h4, hR, hout⟩ := xwk_J (by decide) (by decide) z
    obtain rfl := Sum.inl.inj ho
    refine xx_istore e_W_law_524 rfl ?_
    refine xx_aload_n e_W_law_526 rfl rfl ?_
    refine xx_aload_nT e_W_law_527 rfl rfl ?_
    refine xx_iload e_W_law_528 rfl ?_
    refine xx_iconst (v := 1) e_W_law_530 (by decide) ?_
    refine xx_iadd e_W_law_531 ?_
    refine xx_tload e_W_law_532 (by decide) (hsc 1 (by decide)).1 ?_
    rw [show (nI i + 1 : Int32).toNatClampNeg = i + 1 from (hsc 1 (by decide)).2]
    refine xx_callV (As := [.int (S.2 (i + 1))]) (mc := mc) (ms := ms) (mc' := 0) (ms' := 0) e_W_law_533 kv_W_109 (xl_obj rfl) (by intro v hv; rw [List.mem_singleton.mp hv]; rfl) (by exact Nat.le_of_ble_eq_true rfl) (fun E h' q => ?_) hR (fun v h' q => ?_)
    · obtain ⟨V2, -, z⟩ := q
      obtain ⟨b, z, -⟩ := z; cases z
    · obtain ⟨V2, rfl, z⟩ := q
      obtain ⟨b, hb, hk, hx, hS, ho2⟩ := z
      obtain rfl := Sum.inl.inj hb
      refine xx_istore e_W_law_536 rfl ?_
      refine xx_aload_n e_W_law_538 rfl rfl ?_
      refine xc_V0i e_W_law_539 kv_W_83 (xl_obj rfl) t_M_thrown ?_
      refine xx_iload e_W_law_542 rfl ?_
      refine xx_icmp_eq e_W_law_544 (fun _ => ?_) (fun z => absurd hk z)
      refine xx_iload e_W_law_549 rfl ?_
      refine xx_if_ne e_W_law_551 (fun _ => ?_) (fun z => ?_)
      · exact xx_goto e_W_law_566 (kk V2 _ _ hS)
      · have c0 : c = 0 := (nI_eq (xn31 (by omega)) (xn31 (by omega))).mp z
        obtain ⟨x, hx2, hx3⟩ := hout c0
        refine xx_aload_n e_W_law_554 rfl rfl ?_
        refine xx_iconst (v := 0) e_W_law_555 (by decide) ?_
        refine xh_lald e_W_law_556 rfl (show vp_in (nI 0) 1 from vp_in_nI (by decide) (by decide)) ?_
        rw [show V2.2.2.2 (0 : Int32).toNatClampNeg = x.toInt64 by rw [ho2]; exact hx3]
        refine xx_iload e_W_law_557 rfl ?_
        refine xx_i2l e_W_law_559 ?_
        refine xx_lcmp e_W_law_560 ?_
        rw [hx x hx2, lg_cmp_0]
        refine xx_if_eq e_W_law_561 (fun _ => ?_) (fun z => absurd rfl z)
        exact xx_goto e_W_law_566 (kk V2 _ _ hS)
set_option maxRecDepth 100000 in
theorem law_7 {V : xl_V} {i mc ms : Nat} {Q : xa_Q} {l5 l6 : Value} (hsc : lw_sc S i) (hC : xX S (d + 18) 52 0 (xa_ent 2 [.ref 0, .int (S.2 (i + 1))]) [] V 1 6 (xpo (Jd [(eS, 1), (eI, 2)] (RK S Rl (d + 19) 127 2 [.ref 47, .int (S.2 (i + 1))]))))
    (kk : ∀ V2 l5 l6, Rl V2 → xX S (d + 20) 155 1134 [.retAddr 1, .ref 0, .ref 47, .ref 68, .int (nI i), l5, l6] [] V2 mc ms Q) : xX S (d + 20) 155 569 [.retAddr 1, .ref 0, .ref 47, .ref 68, .int (nI i), l5, l6] [] V (mc + 1) (ms + 6) Q := by
  refine xx_aload_n e_W_law_569 rfl rfl ?_
  refine xx_aload_nT e_W_law_570 rfl rfl ?_
  refine xx_iload e_W_law_571 rfl ?_
  refine xx_iconst (v := 1) e_W_law_573 (by decide) ?_
  refine xx_iadd e_W_law_574 ?_
  refine xx_tload e_W_law_575 (by decide) (hsc 1 (by decide)).1 ?_
  rw [show (nI i + 1 : Int32).toNatClampNeg = i + 1 from (hsc 1 (by decide)).2]
  refine xx_aload_n e_W_law_576 rfl rfl ?_
  refine xx_callS (As := [.ref 0, .int (S.2 (i + 1)), .ref 68]) (mc := mc) (ms := ms) (mc' := 1) (ms' := 6) (P := xpo (xwk [(eS, 1), (eI, 2)] (Jd [(eS, 1), (eI, 2)] (RK S Rl (d + 19) 127 2 [.ref 47, .int (S.2 (i + 1))])))) e_W_law_577 ks_W_110 (by intro v hv; simp only [List.mem_cons, List.not_mem_nil, or_false] at hv; rcases hv with rfl | rfl | rfl <;> rfl) (by exact Nat.le_of_ble_eq_true rfl) (fun E h' q => ?_) (t_W_marking Jd_I (fun E V1 z => ?_) hC) (fun v h' q => ?_)
  · obtain ⟨V1, -, z⟩ := q
    rcases z with ⟨z, -⟩ | ⟨_, _, -, z, -⟩ <;> cases z
  · obtain ⟨c, hc⟩ := Jd_E E V1 z
    simp only [List.mem_cons, List.not_mem_nil, or_false, Prod.mk.injEq] at hc
    rcases hc with hc | hc <;> simp [hc.1]
  · obtain ⟨V1, rfl, z⟩ := q
    obtain ⟨c, ro, ho, h4, hR, hout⟩ := xwk_J (by decide) (by decide) z
    obtain rfl := Sum.inl.inj ho
    refine xx_istore e_W_law_580 rfl ?_
    refine xx_aload_n e_W_law_582 rfl rfl ?_
    refine xx_aload_nT e_W_law_583 rfl rfl ?_
    refine xx_iload e_W_law_584 rfl ?_
    refine xx_iconst (v := 1) e_W_law_586 (by decide) ?_
    refine xx_iadd e_W_law_587 ?_
    refine xx_tload e_W_law_588 (by decide) (hsc 1 (by decide)).1 ?_
    rw [show (nI i + 1 : Int32).toNatClampNeg = i + 1 from (hsc 1 (by decide)).2]
    refine xx_callV (As := [.int (S.2 (i + 1))]) (mc := mc) (ms := ms) (mc' := 0) (ms' := 0) e_W_law_589 kv_W_112 (xl_obj rfl) (by intro v hv; rw [List.mem_singleton.mp hv]; rfl) (by exact Nat.le_of_ble_eq_true rfl) (fun E h' q => ?_) hR (fun v h' q => ?_)
    · obtain ⟨V2, -, z⟩ := q
      obtain ⟨b, z, -⟩ := z; cases z
    · obtain ⟨V2, rfl, z⟩ := q
      obtain ⟨b, hb, hk, hx, hS, ho2⟩ := z
      obtain rfl := Sum.inl.inj hb
      refine xx_istore e_W_law_592 rfl ?_
      refine xx_aload_n e_W_law_594 rfl rfl ?_
      refine xc_V0i e_W_law_595 kv_W_83 (xl_obj rfl) t_M_thrown ?_
      refine xx_iload e_W_law_598 rfl ?_
      refine xx_icmp_eq e_W_law_600 (fun _ => ?_) (fun z => absurd hk z)
      refine xx_iload e_W_law_605 rfl ?_
      refine xx_if_ne e_W_law_607 (fun _ => ?_) (fun z => ?_)
      · exact xx_goto e_W_law_622 (kk V2 _ _ hS)
      · have c0 : c = 0 := (nI_eq (xn31 (by omega)) (xn31 (by omega))).mp z
        obtain ⟨x, hx2, hx3⟩ := hout c0
        refine xx_aload_n e_W_law_610 rfl rfl ?_
        refine xx_iconst (v := 0) e_W_law_611 (by decide) ?_
        refine xh_lald e_W_law_612 rfl (show vp_in (nI 0) 1 from vp_in_nI (by decide) (by decide)) ?_
        rw [show V2.2.2.2 (0 : Int32).toNatClampNeg = x.toInt64 by rw [ho2]; exact hx3]
        refine xx_iload e_W_law_613 rfl ?_
        refine xx_i2l e_W_law_615 ?_
        refine xx_lcmp e_W_law_616 ?_
        rw [hx x hx2, lg_cmp_0]
        refine xx_if_eq e_W_law_617 (fun _ => ?_) (fun z => absurd rfl z)
        exact xx_goto e_W_law_622 (kk V2 _ _ hS)
set_option maxRecDepth 100000 in
theorem law_8 {V : xl_V} {i mc ms : Nat} {Q : xa_Q} {l5 l6 : Value} (hsc : lw_sc S i) (hC : xX S (d + 18) 54 0 (xa_ent 2 [.ref 0, .int (S.2 (i + 1))]) [] V 1 6 (xpo (Jd [(eS, 1), (eI, 2)] (RK S Rl (d + 19) 128 2 [.ref 47, .int (S.2 (i + 1))]))))
    (kk : ∀ V2 l5 l6, Rl V2 → xX S (d + 20) 155 1134 [.retAddr 1, .ref 0, .ref 47, .ref 68, .int (nI i), l5, l6] [] V2 mc ms Q) : xX S (d + 20) 155 625 [.retAddr 1, .ref 0, .ref 47, .ref 68, .int (nI i), l5, l6] [] V (mc + 1) (ms + 6) Q := by
  refine xx_aload_n e_W_law_625 rfl rfl ?_
  refine xx_aload_nT e_W_law_626 rfl rfl ?_
  refine xx_iload e_W_law_627 rfl ?_
  refine xx_iconst (v := 1) e_W_law_629 (by decide) ?_
  refine xx_iadd e_W_law_630 ?_
  refine xx_tload e_W_law_631 (by decide) (hsc 1 (by decide)).1 ?_
  rw [show (nI i + 1 : Int32).toNatClampNeg = i + 1 from (hsc 1 (by decide)).2]
  refine xx_aload_n e_W_law_632 rfl rfl ?_
  refine xx_callS (As := [.ref 0, .int (S.2 (i + 1)), .ref 68]) (mc := mc) (ms := ms) (mc' := 1) (ms' := 6) (P := xpo (xwk [(eS, 1), (eI, 2)] (Jd [(eS, 1), (eI, 2)] (RK S Rl (d + 19) 128 2 [.ref 47, .int (S.2 (i + 1))])))) e_W_law_633 ks_W_113 (by intro v hv; simp only [List.mem_cons, List.not_mem_nil, or_false] at hv; rcases hv with rfl | rfl | rfl <;> rfl) (by exact Nat.le_of_ble_eq_true rfl) (fun E h' q => ?_) (t_W_found Jd_I (fun E V1 z => ?_) hC) (fun v h' q => ?_)
  · obtain ⟨V1, -, z⟩ := q
    rcases z with ⟨z, -⟩ | ⟨_, _, -, z, -⟩ <;> cases z
  · obtain ⟨c, hc⟩ := Jd_E E V1 z
    simp only [List.mem_cons, List.not_mem_nil, or_false, Prod.mk.injEq] at hc
    rcases hc with hc | hc <;> simp [hc.1]
  · obtain ⟨V1, rfl, z⟩ := q
    obtain ⟨c, ro, ho, h4, hR, hout⟩ := xwk_J (by decide) (by decide) z
    obtain rfl := Sum.inl.inj ho
    refine xx_istore e_W_law_636 rfl ?_
    refine xx_aload_n e_W_law_638 rfl rfl ?_
    refine xx_aload_nT e_W_law_639 rfl rfl ?_
    refine xx_iload e_W_law_640 rfl ?_
    refine xx_iconst (v := 1) e_W_law_642 (by decide) ?_
    refine xx_iadd e_W_law_643 ?_
    refine xx_tload e_W_law_644 (by decide) (hsc 1 (by decide)).1 ?_
    rw [show (nI i + 1 : Int32).toNatClampNeg = i + 1 from (hsc 1 (by decide)).2]
    refine xx_callV (As := [.int (S.2 (i + 1))]) (mc := mc) (ms := ms) (mc' := 0) (ms' := 0) e_W_law_645 kv_W_115 (xl_obj rfl) (by intro v hv; rw [List.mem_singleton.mp hv]; rfl) (by exact Nat.le_of_ble_eq_true rfl) (fun E h' q => ?_) hR (fun v h' q => ?_)
    · obtain ⟨V2, -, z⟩ := q
      obtain ⟨b, z, -⟩ := z; cases z
    · obtain ⟨V2, rfl, z⟩ := q
      obtain ⟨b, hb, hk, hx, hS, ho2⟩ := z
      obtain rfl := Sum.inl.inj hb
      refine xx_istore e_W_law_648 rfl ?_
      refine xx_aload_n e_W_law_650 rfl rfl ?_
      refine xc_V0i e_W_law_651 kv_W_83 (xl_obj rfl) t_M_thrown ?_
      refine xx_iload e_W_law_654 rfl ?_
      refine xx_icmp_eq e_W_law_656 (fun _ => ?_) (fun z => absurd hk z)
      refine xx_iload e_W_law_661 rfl ?_
      refine xx_if_ne e_W_law_663 (fun _ => ?_) (fun z => ?_)
      · exact xx_goto e_W_law_678 (kk V2 _ _ hS)
      · have c0 : c = 0 := (nI_eq (xn31 (by omega)) (xn31 (by omega))).mp z
        obtain ⟨x, hx2, hx3⟩ := hout c0
        refine xx_aload_n e_W_law_666 rfl rfl ?_
        refine xx_iconst (v := 0) e_W_law_667 (by decide) ?_
        refine xh_lald e_W_law_668 rfl (show vp_in (nI 0) 1 from vp_in_nI (by decide) (by decide)) ?_
        rw [show V2.2.2.2 (0 : Int32).toNatClampNeg = x.toInt64 by rw [ho2]; exact hx3]
        refine xx_iload e_W_law_669 rfl ?_
        refine xx_i2l e_W_law_671 ?_
        refine xx_lcmp e_W_law_672 ?_
        rw [hx x hx2, lg_cmp_0]
        refine xx_if_eq e_W_law_673 (fun _ => ?_) (fun z => absurd rfl z)
        exact xx_goto e_W_law_678 (kk V2 _ _ hS)
set_option maxRecDepth 100000 in
theorem law_9 {V : xl_V} {i mc ms : Nat} {Q : xa_Q} {l5 l6 : Value} (hsc : lw_sc S i) (hC : xX S (d + 18) 56 0 (xa_ent 2 [.ref 0, .int (S.2 (i + 1))]) [] V 1 6 (xpo (Jd [(eS, 1), (eI, 2)] (RK S Rl (d + 19) 129 2 [.ref 47, .int (S.2 (i + 1))]))))
    (kk : ∀ V2 l5 l6, Rl V2 → xX S (d + 20) 155 1134 [.retAddr 1, .ref 0, .ref 47, .ref 68, .int (nI i), l5, l6] [] V2 mc ms Q) : xX S (d + 20) 155 681 [.retAddr 1, .ref 0, .ref 47, .ref 68, .int (nI i), l5, l6] [] V (mc + 1) (ms + 6) Q := by
  refine xx_aload_n e_W_law_681 rfl rfl ?_
  refine xx_aload_nT e_W_law_682 rfl rfl ?_
  refine xx_iload e_W_law_683 rfl ?_
  refine xx_iconst (v := 1) e_W_law_685 (by decide) ?_
  refine xx_iadd e_W_law_686 ?_
  refine xx_tload e_W_law_687 (by decide) (hsc 1 (by decide)).1 ?_
  rw [show (nI i + 1 : Int32).toNatClampNeg = i + 1 from (hsc 1 (by decide)).2]
  refine xx_aload_n e_W_law_688 rfl rfl ?_
  refine xx_callS (As := [.ref 0, .int (S.2 (i + 1)), .ref 68]) (mc := mc) (ms := ms) (mc' := 1) (ms' := 6) (P := xpo (xwk [(eS, 1), (eI, 2)] (Jd [(eS, 1), (eI, 2)] (RK S Rl (d + 19) 129 2 [.ref 47, .int (S.2 (i + 1))])))) e_W_law_689 ks_W_116 (by intro v hv; simp only [List.mem_cons, List.not_mem_nil, or_false] at hv; rcases hv with rfl | rfl | rfl <;> rfl) (by exact Nat.le_of_ble_eq_true rfl) (fun E h' q => ?_) (t_W_excited Jd_I (fun E V1 z => ?_) hC) (fun v h' q => ?_)
  · obtain ⟨V1, -, z⟩ := q
    rcases z with ⟨z, -⟩ | ⟨_, _, -, z, -⟩ <;> cases z
  · obtain ⟨c, hc⟩ := Jd_E E V1 z
    simp only [List.mem_cons, List.not_mem_nil, or_false, Prod.mk.injEq] at hc
    rcases hc with hc | hc <;> simp [hc.1]
  · obtain ⟨V1, rfl, z⟩ := q
    obtain ⟨c, ro, ho, h4, hR, hout⟩ := xwk_J (by decide) (by decide) z
    obtain rfl := Sum.inl.inj ho
    refine xx_istore e_W_law_692 rfl ?_
    refine xx_aload_n e_W_law_694 rfl rfl ?_
    refine xx_aload_nT e_W_law_695 rfl rfl ?_
    refine xx_iload e_W_law_696 rfl ?_
    refine xx_iconst (v := 1) e_W_law_698 (by decide) ?_
    refine xx_iadd e_W_law_699 ?_
    refine xx_tload e_W_law_700 (by decide) (hsc 1 (by decide)).1 ?_
    rw [show (nI i + 1 : Int32).toNatClampNeg = i + 1 from (hsc 1 (by decide)).2]
    refine xx_callV (As := [.int (S.2 (i + 1))]) (mc := mc) (ms := ms) (mc' := 0) (ms' := 0) e_W_law_701 kv_W_118 (xl_obj rfl) (by intro v hv; rw [List.mem_singleton.mp hv]; rfl) (by exact Nat.le_of_ble_eq_true rfl) (fun E h' q => ?_) hR (fun v h' q => ?_)
    · obtain ⟨V2, -, z⟩ := q
      obtain ⟨b, z, -⟩ := z; cases z
    · obtain ⟨V2, rfl, z⟩ := q
      obtain ⟨b, hb, hk, hx, hS, ho2⟩ := z
      obtain rfl := Sum.inl.inj hb
      refine xx_istore e_W_law_704 rfl ?_
      refine xx_aload_n e_W_law_706 rfl rfl ?_
      refine xc_V0i e_W_law_707 kv_W_83 (xl_obj rfl) t_M_thrown ?_
      refine xx_iload e_W_law_710 rfl ?_
      refine xx_icmp_eq e_W_law_712 (fun _ => ?_) (fun z => absurd hk z)
      refine xx_iload e_W_law_717 rfl ?_
      refine xx_if_ne e_W_law_719 (fun _ => ?_) (fun z => ?_)
      · exact xx_goto e_W_law_734 (kk V2 _ _ hS)
      · have c0 : c = 0 := (nI_eq (xn31 (by omega)) (xn31 (by omega))).mp z
        obtain ⟨x, hx2, hx3⟩ := hout c0
        refine xx_aload_n e_W_law_722 rfl rfl ?_
        refine xx_iconst (v := 0) e_W_law_723 (by decide) ?_
        refine xh_lald e_W_law_724 rfl (show vp_in (nI 0) 1 from vp_in_nI (by decide) (by decide)) ?_
        rw [show V2.2.2.2 (0 : Int32).toNatClampNeg = x.toInt64 by rw [ho2]; exact hx3]
        refine xx_iload e_W_law_725 rfl ?_
        refine xx_i2l e_W_law_727 ?_
        refine xx_lcmp e_W_law_728 ?_
        rw [hx x hx2, lg_cmp_0]
        refine xx_if_eq e_W_law_729 (fun _ => ?_) (fun z => absurd rfl z)
        exact xx_goto e_W_law_734 (kk V2 _ _ hS)
set_option maxRecDepth 100000 in
theorem law_10 {V : xl_V} {i mc ms : Nat} {Q : xa_Q} {l5 l6 : Value} (hC : xX S (d + 19) 30 0 (xa_ent 1 [.ref 0]) [] V 0 0 (xpo (fun o V1 => ∃ r, o = .inl (some (.int r)) ∧ RK S Rl (d + 19) 130 1 [.ref 47] V1 0 (some r))))
    (kk : ∀ V2 l5 l6, Rl V2 → xX S (d + 20) 155 1134 [.retAddr 1, .ref 0, .ref 47, .ref 68, .int (nI i), l5, l6] [] V2 mc ms Q) : xX S (d + 20) 155 737 [.retAddr 1, .ref 0, .ref 47, .ref 68, .int (nI i), l5, l6] [] V mc ms Q := by
  refine xx_aload_n e_W_law_737 rfl rfl ?_
  refine xx_callV (As := []) (mc := mc) (ms := ms) (mc' := 0) (ms' := 0) e_W_law_738 kv_W_119 (xl_obj rfl) (by intro v hv; cases hv) (by exact Nat.le_of_ble_eq_true rfl) (fun E h' q => ?_) hC (fun v h' q => ?_)
  · obtain ⟨V2, -, b, z, -⟩ := q
    cases z
  · obtain ⟨V1, rfl, r, z, hR⟩ := q
    obtain rfl := Sum.inl.inj z
    refine xx_aload_n e_W_law_741 rfl rfl ?_
    refine xx_callV (As := []) (mc := mc) (ms := ms) (mc' := 0) (ms' := 0) e_W_law_742 kv_W_122 (xl_obj rfl) (by intro v hv; cases hv) (by exact Nat.le_of_ble_eq_true rfl) (fun E h' q => ?_) hR (fun v h' q => ?_)
    · obtain ⟨V2, -, b, z, -⟩ := q
      cases z
    · obtain ⟨V2, rfl, b, hb, hk, hx, hS, ho2⟩ := q
      obtain rfl := Sum.inl.inj hb
      refine xx_icmp_eq e_W_law_745 (fun _ => kk V2 _ _ hS) (fun z => absurd (hx r rfl).symm z)
set_option maxRecDepth 100000 in
theorem law_11 {V : xl_V} {i mc ms : Nat} {Q : xa_Q} {l5 l6 : Value} (hsc : lw_sc S i) (hC : xX S (d + 18) 58 0 (xa_ent 3 [.ref 0]) [] V 1 6 (xpo (Jd [(eS, 1), (eU, 2)] (RK S Rl (d + 19) 131 4 [.ref 47]))))
    (kk : ∀ V2 l5 l6, Rl V2 → xX S (d + 20) 155 1134 [.retAddr 1, .ref 0, .ref 47, .ref 68, .int (nI i), l5, l6] [] V2 mc ms Q) : xX S (d + 20) 155 750 [.retAddr 1, .ref 0, .ref 47, .ref 68, .int (nI i), l5, l6] [] V (mc + 1) (ms + 6) Q := by
  refine xx_aload_n e_W_law_750 rfl rfl ?_
  refine xx_aload_n e_W_law_751 rfl rfl ?_
  refine xx_callS (As := [.ref 0, .ref 68]) (mc := mc) (ms := ms) (mc' := 1) (ms' := 6) (P := xpo (xwk [(eS, 1), (eU, 2)] (Jd [(eS, 1), (eU, 2)] (RK S Rl (d + 19) 131 4 [.ref 47])))) e_W_law_752 ks_W_123 (by intro v hv; simp only [List.mem_cons, List.not_mem_nil, or_false] at hv; rcases hv with rfl | rfl <;> rfl) (by exact Nat.le_of_ble_eq_true rfl) (fun E h' q => ?_) (t_W_synthesise Jd_I (fun E V1 z => ?_) hC) (fun v h' q => ?_)
  · obtain ⟨V1, -, z⟩ := q
    rcases z with ⟨z, -⟩ | ⟨_, _, -, z, -⟩ <;> cases z
  · obtain ⟨c, hc⟩ := Jd_E E V1 z
    simp only [List.mem_cons, List.not_mem_nil, or_false, Prod.mk.injEq] at hc
    rcases hc with hc | hc <;> simp [hc.1]
  · obtain ⟨V1, rfl, z⟩ := q
    obtain ⟨c, ro, ho, h4, hR, hout⟩ := xwk_J (by decide) (by decide) z
    obtain rfl := Sum.inl.inj ho
    refine xx_istore e_W_law_755 rfl ?_
    refine xx_aload_n e_W_law_757 rfl rfl ?_
    refine xx_callV (As := []) (mc := mc) (ms := ms) (mc' := 0) (ms' := 0) e_W_law_758 kv_W_125 (xl_obj rfl) (by intro v hv; cases hv) (by exact Nat.le_of_ble_eq_true rfl) (fun E h' q => ?_) hR (fun v h' q => ?_)
    · obtain ⟨V2, -, z⟩ := q
      obtain ⟨b, z, -⟩ := z; cases z
    · obtain ⟨V2, rfl, z⟩ := q
      obtain ⟨b, hb, hk, hx, hS, ho2⟩ := z
      obtain rfl := Sum.inl.inj hb
      refine xx_istore e_W_law_761 rfl ?_
      refine xx_aload_n e_W_law_763 rfl rfl ?_
      refine xc_V0i e_W_law_764 kv_W_83 (xl_obj rfl) t_M_thrown ?_
      refine xx_iload e_W_law_767 rfl ?_
      refine xx_icmp_eq e_W_law_769 (fun _ => ?_) (fun z => absurd hk z)
      refine xx_iload e_W_law_774 rfl ?_
      refine xx_if_ne e_W_law_776 (fun _ => ?_) (fun z => ?_)
      · exact xx_goto e_W_law_791 (kk V2 _ _ hS)
      · have c0 : c = 0 := (nI_eq (xn31 (by omega)) (xn31 (by omega))).mp z
        obtain ⟨x, hx2, hx3⟩ := hout c0
        refine xx_aload_n e_W_law_779 rfl rfl ?_
        refine xx_iconst (v := 0) e_W_law_780 (by decide) ?_
        refine xh_lald e_W_law_781 rfl (show vp_in (nI 0) 1 from vp_in_nI (by decide) (by decide)) ?_
        rw [show V2.2.2.2 (0 : Int32).toNatClampNeg = x.toInt64 by rw [ho2]; exact hx3]
        refine xx_iload e_W_law_782 rfl ?_
        refine xx_i2l e_W_law_784 ?_
        refine xx_lcmp e_W_law_785 ?_
        rw [hx x hx2, lg_cmp_0]
        refine xx_if_eq e_W_law_786 (fun _ => ?_) (fun z => absurd rfl z)
        exact xx_goto e_W_law_791 (kk V2 _ _ hS)
set_option maxRecDepth 100000 in
theorem law_12 {V : xl_V} {i mc ms : Nat} {Q : xa_Q} {l5 l6 : Value} (hsc : lw_sc S i) (hC : xX S (d + 18) 80 0 (xa_ent 2 [.ref 0, .int (S.2 (i + 1))]) [] V 1 6 (xpo (Jd [(eI, 1)] (RK S Rl (d + 19) 142 2 [.ref 47, .int (S.2 (i + 1))]))))
    (kk : ∀ V2 l5 l6, Rl V2 → xX S (d + 20) 155 1134 [.retAddr 1, .ref 0, .ref 47, .ref 68, .int (nI i), l5, l6] [] V2 mc ms Q) : xX S (d + 20) 155 794 [.retAddr 1, .ref 0, .ref 47, .ref 68, .int (nI i), l5, l6] [] V (mc + 1) (ms + 6) Q := by
  refine xx_aload_n e_W_law_794 rfl rfl ?_
  refine xx_aload_nT e_W_law_795 rfl rfl ?_
  refine xx_iload e_W_law_796 rfl ?_
  refine xx_iconst (v := 1) e_W_law_798 (by decide) ?_
  refine xx_iadd e_W_law_799 ?_
  refine xx_tload e_W_law_800 (by decide) (hsc 1 (by decide)).1 ?_
  rw [show (nI i + 1 : Int32).toNatClampNeg = i + 1 from (hsc 1 (by decide)).2]
  refine xx_aload_n e_W_law_801 rfl rfl ?_
  refine xx_callS (As := [.ref 0, .int (S.2 (i + 1)), .ref 68]) (mc := mc) (ms := ms) (mc' := 1) (ms' := 6) (P := xpo (xwk [(eI, 1)] (Jd [(eI, 1)] (RK S Rl (d + 19) 142 2 [.ref 47, .int (S.2 (i + 1))])))) e_W_law_802 ks_W_126 (by intro v hv; simp only [List.mem_cons, List.not_mem_nil, or_false] at hv; rcases hv with rfl | rfl | rfl <;> rfl) (by exact Nat.le_of_ble_eq_true rfl) (fun E h' q => ?_) (t_W_products Jd_I (fun E V1 z => ?_) hC) (fun v h' q => ?_)
  · obtain ⟨V1, -, z⟩ := q
    rcases z with ⟨z, -⟩ | ⟨_, _, -, z, -⟩ <;> cases z
  · obtain ⟨c, hc⟩ := Jd_E E V1 z
    simp only [List.mem_cons, List.not_mem_nil, or_false, Prod.mk.injEq] at hc
    exact hc.1
  · obtain ⟨V1, rfl, z⟩ := q
    obtain ⟨c, ro, ho, h4, hR, hout⟩ := xwk_J (by decide) (by decide) z
    obtain rfl := Sum.inl.inj ho
    refine xx_istore e_W_law_805 rfl ?_
    refine xx_aload_n e_W_law_807 rfl rfl ?_
    refine xx_aload_nT e_W_law_808 rfl rfl ?_
    refine xx_iload e_W_law_809 rfl ?_
    refine xx_iconst (v := 1) e_W_law_811 (by decide) ?_
    refine xx_iadd e_W_law_812 ?_
    refine xx_tload e_W_law_813 (by decide) (hsc 1 (by decide)).1 ?_
    rw [show (nI i + 1 : Int32).toNatClampNeg = i + 1 from (hsc 1 (by decide)).2]
    refine xx_callV (As := [.int (S.2 (i + 1))]) (mc := mc) (ms := ms) (mc' := 0) (ms' := 0) e_W_law_814 kv_W_128 (xl_obj rfl) (by intro v hv; rw [List.mem_singleton.mp hv]; rfl) (by exact Nat.le_of_ble_eq_true rfl) (fun E h' q => ?_) hR (fun v h' q => ?_)
    · obtain ⟨V2, -, z⟩ := q
      obtain ⟨b, z, -⟩ := z; cases z
    · obtain ⟨V2, rfl, z⟩ := q
      obtain ⟨b, hb, hk, hx, hS, ho2⟩ := z
      obtain rfl := Sum.inl.inj hb
      refine xx_istore e_W_law_817 rfl ?_
      refine xx_aload_n e_W_law_819 rfl rfl ?_
      refine xc_V0i e_W_law_820 kv_W_83 (xl_obj rfl) t_M_thrown ?_
      refine xx_iload e_W_law_823 rfl ?_
      refine xx_icmp_eq e_W_law_825 (fun _ => ?_) (fun z => absurd hk z)
      refine xx_iload e_W_law_830 rfl ?_
      refine xx_if_ne e_W_law_832 (fun _ => ?_) (fun z => ?_)
      · exact xx_goto e_W_law_847 (kk V2 _ _ hS)
      · have c0 : c = 0 := (nI_eq (xn31 (by omega)) (xn31 (by omega))).mp z
        obtain ⟨x, hx2, hx3⟩ := hout c0
        refine xx_aload_n e_W_law_835 rfl rfl ?_
        refine xx_iconst (v := 0) e_W_law_836 (by decide) ?_
        refine xh_lald e_W_law_837 rfl (show vp_in (nI 0) 1 from vp_in_nI (by decide) (by decide)) ?_
        rw [show V2.2.2.2 (0 : Int32).toNatClampNeg = x.toInt64 by rw [ho2]; exact hx3]
        refine xx_iload e_W_law_838 rfl ?_
        refine xx_i2l e_W_law_840 ?_
        refine xx_lcmp e_W_law_841 ?_
        rw [hx x hx2, lg_cmp_0]
        refine xx_if_eq e_W_law_842 (fun _ => ?_) (fun z => absurd rfl z)
        exact xx_goto e_W_law_847 (kk V2 _ _ hS)
set_option maxRecDepth 100000 in
theorem law_13 {V : xl_V} {i mc ms : Nat} {Q : xa_Q} {l5 l6 : Value} (hsc : lw_sc S i) (hC : xX S (d + 18) 82 0 (xa_ent 3 [.ref 0, .int (S.2 (i + 1)), .int (S.2 (i + 2))]) [] V 1 6 (xpo (Jd [(eI, 1)] (RK S Rl (d + 19) 143 3 [.ref 47, .int (S.2 (i + 1)), .int (S.2 (i + 2))]))))
    (kk : ∀ V2 l5 l6, Rl V2 → xX S (d + 20) 155 1134 [.retAddr 1, .ref 0, .ref 47, .ref 68, .int (nI i), l5, l6] [] V2 mc ms Q) : xX S (d + 20) 155 850 [.retAddr 1, .ref 0, .ref 47, .ref 68, .int (nI i), l5, l6] [] V (mc + 1) (ms + 6) Q := by
  refine xx_aload_n e_W_law_850 rfl rfl ?_
  refine xx_aload_nT e_W_law_851 rfl rfl ?_
  refine xx_iload e_W_law_852 rfl ?_
  refine xx_iconst (v := 1) e_W_law_854 (by decide) ?_
  refine xx_iadd e_W_law_855 ?_
  refine xx_tload e_W_law_856 (by decide) (hsc 1 (by decide)).1 ?_
  rw [show (nI i + 1 : Int32).toNatClampNeg = i + 1 from (hsc 1 (by decide)).2]
  refine xx_aload_nT e_W_law_857 rfl rfl ?_
  refine xx_iload e_W_law_858 rfl ?_
  refine xx_iconst (v := 2) e_W_law_860 (by decide) ?_
  refine xx_iadd e_W_law_861 ?_
  refine xx_tload e_W_law_862 (by decide) (hsc 2 (by decide)).1 ?_
  rw [show (nI i + 2 : Int32).toNatClampNeg = i + 2 from (hsc 2 (by decide)).2]
  refine xx_aload_n e_W_law_863 rfl rfl ?_
  refine xx_callS (As := [.ref 0, .int (S.2 (i + 1)), .int (S.2 (i + 2)), .ref 68]) (mc := mc) (ms := ms) (mc' := 1) (ms' := 6) (P := xpo (xwk [(eI, 1)] (Jd [(eI, 1)] (RK S Rl (d + 19) 143 3 [.ref 47, .int (S.2 (i + 1)), .int (S.2 (i + 2))])))) e_W_law_864 ks_W_129 (by intro v hv; simp only [List.mem_cons, List.not_mem_nil, or_false] at hv; rcases hv with rfl | rfl | rfl | rfl <;> rfl) (by exact Nat.le_of_ble_eq_true rfl) (fun E h' q => ?_) (t_W_product Jd_I (fun E V1 z => ?_) hC) (fun v h' q => ?_)
  · obtain ⟨V1, -, z⟩ := q
    rcases z with ⟨z, -⟩ | ⟨_, _, -, z, -⟩ <;> cases z
  · obtain ⟨c, hc⟩ := Jd_E E V1 z
    simp only [List.mem_cons, List.not_mem_nil, or_false, Prod.mk.injEq] at hc
    exact hc.1
  · obtain ⟨V1, rfl, z⟩ := q
    obtain ⟨c, ro, ho, h4, hR, hout⟩ := xwk_J (by decide) (by decide) z
    obtain rfl := Sum.inl.inj ho
    refine xx_istore e_W_law_867 rfl ?_
    refine xx_aload_n e_W_law_869 rfl rfl ?_
    refine xx_aload_nT e_W_law_870 rfl rfl ?_
    refine xx_iload e_W_law_871 rfl ?_
    refine xx_iconst (v := 1) e_W_law_873 (by decide) ?_
    refine xx_iadd e_W_law_874 ?_
    refine xx_tload e_W_law_875 (by decide) (hsc 1 (by decide)).1 ?_
    rw [show (nI i + 1 : Int32).toNatClampNeg = i + 1 from (hsc 1 (by decide)).2]
    refine xx_aload_nT e_W_law_876 rfl rfl ?_
    refine xx_iload e_W_law_877 rfl ?_
    refine xx_iconst (v := 2) e_W_law_879 (by decide) ?_
    refine xx_iadd e_W_law_880 ?_
    refine xx_tload e_W_law_881 (by decide) (hsc 2 (by decide)).1 ?_
    rw [show (nI i + 2 : Int32).toNatClampNeg = i + 2 from (hsc 2 (by decide)).2]
    refine xx_callV (As := [.int (S.2 (i + 1)), .int (S.2 (i + 2))]) (mc := mc) (ms := ms) (mc' := 0) (ms' := 0) e_W_law_882 kv_W_132 (xl_obj rfl) (by intro v hv; simp only [List.mem_cons, List.not_mem_nil, or_false] at hv; rcases hv with rfl | rfl <;> rfl) (by exact Nat.le_of_ble_eq_true rfl) (fun E h' q => ?_) hR (fun v h' q => ?_)
    · obtain ⟨V2, -, z⟩ := q
      obtain ⟨b, z, -⟩ := z; cases z
    · obtain ⟨V2, rfl, z⟩ := q
      obtain ⟨b, hb, hk, hx, hS, ho2⟩ := z
      obtain rfl := Sum.inl.inj hb
      refine xx_istore e_W_law_885 rfl ?_
      refine xx_aload_n e_W_law_887 rfl rfl ?_
      refine xc_V0i e_W_law_888 kv_W_83 (xl_obj rfl) t_M_thrown ?_
      refine xx_iload e_W_law_891 rfl ?_
      refine xx_icmp_eq e_W_law_893 (fun _ => ?_) (fun z => absurd hk z)
      refine xx_iload e_W_law_898 rfl ?_
      refine xx_if_ne e_W_law_900 (fun _ => ?_) (fun z => ?_)
      · exact xx_goto e_W_law_915 (kk V2 _ _ hS)
      · have c0 : c = 0 := (nI_eq (xn31 (by omega)) (xn31 (by omega))).mp z
        obtain ⟨x, hx2, hx3⟩ := hout c0
        refine xx_aload_n e_W_law_903 rfl rfl ?_
        refine xx_iconst (v := 0) e_W_law_904 (by decide) ?_
        refine xh_lald e_W_law_905 rfl (show vp_in (nI 0) 1 from vp_in_nI (by decide) (by decide)) ?_
        rw [show V2.2.2.2 (0 : Int32).toNatClampNeg = x.toInt64 by rw [ho2]; exact hx3]
        refine xx_iload e_W_law_906 rfl ?_
        refine xx_i2l e_W_law_908 ?_
        refine xx_lcmp e_W_law_909 ?_
        rw [hx x hx2, lg_cmp_0]
        refine xx_if_eq e_W_law_910 (fun _ => ?_) (fun z => absurd rfl z)
        exact xx_goto e_W_law_915 (kk V2 _ _ hS)
set_option maxRecDepth 100000 in
theorem law_14 {V : xl_V} {i mc ms : Nat} {Q : xa_Q} {l5 l6 : Value} (hsc : lw_sc S i) (hC : xX S (d + 18) 84 0 (xa_ent 3 [.ref 0, .int (S.2 (i + 1)), .int (S.2 (i + 2))]) [] V 1 6 (xpo (Jd [(eI, 1), (eA, 2), (eS, 3)] (RK S Rl (d + 19) 144 3 [.ref 47, .int (S.2 (i + 1)), .int (S.2 (i + 2))]))))
    (kk : ∀ V2 l5 l6, Rl V2 → xX S (d + 20) 155 1134 [.retAddr 1, .ref 0, .ref 47, .ref 68, .int (nI i), l5, l6] [] V2 mc ms Q) : xX S (d + 20) 155 918 [.retAddr 1, .ref 0, .ref 47, .ref 68, .int (nI i), l5, l6] [] V (mc + 1) (ms + 6) Q := by
  refine xx_aload_n e_W_law_918 rfl rfl ?_
  refine xx_aload_nT e_W_law_919 rfl rfl ?_
  refine xx_iload e_W_law_920 rfl ?_
  refine xx_iconst (v := 1) e_W_law_922 (by decide) ?_
  refine xx_iadd e_W_law_923 ?_
  refine xx_tload e_W_law_924 (by decide) (hsc 1 (by decide)).1 ?_
  rw [show (nI i + 1 : Int32).toNatClampNeg = i + 1 from (hsc 1 (by decide)).2]
  refine xx_aload_nT e_W_law_925 rfl rfl ?_
  refine xx_iload e_W_law_926 rfl ?_
  refine xx_iconst (v := 2) e_W_law_928 (by decide) ?_
  refine xx_iadd e_W_law_929 ?_
  refine xx_tload e_W_law_930 (by decide) (hsc 2 (by decide)).1 ?_
  rw [show (nI i + 2 : Int32).toNatClampNeg = i + 2 from (hsc 2 (by decide)).2]
  refine xx_aload_n e_W_law_931 rfl rfl ?_
  refine xx_callS (As := [.ref 0, .int (S.2 (i + 1)), .int (S.2 (i + 2)), .ref 68]) (mc := mc) (ms := ms) (mc' := 1) (ms' := 6) (P := xpo (xwk [(eI, 1), (eA, 2), (eS, 3)] (Jd [(eI, 1), (eA, 2), (eS, 3)] (RK S Rl (d + 19) 144 3 [.ref 47, .int (S.2 (i + 1)), .int (S.2 (i + 2))])))) e_W_law_932 ks_W_133 (by intro v hv; simp only [List.mem_cons, List.not_mem_nil, or_false] at hv; rcases hv with rfl | rfl | rfl | rfl <;> rfl) (by exact Nat.le_of_ble_eq_true rfl) (fun E h' q => ?_) (t_W_append Jd_I (fun E V1 z => ?_) hC) (fun v h' q => ?_)
  · obtain ⟨V1, -, z⟩ := q
    rcases z with ⟨z, -⟩ | ⟨_, _, -, z, -⟩ <;> cases z
  · obtain ⟨c, hc⟩ := Jd_E E V1 z
    simp only [List.mem_cons, List.not_mem_nil, or_false, Prod.mk.injEq] at hc
    rcases hc with hc | hc | hc <;> simp [hc.1]
  · obtain ⟨V1, rfl, z⟩ := q
    obtain ⟨c, ro, ho, h4, hR, hout⟩ := xwk_J (by decide) (by decide) z
    obtain rfl := Sum.inl.inj ho
    refine xx_istore e_W_law_935 rfl ?_
    refine xx_aload_n e_W_law_937 rfl rfl ?_
    refine xx_aload_nT e_W_law_938 rfl rfl ?_
    refine xx_iload e_W_law_939 rfl ?_
    refine xx_iconst (v := 1) e_W_law_941 (by decide) ?_
    refine xx_iadd e_W_law_942 ?_
    refine xx_tload e_W_law_943 (by decide) (hsc 1 (by decide)).1 ?_
    rw [show (nI i + 1 : Int32).toNatClampNeg = i + 1 from (hsc 1 (by decide)).2]
    refine xx_aload_nT e_W_law_944 rfl rfl ?_
    refine xx_iload e_W_law_945 rfl ?_
    refine xx_iconst (v := 2) e_W_law_947 (by decide) ?_
    refine xx_iadd e_W_law_948 ?_
    refine xx_tload e_W_law_949 (by decide) (hsc 2 (by decide)).1 ?_
    rw [show (nI i + 2 : Int32).toNatClampNeg = i + 2 from (hsc 2 (by decide)).2]
    refine xx_callV (As := [.int (S.2 (i + 1)), .int (S.2 (i + 2))]) (mc := mc) (ms := ms) (mc' := 0) (ms' := 0) e_W_law_950 kv_W_135 (xl_obj rfl) (by intro v hv; simp only [List.mem_cons, List.not_mem_nil, or_false] at hv; rcases hv with rfl | rfl <;> rfl) (by exact Nat.le_of_ble_eq_true rfl) (fun E h' q => ?_) hR (fun v h' q => ?_)
    · obtain ⟨V2, -, z⟩ := q
      obtain ⟨b, z, -⟩ := z; cases z
    · obtain ⟨V2, rfl, z⟩ := q
      obtain ⟨b, hb, hk, hx, hS, ho2⟩ := z
      obtain rfl := Sum.inl.inj hb
      refine xx_istore e_W_law_953 rfl ?_
      refine xx_aload_n e_W_law_955 rfl rfl ?_
      refine xc_V0i e_W_law_956 kv_W_83 (xl_obj rfl) t_M_thrown ?_
      refine xx_iload e_W_law_959 rfl ?_
      refine xx_icmp_eq e_W_law_961 (fun _ => ?_) (fun z => absurd hk z)
      refine xx_iload e_W_law_966 rfl ?_
      refine xx_if_ne e_W_law_968 (fun _ => ?_) (fun z => ?_)
      · exact xx_goto e_W_law_983 (kk V2 _ _ hS)
      · have c0 : c = 0 := (nI_eq (xn31 (by omega)) (xn31 (by omega))).mp z
        obtain ⟨x, hx2, hx3⟩ := hout c0
        refine xx_aload_n e_W_law_971 rfl rfl ?_
        refine xx_iconst (v := 0) e_W_law_972 (by decide) ?_
        refine xh_lald e_W_law_973 rfl (show vp_in (nI 0) 1 from vp_in_nI (by decide) (by decide)) ?_
        rw [show V2.2.2.2 (0 : Int32).toNatClampNeg = x.toInt64 by rw [ho2]; exact hx3]
        refine xx_iload e_W_law_974 rfl ?_
        refine xx_i2l e_W_law_976 ?_
        refine xx_lcmp e_W_law_977 ?_
        rw [hx x hx2, lg_cmp_0]
        refine xx_if_eq e_W_law_978 (fun _ => ?_) (fun z => absurd rfl z)
        exact xx_goto e_W_law_983 (kk V2 _ _ hS)
set_option maxRecDepth 100000 in
theorem law_15 {V : xl_V} {i mc ms : Nat} {Q : xa_Q} {l5 l6 : Value} (hsc : lw_sc S i) (hC : xX S (d + 18) 87 0 (xa_ent 2 [.ref 0, .int (S.2 (i + 1))]) [] V 1 6 (xpo (Jv [(eI, 1)] (RKv S Rl (d + 19) 145 2 [.ref 47, .int (S.2 (i + 1))]))))
    (kk : ∀ V2 l5 l6, Rl V2 → xX S (d + 20) 155 1134 [.retAddr 1, .ref 0, .ref 47, .ref 68, .int (nI i), l5, l6] [] V2 mc ms Q) : xX S (d + 20) 155 986 [.retAddr 1, .ref 0, .ref 47, .ref 68, .int (nI i), l5, l6] [] V (mc + 1) (ms + 6) Q := by
  refine xx_aload_n e_W_law_986 rfl rfl ?_
  refine xx_aload_nT e_W_law_987 rfl rfl ?_
  refine xx_iload e_W_law_988 rfl ?_
  refine xx_iconst (v := 1) e_W_law_990 (by decide) ?_
  refine xx_iadd e_W_law_991 ?_
  refine xx_tload e_W_law_992 (by decide) (hsc 1 (by decide)).1 ?_
  rw [show (nI i + 1 : Int32).toNatClampNeg = i + 1 from (hsc 1 (by decide)).2]
  refine xx_callS (As := [.ref 0, .int (S.2 (i + 1))]) (mc := mc) (ms := ms) (mc' := 1) (ms' := 6) (P := xpo (xwv [(eI, 1)] (Jv [(eI, 1)] (RKv S Rl (d + 19) 145 2 [.ref 47, .int (S.2 (i + 1))])))) e_W_law_993 ks_W_136 (by intro v hv; simp only [List.mem_cons, List.not_mem_nil, or_false] at hv; rcases hv with rfl | rfl <;> rfl) (by exact Nat.le_of_ble_eq_true rfl) (fun E h' q => ?_) (t_W_strip Jv_I (fun E V1 z => ?_) hC) (fun v h' q => ?_)
  · obtain ⟨V1, -, z⟩ := q
    rcases z with ⟨z, -⟩ | ⟨_, _, -, z, -⟩ <;> cases z
  · obtain ⟨c, hc⟩ := Jv_E E V1 z
    simp only [List.mem_cons, List.not_mem_nil, or_false, Prod.mk.injEq] at hc
    exact hc.1
  · obtain ⟨V1, rfl, z⟩ := q
    obtain ⟨c, ho, h4, hR⟩ := xwv_J (by decide) (by decide) z
    obtain rfl := Sum.inl.inj ho
    refine xx_istore e_W_law_996 rfl ?_
    refine xx_aload_n e_W_law_998 rfl rfl ?_
    refine xx_aload_nT e_W_law_999 rfl rfl ?_
    refine xx_iload e_W_law_1000 rfl ?_
    refine xx_iconst (v := 1) e_W_law_1002 (by decide) ?_
    refine xx_iadd e_W_law_1003 ?_
    refine xx_tload e_W_law_1004 (by decide) (hsc 1 (by decide)).1 ?_
    rw [show (nI i + 1 : Int32).toNatClampNeg = i + 1 from (hsc 1 (by decide)).2]
    refine xx_callV (As := [.int (S.2 (i + 1))]) (mc := mc) (ms := ms) (mc' := 0) (ms' := 0) e_W_law_1005 kv_W_139 (xl_obj rfl) (by intro v hv; rw [List.mem_singleton.mp hv]; rfl) (by exact Nat.le_of_ble_eq_true rfl) (fun E h' q => ?_) hR (fun v h' q => ?_)
    · obtain ⟨V2, -, z⟩ := q
      cases z.1
    · obtain ⟨V2, rfl, z⟩ := q
      obtain ⟨hb, hk, hS, ho2⟩ := z
      obtain rfl := Sum.inl.inj hb
      refine xx_aload_n e_W_law_1008 rfl rfl ?_
      refine xc_V0i e_W_law_1009 kv_W_83 (xl_obj rfl) t_M_thrown ?_
      refine xx_iload e_W_law_1012 rfl ?_
      refine xx_icmp_eq e_W_law_1014 (fun _ => ?_) (fun z => absurd hk z)
      exact xx_goto e_W_law_1019 (kk V2 _ _ hS)
set_option maxRecDepth 100000 in
theorem law_16 {V : xl_V} {i mc ms : Nat} {Q : xa_Q} {l5 l6 : Value} (hsc : lw_sc S i) (hC : xX S (d + 18) 89 0 (xa_ent 3 [.ref 0, .int (S.2 (i + 1)), .int (S.2 (i + 2))]) [] V 1 6 (xpo (Jd [(eI, 1)] (RK S Rl (d + 19) 146 3 [.ref 47, .int (S.2 (i + 1)), .int (S.2 (i + 2))]))))
    (kk : ∀ V2 l5 l6, Rl V2 → xX S (d + 20) 155 1134 [.retAddr 1, .ref 0, .ref 47, .ref 68, .int (nI i), l5, l6] [] V2 mc ms Q) : xX S (d + 20) 155 1022 [.retAddr 1, .ref 0, .ref 47, .ref 68, .int (nI i), l5, l6] [] V (mc + 1) (ms + 6) Q := by
  refine xx_aload_n e_W_law_1022 rfl rfl ?_
  refine xx_aload_nT e_W_law_1023 rfl rfl ?_
  refine xx_iload e_W_law_1024 rfl ?_
  refine xx_iconst (v := 1) e_W_law_1026 (by decide) ?_
  refine xx_iadd e_W_law_1027 ?_
  refine xx_tload e_W_law_1028 (by decide) (hsc 1 (by decide)).1 ?_
  rw [show (nI i + 1 : Int32).toNatClampNeg = i + 1 from (hsc 1 (by decide)).2]
  refine xx_aload_nT e_W_law_1029 rfl rfl ?_
  refine xx_iload e_W_law_1030 rfl ?_
  refine xx_iconst (v := 2) e_W_law_1032 (by decide) ?_
  refine xx_iadd e_W_law_1033 ?_
  refine xx_tload e_W_law_1034 (by decide) (hsc 2 (by decide)).1 ?_
  rw [show (nI i + 2 : Int32).toNatClampNeg = i + 2 from (hsc 2 (by decide)).2]
  refine xx_aload_n e_W_law_1035 rfl rfl ?_
  refine xx_callS (As := [.ref 0, .int (S.2 (i + 1)), .int (S.2 (i + 2)), .ref 68]) (mc := mc) (ms := ms) (mc' := 1) (ms' := 6) (P := xpo (xwk [(eI, 1)] (Jd [(eI, 1)] (RK S Rl (d + 19) 146 3 [.ref 47, .int (S.2 (i + 1)), .int (S.2 (i + 2))])))) e_W_law_1036 ks_W_140 (by intro v hv; simp only [List.mem_cons, List.not_mem_nil, or_false] at hv; rcases hv with rfl | rfl | rfl | rfl <;> rfl) (by exact Nat.le_of_ble_eq_true rfl) (fun E h' q => ?_) (t_W_value Jd_I (fun E V1 z => ?_) hC) (fun v h' q => ?_)
  · obtain ⟨V1, -, z⟩ := q
    rcases z with ⟨z, -⟩ | ⟨_, _, -, z, -⟩ <;> cases z
  · obtain ⟨c, hc⟩ := Jd_E E V1 z
    simp only [List.mem_cons, List.not_mem_nil, or_false, Prod.mk.injEq] at hc
    exact hc.1
  · obtain ⟨V1, rfl, z⟩ := q
    obtain ⟨c, ro, ho, h4, hR, hout⟩ := xwk_J (by decide) (by decide) z
    obtain rfl := Sum.inl.inj ho
    refine xx_istore e_W_law_1039 rfl ?_
    refine xx_aload_n e_W_law_1041 rfl rfl ?_
    refine xx_aload_nT e_W_law_1042 rfl rfl ?_
    refine xx_iload e_W_law_1043 rfl ?_
    refine xx_iconst (v := 1) e_W_law_1045 (by decide) ?_
    refine xx_iadd e_W_law_1046 ?_
    refine xx_tload e_W_law_1047 (by decide) (hsc 1 (by decide)).1 ?_
    rw [show (nI i + 1 : Int32).toNatClampNeg = i + 1 from (hsc 1 (by decide)).2]
    refine xx_aload_nT e_W_law_1048 rfl rfl ?_
    refine xx_iload e_W_law_1049 rfl ?_
    refine xx_iconst (v := 2) e_W_law_1051 (by decide) ?_
    refine xx_iadd e_W_law_1052 ?_
    refine xx_tload e_W_law_1053 (by decide) (hsc 2 (by decide)).1 ?_
    rw [show (nI i + 2 : Int32).toNatClampNeg = i + 2 from (hsc 2 (by decide)).2]
    refine xx_callV (As := [.int (S.2 (i + 1)), .int (S.2 (i + 2))]) (mc := mc) (ms := ms) (mc' := 0) (ms' := 0) e_W_law_1054 kv_W_142 (xl_obj rfl) (by intro v hv; simp only [List.mem_cons, List.not_mem_nil, or_false] at hv; rcases hv with rfl | rfl <;> rfl) (by exact Nat.le_of_ble_eq_true rfl) (fun E h' q => ?_) hR (fun v h' q => ?_)
    · obtain ⟨V2, -, z⟩ := q
      obtain ⟨b, z, -⟩ := z; cases z
    · obtain ⟨V2, rfl, z⟩ := q
      obtain ⟨b, hb, hk, hx, hS, ho2⟩ := z
      obtain rfl := Sum.inl.inj hb
      refine xx_istore e_W_law_1057 rfl ?_
      refine xx_aload_n e_W_law_1059 rfl rfl ?_
      refine xc_V0i e_W_law_1060 kv_W_83 (xl_obj rfl) t_M_thrown ?_
      refine xx_iload e_W_law_1063 rfl ?_
      refine xx_icmp_eq e_W_law_1065 (fun _ => ?_) (fun z => absurd hk z)
      refine xx_iload e_W_law_1070 rfl ?_
      refine xx_if_ne e_W_law_1072 (fun _ => ?_) (fun z => ?_)
      · exact xx_goto e_W_law_1087 (kk V2 _ _ hS)
      · have c0 : c = 0 := (nI_eq (xn31 (by omega)) (xn31 (by omega))).mp z
        obtain ⟨x, hx2, hx3⟩ := hout c0
        refine xx_aload_n e_W_law_1075 rfl rfl ?_
        refine xx_iconst (v := 0) e_W_law_1076 (by decide) ?_
        refine xh_lald e_W_law_1077 rfl (show vp_in (nI 0) 1 from vp_in_nI (by decide) (by decide)) ?_
        rw [show V2.2.2.2 (0 : Int32).toNatClampNeg = x.toInt64 by rw [ho2]; exact hx3]
        refine xx_iload e_W_law_1078 rfl ?_
        refine xx_i2l e_W_law_1080 ?_
        refine xx_lcmp e_W_law_1081 ?_
        rw [hx x hx2, lg_cmp_0]
        refine xx_if_eq e_W_law_1082 (fun _ => ?_) (fun z => absurd rfl z)
        exact xx_goto e_W_law_1087 (kk V2 _ _ hS)
set_option maxRecDepth 100000 in
theorem law_17 {V : xl_V} {i mc ms : Nat} {Q : xa_Q} {l5 l6 : Value} (hsc : lw_sc S i) (hC : xX S (d + 18) 92 0 (xa_ent 2 [.ref 0]) [] V 1 6 (xpo (Jd [(eS, 1)] (RK S Rl (d + 19) 148 3 [.ref 47]))))
    (kk : ∀ V2 l5 l6, Rl V2 → xX S (d + 20) 155 1134 [.retAddr 1, .ref 0, .ref 47, .ref 68, .int (nI i), l5, l6] [] V2 mc ms Q) : xX S (d + 20) 155 1090 [.retAddr 1, .ref 0, .ref 47, .ref 68, .int (nI i), l5, l6] [] V (mc + 1) (ms + 6) Q := by
  refine xx_aload_n e_W_law_1090 rfl rfl ?_
  refine xx_aload_n e_W_law_1091 rfl rfl ?_
  refine xx_callS (As := [.ref 0, .ref 68]) (mc := mc) (ms := ms) (mc' := 1) (ms' := 6) (P := xpo (xwk [(eS, 1)] (Jd [(eS, 1)] (RK S Rl (d + 19) 148 3 [.ref 47])))) e_W_law_1092 ks_W_143 (by intro v hv; simp only [List.mem_cons, List.not_mem_nil, or_false] at hv; rcases hv with rfl | rfl <;> rfl) (by exact Nat.le_of_ble_eq_true rfl) (fun E h' q => ?_) (t_W_check Jd_I (fun E V1 z => ?_) hC) (fun v h' q => ?_)
  · obtain ⟨V1, -, z⟩ := q
    rcases z with ⟨z, -⟩ | ⟨_, _, -, z, -⟩ <;> cases z
  · obtain ⟨c, hc⟩ := Jd_E E V1 z
    simp only [List.mem_cons, List.not_mem_nil, or_false, Prod.mk.injEq] at hc
    exact hc.1
  · obtain ⟨V1, rfl, z⟩ := q
    obtain ⟨c, ro, ho, h4, hR, hout⟩ := xwk_J (by decide) (by decide) z
    obtain rfl := Sum.inl.inj ho
    refine xx_istore e_W_law_1095 rfl ?_
    refine xx_aload_n e_W_law_1097 rfl rfl ?_
    refine xx_callV (As := []) (mc := mc) (ms := ms) (mc' := 0) (ms' := 0) e_W_law_1098 kv_W_145 (xl_obj rfl) (by intro v hv; cases hv) (by exact Nat.le_of_ble_eq_true rfl) (fun E h' q => ?_) hR (fun v h' q => ?_)
    · obtain ⟨V2, -, z⟩ := q
      obtain ⟨b, z, -⟩ := z; cases z
    · obtain ⟨V2, rfl, z⟩ := q
      obtain ⟨b, hb, hk, hx, hS, ho2⟩ := z
      obtain rfl := Sum.inl.inj hb
      refine xx_istore e_W_law_1101 rfl ?_
      refine xx_aload_n e_W_law_1103 rfl rfl ?_
      refine xc_V0i e_W_law_1104 kv_W_83 (xl_obj rfl) t_M_thrown ?_
      refine xx_iload e_W_law_1107 rfl ?_
      refine xx_icmp_eq e_W_law_1109 (fun _ => ?_) (fun z => absurd hk z)
      refine xx_iload e_W_law_1114 rfl ?_
      refine xx_if_ne e_W_law_1116 (fun _ => ?_) (fun z => ?_)
      · exact xx_goto e_W_law_1131 (kk V2 _ _ hS)
      · have c0 : c = 0 := (nI_eq (xn31 (by omega)) (xn31 (by omega))).mp z
        obtain ⟨x, hx2, hx3⟩ := hout c0
        refine xx_aload_n e_W_law_1119 rfl rfl ?_
        refine xx_iconst (v := 0) e_W_law_1120 (by decide) ?_
        refine xh_lald e_W_law_1121 rfl (show vp_in (nI 0) 1 from vp_in_nI (by decide) (by decide)) ?_
        rw [show V2.2.2.2 (0 : Int32).toNatClampNeg = x.toInt64 by rw [ho2]; exact hx3]
        refine xx_iload e_W_law_1122 rfl ?_
        refine xx_i2l e_W_law_1124 ?_
        refine xx_lcmp e_W_law_1125 ?_
        rw [hx x hx2, lg_cmp_0]
        refine xx_if_eq e_W_law_1126 (fun _ => ?_) (fun z => absurd rfl z)
        exact xx_goto e_W_law_1131 (kk V2 _ _ hS)
theorem lw_31 (x : Int32) : ∃ u, u < 32 ∧ x &&& 31 = nI u := by
  refine ⟨(x &&& 31).toBitVec.toNat, ?_, ?_⟩
  · have : (x &&& 31).toBitVec.toNat = x.toBitVec.toNat &&& 31 := by rw [Int32.toBitVec_and, BitVec.toNat_and]; rfl
    rw [this]
    exact Nat.lt_succ_of_le Nat.and_le_right
  · apply Int32.toBitVec_inj.mp
    show _ = BitVec.ofInt 32 (((x &&& 31).toBitVec.toNat : Nat) : Int)
    apply BitVec.eq_of_toNat_eq
    rw [BitVec.toNat_ofInt]
    have := (x &&& 31).toBitVec.isLt
    omega
theorem lw_toInt {u : Nat} (h : u < 2147483648) : (nI u).toInt = (u : Int) := nI_toInt h
theorem lw_gt {a b : Nat} (ha : a ≤ 4096) (hb : b ≤ 4096) : (nI a > nI b - 4) ↔ b < a + 4 := by
  have h1 : (nI b - 4).toInt = (b : Int) - 4 := by
    rw [Int32.toInt_sub, nI_toInt (by omega)]
    show ((b : Int) - 4).bmod _ = _
    rw [Int.bmod_eq_of_le (by omega) (by omega)]
  rw [gt_iff_lt, Int32.lt_iff_toInt_lt, h1, nI_toInt (by omega)]
  omega

/-- what every pair of calls has to keep -/
def lw_op (S : Nat × (Nat → Int32)) (Rl : xl_V → Prop) (d i : Nat) (V : xl_V) : Prop := (xX S (d + 18) 32 0 (xa_ent 3 [.ref 0, .int (bz (S.2 (i + 1))), .int (bz (S.2 (i + 2)))]) [] V 1 6 (xpo (Jd [(eS, 1)] (RK S Rl (d + 19) 103 3 [.ref 47, .int (bz (S.2 (i + 1))), .int (bz (S.2 (i + 2)))])))) ∧ (xX S (d + 18) 35 0 (xa_ent 3 [.ref 0, .int (S.2 (i + 1)), .int (bz (S.2 (i + 2)))]) [] V 1 6 (xpo (Jd [(eI, 1), (eS, 2)] (RK S Rl (d + 19) 105 3 [.ref 47, .int (S.2 (i + 1)), .int (bz (S.2 (i + 2)))])))) ∧ (xX S (d + 18) 39 0 (xa_ent 2 [.ref 0, .int (bz (S.2 (i + 1)))]) [] V 1 6 (xpo (Jd [(eS, 1)] (RK S Rl (d + 19) 107 2 [.ref 47, .int (bz (S.2 (i + 1)))])))) ∧ (xX S (d + 18) 42 0 (xa_ent 4 [.ref 0, .int (S.2 (i + 1)), .int (S.2 (i + 2)), .int (bz (S.2 (i + 3)))]) [] V 1 6 (xpo (Jv [(eI, 1), (eA, 2)] (RKv S Rl (d + 19) 108 6 [.ref 47, .int (S.2 (i + 1)), .int (S.2 (i + 2)), .int (bz (S.2 (i + 3)))])))) ∧ (xX S (d + 19) 7 0 (xa_ent 1 [.ref 0]) [] V 0 0 (xpo (fun o V1 => ∃ r, o = .inl (some (.int r)) ∧ RK S Rl (d + 19) 109 3 [.ref 47] V1 0 (some r)))) ∧ (xX S (d + 18) 46 0 (xa_ent 1 [.ref 0]) [] V 1 6 (xpo (Jd [(eS, 1)] (RK S Rl (d + 19) 123 1 [.ref 47])))) ∧ (xX S (d + 18) 49 0 (xa_ent 2 [.ref 0, .int (S.2 (i + 1))]) [] V 1 6 (xpo (Jd [(eS, 1), (eI, 2)] (RK S Rl (d + 19) 125 2 [.ref 47, .int (S.2 (i + 1))])))) ∧ (xX S (d + 18) 52 0 (xa_ent 2 [.ref 0, .int (S.2 (i + 1))]) [] V 1 6 (xpo (Jd [(eS, 1), (eI, 2)] (RK S Rl (d + 19) 127 2 [.ref 47, .int (S.2 (i + 1))])))) ∧ (xX S (d + 18) 54 0 (xa_ent 2 [.ref 0, .int (S.2 (i + 1))]) [] V 1 6 (xpo (Jd [(eS, 1), (eI, 2)] (RK S Rl (d + 19) 128 2 [.ref 47, .int (S.2 (i + 1))])))) ∧ (xX S (d + 18) 56 0 (xa_ent 2 [.ref 0, .int (S.2 (i + 1))]) [] V 1 6 (xpo (Jd [(eS, 1), (eI, 2)] (RK S Rl (d + 19) 129 2 [.ref 47, .int (S.2 (i + 1))])))) ∧ (xX S (d + 19) 30 0 (xa_ent 1 [.ref 0]) [] V 0 0 (xpo (fun o V1 => ∃ r, o = .inl (some (.int r)) ∧ RK S Rl (d + 19) 130 1 [.ref 47] V1 0 (some r)))) ∧ (xX S (d + 18) 58 0 (xa_ent 3 [.ref 0]) [] V 1 6 (xpo (Jd [(eS, 1), (eU, 2)] (RK S Rl (d + 19) 131 4 [.ref 47])))) ∧ (xX S (d + 18) 80 0 (xa_ent 2 [.ref 0, .int (S.2 (i + 1))]) [] V 1 6 (xpo (Jd [(eI, 1)] (RK S Rl (d + 19) 142 2 [.ref 47, .int (S.2 (i + 1))])))) ∧ (xX S (d + 18) 82 0 (xa_ent 3 [.ref 0, .int (S.2 (i + 1)), .int (S.2 (i + 2))]) [] V 1 6 (xpo (Jd [(eI, 1)] (RK S Rl (d + 19) 143 3 [.ref 47, .int (S.2 (i + 1)), .int (S.2 (i + 2))])))) ∧ (xX S (d + 18) 84 0 (xa_ent 3 [.ref 0, .int (S.2 (i + 1)), .int (S.2 (i + 2))]) [] V 1 6 (xpo (Jd [(eI, 1), (eA, 2), (eS, 3)] (RK S Rl (d + 19) 144 3 [.ref 47, .int (S.2 (i + 1)), .int (S.2 (i + 2))])))) ∧ (xX S (d + 18) 87 0 (xa_ent 2 [.ref 0, .int (S.2 (i + 1))]) [] V 1 6 (xpo (Jv [(eI, 1)] (RKv S Rl (d + 19) 145 2 [.ref 47, .int (S.2 (i + 1))])))) ∧ (xX S (d + 18) 89 0 (xa_ent 3 [.ref 0, .int (S.2 (i + 1)), .int (S.2 (i + 2))]) [] V 1 6 (xpo (Jd [(eI, 1)] (RK S Rl (d + 19) 146 3 [.ref 47, .int (S.2 (i + 1)), .int (S.2 (i + 2))])))) ∧ (xX S (d + 18) 92 0 (xa_ent 2 [.ref 0]) [] V 1 6 (xpo (Jd [(eS, 1)] (RK S Rl (d + 19) 148 3 [.ref 47]))))
set_option maxRecDepth 100000 in
set_option maxHeartbeats 4000000 in
theorem law_loop (hN : S.1 ≤ 2048) (hop : ∀ V i, Rl V → i + 4 ≤ S.1 → lw_op S Rl d i V) : ∀ m j, 513 - j = m → j ≤ 512 → 4 * j ≤ S.1 + 3 → ∀ V l5 l6, Rl V → xX S (d + 20) 155 23 [.retAddr 1, .ref 0, .ref 47, .ref 68, .int (nI (4 * j)), l5, l6] [] V (512 - j) (6 * (512 - j)) (fun o _ => o = .inl (some (.int 1))) := by
  intro m
  induction m using Nat.strongRecOn with
  | ind m ih =>
    intro j hm hj hjS V l5 l6 hR
    refine xx_iload e_W_law_23 rfl ?_
    refine xx_aload_nT e_W_law_25 rfl rfl ?_
    refine xx_tlen (v := nI S.1) e_W_law_26 (by decide) rfl ?_
    refine xx_iconst (v := 4) e_W_law_27 (by decide) ?_
    refine xx_isub e_W_law_28 ?_
    have hcmp : (nI (4 * j) > nI S.1 - 4) ↔ S.1 < 4 * j + 4 := lw_gt (by omega) (by omega)
    refine xx_icmp_gt e_W_law_29 (fun _ => ?_) (fun q => ?_)
    · refine xx_iconst (v := 1) e_W_law_1140 (by decide) ?_
      refine xx_iret e_W_law_1141 rfl rfl ?_
      rfl
    · have hlt : 4 * j + 4 ≤ S.1 := Nat.le_of_not_lt (fun z => q (hcmp.mpr z))
      have hj2 : j < 512 := by omega
      have hsc : lw_sc S (4 * j) := fun c hc => by
        rw [nI_add]
        exact ⟨vp_in_nI (by omega) (by omega), nI_clamp (by omega)⟩
      have kk : ∀ V2 l5 l6, Rl V2 → xX S (d + 20) 155 1134 [.retAddr 1, .ref 0, .ref 47, .ref 68, .int (nI (4 * j)), l5, l6] [] V2 (512 - (j + 1)) (6 * (512 - (j + 1))) (fun o _ => o = .inl (some (.int 1))) := fun V2 l5 l6 hR2 => by
        refine xh_inc4 e_W_law_1134 rfl ?_
        refine xx_goto e_W_law_1137 ?_
        have e4 : nI (4 * j) + 4 = nI (4 * (j + 1)) := by rw [show (4 : Int32) = nI 4 from rfl, nI_add]; rfl
        rw [e4]
        exact ih (513 - (j + 1)) (by omega) (j + 1) rfl (by omega) (by omega) V2 l5 l6 hR2
      have ho := hop V (4 * j) hR hlt
      obtain ⟨o0, o1, o2, o3, o4, o5, o6, o7, o8, o9, o10, o11, o12, o13, o14, o15, o16, o17⟩ := ho
      have eb : 512 - j = 512 - (j + 1) + 1 := by omega
      have ec : 6 * (512 - j) = 6 * (512 - (j + 1)) + 6 := by omega
      have wd : ∀ {pc : Nat} {ls : List Value}, xX S (d + 20) 155 pc ls [] V (512 - (j + 1)) (6 * (512 - (j + 1))) (fun o _ => o = .inl (some (.int 1))) → xX S (d + 20) 155 pc ls [] V (512 - j) (6 * (512 - j)) (fun o _ => o = .inl (some (.int 1))) := fun k => xx_wide (by omega) (by omega) k
      refine xx_aload_nT e_W_law_32 rfl rfl ?_
      refine xx_iload e_W_law_33 rfl ?_
      refine xx_tload e_W_law_35 (by decide) (by have := (hsc 0 (by decide)).1; rwa [show nI (4 * j) + nI 0 = nI (4 * j) by rw [nI_add]; rfl] at this) ?_
      generalize (xtx S 1).2 (nI (4 * j)).toNatClampNeg = x
      refine xx_bipush (v := 31) e_W_law_36 (by decide) ?_
      refine xx_iand e_W_law_38 ?_
      obtain ⟨u, hu, hux⟩ := lw_31 x
      rw [hux]
      by_cases h18 : u < 18
      · have hi0 : (nI u).toInt = (u : Int) := lw_toInt (by omega)
        have hcs : u = 0 ∨ u = 1 ∨ u = 2 ∨ u = 3 ∨ u = 4 ∨ u = 5 ∨ u = 6 ∨ u = 7 ∨ u = 8 ∨ u = 9 ∨ u = 10 ∨ u = 11 ∨ u = 12 ∨ u = 13 ∨ u = 14 ∨ u = 15 ∨ u = 16 ∨ u = 17 := by omega
        rcases hcs with rfl | rfl | rfl | rfl | rfl | rfl | rfl | rfl | rfl | rfl | rfl | rfl | rfl | rfl | rfl | rfl | rfl | rfl
        · refine xx_tableIn (off := 85) (tgt := 124) e_W_law_39 (by decide) (by decide) rfl rfl ?_
          rw [ec, eb]
          exact law_0 hsc o0 kk
        · refine xx_tableIn (off := 185) (tgt := 224) e_W_law_39 (by decide) (by decide) rfl rfl ?_
          rw [ec, eb]
          exact law_1 hsc o1 kk
        · refine xx_tableIn (off := 269) (tgt := 308) e_W_law_39 (by decide) (by decide) rfl rfl ?_
          rw [ec, eb]
          exact law_2 hsc o2 kk
        · refine xx_tableIn (off := 341) (tgt := 380) e_W_law_39 (by decide) (by decide) rfl rfl ?_
          rw [ec, eb]
          exact law_3 hsc o3 kk
        · refine xx_tableIn (off := 417) (tgt := 456) e_W_law_39 (by decide) (by decide) rfl rfl ?_
          exact wd (law_4 o4 kk)
        · refine xx_tableIn (off := 430) (tgt := 469) e_W_law_39 (by decide) (by decide) rfl rfl ?_
          rw [ec, eb]
          exact law_5 hsc o5 kk
        · refine xx_tableIn (off := 474) (tgt := 513) e_W_law_39 (by decide) (by decide) rfl rfl ?_
          rw [ec, eb]
          exact law_6 hsc o6 kk
        · refine xx_tableIn (off := 530) (tgt := 569) e_W_law_39 (by decide) (by decide) rfl rfl ?_
          rw [ec, eb]
          exact law_7 hsc o7 kk
        · refine xx_tableIn (off := 586) (tgt := 625) e_W_law_39 (by decide) (by decide) rfl rfl ?_
          rw [ec, eb]
          exact law_8 hsc o8 kk
        · refine xx_tableIn (off := 642) (tgt := 681) e_W_law_39 (by decide) (by decide) rfl rfl ?_
          rw [ec, eb]
          exact law_9 hsc o9 kk
        · refine xx_tableIn (off := 698) (tgt := 737) e_W_law_39 (by decide) (by decide) rfl rfl ?_
          exact wd (law_10 o10 kk)
        · refine xx_tableIn (off := 711) (tgt := 750) e_W_law_39 (by decide) (by decide) rfl rfl ?_
          rw [ec, eb]
          exact law_11 hsc o11 kk
        · refine xx_tableIn (off := 755) (tgt := 794) e_W_law_39 (by decide) (by decide) rfl rfl ?_
          rw [ec, eb]
          exact law_12 hsc o12 kk
        · refine xx_tableIn (off := 811) (tgt := 850) e_W_law_39 (by decide) (by decide) rfl rfl ?_
          rw [ec, eb]
          exact law_13 hsc o13 kk
        · refine xx_tableIn (off := 879) (tgt := 918) e_W_law_39 (by decide) (by decide) rfl rfl ?_
          rw [ec, eb]
          exact law_14 hsc o14 kk
        · refine xx_tableIn (off := 947) (tgt := 986) e_W_law_39 (by decide) (by decide) rfl rfl ?_
          rw [ec, eb]
          exact law_15 hsc o15 kk
        · refine xx_tableIn (off := 983) (tgt := 1022) e_W_law_39 (by decide) (by decide) rfl rfl ?_
          rw [ec, eb]
          exact law_16 hsc o16 kk
        · refine xx_tableIn (off := 1051) (tgt := 1090) e_W_law_39 (by decide) (by decide) rfl rfl ?_
          rw [ec, eb]
          exact law_17 hsc o17 kk
      · refine xx_tableOut (tgt := 1134) e_W_law_39 (Or.inr (by rw [lw_toInt (by omega)]; omega)) rfl ?_
        exact wd (kk V _ _ hR)
end XLaw
