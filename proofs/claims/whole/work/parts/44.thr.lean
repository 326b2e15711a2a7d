/-! The throws of the class (printed by wip/whole/gen_thr.py). -/
section XThr
/-- a method that ends by throwing E -/
def xqe (E : String) (h : xa_H) : xa_Q := fun o h' => o = .inr E ∧ h' = h
variable {S : Nat × (Nat → Int32)} {V : xl_V} {d mc ms : Nat} {ls st : List Value} {Q : xa_Q}
set_option maxRecDepth 100000 in
theorem th_CG_signal_11 (hw : (st.map fun v => v.category).sum ≤ 8) (hQ : Q (.inr "java/lang/IllegalStateException") (xl_H xlay V)) : xX S d 32 11 ls st V (mc + 1) (ms + 6) Q :=
  xx_thr (i1 := 47) (i2 := 49) (i3 := 51) (E := "java/lang/IllegalStateException") (msg := "there are 5 signals already") ⟨e_CG_signal_11.1, e_CG_signal_14.1, e_CG_signal_15.1, e_CG_signal_17.1, e_CG_signal_20.1⟩ (by decide) (xw_t (i := 339) rfl (by decide +kernel)) (xw_t (i := 381) rfl (by decide +kernel)) (xw_t (i := 382) rfl (by decide +kernel)) rfl hw hQ
set_option maxRecDepth 100000 in
theorem th_CG_edge_17 (hw : (st.map fun v => v.category).sum ≤ 8) (hQ : Q (.inr "java/lang/IllegalStateException") (xl_H xlay V)) : xX S d 35 17 ls st V (mc + 1) (ms + 6) Q :=
  xx_thr (i1 := 47) (i2 := 68) (i3 := 51) (E := "java/lang/IllegalStateException") (msg := "there are 14 transitions already") ⟨e_CG_edge_17.1, e_CG_edge_20.1, e_CG_edge_21.1, e_CG_edge_23.1, e_CG_edge_26.1⟩ (by decide) (xw_t (i := 339) rfl (by decide +kernel)) (xw_t (i := 440) rfl (by decide +kernel)) (xw_t (i := 382) rfl (by decide +kernel)) rfl hw hQ
set_option maxRecDepth 100000 in
theorem th_CG_requireSignal_15 (hw : (st.map fun v => v.category).sum ≤ 8) (hQ : Q (.inr "java/lang/IndexOutOfBoundsException") (xl_H xlay V)) : xX S d 36 15 ls st V (mc + 1) (ms + 6) Q :=
  xx_thr (i1 := 83) (i2 := 211) (i3 := 87) (E := "java/lang/IndexOutOfBoundsException") (msg := "no such signal") ⟨e_CG_requireSignal_15.1, e_CG_requireSignal_18.1, e_CG_requireSignal_19.1, e_CG_requireSignal_21.1, e_CG_requireSignal_24.1⟩ (by decide) (xw_t (i := 424) rfl (by decide +kernel)) (xw_t (i := 433) rfl (by decide +kernel)) (xw_t (i := 434) rfl (by decide +kernel)) rfl hw hQ
set_option maxRecDepth 100000 in
theorem th_CG_place_12 (hw : (st.map fun v => v.category).sum ≤ 8) (hQ : Q (.inr "java/lang/IllegalStateException") (xl_H xlay V)) : xX S d 39 12 ls st V (mc + 1) (ms + 6) Q :=
  xx_thr (i1 := 47) (i2 := 77) (i3 := 51) (E := "java/lang/IllegalStateException") (msg := "there are 16 places already") ⟨e_CG_place_12.1, e_CG_place_15.1, e_CG_place_16.1, e_CG_place_18.1, e_CG_place_21.1⟩ (by decide) (xw_t (i := 339) rfl (by decide +kernel)) (xw_t (i := 452) rfl (by decide +kernel)) (xw_t (i := 382) rfl (by decide +kernel)) rfl hw hQ
set_option maxRecDepth 100000 in
theorem th_CG_arc_15 (hw : (st.map fun v => v.category).sum ≤ 8) (hQ : Q (.inr "java/lang/IndexOutOfBoundsException") (xl_H xlay V)) : xX S d 42 15 ls st V (mc + 1) (ms + 6) Q :=
  xx_thr (i1 := 83) (i2 := 85) (i3 := 87) (E := "java/lang/IndexOutOfBoundsException") (msg := "no such place") ⟨e_CG_arc_15.1, e_CG_arc_18.1, e_CG_arc_19.1, e_CG_arc_21.1, e_CG_arc_24.1⟩ (by decide) (xw_t (i := 424) rfl (by decide +kernel)) (xw_t (i := 465) rfl (by decide +kernel)) (xw_t (i := 434) rfl (by decide +kernel)) rfl hw hQ
set_option maxRecDepth 100000 in
theorem th_CG_arc_40 (hw : (st.map fun v => v.category).sum ≤ 8) (hQ : Q (.inr "java/lang/IndexOutOfBoundsException") (xl_H xlay V)) : xX S d 42 40 ls st V (mc + 1) (ms + 6) Q :=
  xx_thr (i1 := 83) (i2 := 88) (i3 := 87) (E := "java/lang/IndexOutOfBoundsException") (msg := "no such transition") ⟨e_CG_arc_40.1, e_CG_arc_43.1, e_CG_arc_44.1, e_CG_arc_46.1, e_CG_arc_49.1⟩ (by decide) (xw_t (i := 424) rfl (by decide +kernel)) (xw_t (i := 466) rfl (by decide +kernel)) (xw_t (i := 434) rfl (by decide +kernel)) rfl hw hQ
set_option maxRecDepth 100000 in
theorem th_CG_arc_63 (hw : (st.map fun v => v.category).sum ≤ 8) (hQ : Q (.inr "java/lang/IllegalArgumentException") (xl_H xlay V)) : xX S d 42 63 ls st V (mc + 1) (ms + 6) Q :=
  xx_thr (i1 := 94) (i2 := 96) (i3 := 98) (E := "java/lang/IllegalArgumentException") (msg := "the place is there already") ⟨e_CG_arc_63.1, e_CG_arc_66.1, e_CG_arc_67.1, e_CG_arc_69.1, e_CG_arc_72.1⟩ (by decide) (xw_t (i := 471) rfl (by decide +kernel)) (xw_t (i := 480) rfl (by decide +kernel)) (xw_t (i := 481) rfl (by decide +kernel)) rfl hw hQ
set_option maxRecDepth 100000 in
theorem th_CG_requireGraph_10 (hw : (st.map fun v => v.category).sum ≤ 8) (hQ : Q (.inr "java/lang/IllegalStateException") (xl_H xlay V)) : xX S d 47 10 ls st V (mc + 1) (ms + 6) Q :=
  xx_thr (i1 := 47) (i2 := 213) (i3 := 51) (E := "java/lang/IllegalStateException") (msg := "there is no graph") ⟨e_CG_requireGraph_10.1, e_CG_requireGraph_13.1, e_CG_requireGraph_14.1, e_CG_requireGraph_16.1, e_CG_requireGraph_19.1⟩ (by decide) (xw_t (i := 339) rfl (by decide +kernel)) (xw_t (i := 502) rfl (by decide +kernel)) (xw_t (i := 382) rfl (by decide +kernel)) rfl hw hQ
set_option maxRecDepth 100000 in
theorem th_CG_requireState_19 (hw : (st.map fun v => v.category).sum ≤ 8) (hQ : Q (.inr "java/lang/IndexOutOfBoundsException") (xl_H xlay V)) : xX S d 50 19 ls st V (mc + 1) (ms + 6) Q :=
  xx_thr (i1 := 83) (i2 := 215) (i3 := 87) (E := "java/lang/IndexOutOfBoundsException") (msg := "no such state") ⟨e_CG_requireState_19.1, e_CG_requireState_22.1, e_CG_requireState_23.1, e_CG_requireState_25.1, e_CG_requireState_28.1⟩ (by decide) (xw_t (i := 424) rfl (by decide +kernel)) (xw_t (i := 514) rfl (by decide +kernel)) (xw_t (i := 434) rfl (by decide +kernel)) rfl hw hQ
set_option maxRecDepth 100000 in
theorem th_CG_synthesise_27 (hw : (st.map fun v => v.category).sum ≤ 8) (hQ : Q (.inr "java/lang/UnsupportedOperationException") (xl_H xlay V)) : xX S d 58 27 ls st V (mc + 1) (ms + 6) Q :=
  xx_thr (i1 := 143) (i2 := 145) (i3 := 147) (E := "java/lang/UnsupportedOperationException") (msg := "a least sum has more than 8 products") ⟨e_CG_synthesise_27.1, e_CG_synthesise_30.1, e_CG_synthesise_31.1, e_CG_synthesise_33.1, e_CG_synthesise_36.1⟩ (by decide) (xw_t (i := 625) rfl (by decide +kernel)) (xw_t (i := 634) rfl (by decide +kernel)) (xw_t (i := 635) rfl (by decide +kernel)) rfl hw hQ
set_option maxRecDepth 100000 in
theorem th_CG_requireFine_7 (hw : (st.map fun v => v.category).sum ≤ 8) (hQ : Q (.inr "java/lang/IllegalStateException") (xl_H xlay V)) : xX S d 59 7 ls st V (mc + 1) (ms + 6) Q :=
  xx_thr (i1 := 47) (i2 := 217) (i3 := 51) (E := "java/lang/IllegalStateException") (msg := "the latest verdict is not FINE") ⟨e_CG_requireFine_7.1, e_CG_requireFine_10.1, e_CG_requireFine_11.1, e_CG_requireFine_13.1, e_CG_requireFine_16.1⟩ (by decide) (xw_t (i := 339) rfl (by decide +kernel)) (xw_t (i := 548) rfl (by decide +kernel)) (xw_t (i := 382) rfl (by decide +kernel)) rfl hw hQ
set_option maxRecDepth 100000 in
theorem th_CG_product_25 (hw : (st.map fun v => v.category).sum ≤ 8) (hQ : Q (.inr "java/lang/IndexOutOfBoundsException") (xl_H xlay V)) : xX S d 82 25 ls st V (mc + 1) (ms + 6) Q :=
  xx_thr (i1 := 83) (i2 := 161) (i3 := 87) (E := "java/lang/IndexOutOfBoundsException") (msg := "no such product") ⟨e_CG_product_25.1, e_CG_product_28.1, e_CG_product_29.1, e_CG_product_31.1, e_CG_product_34.1⟩ (by decide) (xw_t (i := 424) rfl (by decide +kernel)) (xw_t (i := 659) rfl (by decide +kernel)) (xw_t (i := 434) rfl (by decide +kernel)) rfl hw hQ
set_option maxRecDepth 100000 in
theorem th_CG_append_16 (hw : (st.map fun v => v.category).sum ≤ 8) (hQ : Q (.inr "java/lang/IllegalArgumentException") (xl_H xlay V)) : xX S d 84 16 ls st V (mc + 1) (ms + 6) Q :=
  xx_thr (i1 := 94) (i2 := 169) (i3 := 98) (E := "java/lang/IllegalArgumentException") (msg := "an input has no gate to append to") ⟨e_CG_append_16.1, e_CG_append_19.1, e_CG_append_20.1, e_CG_append_22.1, e_CG_append_25.1⟩ (by decide) (xw_t (i := 471) rfl (by decide +kernel)) (xw_t (i := 667) rfl (by decide +kernel)) (xw_t (i := 481) rfl (by decide +kernel)) rfl hw hQ
set_option maxRecDepth 100000 in
theorem th_CG_append_45 (hw : (st.map fun v => v.category).sum ≤ 8) (hQ : Q (.inr "java/lang/IllegalArgumentException") (xl_H xlay V)) : xX S d 84 45 ls st V (mc + 1) (ms + 6) Q :=
  xx_thr (i1 := 94) (i2 := 174) (i3 := 98) (E := "java/lang/IllegalArgumentException") (msg := "no such product for these signals") ⟨e_CG_append_45.1, e_CG_append_48.1, e_CG_append_49.1, e_CG_append_51.1, e_CG_append_54.1⟩ (by decide) (xw_t (i := 471) rfl (by decide +kernel)) (xw_t (i := 669) rfl (by decide +kernel)) (xw_t (i := 481) rfl (by decide +kernel)) rfl hw hQ
set_option maxRecDepth 100000 in
theorem th_CG_append_72 (hw : (st.map fun v => v.category).sum ≤ 8) (hQ : Q (.inr "java/lang/IllegalStateException") (xl_H xlay V)) : xX S d 84 72 ls st V (mc + 1) (ms + 6) Q :=
  xx_thr (i1 := 47) (i2 := 176) (i3 := 51) (E := "java/lang/IllegalStateException") (msg := "the gate has 8 products already") ⟨e_CG_append_72.1, e_CG_append_75.1, e_CG_append_76.1, e_CG_append_78.1, e_CG_append_81.1⟩ (by decide) (xw_t (i := 339) rfl (by decide +kernel)) (xw_t (i := 670) rfl (by decide +kernel)) (xw_t (i := 382) rfl (by decide +kernel)) rfl hw hQ
set_option maxRecDepth 100000 in
theorem th_CG_value_22 (hw : (st.map fun v => v.category).sum ≤ 8) (hQ : Q (.inr "java/lang/IndexOutOfBoundsException") (xl_H xlay V)) : xX S d 89 22 ls st V (mc + 1) (ms + 6) Q :=
  xx_thr (i1 := 83) (i2 := 189) (i3 := 87) (E := "java/lang/IndexOutOfBoundsException") (msg := "no such code for these signals") ⟨e_CG_value_22.1, e_CG_value_25.1, e_CG_value_26.1, e_CG_value_28.1, e_CG_value_31.1⟩ (by decide) (xw_t (i := 424) rfl (by decide +kernel)) (xw_t (i := 690) rfl (by decide +kernel)) (xw_t (i := 434) rfl (by decide +kernel)) rfl hw hQ
theorem xe_V0 {K : xa_P} {tx : Nat → Nat × (Nat → Int32)} {d y pc n' : Nat} {ls st : List Value} {h : xa_H} {mc ms : Nat} {Q : xa_Q} {i y' ci : Nat} {fs : List Value} {a : Nat} {E : String} {h1 : xa_H} (hd : xa_d K y pc (.invokevirtual i) 3 n') (hl : xa_lkV K (K.1 y).1.cls i ci y' 0) (hh : h.2 a = .inr (ci, fs)) (k1 : xa_X K tx d y' 0 (xa_ent (K.1 y').2.2.1 (.ref a :: [])) [] h mc ms (xqe E h1)) (ht : (K.1 y).2.2.2.2 = []) (hQ : Q (.inr E) h1)  (hw : (st.map fun v => v.category).sum ≤ 8 := by exact Nat.le_of_ble_eq_true rfl) : xa_X K tx (d + 1) y pc ls (.ref a :: st) h mc ms Q := by
  have := xx_callVo (ls := ls) (As := []) (mc := 0) (ms := 0) (mc' := mc) (ms' := ms) (Q := Q) hd hl hh (by intro v hv; cases hv) hw ht (fun E' h' q => by obtain ⟨e1, e2⟩ := q; cases e1; cases e2; exact hQ) k1 (fun v h' q => by cases q.1)
  rwa [Nat.zero_add, Nat.zero_add] at this
theorem xe_V1 {K : xa_P} {tx : Nat → Nat × (Nat → Int32)} {d y pc n' : Nat} {ls st : List Value} {h : xa_H} {mc ms : Nat} {Q : xa_Q} {i y' ci : Nat} {fs : List Value} {a : Nat} {w1 : Value} {E : String} {h1 : xa_H} (hd : xa_d K y pc (.invokevirtual i) 3 n') (hl : xa_lkV K (K.1 y).1.cls i ci y' 1) (hh : h.2 a = .inr (ci, fs)) (k1 : xa_X K tx d y' 0 (xa_ent (K.1 y').2.2.1 (.ref a :: [w1])) [] h mc ms (xqe E h1)) (ht : (K.1 y).2.2.2.2 = []) (hQ : Q (.inr E) h1) (c1 : w1.category = 1 := by rfl) (hw : (st.map fun v => v.category).sum ≤ 8 := by exact Nat.le_of_ble_eq_true rfl) : xa_X K tx (d + 1) y pc ls (w1 :: .ref a :: st) h mc ms Q := by
  have := xx_callVo (ls := ls) (As := [w1]) (mc := 0) (ms := 0) (mc' := mc) (ms' := ms) (Q := Q) hd hl hh (by intro v hv; rw [List.mem_singleton.mp hv]; exact c1) hw ht (fun E' h' q => by obtain ⟨e1, e2⟩ := q; cases e1; cases e2; exact hQ) k1 (fun v h' q => by cases q.1)
  rwa [Nat.zero_add, Nat.zero_add] at this
theorem xe_V2 {K : xa_P} {tx : Nat → Nat × (Nat → Int32)} {d y pc n' : Nat} {ls st : List Value} {h : xa_H} {mc ms : Nat} {Q : xa_Q} {i y' ci : Nat} {fs : List Value} {a : Nat} {w1 w2 : Value} {E : String} {h1 : xa_H} (hd : xa_d K y pc (.invokevirtual i) 3 n') (hl : xa_lkV K (K.1 y).1.cls i ci y' 2) (hh : h.2 a = .inr (ci, fs)) (k1 : xa_X K tx d y' 0 (xa_ent (K.1 y').2.2.1 (.ref a :: [w1, w2])) [] h mc ms (xqe E h1)) (ht : (K.1 y).2.2.2.2 = []) (hQ : Q (.inr E) h1) (c1 : w1.category = 1 := by rfl) (c2 : w2.category = 1 := by rfl) (hw : (st.map fun v => v.category).sum ≤ 8 := by exact Nat.le_of_ble_eq_true rfl) : xa_X K tx (d + 1) y pc ls (w2 :: w1 :: .ref a :: st) h mc ms Q := by
  have := xx_callVo (ls := ls) (As := [w1, w2]) (mc := 0) (ms := 0) (mc' := mc) (ms' := ms) (Q := Q) hd hl hh (by intro v hv; simp only [List.mem_cons, List.not_mem_nil, or_false] at hv; rcases hv with rfl | rfl <;> assumption) hw ht (fun E' h' q => by obtain ⟨e1, e2⟩ := q; cases e1; cases e2; exact hQ) k1 (fun v h' q => by cases q.1)
  rwa [Nat.zero_add, Nat.zero_add] at this
theorem xe_V3 {K : xa_P} {tx : Nat → Nat × (Nat → Int32)} {d y pc n' : Nat} {ls st : List Value} {h : xa_H} {mc ms : Nat} {Q : xa_Q} {i y' ci : Nat} {fs : List Value} {a : Nat} {w1 w2 w3 : Value} {E : String} {h1 : xa_H} (hd : xa_d K y pc (.invokevirtual i) 3 n') (hl : xa_lkV K (K.1 y).1.cls i ci y' 3) (hh : h.2 a = .inr (ci, fs)) (k1 : xa_X K tx d y' 0 (xa_ent (K.1 y').2.2.1 (.ref a :: [w1, w2, w3])) [] h mc ms (xqe E h1)) (ht : (K.1 y).2.2.2.2 = []) (hQ : Q (.inr E) h1) (c1 : w1.category = 1 := by rfl) (c2 : w2.category = 1 := by rfl) (c3 : w3.category = 1 := by rfl) (hw : (st.map fun v => v.category).sum ≤ 8 := by exact Nat.le_of_ble_eq_true rfl) : xa_X K tx (d + 1) y pc ls (w3 :: w2 :: w1 :: .ref a :: st) h mc ms Q := by
  have := xx_callVo (ls := ls) (As := [w1, w2, w3]) (mc := 0) (ms := 0) (mc' := mc) (ms' := ms) (Q := Q) hd hl hh (by intro v hv; simp only [List.mem_cons, List.not_mem_nil, or_false] at hv; rcases hv with rfl | rfl | rfl <;> assumption) hw ht (fun E' h' q => by obtain ⟨e1, e2⟩ := q; cases e1; cases e2; exact hQ) k1 (fun v h' q => by cases q.1)
  rwa [Nat.zero_add, Nat.zero_add] at this
abbrev eS : String := "java/lang/IllegalStateException"
abbrev eI : String := "java/lang/IndexOutOfBoundsException"
abbrev eA : String := "java/lang/IllegalArgumentException"
abbrev eU : String := "java/lang/UnsupportedOperationException"
end XThr
