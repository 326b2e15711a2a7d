/-! Each rule of the abstract machine is sound (printed by wip/whole/gen_machine.py). -/
section XSound
variable {l : Launch} {K : xa_P} {Z : xa_Z}
set_option maxHeartbeats 2000000 in
theorem xs_iconst : xr_iconst K (xa_W l K Z) := by
  intro d y pc ls st h mc ms Q n' n v hd hv k p e R s m args below meth c A H locs cells slots ad sl C hc hs rp lv ok
  obtain ⟨hd, rfl⟩ := hd
  exact lv_iconst C.1 C.2.1 hd hv (k p e R s m args below meth c A H locs cells slots ad sl C hc hs rp lv (xa_oks_i ok))
set_option maxHeartbeats 2000000 in
theorem xs_bipush : xr_bipush K (xa_W l K Z) := by
  intro d y pc ls st h mc ms Q n' n v hd hv k p e R s m args below meth c A H locs cells slots ad sl C hc hs rp lv ok
  obtain ⟨hd, rfl⟩ := hd
  exact lv_bipush C.1 C.2.1 hd hv (k p e R s m args below meth c A H locs cells slots ad sl C hc hs rp lv (xa_oks_i ok))
set_option maxHeartbeats 2000000 in
theorem xs_sipush : xr_sipush K (xa_W l K Z) := by
  intro d y pc ls st h mc ms Q n' n v hd hv k p e R s m args below meth c A H locs cells slots ad sl C hc hs rp lv ok
  obtain ⟨hd, rfl⟩ := hd
  exact lv_sipush C.1 C.2.1 hd hv (k p e R s m args below meth c A H locs cells slots ad sl C hc hs rp lv (xa_oks_i ok))
set_option maxHeartbeats 2000000 in
theorem xs_ldc : xr_ldc K (xa_W l K Z) := by
  intro d y pc ls st h mc ms Q n' i v hd hv k p e R s m args below meth c A H locs cells slots ad sl C hc hs rp lv ok
  obtain ⟨hd, rfl⟩ := hd
  exact lv_ldc C.1 C.2.1 C.o (C.ts args _ hv) hd (k p e R s m args below meth c A H locs cells slots ad sl C hc hs rp lv (xa_oks_i ok))
set_option maxHeartbeats 2000000 in
theorem xs_iload_n : xr_iload_n K (xa_W l K Z) := by
  intro d y pc ls st h mc ms Q n' n i x hd hi hl k p e R s m args below meth c A H locs cells slots ad sl C hc hs rp lv ok
  obtain ⟨hd, rfl⟩ := hd
  exact lv_iload_n C.1 C.2.1 hd hi (xa_lv_at lv hl rfl) (k p e R s m args below meth c A H locs cells slots ad sl C hc hs rp lv (xa_oks_i ok))
set_option maxHeartbeats 2000000 in
theorem xs_iload : xr_iload K (xa_W l K Z) := by
  intro d y pc ls st h mc ms Q n' i x hd hl k p e R s m args below meth c A H locs cells slots ad sl C hc hs rp lv ok
  obtain ⟨hd, rfl⟩ := hd
  exact lv_iload C.1 C.2.1 hd (xa_lv_at lv hl rfl) (k p e R s m args below meth c A H locs cells slots ad sl C hc hs rp lv (xa_oks_i ok))
set_option maxHeartbeats 2000000 in
theorem xs_aload_n : xr_aload_n K (xa_W l K Z) := by
  intro d y pc ls st h mc ms Q n' n i x hd hi hl k p e R s m args below meth c A H locs cells slots ad sl C hc hs rp lv ok
  obtain ⟨hd, rfl⟩ := hd
  exact lv_aload_n C.1 C.2.1 hd hi (xa_lv_at lv hl rfl) (k p e R s m args below meth c A H locs cells slots ad sl C hc hs rp lv (xa_oks_c (xa_lv_ok lv hl) ok))
set_option maxHeartbeats 2000000 in
theorem xs_aload_nT : xr_aload_nT K (xa_W l K Z) := by
  intro d y pc ls st h mc ms Q n' n i x hd hi hl k p e R s m args below meth c A H locs cells slots ad sl C hc hs rp lv ok
  obtain ⟨hd, rfl⟩ := hd
  exact lv_aload_n C.1 C.2.1 hd hi (xa_lv_at lv hl rfl) (k p e R s m args below meth c A H locs cells slots ad sl C hc hs rp lv (xa_oks_c (xa_lv_ok lv hl) ok))
set_option maxHeartbeats 2000000 in
theorem xs_aload : xr_aload K (xa_W l K Z) := by
  intro d y pc ls st h mc ms Q n' i x hd hl k p e R s m args below meth c A H locs cells slots ad sl C hc hs rp lv ok
  obtain ⟨hd, rfl⟩ := hd
  exact lv_aload C.1 C.2.1 hd (xa_lv_at lv hl rfl) (k p e R s m args below meth c A H locs cells slots ad sl C hc hs rp lv (xa_oks_c (xa_lv_ok lv hl) ok))
set_option maxHeartbeats 2000000 in
theorem xs_aloadT : xr_aloadT K (xa_W l K Z) := by
  intro d y pc ls st h mc ms Q n' i x hd hl k p e R s m args below meth c A H locs cells slots ad sl C hc hs rp lv ok
  obtain ⟨hd, rfl⟩ := hd
  exact lv_aload C.1 C.2.1 hd (xa_lv_at lv hl rfl) (k p e R s m args below meth c A H locs cells slots ad sl C hc hs rp lv (xa_oks_c (xa_lv_ok lv hl) ok))
set_option maxHeartbeats 2000000 in
theorem xs_istore_n : xr_istore_n K (xa_W l K Z) := by
  intro d y pc ls st h mc ms Q n' n i x w hd hi hl k p e R s m args below meth c A H locs cells slots ad sl C hc hs rp lv ok
  obtain ⟨hd, rfl⟩ := hd
  exact lv_istore_n C.1 C.2.1 hd hi lv.1 (xa_lv_lt lv hl) rfl (fun sl2 hl2 => (k p e R s m args below meth c A H locs cells slots ad sl2 C hc hs rp (xa_lv_set lv hl xa_ok_i rfl hl2) (xa_oks_t ok)))
set_option maxHeartbeats 2000000 in
theorem xs_istore : xr_istore K (xa_W l K Z) := by
  intro d y pc ls st h mc ms Q n' i x w hd hl k p e R s m args below meth c A H locs cells slots ad sl C hc hs rp lv ok
  obtain ⟨hd, rfl⟩ := hd
  exact lv_istore C.1 C.2.1 hd lv.1 (xa_lv_lt lv hl) rfl (fun sl2 hl2 => (k p e R s m args below meth c A H locs cells slots ad sl2 C hc hs rp (xa_lv_set lv hl xa_ok_i rfl hl2) (xa_oks_t ok)))
set_option maxHeartbeats 2000000 in
theorem xs_astore_n : xr_astore_n K (xa_W l K Z) := by
  intro d y pc ls st h mc ms Q n' n i x w hd hi hl k p e R s m args below meth c A H locs cells slots ad sl C hc hs rp lv ok
  obtain ⟨hd, rfl⟩ := hd
  exact lv_astore_n C.1 C.2.1 hd hi lv.1 (xa_lv_lt lv hl) rfl (fun sl2 hl2 => (k p e R s m args below meth c A H locs cells slots ad sl2 C hc hs rp (xa_lv_set lv hl (xa_oks_h ok) rfl hl2) (xa_oks_t ok)))
set_option maxHeartbeats 2000000 in
theorem xs_astore : xr_astore K (xa_W l K Z) := by
  intro d y pc ls st h mc ms Q n' i x w hd hl k p e R s m args below meth c A H locs cells slots ad sl C hc hs rp lv ok
  obtain ⟨hd, rfl⟩ := hd
  exact lv_astore C.1 C.2.1 hd lv.1 (xa_lv_lt lv hl) rfl (fun sl2 hl2 => (k p e R s m args below meth c A H locs cells slots ad sl2 C hc hs rp (xa_lv_set lv hl (xa_oks_h ok) rfl hl2) (xa_oks_t ok)))
set_option maxHeartbeats 2000000 in
theorem xs_iinc : xr_iinc K (xa_W l K Z) := by
  intro d y pc ls st h mc ms Q n' i n x v hd hl hv k p e R s m args below meth c A H locs cells slots ad sl C hc hs rp lv ok
  obtain ⟨hd, rfl⟩ := hd
  obtain ⟨j, hj⟩ := List.mem_iff_getElem?.mp (xa_kn_mem (tb := Z.2.2.1) (ad := ad) (v := .int x) rfl ls i 0 hl)
  rw [Nat.zero_add] at hj
  exact lv_iinc C.1 C.2.1 hd lv.1 hj hv (xa_lv_lt lv hl) rfl (fun sl2 hl2 => (k p e R s m args below meth c A H locs cells slots ad sl2 C hc hs rp (xa_lv_set lv hl xa_ok_i rfl hl2) (ok)))
set_option maxHeartbeats 2000000 in
theorem xs_iadd : xr_iadd K (xa_W l K Z) := by
  intro d y pc ls st h mc ms Q n' x z hd k p e R s m args below meth c A H locs cells slots ad sl C hc hs rp lv ok
  obtain ⟨hd, rfl⟩ := hd
  exact lv_iadd C.1 C.2.1 hd (k p e R s m args below meth c A H locs cells slots ad sl C hc hs rp lv (xa_oks_i (xa_oks_t (xa_oks_t ok))))
set_option maxHeartbeats 2000000 in
theorem xs_isub : xr_isub K (xa_W l K Z) := by
  intro d y pc ls st h mc ms Q n' x z hd k p e R s m args below meth c A H locs cells slots ad sl C hc hs rp lv ok
  obtain ⟨hd, rfl⟩ := hd
  exact lv_isub C.1 C.2.1 hd (k p e R s m args below meth c A H locs cells slots ad sl C hc hs rp lv (xa_oks_i (xa_oks_t (xa_oks_t ok))))
set_option maxHeartbeats 2000000 in
theorem xs_imul : xr_imul K (xa_W l K Z) := by
  intro d y pc ls st h mc ms Q n' x z hd k p e R s m args below meth c A H locs cells slots ad sl C hc hs rp lv ok
  obtain ⟨hd, rfl⟩ := hd
  exact lv_imul C.1 C.2.1 hd (k p e R s m args below meth c A H locs cells slots ad sl C hc hs rp lv (xa_oks_i (xa_oks_t (xa_oks_t ok))))
set_option maxHeartbeats 2000000 in
theorem xs_iand : xr_iand K (xa_W l K Z) := by
  intro d y pc ls st h mc ms Q n' x z hd k p e R s m args below meth c A H locs cells slots ad sl C hc hs rp lv ok
  obtain ⟨hd, rfl⟩ := hd
  exact lv_iand C.1 C.2.1 hd (k p e R s m args below meth c A H locs cells slots ad sl C hc hs rp lv (xa_oks_i (xa_oks_t (xa_oks_t ok))))
set_option maxHeartbeats 2000000 in
theorem xs_ior : xr_ior K (xa_W l K Z) := by
  intro d y pc ls st h mc ms Q n' x z hd k p e R s m args below meth c A H locs cells slots ad sl C hc hs rp lv ok
  obtain ⟨hd, rfl⟩ := hd
  exact lv_ior C.1 C.2.1 hd (k p e R s m args below meth c A H locs cells slots ad sl C hc hs rp lv (xa_oks_i (xa_oks_t (xa_oks_t ok))))
set_option maxHeartbeats 2000000 in
theorem xs_ixor : xr_ixor K (xa_W l K Z) := by
  intro d y pc ls st h mc ms Q n' x z hd k p e R s m args below meth c A H locs cells slots ad sl C hc hs rp lv ok
  obtain ⟨hd, rfl⟩ := hd
  exact lv_ixor C.1 C.2.1 hd (k p e R s m args below meth c A H locs cells slots ad sl C hc hs rp lv (xa_oks_i (xa_oks_t (xa_oks_t ok))))
set_option maxHeartbeats 2000000 in
theorem xs_ishl : xr_ishl K (xa_W l K Z) := by
  intro d y pc ls st h mc ms Q n' x z hd k p e R s m args below meth c A H locs cells slots ad sl C hc hs rp lv ok
  obtain ⟨hd, rfl⟩ := hd
  exact lv_ishl C.1 C.2.1 hd (k p e R s m args below meth c A H locs cells slots ad sl C hc hs rp lv (xa_oks_i (xa_oks_t (xa_oks_t ok))))
set_option maxHeartbeats 2000000 in
theorem xs_ishr : xr_ishr K (xa_W l K Z) := by
  intro d y pc ls st h mc ms Q n' x z hd k p e R s m args below meth c A H locs cells slots ad sl C hc hs rp lv ok
  obtain ⟨hd, rfl⟩ := hd
  exact lv_ishr C.1 C.2.1 hd (k p e R s m args below meth c A H locs cells slots ad sl C hc hs rp lv (xa_oks_i (xa_oks_t (xa_oks_t ok))))
set_option maxHeartbeats 2000000 in
theorem xs_iushr : xr_iushr K (xa_W l K Z) := by
  intro d y pc ls st h mc ms Q n' x z hd k p e R s m args below meth c A H locs cells slots ad sl C hc hs rp lv ok
  obtain ⟨hd, rfl⟩ := hd
  exact lv_iushr C.1 C.2.1 hd rfl (k p e R s m args below meth c A H locs cells slots ad sl C hc hs rp lv (xa_oks_i (xa_oks_t (xa_oks_t ok))))
set_option maxHeartbeats 2000000 in
theorem xs_idiv : xr_idiv K (xa_W l K Z) := by
  intro d y pc ls st h mc ms Q n' x z hd hz k p e R s m args below meth c A H locs cells slots ad sl C hc hs rp lv ok
  obtain ⟨hd, rfl⟩ := hd
  exact lv_idiv C.1 C.2.1 hd hz (k p e R s m args below meth c A H locs cells slots ad sl C hc hs rp lv (xa_oks_i (xa_oks_t (xa_oks_t ok))))
set_option maxHeartbeats 2000000 in
theorem xs_irem : xr_irem K (xa_W l K Z) := by
  intro d y pc ls st h mc ms Q n' x z hd hz k p e R s m args below meth c A H locs cells slots ad sl C hc hs rp lv ok
  obtain ⟨hd, rfl⟩ := hd
  exact lv_irem C.1 C.2.1 hd hz (k p e R s m args below meth c A H locs cells slots ad sl C hc hs rp lv (xa_oks_i (xa_oks_t (xa_oks_t ok))))
set_option maxHeartbeats 2000000 in
theorem xs_i2l : xr_i2l K (xa_W l K Z) := by
  intro d y pc ls st h mc ms Q n' x hd k p e R s m args below meth c A H locs cells slots ad sl C hc hs rp lv ok
  obtain ⟨hd, rfl⟩ := hd
  exact lv_i2l C.1 C.2.1 hd rfl (k p e R s m args below meth c A H locs cells slots ad sl C hc hs rp lv (xa_oks_l (xa_oks_t ok)))
set_option maxHeartbeats 2000000 in
theorem xs_lcmp : xr_lcmp K (xa_W l K Z) := by
  intro d y pc ls st h mc ms Q n' x z hd k p e R s m args below meth c A H locs cells slots ad sl C hc hs rp lv ok
  obtain ⟨hd, rfl⟩ := hd
  exact W.lcmp C.1 C.2.1 hd (k p e R s m args below meth c A H locs cells slots ad sl C hc hs rp lv (xa_oks_i (xa_oks_t (xa_oks_t ok))))
set_option maxHeartbeats 2000000 in
theorem xs_dup : xr_dup K (xa_W l K Z) := by
  intro d y pc ls st h mc ms Q n' v hd hv k p e R s m args below meth c A H locs cells slots ad sl C hc hs rp lv ok
  obtain ⟨hd, rfl⟩ := hd
  exact lv_dup C.1 C.2.1 hd (by rw [xa_cat]; exact hv) (k p e R s m args below meth c A H locs cells slots ad sl C hc hs rp lv (xa_oks_c (xa_oks_h ok) ok))
set_option maxHeartbeats 2000000 in
theorem xs_pop : xr_pop K (xa_W l K Z) := by
  intro d y pc ls st h mc ms Q n' v hd hv k p e R s m args below meth c A H locs cells slots ad sl C hc hs rp lv ok
  obtain ⟨hd, rfl⟩ := hd
  exact lv_pop C.1 C.2.1 hd (by rw [xa_cat]; exact hv) (k p e R s m args below meth c A H locs cells slots ad sl C hc hs rp lv (xa_oks_t ok))
set_option maxHeartbeats 2000000 in
theorem xs_dup2 : xr_dup2 K (xa_W l K Z) := by
  intro d y pc ls st h mc ms Q n' v w hd hv hw k p e R s m args below meth c A H locs cells slots ad sl C hc hs rp lv ok
  obtain ⟨hd, rfl⟩ := hd
  exact lv_dup2_11 C.1 C.2.1 hd (by rw [xa_cat]; exact hv) (by rw [xa_cat]; exact hw) (k p e R s m args below meth c A H locs cells slots ad sl C hc hs rp lv (xa_oks_c (xa_oks_h ok) (xa_oks_c (xa_oks_h (xa_oks_t ok)) ok)))
set_option maxHeartbeats 2000000 in
theorem xs_dup_x1 : xr_dup_x1 K (xa_W l K Z) := by
  intro d y pc ls st h mc ms Q n' v w hd hv hw k p e R s m args below meth c A H locs cells slots ad sl C hc hs rp lv ok
  obtain ⟨hd, rfl⟩ := hd
  exact lv_dup_x1 C.1 C.2.1 hd (by rw [xa_cat]; exact hv) (by rw [xa_cat]; exact hw) (k p e R s m args below meth c A H locs cells slots ad sl C hc hs rp lv (xa_oks_c (xa_oks_h ok) (xa_oks_c (xa_oks_h (xa_oks_t ok)) (xa_oks_c (xa_oks_h ok) (xa_oks_t (xa_oks_t ok))))))
set_option maxHeartbeats 2000000 in
theorem xs_if_eq : xr_if_eq K (xa_W l K Z) := by
  intro d y pc ls st h mc ms Q n' x off tgt hd kt kf p e R s m args below meth c A H locs cells slots ad sl C hc hs rp lv ok
  obtain ⟨⟨hd, rfl⟩, ht⟩ := hd
  exact lv_if_eq C.1 C.2.1 hd ht (fun q => (kt q p e R s m args below meth c A H locs cells slots ad sl C hc hs rp lv (xa_oks_t ok))) (fun q => (kf q p e R s m args below meth c A H locs cells slots ad sl C hc hs rp lv (xa_oks_t ok)))
set_option maxHeartbeats 2000000 in
theorem xs_if_ne : xr_if_ne K (xa_W l K Z) := by
  intro d y pc ls st h mc ms Q n' x off tgt hd kt kf p e R s m args below meth c A H locs cells slots ad sl C hc hs rp lv ok
  obtain ⟨⟨hd, rfl⟩, ht⟩ := hd
  exact lv_if_ne C.1 C.2.1 hd ht (fun q => (kt q p e R s m args below meth c A H locs cells slots ad sl C hc hs rp lv (xa_oks_t ok))) (fun q => (kf q p e R s m args below meth c A H locs cells slots ad sl C hc hs rp lv (xa_oks_t ok)))
set_option maxHeartbeats 2000000 in
theorem xs_if_lt : xr_if_lt K (xa_W l K Z) := by
  intro d y pc ls st h mc ms Q n' x off tgt hd kt kf p e R s m args below meth c A H locs cells slots ad sl C hc hs rp lv ok
  obtain ⟨⟨hd, rfl⟩, ht⟩ := hd
  exact lv_if_lt C.1 C.2.1 hd ht (fun q => (kt q p e R s m args below meth c A H locs cells slots ad sl C hc hs rp lv (xa_oks_t ok))) (fun q => (kf q p e R s m args below meth c A H locs cells slots ad sl C hc hs rp lv (xa_oks_t ok)))
set_option maxHeartbeats 2000000 in
theorem xs_if_ge : xr_if_ge K (xa_W l K Z) := by
  intro d y pc ls st h mc ms Q n' x off tgt hd kt kf p e R s m args below meth c A H locs cells slots ad sl C hc hs rp lv ok
  obtain ⟨⟨hd, rfl⟩, ht⟩ := hd
  exact lv_if_ge C.1 C.2.1 hd ht (fun q => (kt q p e R s m args below meth c A H locs cells slots ad sl C hc hs rp lv (xa_oks_t ok))) (fun q => (kf q p e R s m args below meth c A H locs cells slots ad sl C hc hs rp lv (xa_oks_t ok)))
set_option maxHeartbeats 2000000 in
theorem xs_if_gt : xr_if_gt K (xa_W l K Z) := by
  intro d y pc ls st h mc ms Q n' x off tgt hd kt kf p e R s m args below meth c A H locs cells slots ad sl C hc hs rp lv ok
  obtain ⟨⟨hd, rfl⟩, ht⟩ := hd
  exact lv_if_gt C.1 C.2.1 hd ht (fun q => (kt q p e R s m args below meth c A H locs cells slots ad sl C hc hs rp lv (xa_oks_t ok))) (fun q => (kf q p e R s m args below meth c A H locs cells slots ad sl C hc hs rp lv (xa_oks_t ok)))
set_option maxHeartbeats 2000000 in
theorem xs_if_le : xr_if_le K (xa_W l K Z) := by
  intro d y pc ls st h mc ms Q n' x off tgt hd kt kf p e R s m args below meth c A H locs cells slots ad sl C hc hs rp lv ok
  obtain ⟨⟨hd, rfl⟩, ht⟩ := hd
  exact lv_if_le C.1 C.2.1 hd ht (fun q => (kt q p e R s m args below meth c A H locs cells slots ad sl C hc hs rp lv (xa_oks_t ok))) (fun q => (kf q p e R s m args below meth c A H locs cells slots ad sl C hc hs rp lv (xa_oks_t ok)))
set_option maxHeartbeats 2000000 in
theorem xs_icmp_eq : xr_icmp_eq K (xa_W l K Z) := by
  intro d y pc ls st h mc ms Q n' x z off tgt hd kt kf p e R s m args below meth c A H locs cells slots ad sl C hc hs rp lv ok
  obtain ⟨⟨hd, rfl⟩, ht⟩ := hd
  exact lv_icmp_eq C.1 C.2.1 hd ht (fun q => (kt q p e R s m args below meth c A H locs cells slots ad sl C hc hs rp lv (xa_oks_t (xa_oks_t ok)))) (fun q => (kf q p e R s m args below meth c A H locs cells slots ad sl C hc hs rp lv (xa_oks_t (xa_oks_t ok))))
set_option maxHeartbeats 2000000 in
theorem xs_icmp_ne : xr_icmp_ne K (xa_W l K Z) := by
  intro d y pc ls st h mc ms Q n' x z off tgt hd kt kf p e R s m args below meth c A H locs cells slots ad sl C hc hs rp lv ok
  obtain ⟨⟨hd, rfl⟩, ht⟩ := hd
  exact lv_icmp_ne C.1 C.2.1 hd ht (fun q => (kt q p e R s m args below meth c A H locs cells slots ad sl C hc hs rp lv (xa_oks_t (xa_oks_t ok)))) (fun q => (kf q p e R s m args below meth c A H locs cells slots ad sl C hc hs rp lv (xa_oks_t (xa_oks_t ok))))
set_option maxHeartbeats 2000000 in
theorem xs_icmp_lt : xr_icmp_lt K (xa_W l K Z) := by
  intro d y pc ls st h mc ms Q n' x z off tgt hd kt kf p e R s m args below meth c A H locs cells slots ad sl C hc hs rp lv ok
  obtain ⟨⟨hd, rfl⟩, ht⟩ := hd
  exact lv_icmp_lt C.1 C.2.1 hd ht (fun q => (kt q p e R s m args below meth c A H locs cells slots ad sl C hc hs rp lv (xa_oks_t (xa_oks_t ok)))) (fun q => (kf q p e R s m args below meth c A H locs cells slots ad sl C hc hs rp lv (xa_oks_t (xa_oks_t ok))))
set_option maxHeartbeats 2000000 in
theorem xs_icmp_ge : xr_icmp_ge K (xa_W l K Z) := by
  intro d y pc ls st h mc ms Q n' x z off tgt hd kt kf p e R s m args below meth c A H locs cells slots ad sl C hc hs rp lv ok
  obtain ⟨⟨hd, rfl⟩, ht⟩ := hd
  exact lv_icmp_ge C.1 C.2.1 hd ht (fun q => (kt q p e R s m args below meth c A H locs cells slots ad sl C hc hs rp lv (xa_oks_t (xa_oks_t ok)))) (fun q => (kf q p e R s m args below meth c A H locs cells slots ad sl C hc hs rp lv (xa_oks_t (xa_oks_t ok))))
set_option maxHeartbeats 2000000 in
theorem xs_icmp_gt : xr_icmp_gt K (xa_W l K Z) := by
  intro d y pc ls st h mc ms Q n' x z off tgt hd kt kf p e R s m args below meth c A H locs cells slots ad sl C hc hs rp lv ok
  obtain ⟨⟨hd, rfl⟩, ht⟩ := hd
  exact lv_icmp_gt C.1 C.2.1 hd ht (fun q => (kt q p e R s m args below meth c A H locs cells slots ad sl C hc hs rp lv (xa_oks_t (xa_oks_t ok)))) (fun q => (kf q p e R s m args below meth c A H locs cells slots ad sl C hc hs rp lv (xa_oks_t (xa_oks_t ok))))
set_option maxHeartbeats 2000000 in
theorem xs_icmp_le : xr_icmp_le K (xa_W l K Z) := by
  intro d y pc ls st h mc ms Q n' x z off tgt hd kt kf p e R s m args below meth c A H locs cells slots ad sl C hc hs rp lv ok
  obtain ⟨⟨hd, rfl⟩, ht⟩ := hd
  exact lv_icmp_le C.1 C.2.1 hd ht (fun q => (kt q p e R s m args below meth c A H locs cells slots ad sl C hc hs rp lv (xa_oks_t (xa_oks_t ok)))) (fun q => (kf q p e R s m args below meth c A H locs cells slots ad sl C hc hs rp lv (xa_oks_t (xa_oks_t ok))))
set_option maxHeartbeats 2000000 in
theorem xs_goto : xr_goto K (xa_W l K Z) := by
  intro d y pc ls st h mc ms Q n' off tgt hd k p e R s m args below meth c A H locs cells slots ad sl C hc hs rp lv ok
  obtain ⟨⟨hd, rfl⟩, ht⟩ := hd
  exact lv_goto C.1 C.2.1 hd ht (k p e R s m args below meth c A H locs cells slots ad sl C hc hs rp lv (ok))
set_option maxHeartbeats 2000000 in
theorem xs_tableOut : xr_tableOut K (xa_W l K Z) := by
  intro d y pc ls st h mc ms Q n' dflt lo hi offs len x tgt hd hx ht k p e R s m args below meth c A H locs cells slots ad sl C hc hs rp lv ok
  obtain ⟨hd, rfl⟩ := hd
  exact lv_tableOut C.1 C.2.1 hd hx ht (k p e R s m args below meth c A H locs cells slots ad sl C hc hs rp lv (xa_oks_t ok))
set_option maxHeartbeats 2000000 in
theorem xs_tableIn : xr_tableIn K (xa_W l K Z) := by
  intro d y pc ls st h mc ms Q n' dflt lo hi offs len x off tgt hd h1 h2 ho ht k p e R s m args below meth c A H locs cells slots ad sl C hc hs rp lv ok
  obtain ⟨hd, rfl⟩ := hd
  exact lv_tableIn C.1 C.2.1 hd h1 h2 ho ht (k p e R s m args below meth c A H locs cells slots ad sl C hc hs rp lv (xa_oks_t ok))
set_option maxHeartbeats 2000000 in
theorem xs_lookup : xr_lookup K (xa_W l K Z) := by
  intro d y pc ls st h mc ms Q n' dflt ps len x off tgt hd hp ho ht k p e R s m args below meth c A H locs cells slots ad sl C hc hs rp lv ok
  obtain ⟨hd, rfl⟩ := hd
  exact lv_lookup C.1 C.2.1 hd hp ho ht (k p e R s m args below meth c A H locs cells slots ad sl C hc hs rp lv (xa_oks_t ok))
set_option maxHeartbeats 2000000 in
theorem xs_less : xr_less (xa_W l K Z) := by
  intro d y pc ls st h mc ms Q ls' hl k p e R s m args below meth c A H locs cells slots ad sl C hc hs rp lv ok
  exact (k p e R s m args below meth c A H locs cells slots ad sl C hc hs rp (xa_lv_le lv hl) (ok))
set_option maxHeartbeats 2000000 in
theorem xs_wide : xr_wide (xa_W l K Z) := by
  intro d y pc ls st h mc ms Q mc' ms' h1 h2 k p e R s m args below meth c A H locs cells slots ad sl C hc hs rp lv ok
  exact xa_post (fun t q => xa_E.w (Nat.add_le_add_left h1 _) (Nat.add_le_add_left h2 _) q) (k p e R s m args below meth c A H locs cells slots ad sl C (Nat.le_trans (Nat.add_le_add_left h1 _) hc) (Nat.le_trans (Nat.add_le_add_left h2 _) hs) rp lv (ok))
set_option maxHeartbeats 2000000 in
theorem xs_get : xr_get K (xa_W l K Z) := by
  intro d y pc ls st h mc ms Q n' i ci k0 a fs v hd hf hh hv k p e R s m args below meth c A H locs cells slots ad sl C hc hs rp lv ok
  obtain ⟨hd, rfl⟩ := hd
  have ha : a < h.1 := ok _ List.mem_cons_self a rfl
  have hv' : (fs.map (xa_tr Z.2.2.1 ad))[k0]? = some (xa_tr Z.2.2.1 ad v) := by rw [List.getElem?_map, hv]; rfl
  have hw := xa_w_get (tys := Z.2.1) (tb := Z.2.2.1) (ad := ad) ha
  rw [hh] at hw
  have hok : xa_ok h.1 v := by
    have := rp.2.2.2 a ha
    rw [hh] at this
    exact this v (List.mem_of_getElem? hv)
  obtain ⟨Cn, T, N, ty0, hk, hkN, hl⟩ := hf
  rcases hl with hl | ⟨host, hl⟩
  · exact va_get (cl := K.2.1) C.1 C.2.1 (C.ts args) hk.2.1 C.o C.k rp.1 a hw hk.1 k0 hkN (C.ts args _ hl) (fun _ q => q) hv' hd (k p e R s m args below meth c A H locs cells slots ad sl C hc hs rp lv (xa_oks_c hok (xa_oks_t ok)))
  · exact va_getN (cl := K.2.1) C.1 C.2.1 (C.ts args) hk.2.1 C.o C.k rp.1 a hw hk.1 k0 hkN (C.ts args _ hl) (fun _ q => q) hv' hd (k p e R s m args below meth c A H locs cells slots ad sl C hc hs rp lv (xa_oks_c hok (xa_oks_t ok)))
set_option maxHeartbeats 2000000 in
theorem xs_put : xr_put K (xa_W l K Z) := by
  intro d y pc ls st h mc ms Q n' i ci k0 ty a fs v hd hf hh hl0 hfit k p e R s m args below meth c A H locs cells slots ad sl C hc hs rp lv ok
  obtain ⟨hd, rfl⟩ := hd
  have ha : a < h.1 := ok _ (List.mem_cons_of_mem _ List.mem_cons_self) a rfl
  have hw := xa_w_get (tys := Z.2.1) (tb := Z.2.2.1) (ad := ad) ha
  rw [hh] at hw
  have hokv : xa_ok h.1 v := xa_oks_h ok
  have hcl := rp.2.2.2
  have ecl : ∀ i, i < h.1 → xa_okE h.1 (xa_up h.2 a (.inr (ci, fs.set k0 v)) i) := fun i hi => by
    by_cases e : i = a
    · rw [e, xa_up_s]
      intro w hw
      rcases List.mem_or_eq_of_mem_set hw with q | q
      · have := hcl a ha
        rw [hh] at this
        exact this w q
      · rw [q]; exact hokv
    · rw [xa_up_n _ _ e]; exact hcl i hi
  have eset : (xa_w Z.2.1 Z.2.2.1 ad h).set a (ad a, .inr (ci, (fs.map (xa_tr Z.2.2.1 ad)).set k0 (xa_tr Z.2.2.1 ad v))) = xa_w Z.2.1 Z.2.2.1 ad (h.1, xa_up h.2 a (.inr (ci, fs.set k0 v))) := by
    rw [← xa_w_set]
    show _ = (xa_w Z.2.1 Z.2.2.1 ad h).set a (ad a, .inr (ci, (fs.set k0 v).map (xa_tr Z.2.2.1 ad)))
    rw [List.map_set]
  obtain ⟨Cn, T, N, ty0, hk, hkN, hty, hfin, hl⟩ := hf
  rcases hl with hl | ⟨host, hl⟩
  · exact va_put (cl := K.2.1) (A := A) C.1 C.2.1 (C.ts args) hk.2.1 ty0 hk.2.2.1 hk.2.2.2 C.o C.k rp.1 rp.2.1 rp.2.2.1 a hw hk.1 k0 hkN (C.ts args _ hl) (fun _ q => q) hfin ((hk.2.2.1 k0 hkN).trans (congrArg some hty)) (hfit _ _).1 (hfit _ _).2 (by rw [List.length_map]; exact hl0) hd (fun H1 locs1 hP1 hD1 hS1 => by
      rw [eset] at hP1 hD1
      exact (k p e R s m args below meth c A H1 locs1 cells slots ad sl C hc hs ⟨hP1, hD1, hS1, ecl⟩ lv (xa_oks_t (xa_oks_t ok))))
  · exact va_putN (cl := K.2.1) (A := A) C.1 C.2.1 (C.ts args) hk.2.1 ty0 hk.2.2.1 hk.2.2.2 C.o C.k rp.1 rp.2.1 rp.2.2.1 a hw hk.1 k0 hkN (C.ts args _ hl) (fun _ q => q) hfin ((hk.2.2.1 k0 hkN).trans (congrArg some hty)) (hfit _ _).1 (hfit _ _).2 (by rw [List.length_map]; exact hl0) hd (fun H1 locs1 hP1 hD1 hS1 => by
      rw [eset] at hP1 hD1
      exact (k p e R s m args below meth c A H1 locs1 cells slots ad sl C hc hs ⟨hP1, hD1, hS1, ecl⟩ lv (xa_oks_t (xa_oks_t ok))))
set_option maxHeartbeats 2000000 in
theorem xs_putF : xr_putF K (xa_W l K Z) := by
  intro d y pc ls st h mc ms Q n' i ci k0 ty a fs v hd hf hin hh hl0 hfit k p e R s m args below meth c A H locs cells slots ad sl C hc hs rp lv ok
  obtain ⟨hd, rfl⟩ := hd
  have ha : a < h.1 := ok _ (List.mem_cons_of_mem _ List.mem_cons_self) a rfl
  have hw := xa_w_get (tys := Z.2.1) (tb := Z.2.2.1) (ad := ad) ha
  rw [hh] at hw
  have hokv : xa_ok h.1 v := xa_oks_h ok
  have hcl := rp.2.2.2
  have ecl : ∀ i, i < h.1 → xa_okE h.1 (xa_up h.2 a (.inr (ci, fs.set k0 v)) i) := fun i hi => by
    by_cases e : i = a
    · rw [e, xa_up_s]
      intro w hw
      rcases List.mem_or_eq_of_mem_set hw with q | q
      · have := hcl a ha
        rw [hh] at this
        exact this w q
      · rw [q]; exact hokv
    · rw [xa_up_n _ _ e]; exact hcl i hi
  have eset : (xa_w Z.2.1 Z.2.2.1 ad h).set a (ad a, .inr (ci, (fs.map (xa_tr Z.2.2.1 ad)).set k0 (xa_tr Z.2.2.1 ad v))) = xa_w Z.2.1 Z.2.2.1 ad (h.1, xa_up h.2 a (.inr (ci, fs.set k0 v))) := by
    rw [← xa_w_set]
    show _ = (xa_w Z.2.1 Z.2.2.1 ad h).set a (ad a, .inr (ci, (fs.set k0 v).map (xa_tr Z.2.2.1 ad)))
    rw [List.map_set]
  obtain ⟨Cn, T, N, ty0, hk, hkN, hty, hfin, hdec, hl⟩ := hf
  exact va_putF (cl := K.2.1) (A := A) C.1 C.2.1 (C.ts args) hk.2.1 ty0 hk.2.2.1 hk.2.2.2 C.o C.k rp.1 rp.2.1 rp.2.2.1 a hw hk.1 k0 hkN (C.ts args _ hl) (fun _ q => q) hfin (C.2.2.2.2.2.1.trans hin) hdec ((hk.2.2.1 k0 hkN).trans (congrArg some hty)) (hfit _ _).1 (hfit _ _).2 (by rw [List.length_map]; exact hl0) hd (fun H1 locs1 hP1 hD1 hS1 => by
      rw [eset] at hP1 hD1
      exact (k p e R s m args below meth c A H1 locs1 cells slots ad sl C hc hs ⟨hP1, hD1, hS1, ecl⟩ lv (xa_oks_t (xa_oks_t ok))))
set_option maxHeartbeats 2000000 in
theorem xs_iaload : xr_iaload K (xa_W l K Z) := by
  intro d y pc ls st h mc ms Q n' a n f i hd hh hi k p e R s m args below meth c A H locs cells slots ad sl C hc hs rp lv ok
  obtain ⟨hd, rfl⟩ := hd
  have ha : a < h.1 := ok _ (List.mem_cons_of_mem _ List.mem_cons_self) a rfl
  have hw := xa_w_get (tys := Z.2.1) (tb := Z.2.2.1) (ad := ad) ha
  rw [hh] at hw
  exact va_iald (cl := K.2.1) C.1 C.2.1 C.k rp.1 a 0 hw (C.ty rfl) hi hd (k p e R s m args below meth c A H locs cells slots ad sl C hc hs rp lv (xa_oks_c (fun _ q => by cases q) (xa_oks_t (xa_oks_t ok))))
set_option maxHeartbeats 2000000 in
theorem xs_baload : xr_baload K (xa_W l K Z) := by
  intro d y pc ls st h mc ms Q n' a n f i hd hh hi k p e R s m args below meth c A H locs cells slots ad sl C hc hs rp lv ok
  obtain ⟨hd, rfl⟩ := hd
  have ha : a < h.1 := ok _ (List.mem_cons_of_mem _ List.mem_cons_self) a rfl
  have hw := xa_w_get (tys := Z.2.1) (tb := Z.2.2.1) (ad := ad) ha
  rw [hh] at hw
  exact va_zald (cl := K.2.1) C.1 C.2.1 C.k rp.1 a 1 hw (C.ty rfl) hi hd (k p e R s m args below meth c A H locs cells slots ad sl C hc hs rp lv (xa_oks_c (fun _ q => by cases q) (xa_oks_t (xa_oks_t ok))))
set_option maxHeartbeats 2000000 in
theorem xs_laload : xr_laload K (xa_W l K Z) := by
  intro d y pc ls st h mc ms Q n' a n f i hd hh hi k p e R s m args below meth c A H locs cells slots ad sl C hc hs rp lv ok
  obtain ⟨hd, rfl⟩ := hd
  have ha : a < h.1 := ok _ (List.mem_cons_of_mem _ List.mem_cons_self) a rfl
  have hw := xa_w_get (tys := Z.2.1) (tb := Z.2.2.1) (ad := ad) ha
  rw [hh] at hw
  exact va_lald (cl := K.2.1) C.1 C.2.1 C.k rp.1 a 2 hw (C.ty rfl) hi hd (k p e R s m args below meth c A H locs cells slots ad sl C hc hs rp lv (xa_oks_c (fun _ q => by cases q) (xa_oks_t (xa_oks_t ok))))
set_option maxHeartbeats 2000000 in
theorem xs_aaload : xr_aaload K (xa_W l K Z) := by
  intro d y pc ls st h mc ms Q n' a n f i b hd hh hi hb k p e R s m args below meth c A H locs cells slots ad sl C hc hs rp lv ok
  obtain ⟨hd, rfl⟩ := hd
  have ha : a < h.1 := ok _ (List.mem_cons_of_mem _ List.mem_cons_self) a rfl
  have hw := xa_w_get (tys := Z.2.1) (tb := Z.2.2.1) (ad := ad) ha
  rw [hh] at hw
  have hok : xa_ok h.1 (.ref b) := by
    have := rp.2.2.2 a ha
    rw [hh] at this
    exact xa_ok_r (this _ _ hb)
  refine va_aldq (cl := K.2.1) C.1 C.2.1 C.k rp.1 a 3 hw (C.ty rfl) hi hd ?_
  show W p l e R s m args below meth c H locs cells slots _ (F0 m (pc + 1) sl (va_rf ((f i.toNatClampNeg).map ad) :: st.map (xa_tr Z.2.2.1 ad)))
  rw [hb]
  exact (k p e R s m args below meth c A H locs cells slots ad sl C hc hs rp lv (xa_oks_c hok (xa_oks_t (xa_oks_t ok))))
set_option maxHeartbeats 2000000 in
theorem xs_iastore : xr_iastore K (xa_W l K Z) := by
  intro d y pc ls st h mc ms Q n' a n f i x hd hh hi k p e R s m args below meth c A H locs cells slots ad sl C hc hs rp lv ok
  obtain ⟨hd, rfl⟩ := hd
  have ha : a < h.1 := ok _ (List.mem_cons_of_mem _ (List.mem_cons_of_mem _ List.mem_cons_self)) a rfl
  have hw := xa_w_get (tys := Z.2.1) (tb := Z.2.2.1) (ad := ad) ha
  rw [hh] at hw
  have hcl := rp.2.2.2
  have ecl : ∀ j, j < h.1 → xa_okE h.1 (xa_up h.2 a (.inl (0, n, .inl (upd f i.toNatClampNeg x))) j) := fun j hj => by
    by_cases e : j = a
    · rw [e, xa_up_s]; trivial
    · rw [xa_up_n _ _ e]; exact hcl j hj
  exact va_iast (cl := K.2.1) (A := A) C.1 C.2.1 C.k rp.1 rp.2.1 rp.2.2.1 a 0 hw (C.ty rfl) hi hd (fun H1 locs1 hP1 hD1 hS1 => by
    have eset : (xa_w Z.2.1 Z.2.2.1 ad h).set a (ad a, .inl ((Z.2.1.getD 0 (0, .int)).1, n, .inl (upd f i.toNatClampNeg x))) = xa_w Z.2.1 Z.2.2.1 ad (h.1, xa_up h.2 a (.inl (0, n, .inl (upd f i.toNatClampNeg x)))) := by
      rw [← xa_w_set]; rfl
    rw [eset] at hP1 hD1
    exact (k p e R s m args below meth c A H1 locs1 cells slots ad sl C hc hs ⟨hP1, hD1, hS1, ecl⟩ lv (xa_oks_t (xa_oks_t (xa_oks_t ok)))))
set_option maxHeartbeats 2000000 in
theorem xs_bastore : xr_bastore K (xa_W l K Z) := by
  intro d y pc ls st h mc ms Q n' a n f i x hd hh hi k p e R s m args below meth c A H locs cells slots ad sl C hc hs rp lv ok
  obtain ⟨hd, rfl⟩ := hd
  have ha : a < h.1 := ok _ (List.mem_cons_of_mem _ (List.mem_cons_of_mem _ List.mem_cons_self)) a rfl
  have hw := xa_w_get (tys := Z.2.1) (tb := Z.2.2.1) (ad := ad) ha
  rw [hh] at hw
  have hcl := rp.2.2.2
  have ecl : ∀ j, j < h.1 → xa_okE h.1 (xa_up h.2 a (.inl (1, n, .inl (upd f i.toNatClampNeg (vp_nar .boolean x)))) j) := fun j hj => by
    by_cases e : j = a
    · rw [e, xa_up_s]; trivial
    · rw [xa_up_n _ _ e]; exact hcl j hj
  exact va_zast (cl := K.2.1) (A := A) C.1 C.2.1 C.k rp.1 rp.2.1 rp.2.2.1 a 1 hw (C.ty rfl) hi hd (fun H1 locs1 hP1 hD1 hS1 => by
    have eset : (xa_w Z.2.1 Z.2.2.1 ad h).set a (ad a, .inl ((Z.2.1.getD 1 (0, .int)).1, n, .inl (upd f i.toNatClampNeg (vp_nar .boolean x)))) = xa_w Z.2.1 Z.2.2.1 ad (h.1, xa_up h.2 a (.inl (1, n, .inl (upd f i.toNatClampNeg (vp_nar .boolean x))))) := by
      rw [← xa_w_set]; rfl
    rw [eset] at hP1 hD1
    exact (k p e R s m args below meth c A H1 locs1 cells slots ad sl C hc hs ⟨hP1, hD1, hS1, ecl⟩ lv (xa_oks_t (xa_oks_t (xa_oks_t ok)))))
set_option maxHeartbeats 2000000 in
theorem xs_lastore : xr_lastore K (xa_W l K Z) := by
  intro d y pc ls st h mc ms Q n' a n f i x hd hh hi k p e R s m args below meth c A H locs cells slots ad sl C hc hs rp lv ok
  obtain ⟨hd, rfl⟩ := hd
  have ha : a < h.1 := ok _ (List.mem_cons_of_mem _ (List.mem_cons_of_mem _ List.mem_cons_self)) a rfl
  have hw := xa_w_get (tys := Z.2.1) (tb := Z.2.2.1) (ad := ad) ha
  rw [hh] at hw
  have hcl := rp.2.2.2
  have ecl : ∀ j, j < h.1 → xa_okE h.1 (xa_up h.2 a (.inl (2, n, .inr (.inl (vp_updL f i.toNatClampNeg x)))) j) := fun j hj => by
    by_cases e : j = a
    · rw [e, xa_up_s]; trivial
    · rw [xa_up_n _ _ e]; exact hcl j hj
  exact va_last (cl := K.2.1) (A := A) C.1 C.2.1 C.k rp.1 rp.2.1 rp.2.2.1 a 2 hw (C.ty rfl) hi hd (fun H1 locs1 hP1 hD1 hS1 => by
    have eset : (xa_w Z.2.1 Z.2.2.1 ad h).set a (ad a, .inl ((Z.2.1.getD 2 (0, .int)).1, n, .inr (.inl (vp_updL f i.toNatClampNeg x)))) = xa_w Z.2.1 Z.2.2.1 ad (h.1, xa_up h.2 a (.inl (2, n, .inr (.inl (vp_updL f i.toNatClampNeg x))))) := by
      rw [← xa_w_set]; rfl
    rw [eset] at hP1 hD1
    exact (k p e R s m args below meth c A H1 locs1 cells slots ad sl C hc hs ⟨hP1, hD1, hS1, ecl⟩ lv (xa_oks_t (xa_oks_t (xa_oks_t ok)))))
set_option maxHeartbeats 2000000 in
theorem xs_aastore : xr_aastore K (xa_W l K Z) := by
  intro d y pc ls st h mc ms Q n' a n f i b ci fs hd hh hi hb hg k p e R s m args below meth c A H locs cells slots ad sl C hc hs rp lv ok
  obtain ⟨hd, rfl⟩ := hd
  have hb1 : b < h.1 := ok _ List.mem_cons_self b rfl
  have ha : a < h.1 := ok _ (List.mem_cons_of_mem _ (List.mem_cons_of_mem _ List.mem_cons_self)) a rfl
  have hw := xa_w_get (tys := Z.2.1) (tb := Z.2.2.1) (ad := ad) ha
  rw [hh] at hw
  have hwb := xa_w_get (tys := Z.2.1) (tb := Z.2.2.1) (ad := ad) hb1
  rw [hb] at hwb
  have hcl := rp.2.2.2
  have ecl : ∀ j, j < h.1 → xa_okE h.1 (xa_up h.2 a (.inl (3, n, .inr (.inr (.inr (.inr (va_up f i.toNatClampNeg (some b))))))) j) := fun j hj => by
    by_cases e : j = a
    · rw [e, xa_up_s]
      intro j2 a2 q
      have h9 := hcl a ha
      rw [hh] at h9
      by_cases e2 : j2 = i.toNatClampNeg
      · rw [e2, va_up_self] at q
        cases q
        exact hb1
      · rw [va_up_ne _ _ e2] at q
        exact h9 _ _ q
    · rw [xa_up_n _ _ e]; exact hcl j hj
  obtain ⟨T, N, hg⟩ := hg
  exact va_astq (cl := K.2.1) (A := A) (r := (K.2.2.2.2.2, T, N)) C.1 C.2.1 C.k rp.1 rp.2.1 rp.2.2.1 a 3 b ci hw (C.ty rfl) hwb hg hi hd (fun H1 locs1 hP1 hD1 hS1 => by
    have efun : va_up (fun j => (f j).map ad) i.toNatClampNeg (some (ad b)) = fun j => (va_up f i.toNatClampNeg (some b) j).map ad := by
      funext j
      by_cases e : j = i.toNatClampNeg
      · rw [e, va_up_self, va_up_self]; rfl
      · rw [va_up_ne _ _ e, va_up_ne _ _ e]
    have eset : (xa_w Z.2.1 Z.2.2.1 ad h).set a (ad a, .inl ((Z.2.1.getD 3 (0, .int)).1, n, .inr (.inr (.inr (.inr (va_up (fun j => (f j).map ad) i.toNatClampNeg (some (ad b)))))))) = xa_w Z.2.1 Z.2.2.1 ad (h.1, xa_up h.2 a (.inl (3, n, .inr (.inr (.inr (.inr (va_up f i.toNatClampNeg (some b)))))))) := by
      rw [← xa_w_set, efun]; rfl
    rw [eset] at hP1 hD1
    exact (k p e R s m args below meth c A H1 locs1 cells slots ad sl C hc hs ⟨hP1, hD1, hS1, ecl⟩ lv (xa_oks_t (xa_oks_t (xa_oks_t ok)))))
set_option maxHeartbeats 2000000 in
theorem xs_tload : xr_tload K Z.2.2.2 (xa_W l K Z) := by
  intro d y pc ls st h mc ms Q n' j i hd hj hi k p e R s m args below meth c A H locs cells slots ad sl C hc hs rp lv ok
  obtain ⟨hd, rfl⟩ := hd
  exact va_ti C.1 C.2.1 (C.g.2.2.2.1 j hj) rp.2.2.1 hi rfl hd (k p e R s m args below meth c A H locs cells slots ad sl C hc hs rp lv (xa_oks_i (xa_oks_t (xa_oks_t ok))))
set_option maxHeartbeats 2000000 in
theorem xs_tlen : xr_tlen K Z.2.2.2 (xa_W l K Z) := by
  intro d y pc ls st h mc ms Q n' j v hd hj hv k p e R s m args below meth c A H locs cells slots ad sl C hc hs rp lv ok
  obtain ⟨hd, rfl⟩ := hd
  exact va_tlen C.1 C.2.1 (C.g.2.2.2.1 j hj) rp.2.2.1 hv hd (k p e R s m args below meth c A H locs cells slots ad sl C hc hs rp lv (xa_oks_i (xa_oks_t ok)))
set_option maxHeartbeats 2000000 in
theorem xs_gets : xr_gets K (xa_W l K Z) := by
  intro d y pc ls st h mc ms Q n' i hd hl k p e R s m args below meth c A H locs cells slots ad sl C hc hs rp lv ok
  obtain ⟨hd, rfl⟩ := hd
  rcases hl with hl | ⟨host, hl⟩
  · exact va_gets C.1 C.2.1 C.g.2.2.2.2.1 rp.2.2.1 C.o (C.ts args _ hl) (fun _ q => q) hd (k p e R s m args below meth c A H locs cells slots ad sl C hc hs rp lv (xa_oks_c xa_ok_t ok))
  · exact va_getsN C.1 C.2.1 C.g.2.2.2.2.1 rp.2.2.1 C.o (C.ts args _ hl) (fun _ q => q) hd (k p e R s m args below meth c A H locs cells slots ad sl C hc hs rp lv (xa_oks_c xa_ok_t ok))
set_option maxHeartbeats 2000000 in
theorem xs_iret : xr_iret K (xa_W l K Z) := by
  intro d y pc ls st h mc ms Q n' v ty hd hr hn hq p e R s m args below meth c A H locs cells slots ad sl C hc hs rp lv ok
  obtain ⟨hd, rfl⟩ := hd
  exact xa_post (xa_end C hc hs rp (v := some (.int v)) hq (fun w e => by cases e; exact xa_ok_i)) (W.zret (Qc := fun _ _ o t => o = .returned (some (.int v)) ∧ t.heap = H) (free := A) C.1 C.2.1 (C.2.2.2.1.trans hr) hn (fun t ht _ => ⟨rfl, ht⟩) rp.2.2.1.2.2 hd C.l)
set_option maxHeartbeats 2000000 in
theorem xs_vret : xr_vret K (xa_W l K Z) := by
  intro d y pc ls st h mc ms Q n' hd hr hq p e R s m args below meth c A H locs cells slots ad sl C hc hs rp lv ok
  obtain ⟨hd, rfl⟩ := hd
  exact xa_post (xa_end C hc hs rp (v := none) hq (fun w e => by cases e)) (W.vret (Qc := fun _ _ o t => o = .returned none ∧ t.heap = H) (free := A) C.1 C.2.1 (C.2.2.2.1.trans hr) (fun t ht _ => ⟨rfl, ht⟩) rp.2.2.1.2.2 hd C.l)
set_option maxHeartbeats 2000000 in
theorem xs_aret : xr_aret K (xa_W l K Z) := by
  intro d y pc ls st h mc ms Q n' a ty hd hr hty hq p e R s m args below meth c A H locs cells slots ad sl C hc hs rp lv ok
  obtain ⟨hd, rfl⟩ := hd
  exact xa_post (xa_end C hc hs rp (v := some (.ref a)) hq (fun w e => by cases e; exact xa_oks_h ok)) (W.aret (Qc := fun _ _ o t => o = .returned (some (.ref (ad a))) ∧ t.heap = H) (free := A) C.1 C.2.1 (C.2.2.2.1.trans hr) hty (Or.inr ⟨_, rfl⟩) (fun t ht _ => ⟨rfl, ht⟩) rp.2.2.1.2.2 hd C.l)
set_option maxHeartbeats 2000000 in
theorem xs_oinit : xr_oinit K (xa_W l K Z) := by
  intro d y pc ls st h mc ms Q n' i a hd h1 h2 h3 hw k p e R s m args below meth c A H locs cells slots ad sl C hc hs rp lv ok
  obtain ⟨hd, rfl⟩ := hd
  refine W.objInit C.1 C.2.1 C.o (C.ts args _ h1) (C.ts args _ h2) (C.ts args _ h3) rfl (lv.1.1.trans C.2.2.1.symm) rfl hd (by have := C.rm.1; omega) (by have := C.rm.2; rw [xa_sum]; simp only [JFrame.monitorRoom]; omega) ?_
  exact (k p e R s m args below meth c A H locs cells slots ad sl C hc hs rp lv (xa_oks_t ok))
set_option maxHeartbeats 2000000 in
theorem xs_new : xr_new K (xa_W l K Z) := by
  intro d y pc ls st h mc ms Q n' i ci N fs hd hn k p e R s m args below meth c A H locs cells slots ad sl C hc hs rp lv ok
  obtain ⟨hd, rfl⟩ := hd
  obtain ⟨Cn, T, ty0, hk, hcl, hinst, hini, hfs, hnr⟩ := hn
  refine xa_post (fun t q => q) (va_new (cl := K.2.1) (A := A) C.1 C.2.1 (C.ts args) hk.2.1 ty0 hk.2.2.1 C.o (C.ts args _ hcl) (C.ts args _ hinst) (C.ts args _ hini) C.k rp.1 rp.2.1 rp.2.2.1 C.a hk.1 hfs (by omega) (by omega) hd (fun q H1 hP1 hD1 hS1 => ?_))
  have e1 : fs.map (xa_tr Z.2.2.1 (xa_up ad h.1 q)) = fs := xa_norefs hnr
  have ew := xa_w_push (tys := Z.2.1) (tb := Z.2.2.1) (ad := ad) (h := h) (q := q) (e := .inr (ci, fs)) rp.2.2.2
  rw [show xa_trE Z.2.1 Z.2.2.1 (xa_up ad h.1 q) (.inr (ci, fs)) = .inr (ci, fs) from congrArg (fun z => (Sum.inr (ci, z) : va_E)) e1] at ew
  rw [ew] at hP1 hD1
  have hag : ∀ j, j < h.1 → xa_up ad h.1 q j = ad j := fun j hj => xa_up_n ad q (Nat.ne_of_lt hj)
  refine xa_post (fun t z => xa_E.m (ad := ad) (n := h.1) (Nat.le_succ _) hag (xa_E.c (mc' := cells + 1 + mc) (ms' := slots + N + ms) (by omega) (by omega) z)) ?_
  have kk := k p e R s m args below meth c A H1 locs (cells + 1) (slots + N) (xa_up ad h.1 q) sl C (by omega) (by omega) ⟨hP1, hD1, hS1, xa_okpush rp.2.2.2 (fun v hv => xa_ok_of_norefs hnr v hv)⟩ (xa_lv_m lv (Nat.le_succ _) hag) (xa_oks_c (xa_ok_r (Nat.lt_succ_self _)) (xa_oks_m (Nat.le_succ _) ok))
  have e2 : (Value.ref h.1 :: st).map (xa_tr Z.2.2.1 (xa_up ad h.1 q)) = .ref q :: st.map (xa_tr Z.2.2.1 ad) := by
    show Value.ref (xa_up ad h.1 q h.1) :: st.map (xa_tr Z.2.2.1 (xa_up ad h.1 q)) = _
    rw [xa_up_s, xa_trs_ag hag ok]
  rw [e2] at kk
  exact kk
set_option maxHeartbeats 2000000 in
theorem xs_newI : xr_newI K (xa_W l K Z) := by
  intro d y pc ls st h mc ms Q n' n N hd hw hn0 hN hb k p e R s m args below meth c A H locs cells slots ad sl C hc hs rp lv ok
  obtain ⟨hd, rfl⟩ := hd
  have hty := C.ty (t := 0) rfl
  refine va_newaK C.1 C.2.1 (atype := .int) (C.ts args _ hw) rfl hd rfl hn0 hN hb (by omega) (by omega) rfl (fun H1 cA e1 z1 o1 hAr hNm => ?_)
  have ecA : cA = (Z.2.1.getD 0 (0, .int)).1 := Option.some.inj (hNm.symm.trans (C.k.2 0 _ hty).2)
  have hk9 : ∀ (j : Nat) (x : Nat × va_E), (xa_w Z.2.1 Z.2.2.1 ad h)[j]? = some x → H1[x.1]? = H[x.1]? := fun j x hx => o1 x.1 ((rp.1 j x hx).lt)
  have hP1 : va_P Z.1 K.2.1 (xa_w Z.2.1 Z.2.2.1 ad h ++ [(H.size, .inl (cA, N, .inl (fun _ => 0)))]) H1 := (rp.1.kept hk9).app (fun j x hx => by
    have hz : j < 1 := (List.getElem?_eq_some_iff.mp hx).1
    rw [show j = 0 by omega] at hx
    cases hx
    show H1[H.size]? = some (vp_cell cA (N, .inl (fun _ => 0)))
    rw [e1]; rfl)
  have hD1 : va_D A (xa_w Z.2.1 Z.2.2.1 ad h ++ [(H.size, .inl (cA, N, .inl (fun _ => 0)))]) := rp.2.1.push rp.1 rfl (C.a _ rp.2.2.1.1)
  have hS1 : va_S A s.heap H1 locs := ⟨Nat.le_trans rp.2.2.1.1 (by omega), fun x h1 h2 => (o1 x (Nat.lt_of_lt_of_le h1 rp.2.2.1.1)).trans (rp.2.2.1.2.1 x h1 h2), rp.2.2.1.2.2⟩
  have ew := xa_w_push (tys := Z.2.1) (tb := Z.2.2.1) (ad := ad) (h := h) (q := H.size) (e := .inl (0, N, .inl (fun _ => 0))) rp.2.2.2
  rw [show xa_trE Z.2.1 Z.2.2.1 (xa_up ad h.1 H.size) (.inl (0, N, .inl (fun _ => 0))) = .inl (cA, N, .inl (fun _ => 0)) by rw [ecA]; rfl] at ew
  rw [ew] at hP1 hD1
  have hag : ∀ j, j < h.1 → xa_up ad h.1 H.size j = ad j := fun j hj => xa_up_n ad H.size (Nat.ne_of_lt hj)
  refine xa_post (fun t z => xa_E.m (ad := ad) (n := h.1) (Nat.le_succ _) hag (xa_E.c (mc' := cells + 1 + mc) (ms' := slots + N + ms) (by omega) (by omega) z)) ?_
  have kk := k p e R s m args below meth c A H1 locs (cells + 1) (slots + N) (xa_up ad h.1 H.size) sl C (by omega) (by omega) ⟨hP1, hD1, hS1, xa_okpushA rp.2.2.2 trivial⟩ (xa_lv_m lv (Nat.le_succ _) hag) (xa_oks_c (xa_ok_r (Nat.lt_succ_self _)) (xa_oks_m (Nat.le_succ _) (xa_oks_t ok)))
  have e2 : (Value.ref h.1 :: st).map (xa_tr Z.2.2.1 (xa_up ad h.1 H.size)) = .ref H.size :: st.map (xa_tr Z.2.2.1 ad) := by
    show Value.ref (xa_up ad h.1 H.size h.1) :: st.map (xa_tr Z.2.2.1 (xa_up ad h.1 H.size)) = _
    rw [xa_up_s, xa_trs_ag hag (xa_oks_t ok)]
  rw [e2] at kk
  exact kk
set_option maxHeartbeats 2000000 in
theorem xs_newZ : xr_newZ K (xa_W l K Z) := by
  intro d y pc ls st h mc ms Q n' n N hd hw hn0 hN hb k p e R s m args below meth c A H locs cells slots ad sl C hc hs rp lv ok
  obtain ⟨hd, rfl⟩ := hd
  have hty := C.ty (t := 1) rfl
  refine va_newaK C.1 C.2.1 (atype := .boolean) (C.ts args _ hw) rfl hd rfl hn0 hN hb (by omega) (by omega) rfl (fun H1 cA e1 z1 o1 hAr hNm => ?_)
  have ecA : cA = (Z.2.1.getD 1 (0, .int)).1 := Option.some.inj (hNm.symm.trans (C.k.2 1 _ hty).2)
  have hk9 : ∀ (j : Nat) (x : Nat × va_E), (xa_w Z.2.1 Z.2.2.1 ad h)[j]? = some x → H1[x.1]? = H[x.1]? := fun j x hx => o1 x.1 ((rp.1 j x hx).lt)
  have hP1 : va_P Z.1 K.2.1 (xa_w Z.2.1 Z.2.2.1 ad h ++ [(H.size, .inl (cA, N, .inl (fun _ => 0)))]) H1 := (rp.1.kept hk9).app (fun j x hx => by
    have hz : j < 1 := (List.getElem?_eq_some_iff.mp hx).1
    rw [show j = 0 by omega] at hx
    cases hx
    show H1[H.size]? = some (vp_cell cA (N, .inl (fun _ => 0)))
    rw [e1]; rfl)
  have hD1 : va_D A (xa_w Z.2.1 Z.2.2.1 ad h ++ [(H.size, .inl (cA, N, .inl (fun _ => 0)))]) := rp.2.1.push rp.1 rfl (C.a _ rp.2.2.1.1)
  have hS1 : va_S A s.heap H1 locs := ⟨Nat.le_trans rp.2.2.1.1 (by omega), fun x h1 h2 => (o1 x (Nat.lt_of_lt_of_le h1 rp.2.2.1.1)).trans (rp.2.2.1.2.1 x h1 h2), rp.2.2.1.2.2⟩
  have ew := xa_w_push (tys := Z.2.1) (tb := Z.2.2.1) (ad := ad) (h := h) (q := H.size) (e := .inl (1, N, .inl (fun _ => 0))) rp.2.2.2
  rw [show xa_trE Z.2.1 Z.2.2.1 (xa_up ad h.1 H.size) (.inl (1, N, .inl (fun _ => 0))) = .inl (cA, N, .inl (fun _ => 0)) by rw [ecA]; rfl] at ew
  rw [ew] at hP1 hD1
  have hag : ∀ j, j < h.1 → xa_up ad h.1 H.size j = ad j := fun j hj => xa_up_n ad H.size (Nat.ne_of_lt hj)
  refine xa_post (fun t z => xa_E.m (ad := ad) (n := h.1) (Nat.le_succ _) hag (xa_E.c (mc' := cells + 1 + mc) (ms' := slots + N + ms) (by omega) (by omega) z)) ?_
  have kk := k p e R s m args below meth c A H1 locs (cells + 1) (slots + N) (xa_up ad h.1 H.size) sl C (by omega) (by omega) ⟨hP1, hD1, hS1, xa_okpushA rp.2.2.2 trivial⟩ (xa_lv_m lv (Nat.le_succ _) hag) (xa_oks_c (xa_ok_r (Nat.lt_succ_self _)) (xa_oks_m (Nat.le_succ _) (xa_oks_t ok)))
  have e2 : (Value.ref h.1 :: st).map (xa_tr Z.2.2.1 (xa_up ad h.1 H.size)) = .ref H.size :: st.map (xa_tr Z.2.2.1 ad) := by
    show Value.ref (xa_up ad h.1 H.size h.1) :: st.map (xa_tr Z.2.2.1 (xa_up ad h.1 H.size)) = _
    rw [xa_up_s, xa_trs_ag hag (xa_oks_t ok)]
  rw [e2] at kk
  exact kk
set_option maxHeartbeats 2000000 in
theorem xs_newL : xr_newL K (xa_W l K Z) := by
  intro d y pc ls st h mc ms Q n' n N hd hw hn0 hN hb k p e R s m args below meth c A H locs cells slots ad sl C hc hs rp lv ok
  obtain ⟨hd, rfl⟩ := hd
  have hty := C.ty (t := 2) rfl
  refine va_newaK C.1 C.2.1 (atype := .long) (C.ts args _ hw) rfl hd rfl hn0 hN hb (by omega) (by omega) rfl (fun H1 cA e1 z1 o1 hAr hNm => ?_)
  have ecA : cA = (Z.2.1.getD 2 (0, .int)).1 := Option.some.inj (hNm.symm.trans (C.k.2 2 _ hty).2)
  have hk9 : ∀ (j : Nat) (x : Nat × va_E), (xa_w Z.2.1 Z.2.2.1 ad h)[j]? = some x → H1[x.1]? = H[x.1]? := fun j x hx => o1 x.1 ((rp.1 j x hx).lt)
  have hP1 : va_P Z.1 K.2.1 (xa_w Z.2.1 Z.2.2.1 ad h ++ [(H.size, .inl (cA, N, .inr (.inl (fun _ => 0))))]) H1 := (rp.1.kept hk9).app (fun j x hx => by
    have hz : j < 1 := (List.getElem?_eq_some_iff.mp hx).1
    rw [show j = 0 by omega] at hx
    cases hx
    show H1[H.size]? = some (vp_cell cA (N, .inr (.inl (fun _ => 0))))
    rw [e1]; rfl)
  have hD1 : va_D A (xa_w Z.2.1 Z.2.2.1 ad h ++ [(H.size, .inl (cA, N, .inr (.inl (fun _ => 0))))]) := rp.2.1.push rp.1 rfl (C.a _ rp.2.2.1.1)
  have hS1 : va_S A s.heap H1 locs := ⟨Nat.le_trans rp.2.2.1.1 (by omega), fun x h1 h2 => (o1 x (Nat.lt_of_lt_of_le h1 rp.2.2.1.1)).trans (rp.2.2.1.2.1 x h1 h2), rp.2.2.1.2.2⟩
  have ew := xa_w_push (tys := Z.2.1) (tb := Z.2.2.1) (ad := ad) (h := h) (q := H.size) (e := .inl (2, N, .inr (.inl (fun _ => 0)))) rp.2.2.2
  rw [show xa_trE Z.2.1 Z.2.2.1 (xa_up ad h.1 H.size) (.inl (2, N, .inr (.inl (fun _ => 0)))) = .inl (cA, N, .inr (.inl (fun _ => 0))) by rw [ecA]; rfl] at ew
  rw [ew] at hP1 hD1
  have hag : ∀ j, j < h.1 → xa_up ad h.1 H.size j = ad j := fun j hj => xa_up_n ad H.size (Nat.ne_of_lt hj)
  refine xa_post (fun t z => xa_E.m (ad := ad) (n := h.1) (Nat.le_succ _) hag (xa_E.c (mc' := cells + 1 + mc) (ms' := slots + N + ms) (by omega) (by omega) z)) ?_
  have kk := k p e R s m args below meth c A H1 locs (cells + 1) (slots + N) (xa_up ad h.1 H.size) sl C (by omega) (by omega) ⟨hP1, hD1, hS1, xa_okpushA rp.2.2.2 trivial⟩ (xa_lv_m lv (Nat.le_succ _) hag) (xa_oks_c (xa_ok_r (Nat.lt_succ_self _)) (xa_oks_m (Nat.le_succ _) (xa_oks_t ok)))
  have e2 : (Value.ref h.1 :: st).map (xa_tr Z.2.2.1 (xa_up ad h.1 H.size)) = .ref H.size :: st.map (xa_tr Z.2.2.1 ad) := by
    show Value.ref (xa_up ad h.1 H.size h.1) :: st.map (xa_tr Z.2.2.1 (xa_up ad h.1 H.size)) = _
    rw [xa_up_s, xa_trs_ag hag (xa_oks_t ok)]
  rw [e2] at kk
  exact kk
set_option maxHeartbeats 2000000 in
theorem xs_newQ : xr_newQ K (xa_W l K Z) := by
  intro d y pc ls st h mc ms Q n' i n N hd hw hw2 hn0 hN hb k p e R s m args below meth c A H locs cells slots ad sl C hc hs rp lv ok
  obtain ⟨hd, rfl⟩ := hd
  have hty := C.ty (t := 3) rfl
  refine va_newq (cl := K.2.1) (A := A) C.1 C.2.1 C.o (C.ts args _ hw) (va_AO.of (C.ts args _ hw2)) C.k rp.1 rp.2.1 rp.2.2.1 C.a hn0 hN hb (by omega) (by omega) hd (fun q cA H1 hK1 hP1 hD1 hS1 => ?_)
  have ecA : cA = (Z.2.1.getD 3 (0, .int)).1 := by
    have h1 := (hK1.2 Z.2.1.length (cA, .object K.2.2.2.2.2) (by simp)).2
    have h2 := (C.k.2 3 _ hty).2
    obtain ⟨_, _, _, _, _, h3⟩ := h1
    obtain ⟨_, _, _, _, _, h4⟩ := h2
    exact Option.some.inj (h3.symm.trans h4)
  have ew := xa_w_push (tys := Z.2.1) (tb := Z.2.2.1) (ad := ad) (h := h) (q := q) (e := .inl (3, N, .inr (.inr (.inr (.inr (fun _ => none)))))) rp.2.2.2
  rw [show xa_trE Z.2.1 Z.2.2.1 (xa_up ad h.1 q) (.inl (3, N, .inr (.inr (.inr (.inr (fun _ => none)))))) = .inl (cA, N, .inr (.inr (.inr (.inr (fun _ => none))))) by rw [ecA]; rfl] at ew
  rw [ew] at hP1 hD1
  have hag : ∀ j, j < h.1 → xa_up ad h.1 q j = ad j := fun j hj => xa_up_n ad q (Nat.ne_of_lt hj)
  refine xa_post (fun t z => xa_E.m (ad := ad) (n := h.1) (Nat.le_succ _) hag (xa_E.c (mc' := cells + 1 + mc) (ms' := slots + N + ms) (by omega) (by omega) z)) ?_
  have kk := k p e R s m args below meth c A H1 locs (cells + 1) (slots + N) (xa_up ad h.1 q) sl C (by omega) (by omega) ⟨hP1, hD1, hS1, xa_okpushA rp.2.2.2 (fun j a z => by cases z)⟩ (xa_lv_m lv (Nat.le_succ _) hag) (xa_oks_c (xa_ok_r (Nat.lt_succ_self _)) (xa_oks_m (Nat.le_succ _) (xa_oks_t ok)))
  have e2 : (Value.ref h.1 :: st).map (xa_tr Z.2.2.1 (xa_up ad h.1 q)) = .ref q :: st.map (xa_tr Z.2.2.1 ad) := by
    show Value.ref (xa_up ad h.1 q h.1) :: st.map (xa_tr Z.2.2.1 (xa_up ad h.1 q)) = _
    rw [xa_up_s, xa_trs_ag hag (xa_oks_t ok)]
  rw [e2] at kk
  exact kk
set_option maxHeartbeats 2000000 in
theorem xs_callV : xr_callV K (xa_W l K Z) := by
  intro d y pc ls st h mc ms Q n' i y' ci fs a As mc' ms' P hd hl hh hca hw hP k1 k2 p e R s m args below meth c A H locs cells slots ad sl C hc hs rp lv ok
  obtain ⟨hd, rfl⟩ := hd
  exact xa_sV hd hl hh hca hw hP k1 k2 C hc hs rp lv ok
set_option maxHeartbeats 2000000 in
theorem xs_callS : xr_callS K (xa_W l K Z) := by
  intro d y pc ls st h mc ms Q n' i y' As mc' ms' P hd hl hca hw hP k1 k2 p e R s m args below meth c A H locs cells slots ad sl C hc hs rp lv ok
  obtain ⟨hd, rfl⟩ := hd
  exact xa_sS hd hl hca hw hP k1 k2 C hc hs rp lv ok
set_option maxHeartbeats 2000000 in
theorem xs_callI : xr_callI K (xa_W l K Z) := by
  intro d y pc ls st h mc ms Q n' i y' a As mc' ms' P hd hl hca hw hP k1 k2 p e R s m args below meth c A H locs cells slots ad sl C hc hs rp lv ok
  obtain ⟨hd, rfl⟩ := hd
  exact xa_sI hd hl hca hw hP k1 k2 C hc hs rp lv ok
set_option maxHeartbeats 2000000 in
theorem xs_mmax : xr_mmax K (xa_W l K Z) := by
  intro d y pc ls st h mc ms Q n' i x z hd h1 h2 h3 h4 hw k p e R s m args below meth c A H locs cells slots ad sl C hc hs rp lv ok
  obtain ⟨hd, rfl⟩ := hd
  refine va_mmax C.1 C.2.1 (C.2.2.1.trans lv.1.1.symm) C.o (C.ts args _ h1) (C.ts args _ h2) (C.ts args _ h3) (C.ts args _ h4) (by have := C.rm.1; omega) (by have := C.rm.2; rw [xa_sum]; omega) (by omega) (by omega) hd ?_
  exact (k p e R s m args below meth c A H locs cells slots ad sl C hc hs rp lv (xa_oks_i (xa_oks_t (xa_oks_t ok))))
set_option maxHeartbeats 2000000 in
theorem xs_ldcw : xr_ldcw K (xa_W l K Z) := by
  intro d y pc ls st h mc ms Q n' i v hd hv k p e R s m args below meth c A H locs cells slots ad sl C hc hs rp lv ok
  obtain ⟨hd, rfl⟩ := hd
  exact lv_ldcw C.1 C.2.1 C.o (C.ts args _ hv) hd (k p e R s m args below meth c A H locs cells slots ad sl C hc hs rp lv (xa_oks_i ok))
set_option maxHeartbeats 2000000 in
theorem xs_thr (hnt : xa_nt l) : xr_thr K (xa_W l K Z) := by
  intro d y pc ls st h mc ms Q i1 i2 i3 E msg hd5 hE h1 h2 h3 ht hw hQ p e R s m args below meth c A H locs cells slots ad sl C hc hs rp lv ok
  exact xa_sThr hnt hd5 hE h1 h2 h3 ht hw hQ C hc hs rp lv
set_option maxHeartbeats 2000000 in
theorem xs_callVo : xr_callVo K (xa_W l K Z) := by
  intro d y pc ls st h mc ms Q n' i y' ci fs a As mc' ms' P hd hl hh hca hw ht hP k1 k2 p e R s m args below meth c A H locs cells slots ad sl C hc hs rp lv ok
  obtain ⟨hd, rfl⟩ := hd
  exact xa_sVo hd hl hh hca hw ht hP k1 k2 C hc hs rp lv ok
set_option maxHeartbeats 2000000 in
theorem xs_callVc : xr_callVc K (xa_W l K Z) := by
  intro d y pc ls st h mc ms Q n' i y' ci fs a As mc' ms' P rs kf n2 hd hl hh hca hw ht hP k1 k2 k3 p e R s m args below meth c A H locs cells slots ad sl C hc hs rp lv ok
  obtain ⟨hd, rfl⟩ := hd
  exact xa_sVc hd hl hh hca hw ht hP k1 k2 k3 C hc hs rp lv ok
theorem xa_sound (hnt : xa_nt l) : xa_cl K Z.2.2.2 (xa_W l K Z) := ⟨xs_iconst, xs_bipush, xs_sipush, xs_ldc, xs_iload_n, xs_iload, xs_aload_n, xs_aload_nT, xs_aload, xs_aloadT, xs_istore_n, xs_istore, xs_astore_n, xs_astore, xs_iinc, xs_iadd, xs_isub, xs_imul, xs_iand, xs_ior, xs_ixor, xs_ishl, xs_ishr, xs_iushr, xs_idiv, xs_irem, xs_i2l, xs_lcmp, xs_dup, xs_pop, xs_dup2, xs_dup_x1, xs_if_eq, xs_if_ne, xs_if_lt, xs_if_ge, xs_if_gt, xs_if_le, xs_icmp_eq, xs_icmp_ne, xs_icmp_lt, xs_icmp_ge, xs_icmp_gt, xs_icmp_le, xs_goto, xs_tableOut, xs_tableIn, xs_lookup, xs_less, xs_wide, xs_get, xs_put, xs_putF, xs_iaload, xs_baload, xs_laload, xs_aaload, xs_iastore, xs_bastore, xs_lastore, xs_aastore, xs_tload, xs_tlen, xs_gets, xs_iret, xs_vret, xs_aret, xs_oinit, xs_new, xs_newI, xs_newZ, xs_newL, xs_newQ, xs_callV, xs_callS, xs_callI, xs_mmax, xs_ldcw, xs_thr hnt, xs_callVo, xs_callVc⟩
end XSound
