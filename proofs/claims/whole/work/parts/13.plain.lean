section SI
variable {l : Launch} {R : Rx} {d mid pc nx a : Nat} {c0 : Int32} {w : Int64} {x : List Nat} {ls : Lx} {st : List Value} {S S1 : Sx} {r : Option Value}
theorem s_iconst {n : Int} (hok : ckx (mtx mid) (pc, .iconst n, nx, a, c0, w, x) = true) (hnd : ∀ v ∈ ndx (mtx mid) (pc, .iconst n, nx, a, c0, w, x), v ∈ lw_tbl) (hR : HRx l R) (h : stp px R d mid (pc, .iconst n, nx, a, c0, w, x) ls st S = some (r, S1)) : Simx l d mid pc ls st S r S1 := by
  have hok : (decide (decode (mtx mid).2.1 pc = .ok (.iconst n, nx - pc)) && (decide (Int32.ofInt n = c0) && Nat.beq nx (pc + 1))) = true := hok
  obtain ⟨hd, hk⟩ := and_s hok
  have hd := of_decide_eq_true hd
  obtain ⟨hc, hn⟩ := and_s hk
  have hc := of_decide_eq_true hc
  exact sp_st 1 (st' := .int c0 :: st) hd hn hR h (fun hC hd _ k => lv_iconst hC.1 hC.2.1 hd hc k)
theorem s_bipush {n : Int} (hok : ckx (mtx mid) (pc, .bipush n, nx, a, c0, w, x) = true) (hnd : ∀ v ∈ ndx (mtx mid) (pc, .bipush n, nx, a, c0, w, x), v ∈ lw_tbl) (hR : HRx l R) (h : stp px R d mid (pc, .bipush n, nx, a, c0, w, x) ls st S = some (r, S1)) : Simx l d mid pc ls st S r S1 := by
  have hok : (decide (decode (mtx mid).2.1 pc = .ok (.bipush n, nx - pc)) && (decide ((Int8.ofInt n).toInt32 = c0) && Nat.beq nx (pc + 2))) = true := hok
  obtain ⟨hd, hk⟩ := and_s hok
  have hd := of_decide_eq_true hd
  obtain ⟨hc, hn⟩ := and_s hk
  have hc := of_decide_eq_true hc
  exact sp_st 2 (st' := .int c0 :: st) hd hn hR h (fun hC hd _ k => lv_bipush hC.1 hC.2.1 hd hc k)
theorem s_sipush {n : Int} (hok : ckx (mtx mid) (pc, .sipush n, nx, a, c0, w, x) = true) (hnd : ∀ v ∈ ndx (mtx mid) (pc, .sipush n, nx, a, c0, w, x), v ∈ lw_tbl) (hR : HRx l R) (h : stp px R d mid (pc, .sipush n, nx, a, c0, w, x) ls st S = some (r, S1)) : Simx l d mid pc ls st S r S1 := by
  have hok : (decide (decode (mtx mid).2.1 pc = .ok (.sipush n, nx - pc)) && (decide ((Int16.ofInt n).toInt32 = c0) && Nat.beq nx (pc + 3))) = true := hok
  obtain ⟨hd, hk⟩ := and_s hok
  have hd := of_decide_eq_true hd
  obtain ⟨hc, hn⟩ := and_s hk
  have hc := of_decide_eq_true hc
  exact sp_st 3 (st' := .int c0 :: st) hd hn hR h (fun hC hd _ k => lv_sipush hC.1 hC.2.1 hd hc k)
theorem s_lconst {n : Fin 2} (hok : ckx (mtx mid) (pc, .lconst n, nx, a, c0, w, x) = true) (hnd : ∀ v ∈ ndx (mtx mid) (pc, .lconst n, nx, a, c0, w, x), v ∈ lw_tbl) (hR : HRx l R) (h : stp px R d mid (pc, .lconst n, nx, a, c0, w, x) ls st S = some (r, S1)) : Simx l d mid pc ls st S r S1 := by
  have hok : (decide (decode (mtx mid).2.1 pc = .ok (.lconst n, nx - pc)) && (decide (Int64.ofNat (n : Nat) = w) && Nat.beq nx (pc + 1))) = true := hok
  obtain ⟨hd, hk⟩ := and_s hok
  have hd := of_decide_eq_true hd
  obtain ⟨hc, hn⟩ := and_s hk
  have hc := of_decide_eq_true hc
  exact sp_st 1 (st' := .long w :: st) hd hn hR h (fun hC hd _ k => lv_lconst hC.1 hC.2.1 hd hc k)
theorem s_ldc {n : Nat} (hok : ckx (mtx mid) (pc, .ldc n, nx, a, c0, w, x) = true) (hnd : ∀ v ∈ ndx (mtx mid) (pc, .ldc n, nx, a, c0, w, x), v ∈ lw_tbl) (hR : HRx l R) (h : stp px R d mid (pc, .ldc n, nx, a, c0, w, x) ls st S = some (r, S1)) : Simx l d mid pc ls st S r S1 := by
  have hok : (decide (decode (mtx mid).2.1 pc = .ok (.ldc n, nx - pc)) && (Nat.beq nx (pc + 2))) = true := hok
  obtain ⟨hd, hk⟩ := and_s hok
  have hd := of_decide_eq_true hd
  exact sp_st 2 (st' := .int c0 :: st) hd hk hR h (fun hC hd _ k => lv_ldc hC.1 hC.2.1 hC.2.2.2.1 (hC.2.2.2.2.2 _ (tbx_in (hnd _ List.mem_cons_self) rfl)) hd k)
theorem s_ldc_w {n : Nat} (hok : ckx (mtx mid) (pc, .ldc_w n, nx, a, c0, w, x) = true) (hnd : ∀ v ∈ ndx (mtx mid) (pc, .ldc_w n, nx, a, c0, w, x), v ∈ lw_tbl) (hR : HRx l R) (h : stp px R d mid (pc, .ldc_w n, nx, a, c0, w, x) ls st S = some (r, S1)) : Simx l d mid pc ls st S r S1 := by
  have hok : (decide (decode (mtx mid).2.1 pc = .ok (.ldc_w n, nx - pc)) && (Nat.beq nx (pc + 3))) = true := hok
  obtain ⟨hd, hk⟩ := and_s hok
  have hd := of_decide_eq_true hd
  exact sp_st 3 (st' := .int c0 :: st) hd hk hR h (fun hC hd _ k => lv_ldcw hC.1 hC.2.1 hC.2.2.2.1 (hC.2.2.2.2.2 _ (tbx_in (hnd _ List.mem_cons_self) rfl)) hd k)
theorem s_ldc2_w {n : Nat} (hok : ckx (mtx mid) (pc, .ldc2_w n, nx, a, c0, w, x) = true) (hnd : ∀ v ∈ ndx (mtx mid) (pc, .ldc2_w n, nx, a, c0, w, x), v ∈ lw_tbl) (hR : HRx l R) (h : stp px R d mid (pc, .ldc2_w n, nx, a, c0, w, x) ls st S = some (r, S1)) : Simx l d mid pc ls st S r S1 := by
  have hok : (decide (decode (mtx mid).2.1 pc = .ok (.ldc2_w n, nx - pc)) && (Nat.beq nx (pc + 3))) = true := hok
  obtain ⟨hd, hk⟩ := and_s hok
  have hd := of_decide_eq_true hd
  exact sp_st 3 (st' := .long w :: st) hd hk hR h (fun hC hd _ k => lv_ldc2 hC.1 hC.2.1 hC.2.2.2.1 (hC.2.2.2.2.2 _ (tbx_in (hnd _ List.mem_cons_self) rfl)) hd k)
theorem s_iload {n : Nat} (hok : ckx (mtx mid) (pc, .iload n, nx, a, c0, w, x) = true) (hnd : ∀ v ∈ ndx (mtx mid) (pc, .iload n, nx, a, c0, w, x), v ∈ lw_tbl) (hR : HRx l R) (h : stp px R d mid (pc, .iload n, nx, a, c0, w, x) ls st S = some (r, S1)) : Simx l d mid pc ls st S r S1 := by
  have hok : (decide (decode (mtx mid).2.1 pc = .ok (.iload n, nx - pc)) && (Nat.beq n a && Nat.beq nx (pc + 2))) = true := hok
  obtain ⟨hd, hk⟩ := and_s hok
  have hd := of_decide_eq_true hd
  obtain ⟨hc, hn⟩ := and_s hk
  have hc := beq_s hc
  subst hc
  obtain ⟨v, hv, h⟩ := o_i (f := fun v => R d mid nx ls (.int v :: st) S) h
  exact sp_st 2 (st' := .int v :: st) hd hn hR h (fun hC hd hl k => lv_iload hC.1 hC.2.1 hd (hl.2.2.2 _ _ hv) k)
theorem s_iload_n {n : Fin 4} (hok : ckx (mtx mid) (pc, .iload_n n, nx, a, c0, w, x) = true) (hnd : ∀ v ∈ ndx (mtx mid) (pc, .iload_n n, nx, a, c0, w, x), v ∈ lw_tbl) (hR : HRx l R) (h : stp px R d mid (pc, .iload_n n, nx, a, c0, w, x) ls st S = some (r, S1)) : Simx l d mid pc ls st S r S1 := by
  have hok : (decide (decode (mtx mid).2.1 pc = .ok (.iload_n n, nx - pc)) && (Nat.beq (n : Nat) a && Nat.beq nx (pc + 1))) = true := hok
  obtain ⟨hd, hk⟩ := and_s hok
  have hd := of_decide_eq_true hd
  obtain ⟨hc, hn⟩ := and_s hk
  have hc := beq_s hc
  obtain ⟨v, hv, h⟩ := o_i (f := fun v => R d mid nx ls (.int v :: st) S) h
  exact sp_st 1 (st' := .int v :: st) hd hn hR h (fun hC hd hl k => lv_iload_n hC.1 hC.2.1 hd hc (hl.2.2.2 _ _ hv) k)
theorem s_lload {n : Nat} (hok : ckx (mtx mid) (pc, .lload n, nx, a, c0, w, x) = true) (hnd : ∀ v ∈ ndx (mtx mid) (pc, .lload n, nx, a, c0, w, x), v ∈ lw_tbl) (hR : HRx l R) (h : stp px R d mid (pc, .lload n, nx, a, c0, w, x) ls st S = some (r, S1)) : Simx l d mid pc ls st S r S1 := by
  have hok : (decide (decode (mtx mid).2.1 pc = .ok (.lload n, nx - pc)) && (Nat.beq n a && Nat.beq nx (pc + 2))) = true := hok
  obtain ⟨hd, hk⟩ := and_s hok
  have hd := of_decide_eq_true hd
  obtain ⟨hc, hn⟩ := and_s hk
  have hc := beq_s hc
  subst hc
  obtain ⟨v, hv, h⟩ := o_l (f := fun v => R d mid nx ls (.long v :: st) S) h
  exact sp_st 2 (st' := .long v :: st) hd hn hR h (fun hC hd hl k => lv_lload hC.1 hC.2.1 hd (hl.2.2.2 _ _ hv) k)
theorem s_lload_n {n : Fin 4} (hok : ckx (mtx mid) (pc, .lload_n n, nx, a, c0, w, x) = true) (hnd : ∀ v ∈ ndx (mtx mid) (pc, .lload_n n, nx, a, c0, w, x), v ∈ lw_tbl) (hR : HRx l R) (h : stp px R d mid (pc, .lload_n n, nx, a, c0, w, x) ls st S = some (r, S1)) : Simx l d mid pc ls st S r S1 := by
  have hok : (decide (decode (mtx mid).2.1 pc = .ok (.lload_n n, nx - pc)) && (Nat.beq (n : Nat) a && Nat.beq nx (pc + 1))) = true := hok
  obtain ⟨hd, hk⟩ := and_s hok
  have hd := of_decide_eq_true hd
  obtain ⟨hc, hn⟩ := and_s hk
  have hc := beq_s hc
  obtain ⟨v, hv, h⟩ := o_l (f := fun v => R d mid nx ls (.long v :: st) S) h
  exact sp_st 1 (st' := .long v :: st) hd hn hR h (fun hC hd hl k => lv_lload_n hC.1 hC.2.1 hd hc (hl.2.2.2 _ _ hv) k)
theorem s_aload {n : Nat} (hok : ckx (mtx mid) (pc, .aload n, nx, a, c0, w, x) = true) (hnd : ∀ v ∈ ndx (mtx mid) (pc, .aload n, nx, a, c0, w, x), v ∈ lw_tbl) (hR : HRx l R) (h : stp px R d mid (pc, .aload n, nx, a, c0, w, x) ls st S = some (r, S1)) : Simx l d mid pc ls st S r S1 := by
  have hok : (decide (decode (mtx mid).2.1 pc = .ok (.aload n, nx - pc)) && (Nat.beq n a && Nat.beq nx (pc + 2))) = true := hok
  obtain ⟨hd, hk⟩ := and_s hok
  have hd := of_decide_eq_true hd
  obtain ⟨hc, hn⟩ := and_s hk
  have hc := beq_s hc
  subst hc
  obtain ⟨v, hv, h⟩ := o_r (f := fun v => R d mid nx ls (.ref v :: st) S) h
  exact sp_st 2 (st' := .ref v :: st) hd hn hR h (fun hC hd hl k => lv_aload hC.1 hC.2.1 hd (hl.2.2.2 _ _ hv) k)
theorem s_aload_n {n : Fin 4} (hok : ckx (mtx mid) (pc, .aload_n n, nx, a, c0, w, x) = true) (hnd : ∀ v ∈ ndx (mtx mid) (pc, .aload_n n, nx, a, c0, w, x), v ∈ lw_tbl) (hR : HRx l R) (h : stp px R d mid (pc, .aload_n n, nx, a, c0, w, x) ls st S = some (r, S1)) : Simx l d mid pc ls st S r S1 := by
  have hok : (decide (decode (mtx mid).2.1 pc = .ok (.aload_n n, nx - pc)) && (Nat.beq (n : Nat) a && Nat.beq nx (pc + 1))) = true := hok
  obtain ⟨hd, hk⟩ := and_s hok
  have hd := of_decide_eq_true hd
  obtain ⟨hc, hn⟩ := and_s hk
  have hc := beq_s hc
  obtain ⟨v, hv, h⟩ := o_r (f := fun v => R d mid nx ls (.ref v :: st) S) h
  exact sp_st 1 (st' := .ref v :: st) hd hn hR h (fun hC hd hl k => lv_aload_n hC.1 hC.2.1 hd hc (hl.2.2.2 _ _ hv) k)
theorem s_istore {n : Nat} (hok : ckx (mtx mid) (pc, .istore n, nx, a, c0, w, x) = true) (hnd : ∀ v ∈ ndx (mtx mid) (pc, .istore n, nx, a, c0, w, x), v ∈ lw_tbl) (hR : HRx l R) (h : stp px R d mid (pc, .istore n, nx, a, c0, w, x) ls st S = some (r, S1)) : Simx l d mid pc ls st S r S1 := by
  have hok : (decide (decode (mtx mid).2.1 pc = .ok (.istore n, nx - pc)) && (Nat.beq n a && Nat.beq nx (pc + 2))) = true := hok
  obtain ⟨hd, hk⟩ := and_s hok
  have hd := of_decide_eq_true hd
  obtain ⟨hc, hn⟩ := and_s hk
  have hc := beq_s hc
  subst hc
  obtain ⟨v, r0, rfl, h⟩ := m_i (f := fun v r0 => bif oks ls n && Nat.blt n ls.length then R d mid nx (ls.set n (some (.int v))) r0 S else none) h
  obtain ⟨g, h⟩ := c_t h
  obtain ⟨g1, g2⟩ := and_s g
  refine sp_lo 2 (st' := r0) hd hn hR h (fun hC hd hl k => ?_)
  have hi : n < (mtx mid).2.2.1 := by rw [← hl.1]; exact Nat.le_of_ble_eq_true g2
  exact lv_istore hC.1 hC.2.1 hd (lhx_has hl) hi rfl (fun ls' h' => k ls' (lhx_st1 (v := .int v) hl g1 hi h'))
theorem s_istore_n {n : Fin 4} (hok : ckx (mtx mid) (pc, .istore_n n, nx, a, c0, w, x) = true) (hnd : ∀ v ∈ ndx (mtx mid) (pc, .istore_n n, nx, a, c0, w, x), v ∈ lw_tbl) (hR : HRx l R) (h : stp px R d mid (pc, .istore_n n, nx, a, c0, w, x) ls st S = some (r, S1)) : Simx l d mid pc ls st S r S1 := by
  have hok : (decide (decode (mtx mid).2.1 pc = .ok (.istore_n n, nx - pc)) && (Nat.beq (n : Nat) a && Nat.beq nx (pc + 1))) = true := hok
  obtain ⟨hd, hk⟩ := and_s hok
  have hd := of_decide_eq_true hd
  obtain ⟨hc, hn⟩ := and_s hk
  have hc := beq_s hc
  obtain ⟨v, r0, rfl, h⟩ := m_i (f := fun v r0 => bif oks ls a && Nat.blt a ls.length then R d mid nx (ls.set a (some (.int v))) r0 S else none) h
  obtain ⟨g, h⟩ := c_t h
  obtain ⟨g1, g2⟩ := and_s g
  refine sp_lo 1 (st' := r0) hd hn hR h (fun hC hd hl k => ?_)
  have hi : a < (mtx mid).2.2.1 := by rw [← hl.1]; exact Nat.le_of_ble_eq_true g2
  exact lv_istore_n hC.1 hC.2.1 hd hc (lhx_has hl) hi rfl (fun ls' h' => k ls' (lhx_st1 (v := .int v) hl g1 hi h'))
theorem s_astore {n : Nat} (hok : ckx (mtx mid) (pc, .astore n, nx, a, c0, w, x) = true) (hnd : ∀ v ∈ ndx (mtx mid) (pc, .astore n, nx, a, c0, w, x), v ∈ lw_tbl) (hR : HRx l R) (h : stp px R d mid (pc, .astore n, nx, a, c0, w, x) ls st S = some (r, S1)) : Simx l d mid pc ls st S r S1 := by
  have hok : (decide (decode (mtx mid).2.1 pc = .ok (.astore n, nx - pc)) && (Nat.beq n a && Nat.beq nx (pc + 2))) = true := hok
  obtain ⟨hd, hk⟩ := and_s hok
  have hd := of_decide_eq_true hd
  obtain ⟨hc, hn⟩ := and_s hk
  have hc := beq_s hc
  subst hc
  obtain ⟨v, r0, rfl, h⟩ := m_r (f := fun v r0 => bif oks ls n && Nat.blt n ls.length then R d mid nx (ls.set n (some (.ref v))) r0 S else none) h
  obtain ⟨g, h⟩ := c_t h
  obtain ⟨g1, g2⟩ := and_s g
  refine sp_lo 2 (st' := r0) hd hn hR h (fun hC hd hl k => ?_)
  have hi : n < (mtx mid).2.2.1 := by rw [← hl.1]; exact Nat.le_of_ble_eq_true g2
  exact lv_astore hC.1 hC.2.1 hd (lhx_has hl) hi rfl (fun ls' h' => k ls' (lhx_st1 (v := .ref v) hl g1 hi h'))
theorem s_astore_n {n : Fin 4} (hok : ckx (mtx mid) (pc, .astore_n n, nx, a, c0, w, x) = true) (hnd : ∀ v ∈ ndx (mtx mid) (pc, .astore_n n, nx, a, c0, w, x), v ∈ lw_tbl) (hR : HRx l R) (h : stp px R d mid (pc, .astore_n n, nx, a, c0, w, x) ls st S = some (r, S1)) : Simx l d mid pc ls st S r S1 := by
  have hok : (decide (decode (mtx mid).2.1 pc = .ok (.astore_n n, nx - pc)) && (Nat.beq (n : Nat) a && Nat.beq nx (pc + 1))) = true := hok
  obtain ⟨hd, hk⟩ := and_s hok
  have hd := of_decide_eq_true hd
  obtain ⟨hc, hn⟩ := and_s hk
  have hc := beq_s hc
  obtain ⟨v, r0, rfl, h⟩ := m_r (f := fun v r0 => bif oks ls a && Nat.blt a ls.length then R d mid nx (ls.set a (some (.ref v))) r0 S else none) h
  obtain ⟨g, h⟩ := c_t h
  obtain ⟨g1, g2⟩ := and_s g
  refine sp_lo 1 (st' := r0) hd hn hR h (fun hC hd hl k => ?_)
  have hi : a < (mtx mid).2.2.1 := by rw [← hl.1]; exact Nat.le_of_ble_eq_true g2
  exact lv_astore_n hC.1 hC.2.1 hd hc (lhx_has hl) hi rfl (fun ls' h' => k ls' (lhx_st1 (v := .ref v) hl g1 hi h'))
theorem s_lstore {n : Nat} (hok : ckx (mtx mid) (pc, .lstore n, nx, a, c0, w, x) = true) (hnd : ∀ v ∈ ndx (mtx mid) (pc, .lstore n, nx, a, c0, w, x), v ∈ lw_tbl) (hR : HRx l R) (h : stp px R d mid (pc, .lstore n, nx, a, c0, w, x) ls st S = some (r, S1)) : Simx l d mid pc ls st S r S1 := by
  have hok : (decide (decode (mtx mid).2.1 pc = .ok (.lstore n, nx - pc)) && (Nat.beq n a && Nat.beq nx (pc + 2))) = true := hok
  obtain ⟨hd, hk⟩ := and_s hok
  have hd := of_decide_eq_true hd
  obtain ⟨hc, hn⟩ := and_s hk
  have hc := beq_s hc
  subst hc
  obtain ⟨v, r0, rfl, h⟩ := m_l (f := fun v r0 => bif oks ls n && Nat.blt (n + 1) ls.length then R d mid nx ((ls.set n (some (.long v))).set (n + 1) none) r0 S else none) h
  obtain ⟨g, h⟩ := c_t h
  obtain ⟨g1, g2⟩ := and_s g
  refine sp_lo 2 (st' := r0) hd hn hR h (fun hC hd hl k => ?_)
  have hi : (n + 1) < (mtx mid).2.2.1 := by rw [← hl.1]; exact Nat.le_of_ble_eq_true g2
  exact lv_lstore hC.1 hC.2.1 hd (lhx_has hl) hi rfl (fun ls' h' => k ls' (lhx_st2 (v := .long v) hl g1 hi h'))
theorem s_lstore_n {n : Fin 4} (hok : ckx (mtx mid) (pc, .lstore_n n, nx, a, c0, w, x) = true) (hnd : ∀ v ∈ ndx (mtx mid) (pc, .lstore_n n, nx, a, c0, w, x), v ∈ lw_tbl) (hR : HRx l R) (h : stp px R d mid (pc, .lstore_n n, nx, a, c0, w, x) ls st S = some (r, S1)) : Simx l d mid pc ls st S r S1 := by
  have hok : (decide (decode (mtx mid).2.1 pc = .ok (.lstore_n n, nx - pc)) && (Nat.beq (n : Nat) a && Nat.beq nx (pc + 1))) = true := hok
  obtain ⟨hd, hk⟩ := and_s hok
  have hd := of_decide_eq_true hd
  obtain ⟨hc, hn⟩ := and_s hk
  have hc := beq_s hc
  obtain ⟨v, r0, rfl, h⟩ := m_l (f := fun v r0 => bif oks ls a && Nat.blt (a + 1) ls.length then R d mid nx ((ls.set a (some (.long v))).set (a + 1) none) r0 S else none) h
  obtain ⟨g, h⟩ := c_t h
  obtain ⟨g1, g2⟩ := and_s g
  refine sp_lo 1 (st' := r0) hd hn hR h (fun hC hd hl k => ?_)
  have hi : (a + 1) < (mtx mid).2.2.1 := by rw [← hl.1]; exact Nat.le_of_ble_eq_true g2
  exact lv_lstore_n hC.1 hC.2.1 hd hc (lhx_has hl) hi rfl (fun ls' h' => k ls' (lhx_st2 (v := .long v) hl g1 hi h'))
theorem s_iinc {n : Nat} {q : Int} (hok : ckx (mtx mid) (pc, .iinc n q, nx, a, c0, w, x) = true) (hnd : ∀ v ∈ ndx (mtx mid) (pc, .iinc n q, nx, a, c0, w, x), v ∈ lw_tbl) (hR : HRx l R) (h : stp px R d mid (pc, .iinc n q, nx, a, c0, w, x) ls st S = some (r, S1)) : Simx l d mid pc ls st S r S1 := by
  have hok : (decide (decode (mtx mid).2.1 pc = .ok (.iinc n q, nx - pc)) && (Nat.beq n a && (decide (Int32.ofInt q = c0) && Nat.beq nx (pc + 3)))) = true := hok
  obtain ⟨hd, hk⟩ := and_s hok
  have hd := of_decide_eq_true hd
  obtain ⟨hc, hk2⟩ := and_s hk
  obtain ⟨hq, hn⟩ := and_s hk2
  have hq := of_decide_eq_true hq
  have hc := beq_s hc
  subst hc
  obtain ⟨v, hv, h⟩ := o_i (f := fun v => bif oks ls n && Nat.blt n ls.length then R d mid nx (ls.set n (some (.int (v + c0)))) st S else none) h
  obtain ⟨g, h⟩ := c_t h
  obtain ⟨g1, g2⟩ := and_s g
  refine sp_lo 3 (st' := st) hd hn hR h (fun {p e Rm s m args below meth c H locs cells slots Q arr ad} hC hd hl k => ?_)
  have hi : n < (mtx mid).2.2.1 := by rw [← hl.1]; exact Nat.le_of_ble_eq_true g2
  obtain ⟨j, hj⟩ := lg_mem (ad := ad) hv
  exact lv_iinc hC.1 hC.2.1 hd (lhx_has hl) hj (by rw [hq]) hi rfl (fun ls' h' => k ls' (lhx_st1 (v := .int (v + c0)) hl g1 hi h'))
theorem s_iadd (hok : ckx (mtx mid) (pc, .iadd, nx, a, c0, w, x) = true) (hnd : ∀ v ∈ ndx (mtx mid) (pc, .iadd, nx, a, c0, w, x), v ∈ lw_tbl) (hR : HRx l R) (h : stp px R d mid (pc, .iadd, nx, a, c0, w, x) ls st S = some (r, S1)) : Simx l d mid pc ls st S r S1 := by
  have hok : (decide (decode (mtx mid).2.1 pc = .ok (.iadd, nx - pc)) && (Nat.beq nx (pc + 1))) = true := hok
  obtain ⟨hd, hk⟩ := and_s hok
  have hd := of_decide_eq_true hd
  obtain ⟨y, z, r0, rfl, h⟩ := m_ii (f := fun y z r0 => R d mid nx ls (.int (z + y) :: r0) S) h
  exact sp_st 1 (st' := .int (z + y) :: r0) hd hk hR h (fun hC hd _ k => lv_iadd hC.1 hC.2.1 hd k)
theorem s_isub (hok : ckx (mtx mid) (pc, .isub, nx, a, c0, w, x) = true) (hnd : ∀ v ∈ ndx (mtx mid) (pc, .isub, nx, a, c0, w, x), v ∈ lw_tbl) (hR : HRx l R) (h : stp px R d mid (pc, .isub, nx, a, c0, w, x) ls st S = some (r, S1)) : Simx l d mid pc ls st S r S1 := by
  have hok : (decide (decode (mtx mid).2.1 pc = .ok (.isub, nx - pc)) && (Nat.beq nx (pc + 1))) = true := hok
  obtain ⟨hd, hk⟩ := and_s hok
  have hd := of_decide_eq_true hd
  obtain ⟨y, z, r0, rfl, h⟩ := m_ii (f := fun y z r0 => R d mid nx ls (.int (z - y) :: r0) S) h
  exact sp_st 1 (st' := .int (z - y) :: r0) hd hk hR h (fun hC hd _ k => lv_isub hC.1 hC.2.1 hd k)
theorem s_imul (hok : ckx (mtx mid) (pc, .imul, nx, a, c0, w, x) = true) (hnd : ∀ v ∈ ndx (mtx mid) (pc, .imul, nx, a, c0, w, x), v ∈ lw_tbl) (hR : HRx l R) (h : stp px R d mid (pc, .imul, nx, a, c0, w, x) ls st S = some (r, S1)) : Simx l d mid pc ls st S r S1 := by
  have hok : (decide (decode (mtx mid).2.1 pc = .ok (.imul, nx - pc)) && (Nat.beq nx (pc + 1))) = true := hok
  obtain ⟨hd, hk⟩ := and_s hok
  have hd := of_decide_eq_true hd
  obtain ⟨y, z, r0, rfl, h⟩ := m_ii (f := fun y z r0 => R d mid nx ls (.int (z * y) :: r0) S) h
  exact sp_st 1 (st' := .int (z * y) :: r0) hd hk hR h (fun hC hd _ k => lv_imul hC.1 hC.2.1 hd k)
theorem s_iand (hok : ckx (mtx mid) (pc, .iand, nx, a, c0, w, x) = true) (hnd : ∀ v ∈ ndx (mtx mid) (pc, .iand, nx, a, c0, w, x), v ∈ lw_tbl) (hR : HRx l R) (h : stp px R d mid (pc, .iand, nx, a, c0, w, x) ls st S = some (r, S1)) : Simx l d mid pc ls st S r S1 := by
  have hok : (decide (decode (mtx mid).2.1 pc = .ok (.iand, nx - pc)) && (Nat.beq nx (pc + 1))) = true := hok
  obtain ⟨hd, hk⟩ := and_s hok
  have hd := of_decide_eq_true hd
  obtain ⟨y, z, r0, rfl, h⟩ := m_ii (f := fun y z r0 => R d mid nx ls (.int (z &&& y) :: r0) S) h
  exact sp_st 1 (st' := .int (z &&& y) :: r0) hd hk hR h (fun hC hd _ k => lv_iand hC.1 hC.2.1 hd k)
theorem s_ior (hok : ckx (mtx mid) (pc, .ior, nx, a, c0, w, x) = true) (hnd : ∀ v ∈ ndx (mtx mid) (pc, .ior, nx, a, c0, w, x), v ∈ lw_tbl) (hR : HRx l R) (h : stp px R d mid (pc, .ior, nx, a, c0, w, x) ls st S = some (r, S1)) : Simx l d mid pc ls st S r S1 := by
  have hok : (decide (decode (mtx mid).2.1 pc = .ok (.ior, nx - pc)) && (Nat.beq nx (pc + 1))) = true := hok
  obtain ⟨hd, hk⟩ := and_s hok
  have hd := of_decide_eq_true hd
  obtain ⟨y, z, r0, rfl, h⟩ := m_ii (f := fun y z r0 => R d mid nx ls (.int (z ||| y) :: r0) S) h
  exact sp_st 1 (st' := .int (z ||| y) :: r0) hd hk hR h (fun hC hd _ k => lv_ior hC.1 hC.2.1 hd k)
theorem s_ixor (hok : ckx (mtx mid) (pc, .ixor, nx, a, c0, w, x) = true) (hnd : ∀ v ∈ ndx (mtx mid) (pc, .ixor, nx, a, c0, w, x), v ∈ lw_tbl) (hR : HRx l R) (h : stp px R d mid (pc, .ixor, nx, a, c0, w, x) ls st S = some (r, S1)) : Simx l d mid pc ls st S r S1 := by
  have hok : (decide (decode (mtx mid).2.1 pc = .ok (.ixor, nx - pc)) && (Nat.beq nx (pc + 1))) = true := hok
  obtain ⟨hd, hk⟩ := and_s hok
  have hd := of_decide_eq_true hd
  obtain ⟨y, z, r0, rfl, h⟩ := m_ii (f := fun y z r0 => R d mid nx ls (.int (z ^^^ y) :: r0) S) h
  exact sp_st 1 (st' := .int (z ^^^ y) :: r0) hd hk hR h (fun hC hd _ k => lv_ixor hC.1 hC.2.1 hd k)
theorem s_ishl (hok : ckx (mtx mid) (pc, .ishl, nx, a, c0, w, x) = true) (hnd : ∀ v ∈ ndx (mtx mid) (pc, .ishl, nx, a, c0, w, x), v ∈ lw_tbl) (hR : HRx l R) (h : stp px R d mid (pc, .ishl, nx, a, c0, w, x) ls st S = some (r, S1)) : Simx l d mid pc ls st S r S1 := by
  have hok : (decide (decode (mtx mid).2.1 pc = .ok (.ishl, nx - pc)) && (Nat.beq nx (pc + 1))) = true := hok
  obtain ⟨hd, hk⟩ := and_s hok
  have hd := of_decide_eq_true hd
  obtain ⟨y, z, r0, rfl, h⟩ := m_ii (f := fun y z r0 => R d mid nx ls (.int (z <<< (y &&& 31)) :: r0) S) h
  exact sp_st 1 (st' := .int (z <<< (y &&& 31)) :: r0) hd hk hR h (fun hC hd _ k => lv_ishl hC.1 hC.2.1 hd k)
theorem s_ishr (hok : ckx (mtx mid) (pc, .ishr, nx, a, c0, w, x) = true) (hnd : ∀ v ∈ ndx (mtx mid) (pc, .ishr, nx, a, c0, w, x), v ∈ lw_tbl) (hR : HRx l R) (h : stp px R d mid (pc, .ishr, nx, a, c0, w, x) ls st S = some (r, S1)) : Simx l d mid pc ls st S r S1 := by
  have hok : (decide (decode (mtx mid).2.1 pc = .ok (.ishr, nx - pc)) && (Nat.beq nx (pc + 1))) = true := hok
  obtain ⟨hd, hk⟩ := and_s hok
  have hd := of_decide_eq_true hd
  obtain ⟨y, z, r0, rfl, h⟩ := m_ii (f := fun y z r0 => R d mid nx ls (.int (z >>> (y &&& 31)) :: r0) S) h
  exact sp_st 1 (st' := .int (z >>> (y &&& 31)) :: r0) hd hk hR h (fun hC hd _ k => lv_ishr hC.1 hC.2.1 hd k)
theorem s_iushr (hok : ckx (mtx mid) (pc, .iushr, nx, a, c0, w, x) = true) (hnd : ∀ v ∈ ndx (mtx mid) (pc, .iushr, nx, a, c0, w, x), v ∈ lw_tbl) (hR : HRx l R) (h : stp px R d mid (pc, .iushr, nx, a, c0, w, x) ls st S = some (r, S1)) : Simx l d mid pc ls st S r S1 := by
  have hok : (decide (decode (mtx mid).2.1 pc = .ok (.iushr, nx - pc)) && (Nat.beq nx (pc + 1))) = true := hok
  obtain ⟨hd, hk⟩ := and_s hok
  have hd := of_decide_eq_true hd
  obtain ⟨y, z, r0, rfl, h⟩ := m_ii (f := fun y z r0 => R d mid nx ls (.int ((z.toUInt32 >>> (y.toUInt32 &&& Int32.toUInt32 31)).toInt32) :: r0) S) h
  exact sp_st 1 (st' := .int ((z.toUInt32 >>> (y.toUInt32 &&& Int32.toUInt32 31)).toInt32) :: r0) hd hk hR h (fun hC hd _ k => lv_iushr hC.1 hC.2.1 hd rfl k)
theorem s_idiv (hok : ckx (mtx mid) (pc, .idiv, nx, a, c0, w, x) = true) (hnd : ∀ v ∈ ndx (mtx mid) (pc, .idiv, nx, a, c0, w, x), v ∈ lw_tbl) (hR : HRx l R) (h : stp px R d mid (pc, .idiv, nx, a, c0, w, x) ls st S = some (r, S1)) : Simx l d mid pc ls st S r S1 := by
  have hok : (decide (decode (mtx mid).2.1 pc = .ok (.idiv, nx - pc)) && (Nat.beq nx (pc + 1))) = true := hok
  obtain ⟨hd, hk⟩ := and_s hok
  have hd := of_decide_eq_true hd
  obtain ⟨y, z, r0, rfl, h⟩ := m_ii (f := fun y z r0 => if y = 0 then none else R d mid nx ls (.int (z / y) :: r0) S) h
  obtain ⟨g, h⟩ := i_f h
  exact sp_st 1 (st' := .int (z / y) :: r0) hd hk hR h (fun hC hd _ k => lv_idiv hC.1 hC.2.1 hd g k)
theorem s_irem (hok : ckx (mtx mid) (pc, .irem, nx, a, c0, w, x) = true) (hnd : ∀ v ∈ ndx (mtx mid) (pc, .irem, nx, a, c0, w, x), v ∈ lw_tbl) (hR : HRx l R) (h : stp px R d mid (pc, .irem, nx, a, c0, w, x) ls st S = some (r, S1)) : Simx l d mid pc ls st S r S1 := by
  have hok : (decide (decode (mtx mid).2.1 pc = .ok (.irem, nx - pc)) && (Nat.beq nx (pc + 1))) = true := hok
  obtain ⟨hd, hk⟩ := and_s hok
  have hd := of_decide_eq_true hd
  obtain ⟨y, z, r0, rfl, h⟩ := m_ii (f := fun y z r0 => if y = 0 then none else R d mid nx ls (.int (z - z / y * y) :: r0) S) h
  obtain ⟨g, h⟩ := i_f h
  exact sp_st 1 (st' := .int (z - z / y * y) :: r0) hd hk hR h (fun hC hd _ k => lv_irem hC.1 hC.2.1 hd g k)
theorem s_ldiv (hok : ckx (mtx mid) (pc, .ldiv, nx, a, c0, w, x) = true) (hnd : ∀ v ∈ ndx (mtx mid) (pc, .ldiv, nx, a, c0, w, x), v ∈ lw_tbl) (hR : HRx l R) (h : stp px R d mid (pc, .ldiv, nx, a, c0, w, x) ls st S = some (r, S1)) : Simx l d mid pc ls st S r S1 := by
  have hok : (decide (decode (mtx mid).2.1 pc = .ok (.ldiv, nx - pc)) && (Nat.beq nx (pc + 1))) = true := hok
  obtain ⟨hd, hk⟩ := and_s hok
  have hd := of_decide_eq_true hd
  obtain ⟨y, z, r0, rfl, h⟩ := m_ll (f := fun y z r0 => if y = 0 then none else R d mid nx ls (.long (z / y) :: r0) S) h
  obtain ⟨g, h⟩ := i_f h
  exact sp_st 1 (st' := .long (z / y) :: r0) hd hk hR h (fun hC hd _ k => lv_ldiv hC.1 hC.2.1 hd g k)
theorem s_lrem (hok : ckx (mtx mid) (pc, .lrem, nx, a, c0, w, x) = true) (hnd : ∀ v ∈ ndx (mtx mid) (pc, .lrem, nx, a, c0, w, x), v ∈ lw_tbl) (hR : HRx l R) (h : stp px R d mid (pc, .lrem, nx, a, c0, w, x) ls st S = some (r, S1)) : Simx l d mid pc ls st S r S1 := by
  have hok : (decide (decode (mtx mid).2.1 pc = .ok (.lrem, nx - pc)) && (Nat.beq nx (pc + 1))) = true := hok
  obtain ⟨hd, hk⟩ := and_s hok
  have hd := of_decide_eq_true hd
  obtain ⟨y, z, r0, rfl, h⟩ := m_ll (f := fun y z r0 => if y = 0 then none else R d mid nx ls (.long (z - z / y * y) :: r0) S) h
  obtain ⟨g, h⟩ := i_f h
  exact sp_st 1 (st' := .long (z - z / y * y) :: r0) hd hk hR h (fun hC hd _ k => lv_lrem hC.1 hC.2.1 hd g k)
theorem s_ladd (hok : ckx (mtx mid) (pc, .ladd, nx, a, c0, w, x) = true) (hnd : ∀ v ∈ ndx (mtx mid) (pc, .ladd, nx, a, c0, w, x), v ∈ lw_tbl) (hR : HRx l R) (h : stp px R d mid (pc, .ladd, nx, a, c0, w, x) ls st S = some (r, S1)) : Simx l d mid pc ls st S r S1 := by
  have hok : (decide (decode (mtx mid).2.1 pc = .ok (.ladd, nx - pc)) && (Nat.beq nx (pc + 1))) = true := hok
  obtain ⟨hd, hk⟩ := and_s hok
  have hd := of_decide_eq_true hd
  obtain ⟨y, z, r0, rfl, h⟩ := m_ll (f := fun y z r0 => R d mid nx ls (.long (z + y) :: r0) S) h
  exact sp_st 1 (st' := .long (z + y) :: r0) hd hk hR h (fun hC hd _ k => lv_ladd hC.1 hC.2.1 hd k)
theorem s_lmul (hok : ckx (mtx mid) (pc, .lmul, nx, a, c0, w, x) = true) (hnd : ∀ v ∈ ndx (mtx mid) (pc, .lmul, nx, a, c0, w, x), v ∈ lw_tbl) (hR : HRx l R) (h : stp px R d mid (pc, .lmul, nx, a, c0, w, x) ls st S = some (r, S1)) : Simx l d mid pc ls st S r S1 := by
  have hok : (decide (decode (mtx mid).2.1 pc = .ok (.lmul, nx - pc)) && (Nat.beq nx (pc + 1))) = true := hok
  obtain ⟨hd, hk⟩ := and_s hok
  have hd := of_decide_eq_true hd
  obtain ⟨y, z, r0, rfl, h⟩ := m_ll (f := fun y z r0 => R d mid nx ls (.long (z * y) :: r0) S) h
  exact sp_st 1 (st' := .long (z * y) :: r0) hd hk hR h (fun hC hd _ k => lv_lmul hC.1 hC.2.1 hd k)
theorem s_lcmp (hok : ckx (mtx mid) (pc, .lcmp, nx, a, c0, w, x) = true) (hnd : ∀ v ∈ ndx (mtx mid) (pc, .lcmp, nx, a, c0, w, x), v ∈ lw_tbl) (hR : HRx l R) (h : stp px R d mid (pc, .lcmp, nx, a, c0, w, x) ls st S = some (r, S1)) : Simx l d mid pc ls st S r S1 := by
  have hok : (decide (decode (mtx mid).2.1 pc = .ok (.lcmp, nx - pc)) && (Nat.beq nx (pc + 1))) = true := hok
  obtain ⟨hd, hk⟩ := and_s hok
  have hd := of_decide_eq_true hd
  obtain ⟨y, z, r0, rfl, h⟩ := m_ll (f := fun y z r0 => R d mid nx ls (.int (lg_cmp z y) :: r0) S) h
  exact sp_st 1 (st' := .int (lg_cmp z y) :: r0) hd hk hR h (fun hC hd _ k => W.lcmp hC.1 hC.2.1 hd k)
theorem s_ineg (hok : ckx (mtx mid) (pc, .ineg, nx, a, c0, w, x) = true) (hnd : ∀ v ∈ ndx (mtx mid) (pc, .ineg, nx, a, c0, w, x), v ∈ lw_tbl) (hR : HRx l R) (h : stp px R d mid (pc, .ineg, nx, a, c0, w, x) ls st S = some (r, S1)) : Simx l d mid pc ls st S r S1 := by
  have hok : (decide (decode (mtx mid).2.1 pc = .ok (.ineg, nx - pc)) && (Nat.beq nx (pc + 1))) = true := hok
  obtain ⟨hd, hk⟩ := and_s hok
  have hd := of_decide_eq_true hd
  obtain ⟨z, r0, rfl, h⟩ := m_i (f := fun z r0 => R d mid nx ls (.int (-z) :: r0) S) h
  exact sp_st 1 (st' := .int (-z) :: r0) hd hk hR h (fun hC hd _ k => lv_ineg hC.1 hC.2.1 hd k)
theorem s_i2l (hok : ckx (mtx mid) (pc, .i2l, nx, a, c0, w, x) = true) (hnd : ∀ v ∈ ndx (mtx mid) (pc, .i2l, nx, a, c0, w, x), v ∈ lw_tbl) (hR : HRx l R) (h : stp px R d mid (pc, .i2l, nx, a, c0, w, x) ls st S = some (r, S1)) : Simx l d mid pc ls st S r S1 := by
  have hok : (decide (decode (mtx mid).2.1 pc = .ok (.i2l, nx - pc)) && (Nat.beq nx (pc + 1))) = true := hok
  obtain ⟨hd, hk⟩ := and_s hok
  have hd := of_decide_eq_true hd
  obtain ⟨z, r0, rfl, h⟩ := m_i (f := fun z r0 => R d mid nx ls (.long z.toInt64 :: r0) S) h
  exact sp_st 1 (st' := .long z.toInt64 :: r0) hd hk hR h (fun hC hd _ k => lv_i2l hC.1 hC.2.1 hd rfl k)
theorem s_l2i (hok : ckx (mtx mid) (pc, .l2i, nx, a, c0, w, x) = true) (hnd : ∀ v ∈ ndx (mtx mid) (pc, .l2i, nx, a, c0, w, x), v ∈ lw_tbl) (hR : HRx l R) (h : stp px R d mid (pc, .l2i, nx, a, c0, w, x) ls st S = some (r, S1)) : Simx l d mid pc ls st S r S1 := by
  have hok : (decide (decode (mtx mid).2.1 pc = .ok (.l2i, nx - pc)) && (Nat.beq nx (pc + 1))) = true := hok
  obtain ⟨hd, hk⟩ := and_s hok
  have hd := of_decide_eq_true hd
  obtain ⟨z, r0, rfl, h⟩ := m_l (f := fun z r0 => R d mid nx ls (.int z.toInt32 :: r0) S) h
  exact sp_st 1 (st' := .int z.toInt32 :: r0) hd hk hR h (fun hC hd _ k => lv_l2i hC.1 hC.2.1 hd rfl k)
theorem s_i2b (hok : ckx (mtx mid) (pc, .i2b, nx, a, c0, w, x) = true) (hnd : ∀ v ∈ ndx (mtx mid) (pc, .i2b, nx, a, c0, w, x), v ∈ lw_tbl) (hR : HRx l R) (h : stp px R d mid (pc, .i2b, nx, a, c0, w, x) ls st S = some (r, S1)) : Simx l d mid pc ls st S r S1 := by
  have hok : (decide (decode (mtx mid).2.1 pc = .ok (.i2b, nx - pc)) && (Nat.beq nx (pc + 1))) = true := hok
  obtain ⟨hd, hk⟩ := and_s hok
  have hd := of_decide_eq_true hd
  obtain ⟨z, r0, rfl, h⟩ := m_i (f := fun z r0 => R d mid nx ls (.int z.toInt8.toInt32 :: r0) S) h
  exact sp_st 1 (st' := .int z.toInt8.toInt32 :: r0) hd hk hR h (fun hC hd _ k => lv_i2b hC.1 hC.2.1 hd rfl k)
theorem s_dup (hok : ckx (mtx mid) (pc, .dup, nx, a, c0, w, x) = true) (hnd : ∀ v ∈ ndx (mtx mid) (pc, .dup, nx, a, c0, w, x), v ∈ lw_tbl) (hR : HRx l R) (h : stp px R d mid (pc, .dup, nx, a, c0, w, x) ls st S = some (r, S1)) : Simx l d mid pc ls st S r S1 := by
  have hok : (decide (decode (mtx mid).2.1 pc = .ok (.dup, nx - pc)) && (Nat.beq nx (pc + 1))) = true := hok
  obtain ⟨hd, hk⟩ := and_s hok
  have hd := of_decide_eq_true hd
  rcases m_d (f := fun v r0 => R d mid nx ls (.int v :: .int v :: r0) S) (g := fun v r0 => R d mid nx ls (.ref v :: .ref v :: r0) S) h with ⟨v, r0, rfl, h⟩ | ⟨v, r0, rfl, h⟩
  · exact sp_st 1 (st' := .int v :: .int v :: r0) hd hk hR h (fun hC hd _ k => lv_dup hC.1 hC.2.1 hd rfl k)
  · exact sp_st 1 (st' := .ref v :: .ref v :: r0) hd hk hR h (fun hC hd _ k => lv_dup hC.1 hC.2.1 hd rfl k)
theorem s_dup2 (hok : ckx (mtx mid) (pc, .dup2, nx, a, c0, w, x) = true) (hnd : ∀ v ∈ ndx (mtx mid) (pc, .dup2, nx, a, c0, w, x), v ∈ lw_tbl) (hR : HRx l R) (h : stp px R d mid (pc, .dup2, nx, a, c0, w, x) ls st S = some (r, S1)) : Simx l d mid pc ls st S r S1 := by
  have hok : (decide (decode (mtx mid).2.1 pc = .ok (.dup2, nx - pc)) && (Nat.beq nx (pc + 1))) = true := hok
  obtain ⟨hd, hk⟩ := and_s hok
  have hd := of_decide_eq_true hd
  obtain ⟨v, q, r0, rfl, h⟩ := m_ir (f := fun v q r0 => R d mid nx ls (.int v :: .ref q :: .int v :: .ref q :: r0) S) h
  exact sp_st 1 (st' := .int v :: .ref q :: .int v :: .ref q :: r0) hd hk hR h (fun hC hd _ k => lv_dup2_11 hC.1 hC.2.1 hd rfl rfl k)
theorem s_goto {q : Int} (hok : ckx (mtx mid) (pc, .goto q, nx, a, c0, w, x) = true) (hnd : ∀ v ∈ ndx (mtx mid) (pc, .goto q, nx, a, c0, w, x), v ∈ lw_tbl) (hR : HRx l R) (h : stp px R d mid (pc, .goto q, nx, a, c0, w, x) ls st S = some (r, S1)) : Simx l d mid pc ls st S r S1 := by
  have hok : (decide (decode (mtx mid).2.1 pc = .ok (.goto q, nx - pc)) && (decide ((pc : Int) + q = (a : Int)) && Nat.beq nx (pc + 3))) = true := hok
  obtain ⟨hd, hk⟩ := and_s hok
  have hd := of_decide_eq_true hd
  obtain ⟨hc, hn⟩ := and_s hk
  have hc := of_decide_eq_true hc
  exact sp_br (C := True) (t1 := a) (t2 := a) (st' := st) 3 hd hn hR (fun _ => h) (fun g => absurd trivial g) (fun hC hd k _ => lv_goto hC.1 hC.2.1 hd hc (k trivial))
theorem s_if_eq {q : Int} (hok : ckx (mtx mid) (pc, .ifCond .eq q, nx, a, c0, w, x) = true) (hnd : ∀ v ∈ ndx (mtx mid) (pc, .ifCond .eq q, nx, a, c0, w, x), v ∈ lw_tbl) (hR : HRx l R) (h : stp px R d mid (pc, .ifCond .eq q, nx, a, c0, w, x) ls st S = some (r, S1)) : Simx l d mid pc ls st S r S1 := by
  have hok : (decide (decode (mtx mid).2.1 pc = .ok (.ifCond .eq q, nx - pc)) && (decide ((pc : Int) + q = (a : Int)) && Nat.beq nx (pc + 3))) = true := hok
  obtain ⟨hd, hk⟩ := and_s hok
  have hd := of_decide_eq_true hd
  obtain ⟨hc, hn⟩ := and_s hk
  have hc := of_decide_eq_true hc
  obtain ⟨v, r0, rfl, h⟩ := m_i (f := fun v r0 => if v = 0 then R d mid a ls r0 S else R d mid nx ls r0 S) h
  have e1 := beq_s hn
  subst e1
  exact sp_br (C := v = 0) (t1 := a) (t2 := pc + 3) (st' := r0) 3 hd hn hR (fun g => (if_pos g).symm.trans h) (fun g => (if_neg g).symm.trans h) (fun hC hd k1 k2 => lv_if_eq hC.1 hC.2.1 hd hc k1 k2)
theorem s_if_ne {q : Int} (hok : ckx (mtx mid) (pc, .ifCond .ne q, nx, a, c0, w, x) = true) (hnd : ∀ v ∈ ndx (mtx mid) (pc, .ifCond .ne q, nx, a, c0, w, x), v ∈ lw_tbl) (hR : HRx l R) (h : stp px R d mid (pc, .ifCond .ne q, nx, a, c0, w, x) ls st S = some (r, S1)) : Simx l d mid pc ls st S r S1 := by
  have hok : (decide (decode (mtx mid).2.1 pc = .ok (.ifCond .ne q, nx - pc)) && (decide ((pc : Int) + q = (a : Int)) && Nat.beq nx (pc + 3))) = true := hok
  obtain ⟨hd, hk⟩ := and_s hok
  have hd := of_decide_eq_true hd
  obtain ⟨hc, hn⟩ := and_s hk
  have hc := of_decide_eq_true hc
  obtain ⟨v, r0, rfl, h⟩ := m_i (f := fun v r0 => if v = 0 then R d mid nx ls r0 S else R d mid a ls r0 S) h
  have e1 := beq_s hn
  subst e1
  exact sp_br (C := v = 0) (t1 := pc + 3) (t2 := a) (st' := r0) 3 hd hn hR (fun g => (if_pos g).symm.trans h) (fun g => (if_neg g).symm.trans h) (fun hC hd k1 k2 => lv_if_ne hC.1 hC.2.1 hd hc k2 k1)
theorem s_if_lt {q : Int} (hok : ckx (mtx mid) (pc, .ifCond .lt q, nx, a, c0, w, x) = true) (hnd : ∀ v ∈ ndx (mtx mid) (pc, .ifCond .lt q, nx, a, c0, w, x), v ∈ lw_tbl) (hR : HRx l R) (h : stp px R d mid (pc, .ifCond .lt q, nx, a, c0, w, x) ls st S = some (r, S1)) : Simx l d mid pc ls st S r S1 := by
  have hok : (decide (decode (mtx mid).2.1 pc = .ok (.ifCond .lt q, nx - pc)) && (decide ((pc : Int) + q = (a : Int)) && Nat.beq nx (pc + 3))) = true := hok
  obtain ⟨hd, hk⟩ := and_s hok
  have hd := of_decide_eq_true hd
  obtain ⟨hc, hn⟩ := and_s hk
  have hc := of_decide_eq_true hc
  obtain ⟨v, r0, rfl, h⟩ := m_i (f := fun v r0 => if v < 0 then R d mid a ls r0 S else R d mid nx ls r0 S) h
  have e1 := beq_s hn
  subst e1
  exact sp_br (C := v < 0) (t1 := a) (t2 := pc + 3) (st' := r0) 3 hd hn hR (fun g => (if_pos g).symm.trans h) (fun g => (if_neg g).symm.trans h) (fun hC hd k1 k2 => lv_if_lt hC.1 hC.2.1 hd hc k1 k2)
theorem s_if_ge {q : Int} (hok : ckx (mtx mid) (pc, .ifCond .ge q, nx, a, c0, w, x) = true) (hnd : ∀ v ∈ ndx (mtx mid) (pc, .ifCond .ge q, nx, a, c0, w, x), v ∈ lw_tbl) (hR : HRx l R) (h : stp px R d mid (pc, .ifCond .ge q, nx, a, c0, w, x) ls st S = some (r, S1)) : Simx l d mid pc ls st S r S1 := by
  have hok : (decide (decode (mtx mid).2.1 pc = .ok (.ifCond .ge q, nx - pc)) && (decide ((pc : Int) + q = (a : Int)) && Nat.beq nx (pc + 3))) = true := hok
  obtain ⟨hd, hk⟩ := and_s hok
  have hd := of_decide_eq_true hd
  obtain ⟨hc, hn⟩ := and_s hk
  have hc := of_decide_eq_true hc
  obtain ⟨v, r0, rfl, h⟩ := m_i (f := fun v r0 => if 0 ≤ v then R d mid a ls r0 S else R d mid nx ls r0 S) h
  have e1 := beq_s hn
  subst e1
  exact sp_br (C := 0 ≤ v) (t1 := a) (t2 := pc + 3) (st' := r0) 3 hd hn hR (fun g => (if_pos g).symm.trans h) (fun g => (if_neg g).symm.trans h) (fun hC hd k1 k2 => lv_if_ge hC.1 hC.2.1 hd hc k1 k2)
theorem s_if_gt {q : Int} (hok : ckx (mtx mid) (pc, .ifCond .gt q, nx, a, c0, w, x) = true) (hnd : ∀ v ∈ ndx (mtx mid) (pc, .ifCond .gt q, nx, a, c0, w, x), v ∈ lw_tbl) (hR : HRx l R) (h : stp px R d mid (pc, .ifCond .gt q, nx, a, c0, w, x) ls st S = some (r, S1)) : Simx l d mid pc ls st S r S1 := by
  have hok : (decide (decode (mtx mid).2.1 pc = .ok (.ifCond .gt q, nx - pc)) && (decide ((pc : Int) + q = (a : Int)) && Nat.beq nx (pc + 3))) = true := hok
  obtain ⟨hd, hk⟩ := and_s hok
  have hd := of_decide_eq_true hd
  obtain ⟨hc, hn⟩ := and_s hk
  have hc := of_decide_eq_true hc
  obtain ⟨v, r0, rfl, h⟩ := m_i (f := fun v r0 => if 0 < v then R d mid a ls r0 S else R d mid nx ls r0 S) h
  have e1 := beq_s hn
  subst e1
  exact sp_br (C := 0 < v) (t1 := a) (t2 := pc + 3) (st' := r0) 3 hd hn hR (fun g => (if_pos g).symm.trans h) (fun g => (if_neg g).symm.trans h) (fun hC hd k1 k2 => lv_if_gt hC.1 hC.2.1 hd hc k1 k2)
theorem s_if_le {q : Int} (hok : ckx (mtx mid) (pc, .ifCond .le q, nx, a, c0, w, x) = true) (hnd : ∀ v ∈ ndx (mtx mid) (pc, .ifCond .le q, nx, a, c0, w, x), v ∈ lw_tbl) (hR : HRx l R) (h : stp px R d mid (pc, .ifCond .le q, nx, a, c0, w, x) ls st S = some (r, S1)) : Simx l d mid pc ls st S r S1 := by
  have hok : (decide (decode (mtx mid).2.1 pc = .ok (.ifCond .le q, nx - pc)) && (decide ((pc : Int) + q = (a : Int)) && Nat.beq nx (pc + 3))) = true := hok
  obtain ⟨hd, hk⟩ := and_s hok
  have hd := of_decide_eq_true hd
  obtain ⟨hc, hn⟩ := and_s hk
  have hc := of_decide_eq_true hc
  obtain ⟨v, r0, rfl, h⟩ := m_i (f := fun v r0 => if v ≤ 0 then R d mid a ls r0 S else R d mid nx ls r0 S) h
  have e1 := beq_s hn
  subst e1
  exact sp_br (C := v ≤ 0) (t1 := a) (t2 := pc + 3) (st' := r0) 3 hd hn hR (fun g => (if_pos g).symm.trans h) (fun g => (if_neg g).symm.trans h) (fun hC hd k1 k2 => lv_if_le hC.1 hC.2.1 hd hc k1 k2)
theorem s_icmp_eq {q : Int} (hok : ckx (mtx mid) (pc, .if_icmp .eq q, nx, a, c0, w, x) = true) (hnd : ∀ v ∈ ndx (mtx mid) (pc, .if_icmp .eq q, nx, a, c0, w, x), v ∈ lw_tbl) (hR : HRx l R) (h : stp px R d mid (pc, .if_icmp .eq q, nx, a, c0, w, x) ls st S = some (r, S1)) : Simx l d mid pc ls st S r S1 := by
  have hok : (decide (decode (mtx mid).2.1 pc = .ok (.if_icmp .eq q, nx - pc)) && (decide ((pc : Int) + q = (a : Int)) && Nat.beq nx (pc + 3))) = true := hok
  obtain ⟨hd, hk⟩ := and_s hok
  have hd := of_decide_eq_true hd
  obtain ⟨hc, hn⟩ := and_s hk
  have hc := of_decide_eq_true hc
  obtain ⟨y, z, r0, rfl, h⟩ := m_ii (f := fun y z r0 => if z = y then R d mid a ls r0 S else R d mid nx ls r0 S) h
  have e1 := beq_s hn
  subst e1
  exact sp_br (C := z = y) (t1 := a) (t2 := pc + 3) (st' := r0) 3 hd hn hR (fun g => (if_pos g).symm.trans h) (fun g => (if_neg g).symm.trans h) (fun hC hd k1 k2 => lv_icmp_eq hC.1 hC.2.1 hd hc k1 k2)
theorem s_icmp_ne {q : Int} (hok : ckx (mtx mid) (pc, .if_icmp .ne q, nx, a, c0, w, x) = true) (hnd : ∀ v ∈ ndx (mtx mid) (pc, .if_icmp .ne q, nx, a, c0, w, x), v ∈ lw_tbl) (hR : HRx l R) (h : stp px R d mid (pc, .if_icmp .ne q, nx, a, c0, w, x) ls st S = some (r, S1)) : Simx l d mid pc ls st S r S1 := by
  have hok : (decide (decode (mtx mid).2.1 pc = .ok (.if_icmp .ne q, nx - pc)) && (decide ((pc : Int) + q = (a : Int)) && Nat.beq nx (pc + 3))) = true := hok
  obtain ⟨hd, hk⟩ := and_s hok
  have hd := of_decide_eq_true hd
  obtain ⟨hc, hn⟩ := and_s hk
  have hc := of_decide_eq_true hc
  obtain ⟨y, z, r0, rfl, h⟩ := m_ii (f := fun y z r0 => if z = y then R d mid nx ls r0 S else R d mid a ls r0 S) h
  have e1 := beq_s hn
  subst e1
  exact sp_br (C := z = y) (t1 := pc + 3) (t2 := a) (st' := r0) 3 hd hn hR (fun g => (if_pos g).symm.trans h) (fun g => (if_neg g).symm.trans h) (fun hC hd k1 k2 => lv_icmp_ne hC.1 hC.2.1 hd hc k2 k1)
theorem s_icmp_lt {q : Int} (hok : ckx (mtx mid) (pc, .if_icmp .lt q, nx, a, c0, w, x) = true) (hnd : ∀ v ∈ ndx (mtx mid) (pc, .if_icmp .lt q, nx, a, c0, w, x), v ∈ lw_tbl) (hR : HRx l R) (h : stp px R d mid (pc, .if_icmp .lt q, nx, a, c0, w, x) ls st S = some (r, S1)) : Simx l d mid pc ls st S r S1 := by
  have hok : (decide (decode (mtx mid).2.1 pc = .ok (.if_icmp .lt q, nx - pc)) && (decide ((pc : Int) + q = (a : Int)) && Nat.beq nx (pc + 3))) = true := hok
  obtain ⟨hd, hk⟩ := and_s hok
  have hd := of_decide_eq_true hd
  obtain ⟨hc, hn⟩ := and_s hk
  have hc := of_decide_eq_true hc
  obtain ⟨y, z, r0, rfl, h⟩ := m_ii (f := fun y z r0 => if z < y then R d mid a ls r0 S else R d mid nx ls r0 S) h
  have e1 := beq_s hn
  subst e1
  exact sp_br (C := z < y) (t1 := a) (t2 := pc + 3) (st' := r0) 3 hd hn hR (fun g => (if_pos g).symm.trans h) (fun g => (if_neg g).symm.trans h) (fun hC hd k1 k2 => lv_icmp_lt hC.1 hC.2.1 hd hc k1 k2)
theorem s_icmp_ge {q : Int} (hok : ckx (mtx mid) (pc, .if_icmp .ge q, nx, a, c0, w, x) = true) (hnd : ∀ v ∈ ndx (mtx mid) (pc, .if_icmp .ge q, nx, a, c0, w, x), v ∈ lw_tbl) (hR : HRx l R) (h : stp px R d mid (pc, .if_icmp .ge q, nx, a, c0, w, x) ls st S = some (r, S1)) : Simx l d mid pc ls st S r S1 := by
  have hok : (decide (decode (mtx mid).2.1 pc = .ok (.if_icmp .ge q, nx - pc)) && (decide ((pc : Int) + q = (a : Int)) && Nat.beq nx (pc + 3))) = true := hok
  obtain ⟨hd, hk⟩ := and_s hok
  have hd := of_decide_eq_true hd
  obtain ⟨hc, hn⟩ := and_s hk
  have hc := of_decide_eq_true hc
  obtain ⟨y, z, r0, rfl, h⟩ := m_ii (f := fun y z r0 => if y ≤ z then R d mid a ls r0 S else R d mid nx ls r0 S) h
  have e1 := beq_s hn
  subst e1
  exact sp_br (C := y ≤ z) (t1 := a) (t2 := pc + 3) (st' := r0) 3 hd hn hR (fun g => (if_pos g).symm.trans h) (fun g => (if_neg g).symm.trans h) (fun hC hd k1 k2 => lv_icmp_ge hC.1 hC.2.1 hd hc k1 k2)
theorem s_icmp_gt {q : Int} (hok : ckx (mtx mid) (pc, .if_icmp .gt q, nx, a, c0, w, x) = true) (hnd : ∀ v ∈ ndx (mtx mid) (pc, .if_icmp .gt q, nx, a, c0, w, x), v ∈ lw_tbl) (hR : HRx l R) (h : stp px R d mid (pc, .if_icmp .gt q, nx, a, c0, w, x) ls st S = some (r, S1)) : Simx l d mid pc ls st S r S1 := by
  have hok : (decide (decode (mtx mid).2.1 pc = .ok (.if_icmp .gt q, nx - pc)) && (decide ((pc : Int) + q = (a : Int)) && Nat.beq nx (pc + 3))) = true := hok
  obtain ⟨hd, hk⟩ := and_s hok
  have hd := of_decide_eq_true hd
  obtain ⟨hc, hn⟩ := and_s hk
  have hc := of_decide_eq_true hc
  obtain ⟨y, z, r0, rfl, h⟩ := m_ii (f := fun y z r0 => if y < z then R d mid a ls r0 S else R d mid nx ls r0 S) h
  have e1 := beq_s hn
  subst e1
  exact sp_br (C := y < z) (t1 := a) (t2 := pc + 3) (st' := r0) 3 hd hn hR (fun g => (if_pos g).symm.trans h) (fun g => (if_neg g).symm.trans h) (fun hC hd k1 k2 => lv_icmp_gt hC.1 hC.2.1 hd hc k1 k2)
theorem s_icmp_le {q : Int} (hok : ckx (mtx mid) (pc, .if_icmp .le q, nx, a, c0, w, x) = true) (hnd : ∀ v ∈ ndx (mtx mid) (pc, .if_icmp .le q, nx, a, c0, w, x), v ∈ lw_tbl) (hR : HRx l R) (h : stp px R d mid (pc, .if_icmp .le q, nx, a, c0, w, x) ls st S = some (r, S1)) : Simx l d mid pc ls st S r S1 := by
  have hok : (decide (decode (mtx mid).2.1 pc = .ok (.if_icmp .le q, nx - pc)) && (decide ((pc : Int) + q = (a : Int)) && Nat.beq nx (pc + 3))) = true := hok
  obtain ⟨hd, hk⟩ := and_s hok
  have hd := of_decide_eq_true hd
  obtain ⟨hc, hn⟩ := and_s hk
  have hc := of_decide_eq_true hc
  obtain ⟨y, z, r0, rfl, h⟩ := m_ii (f := fun y z r0 => if z ≤ y then R d mid a ls r0 S else R d mid nx ls r0 S) h
  have e1 := beq_s hn
  subst e1
  exact sp_br (C := z ≤ y) (t1 := a) (t2 := pc + 3) (st' := r0) 3 hd hn hR (fun g => (if_pos g).symm.trans h) (fun g => (if_neg g).symm.trans h) (fun hC hd k1 k2 => lv_icmp_le hC.1 hC.2.1 hd hc k1 k2)
end SI
