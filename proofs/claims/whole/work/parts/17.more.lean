section SD
variable {l : Launch} {R : Rx} {d mid pc nx a : Nat} {c0 : Int32} {w : Int64} {x : List Nat} {ls : Lx} {st st' : List Value} {S S' S1 : Sx} {r : Option Value}
set_option maxHeartbeats 1000000 in
theorem s_instanceof {n : Nat} (hok : ckx (mtx mid) (pc, .instanceof n, nx, a, c0, w, x) = true) (hnd : ∀ v ∈ ndx (mtx mid) (pc, .instanceof n, nx, a, c0, w, x), v ∈ lw_tbl) (hR : HRx l R) (h : stp px R d mid (pc, .instanceof n, nx, a, c0, w, x) ls st S = some (r, S1)) : Simx l d mid pc ls st S r S1 := by
  have hok : (decide (decode (mtx mid).2.1 pc = .ok (.instanceof n, nx - pc)) && ((x.all fun ci => (decide ((dvc ci).1 = (dvc (x.headD 0)).1) && (x.take a).elem ci) || ((x.take a).elem ci && decide (Cond.castable (dvc ci).1 (dvc (x.headD 0)).1 ∈ lw_tbl)) || (!((x.take a).elem ci) && decide (((dvc ci).1, (dvc (x.headD 0)).1) ∈ ncx))) && Nat.beq nx (pc + 3))) = true := hok
  obtain ⟨hd, hk⟩ := and_s hok
  have hd := of_decide_eq_true hd
  obtain ⟨hall, hn⟩ := and_s hk
  obtain ⟨k, r0, rfl, h⟩ := m_r (f := fun k r0 => if (iob S k && x.elem (shp k).2) = true then R d mid nx ls (.int (iot k (x.take a)) :: r0) S else none) h
  obtain ⟨g, h⟩ := i_t h
  obtain ⟨g, ge⟩ := and_s g
  obtain ⟨g1, g2⟩ := iob_spec g
  have hci := List.all_eq_true.mp hall _ (elem_mem ge)
  refine sp_hp 3 (st' := .int (iot k (x.take a)) :: r0) hd hn hR h (fun _ _ g => g) ?_
  intro p e Rm s m args below meth c H locs cells slots Q arr D cA b sa tL L xs n0 hC hE hsz hfr hlo hcl hsl hd hG hP hz hS hce hse hl kk
  have kk := kk H locs cells slots hP hS hce hse
  have h13 : (shp k).2 < 13 := shp_ci k (Nat.lt_of_lt_of_le g1 hG.1) (by rw [g2])
  have hr := va_recv (ws := wlx b (adx b sa tL) cA S) hE.1 hP (dvc_get h13) (q0 := k) (a := b + k) (by rw [wlx_get g1, cex_0 g2])
  show W p l e Rm s m args below meth c H locs cells slots Q (F0 m pc arr (.ref (adx b sa tL k) :: r0.map (cvx (adx b sa tL))))
  rw [adx_lo (by have := hG.1; omega)]
  have hlink := hC.2.2.2.2.2 _ (tbx_in (hnd _ List.mem_cons_self) rfl)
  rcases Bool.or_eq_true _ _ ▸ hci with q | q
  · have e1 : iot k (x.take a) = 1 := by
      unfold iot
      rcases Bool.or_eq_true _ _ ▸ q with q | q
      · rw [(and_s q).2]; rfl
      · rw [(and_s q).1]; rfl
    rw [e1] at kk
    rcases Bool.or_eq_true _ _ ▸ q with q | q
    · have e2 := of_decide_eq_true (and_s q).1
      have hat := (hE.1.1 (shp k).2 _ (dvc_get h13)).2
      rw [e2] at hr hat
      exact va_instS hC.1 hC.2.1 hC.2.2.2.1 hlink hat hr hd kk
    · exact va_instY hC.1 hC.2.1 hC.2.2.2.1 hlink (va_Nw.of rfl (hC.2.2.2.2.2 _ (tbx_in (of_decide_eq_true (and_s q).2) rfl))) hr hd kk
  · obtain ⟨q1, q2⟩ := and_s q
    have e1 : iot k (x.take a) = 0 := by
      unfold iot
      rw [show (x.take a).elem (shp k).2 = false by simpa using q1]
      rfl
    rw [e1] at kk
    exact va_instNo hC.1 hC.2.1 hC.2.2.2.1 hlink (hE.2.2.2.2.2.2 _ (of_decide_eq_true q2)) hr hd kk
set_option maxHeartbeats 1000000 in
theorem s_getstatic {n : Nat} (hok : ckx (mtx mid) (pc, .getstatic n, nx, a, c0, w, x) = true) (hnd : ∀ v ∈ ndx (mtx mid) (pc, .getstatic n, nx, a, c0, w, x), v ∈ lw_tbl) (hR : HRx l R) (h : stp px R d mid (pc, .getstatic n, nx, a, c0, w, x) ls st S = some (r, S1)) : Simx l d mid pc ls st S r S1 := by
  have hok : (decide (decode (mtx mid).2.1 pc = .ok (.getstatic n, nx - pc)) && Nat.beq nx (pc + 3)) = true := hok
  obtain ⟨hd, hn⟩ := and_s hok
  have hd := of_decide_eq_true hd
  refine sp_hp 3 (st' := .ref 1001 :: st) hd hn hR h (fun _ _ g => g) ?_
  intro p e Rm s m args below meth c H locs cells slots Q arr D cA b sa tL L xs n0 hC hE hsz hfr hlo hcl hsl hd hG hP hz hS hce hse hl kk
  exact va_gets hC.1 hC.2.1 hE.2.2.2.2.1 hS hC.2.2.2.1 (hC.2.2.2.2.2 _ (tbx_in (hnd _ List.mem_cons_self) rfl)) (fun _ q => q) hd (kk H locs cells slots hP hS hce hse)
theorem swt_inv {v : Int32} {f : Nat → Ox} {z : Ox} {y : Option Value × Sx} : ∀ (ts : List Nat) (k : Nat), swt v k ts f z = some y → (∃ i t, ts[i]? = some t ∧ v = Int32.ofNat (k + i) ∧ f t = some y) ∨ ((∀ i, i < ts.length → v ≠ Int32.ofNat (k + i)) ∧ z = some y)
  | [], k, h => Or.inr ⟨fun i hi => absurd hi (Nat.not_lt_zero i), h⟩
  | t :: ts, k, h => by
    simp only [swt] at h
    split at h
    · rename_i g
      exact Or.inl ⟨0, t, rfl, g, h⟩
    · rename_i g
      rcases swt_inv ts (k + 1) h with ⟨i, t', h1, h2, h3⟩ | ⟨h1, h2⟩
      · exact Or.inl ⟨i + 1, t', h1, by rw [h2]; congr 1; omega, h3⟩
      · refine Or.inr ⟨fun i hi => ?_, h2⟩
        cases i with
        | zero => exact g
        | succ j =>
          have := h1 j (by simpa using hi)
          rw [show k + 1 + j = k + (j + 1) by omega] at this
          exact this
set_option maxHeartbeats 1000000 in
theorem s_tableswitch {df lo hi : Int} {offs : Array Int} (hok : ckx (mtx mid) (pc, .tableswitch df lo hi offs, nx, a, c0, w, x) = true) (hR : HRx l R) (h : stp px R d mid (pc, .tableswitch df lo hi offs, nx, a, c0, w, x) ls st S = some (r, S1)) : Simx l d mid pc ls st S r S1 := by
  have hok : (decide (decode (mtx mid).2.1 pc = .ok (.tableswitch df lo hi offs, nx - pc)) && (decide ((pc : Int) + df = (a : Int)) && (decide (0 ≤ lo) && (decide (lo + (x.length : Int) < 2147483647) && (decide (hi = lo + (x.length : Int) - 1) && decide (offs.toList.map (fun o => (pc : Int) + o) = x.map (fun t : Nat => (t : Int)))))))) = true := hok
  obtain ⟨hd, hk⟩ := and_s hok
  have hd := of_decide_eq_true hd
  obtain ⟨h1, hk⟩ := and_s hk
  obtain ⟨h2, hk⟩ := and_s hk
  obtain ⟨h3, hk⟩ := and_s hk
  obtain ⟨h4, h5⟩ := and_s hk
  have h1 := of_decide_eq_true h1
  have h2 := of_decide_eq_true h2
  have h3 := of_decide_eq_true h3
  have h4 := of_decide_eq_true h4
  have h5 := of_decide_eq_true h5
  obtain ⟨v, r0, rfl, h⟩ := m_i (f := fun v r0 => swt v lo.toNat x (fun t => R d mid t ls r0 S) (R d mid a ls r0 S)) h
  intro p e Rm s m args below meth c Q D cA b sa tL L xs n0 hC hE hsz hfr hlo hcl hsl fin H locs cells slots arr hG hW hS hce hse hl
  rcases swt_inv _ _ h with ⟨i, t, e1, e2, h⟩ | ⟨e1, h⟩
  · have k := hR _ _ _ _ _ _ _ _ h p e Rm s m args below meth c Q D cA b sa tL L xs n0 hC hE hsz hfr hlo hcl hsl fin H locs cells slots arr hG hW hS hce hse hl
    have hi2 : i < x.length := (List.getElem?_eq_some_iff.mp e1).1
    have hv : v.toInt = lo + i := by
      rw [e2]
      have := nI_toInt (n := lo.toNat + i) (by omega)
      unfold nI at this
      rw [this]
      omega
    have hof : ∃ off, offs[(v.toInt - lo).toNat]? = some off ∧ (pc : Int) + off = (t : Int) := by
      rw [hv, show (lo + (i : Int) - lo).toNat = i by omega]
      have hm : (offs.toList.map (fun o => (pc : Int) + o))[i]? = some (t : Int) := by rw [h5, List.getElem?_map, e1]; rfl
      rw [List.getElem?_map, Array.getElem?_toList] at hm
      cases ho : offs[i]? with
      | none => rw [ho] at hm; cases hm
      | some off => rw [ho] at hm; exact ⟨off, rfl, Option.some.inj hm⟩
    obtain ⟨off, ho, ht⟩ := hof
    exact lv_tableIn hC.1 hC.2.1 hd (by omega) (by omega) ho ht k
  · have k := hR _ _ _ _ _ _ _ _ h p e Rm s m args below meth c Q D cA b sa tL L xs n0 hC hE hsz hfr hlo hcl hsl fin H locs cells slots arr hG hW hS hce hse hl
    refine lv_tableOut hC.1 hC.2.1 hd ?_ h1 k
    by_cases q : v.toInt < lo
    · exact Or.inl q
    · right
      refine Int.not_le.mp (fun q2 => ?_)
      refine e1 (v.toInt - lo).toNat (by omega) ?_
      apply Int32.toInt_inj.mp
      have := nI_toInt (n := lo.toNat + (v.toInt - lo).toNat) (by omega)
      unfold nI at this
      rw [this]
      omega
theorem s_ireturn (hok : ckx (mtx mid) (pc, .ireturn, nx, a, c0, w, x) = true) (h : stp px R d mid (pc, .ireturn, nx, a, c0, w, x) ls st S = some (r, S1)) : Simx l d mid pc ls st S r S1 := by
  have hok : (decide (decode (mtx mid).2.1 pc = .ok (.ireturn, nx - pc)) && (((Nat.beq a 0 && decide ((mtx mid).2.2.2.1 = some .int)) || (Nat.beq a 1 && decide ((mtx mid).2.2.2.1 = some .boolean))) && Nat.beq nx (pc + 1))) = true := hok
  obtain ⟨hd, hk⟩ := and_s hok
  have hd := of_decide_eq_true hd
  obtain ⟨ho, hn⟩ := and_s hk
  have e1 := beq_s hn
  subst e1
  rw [Nat.add_sub_cancel_left] at hd
  match st, h with
  | [.int v], h =>
    intro p e Rm s m args below meth c Q D cA b sa tL L xs n0 hC hE hsz hfr hlo hcl hsl fin H locs cells slots arr hG hW hS hce hse hl
    rcases Bool.or_eq_true _ _ ▸ ho with q | q
    · obtain ⟨q1, q2⟩ := and_s q
      have q1 := beq_s q1
      subst q1
      cases (show some (some (.int v), S) = some (r, S1) from h)
      exact fin H locs cells slots arr pc _ hW hS hce hse (Or.inl ⟨hd, v, rfl, Or.inl ⟨of_decide_eq_true q2, rfl⟩⟩)
    · obtain ⟨q1, q2⟩ := and_s q
      have q1 := beq_s q1
      subst q1
      cases (show some (some (.int (v &&& 1)), S) = some (r, S1) from h)
      exact fin H locs cells slots arr pc _ hW hS hce hse (Or.inl ⟨hd, v, rfl, Or.inr ⟨of_decide_eq_true q2, rfl⟩⟩)
theorem s_lreturn (hok : ckx (mtx mid) (pc, .lreturn, nx, a, c0, w, x) = true) (h : stp px R d mid (pc, .lreturn, nx, a, c0, w, x) ls st S = some (r, S1)) : Simx l d mid pc ls st S r S1 := by
  have hok : (decide (decode (mtx mid).2.1 pc = .ok (.lreturn, nx - pc)) && (decide ((mtx mid).2.2.2.1 = some .long) && Nat.beq nx (pc + 1))) = true := hok
  obtain ⟨hd, hk⟩ := and_s hok
  have hd := of_decide_eq_true hd
  obtain ⟨ho, hn⟩ := and_s hk
  have e1 := beq_s hn
  subst e1
  rw [Nat.add_sub_cancel_left] at hd
  match st, h with
  | [.long v], h =>
    intro p e Rm s m args below meth c Q D cA b sa tL L xs n0 hC hE hsz hfr hlo hcl hsl fin H locs cells slots arr hG hW hS hce hse hl
    cases (show some (some (.long v), S) = some (r, S1) from h)
    exact fin H locs cells slots arr pc _ hW hS hce hse (Or.inr (Or.inl ⟨hd, v, rfl, of_decide_eq_true ho, rfl⟩))
theorem s_areturn (hok : ckx (mtx mid) (pc, .areturn, nx, a, c0, w, x) = true) (h : stp px R d mid (pc, .areturn, nx, a, c0, w, x) ls st S = some (r, S1)) : Simx l d mid pc ls st S r S1 := by
  have hok : (decide (decode (mtx mid).2.1 pc = .ok (.areturn, nx - pc)) && (decide ((mtx mid).2.2.2.1 = some (.object "DoorSold$Kind")) && Nat.beq nx (pc + 1))) = true := hok
  obtain ⟨hd, hk⟩ := and_s hok
  have hd := of_decide_eq_true hd
  obtain ⟨ho, hn⟩ := and_s hk
  have e1 := beq_s hn
  subst e1
  rw [Nat.add_sub_cancel_left] at hd
  match st, h with
  | [.ref v], h =>
    intro p e Rm s m args below meth c Q D cA b sa tL L xs n0 hC hE hsz hfr hlo hcl hsl fin H locs cells slots arr hG hW hS hce hse hl
    cases (show some (some (.ref v), S) = some (r, S1) from h)
    exact fin H locs cells slots arr pc _ hW hS hce hse (Or.inr (Or.inr (Or.inl ⟨hd, v, rfl, of_decide_eq_true ho, rfl⟩)))
theorem s_return (hok : ckx (mtx mid) (pc, .return_, nx, a, c0, w, x) = true) (h : stp px R d mid (pc, .return_, nx, a, c0, w, x) ls st S = some (r, S1)) : Simx l d mid pc ls st S r S1 := by
  have hok : (decide (decode (mtx mid).2.1 pc = .ok (.return_, nx - pc)) && (decide ((mtx mid).2.2.2.1 = none) && Nat.beq nx (pc + 1))) = true := hok
  obtain ⟨hd, hk⟩ := and_s hok
  have hd := of_decide_eq_true hd
  obtain ⟨ho, hn⟩ := and_s hk
  have e1 := beq_s hn
  subst e1
  rw [Nat.add_sub_cancel_left] at hd
  match st, h with
  | [], h =>
    intro p e Rm s m args below meth c Q D cA b sa tL L xs n0 hC hE hsz hfr hlo hcl hsl fin H locs cells slots arr hG hW hS hce hse hl
    cases (show some (none, S) = some (r, S1) from h)
    exact fin H locs cells slots arr pc _ hW hS hce hse (Or.inr (Or.inr (Or.inr ⟨hd, rfl, of_decide_eq_true ho, rfl⟩)))
theorem cpS_same {k sp q dp n i : Nat} {ad : Nat → Nat} {cA : Nat → ClassId} (h : i ≠ q) : cex ad cA (cpS S k sp q dp n) i = cex ad cA S i := cex_same (va_up_n h) rfl rfl
theorem cpS_at (k sp q dp n : Nat) : (cpS S k sp q dp n).2.1 q = va_cpy (S.2.1 k) (S.2.1 q) sp dp n := va_up_s _ _ _
set_option maxHeartbeats 1000000 in
theorem s_arraycopy {n : Nat} (hw : Cond.initialized "java/lang/System" ∈ tbx) (hok : ckx (mtx mid) (pc, .invokestatic n, nx, a, c0, w, [5]) = true) (hnd : ∀ v ∈ ndx (mtx mid) (pc, .invokestatic n, nx, a, c0, w, [5]), v ∈ lw_tbl) (hR : HRx l R) (h : stp px R d mid (pc, .invokestatic n, nx, a, c0, w, [5]) ls st S = some (r, S1)) : Simx l d mid pc ls st S r S1 := by
  have hok : (decide (decode (mtx mid).2.1 pc = .ok (.invokestatic n, nx - pc)) && (true && Nat.beq nx (pc + 3))) = true := hok
  obtain ⟨hd, hk⟩ := and_s hok
  have hd := of_decide_eq_true hd
  have hn := (and_s hk).2
  match st, d, h with
  | .int v :: .int dp :: .ref q :: .int sp :: .ref k :: r0, d + 1, h =>
    have h : (bif Nat.ble (rwd r0) 8 then (if cpk S k q sp dp v = true then R (d + 1) mid nx ls r0 (cpS S k sp.toNatClampNeg q dp.toNatClampNeg v.toNatClampNeg) else none) else none) = some (r, S1) := h
    obtain ⟨g0, h⟩ := c_t h
    have g0 := Nat.le_of_ble_eq_true g0
    obtain ⟨g, h⟩ := i_t h
    simp only [cpk, Bool.and_eq_true] at g
    obtain ⟨ga, gb, gc, gd, ge, gf, gg⟩ := g
    obtain ⟨k1, k2⟩ := isa_spec gf
    obtain ⟨q1, q2⟩ := isa_spec gg
    have gd := Nat.le_of_ble_eq_true gd
    have ge := Nat.le_of_ble_eq_true ge
    rw [show aw S 1 k = (shp k).2 by unfold aw; rw [gf]; rfl] at gd
    rw [show aw S 1 q = (shp q).2 by unfold aw; rw [gg]; rfl] at ge
    refine sp_hp 3 (st' := r0) hd hn hR h (fun _ _ z => z.cp q1) ?_
    intro p e Rm s m args below meth c H locs cells slots Q arr D cA b sa tL L xs n0 hC hE hsz hfr hlo hcl hsl hd hG hP hz hS hce hse hl kk
    show W p l e Rm s m args below meth c H locs cells slots Q (F0 m pc arr (.int v :: .int dp :: .ref (adx b sa tL q) :: .int sp :: .ref (adx b sa tL k) :: r0.map (cvx (adx b sa tL))))
    rw [adx_lo (k := k) (by have := hG.1; omega), adx_lo (k := q) (by have := hG.1; omega)]
    have hT : ∀ w' ∈ ndx (mtx mid) (pc, .invokestatic n, nx, a, c0, w, [5]), rdw w' = true → w'.before args s = true := fun w' h1 h2 => hC.2.2.2.2.2 w' (tbx_in (hnd w' h1) h2)
    refine va_copyi (D := D) (cl := clx) (ws := wlx b (adx b sa tL) cA S) (tys := tysx cA) (ty := .int) hC.1 hC.2.1 (hC.2.2.1.trans hl.2.1.symm) hC.2.2.2.1 (hT _ List.mem_cons_self rfl) (hT _ (List.mem_cons_of_mem _ List.mem_cons_self) rfl) (hT _ (List.mem_cons_of_mem _ (List.mem_cons_of_mem _ List.mem_cons_self)) rfl) (hC.2.2.2.2.2 _ hw) hE.1 hP (wlx_D _ _ _ _) hS k q 0 0 (by rw [wlx_get k1, cex_1 k2]) (by rw [wlx_get q1, cex_1 q2]) (tys_1 cA) (tys_1 cA) rfl (by simpa using ga) (by simpa using gb) (by simpa using gc) gd ge (fun _ _ => rfl) (by omega) (by
      rw [rwd_sum]
      have : nativeFrameWords "java/lang/System" "arraycopy" 5 = 7 := by decide +kernel
      omega) hd (fun H1 locs1 hP1 hD1 hS1 => ?_)
    rw [wlx_set (S := S) (S1 := cpS S k sp.toNatClampNeg q dp.toNatClampNeg v.toNatClampNeg) rfl (by rw [cex_1 q2, cpS_at]) (fun j hj => cpS_same hj)] at hP1
    exact kk H1 locs1 cells slots hP1 hS1 hce hse
set_option maxHeartbeats 1000000 in
theorem s_objinit {n : Nat} (hw : Cond.code objectInit ⟨#[0xb1]⟩ 1 none ∈ tbx) (hok : ckx (mtx mid) (pc, .invokespecial n, nx, a, c0, w, [3]) = true) (hnd : ∀ v ∈ ndx (mtx mid) (pc, .invokespecial n, nx, a, c0, w, [3]), v ∈ lw_tbl) (hR : HRx l R) (h : stp px R d mid (pc, .invokespecial n, nx, a, c0, w, [3]) ls st S = some (r, S1)) : Simx l d mid pc ls st S r S1 := by
  have hok : (decide (decode (mtx mid).2.1 pc = .ok (.invokespecial n, nx - pc)) && (true && Nat.beq nx (pc + 3))) = true := hok
  obtain ⟨hd, hk⟩ := and_s hok
  have hd := of_decide_eq_true hd
  have hn := (and_s hk).2
  match st, d, h with
  | .ref k :: r0, d + 1, h =>
    have h : (bif Nat.ble (rwd r0) 8 then R (d + 1) mid nx ls r0 S else none) = some (r, S1) := h
    obtain ⟨g0, h⟩ := c_t h
    have g0 := Nat.le_of_ble_eq_true g0
    refine sp_hp 3 (st' := r0) hd hn hR h (fun _ _ z => z) ?_
    intro p e Rm s m args below meth c H locs cells slots Q arr D cA b sa tL L xs n0 hC hE hsz hfr hlo hcl hsl hd hG hP hz hS hce hse hl kk
    have hT : ∀ w' ∈ ndx (mtx mid) (pc, .invokespecial n, nx, a, c0, w, [3]), rdw w' = true → w'.before args s = true := fun w' h1 h2 => hC.2.2.2.2.2 w' (tbx_in (hnd w' h1) h2)
    refine W.objInit (g := F0 m pc arr ((.ref k :: r0).map (cvx (adx b sa tL)))) (rest := r0.map (cvx (adx b sa tL))) hC.1 hC.2.1 hC.2.2.2.1 (hT _ List.mem_cons_self rfl) (hT _ (List.mem_cons_of_mem _ List.mem_cons_self) rfl) (hC.2.2.2.2.2 _ hw) rfl (hl.2.1.trans hC.2.2.1.symm) rfl hd (by omega) (by
      rw [rwd_sum]
      show 2 * 0 + rwd r0 + 12 ≤ Rm.locals
      omega) (kk H locs cells slots hP hS hce hse)
end SD
