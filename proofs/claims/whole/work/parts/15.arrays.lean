section SA
variable {l : Launch} {R : Rx} {d mid pc nx a : Nat} {c0 : Int32} {w : Int64} {x : List Nat} {ls : Lx} {st st' : List Value} {S S' S1 : Sx} {r : Option Value}
theorem vpin_lt {i : Int32} {n : Nat} (h : vp_in i n) : i.toNatClampNeg < n := Nat.not_le.mp fun q => h (Or.inr q)
theorem tys_1 (cA : Nat → ClassId) : (tysx cA)[0]? = some (cA 1, .int) := rfl
theorem tys_2 (cA : Nat → ClassId) : (tysx cA)[1]? = some (cA 2, .boolean) := rfl
theorem tys_3 (cA : Nat → ClassId) {t : Nat} (h3 : 3 ≤ t) (h5 : t ≤ 5) : (tysx cA)[t - 1]? = some (cA t, .object (enx t)) := by
  rcases (show t = 3 ∨ t = 4 ∨ t = 5 by omega) with rfl | rfl | rfl <;> rfl
set_option maxHeartbeats 1000000 in
theorem s_iaload (hok : ckx (mtx mid) (pc, .iaload, nx, a, c0, w, x) = true) (hR : HRx l R) (h : stp px R d mid (pc, .iaload, nx, a, c0, w, x) ls st S = some (r, S1)) : Simx l d mid pc ls st S r S1 := by
  have hok : (decide (decode (mtx mid).2.1 pc = .ok (.iaload, nx - pc)) && Nat.beq nx (pc + 1)) = true := hok
  obtain ⟨hd, hn⟩ := and_s hok
  have hd := of_decide_eq_true hd
  obtain ⟨i, k, r0, rfl, h⟩ := m_ir (f := fun i k r0 => if inb i (al S k) = true then R d mid nx ls (.int (S.2.1 k i.toNatClampNeg) :: r0) S else none) h
  obtain ⟨g, h⟩ := i_t h
  refine sp_hp 1 (st' := .int (S.2.1 k i.toNatClampNeg) :: r0) hd hn hR h (fun _ _ g => g) ?_
  intro p e Rm s m args below meth c H locs cells slots Q arr D cA b sa tL L xs n0 hC hE hsz hfr hlo hcl hsl hd hG hP hz hS hce hse hl kk
  have kk := kk H locs cells slots hP hS hce hse
  show W p l e Rm s m args below meth c H locs cells slots Q (F0 m pc arr (.int i :: .ref (adx b sa tL k) :: r0.map (cvx (adx b sa tL))))
  unfold al at g
  by_cases h1 : k = 1000
  · subst h1
    have g : inb i S.2.2.2.2 = true := g
    rw [hG.2.1] at g
    have hin := vp_inb g
    have e1 := hG.2.2.1 _ (vpin_lt hin)
    refine va_sld hC.1 hC.2.1 hE.2.1 (by have := hE.2.2.1; omega) (by have := hE.2.2.1; omega) hS hin hd ?_
    rw [← e1]
    exact kk
  · rw [show Nat.beq k 1000 = false from Bool.eq_false_iff.mpr (fun q => h1 (beq_s q))] at g
    by_cases h2 : k = 1001
    · subst h2
      have hin := vp_inb (show inb i 6 = true from g)
      refine va_ti hC.1 hC.2.1 hE.2.2.2.2.2.1 hS hin (v := .int (S.2.1 1001 i.toNatClampNeg)) (by rw [hG.2.2.2 _ (vpin_lt hin)]) hd ?_
      exact kk
    · rw [show Nat.beq k 1001 = false from Bool.eq_false_iff.mpr (fun q => h2 (beq_s q))] at g
      obtain ⟨g1, g2, g3⟩ := aw_spec (show inb i (aw S 1 k) = true from g)
      rw [adx_lo (by have := hG.1; omega)]
      exact va_iald (D := D) (cl := clx) (ws := wlx b (adx b sa tL) cA S) hC.1 hC.2.1 hE.1 hP k 0 (by rw [wlx_get g1, cex_1 g2]) (tys_1 cA) g3 hd kk
set_option maxHeartbeats 1000000 in
theorem s_iastore (hok : ckx (mtx mid) (pc, .iastore, nx, a, c0, w, x) = true) (hR : HRx l R) (h : stp px R d mid (pc, .iastore, nx, a, c0, w, x) ls st S = some (r, S1)) : Simx l d mid pc ls st S r S1 := by
  have hok : (decide (decode (mtx mid).2.1 pc = .ok (.iastore, nx - pc)) && Nat.beq nx (pc + 1)) = true := hok
  obtain ⟨hd, hn⟩ := and_s hok
  have hd := of_decide_eq_true hd
  obtain ⟨v, i, k, r0, rfl, h⟩ := m_iir (f := fun v i k r0 => if inb i (aw S 1 k) = true then R d mid nx ls r0 (sI S k i.toNatClampNeg v) else none) h
  obtain ⟨g, h⟩ := i_t h
  obtain ⟨g1, g2, g3⟩ := aw_spec g
  refine sp_hp 1 (st' := r0) hd hn hR h (fun _ _ q => q.sI g1) ?_
  intro p e Rm s m args below meth c H locs cells slots Q arr D cA b sa tL L xs n0 hC hE hsz hfr hlo hcl hsl hd hG hP hz hS hce hse hl kk
  show W p l e Rm s m args below meth c H locs cells slots Q (F0 m pc arr (.int v :: .int i :: .ref (adx b sa tL k) :: r0.map (cvx (adx b sa tL))))
  rw [adx_lo (by have := hG.1; omega)]
  refine va_iast (D := D) (cl := clx) (ws := wlx b (adx b sa tL) cA S) hC.1 hC.2.1 hE.1 hP (wlx_D _ _ _ _) hS k 0 (by rw [wlx_get g1, cex_1 g2]) (tys_1 cA) g3 hd (fun H1 locs1 hP1 hD1 hS1 => ?_)
  rw [wlx_set (S := S) (S1 := sI S k i.toNatClampNeg v) rfl (by rw [cex_1 g2, sI_at]) (fun j hj => sI_same hj)] at hP1
  exact kk H1 locs1 cells slots hP1 hS1 hce hse
set_option maxHeartbeats 1000000 in
theorem s_baload (hok : ckx (mtx mid) (pc, .baload, nx, a, c0, w, x) = true) (hR : HRx l R) (h : stp px R d mid (pc, .baload, nx, a, c0, w, x) ls st S = some (r, S1)) : Simx l d mid pc ls st S r S1 := by
  have hok : (decide (decode (mtx mid).2.1 pc = .ok (.baload, nx - pc)) && Nat.beq nx (pc + 1)) = true := hok
  obtain ⟨hd, hn⟩ := and_s hok
  have hd := of_decide_eq_true hd
  obtain ⟨i, k, r0, rfl, h⟩ := m_ir (f := fun i k r0 => if inb i (aw S 2 k) = true then R d mid nx ls (.int (S.2.1 k i.toNatClampNeg) :: r0) S else none) h
  obtain ⟨g, h⟩ := i_t h
  obtain ⟨g1, g2, g3⟩ := aw_spec g
  refine sp_hp 1 (st' := .int (S.2.1 k i.toNatClampNeg) :: r0) hd hn hR h (fun _ _ g => g) ?_
  intro p e Rm s m args below meth c H locs cells slots Q arr D cA b sa tL L xs n0 hC hE hsz hfr hlo hcl hsl hd hG hP hz hS hce hse hl kk
  show W p l e Rm s m args below meth c H locs cells slots Q (F0 m pc arr (.int i :: .ref (adx b sa tL k) :: r0.map (cvx (adx b sa tL))))
  rw [adx_lo (by have := hG.1; omega)]
  exact va_zald (D := D) (cl := clx) (ws := wlx b (adx b sa tL) cA S) hC.1 hC.2.1 hE.1 hP k 1 (by rw [wlx_get g1, cex_2 g2]) (tys_2 cA) g3 hd (kk H locs cells slots hP hS hce hse)
set_option maxHeartbeats 1000000 in
theorem s_bastore (hok : ckx (mtx mid) (pc, .bastore, nx, a, c0, w, x) = true) (hR : HRx l R) (h : stp px R d mid (pc, .bastore, nx, a, c0, w, x) ls st S = some (r, S1)) : Simx l d mid pc ls st S r S1 := by
  have hok : (decide (decode (mtx mid).2.1 pc = .ok (.bastore, nx - pc)) && Nat.beq nx (pc + 1)) = true := hok
  obtain ⟨hd, hn⟩ := and_s hok
  have hd := of_decide_eq_true hd
  obtain ⟨v, i, k, r0, rfl, h⟩ := m_iir (f := fun v i k r0 => if inb i (aw S 2 k) = true then R d mid nx ls r0 (sI S k i.toNatClampNeg (v &&& 1)) else none) h
  obtain ⟨g, h⟩ := i_t h
  obtain ⟨g1, g2, g3⟩ := aw_spec g
  refine sp_hp 1 (st' := r0) hd hn hR h (fun _ _ q => q.sI g1) ?_
  intro p e Rm s m args below meth c H locs cells slots Q arr D cA b sa tL L xs n0 hC hE hsz hfr hlo hcl hsl hd hG hP hz hS hce hse hl kk
  show W p l e Rm s m args below meth c H locs cells slots Q (F0 m pc arr (.int v :: .int i :: .ref (adx b sa tL k) :: r0.map (cvx (adx b sa tL))))
  rw [adx_lo (by have := hG.1; omega)]
  refine va_zast (D := D) (cl := clx) (ws := wlx b (adx b sa tL) cA S) hC.1 hC.2.1 hE.1 hP (wlx_D _ _ _ _) hS k 1 (by rw [wlx_get g1, cex_2 g2]) (tys_2 cA) g3 hd (fun H1 locs1 hP1 hD1 hS1 => ?_)
  rw [wlx_set (S := S) (S1 := sI S k i.toNatClampNeg (v &&& 1)) rfl (by rw [cex_2 g2, sI_at]; rfl) (fun j hj => sI_same hj)] at hP1
  exact kk H1 locs1 cells slots hP1 hS1 hce hse
set_option maxHeartbeats 1000000 in
theorem s_aaload (hok : ckx (mtx mid) (pc, .aaload, nx, a, c0, w, x) = true) (hR : HRx l R) (h : stp px R d mid (pc, .aaload, nx, a, c0, w, x) ls st S = some (r, S1)) : Simx l d mid pc ls st S r S1 := by
  have hok : (decide (decode (mtx mid).2.1 pc = .ok (.aaload, nx - pc)) && (Nat.ble 3 a && (Nat.ble a 5 && Nat.beq nx (pc + 1)))) = true := hok
  obtain ⟨hd, hk⟩ := and_s hok
  have hd := of_decide_eq_true hd
  obtain ⟨h3, hk⟩ := and_s hk
  obtain ⟨h5, hn⟩ := and_s hk
  have h3 := Nat.le_of_ble_eq_true h3
  have h5 := Nat.le_of_ble_eq_true h5
  obtain ⟨i, k, r0, rfl, h⟩ := m_ir (f := fun i k r0 => if inb i (aw S a k) = true then R d mid nx ls (va_rf (S.2.2.2.1 k i.toNatClampNeg) :: r0) S else none) h
  obtain ⟨g, h⟩ := i_t h
  obtain ⟨g1, g2, g3⟩ := aw_spec g
  refine sp_hp 1 (st' := va_rf (S.2.2.2.1 k i.toNatClampNeg) :: r0) hd hn hR h (fun _ _ g => g) ?_
  intro p e Rm s m args below meth c H locs cells slots Q arr D cA b sa tL L xs n0 hC hE hsz hfr hlo hcl hsl hd hG hP hz hS hce hse hl kk
  have kk := kk H locs cells slots hP hS hce hse
  rw [List.map_cons, cv_rf] at kk
  show W p l e Rm s m args below meth c H locs cells slots Q (F0 m pc arr (.int i :: .ref (adx b sa tL k) :: r0.map (cvx (adx b sa tL))))
  rw [adx_lo (by have := hG.1; omega)]
  exact va_aldq (D := D) (cl := clx) (ws := wlx b (adx b sa tL) cA S) hC.1 hC.2.1 hE.1 hP k (a - 1) (by rw [wlx_get g1, cex_3 g2 h3]) (tys_3 cA h3 h5) g3 hd kk
theorem iob_spec {k : Nat} (h : iob S k = true) : k < S.1 ∧ shp k = (0, (shp k).2) := by
  simp only [iob, Bool.and_eq_true] at h
  exact ⟨Nat.le_of_ble_eq_true h.1, Prod.ext (beq_s h.2) rfl⟩
theorem elem_mem {q : Nat} {x : List Nat} (h : x.elem q = true) : q ∈ x := List.elem_iff.mp h
set_option maxHeartbeats 1000000 in
theorem s_aastore (hok : ckx (mtx mid) (pc, .aastore, nx, a, c0, w, x) = true) (hR : HRx l R) (h : stp px R d mid (pc, .aastore, nx, a, c0, w, x) ls st S = some (r, S1)) : Simx l d mid pc ls st S r S1 := by
  have hok : (decide (decode (mtx mid).2.1 pc = .ok (.aastore, nx - pc)) && ((Nat.ble 3 a && (Nat.ble a 5 && x.all fun ci => Nat.blt ci 13 && (decide ((dvc ci).1 = enx a) || decide (Cond.castable (dvc ci).1 (enx a) ∈ lw_tbl)))) && Nat.beq nx (pc + 1))) = true := hok
  obtain ⟨hd, hk⟩ := and_s hok
  have hd := of_decide_eq_true hd
  obtain ⟨hk, hn⟩ := and_s hk
  obtain ⟨h3, hk⟩ := and_s hk
  obtain ⟨h5, hall⟩ := and_s hk
  have h3 := Nat.le_of_ble_eq_true h3
  have h5 := Nat.le_of_ble_eq_true h5
  obtain ⟨v, i, k, r0, rfl, h⟩ := m_rir (f := fun v i k r0 => if (inb i (aw S a k) && (iob S v && x.elem (shp v).2)) = true then R d mid nx ls r0 (sR S k i.toNatClampNeg (some v)) else none) h
  obtain ⟨g, h⟩ := i_t h
  obtain ⟨g, gv⟩ := and_s g
  obtain ⟨gv, ge⟩ := and_s gv
  obtain ⟨g1, g2, g3⟩ := aw_spec g
  obtain ⟨gv1, gv2⟩ := iob_spec gv
  refine sp_hp 1 (st' := r0) hd hn hR h (fun _ _ q => q) ?_
  intro p e Rm s m args below meth c H locs cells slots Q arr D cA b sa tL L xs n0 hC hE hsz hfr hlo hcl hsl hd hG hP hz hS hce hse hl kk
  show W p l e Rm s m args below meth c H locs cells slots Q (F0 m pc arr (.ref (adx b sa tL v) :: .int i :: .ref (adx b sa tL k) :: r0.map (cvx (adx b sa tL))))
  rw [adx_lo (k := k) (by have := hG.1; omega)]
  have hci := List.all_eq_true.mp hall _ (elem_mem ge)
  obtain ⟨hc1, hc2⟩ := and_s hci
  have hc1 := blt_s hc1
  have hany : va_Any (enx a) s H (adx b sa tL v) := by
    rw [adx_lo (by have := hG.1; omega)]
    refine va_rAny (ws := wlx b (adx b sa tL) cA S) hE.1 hP (q0 := v) (by rw [wlx_get gv1, cex_0 gv2]) (dvc_get hc1) ?_
    intro comp c0' hcomp hc0
    rcases Bool.or_eq_true _ _ ▸ hc2 with e1 | e1
    · have e1 := of_decide_eq_true e1
      have hat := (hE.1.1 (shp v).2 _ (dvc_get hc1)).2
      rw [e1] at hc0
      cases hcomp.symm.trans hc0
      have := hat.1
      rw [e1] at this
      cases hcomp.symm.trans this
      exact va_assign hat
    · have e1 := of_decide_eq_true e1
      obtain ⟨q1, q2, f1, f2, f3⟩ := Cond.castable_spec (hC.2.2.2.2.2 _ (tbx_in e1 rfl))
      cases hcomp.symm.trans f2
      cases hc0.symm.trans f1
      exact f3
  refine va_astqM (D := D) (cl := clx) (ws := wlx b (adx b sa tL) cA S) hC.1 hC.2.1 hE.1 hP (wlx_D _ _ _ _) hS k (a - 1) (by rw [wlx_get g1, cex_3 g2 h3]) (tys_3 cA h3 h5) hany g3 hd (fun H1 locs1 hP1 hD1 hS1 => ?_)
  rw [wlx_set (S := S) (S1 := sR S k i.toNatClampNeg (some v)) rfl (by
    rw [cex_3 g2 h3, sR_at]
    congr 7
    funext j
    unfold va_up
    split <;> rfl) (fun j hj => sR_same hj)] at hP1
  exact kk H1 locs1 cells slots hP1 hS1 hce hse
end SA
