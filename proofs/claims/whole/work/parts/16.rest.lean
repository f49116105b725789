section SB
variable {l : Launch} {R : Rx} {d mid pc nx a : Nat} {c0 : Int32} {w : Int64} {x : List Nat} {ls : Lx} {st st' : List Value} {S S' S1 : Sx} {r : Option Value}
set_option maxHeartbeats 1000000 in
theorem s_arraylength (hok : ckx (mtx mid) (pc, .arraylength, nx, a, c0, w, x) = true) (hR : HRx l R) (h : stp px R d mid (pc, .arraylength, nx, a, c0, w, x) ls st S = some (r, S1)) : Simx l d mid pc ls st S r S1 := by
  have hok : (decide (decode (mtx mid).2.1 pc = .ok (.arraylength, nx - pc)) && (Nat.ble 1 a && (Nat.ble a 5 && Nat.beq nx (pc + 1)))) = true := hok
  obtain ⟨hd, hk⟩ := and_s hok
  have hd := of_decide_eq_true hd
  obtain ⟨h3, hk⟩ := and_s hk
  obtain ⟨h5, hn⟩ := and_s hk
  have h3 := Nat.le_of_ble_eq_true h3
  have h5 := Nat.le_of_ble_eq_true h5
  obtain ⟨k, r0, rfl, h⟩ := m_r (f := fun k r0 => match a with
        | 1 => if (Nat.beq k 1000 || isa S 1 k) = true then R d mid nx ls (.int (Int32.ofNat (al S k)) :: r0) S else none
        | t => if isa S t k = true then R d mid nx ls (.int (Int32.ofNat (aw S t k)) :: r0) S else none) h
  by_cases h1 : a = 1
  · subst h1
    have h : (if (Nat.beq k 1000 || isa S 1 k) = true then R d mid nx ls (.int (Int32.ofNat (al S k)) :: r0) S else none) = some (r, S1) := h
    obtain ⟨g, h⟩ := i_t h
    refine sp_hp 1 (st' := .int (Int32.ofNat (al S k)) :: r0) hd hn hR h (fun _ _ g => g) ?_
    intro p e Rm s m args below meth c H locs cells slots Q arr D cA b sa tL L xs n0 hC hE hsz hfr hlo hcl hsl hd hG hP hz hS hce hse hl kk
    have kk := kk H locs cells slots hP hS hce hse
    show W p l e Rm s m args below meth c H locs cells slots Q (F0 m pc arr (.ref (adx b sa tL k) :: r0.map (cvx (adx b sa tL))))
    by_cases h2 : k = 1000
    · subst h2
      show W p l e Rm s m args below meth c H locs cells slots Q (F0 m pc arr (.ref sa :: r0.map (cvx (adx b sa tL))))
      refine va_slen (b := sa) hC.1 hC.2.1 hE.2.1 (by have := hE.2.2.1; omega) (by have := hE.2.2.1; omega) hS hd ?_
      rw [show al S 1000 = S.2.2.2.2 from rfl, hG.2.1] at kk
      exact kk
    · rw [show Nat.beq k 1000 = false from Bool.eq_false_iff.mpr (fun q => h2 (beq_s q)), Bool.false_or] at g
      obtain ⟨g1, g2⟩ := isa_spec g
      rw [adx_lo (by have := hG.1; omega)]
      refine va_alen (D := D) (cl := clx) (ws := wlx b (adx b sa tL) cA S) hC.1 hC.2.1 hE.1 hP k 0 (by rw [wlx_get g1, cex_1 g2]) (tys_1 cA) (v := Int32.ofNat (al S k)) ?_ hd kk
      have : al S k = (shp k).2 := by
        unfold al aw
        rw [show Nat.beq k 1000 = false from Bool.eq_false_iff.mpr (fun q => h2 (beq_s q)), show Nat.beq k 1001 = false from Bool.eq_false_iff.mpr (fun q => by have := beq_s q; have := hG.1; omega), g]
        rfl
      rw [this]
  · have h : (if isa S a k = true then R d mid nx ls (.int (Int32.ofNat (aw S a k)) :: r0) S else none) = some (r, S1) := by
      match a, h1, h with
      | 0, _, h => exact h
      | a' + 2, _, h => exact h
    obtain ⟨g, h⟩ := i_t h
    obtain ⟨g1, g2⟩ := isa_spec g
    have e1 : aw S a k = (shp k).2 := by unfold aw; rw [g]; rfl
    rw [e1] at h
    refine sp_hp 1 (st' := .int (Int32.ofNat (shp k).2) :: r0) hd hn hR h (fun _ _ g => g) ?_
    intro p e Rm s m args below meth c H locs cells slots Q arr D cA b sa tL L xs n0 hC hE hsz hfr hlo hcl hsl hd hG hP hz hS hce hse hl kk
    have kk := kk H locs cells slots hP hS hce hse
    show W p l e Rm s m args below meth c H locs cells slots Q (F0 m pc arr (.ref (adx b sa tL k) :: r0.map (cvx (adx b sa tL))))
    rw [adx_lo (by have := hG.1; omega)]
    by_cases h2 : a = 2
    · subst h2
      exact va_alen (D := D) (cl := clx) (ws := wlx b (adx b sa tL) cA S) hC.1 hC.2.1 hE.1 hP k 1 (by rw [wlx_get g1, cex_2 g2]) (tys_2 cA) (v := Int32.ofNat (shp k).2) rfl hd kk
    · exact va_alen (D := D) (cl := clx) (ws := wlx b (adx b sa tL) cA S) hC.1 hC.2.1 hE.1 hP k (a - 1) (by rw [wlx_get g1, cex_3 g2 (by omega)]) (tys_3 cA (by omega) h5) (v := Int32.ofNat (shp k).2) rfl hd kk
theorem nw_same {i : Nat} {ad : Nat → Nat} {cA : Nat → ClassId} (h : i ≠ S.1) : cex ad cA (nwS S) i = cex ad cA S i := cex_same (va_up_n h) (va_up_n h) (va_up_n h)
/-- a new cell lies behind the others -/
theorem new_at {D : va_G} {cA : Nat → ClassId} {b q : Nat} {ad : Nat → Nat} {e0 : va_E} {H1 : Heap} (hP1 : va_P D clx (wlx b ad cA S ++ [(q, e0)]) H1) (hD1 : va_D (fun q => b ≤ q) (wlx b ad cA S ++ [(q, e0)])) (hz : H1.size ≤ b + S.1 + 1) : q = b + S.1 := by
  have hl : (wlx b ad cA S ++ [(q, e0)])[S.1]? = some (q, e0) := by
    rw [List.getElem?_append_right (by rw [wlx_len]; exact Nat.le_refl _), wlx_len, Nat.sub_self]
    rfl
  have h1 := (hP1 _ _ hl).lt
  have h2 := hD1.2 _ _ hl
  simp only at h1 h2
  by_cases hq : q < b + S.1
  · have hg : (wlx b ad cA S ++ [(q, e0)])[q - b]? = some (b + (q - b), cex ad cA S (q - b)) := by
      rw [List.getElem?_append_left (by rw [wlx_len]; omega), wlx_get (by omega)]
    have := hD1.1 _ _ _ _ hl hg (by simp only; omega)
    omega
  · omega
theorem psz_nw : psz (nwS S).1 = psz S.1 + ssz S.1 := rfl
set_option maxHeartbeats 1000000 in
theorem s_new {n : Nat} (hMo : MoR R) (hok : ckx (mtx mid) (pc, .new n, nx, a, c0, w, x) = true) (hnd : ∀ v ∈ ndx (mtx mid) (pc, .new n, nx, a, c0, w, x), v ∈ lw_tbl) (hR : HRx l R) (h : stp px R d mid (pc, .new n, nx, a, c0, w, x) ls st S = some (r, S1)) : Simx l d mid pc ls st S r S1 := by
  have hok : (decide (decode (mtx mid).2.1 pc = .ok (.new n, nx - pc)) && (Nat.blt a 13 && Nat.beq nx (pc + 3))) = true := hok
  obtain ⟨hd, hk⟩ := and_s hok
  have hd := of_decide_eq_true hd
  obtain ⟨ha, hn⟩ := and_s hk
  have ha := blt_s ha
  have h : (if nb S 0 a = true then R d mid nx ls (.ref S.1 :: st) (nwS S) else none) = some (r, S1) := h
  obtain ⟨g, h⟩ := i_t h
  obtain ⟨g1, g2⟩ := nb_spec g
  have hm := (hMo _ _ _ _ _ _ _ _ h).1
  have hm2 := psz_mono hm
  rw [psz_nw] at hm2
  have hss : ssz S.1 = (dvc a).2.2 := by unfold ssz dvc; rw [g2]; rfl
  refine sp_hp 3 (st' := .ref S.1 :: st) hd hn hR h (fun _ _ q => q.nw g1) ?_
  intro p e Rm s m args below meth c H locs cells slots Q arr D cA b sa tL L xs n0 hC hE hsz hfr hlo hcl hsl hd hG hP hz hS hce hse hl kk
  have hm' : S.1 + 1 ≤ S1.1 := hm
  refine va_new (D := D) (cl := clx) (ci := a) (C := (dvc a).1) (T := (dvc a).2.1) (N := (dvc a).2.2) (ws := wlx b (adx b sa tL) cA S) (fs := fsx (adx b sa tL) (nwS S) S.1 a) hC.1 hC.2.1 hC.2.2.2.2.2 (uw_in ha) (tyx.getD a ty_0) (tx_ty a ha) hC.2.2.2.1 (hC.2.2.2.2.2 _ (tbx_in (hnd _ List.mem_cons_self) rfl)) (hC.2.2.2.2.2 _ (tbx_in (hnd _ (List.mem_cons_of_mem _ List.mem_cons_self)) rfl)) (hC.2.2.2.2.2 _ (tbx_in (hnd _ (List.mem_cons_of_mem _ (List.mem_cons_of_mem _ List.mem_cons_self))) rfl)) hE.1 hP (wlx_D _ _ _ _) hS (fun q hq => by have := hE.2.2.2.1; exact Nat.le_trans this hq) (dvc_get ha) ?_ (by omega) (by omega) hd (fun q H1 hP1 hD1 hS1 => W.sized fun hz1 => ?_)
  · intro j hj
    have hfk := tx_fk a ha j hj
    have ev : vp_V (fsx (adx b sa tL) (nwS S) S.1 a) j = fvx (adx b sa tL) (nwS S) S.1 a j := by
      unfold vp_V
      rw [List.getD_eq_getElem?_getD (l := fsx (adx b sa tL) (nwS S) S.1 a), fsx_get hj]
      rfl
    rw [ev]
    unfold fvx
    rw [hfk]
    have e1 : (nwS S).2.1 S.1 = fun _ => 0 := va_up_s _ _ _
    have e2 : (nwS S).2.2.1 S.1 = fun _ => 0 := va_up_s _ _ _
    have e3 : (nwS S).2.2.2.1 S.1 = fun _ => none := va_up_s _ _ _
    rw [e1, e2, e3]
    have hle : ∀ ci, ci < 13 → ∀ j, j < (dvc ci).2.2 → tyk ((tyx.getD ci ty_0) j) ≤ 2 := by decide +kernel
    have hle := hle a ha j hj
    generalize (tyx.getD a ty_0) j = t at hle ⊢
    cases t <;> simp [tyk] at hle ⊢ <;> rfl
  · have hq := new_at hP1 hD1 (by omega)
    subst hq
    rw [wlx_push (S := S) (S1 := nwS S) rfl (by rw [cex_0 g2]) (fun j hj => nw_same hj)] at hP1
    have k1 := kk H1 locs (cells + 1) (slots + (dvc a).2.2) hP1 hS1 (by show cells + 1 + n0 = S.1 + 1; omega) (by rw [psz_nw]; omega)
    rw [List.map_cons, show cvx (adx b sa tL) (.ref S.1) = .ref (adx b sa tL S.1) from rfl, adx_lo (by omega)] at k1
    exact k1
theorem cA_one {D : va_G} {cA : Nat → ClassId} {s : State} {ty : FieldType} {c1 c2 : ClassId} {i : Nat} (hK : va_K D clx (tysx cA) s) (hi : (tysx cA)[i]? = some (c1, ty)) (h2 : va_K D clx (tysx cA ++ [(c2, ty)]) s) : c2 = c1 := by
  have h2 := (h2.2 (tysx cA).length (c2, ty) (by rw [List.getElem?_append_right (Nat.le_refl _), Nat.sub_self]; rfl)).2
  have h1 := (hK.2 i _ hi).2
  cases ty with
  | object C =>
    obtain ⟨_, _, _, _, _, e1⟩ := h1
    obtain ⟨_, _, _, _, _, e2⟩ := h2
    exact Option.some.inj (e2.symm.trans e1)
  | _ => exact Option.some.inj ((show s.vm.findClass _ = some c2 from h2).symm.trans (show s.vm.findClass _ = some c1 from h1))
theorem arr_ok : ∀ k, k < 98 → (shp k).1 ≠ 0 → (shp k).2 ≤ 2000 := by decide +kernel
set_option maxHeartbeats 1000000 in
theorem s_newarray {n : ArrayType} (hMo : MoR R) (hw1 : Cond.arrayClass .int ∈ tbx) (hw2 : Cond.arrayClass .boolean ∈ tbx) (hok : ckx (mtx mid) (pc, .newarray n, nx, a, c0, w, x) = true) (hR : HRx l R) (h : stp px R d mid (pc, .newarray n, nx, a, c0, w, x) ls st S = some (r, S1)) : Simx l d mid pc ls st S r S1 := by
  have hok : (decide (decode (mtx mid).2.1 pc = .ok (.newarray n, nx - pc)) && (((decide (n = .int) && Nat.beq a 1) || (decide (n = .boolean) && Nat.beq a 2)) && Nat.beq nx (pc + 2))) = true := hok
  obtain ⟨hd, hk⟩ := and_s hok
  have hd := of_decide_eq_true hd
  obtain ⟨ho, hn⟩ := and_s hk
  obtain ⟨v, r0, rfl, h⟩ := m_i (f := fun v r0 => if (!(decide (v < 0)) && nb S a v.toNatClampNeg) = true then R d mid nx ls (.ref S.1 :: r0) (nwS S) else none) h
  obtain ⟨g, h⟩ := i_t h
  obtain ⟨gv, g⟩ := and_s g
  have gv : ¬ v < 0 := by simpa using gv
  obtain ⟨g1, g2⟩ := nb_spec g
  have hm := (hMo _ _ _ _ _ _ _ _ h).1
  have hm2 := psz_mono hm
  rw [psz_nw] at hm2
  have hss : ssz S.1 = v.toNatClampNeg := by
    unfold ssz
    rw [g2]
    have : a ≠ 0 := by
      rcases Bool.or_eq_true _ _ ▸ ho with q | q
      · rw [beq_s (and_s q).2]; decide
      · rw [beq_s (and_s q).2]; decide
    rw [if_neg this]
  have hbig : v.toNatClampNeg ≤ 2000 := by
    have := arr_ok S.1 g1
    rw [g2] at this
    refine this ?_
    show a ≠ 0
    rcases Bool.or_eq_true _ _ ▸ ho with q | q
    · rw [beq_s (and_s q).2]; decide
    · rw [beq_s (and_s q).2]; decide
  refine sp_hp 2 (st' := .ref S.1 :: r0) hd hn hR h (fun _ _ q => q.nw g1) ?_
  intro p e Rm s m args below meth c H locs cells slots Q arr D cA b sa tL L xs n0 hC hE hsz hfr hlo hcl hsl hd hG hP hz hS hce hse hl kk
  have hm' : S.1 + 1 ≤ S1.1 := hm
  have e1 : (nwS S).2.1 S.1 = fun _ => 0 := va_up_s _ _ _
  have fin : ∀ {t0 : Nat} {ty : FieldType} (i : Nat), (tysx cA)[i]? = some (cA t0, ty) → (∀ c2, cex (adx b sa tL) cA (nwS S) S.1 = .inl (c2, v.toNatClampNeg, .inl (fun _ => 0)) ∨ c2 ≠ cA t0) → ∀ (q : Nat) (c2 : ClassId) (H1 : Heap), va_K D clx (tysx cA ++ [(c2, ty)]) s → va_P D clx (wlx b (adx b sa tL) cA S ++ [(q, .inl (c2, v.toNatClampNeg, .inl (fun _ => 0)))]) H1 → va_D (fun q => b ≤ q) (wlx b (adx b sa tL) cA S ++ [(q, .inl (c2, v.toNatClampNeg, .inl (fun _ => 0)))]) → va_S (fun q => b ≤ q) s.heap H1 locs →
      W p l e Rm s m args below meth c H1 locs (cells + 1) (slots + v.toNatClampNeg) Q (F0 m (pc + 2) arr (.ref q :: r0.map (cvx (adx b sa tL)))) := by
    intro t0 ty i hi hcx q c2 H1 hK1 hP1 hD1 hS1
    refine W.sized fun hz1 => ?_
    have hq := new_at hP1 hD1 (by omega)
    subst hq
    have hc2 := cA_one hE.1 hi hK1
    rw [wlx_push (S := S) (S1 := nwS S) rfl ((hcx c2).resolve_right (fun z => z hc2)).symm (fun j hj => nw_same hj)] at hP1
    have k1 := kk H1 locs (cells + 1) (slots + v.toNatClampNeg) hP1 hS1 (by show cells + 1 + n0 = S.1 + 1; omega) (by rw [psz_nw]; omega)
    rw [List.map_cons, show cvx (adx b sa tL) (.ref S.1) = .ref (adx b sa tL S.1) from rfl, adx_lo (by omega)] at k1
    exact k1
  rcases Bool.or_eq_true _ _ ▸ ho with q | q
  · obtain ⟨q1, q2⟩ := and_s q
    have q1 := of_decide_eq_true q1
    have q2 := beq_s q2
    subst q1; subst q2
    refine va_newa (D := D) (cl := clx) (tys := tysx cA) (ws := wlx b (adx b sa tL) cA S) (atype := .int) (ty := .int) (a0 := (v.toNatClampNeg, .inl (fun _ => 0))) hC.1 hC.2.1 (hC.2.2.2.2.2 _ hw1) rfl hE.1 hP (wlx_D _ _ _ _) hS (fun q hq => by have := hE.2.2.2.1; exact Nat.le_trans this hq) (fun _ => rfl) gv rfl (by show v.toNatClampNeg * 4 ≤ _; omega) (by omega) (by omega) hd (fin (t0 := 1) 0 (tys_1 cA) (fun c2 => ?_))
    by_cases hc : c2 = cA 1
    · left; rw [cex_1 (by rw [g2]), e1, g2, hc]
    · right; exact hc
  · obtain ⟨q1, q2⟩ := and_s q
    have q1 := of_decide_eq_true q1
    have q2 := beq_s q2
    subst q1; subst q2
    refine va_newa (D := D) (cl := clx) (tys := tysx cA) (ws := wlx b (adx b sa tL) cA S) (atype := .boolean) (ty := .boolean) (a0 := (v.toNatClampNeg, .inl (fun _ => 0))) hC.1 hC.2.1 (hC.2.2.2.2.2 _ hw2) rfl hE.1 hP (wlx_D _ _ _ _) hS (fun q hq => by have := hE.2.2.2.1; exact Nat.le_trans this hq) (fun _ => rfl) gv rfl (by show v.toNatClampNeg * 1 ≤ _; omega) (by omega) (by omega) hd (fin (t0 := 2) 1 (tys_2 cA) (fun c2 => ?_))
    by_cases hc : c2 = cA 2
    · left; rw [cex_2 (by rw [g2]), e1, g2, hc]
    · right; exact hc
set_option maxHeartbeats 1000000 in
theorem s_anewarray {n : Nat} (hMo : MoR R) (hw : ∀ t, 3 ≤ t → t ≤ 5 → Cond.arrayOver (.object (enx t)) ∈ tbx) (hok : ckx (mtx mid) (pc, .anewarray n, nx, a, c0, w, x) = true) (hnd : ∀ v ∈ ndx (mtx mid) (pc, .anewarray n, nx, a, c0, w, x), v ∈ lw_tbl) (hR : HRx l R) (h : stp px R d mid (pc, .anewarray n, nx, a, c0, w, x) ls st S = some (r, S1)) : Simx l d mid pc ls st S r S1 := by
  have hok : (decide (decode (mtx mid).2.1 pc = .ok (.anewarray n, nx - pc)) && (Nat.ble 3 a && (Nat.ble a 5 && Nat.beq nx (pc + 3)))) = true := hok
  obtain ⟨hd, hk⟩ := and_s hok
  have hd := of_decide_eq_true hd
  obtain ⟨h3, hk⟩ := and_s hk
  obtain ⟨h5, hn⟩ := and_s hk
  have h3 := Nat.le_of_ble_eq_true h3
  have h5 := Nat.le_of_ble_eq_true h5
  obtain ⟨v, r0, rfl, h⟩ := m_i (f := fun v r0 => if (!(decide (v < 0)) && nb S a v.toNatClampNeg) = true then R d mid nx ls (.ref S.1 :: r0) (nwS S) else none) h
  obtain ⟨g, h⟩ := i_t h
  obtain ⟨gv, g⟩ := and_s g
  have gv : ¬ v < 0 := by simpa using gv
  obtain ⟨g1, g2⟩ := nb_spec g
  have hm := (hMo _ _ _ _ _ _ _ _ h).1
  have hm2 := psz_mono hm
  rw [psz_nw] at hm2
  have hss : ssz S.1 = v.toNatClampNeg := by
    unfold ssz
    rw [g2, if_neg (by show ¬ a = 0; omega)]
  have hbig : v.toNatClampNeg ≤ 2000 := by
    have := arr_ok S.1 g1
    rw [g2] at this
    exact this (by show a ≠ 0; omega)
  refine sp_hp 3 (st' := .ref S.1 :: r0) hd hn hR h (fun _ _ q => q.nw g1) ?_
  intro p e Rm s m args below meth c H locs cells slots Q arr D cA b sa tL L xs n0 hC hE hsz hfr hlo hcl hsl hd hG hP hz hS hce hse hl kk
  have hm' : S.1 + 1 ≤ S1.1 := hm
  have e1 : (nwS S).2.2.2.1 S.1 = fun _ => none := va_up_s _ _ _
  refine va_newq (D := D) (cl := clx) (tys := tysx cA) (ws := wlx b (adx b sa tL) cA S) (C := enx a) hC.1 hC.2.1 hC.2.2.2.1 (hC.2.2.2.2.2 _ (tbx_in (hnd _ List.mem_cons_self) rfl)) (va_AO.of (hC.2.2.2.2.2 _ (hw a h3 h5))) hE.1 hP (wlx_D _ _ _ _) hS (fun q hq => by have := hE.2.2.2.1; exact Nat.le_trans this hq) gv rfl (by omega) (by omega) (by omega) hd (fun q c2 H1 hK1 hP1 hD1 hS1 => W.sized fun hz1 => ?_)
  have hq := new_at hP1 hD1 (by omega)
  subst hq
  have hc2 := cA_one hE.1 (tys_3 cA h3 h5) hK1
  subst hc2
  rw [wlx_push (S := S) (S1 := nwS S) rfl (by rw [cex_3 (t := a) (by rw [g2]) h3, e1, g2]; rfl) (fun j hj => nw_same hj)] at hP1
  have k1 := kk H1 locs (cells + 1) (slots + v.toNatClampNeg) hP1 hS1 (by show cells + 1 + n0 = S.1 + 1; omega) (by rw [psz_nw]; omega)
  rw [List.map_cons, show cvx (adx b sa tL) (.ref S.1) = .ref (adx b sa tL S.1) from rfl, adx_lo (by omega)] at k1
  exact k1
end SB
