/-! ===== instructions that read or change cells ===== -/
theorem adx_lo {b sa tL k : Nat} (h : k < 1000) : adx b sa tL k = b + k := by
  unfold adx
  rw [if_neg (by omega), if_neg (by omega)]
theorem cv_rf (ad : Nat → Nat) (o : Option Nat) : cvx ad (va_rf o) = va_rf (o.map ad) := by cases o <;> rfl
theorem tyk_0 {t : FieldType} (h : tyk t = 0) : t = .int := by cases t <;> simp [tyk] at h ⊢
theorem tyk_1 {t : FieldType} (h : tyk t = 1) : t = .long := by cases t <;> simp [tyk] at h ⊢
theorem tyk_2 {t : FieldType} (h : tyk t = 2) (v : Nat) : narrow t (.ref v) = .ref v ∧ fits t (.ref v) = true := by cases t <;> simp [tyk] at h <;> exact ⟨rfl, rfl⟩
section SH
variable {l : Launch} {R : Rx} {d mid pc nx a : Nat} {c0 : Int32} {w : Int64} {x : List Nat} {ls : Lx} {st st' : List Value} {S S' S1 : Sx} {r : Option Value}
theorem sp_hp {ins : Instr} (len : Nat) (hd : decode (mtx mid).2.1 pc = .ok (ins, nx - pc)) (hn : Nat.beq nx (pc + len) = true) (hR : HRx l R) (h : R d mid nx ls st' S' = some (r, S1)) (hG' : ∀ L xs, Gdx L xs S → Gdx L xs S')
    (F : ∀ {p : Program} {e : Env} {Rm : Room} {s : State} {m : MethodId} {args : Array Value} {below : List Frame} {meth : Method} {c : Code} {H : Heap} {locs : List Loc} {cells slots : Nat} {Q : State → Prop} {arr : Array Slot} {D : va_G} {cA : Nat → ClassId} {b sa tL L : Nat} {xs : Nat → Int32} {n0 : Nat}, Cxx (mtx mid) p s m args meth c → Enx D cA b sa tL L xs s s.heap → s.heap.size = b + n0 → d ≤ Rm.frames → 36 * d ≤ Rm.locals → S1.1 ≤ n0 + Rm.cells → psz S1.1 ≤ psz n0 + Rm.slots → decode (mtx mid).2.1 pc = .ok (ins, len) → Gdx L xs S → va_P D clx (wlx b (adx b sa tL) cA S) H → H.size = b + S.1 → va_S (fun q => b ≤ q) s.heap H locs → cells + n0 = S.1 → slots + psz n0 = psz S.1 → lhx (adx b sa tL) arr (mtx mid).2.2.1 ls →
      (∀ (H1 : Heap) (locs1 : List Loc) (cells1 slots1 : Nat), va_P D clx (wlx b (adx b sa tL) cA S') H1 → va_S (fun q => b ≤ q) s.heap H1 locs1 → cells1 + n0 = S'.1 → slots1 + psz n0 = psz S'.1 → W p l e Rm s m args below meth c H1 locs1 cells1 slots1 Q (F0 m (pc + len) arr (st'.map (cvx (adx b sa tL))))) → W p l e Rm s m args below meth c H locs cells slots Q (F0 m pc arr (st.map (cvx (adx b sa tL))))) : Simx l d mid pc ls st S r S1 := by
  intro p e Rm s m args below meth c Q D cA b sa tL L xs n0 hC hE hsz hfr hlo hcl hsl fin H locs cells slots arr hG hW hS hce hse hl
  have e1 := beq_s hn
  subst e1
  rw [Nat.add_sub_cancel_left] at hd
  refine F hC hE hsz hfr hlo hcl hsl hd hG hW.1 hW.2 hS hce hse hl (fun H1 locs1 cells1 slots1 hP1 hS1 hc1 hs1 => W.sized fun hz => ?_)
  refine hR _ _ _ _ _ _ _ _ h p e Rm s m args below meth c Q D cA b sa tL L xs n0 hC hE hsz hfr hlo hcl hsl fin H1 locs1 cells1 slots1 arr (hG' _ _ hG) ⟨hP1, ?_⟩ hS1 hc1 hs1 hl
  have h1 := Wox.low hP1 (Nat.le_trans (by omega : b ≤ s.heap.size) hS1.1)
  omega
theorem x_two {P : Prop} {f : Nat → Nat → Bool} {b : Bool} (h : ((match x with | [j, k] => f j k | _ => false) && b) = true) (F : ∀ j k, x = [j, k] → f j k = true → b = true → P) : P := by
  obtain ⟨h1, h2⟩ := and_s h
  split at h1
  · exact F _ _ rfl h1 h2
  · cases h1
theorem blt_s {a b : Nat} (h : Nat.blt a b = true) : a < b := Nat.le_of_ble_eq_true h
theorem x_get {α : Type} {k0 k1 k2 : Nat → Option α} {y : α} {j k : Nat} (h : (match ([j, k] : List Nat) with | [j, 0] => k0 j | [j, 1] => k1 j | [j, 2] => k2 j | _ => none) = some y) : (k = 0 ∧ k0 j = some y) ∨ (k = 1 ∧ k1 j = some y) ∨ (k = 2 ∧ k2 j = some y) := by
  match k, h with
  | 0, h => exact Or.inl ⟨rfl, h⟩
  | 1, h => exact Or.inr (Or.inl ⟨rfl, h⟩)
  | 2, h => exact Or.inr (Or.inr ⟨rfl, h⟩)
  | _ + 3, h => cases h
set_option maxHeartbeats 1000000 in
theorem s_getfield {n : Nat} (hok : ckx (mtx mid) (pc, .getfield n, nx, a, c0, w, x) = true) (hnd : ∀ v ∈ ndx (mtx mid) (pc, .getfield n, nx, a, c0, w, x), v ∈ lw_tbl) (hR : HRx l R) (h : stp px R d mid (pc, .getfield n, nx, a, c0, w, x) ls st S = some (r, S1)) : Simx l d mid pc ls st S r S1 := by
  have hok : (decide (decode (mtx mid).2.1 pc = .ok (.getfield n, nx - pc)) && ((match (generalizing := false) x with | [j, k] => Nat.blt j (dvc a).2.2 && Nat.beq ((fkx.getD a []).getD j 3) k | _ => false) && Nat.beq nx (pc + 3))) = true := hok
  obtain ⟨hd, hk⟩ := and_s hok
  have hd := of_decide_eq_true hd
  refine x_two hk (fun j f ex h1 hn => ?_)
  subst ex
  obtain ⟨hj, hf⟩ := and_s h1
  have hj := blt_s hj
  have hf := beq_s hf
  obtain ⟨k, r0, rfl, h⟩ := m_r (f := fun k r0 => if oc S k a = true then (match ([j, f] : List Nat) with | [j, 0] => R d mid nx ls (.int (S.2.1 k j) :: r0) S | [j, 1] => R d mid nx ls (.long (S.2.2.1 k j) :: r0) S | [j, 2] => R d mid nx ls (va_rf (S.2.2.2.1 k j) :: r0) S | _ => none) else none) h
  obtain ⟨g, h⟩ := i_t h
  obtain ⟨hk1, hk2⟩ := oc_spec g
  obtain ⟨v, hv, h⟩ : ∃ v : Value, (∀ ad, fvx ad S k a j = cvx ad v) ∧ R d mid nx ls (v :: r0) S = some (r, S1) := by
    rcases x_get (k0 := fun j => R d mid nx ls (.int (S.2.1 k j) :: r0) S) (k1 := fun j => R d mid nx ls (.long (S.2.2.1 k j) :: r0) S) (k2 := fun j => R d mid nx ls (va_rf (S.2.2.2.1 k j) :: r0) S) h with ⟨rfl, h⟩ | ⟨rfl, h⟩ | ⟨rfl, h⟩
    · exact ⟨_, fun ad => by unfold fvx; rw [hf]; rfl, h⟩
    · exact ⟨_, fun ad => by unfold fvx; rw [hf]; rfl, h⟩
    · exact ⟨_, fun ad => by unfold fvx; rw [hf, cv_rf]; rfl, h⟩
  refine sp_hp 3 (st' := v :: r0) hd hn hR h (fun _ _ g => g) ?_
  intro p e Rm s m args below meth c H locs cells slots Q arr D cA b sa tL L xs n0 hC hE hsz hfr hlo hcl hsl hd hG hP hz hS hce hse hl kk
  have ha : a < 13 := by have := shp_ci k (Nat.lt_of_lt_of_le hk1 hG.1); rw [hk2] at this; exact this rfl
  show W p l e Rm s m args below meth c H locs cells slots Q (F0 m pc arr (.ref (adx b sa tL k) :: r0.map (cvx (adx b sa tL))))
  rw [adx_lo (by have := hG.1; omega)]
  refine va_get (D := D) (cl := clx) (ci := a) (C := (dvc a).1) (T := (dvc a).2.1) (N := (dvc a).2.2) (ws := wlx b (adx b sa tL) cA S) (v := cvx (adx b sa tL) v) hC.1 hC.2.1 hC.2.2.2.2.2 (uw_in ha) hC.2.2.2.1 hE.1 hP k (by rw [wlx_get hk1, cex_0 hk2]) (dvc_get ha) j hj (hC.2.2.2.2.2 _ (tbx_in (hnd _ List.mem_cons_self) rfl)) (fun y hy => by rw [tx_own a ha j hj] at hy; exact hy) (by rw [fsx_get hj, hv]) hd ?_
  exact kk H locs cells slots hP hS hce hse
theorem sI_same {k j i : Nat} {v : Int32} {ad : Nat → Nat} {cA : Nat → ClassId} (h : i ≠ k) : cex ad cA (sI S k j v) i = cex ad cA S i := cex_same (va_up_n h) rfl rfl
theorem sL_same {k j i : Nat} {v : Int64} {ad : Nat → Nat} {cA : Nat → ClassId} (h : i ≠ k) : cex ad cA (sL S k j v) i = cex ad cA S i := cex_same rfl (va_up_n h) rfl
theorem sR_same {k j i : Nat} {v : Option Nat} {ad : Nat → Nat} {cA : Nat → ClassId} (h : i ≠ k) : cex ad cA (sR S k j v) i = cex ad cA S i := cex_same rfl rfl (va_up_n h)
theorem sI_at (k j : Nat) (v : Int32) : (sI S k j v).2.1 k = upd (S.2.1 k) j v := va_up_s _ _ _
theorem sL_at (k j : Nat) (v : Int64) : (sL S k j v).2.2.1 k = va_up (S.2.2.1 k) j v := va_up_s _ _ _
theorem sR_at (k j : Nat) (v : Option Nat) : (sR S k j v).2.2.2.1 k = va_up (S.2.2.2.1 k) j v := va_up_s _ _ _
set_option maxHeartbeats 1000000 in
/-- a store into an object's field, whatever its kind -/
theorem sp_put {n j f k : Nat} {v : Value} {r0 : List Value} (hok : ckx (mtx mid) (pc, .putfield n, nx, a, c0, w, [j, f]) = true) (hnd : ∀ v ∈ ndx (mtx mid) (pc, .putfield n, nx, a, c0, w, [j, f]), v ∈ lw_tbl) (hR : HRx l R) (g : oc S k a = true)
    (h : R d mid nx ls r0 S' = some (r, S1)) (hG' : ∀ L xs, Gdx L xs S → Gdx L xs S') (hn1 : S'.1 = S.1) (ho : ∀ ad cA i, i ≠ k → cex ad cA S' i = cex ad cA S i) (hf : ∀ ad, fvx ad S' k a j = cvx ad v ∧ ∀ i, i ≠ j → fvx ad S' k a i = fvx ad S k a i)
    (hty : ∀ t, tyk t = f → ∀ ad, narrow t (cvx ad v) = cvx ad v ∧ fits t (cvx ad v) = true) : Simx l d mid pc ls (v :: .ref k :: r0) S r S1 := by
  have hok : (decide (decode (mtx mid).2.1 pc = .ok (.putfield n, nx - pc)) && ((Nat.blt j (dvc a).2.2 && (Nat.beq ((fkx.getD a []).getD j 3) f && (!((dvc a).2.1 j).2.2.2 || decide ((mtx mid).1.name = "<init>" ∧ (mtx mid).1.cls = (dvc a).1)))) && Nat.beq nx (pc + 3))) = true := hok
  obtain ⟨hd, hk⟩ := and_s hok
  have hd := of_decide_eq_true hd
  obtain ⟨h1, hn⟩ := and_s hk
  obtain ⟨hj, h2⟩ := and_s h1
  obtain ⟨hfk, hfin⟩ := and_s h2
  have hj := blt_s hj
  have hfk := beq_s hfk
  obtain ⟨hk1, hk2⟩ := oc_spec g
  refine sp_hp 3 (st' := r0) hd hn hR h hG' ?_
  intro p e Rm s m args below meth c H locs cells slots Q arr D cA b sa tL L xs n0 hC hE hsz hfr hlo hcl hsl hd hG hP hz hS hce hse hl kk
  have ha : a < 13 := by have := shp_ci k (Nat.lt_of_lt_of_le hk1 hG.1); rw [hk2] at this; exact this rfl
  show W p l e Rm s m args below meth c H locs cells slots Q (F0 m pc arr (cvx (adx b sa tL) v :: .ref (adx b sa tL k) :: r0.map (cvx (adx b sa tL))))
  rw [adx_lo (by have := hG.1; omega)]
  have ht := hty _ ((tx_fk a ha j hj).symm.trans hfk) (adx b sa tL)
  have hset : (wlx b (adx b sa tL) cA S).set k (b + k, .inr (a, (fsx (adx b sa tL) S k a).set j (cvx (adx b sa tL) v))) = wlx b (adx b sa tL) cA S' :=
    wlx_set hn1 (by rw [cex_0 hk2, fsx_set (hf _).1 (hf _).2]) (fun i hi => ho _ _ i hi)
  have kk' : ∀ (H1 : Heap) (locs1 : List Loc), va_P D clx ((wlx b (adx b sa tL) cA S).set k (b + k, .inr (a, (fsx (adx b sa tL) S k a).set j (cvx (adx b sa tL) v)))) H1 → va_D (fun q => b ≤ q) ((wlx b (adx b sa tL) cA S).set k (b + k, .inr (a, (fsx (adx b sa tL) S k a).set j (cvx (adx b sa tL) v)))) → va_S (fun q => b ≤ q) s.heap H1 locs1 → W p l e Rm s m args below meth c H1 locs1 cells slots Q (F0 m (pc + 3) arr (r0.map (cvx (adx b sa tL)))) := by
    intro H1 locs1 hP1 hD1 hS1
    rw [hset] at hP1
    exact kk H1 locs1 cells slots hP1 hS1 (by rw [hn1]; exact hce) (by rw [hn1]; exact hse)
  cases hfi : ((dvc a).2.1 j).2.2.2 with
  | false =>
    exact va_put (D := D) (cl := clx) (ci := a) (C := (dvc a).1) (T := (dvc a).2.1) (N := (dvc a).2.2) (ws := wlx b (adx b sa tL) cA S) hC.1 hC.2.1 hC.2.2.2.2.2 (uw_in ha) (tyx.getD a ty_0) (tx_ty a ha) (tx_nm a ha) hC.2.2.2.1 hE.1 hP (wlx_D _ _ _ _) hS k (by rw [wlx_get hk1, cex_0 hk2]) (dvc_get ha) j hj (hC.2.2.2.2.2 _ (tbx_in (hnd _ List.mem_cons_self) rfl)) (fun y hy => by rw [tx_own a ha j hj] at hy; exact hy) hfi (tx_ty a ha j hj) ht.1 ht.2 (by rw [fsx_len]; exact hj) hd kk'
  | true =>
    rw [hfi] at hfin
    have hfin := of_decide_eq_true hfin
    exact va_putF (D := D) (cl := clx) (ci := a) (C := (dvc a).1) (T := (dvc a).2.1) (N := (dvc a).2.2) (ws := wlx b (adx b sa tL) cA S) hC.1 hC.2.1 hC.2.2.2.2.2 (uw_in ha) (tyx.getD a ty_0) (tx_ty a ha) (tx_nm a ha) hC.2.2.2.1 hE.1 hP (wlx_D _ _ _ _) hS k (by rw [wlx_get hk1, cex_0 hk2]) (dvc_get ha) j hj (hC.2.2.2.2.2 _ (tbx_in (hnd _ List.mem_cons_self) rfl)) (fun y hy => by rw [tx_own a ha j hj] at hy; exact hy) hfi (hC.2.2.2.2.1 hfin.1) ((tx_own a ha j hj).trans hfin.2.symm) (tx_ty a ha j hj) ht.1 ht.2 (by rw [fsx_len]; exact hj) hd kk'
theorem s_putfield {n : Nat} (hok : ckx (mtx mid) (pc, .putfield n, nx, a, c0, w, x) = true) (hnd : ∀ v ∈ ndx (mtx mid) (pc, .putfield n, nx, a, c0, w, x), v ∈ lw_tbl) (hR : HRx l R) (h : stp px R d mid (pc, .putfield n, nx, a, c0, w, x) ls st S = some (r, S1)) : Simx l d mid pc ls st S r S1 := by
  have hok2 : (decide (decode (mtx mid).2.1 pc = .ok (.putfield n, nx - pc)) && ((match (generalizing := false) x with | [j, k] => Nat.blt j (dvc a).2.2 && (Nat.beq ((fkx.getD a []).getD j 3) k && (!((dvc a).2.1 j).2.2.2 || decide ((mtx mid).1.name = "<init>" ∧ (mtx mid).1.cls = (dvc a).1))) | _ => false) && Nat.beq nx (pc + 3))) = true := hok
  refine x_two (and_s hok2).2 (fun j f ex h1 hn => ?_)
  subst ex
  have hfk := beq_s (and_s (and_s h1).2).1
  match f, hfk, hok, hnd, h with
  | 0, hfk, hok, hnd, h =>
    obtain ⟨v, k, r0, rfl, h⟩ := m_ir (f := fun v k r0 => if oc S k a = true then R d mid nx ls r0 (sI S k j v) else none) h
    obtain ⟨g, h⟩ := i_t h
    refine sp_put hok hnd hR g h (fun L xs q => q.sI (oc_spec g).1) rfl (fun _ _ i hi => sI_same hi) (fun ad => ⟨?_, fun i hi => ?_⟩) (fun t ht ad => by cases tyk_0 ht; exact ⟨rfl, rfl⟩)
    · unfold fvx; rw [hfk, sI_at]; simp [upd, cvx]
    · unfold fvx; rw [sI_at]; simp only [upd, hi, if_false]; rfl
  | 1, hfk, hok, hnd, h =>
    obtain ⟨v, k, r0, rfl, h⟩ := m_lr (f := fun v k r0 => if oc S k a = true then R d mid nx ls r0 (sL S k j v) else none) h
    obtain ⟨g, h⟩ := i_t h
    refine sp_put hok hnd hR g h (fun L xs q => q) rfl (fun _ _ i hi => sL_same hi) (fun ad => ⟨?_, fun i hi => ?_⟩) (fun t ht ad => by cases tyk_1 ht; exact ⟨rfl, rfl⟩)
    · unfold fvx; rw [hfk, sL_at]; simp [va_up, cvx]
    · unfold fvx; rw [sL_at]; simp only [va_up, hi, if_false]; rfl
  | 2, hfk, hok, hnd, h =>
    obtain ⟨v, k, r0, rfl, h⟩ := m_rr (f := fun v k r0 => if oc S k a = true then R d mid nx ls r0 (sR S k j (some v)) else none) h
    obtain ⟨g, h⟩ := i_t h
    refine sp_put hok hnd hR g h (fun L xs q => q) rfl (fun _ _ i hi => sR_same hi) (fun ad => ⟨?_, fun i hi => ?_⟩) (fun t ht ad => tyk_2 ht _)
    · unfold fvx; rw [hfk, sR_at]; simp [va_up, cvx, va_rf]
    · unfold fvx; rw [sR_at]; simp only [va_up, hi, if_false]; rfl
  | f + 3, hfk, hok, hnd, h => cases h
end SH
