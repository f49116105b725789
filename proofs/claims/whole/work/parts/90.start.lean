/-! ===== the law's entry, for the abstract machine ===== -/
def S0x (L : Nat) (xs : Nat → Int32) : Sx := (0, fun k j => if k = 1000 then xs j else if k = 1001 then letL.getD j 0 else 0, fun _ _ => 0, fun _ _ => none, L)
def R_law : String := "DoorSoldLaw"
def lw_P (b : Addr) (xs : List Int32) (args : Array Value) (s : State) : Prop := args = #[.ref b] ∧ s.IntsAt b xs ∧ xs.length ≤ 384 ∧ (Jvm.Cond.and given_1 narrow_1).before args s = true
def lw_Q (_ : Array Value) (s : State) (o : Outcome) (t : State) : Prop := o = .returned (some (.int 1)) ∧ Framed s o t [] 600000 7302250
def lw_Z (below : List Frame) (a : Array Value) (s : State) : State → Prop := fun t => ∃ o, t.status = .running ∧ Ended t below o ∧ lw_Q a s o t
def lw_At (p : Program) (s : State) (m : MethodId) (meth : Method) (c : Code) (b L : Nat) (xs : Nat → Int32) : Prop :=
  p.tables.exec = Jvm.exec ∧ c.code = code ∧ meth.sig.returnType = ret ∧ c.maxLocals = 4 ∧ s.vm.findClass R_law = some m.cls ∧ (∀ w ∈ lw_tbl, w.before #[Value.ref b] s = true) ∧ va_X b L xs s s.heap ∧ b < s.heap.size ∧ meth.locks = false ∧ (Jvm.Cond.and given_1 narrow_1).before #[Value.ref b] s = true
theorem lw_retv {p : Program} {l : Launch} {e : Env} {s : State} {m : MethodId} {below : List Frame} {meth : Method} {c : Code} {b : Nat} (hx : p.tables.exec = Jvm.exec) (hb : c.code = code) (hr : meth.sig.returnType = ret) (hlocks : meth.locks = false) {pc : Nat} {H : Heap} {ls : Array Slot} {v : Int32} (hv : v &&& 1 = 1) (hdg : decode code pc = .ok (.ireturn, 1)) : W p l e room_1 s m #[Value.ref b] below meth c H [] 600000 7302250 (lw_Z below #[Value.ref b] s) (F0 m pc ls [.int v]) := by
  intro T hT X
  obtain ⟨fs, hret, hrun, hended, hW, hframe⟩ := X.leave (v := some (.int 1)) (hlocks := hlocks) (fun h => by rw [hr] at h; cases h)
  have hmeth' : T.vm.method? m = some meth := X.method'
  have hn : narrow .boolean (.int v) = .int 1 := by show Value.int (v &&& 1) = _; rw [hv]
  refine ⟨T.setFrames fs, ?_, .returned (some (.int 1)), hrun, hended, rfl, ⟨_, rfl⟩, hW, hframe⟩
  jvm_step X.here [X.here.top, hx, hb, hdg, hmeth', hr, ret, hn]
  (try refine ⟨rfl, ?_⟩); (try refine ⟨rfl, ?_⟩)
  first | (intro acts; rw [hret _ acts rfl rfl rfl]) | rw [hret _ _ rfl rfl rfl]
  exact Steps.refl _
theorem inst_in : ∀ ci, ci < 13 → Cond.instantiable (dvc ci).1 (dvc ci).2.2 ∈ lw_tbl := by
  intro ci h
  match ci, h with
  | 0, _ => decide +kernel
  | 1, _ => decide +kernel
  | 2, _ => decide +kernel
  | 3, _ => decide +kernel
  | 4, _ => decide +kernel
  | 5, _ => decide +kernel
  | 6, _ => decide +kernel
  | 7, _ => decide +kernel
  | 8, _ => decide +kernel
  | 9, _ => decide +kernel
  | 10, _ => decide +kernel
  | 11, _ => decide +kernel
  | 12, _ => decide +kernel
  | n + 13, h => omega
theorem know_all {s : State} {args : Array Value} (hts : ∀ w ∈ tbx, w.before args s = true) : ∃ D : va_G, ∀ (c : Nat) (q : vw_C), clx[c]? = some q → u_Kn s q.1 q.2.1 q.2.2 (D.1 c) (D.2 c) := by
  have h : ∀ c : Nat, ∃ (cC : ClassId) (iS : Nat → Nat), c < 13 → u_Kn s (dvc c).1 (dvc c).2.1 (dvc c).2.2 cC iS := by
    intro c
    by_cases hc : c < 13
    · obtain ⟨cC, iS, hk⟩ := u_known (n := (dvc c).2.2) hts (uw_in hc) (hts _ (tbx_in (inst_in c hc) rfl))
      exact ⟨cC, iS, fun _ => hk⟩
    · exact ⟨0, fun _ => 0, fun q => absurd q hc⟩
  refine ⟨(fun c => Classical.choose (h c), fun c => Classical.choose (Classical.choose_spec (h c))), fun c q hq => ?_⟩
  have hc : c < 13 := (List.getElem?_eq_some_iff.mp hq).1
  rw [dvc_get hc] at hq
  cases hq
  exact Classical.choose_spec (Classical.choose_spec (h c)) hc
theorem arr_all {s : State} {args : Array Value} (hts : ∀ w ∈ tbx, w.before args s = true) : ∃ cA : Nat → ClassId, ∀ (k : Nat) (q : ClassId × FieldType), (tysx cA)[k]? = some q → ArrOfT s q.1 q.2 ∧ va_RA s q.1 q.2 := by
  obtain ⟨c1, k1, p1, a1, a2, a3⟩ := Cond.arrayClass_spec (hts _ w_int)
  obtain ⟨c2, k2, p2, b1, b2, b3⟩ := Cond.arrayClass_spec (hts _ w_boo)
  obtain ⟨p3, c3, k3, d1, d2, d3, d4, d5⟩ := Cond.arrayOver_spec (hts _ w_ao3)
  obtain ⟨p4, c4, k4, e1, e2, e3, e4, e5⟩ := Cond.arrayOver_spec (hts _ w_ao4)
  obtain ⟨p5, c5, k5, f1, f2, f3, f4, f5⟩ := Cond.arrayOver_spec (hts _ w_ao5)
  refine ⟨fun t => if t = 1 then c1 else if t = 2 then c2 else if t = 3 then c3 else if t = 4 then c4 else c5, fun k q hq => ?_⟩
  match k, hq with
  | 0, hq => cases hq; exact ⟨fun n z => ⟨fun k h => (by cases h), k1, a2, p1, a3⟩, a1⟩
  | 1, hq => cases hq; exact ⟨fun n z => ⟨fun k h => (by cases h), k2, b2, p2, b3⟩, b1⟩
  | 2, hq => cases hq; exact ⟨fun n z => ⟨fun k h => (by cases h), k3, d3, p3, d4⟩, k3, p3, d3, d4, d1, d5⟩
  | 3, hq => cases hq; exact ⟨fun n z => ⟨fun k h => (by cases h), k4, e3, p4, e4⟩, k4, p4, e3, e4, e1, e5⟩
  | 4, hq => cases hq; exact ⟨fun n z => ⟨fun k h => (by cases h), k5, f3, p5, f4⟩, k5, p5, f3, f4, f1, f5⟩
  | k + 5, hq => simp [tysx] at hq
def ltm : Term := .static "DoorSold$Reader" "LETTERS" "[I"
theorem nc_all : ncx.all (fun q => decide (Cond.not (.castable q.1 q.2) ∈ flatC (Jvm.Cond.and given_1 narrow_1))) = true := by decide +kernel
theorem lt_arr : Cond.arrayOf ltm .int ∈ flatC (Jvm.Cond.and given_1 narrow_1) := by decide +kernel
theorem lt_len : Cond.eq (.length ltm) (.int 6) ∈ flatC (Jvm.Cond.and given_1 narrow_1) := by decide +kernel
theorem lt_el : ∀ j, j < 6 → Cond.eq (.elem ltm (.int (Int32.ofNat j))) (.int (letL.getD j 0)) ∈ flatC (Jvm.Cond.and given_1 narrow_1) := by decide +kernel
theorem lt_lay : Cond.laysStatic "DoorSold$Reader" "LETTERS" "[I" ∈ lw_tbl := by decide +kernel
theorem lt_ini : Cond.initialized "DoorSold$Reader" ∈ lw_tbl := by decide +kernel
theorem psz_98 : psz 98 ≤ 7302250 := by decide +kernel
theorem S0x_good (L : Nat) (xs : Nat → Int32) : Gdx L xs (S0x L xs) := ⟨Nat.zero_le _, rfl, fun j _ => rfl, fun j _ => rfl⟩
set_option maxHeartbeats 4000000 in
theorem whole_of (hpx : ∀ m ∈ px, okm m) (hrun : ∀ (L : Nat) (xs : Nat → Int32), L ≤ 384 → ∃ f S1, rk px kx f 10 239 0 [some (.ref 1000), none, none, none] [] (S0x L xs) = some (some (.int 1), S1)) {p : Program} {e : Env} {s : State} {m : MethodId} {below : List Frame} {meth : Method} {c : Code} (l : Launch) {b L : Nat} {xs : Nat → Int32} (hL : L ≤ 384) (C0 : lw_At p s m meth c b L xs) : W p l e room_1 s m #[Value.ref b] below meth c s.heap [] 0 0 (lw_Z below #[Value.ref b] s) (entryFrame m ([Value.ref b] : List Value).toArray 4) := by
  obtain ⟨hx, hb, hr, hml, hown, hts0, hX, hbl, hlocks, hgv⟩ := id C0
  have hts : ∀ w ∈ tbx, w.before #[Value.ref b] s = true := fun w hw => hts0 w (List.mem_filter.mp hw).1
  have hfl := flat_of_before _ hgv
  obtain ⟨D, hD⟩ := know_all hts
  obtain ⟨cA, hA⟩ := arr_all hts
  have hno : ∀ a : Nat, a < s.heap.size → ¬ (fun q : Nat => s.heap.size ≤ q) a := fun a h => Nat.not_le.mpr h
  obtain ⟨tL, ht1, ht2⟩ := va_Tof (args := #[Value.ref b]) (s := s) (tm := ltm) (ty := .int) (N := 6) (f := fun j => .int (letL.getD j 0)) (A := fun q => s.heap.size ≤ q) (by decide) (hfl _ lt_arr) (va_eqt (hfl _ lt_len)) (fun j hj => va_eqt (hfl _ (lt_el j hj))) hno
  have hZ := va_Zref (hts0 _ lt_lay) (hts0 _ lt_ini) ht1 hno
  have hE : Enx D cA s.heap.size b tL L xs s s.heap := ⟨⟨hD, hA⟩, hX, hbl, Nat.le_refl _, hZ, ht2, fun q hq => va_Nc.of (hfl _ (of_decide_eq_true (List.all_eq_true.mp nc_all q hq)))⟩
  obtain ⟨f, S1, hr1⟩ := hrun L xs hL
  have hmo := rk_mo px kx f _ _ _ _ _ _ _ _ hr1
  have hg1 := (hmo.2 L xs (S0x_good L xs)).1
  have hp1 := psz_mono hg1
  have hp98 := psz_98
  have hC : Cxx (mtx 239) p s m #[Value.ref b] meth c := ⟨hx, hb, hml, hown, fun q => absurd q (by decide +kernel), hts⟩
  rw [lg_entry_eq]
  have hl0 := lv_entry [Value.ref b] (n := 4) (Nat.le_of_ble_eq_true rfl)
  generalize (lg_sl [Value.ref b] ++ List.replicate (4 - (lg_sl [Value.ref b]).length) Slot.unset).toArray = arr0 at hl0 ⊢
  have hl : lhx (adx s.heap.size b tL) arr0 (mtx 239).2.2.1 [some (.ref 1000), none, none, none] := by
    refine ⟨rfl, hl0.1, hl0.2.1, fun i v hi => ?_⟩
    match i, hi with
    | 0, hi =>
      cases hi
      exact hl0.2.2 (0, .ref b) List.mem_cons_self
    | 1, hi => cases hi
    | 2, hi => cases hi
    | 3, hi => cases hi
    | i + 4, hi => cases hi
  refine simk l kx hpx f _ _ _ _ _ _ _ _ hr1 p e room_1 s m #[Value.ref b] below meth c _ D cA s.heap.size b tL L xs 0 hC hE rfl (by decide) (by decide) (by show S1.1 ≤ 0 + 600000; omega) (by show psz S1.1 ≤ 0 + 7302250; omega) ?_ s.heap [] 0 0 arr0 (S0x_good L xs) ⟨fun k q h => by simp [wlx, S0x] at h, rfl⟩ va_S.rf rfl rfl hl
  intro H locs cells slots arr pc' raw hW hS hce hse hrt
  refine va_forget (fun q hq => hS.2.2 q hq) ?_
  have hse : slots + 0 = psz S1.1 := hse
  refine W.widen (k := 600000) (n := 7302250) (by omega) (by omega) ?_
  rcases hrt with ⟨hd, v, rfl, hh⟩ | ⟨hd, v, rfl, hr1, hr2⟩ | ⟨hd, q, rfl, hr1, hr2⟩ | ⟨hd, rfl, hr1, hr2⟩
  · rcases hh with ⟨hr1, _⟩ | ⟨_, hr2⟩
    · exact absurd hr1 (by decide +kernel)
    · exact lw_retv hx hb hr hlocks (Value.int.inj (Option.some.inj hr2)).symm hd
  · cases hr2
  · cases hr2
  · cases hr2
