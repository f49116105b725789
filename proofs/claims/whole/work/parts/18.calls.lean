/-! ===== calls ===== -/
theorem pop_spec : ∀ (n : Nat) (acc st as r : List Value), pop n acc st = some (as, r) → ∃ q, st = q ++ r ∧ as = q.reverse ++ acc ∧ q.length = n
  | 0, acc, st, as, r, h => by
    cases h
    exact ⟨[], rfl, rfl, rfl⟩
  | n + 1, acc, [], as, r, h => by cases h
  | n + 1, acc, v :: st, as, r, h => by
    obtain ⟨q, h1, h2, h3⟩ := pop_spec n (v :: acc) st as r h
    refine ⟨v :: q, by rw [h1]; rfl, by rw [h2]; simp, by simp [h3]⟩
theorem pop_st {n : Nat} {st as r : List Value} (h : pop n [] st = some (as, r)) : st = as.reverse ++ r ∧ as.length = n := by
  obtain ⟨q, h1, h2, h3⟩ := pop_spec n [] st as r h
  rw [List.append_nil] at h2
  exact ⟨by rw [h2, List.reverse_reverse]; exact h1, by rw [h2, List.length_reverse]; exact h3⟩
theorem p_2 {α : Type} {y : α} {o : Option (List Value × List Value)} {f : List Value → List Value → Option α} (h : (match o with | some (as, r) => f as r | none => none) = some y) : ∃ as r, o = some (as, r) ∧ f as r = some y := by
  split at h
  · exact ⟨_, _, rfl, h⟩
  · cases h
theorem p_3 {α : Type} {y : α} {o : Option (List Value × List Value)} {f : List Value → Nat → List Value → Option α} (h : (match o with | some (as, .ref k :: r) => f as k r | _ => none) = some y) : ∃ as k r, o = some (as, .ref k :: r) ∧ f as k r = some y := by
  split at h
  · exact ⟨_, _, _, rfl, h⟩
  · cases h
theorem cal_inv {R : Rx} {d mid nx : Nat} {ls : Lx} {rest : List Value} {S S1 : Sx} {m : Nat} {as : List Value} {r : Option Value} (h : cal px R d mid nx ls rest S m as = some (r, S1)) :
    ∃ d' r1 S2, d = d' + 1 ∧ rwd rest ≤ 8 ∧ rwd as ≤ (mtx m).2.2.1 ∧ R d' m 0 (ini (mtx m).2.2.1 as) [] S = some (r1, S2) ∧ R d mid nx ls (r1.toList ++ rest) S2 = some (r, S1) := by
  match d, h with
  | 0, h => cases h
  | d' + 1, h =>
    have h : (bif Nat.ble (rwd rest) 8 && Nat.ble (rwd as) (mtx m).2.2.1 then (R d' m 0 (ini (mtx m).2.2.1 as) [] S).bind (fun q => R (d' + 1) mid nx ls (q.1.toList ++ rest) q.2) else none) = some (r, S1) := h
    obtain ⟨g, h⟩ := c_t h
    obtain ⟨g1, g2⟩ := and_s g
    obtain ⟨q, h1, h2⟩ := Option.bind_eq_some_iff.mp h
    exact ⟨d', q.1, q.2, rfl, Nat.le_of_ble_eq_true g1, Nat.le_of_ble_eq_true g2, h1, h2⟩
/-- what each kind of call owes: a run of the callee, from its contract -/
def Fcx (l : Launch) (d' mid pc : Nat) (ins : Instr) (k : Nat) (as st rest : List Value) (S : Sx) : Prop :=
  ∀ {p : Program} {e : Env} {Rm : Room} {s : State} {m : MethodId} {args : Array Value} {below : List Frame} {meth : Method} {c : Code} {H : Heap} {locs : List Loc} {cells slots mc ms : Nat} {arr : Array Slot} {D : va_G} {cA : Nat → ClassId} {b sa tL L : Nat} {xs : Nat → Int32} {Qc : Array Value → State → Outcome → State → Prop},
    Cxx (mtx mid) p s m args meth c → va_K D clx (tysx cA) s → d' + 1 ≤ Rm.frames → 36 * (d' + 1) ≤ Rm.locals → decode (mtx mid).2.1 pc = .ok (ins, 3) → S.1 ≤ 98 → va_P D clx (wlx b (adx b sa tL) cA S) H → arr.size = (mtx mid).2.2.1 → cells + mc ≤ Rm.cells ∧ slots + ms ≤ Rm.slots →
    Met l (mtx k).1 (cdw k :: tbx) ({ frames := d', cells := mc, slots := ms, locals := 36 * d' }) (va_Pc (as.map (cvx (adx b sa tL))) (Pcx D cA b sa tL L xs S)) Qc mc ms (fun q => b ≤ q) →
    (∀ U : State, U.heap = H → s.WarmedH U.vm → va_Pc (as.map (cvx (adx b sa tL))) (Pcx D cA b sa tL L xs S) (as.map (cvx (adx b sa tL))).toArray U) →
    va_Run p l e Rm s m args below meth c H locs cells slots mc ms (F0 m pc arr (st.map (cvx (adx b sa tL)))) (rest.map (cvx (adx b sa tL))) (Qc (as.map (cvx (adx b sa tL))).toArray) (fun q => b ≤ q)
section SC
variable {l : Launch} {R : Rx} {d mid pc nx a : Nat} {c0 : Int32} {w : Int64} {x : List Nat} {ls : Lx} {st st' : List Value} {S S' S1 : Sx} {r : Option Value}
set_option maxHeartbeats 2000000 in
theorem sp_call {ins : Instr} {k : Nat} {as rest : List Value} (hd : decode (mtx mid).2.1 pc = .ok (ins, nx - pc)) (hn : Nat.beq nx (pc + 3) = true) (hMo : MoR R) (hR : HRx l R) (h : cal px R d mid nx ls rest S k as = some (r, S1)) (F : ∀ d', d = d' + 1 → rwd rest ≤ 8 → Fcx l d' mid pc ins k as st rest S) : Simx l d mid pc ls st S r S1 := by
  obtain ⟨d', r1, S2, hdd, hrest, has, h1, h2⟩ := cal_inv h
  have m1 := hMo _ _ _ _ _ _ _ _ h1
  have m2 := hMo _ _ _ _ _ _ _ _ h2
  have q1 := m1.1
  have q2 := m2.1
  have p1 := psz_mono m1.1
  have p2 := psz_mono m2.1
  intro p e Rm s m args below meth c Q D cA b sa tL L xs n0 hC hE hsz hfr hlo hcl hsl fin H locs cells slots arr hG hW hS hce hse hl
  have e1 := beq_s hn
  subst e1
  rw [Nat.add_sub_cancel_left] at hd
  have hMet := met_of l (hR _ _ _ _ _ _ _ _ h1) has m1.1 D cA b sa tL L xs
  have hrun := F d' hdd hrest (p := p) (e := e) (Rm := Rm) (s := s) (m := m) (args := args) (below := below) (meth := meth) (c := c) (H := H) (locs := locs) (cells := cells) (slots := slots) (arr := arr) hC hE.1 (by omega) (by omega) hd hG.1 hW.1 hl.2.1 ⟨by omega, by omega⟩ hMet (fun U hU hWm => ⟨rfl, hE.go hWm.alike (by rw [hU, hW.2]; omega) (fun q q1 q2 => by rw [hU]; exact hS.2.1 q q1 q2), hG, by rw [hU]; exact hW⟩)
  refine call_go (S1 := S2) (r := r1) (by omega) hrun hS (by rw [hW.2]; have := m1.1; omega) (fun H1 locs1 hW1 hS1 => ?_)
  have k2 := hR _ _ _ _ _ _ _ _ h2 p e Rm s m args below meth c Q D cA b sa tL L xs n0 hC hE hsz hfr hlo hcl hsl fin H1 locs1 (cells + (S2.1 - S.1)) (slots + (psz S2.1 - psz S.1)) arr (m1.2 _ _ hG) hW1 hS1 (by have := m1.1; omega) (by omega) hl
  have e2 : (r1.toList ++ rest).map (cvx (adx b sa tL)) = (r1.map (cvx (adx b sa tL))).toList ++ rest.map (cvx (adx b sa tL)) := by cases r1 <;> rfl
  rw [e2] at k2
  exact k2
theorem pln_s {y : MethodName} {n : Nat} (h : pln y n = true) : (y.cls ≠ "java/lang/invoke/MethodHandle" ∧ y.cls ≠ "java/lang/invoke/VarHandle") ∧ ∀ sig, parseMethodDescriptor y.desc = some sig → n = sig.parameters.length := by
  obtain ⟨h1, h2⟩ := and_s h
  refine ⟨of_decide_eq_true h1, fun sig hs => ?_⟩
  have h2 := of_decide_eq_true h2
  rw [hs] at h2
  exact (Option.some.inj h2).symm
theorem hloc {Rm : Room} {d' k : Nat} (h : 36 * (d' + 1) ≤ Rm.locals) : 8 + ((mtx k).2.2.1 + 11) + 36 * d' ≤ Rm.locals := by
  have := (mtx_ok k).1
  omega
theorem hws {args : Array Value} {s : State} {k : Nat} (hts : ∀ w ∈ tbx, w.before args s = true) (hc : cdw k ∈ tbx) : ∀ w ∈ cdw k :: tbx, ∀ (a' : Array Value) (U : State), s.WarmedH U.vm → w.before a' U = true := by
  intro w hw a' U hW
  rcases List.mem_cons.mp hw with rfl | hw
  · exact tbx_ride hts _ hc a' U hW
  · exact tbx_ride hts _ hw a' U hW
theorem mon0 {m : MethodId} {pc : Nat} {arr : Array Slot} {st rest : List Value} (ad : Nat → Nat) (h : rwd rest ≤ 8) : 2 * (F0 m pc arr st).monitorRoom + ((rest.map (cvx ad)).map fun v => v.category).sum ≤ 8 := by
  rw [rwd_sum]
  show 2 * 0 + rwd rest ≤ 8
  omega
set_option maxHeartbeats 1000000 in
theorem s_static {n q : Nat} (hMo : MoR R) (hok : ckx (mtx mid) (pc, .invokestatic n, nx, a, c0, w, [0, q]) = true) (hnd : ∀ v ∈ ndx (mtx mid) (pc, .invokestatic n, nx, a, c0, w, [0, q]), v ∈ lw_tbl) (hR : HRx l R) (h : stp px R d mid (pc, .invokestatic n, nx, a, c0, w, [0, q]) ls st S = some (r, S1)) : Simx l d mid pc ls st S r S1 := by
  have hok : (decide (decode (mtx mid).2.1 pc = .ok (.invokestatic n, nx - pc)) && (pln (mtx a).1 q && Nat.beq nx (pc + 3))) = true := hok
  obtain ⟨hd, hk⟩ := and_s hok
  have hd := of_decide_eq_true hd
  obtain ⟨hp, hn⟩ := and_s hk
  obtain ⟨hp1, hp2⟩ := pln_s hp
  obtain ⟨as, r0, hpop, h2⟩ := p_2 (f := fun as r0 => cal px R d mid nx ls r0 S a as) h
  · obtain ⟨rfl, hlen⟩ := pop_st hpop
    refine sp_call hd hn hMo hR h2 (fun d' _ hrest => ?_)
    intro p e Rm s m args below meth c H locs cells slots mc ms arr D cA b sa tL L xs Qc hC hK hfr hlo hd h98 hP harr hf hMet hPre
    have hT : ∀ w' ∈ ndx (mtx mid) (pc, .invokestatic n, nx, a, c0, w, [0, q]), rdw w' = true → w' ∈ tbx := fun w' h1 h2 => tbx_in (hnd w' h1) h2
    have t1 := hT _ List.mem_cons_self rfl
    have t2 := hT _ (List.mem_cons_of_mem _ List.mem_cons_self) rfl
    have t3 := hT _ (List.mem_cons_of_mem _ (List.mem_cons_of_mem _ List.mem_cons_self)) rfl
    have t4 := hT _ (List.mem_cons_of_mem _ (List.mem_cons_of_mem _ (List.mem_cons_of_mem _ List.mem_cons_self))) rfl
    exact va_runS (Ts := tbx) (nL := (mtx mid).2.2.1) (n := q) (bytes := (mtx a).2.1) (maxL := (mtx a).2.2.1) (ret := (mtx a).2.2.2.1) (As := as.map (cvx (adx b sa tL))) ⟨hC.1, hC.2.1, hC.2.2.1, hC.2.2.2.1, hC.2.2.2.2.2⟩ hMet ⟨⟨rfl, rfl, hfr, hloc hlo, hws hC.2.2.2.2.2 t4, List.mem_cons_self, hC.2.2.2.2.2 _ t4, hC.2.2.2.2.2 _ t3, hp1, hp2, hC.2.2.2.2.2 _ t1⟩, hC.2.2.2.2.2 _ t2⟩ ⟨Pcx.blind, hPre⟩ rfl (by rw [List.length_map]; exact hlen) harr (by show (as.reverse ++ r0).map _ = _; simp) (mon0 _ hrest) hd hf
/-- a virtual call at a receiver whose class is known -/
theorem f_virt {n q ci k v : Nat} {as rest : List Value} (g : oc S v ci = true) (hlen : as.length = q) (hrest : rwd rest ≤ 8) (hcls : (mtx k).1.cls = (dvc ci).1) (hp : pln (mtx k).1 q = true)
    (t1 : Cond.methodLink (mtx mid).1.cls n (mtx k).1 ∈ tbx) (t2 : Cond.instanceMethod (mtx k).1 ∈ tbx) (t3 : Cond.selects (dvc ci).1 (mtx k).1 (mtx k).1 ∈ tbx) (t4 : Cond.initialized (mtx k).1.cls ∈ tbx) (t5 : cdw k ∈ tbx) (d' : Nat) :
    Fcx l d' mid pc (.invokevirtual n) k (.ref v :: as) (as.reverse ++ .ref v :: rest) rest S := by
  intro p e Rm s m args below meth c H locs cells slots mc ms arr D cA b sa tL L xs Qc hC hK hfr hlo hd h98 hP harr hf hMet hPre
  obtain ⟨g1, g2⟩ := oc_spec g
  obtain ⟨hp1, hp2⟩ := pln_s hp
  have h13 : ci < 13 := by have := shp_ci v (by omega); rw [g2] at this; exact this rfl
  have hr := va_recv (ws := wlx b (adx b sa tL) cA S) hK hP (dvc_get h13) (q0 := v) (a := b + v) (by rw [wlx_get g1, cex_0 g2])
  have e1 : (.ref v :: as).map (cvx (adx b sa tL)) = .ref (b + v) :: as.map (cvx (adx b sa tL)) := by rw [List.map_cons]; show Value.ref (adx b sa tL v) :: _ = _; rw [adx_lo (by omega)]
  rw [e1] at hMet hPre ⊢
  exact va_runV (Ts := tbx) (nL := (mtx mid).2.2.1) (n := q) (C := (dvc ci).1) (b := b + v) (bytes := (mtx k).2.1) (maxL := (mtx k).2.2.1) (ret := (mtx k).2.2.2.1) (As := as.map (cvx (adx b sa tL))) ⟨hC.1, hC.2.1, hC.2.2.1, hC.2.2.2.1, hC.2.2.2.2.2⟩ hMet ⟨⟨rfl, rfl, hfr, hloc hlo, hws hC.2.2.2.2.2 t5, List.mem_cons_self, hC.2.2.2.2.2 _ t5, hC.2.2.2.2.2 _ t4, hp1, hp2, hC.2.2.2.2.2 _ t1⟩, hC.2.2.2.2.2 _ t2, hC.2.2.2.2.2 _ t3⟩ ⟨Pcx.blind, hr, hPre⟩ rfl (by rw [List.length_map]; exact hlen) harr (by show (as.reverse ++ .ref v :: rest).map _ = _; rw [List.map_append, List.map_cons, List.map_reverse]; show _ ++ Value.ref (adx b sa tL v) :: _ = _; rw [adx_lo (by omega)]) (mon0 _ hrest) hd hf
/-- a virtual call of a method of Kind at a receiver of another class -/
theorem f_virtU {n q ci k k1 v : Nat} {as rest : List Value} (g : oc S v ci = true) (hlen : as.length = q) (hrest : rwd rest ≤ 8) (hk1 : (mtx k1).1 = hKd k) (hp : pln (mtx k1).1 q = true)
    (t1 : Cond.methodLink (mtx mid).1.cls n (hKd k) ∈ tbx) (t2 : Cond.sameMethod "DoorSold$Kind" "DoorSold$Kind" (mtx k).1.name (mtx k).1.desc ∈ tbx) (t3 : Cond.selects (dvc ci).1 (hKd k) (mtx k).1 ∈ tbx) (t4 : Cond.instanceMethod (mtx k).1 ∈ tbx) (t5 : Cond.initialized (mtx k).1.cls ∈ tbx) (t6 : cdw k ∈ tbx) (u1 : Cond.instanceMethod (mtx k1).1 ∈ tbx) (u2 : cdw k1 ∈ tbx) (d' : Nat) :
    Fcx l d' mid pc (.invokevirtual n) k (.ref v :: as) (as.reverse ++ .ref v :: rest) rest S := by
  intro p e Rm s m args below meth c H locs cells slots mc ms arr D cA b sa tL L xs Qc hC hK hfr hlo hd h98 hP harr hf hMet hPre
  obtain ⟨g1, g2⟩ := oc_spec g
  obtain ⟨hp1, hp2⟩ := pln_s hp
  rw [hk1] at hp1 hp2
  have h13 : ci < 13 := by have := shp_ci v (by omega); rw [g2] at this; exact this rfl
  have hr := va_recv (ws := wlx b (adx b sa tL) cA S) hK hP (dvc_get h13) (q0 := v) (a := b + v) (by rw [wlx_get g1, cex_0 g2])
  have e1 : (.ref v :: as).map (cvx (adx b sa tL)) = .ref (b + v) :: as.map (cvx (adx b sa tL)) := by rw [List.map_cons]; show Value.ref (adx b sa tL v) :: _ = _; rw [adx_lo (by omega)]
  rw [e1] at hMet hPre ⊢
  have hdecl : va_Decl s (hKd k) := by rw [← hk1]; exact va_Decl.of (hC.2.2.2.2.2 _ u1) (hC.2.2.2.2.2 _ u2)
  exact va_runU (Ts := tbx) (nL := (mtx mid).2.2.1) (n := q) (C := (dvc ci).1) (owner := "DoorSold$Kind") (x := hKd k) (b := b + v) (bytes := (mtx k).2.1) (maxL := (mtx k).2.2.1) (ret := (mtx k).2.2.2.1) (As := as.map (cvx (adx b sa tL))) ⟨hC.1, hC.2.1, hC.2.2.1, hC.2.2.2.1, hC.2.2.2.2.2⟩ hMet ⟨⟨rfl, rfl, hfr, hloc hlo, hws hC.2.2.2.2.2 t6, List.mem_cons_self⟩, hC.2.2.2.2.2 _ t6, hC.2.2.2.2.2 _ t5, hp1, hp2, hC.2.2.2.2.2 _ t1, hC.2.2.2.2.2 _ t2, hdecl, hC.2.2.2.2.2 _ t3, hC.2.2.2.2.2 _ t4⟩ ⟨Pcx.blind, hr, hPre⟩ rfl (by rw [List.length_map]; exact hlen) harr (by show (as.reverse ++ .ref v :: rest).map _ = _; rw [List.map_append, List.map_cons, List.map_reverse]; show _ ++ Value.ref (adx b sa tL v) :: _ = _; rw [adx_lo (by omega)]) (mon0 _ hrest) hd hf
end SC
