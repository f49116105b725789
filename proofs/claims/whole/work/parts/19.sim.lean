section SE
variable {l : Launch} {R : Rx} {d mid pc nx a : Nat} {c0 : Int32} {w : Int64} {x : List Nat} {ls : Lx} {st st' : List Value} {S S' S1 : Sx} {r : Option Value}
theorem mem_i {α : Type} {l : List α} {y : α} (i : Nat) (h : l[i]? = some y) : y ∈ l := List.mem_of_getElem? h
set_option maxHeartbeats 1000000 in
theorem s_virt1 {n q ci k : Nat} (hMo : MoR R) (hok : ckx (mtx mid) (pc, .invokevirtual n, nx, a, c0, w, [q, ci, k]) = true) (hnd : ∀ v ∈ ndx (mtx mid) (pc, .invokevirtual n, nx, a, c0, w, [q, ci, k]), v ∈ lw_tbl) (hR : HRx l R) (h : stp px R d mid (pc, .invokevirtual n, nx, a, c0, w, [q, ci, k]) ls st S = some (r, S1)) : Simx l d mid pc ls st S r S1 := by
  have hok : (decide (decode (mtx mid).2.1 pc = .ok (.invokevirtual n, nx - pc)) && ((decide ((mtx k).1.cls = (dvc ci).1) && pln (mtx k).1 q) && Nat.beq nx (pc + 3))) = true := hok
  obtain ⟨hd, hk⟩ := and_s hok
  have hd := of_decide_eq_true hd
  obtain ⟨hp, hn⟩ := and_s hk
  obtain ⟨hc, hp⟩ := and_s hp
  have hc := of_decide_eq_true hc
  obtain ⟨as, v, r0, hpop, h2⟩ := p_3 (f := fun as v r0 => vcl px R d mid nx ls r0 S v as [ci, k]) h
  obtain ⟨rfl, hlen⟩ := pop_st hpop
  have h2 : (if oc S v ci = true then cal px R d mid nx ls r0 S k (.ref v :: as) else none) = some (r, S1) := h2
  obtain ⟨g, h2⟩ := i_t h2
  have hT : ∀ w' ∈ ndx (mtx mid) (pc, .invokevirtual n, nx, a, c0, w, [q, ci, k]), rdw w' = true → w' ∈ tbx := fun w' h1 h2 => tbx_in (hnd w' h1) h2
  exact sp_call hd hn hMo hR h2 (fun d' _ hrest => f_virt g hlen hrest hc hp (hT _ (mem_i 0 rfl) rfl) (hT _ (mem_i 1 rfl) rfl) (hT _ (mem_i 2 rfl) rfl) (hT _ (mem_i 3 rfl) rfl) (hT _ (mem_i 4 rfl) rfl) d')
theorem vwd_in {own : String} {i ci k : Nat} {y : Cond} (h : y = .methodLink own i (hKd k) ∨ y = .sameMethod "DoorSold$Kind" "DoorSold$Kind" (mtx k).1.name (mtx k).1.desc ∨ y = .selects (dvc ci).1 (hKd k) (mtx k).1 ∨ y = .instanceMethod (mtx k).1 ∨ y = .initialized (mtx k).1.cls ∨ y = cdw k) : y ∈ vwd own i ci k := by
  unfold vwd
  split <;> (simp only [List.mem_cons, List.not_mem_nil, or_false]; rcases h with h | h | h | h | h | h <;> simp [h])
theorem hKd_eq {k1 k : Nat} (h1 : (mtx k1).1.cls = "DoorSold$Kind") (h2 : (mtx k).1.name = (mtx k1).1.name ∧ (mtx k).1.desc = (mtx k1).1.desc) : (mtx k1).1 = hKd k := by
  unfold hKd
  rw [h2.1, h2.2, ← h1]
set_option maxHeartbeats 2000000 in
theorem s_virt6 {n q k1 k2 k3 k4 k5 k6 : Nat} (hMo : MoR R) (hok : ckx (mtx mid) (pc, .invokevirtual n, nx, a, c0, w, [q, 6, k1, 5, k2, 0, k3, 1, k4, 9, k5, 2, k6]) = true) (hnd : ∀ v ∈ ndx (mtx mid) (pc, .invokevirtual n, nx, a, c0, w, [q, 6, k1, 5, k2, 0, k3, 1, k4, 9, k5, 2, k6]), v ∈ lw_tbl) (hR : HRx l R) (h : stp px R d mid (pc, .invokevirtual n, nx, a, c0, w, [q, 6, k1, 5, k2, 0, k3, 1, k4, 9, k5, 2, k6]) ls st S = some (r, S1)) : Simx l d mid pc ls st S r S1 := by
  have hok : (decide (decode (mtx mid).2.1 pc = .ok (.invokevirtual n, nx - pc)) && ((decide ((mtx k1).1.cls = "DoorSold$Kind") && (pln (mtx k1).1 q && [k2, k3, k4, k5, k6].all fun k => decide ((mtx k).1.name = (mtx k1).1.name ∧ (mtx k).1.desc = (mtx k1).1.desc))) && Nat.beq nx (pc + 3))) = true := hok
  obtain ⟨hd, hk⟩ := and_s hok
  have hd := of_decide_eq_true hd
  obtain ⟨hp, hn⟩ := and_s hk
  obtain ⟨hc, hp⟩ := and_s hp
  have hc := of_decide_eq_true hc
  obtain ⟨hp, hall⟩ := and_s hp
  have hal : ∀ k ∈ [k2, k3, k4, k5, k6], (mtx k1).1 = hKd k := fun k hk => hKd_eq hc (of_decide_eq_true (List.all_eq_true.mp hall k hk))
  obtain ⟨as, v, r0, hpop, h2⟩ := p_3 (f := fun as v r0 => vcl px R d mid nx ls r0 S v as [6, k1, 5, k2, 0, k3, 1, k4, 9, k5, 2, k6]) h
  obtain ⟨rfl, hlen⟩ := pop_st hpop
  have hT : ∀ w' ∈ [Cond.methodLink (mtx mid).1.cls n (mtx k1).1, .instanceMethod (mtx k1).1, .selects (dvc 6).1 (mtx k1).1 (mtx k1).1, .initialized (mtx k1).1.cls, cdw k1] ++ (vwd (mtx mid).1.cls n 5 k2 ++ (vwd (mtx mid).1.cls n 0 k3 ++ (vwd (mtx mid).1.cls n 1 k4 ++ (vwd (mtx mid).1.cls n 9 k5 ++ vwd (mtx mid).1.cls n 2 k6)))), rdw w' = true → w' ∈ tbx := fun w' h1 h2 => tbx_in (hnd w' h1) h2
  have u1 := hT (.instanceMethod (mtx k1).1) (List.mem_append_left _ (mem_i 1 rfl)) rfl
  have u2 := hT (cdw k1) (List.mem_append_left _ (mem_i 4 rfl)) rfl
  have go : ∀ ci k, oc S v ci = true → (mtx k1).1 = hKd k → (∀ y ∈ vwd (mtx mid).1.cls n ci k, rdw y = true → y ∈ tbx) → cal px R d mid nx ls r0 S k (.ref v :: as) = some (r, S1) → Simx l d mid pc ls (as.reverse ++ .ref v :: r0) S r S1 := by
    intro ci k g e1 hin h3
    exact sp_call hd hn hMo hR h3 (fun d' _ hrest => f_virtU g hlen hrest e1 hp (hin _ (vwd_in (Or.inl rfl)) rfl) (hin _ (vwd_in (Or.inr (Or.inl rfl))) rfl) (hin _ (vwd_in (Or.inr (Or.inr (Or.inl rfl)))) rfl) (hin _ (vwd_in (Or.inr (Or.inr (Or.inr (Or.inl rfl))))) rfl) (hin _ (vwd_in (Or.inr (Or.inr (Or.inr (Or.inr (Or.inl rfl)))))) rfl) (hin _ (vwd_in (Or.inr (Or.inr (Or.inr (Or.inr (Or.inr rfl)))))) rfl) u1 u2 d')
  have h2 : (if oc S v 6 = true then cal px R d mid nx ls r0 S k1 (.ref v :: as) else if oc S v 5 = true then cal px R d mid nx ls r0 S k2 (.ref v :: as) else if oc S v 0 = true then cal px R d mid nx ls r0 S k3 (.ref v :: as) else if oc S v 1 = true then cal px R d mid nx ls r0 S k4 (.ref v :: as) else if oc S v 9 = true then cal px R d mid nx ls r0 S k5 (.ref v :: as) else if oc S v 2 = true then cal px R d mid nx ls r0 S k6 (.ref v :: as) else none) = some (r, S1) := h2
  split at h2
  · rename_i g
    exact sp_call hd hn hMo hR h2 (fun d' _ hrest => f_virt g hlen hrest hc hp (hT _ (List.mem_append_left _ (mem_i 0 rfl)) rfl) u1 (hT _ (List.mem_append_left _ (mem_i 2 rfl)) rfl) (hT _ (List.mem_append_left _ (mem_i 3 rfl)) rfl) u2 d')
  split at h2
  · rename_i g
    exact go 5 k2 g (hal _ (mem_i 0 rfl)) (fun y hy => hT y (List.mem_append_right _ (List.mem_append_left _ hy))) h2
  split at h2
  · rename_i g
    exact go 0 k3 g (hal _ (mem_i 1 rfl)) (fun y hy => hT y (List.mem_append_right _ (List.mem_append_right _ (List.mem_append_left _ hy)))) h2
  split at h2
  · rename_i g
    exact go 1 k4 g (hal _ (mem_i 2 rfl)) (fun y hy => hT y (List.mem_append_right _ (List.mem_append_right _ (List.mem_append_right _ (List.mem_append_left _ hy))))) h2
  split at h2
  · rename_i g
    exact go 9 k5 g (hal _ (mem_i 3 rfl)) (fun y hy => hT y (List.mem_append_right _ (List.mem_append_right _ (List.mem_append_right _ (List.mem_append_right _ (List.mem_append_left _ hy)))))) h2
  split at h2
  · rename_i g
    exact go 2 k6 g (hal _ (mem_i 4 rfl)) (fun y hy => hT y (List.mem_append_right _ (List.mem_append_right _ (List.mem_append_right _ (List.mem_append_right _ (List.mem_append_right _ hy)))))) h2
  · cases h2
set_option maxHeartbeats 1000000 in
theorem s_init {n q : Nat} (hMo : MoR R) (hok : ckx (mtx mid) (pc, .invokespecial n, nx, a, c0, w, [2, q]) = true) (hnd : ∀ v ∈ ndx (mtx mid) (pc, .invokespecial n, nx, a, c0, w, [2, q]), v ∈ lw_tbl) (hR : HRx l R) (h : stp px R d mid (pc, .invokespecial n, nx, a, c0, w, [2, q]) ls st S = some (r, S1)) : Simx l d mid pc ls st S r S1 := by
  have hok : (decide (decode (mtx mid).2.1 pc = .ok (.invokespecial n, nx - pc)) && ((decide ((mtx a).1.name = "<init>") && (decide ((mtx a).2.2.2.1 = none) && pln (mtx a).1 q)) && Nat.beq nx (pc + 3))) = true := hok
  obtain ⟨hd, hk⟩ := and_s hok
  have hd := of_decide_eq_true hd
  obtain ⟨hp, hn⟩ := and_s hk
  obtain ⟨hi, hp⟩ := and_s hp
  have hi := of_decide_eq_true hi
  obtain ⟨hv, hp⟩ := and_s hp
  have hv := of_decide_eq_true hv
  obtain ⟨hp1, hp2⟩ := pln_s hp
  obtain ⟨as, v, r0, hpop, h2⟩ := p_3 (f := fun as v r0 => cal px R d mid nx ls r0 S a (.ref v :: as)) h
  obtain ⟨rfl, hlen⟩ := pop_st hpop
  have hT : ∀ w' ∈ ndx (mtx mid) (pc, .invokespecial n, nx, a, c0, w, [2, q]), rdw w' = true → w' ∈ tbx := fun w' h1 h2 => tbx_in (hnd w' h1) h2
  have t1 := hT _ (mem_i 0 rfl) rfl
  have t2 := hT _ (mem_i 1 rfl) rfl
  have t3 := hT _ (mem_i 2 rfl) rfl
  have t4 := hT _ (mem_i 3 rfl) rfl
  refine sp_call hd hn hMo hR h2 (fun d' _ hrest => ?_)
  intro p e Rm s m args below meth c H locs cells slots mc ms arr D cA b sa tL L xs Qc hC hK hfr hlo hd h98 hP harr hf hMet hPre
  have t4' : Cond.code (mtx a).1 (mtx a).2.1 (mtx a).2.2.1 none = cdw a := by unfold cdw; rw [hv]
  exact va_runI (Ts := tbx) (nL := (mtx mid).2.2.1) (n := q) (b := adx b sa tL v) (bytes := (mtx a).2.1) (maxL := (mtx a).2.2.1) (As := as.map (cvx (adx b sa tL))) ⟨hC.1, hC.2.1, hC.2.2.1, hC.2.2.2.1, hC.2.2.2.2.2⟩ hMet ⟨⟨rfl, rfl, hfr, hloc hlo, hws hC.2.2.2.2.2 t4, by rw [t4']; exact List.mem_cons_self, by rw [t4']; exact hC.2.2.2.2.2 _ t4, hC.2.2.2.2.2 _ t3, hp1, hp2, hC.2.2.2.2.2 _ t1⟩, hi, hC.2.2.2.2.2 _ t2⟩ ⟨Pcx.blind, hPre⟩ rfl (by rw [List.length_map]; exact hlen) harr (by show (as.reverse ++ .ref v :: r0).map _ = _; rw [List.map_append, List.map_cons, List.map_reverse]; rfl) (mon0 _ hrest) hd hf
set_option maxHeartbeats 1000000 in
theorem s_initN {n q : Nat} (hMo : MoR R) (hok : ckx (mtx mid) (pc, .invokespecial n, nx, a, c0, w, [6, q]) = true) (hnd : ∀ v ∈ ndx (mtx mid) (pc, .invokespecial n, nx, a, c0, w, [6, q]), v ∈ lw_tbl) (hR : HRx l R) (h : stp px R d mid (pc, .invokespecial n, nx, a, c0, w, [6, q]) ls st S = some (r, S1)) : Simx l d mid pc ls st S r S1 := by
  have hok : (decide (decode (mtx mid).2.1 pc = .ok (.invokespecial n, nx - pc)) && ((decide ((mtx a).1.name = "<init>") && (decide ((mtx a).2.2.2.1 = none) && pln (mtx a).1 q)) && Nat.beq nx (pc + 3))) = true := hok
  obtain ⟨hd, hk⟩ := and_s hok
  have hd := of_decide_eq_true hd
  obtain ⟨hp, hn⟩ := and_s hk
  obtain ⟨hi, hp⟩ := and_s hp
  have hi := of_decide_eq_true hi
  obtain ⟨hv, hp⟩ := and_s hp
  have hv := of_decide_eq_true hv
  obtain ⟨hp1, hp2⟩ := pln_s hp
  obtain ⟨as, v, r0, hpop, h2⟩ := p_3 (f := fun as v r0 => cal px R d mid nx ls r0 S a (.ref v :: as)) h
  obtain ⟨rfl, hlen⟩ := pop_st hpop
  have hT : ∀ w' ∈ ndx (mtx mid) (pc, .invokespecial n, nx, a, c0, w, [6, q]), rdw w' = true → w' ∈ tbx := fun w' h1 h2 => tbx_in (hnd w' h1) h2
  have t1 := hT _ (mem_i 0 rfl) rfl
  have t2 := hT _ (mem_i 1 rfl) rfl
  have t3 := hT _ (mem_i 2 rfl) rfl
  have t4 := hT _ (mem_i 3 rfl) rfl
  refine sp_call hd hn hMo hR h2 (fun d' _ hrest => ?_)
  intro p e Rm s m args below meth c H locs cells slots mc ms arr D cA b sa tL L xs Qc hC hK hfr hlo hd h98 hP harr hf hMet hPre
  have t4' : Cond.code (mtx a).1 (mtx a).2.1 (mtx a).2.2.1 none = cdw a := by unfold cdw; rw [hv]
  exact va_runIN (Ts := tbx) (nL := (mtx mid).2.2.1) (n := q) (host := "DoorSold") (b := adx b sa tL v) (bytes := (mtx a).2.1) (maxL := (mtx a).2.2.1) (As := as.map (cvx (adx b sa tL))) ⟨hC.1, hC.2.1, hC.2.2.1, hC.2.2.2.1, hC.2.2.2.2.2⟩ hMet ⟨⟨⟨rfl, rfl, hfr, hloc hlo, hws hC.2.2.2.2.2 t4, by rw [t4']; exact List.mem_cons_self⟩, by rw [t4']; exact hC.2.2.2.2.2 _ t4, hC.2.2.2.2.2 _ t3, hp1, hp2, hC.2.2.2.2.2 _ t1⟩, hi, hC.2.2.2.2.2 _ t2⟩ ⟨Pcx.blind, hPre⟩ rfl (by rw [List.length_map]; exact hlen) harr (by show (as.reverse ++ .ref v :: r0).map _ = _; rw [List.map_append, List.map_cons, List.map_reverse]; rfl) (mon0 _ hrest) hd hf
set_option maxHeartbeats 1000000 in
theorem s_super {n q ci : Nat} (hMo : MoR R) (hok : ckx (mtx mid) (pc, .invokespecial n, nx, a, c0, w, [4, q, ci]) = true) (hnd : ∀ v ∈ ndx (mtx mid) (pc, .invokespecial n, nx, a, c0, w, [4, q, ci]), v ∈ lw_tbl) (hR : HRx l R) (h : stp px R d mid (pc, .invokespecial n, nx, a, c0, w, [4, q, ci]) ls st S = some (r, S1)) : Simx l d mid pc ls st S r S1 := by
  have hok : (decide (decode (mtx mid).2.1 pc = .ok (.invokespecial n, nx - pc)) && ((decide ((dvc ci).1 = (mtx mid).1.cls) && (!(decide ((mtx a).1.name = "<init>")) && pln (mtx a).1 q)) && Nat.beq nx (pc + 3))) = true := hok
  obtain ⟨hd, hk⟩ := and_s hok
  have hd := of_decide_eq_true hd
  obtain ⟨hp, hn⟩ := and_s hk
  obtain ⟨hi, hp⟩ := and_s hp
  obtain ⟨hv, hp⟩ := and_s hp
  have hv : (mtx a).1.name ≠ "<init>" := by simpa using hv
  obtain ⟨hp1, hp2⟩ := pln_s hp
  obtain ⟨as, v, r0, hpop, h2⟩ := p_3 (f := fun as v r0 => if oc S v ci = true then cal px R d mid nx ls r0 S a (.ref v :: as) else none) h
  obtain ⟨rfl, hlen⟩ := pop_st hpop
  obtain ⟨g, h2⟩ := i_t h2
  have hT : ∀ w' ∈ ndx (mtx mid) (pc, .invokespecial n, nx, a, c0, w, [4, q, ci]), rdw w' = true → w' ∈ tbx := fun w' h1 h2 => tbx_in (hnd w' h1) h2
  have t1 := hT _ (mem_i 0 rfl) rfl
  have t2 := hT _ (mem_i 1 rfl) rfl
  have t3 := hT _ (mem_i 2 rfl) rfl
  have t4 := hT _ (mem_i 3 rfl) rfl
  have t5 := hT _ (mem_i 4 rfl) rfl
  have t6 := hT _ (mem_i 5 rfl) rfl
  refine sp_call hd hn hMo hR h2 (fun d' _ hrest => ?_)
  intro p e Rm s m args below meth c H locs cells slots mc ms arr D cA b sa tL L xs Qc hC hK hfr hlo hd h98 hP harr hf hMet hPre
  obtain ⟨g1, g2⟩ := oc_spec g
  have h13 : ci < 13 := by have := shp_ci v (by omega); rw [g2] at this; exact this rfl
  have hr := va_recv (ws := wlx b (adx b sa tL) cA S) hK hP (dvc_get h13) (q0 := v) (a := b + v) (by rw [wlx_get g1, cex_0 g2])
  have e1 : (.ref v :: as).map (cvx (adx b sa tL)) = .ref (b + v) :: as.map (cvx (adx b sa tL)) := by rw [List.map_cons]; show Value.ref (adx b sa tL v) :: _ = _; rw [adx_lo (by omega)]
  rw [e1] at hMet hPre ⊢
  exact va_runSU (Ts := tbx) (nL := (mtx mid).2.2.1) (n := q) (C := (dvc ci).1) (cC := D.1 ci) (b := b + v) (bytes := (mtx a).2.1) (maxL := (mtx a).2.2.1) (ret := (mtx a).2.2.2.1) (As := as.map (cvx (adx b sa tL))) (hK.1 ci _ (dvc_get h13)).2 ⟨hC.1, hC.2.1, hC.2.2.1, hC.2.2.2.1, hC.2.2.2.2.2⟩ hMet ⟨⟨rfl, rfl, hfr, hloc hlo, hws hC.2.2.2.2.2 t6, List.mem_cons_self⟩, hC.2.2.2.2.2 _ t1, hC.2.2.2.2.2 _ t2, hC.2.2.2.2.2 _ t3, hC.2.2.2.2.2 _ t4, hC.2.2.2.2.2 _ t5, hC.2.2.2.2.2 _ t6, hv, hp2⟩ ⟨Pcx.blind, hr, hPre⟩ rfl (by rw [List.length_map]; exact hlen) harr (by show (as.reverse ++ .ref v :: r0).map _ = _; rw [List.map_append, List.map_cons, List.map_reverse]; show _ ++ Value.ref (adx b sa tL v) :: _ = _; rw [adx_lo (by omega)]) (mon0 _ hrest) hd hf
set_option maxHeartbeats 2000000 in
/-- super.m() of a method that the superclass's own superclass declares -/
theorem s_super7 {n q ci : Nat} (hMo : MoR R) (hok : ckx (mtx mid) (pc, .invokespecial n, nx, a, c0, w, [7, q, ci]) = true) (hnd : ∀ v ∈ ndx (mtx mid) (pc, .invokespecial n, nx, a, c0, w, [7, q, ci]), v ∈ lw_tbl) (hR : HRx l R) (h : stp px R d mid (pc, .invokespecial n, nx, a, c0, w, [7, q, ci]) ls st S = some (r, S1)) : Simx l d mid pc ls st S r S1 := by
  have hok : (decide (decode (mtx mid).2.1 pc = .ok (.invokespecial n, nx - pc)) && ((decide ((dvc ci).1 = (mtx mid).1.cls) && (!(decide ((mtx a).1.name = "<init>")) && pln (mtx a).1 q)) && Nat.beq nx (pc + 3))) = true := hok
  obtain ⟨hd, hk⟩ := and_s hok
  have hd := of_decide_eq_true hd
  obtain ⟨hp, hn⟩ := and_s hk
  obtain ⟨hi, hp⟩ := and_s hp
  obtain ⟨hv, hp⟩ := and_s hp
  have hv : (mtx a).1.name ≠ "<init>" := by simpa using hv
  obtain ⟨hp1, hp2⟩ := pln_s hp
  obtain ⟨as, v, r0, hpop, h2⟩ := p_3 (f := fun as v r0 => if oc S v ci = true then cal px R d mid nx ls r0 S a (.ref v :: as) else none) h
  obtain ⟨rfl, hlen⟩ := pop_st hpop
  obtain ⟨g, h2⟩ := i_t h2
  have hT : ∀ w' ∈ ndx (mtx mid) (pc, .invokespecial n, nx, a, c0, w, [7, q, ci]), rdw w' = true → w' ∈ tbx := fun w' h1 h2 => tbx_in (hnd w' h1) h2
  have t1 := hT _ (mem_i 0 rfl) rfl
  have t2 := hT _ (mem_i 1 rfl) rfl
  have t3 := hT _ (mem_i 2 rfl) rfl
  have t3' := hT _ (mem_i 3 rfl) rfl
  have t4 := hT _ (mem_i 4 rfl) rfl
  have t5 := hT _ (mem_i 5 rfl) rfl
  have t6 := hT _ (mem_i 6 rfl) rfl
  refine sp_call hd hn hMo hR h2 (fun d' _ hrest => ?_)
  intro p e Rm s m args below meth c H locs cells slots mc ms arr D cA b sa tL L xs Qc hC hK hfr hlo hd h98 hP harr hf hMet hPre
  obtain ⟨g1, g2⟩ := oc_spec g
  have h13 : ci < 13 := by have := shp_ci v (by omega); rw [g2] at this; exact this rfl
  obtain ⟨cellB, hcB, hoB, hclB⟩ := va_recv (ws := wlx b (adx b sa tL) cA S) hK hP (dvc_get h13) (q0 := v) (a := b + v) (by rw [wlx_get g1, cex_0 g2])
  have e1 : (.ref v :: as).map (cvx (adx b sa tL)) = .ref (b + v) :: as.map (cvx (adx b sa tL)) := by rw [List.map_cons]; show Value.ref (adx b sa tL v) :: _ = _; rw [adx_lo (by omega)]
  rw [e1] at hMet hPre ⊢
  have hini := hC.2.2.2.2.2 _ t5
  have hBk : Back l Rm p e below s args (mtx a).1 3 8 (PreOf Rm mc ms (va_Pc (.ref (b + v) :: as.map (cvx (adx b sa tL))) (Pcx D cA b sa tL L xs S))) (PostOf Qc mc ms (fun q => b ≤ q)) := back_of (bytes := (mtx a).2.1) (maxL := (mtx a).2.2.1) (ret := (mtx a).2.2.2.1) hMet Pcx.blind rfl rfl hfr (hloc hlo) (hws hC.2.2.2.2.2 t6) List.mem_cons_self (fun a' U hW => tbx_ride hC.2.2.2.2.2 _ t5 a' U hW)
  obtain ⟨mk, methM, hnamed, hmethM, hstM, habM⟩ := Cond.instanceMethod_spec (hC.2.2.2.2.2 _ t4)
  obtain ⟨methM', cM, hmethM', -, -, -, -, -, -, hsigM⟩ := Cond.code_spec hnamed (hC.2.2.2.2.2 _ t6)
  cases hmethM.symm.trans hmethM'
  obtain ⟨ps, dk, kp, hps, hdk, hkp, hsuper, -, -, hnid⟩ := Cond.superclass_spec hC.2.2.2.1 (hC.2.2.2.2.2 _ t3)
  obtain ⟨ps2, dk2, kp2, hps2, hdk2, hkp2, hsuper2, hkind2, -, -⟩ := Cond.superclass_spec hps (hC.2.2.2.2.2 _ t3')
  have hpm : ps2 = mk.cls := Option.some.inj (hps2.symm.trans (findClass_of_methodNamed hnamed))
  have hlt : ps < s.vm.classes.size := (Array.getElem?_eq_some_iff.mp hdk2).1
  have hsub : s.vm.isSubclass ps mk.cls = true := by
    rw [← hpm]
    unfold Vm.isSubclass
    have hpos : 0 < s.vm.classes.size := Nat.lt_of_le_of_lt (Nat.zero_le _) hlt
    obtain ⟨f, hf⟩ : ∃ f, s.vm.classes.size = f + 1 := ⟨s.vm.classes.size - 1, by omega⟩
    rw [hf]
    simp [Vm.isSubclassAux, hdk2, hsuper2]
  obtain ⟨-, kB, hkB, -⟩ := (hK.1 ci _ (dvc_get h13)).2
  have hfc := (hK.1 ci _ (dvc_get h13)).2.1
  have hcb : cellB.cls = D.1 ci := Option.some.inj (hclB.symm.trans hfc)
  intro T hT0 X
  have hstk : (F0 m pc arr ((as.reverse ++ .ref v :: r0).map (cvx (adx b sa tL)))).stack = (as.map (cvx (adx b sa tL))).reverse ++ .ref (b + v) :: r0.map (cvx (adx b sa tL)) := by
    show (as.reverse ++ .ref v :: r0).map _ = _
    rw [List.map_append, List.map_cons, List.map_reverse]
    show _ ++ Value.ref (adx b sa tL v) :: _ = _
    rw [adx_lo (by omega)]
  have hlenA : (as.map (cvx (adx b sa tL))).length = methM.sig.parameters.length := by rw [List.length_map, hlen]; exact hp2 _ hsigM
  obtain ⟨vm₁, X₁, hstep₁⟩ := X.invokespecialUp (owner := (mtx a).1.cls) (x := ⟨"DoorSold$Back", (mtx a).1.name, (mtx a).1.desc⟩) hC.1 hC.2.2.2.1 (hC.2.2.2.2.2 _ t1) (hC.2.2.2.2.2 _ t2) (show s.methodNamed? ⟨(mtx a).1.cls, (mtx a).1.name, (mtx a).1.desc⟩ = some mk from hnamed) hmethM hstM habM hv hdk hnid hps hsuper hsub (a := b + v) (cell := cellB) (by rw [hT0]; exact hcB)
    (fun z h => by rw [h] at hoB; cases hoB) (kcell := kB) (by rw [hcb]; exact hkB) (g := F0 m pc arr ((as.reverse ++ .ref v :: r0).map (cvx (adx b sa tL)))) rfl (argsL := as.map (cvx (adx b sa tL))) (rest := r0.map (cvx (adx b sa tL))) hlenA hstk (by rw [hC.2.1]; exact hd)
  obtain ⟨v', B, X', hpost, hsteps⟩ := hBk m meth c ⟨T.setVm vm₁, locs, cells, slots⟩ { F0 m pc arr ((as.reverse ++ .ref v :: r0).map (cvx (adx b sa tL))) with stack := r0.map (cvx (adx b sa tL)) } (.invokespecial n) mk (Value.ref (b + v) :: as.map (cvx (adx b sa tL))).toArray X₁ rfl (harr.trans hC.2.2.1.symm) (by rw [hC.2.1]; exact hd) (mon0 (m := m) (pc := pc) (arr := arr) (st := r0.map (cvx (adx b sa tL))) (adx b sa tL) hrest) (X₁.named hnamed) ⟨hf.1, hf.2, hPre (T.setVm vm₁) hT0 X₁.warmed⟩
  obtain ⟨U', l2, c2, s2⟩ := B
  obtain ⟨g', mk', t, L', e1', e2', hq', h1', hL', h2', h3'⟩ := hpost
  dsimp only [Pt.U, Pt.locs, Pt.cells, Pt.slots] at X' e1' e2' h1' h2' h3' hsteps
  subst h1'; subst h2'; subst h3'
  exact ⟨v', (T.setVm vm₁).calling g' mk' (Value.ref (b + v) :: as.map (cvx (adx b sa tL))).toArray, t, U', L', hT0, X', hL', e1', e2', hq', fun target h => hstep₁ _ (by rw [doInvoke_state]; exact hsteps.trans h)⟩
end SE
