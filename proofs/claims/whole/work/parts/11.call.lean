/-! ===== returns; a method's contract out of its walk ===== -/
section RT
variable {p : Program} {l : Launch} {e : Env} {R : Room} {s : State} {m : MethodId} {args : Array Value} {below : List Frame} {meth : Method} {c : Code} {H : Heap} {locs : List Loc} {cells slots : Nat}
theorem W.bret {cc : ByteArray} {Qc : Array Value → State → Outcome → State → Prop} {free : Addr → Prop} {v : Int32} (hexec : p.tables.exec = Jvm.exec) (hb : c.code = cc) (hr : meth.sig.returnType = some .boolean)
    (hq : ∀ t : State, t.heap = H → s.WarmedH t.vm → Qc args s (.returned (some (.int (v &&& 1)))) t) (hf : ∀ q ∈ locs, free q.base)
    {pc : Nat} {ls : Array Slot} (hdg : decode cc pc = .ok (.ireturn, 1)) (hlocks : meth.locks = false) : W p l e R s m args below meth c H locs cells slots (MQ below Qc args s cells slots free) (F0 m pc ls [.int v]) := by
  intro T hT X
  obtain ⟨fs, hret, hrun, hended, hW, hframe⟩ := X.leave (v := some (.int (v &&& 1))) (hlocks := hlocks) (fun h => by rw [hr] at h; cases h)
  have hmeth' : T.vm.method? m = some meth := X.method'
  have hn : narrow .boolean (.int v) = .int (v &&& 1) := rfl
  refine ⟨T.setFrames fs, ?_, .returned (some (.int (v &&& 1))), hrun, hended, hq _ hT hW, locs, ⟨⟨_, rfl⟩, hW, hframe⟩, hf⟩
  jvm_step X.here [X.here.top, hexec, hb, hdg, hmeth', hr, hn]
  (try refine ⟨rfl, ?_⟩); (try refine ⟨rfl, ?_⟩)
  first | (intro acts; rw [hret _ acts rfl rfl rfl]) | rw [hret _ _ rfl rfl rfl]
  exact Steps.refl _
end RT
def Qcx (D : va_G) (cA : Nat → ClassId) (b : Nat) (ad : Nat → Nat) (r : Option Value) (S1 : Sx) : Array Value → State → Outcome → State → Prop := fun _ st o t =>
  o = .returned (r.map (cvx ad)) ∧ Wox D cA b ad S1 t.heap ∧ ∀ q, q < b → t.heap[q]? = st.heap[q]?
def Pcx (D : va_G) (cA : Nat → ClassId) (b sa tL L : Nat) (xs : Nat → Int32) (S : Sx) (U : State) : Prop := Enx D cA b sa tL L xs U U.heap ∧ Gdx L xs S ∧ Wox D cA b (adx b sa tL) S U.heap
theorem mt_ok : px.all (fun m => Nat.ble m.2.2.1 17 && plainFor m.1) = true := by decide +kernel
theorem dm_ok : (Nat.ble dm.2.2.1 17 && plainFor dm.1) = true := by decide +kernel
theorem mtx_ok (k : Nat) : (mtx k).2.2.1 ≤ 17 ∧ plainFor (mtx k).1 = true := by
  have key : (Nat.ble (mtx k).2.2.1 17 && plainFor (mtx k).1) = true := by
    unfold mtx
    rw [List.getD_eq_getElem?_getD]
    cases h : px[k]? with
    | none => exact dm_ok
    | some m => exact List.all_eq_true.mp mt_ok m (List.mem_of_getElem? h)
  rw [Bool.and_eq_true] at key
  exact ⟨Nat.le_of_ble_eq_true key.1, key.2⟩
theorem lgsl_len (ad : Nat → Nat) (as : List Value) : (lg_sl (as.map (cvx ad))).length = rwd as := by
  induction as with
  | nil => rfl
  | cons v t ih =>
    have e : (lg_sl (cvx ad v :: t.map (cvx ad))).length = (cvx ad v).category + (lg_sl (t.map (cvx ad))).length := by
      simp only [lg_sl, List.flatMap_cons, List.length_append]
      cases v <;> rfl
    rw [List.map_cons, e, ih, cvx_cat, rwd]
theorem lgsl_id (as : List Value) : (lg_sl as).length = rwd as := by
  have := lgsl_len id as
  rwa [show as.map (cvx id) = as from by
    have : (cvx id) = id := by funext v; cases v <;> rfl
    rw [this, List.map_id]] at this
set_option maxHeartbeats 1000000 in
/-- a callee's contract: from its walk at the cells S with the arguments as -/
theorem met_of (l : Launch) {d k : Nat} {as : List Value} {S S1 : Sx} {r : Option Value} (h : Simx l d k 0 (ini (mtx k).2.2.1 as) [] S r S1) (has : rwd as ≤ (mtx k).2.2.1) (hmo : S.1 ≤ S1.1) (D : va_G) (cA : Nat → ClassId) (b sa tL L : Nat) (xs : Nat → Int32) :
    Met l (mtx k).1 (cdw k :: tbx) ({ frames := d, cells := S1.1 - S.1, slots := psz S1.1 - psz S.1, locals := 36 * d }) (va_Pc (as.map (cvx (adx b sa tL))) (Pcx D cA b sa tL L xs S)) (Qcx D cA b (adx b sa tL) r S1) (S1.1 - S.1) (psz S1.1 - psz S.1) (fun q => b ≤ q) := by
  refine va_MetF (cc := (mtx k).2.1) (maxL := (mtx k).2.2.1) (ret := (mtx k).2.2.2.1) (mtx_ok k).2 rfl ?_
  intro p e s m args below meth c s₁ B hml hv
  obtain ⟨rfl, hE, hG, hWo⟩ := hv
  have hts := atoms_spec (ws := cdw k :: tbx) B.pre
  have hps := psz_mono hmo
  have hC : Cxx (mtx k) p s m _ meth c := ⟨B.exec, B.bytes, hml, findClass_of_methodNamed B.named, fun q => (name_of_methodNamed B.named B.method).1.trans q, fun w hw => hts w (List.mem_cons_of_mem _ hw)⟩
  rw [lg_entry_eq]
  have hlen : (lg_sl (as.map (cvx (adx b sa tL)))).length ≤ (mtx k).2.2.1 := by rw [lgsl_len]; exact has
  have hl0 := lv_entry (as.map (cvx (adx b sa tL))) (n := (mtx k).2.2.1) hlen
  generalize (lg_sl (as.map (cvx (adx b sa tL))) ++ List.replicate ((mtx k).2.2.1 - (lg_sl (as.map (cvx (adx b sa tL)))).length) Slot.unset).toArray = arr0 at hl0 ⊢
  have hl : lhx (adx b sa tL) arr0 (mtx k).2.2.1 (ini (mtx k).2.2.1 as) := by
    refine ⟨ini_len as _ (by rw [lgsl_id]; exact has), hl0.1, hl0.2.1, fun i v hi => ?_⟩
    have hm := ini_args (adx b sa tL) as (mtx k).2.2.1 0 i v hi
    rw [Nat.zero_add] at hm
    exact hl0.2.2 _ hm
  refine h p e _ s m _ below meth c _ D cA b sa tL L xs S.1 hC hE hWo.2 (Nat.le_refl _) (Nat.le_refl _) (by show S1.1 ≤ S.1 + (S1.1 - S.1); omega) (by show psz S1.1 ≤ psz S.1 + (psz S1.1 - psz S.1); omega) ?_ s.heap [] 0 0 _ hG hWo va_S.rf (by omega) (by omega) hl
  intro H locs cells slots arr pc' raw hW1 hS1 hc1 hs1 hrt
  obtain rfl : cells = S1.1 - S.1 := by omega
  obtain rfl : slots = psz S1.1 - psz S.1 := by omega
  have hq : ∀ t : State, t.heap = H → Wox D cA b (adx b sa tL) S1 t.heap ∧ ∀ q, q < b → t.heap[q]? = s.heap[q]? := by
    intro t ht
    rw [ht]
    exact ⟨hW1, fun q hq => hS1.2.1 q (Nat.lt_of_lt_of_le hq hE.2.2.2.1) (Nat.not_le.mpr hq)⟩
  have hret : meth.sig.returnType = (mtx k).2.2.2.1 := B.returns
  rcases hrt with ⟨hd, v, rfl, hh⟩ | ⟨hd, v, rfl, hr1, rfl⟩ | ⟨hd, q, rfl, hr1, rfl⟩ | ⟨hd, rfl, hr1, rfl⟩
  · rcases hh with ⟨hr1, rfl⟩ | ⟨hr1, rfl⟩
    · exact W.iret B.exec B.bytes (hret.trans hr1) (fun t ht _ => ⟨rfl, hq t ht⟩) hS1.2.2 hd (hlocks := B.notSynchronized)
    · exact W.bret B.exec B.bytes (hret.trans hr1) (fun t ht _ => ⟨rfl, hq t ht⟩) hS1.2.2 hd B.notSynchronized
  · exact W.lret B.exec B.bytes (hret.trans hr1) (fun t ht _ => ⟨rfl, hq t ht⟩) hS1.2.2 hd (hlocks := B.notSynchronized)
  · exact W.aret B.exec B.bytes (hret.trans hr1) (Or.inl ⟨_, rfl⟩) (Or.inr ⟨_, rfl⟩) (fun t ht _ => ⟨rfl, hq t ht⟩) hS1.2.2 hd (hlocks := B.notSynchronized)
  · exact W.vret B.exec B.bytes (hret.trans hr1) (fun t ht _ => ⟨rfl, hq t ht⟩) hS1.2.2 hd (hlocks := B.notSynchronized)
theorem Pcx.blind {D : va_G} {cA : Nat → ClassId} {b sa tL L : Nat} {xs : Nat → Int32} {S : Sx} {as : List Value} : FrameBlind (va_Pc as (Pcx D cA b sa tL L xs S)) := by
  intro a U g mk q
  obtain ⟨q1, q2, q3, q4⟩ := q
  exact ⟨q1, q2.go (u := U) (U := U.calling g mk a) (Vm.Alike.refl U.vm) q2.2.2.2.1 (fun _ _ _ => rfl), q3, q4⟩
section GO
variable {p : Program} {l : Launch} {e : Env} {R : Room} {s : State} {m : MethodId} {args : Array Value} {below : List Frame} {meth : Method} {c : Code} {H : Heap} {locs : List Loc} {cells slots : Nat} {Q : State → Prop}
/-- behind a call -/
theorem call_go {D : va_G} {cA : Nat → ClassId} {b sa tL : Nat} {S1 : Sx} {r : Option Value} {pc mc ms : Nat} {ls : Array Slot} {st0 rest : List Value} {a : Array Value} (hb : b ≤ s.heap.size)
    (hr : va_Run p l e R s m args below meth c H locs cells slots mc ms (F0 m pc ls st0) rest (Qcx D cA b (adx b sa tL) r S1 a) (fun q => b ≤ q)) (hS : va_S (fun q => b ≤ q) s.heap H locs) (hz : H.size ≤ b + S1.1)
    (kk : ∀ (H1 : Heap) (locs1 : List Loc), Wox D cA b (adx b sa tL) S1 H1 → va_S (fun q => b ≤ q) s.heap H1 locs1 → W p l e R s m args below meth c H1 locs1 (cells + mc) (slots + ms) Q (F0 m (pc + 3) ls ((r.map (cvx (adx b sa tL))).toList ++ rest))) :
    W p l e R s m args below meth c H locs cells slots Q (F0 m pc ls st0) := by
  intro T hT X
  obtain ⟨v, st₀, t, T', L, h0, X', hL, e1, e2, ⟨hv, hWo, hk⟩, st⟩ := hr T hT X
  cases hv
  rw [← e1] at hWo hk
  rw [h0] at hk
  obtain ⟨t2, a1, b1⟩ := kk T'.heap (locs ++ L) hWo ⟨Nat.le_trans hS.1 (by rw [hWo.2]; exact hz), fun q h1 h2 => by rw [hk q (Nat.not_le.mp h2)]; exact hS.2.1 q h1 h2, fun q hq => by
      rcases List.mem_append.mp hq with h | h
      · exact hS.2.2 q h
      · exact hL q h⟩ T' rfl X'
  exact ⟨t2, st t2 a1, b1⟩
end GO
