/-! ===== the abstract machine's run is the machine's ===== -/
def wlx (b : Nat) (ad : Nat → Nat) (cA : Nat → ClassId) (S : Sx) : va_W := (List.range S.1).map (fun k => (b + k, cex ad cA S k))
def Wox (D : va_G) (cA : Nat → ClassId) (b : Nat) (ad : Nat → Nat) (S : Sx) (H : Heap) : Prop := va_P D clx (wlx b ad cA S) H ∧ H.size = b + S.1
def Cxx (M : Mx) (p : Program) (s : State) (m : MethodId) (args : Array Value) (meth : Method) (c : Code) : Prop := p.tables.exec = Jvm.exec ∧ c.code = M.2.1 ∧ c.maxLocals = M.2.2.1 ∧ s.vm.findClass M.1.cls = some m.cls ∧ (M.1.name = "<init>" → meth.name = "<init>") ∧ ∀ w ∈ tbx, w.before args s = true
def rtx (M : Mx) (ad : Nat → Nat) (pc : Nat) (raw : List Value) (r : Option Value) : Prop :=
  (decode M.2.1 pc = .ok (.ireturn, 1) ∧ ∃ v, raw = [.int v] ∧ ((M.2.2.2.1 = some .int ∧ r = some (.int v)) ∨ (M.2.2.2.1 = some .boolean ∧ r = some (.int (v &&& 1))))) ∨
  (decode M.2.1 pc = .ok (.lreturn, 1) ∧ ∃ v, raw = [.long v] ∧ M.2.2.2.1 = some .long ∧ r = some (.long v)) ∨
  (decode M.2.1 pc = .ok (.areturn, 1) ∧ ∃ k, raw = [.ref (ad k)] ∧ M.2.2.2.1 = some (.object "DoorSold$Kind") ∧ r = some (.ref k)) ∨
  (decode M.2.1 pc = .ok (.return_, 1) ∧ raw = [] ∧ M.2.2.2.1 = none ∧ r = none)
def Simx (l : Launch) (d mid pc : Nat) (ls : Lx) (st : List Value) (S : Sx) (r : Option Value) (S1 : Sx) : Prop :=
  ∀ (p : Program) (e : Env) (R : Room) (s : State) (m : MethodId) (args : Array Value) (below : List Frame) (meth : Method) (c : Code) (Q : State → Prop) (D : va_G) (cA : Nat → ClassId) (b sa tL L : Nat) (xs : Nat → Int32) (n0 : Nat),
  Cxx (mtx mid) p s m args meth c → Enx D cA b sa tL L xs s s.heap → s.heap.size = b + n0 → d ≤ R.frames → 36 * d ≤ R.locals → S1.1 ≤ n0 + R.cells → psz S1.1 ≤ psz n0 + R.slots →
  (∀ (H : Heap) (locs : List Loc) (cells slots : Nat) (arr : Array Slot) (pc' : Nat) (raw : List Value), Wox D cA b (adx b sa tL) S1 H → va_S (fun q => b ≤ q) s.heap H locs → cells + n0 = S1.1 → slots + psz n0 = psz S1.1 → rtx (mtx mid) (adx b sa tL) pc' raw r → W p l e R s m args below meth c H locs cells slots Q (F0 m pc' arr raw)) →
  ∀ (H : Heap) (locs : List Loc) (cells slots : Nat) (arr : Array Slot), Gdx L xs S → Wox D cA b (adx b sa tL) S H → va_S (fun q => b ≤ q) s.heap H locs → cells + n0 = S.1 → slots + psz n0 = psz S.1 → lhx (adx b sa tL) arr (mtx mid).2.2.1 ls → W p l e R s m args below meth c H locs cells slots Q (F0 m pc arr (st.map (cvx (adx b sa tL))))
theorem wlx_len (b : Nat) (ad : Nat → Nat) (cA : Nat → ClassId) (S : Sx) : (wlx b ad cA S).length = S.1 := by simp [wlx]
theorem wlx_get {b : Nat} {ad : Nat → Nat} {cA : Nat → ClassId} {S : Sx} {k : Nat} (h : k < S.1) : (wlx b ad cA S)[k]? = some (b + k, cex ad cA S k) := by simp [wlx, h]
theorem wlx_inv {b : Nat} {ad : Nat → Nat} {cA : Nat → ClassId} {S : Sx} {k : Nat} {q : Nat × va_E} (h : (wlx b ad cA S)[k]? = some q) : k < S.1 ∧ q = (b + k, cex ad cA S k) := by
  have hk : k < S.1 := by have := (List.getElem?_eq_some_iff.mp h).1; rwa [wlx_len] at this
  rw [wlx_get hk] at h
  exact ⟨hk, (Option.some.inj h).symm⟩
theorem wlx_D (b : Nat) (ad : Nat → Nat) (cA : Nat → ClassId) (S : Sx) : va_D (fun q => b ≤ q) (wlx b ad cA S) := by
  refine ⟨fun i j p q hi hj hpq => ?_, fun k q hk => ?_⟩
  · obtain ⟨_, rfl⟩ := wlx_inv hi
    obtain ⟨_, rfl⟩ := wlx_inv hj
    simp only at hpq
    omega
  · obtain ⟨_, rfl⟩ := wlx_inv hk
    simp
theorem wlx_set {b : Nat} {ad : Nat → Nat} {cA : Nat → ClassId} {S S1 : Sx} {k : Nat} {e : va_E} (hn : S1.1 = S.1) (he : e = cex ad cA S1 k) (ho : ∀ j, j ≠ k → cex ad cA S1 j = cex ad cA S j) : (wlx b ad cA S).set k (b + k, e) = wlx b ad cA S1 := by
  apply List.ext_getElem?
  intro i
  rw [List.getElem?_set, wlx_len]
  by_cases h : k = i
  · subst h
    rw [if_pos rfl]
    by_cases hk : k < S.1
    · rw [if_pos hk, wlx_get (by rw [hn]; exact hk), he]
    · rw [if_neg hk, List.getElem?_eq_none (by rw [wlx_len, hn]; omega)]
  · rw [if_neg h]
    by_cases hi : i < S.1
    · rw [wlx_get hi, wlx_get (by rw [hn]; exact hi), ho i (fun q => h q.symm)]
    · rw [List.getElem?_eq_none (by rw [wlx_len]; omega), List.getElem?_eq_none (by rw [wlx_len, hn]; omega)]
theorem wlx_push {b : Nat} {ad : Nat → Nat} {cA : Nat → ClassId} {S S1 : Sx} {e : va_E} (hn : S1.1 = S.1 + 1) (he : e = cex ad cA S1 S.1) (ho : ∀ j, j ≠ S.1 → cex ad cA S1 j = cex ad cA S j) : wlx b ad cA S ++ [(b + S.1, e)] = wlx b ad cA S1 := by
  apply List.ext_getElem?
  intro i
  by_cases hi : i < S.1
  · rw [List.getElem?_append_left (by rw [wlx_len]; exact hi), wlx_get hi, wlx_get (by omega), ho i (by omega)]
  · rw [List.getElem?_append_right (by rw [wlx_len]; omega), wlx_len]
    by_cases h : i = S.1
    · subst h
      rw [wlx_get (by omega), he]
      simp
    · rw [List.getElem?_eq_none (by simp; omega), List.getElem?_eq_none (by rw [wlx_len]; omega)]
theorem Wox.low {D : va_G} {cA : Nat → ClassId} {b : Nat} {ad : Nat → Nat} {S : Sx} {H : Heap} (h : va_P D clx (wlx b ad cA S) H) (hb : b ≤ H.size) : b + S.1 ≤ H.size := by
  by_cases h0 : S.1 = 0
  · omega
  · have := (h (S.1 - 1) _ (wlx_get (by omega))).lt
    simp only at this
    omega
section WK
variable {p : Program} {l : Launch} {e : Env} {R : Room} {s : State} {m : MethodId} {args : Array Value} {below : List Frame} {meth : Method} {c : Code} {H : Heap} {locs : List Loc} {cells slots : Nat} {Q : State → Prop}
theorem W.sized {g : JFrame} (k : H.size ≤ s.heap.size + cells → W p l e R s m args below meth c H locs cells slots Q g) : W p l e R s m args below meth c H locs cells slots Q g := fun T hT X => k (by rw [← hT]; exact X.heapSize) T hT X
end WK
/-! what the shapes say -/
theorem oc_spec {S : Sx} {k ci : Nat} (h : oc S k ci = true) : k < S.1 ∧ shp k = (0, ci) := by
  simp only [oc, Bool.and_eq_true] at h
  refine ⟨?_, Prod.ext (Nat.eq_of_beq_eq_true h.2.1) (Nat.eq_of_beq_eq_true h.2.2)⟩
  exact Nat.le_of_ble_eq_true h.1
theorem isa_spec {S : Sx} {t k : Nat} (h : isa S t k = true) : k < S.1 ∧ (shp k).1 = t := by
  simp only [isa, Bool.and_eq_true] at h
  refine ⟨?_, Nat.eq_of_beq_eq_true h.2⟩
  exact Nat.le_of_ble_eq_true h.1
theorem aw_spec {S : Sx} {t k : Nat} {i : Int32} (h : inb i (aw S t k) = true) : k < S.1 ∧ (shp k).1 = t ∧ vp_in i (shp k).2 := by
  unfold aw at h
  cases hi : isa S t k with
  | true =>
    rw [hi] at h
    obtain ⟨h1, h2⟩ := isa_spec hi
    exact ⟨h1, h2, vp_inb h⟩
  | false =>
    rw [hi] at h
    have := vp_inb h
    exact absurd (Or.inr (Nat.zero_le _)) this
theorem cex_0 {ad : Nat → Nat} {cA : Nat → ClassId} {S : Sx} {k ci : Nat} (h : shp k = (0, ci)) : cex ad cA S k = .inr (ci, fsx ad S k ci) := by simp [cex, h]
theorem cex_1 {ad : Nat → Nat} {cA : Nat → ClassId} {S : Sx} {k : Nat} (h : (shp k).1 = 1) : cex ad cA S k = .inl (cA 1, (shp k).2, .inl (S.2.1 k)) := by unfold cex; rw [h]
theorem cex_2 {ad : Nat → Nat} {cA : Nat → ClassId} {S : Sx} {k : Nat} (h : (shp k).1 = 2) : cex ad cA S k = .inl (cA 2, (shp k).2, .inl (S.2.1 k)) := by unfold cex; rw [h]
theorem cex_3 {ad : Nat → Nat} {cA : Nat → ClassId} {S : Sx} {k t : Nat} (h : (shp k).1 = t) (ht : 3 ≤ t) : cex ad cA S k = .inl (cA t, (shp k).2, .inr (.inr (.inr (.inr (fun j => (S.2.2.2.1 k j).map ad))))) := by
  obtain ⟨t', rfl⟩ : ∃ t', t = t' + 3 := ⟨t - 3, by omega⟩
  unfold cex
  rw [h]
theorem va_up_s {α : Type} (f : Nat → α) (k : Nat) (v : α) : va_up f k v k = v := by simp [va_up]
theorem va_up_n {α : Type} {f : Nat → α} {k j : Nat} {v : α} (h : j ≠ k) : va_up f k v j = f j := by simp [va_up, h]
theorem fsx_get {ad : Nat → Nat} {S : Sx} {k ci j : Nat} (h : j < (dvc ci).2.2) : (fsx ad S k ci)[j]? = some (fvx ad S k ci j) := by
  have h' : j < (clx.getD ci dcl).2.2 := h
  unfold fsx
  rw [List.getElem?_map, List.getElem?_range h']
  rfl
theorem fsx_len (ad : Nat → Nat) (S : Sx) (k ci : Nat) : (fsx ad S k ci).length = (dvc ci).2.2 := by simp [fsx, dvc]
theorem fsx_set {ad : Nat → Nat} {S S1 : Sx} {k ci j : Nat} {v : Value} (hv : fvx ad S1 k ci j = v) (ho : ∀ i, i ≠ j → fvx ad S1 k ci i = fvx ad S k ci i) : (fsx ad S k ci).set j v = fsx ad S1 k ci := by
  apply List.ext_getElem?
  intro i
  rw [List.getElem?_set, fsx_len]
  by_cases h : j = i
  · subst h
    rw [if_pos rfl]
    by_cases hk : j < (dvc ci).2.2
    · rw [if_pos hk, fsx_get hk, hv]
    · rw [if_neg hk, List.getElem?_eq_none (by rw [fsx_len]; omega)]
  · rw [if_neg h]
    by_cases hi : i < (dvc ci).2.2
    · rw [fsx_get hi, fsx_get hi, ho i (fun q => h q.symm)]
    · rw [List.getElem?_eq_none (by rw [fsx_len]; omega), List.getElem?_eq_none (by rw [fsx_len]; omega)]
theorem cex_same {ad : Nat → Nat} {cA : Nat → ClassId} {S S1 : Sx} {j : Nat} (h1 : S1.2.1 j = S.2.1 j) (h2 : S1.2.2.1 j = S.2.2.1 j) (h3 : S1.2.2.2.1 j = S.2.2.2.1 j) : cex ad cA S1 j = cex ad cA S j := by
  unfold cex fsx
  have : fvx ad S1 j (shp j).2 = fvx ad S j (shp j).2 := by
    funext i
    unfold fvx
    rw [h1, h2, h3]
  rw [this, h1, h3]
/-! what the classes say -/
theorem dvc_get {ci : Nat} (h : ci < 13) : clx[ci]? = some (dvc ci) := by
  have hl : ci < clx.length := h
  unfold dvc
  rw [List.getD_eq_getElem?_getD, List.getElem?_eq_getElem hl]
  rfl
def uwx (ci : Nat) : Bool := (u_ws (dvc ci).1 (dvc ci).2.1 (dvc ci).2.2).all fun w => decide (w ∈ tbx)
theorem uw_0 : uwx 0 = true := by decide +kernel
theorem uw_1 : uwx 1 = true := by decide +kernel
theorem uw_2 : uwx 2 = true := by decide +kernel
theorem uw_3 : uwx 3 = true := by decide +kernel
theorem uw_4 : uwx 4 = true := by decide +kernel
theorem uw_5 : uwx 5 = true := by decide +kernel
theorem uw_6 : uwx 6 = true := by decide +kernel
theorem uw_7 : uwx 7 = true := by decide +kernel
theorem uw_8 : uwx 8 = true := by decide +kernel
theorem uw_9 : uwx 9 = true := by decide +kernel
theorem uw_10 : uwx 10 = true := by decide +kernel
theorem uw_11 : uwx 11 = true := by decide +kernel
theorem uw_12 : uwx 12 = true := by decide +kernel
theorem uw_in {ci : Nat} (h : ci < 13) : ∀ w ∈ u_ws (dvc ci).1 (dvc ci).2.1 (dvc ci).2.2, w ∈ tbx := by
  have : uwx ci = true := by
    match ci, h with
    | 0, _ => exact uw_0
    | 1, _ => exact uw_1
    | 2, _ => exact uw_2
    | 3, _ => exact uw_3
    | 4, _ => exact uw_4
    | 5, _ => exact uw_5
    | 6, _ => exact uw_6
    | 7, _ => exact uw_7
    | 8, _ => exact uw_8
    | 9, _ => exact uw_9
    | 10, _ => exact uw_10
    | 11, _ => exact uw_11
    | 12, _ => exact uw_12
    | n + 13, h => omega
  intro w hw
  exact of_decide_eq_true (List.all_eq_true.mp this w hw)
theorem tx_own : ∀ ci, ci < 13 → ∀ j, j < (dvc ci).2.2 → ((dvc ci).2.1 j).1 = (dvc ci).1 := by decide +kernel
theorem tx_ty : ∀ ci, ci < 13 → ∀ j, j < (dvc ci).2.2 → parseFieldDescriptor ((dvc ci).2.1 j).2.2.1 = some ((tyx.getD ci ty_0) j) := by decide +kernel
theorem tx_nm : ∀ ci, ci < 13 → ∀ a, a < (dvc ci).2.2 → ∀ b, b < (dvc ci).2.2 → a ≠ b → ((dvc ci).2.1 a).2.1 ≠ ((dvc ci).2.1 b).2.1 := by decide +kernel
def tyk (t : FieldType) : Nat := match t with
  | .int => 0
  | .long => 1
  | .object _ => 2
  | .array _ => 2
  | _ => 9
theorem tx_fk : ∀ ci, ci < 13 → ∀ j, j < (dvc ci).2.2 → (fkx.getD ci []).getD j 3 = tyk ((tyx.getD ci ty_0) j) := by decide +kernel
theorem shp_ci : ∀ k, k < 98 → (shp k).1 = 0 → (shp k).2 < 13 := by decide +kernel
theorem shp_t : ∀ k, k < 98 → (shp k).1 ≤ 5 := by decide +kernel
