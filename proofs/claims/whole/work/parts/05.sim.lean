/-! ===== what the abstract machine's cells are on the heap, and when an entry of a table is right ===== -/
def letL : List Int32 := [100, 117, 98, 107, 115, 99]
def adx (b sa tL k : Nat) : Nat := if k = 1000 then sa else if k = 1001 then tL else b + k
def cvx (ad : Nat → Nat) : Value → Value
  | .ref k => .ref (ad k)
  | v => v
def enx (t : Nat) : String := if t = 3 then "DoorSold$Row" else if t = 4 then "DoorSold$Kind" else "DoorSold$Country"
def fvx (ad : Nat → Nat) (S : Sx) (k ci j : Nat) : Value := match (fkx.getD ci []).getD j 3 with
  | 0 => .int (S.2.1 k j)
  | 1 => .long (S.2.2.1 k j)
  | _ => va_rf ((S.2.2.2.1 k j).map ad)
def fsx (ad : Nat → Nat) (S : Sx) (k ci : Nat) : List Value := (List.range (clx.getD ci dcl).2.2).map (fvx ad S k ci)
def cex (ad : Nat → Nat) (cA : Nat → ClassId) (S : Sx) (k : Nat) : va_E := match (shp k).1 with
  | 0 => .inr ((shp k).2, fsx ad S k (shp k).2)
  | 1 => .inl (cA 1, (shp k).2, .inl (S.2.1 k))
  | 2 => .inl (cA 2, (shp k).2, .inl (S.2.1 k))
  | t + 3 => .inl (cA (t + 3), (shp k).2, .inr (.inr (.inr (.inr (fun j => (S.2.2.2.1 k j).map ad)))))
def ssz (k : Nat) : Nat := if (shp k).1 = 0 then (clx.getD (shp k).2 dcl).2.2 else (shp k).2
def psz : Nat → Nat
  | 0 => 0
  | n + 1 => psz n + ssz n
def tysx (cA : Nat → ClassId) : List (ClassId × FieldType) := [(cA 1, .int), (cA 2, .boolean), (cA 3, .object "DoorSold$Row"), (cA 4, .object "DoorSold$Kind"), (cA 5, .object "DoorSold$Country")]
def Wdx (D : va_G) (cA : Nat → ClassId) (b : Nat) (ad : Nat → Nat) (S : Sx) (H : Heap) : Prop := H.size = b + S.1 ∧ ∀ k, k < S.1 → va_at D clx (b + k, cex ad cA S k) H
def Gdx (L : Nat) (xs : Nat → Int32) (S : Sx) : Prop := S.1 ≤ 98 ∧ S.2.2.2.2 = L ∧ (∀ j, j < L → S.2.1 1000 j = xs j) ∧ ∀ j, j < 6 → S.2.1 1001 j = letL.getD j 0
/-- what stands below the base, and in the tables: the script, LETTERS, the classes, who is castable to what -/
def kdx : List String := ["DoorSold$Kind", "DoorSold$Dutch", "DoorSold$Back", "DoorSold$Bricked", "DoorSold$Study", "DoorSold$Cart"]
def ncx : List (String × String) := [("DoorSold$Kind", "DoorSold$Dutch"), ("DoorSold$Back", "DoorSold$Dutch"), ("DoorSold$Bricked", "DoorSold$Dutch"), ("DoorSold$Study", "DoorSold$Dutch"), ("DoorSold$Kind", "DoorSold$Back"), ("DoorSold$Dutch", "DoorSold$Back"), ("DoorSold$Bricked", "DoorSold$Back"), ("DoorSold$Cart", "DoorSold$Back"), ("DoorSold$Kind", "DoorSold$Bricked"), ("DoorSold$Dutch", "DoorSold$Bricked"), ("DoorSold$Back", "DoorSold$Bricked"), ("DoorSold$Study", "DoorSold$Bricked"), ("DoorSold$Cart", "DoorSold$Bricked"), ("DoorSold$Kind", "DoorSold$Study"), ("DoorSold$Dutch", "DoorSold$Study"), ("DoorSold$Back", "DoorSold$Study"), ("DoorSold$Bricked", "DoorSold$Study"), ("DoorSold$Cart", "DoorSold$Study"), ("DoorSold$Kind", "DoorSold$Cart"), ("DoorSold$Dutch", "DoorSold$Cart"), ("DoorSold$Back", "DoorSold$Cart"), ("DoorSold$Bricked", "DoorSold$Cart"), ("DoorSold$Study", "DoorSold$Cart")]
def Enx (D : va_G) (cA : Nat → ClassId) (b sa tL L : Nat) (xs : Nat → Int32) (U : State) (H : Heap) : Prop :=
  va_K D clx (tysx cA) U ∧ va_X sa L xs U H ∧ sa < b ∧ b ≤ H.size ∧ va_Z "DoorSold$Reader" "LETTERS" "[I" (.ref tL) (fun q => b ≤ q) U H ∧ va_T .int tL 6 (fun j => .int (letL.getD j 0)) (fun q => b ≤ q) U H ∧ ∀ q ∈ ncx, va_Nc q.1 q.2 U
theorem Enx.go {D : va_G} {cA : Nat → ClassId} {b sa tL L : Nat} {xs : Nat → Int32} {u U : State} {H0 H1 : Heap} (h : Enx D cA b sa tL L xs u H0) (hvm : u.vm.Alike U.vm) (hz : b ≤ H1.size) (hq : ∀ q, q < H0.size → ¬ b ≤ q → H1[q]? = H0[q]?) : Enx D cA b sa tL L xs U H1 := by
  obtain ⟨h1, h2, h3, h4, h5, h6, h7⟩ := h
  exact ⟨va_K.moved hvm h1, (h2.kept (hq sa (by omega) (by omega))).moved hvm, h3, hz, (h5.kept hq).moved hvm, (h6.kept hq).moved hvm, fun q hq => (h7 q hq).moved hvm⟩
theorem vp_inb {i : Int32} {n : Nat} (h : inb i n = true) : vp_in i n := by
  unfold inb at h
  unfold vp_in
  simpa using h
theorem cvx_cat (ad : Nat → Nat) (v : Value) : (cvx ad v).category = v.category := by cases v <;> rfl
theorem rwd_sum (ad : Nat → Nat) (st : List Value) : ((st.map (cvx ad)).map fun v => v.category).sum = rwd st := by
  induction st with
  | nil => rfl
  | cons v t ih => simp only [List.map_cons, List.sum_cons, rwd, ih, cvx_cat]
/-! the locals -/
def lhx (ad : Nat → Nat) (arr : Array Slot) (n : Nat) (ls : Lx) : Prop := ls.length = n ∧ arr.size = n ∧ lv_wf arr ∧ ∀ i v, lg ls i = some v → arr[i]? = some (.val (cvx ad v))
theorem lg_get (ls : Lx) (i : Nat) : lg ls i = (ls[i]?).join := by
  induction ls generalizing i with
  | nil => rfl
  | cons a t ih => cases i with
    | zero => rfl
    | succ j => exact (ih j)
theorem lg_lt {ls : Lx} {i : Nat} {v : Value} (h : lg ls i = some v) : i < ls.length := by
  rw [lg_get] at h
  cases hi : ls[i]? with
  | none => rw [hi] at h; cases h
  | some o => exact (List.getElem?_eq_some_iff.mp hi).1
theorem lg_set (ls : Lx) (i j : Nat) (o : Option Value) (hi : i < ls.length) : lg (ls.set i o) j = if j = i then o else lg ls j := by
  rw [lg_get, lg_get, List.getElem?_set]
  by_cases h : i = j
  · subst h
    simp [hi]
  · rw [if_neg h, if_neg (fun q => h q.symm)]
/-- the pairs that are known -/
def lpx (ad : Nat → Nat) (ls : Lx) : List (Nat × Value) := (List.range ls.length).filterMap (fun i => (lg ls i).map (fun v => (i, cvx ad v)))
theorem lpx_mem {ad : Nat → Nat} {ls : Lx} {i : Nat} {v : Value} (h : lg ls i = some v) : (i, cvx ad v) ∈ lpx ad ls := List.mem_filterMap.mpr ⟨i, List.mem_range.mpr (lg_lt h), by rw [h]; rfl⟩
theorem lhx_has {ad : Nat → Nat} {arr : Array Slot} {n : Nat} {ls : Lx} (h : lhx ad arr n ls) : lv_has arr n (lpx ad ls) := by
  refine ⟨h.2.1, h.2.2.1, fun q hq => ?_⟩
  obtain ⟨i, -, hi⟩ := List.mem_filterMap.mp hq
  cases hv : lg ls i with
  | none => rw [hv] at hi; cases hi
  | some v =>
    rw [hv] at hi
    cases hi
    exact h.2.2.2 i v hv
theorem lhx_st1 {ad : Nat → Nat} {arr arr' : Array Slot} {n i : Nat} {ls : Lx} {v : Value} (hl : lhx ad arr n ls) (ho : oks ls i = true) (hi : i < n)
    (h : lv_has arr' n ((i, cvx ad v) :: (lpx ad ls).filter (fun q => !(q.1 == i) && !(q.1 + 1 == i && q.2.category == 2)))) : lhx ad arr' n (ls.set i (some v)) := by
  refine ⟨by rw [List.length_set]; exact hl.1, h.1, h.2.1, fun j w hj => ?_⟩
  rw [lg_set ls i j _ (by rw [hl.1]; exact hi)] at hj
  by_cases e : j = i
  · rw [if_pos e] at hj
    cases hj
    subst e
    exact h.2.2 _ List.mem_cons_self
  · rw [if_neg e] at hj
    refine h.2.2 (j, cvx ad w) (List.mem_cons_of_mem _ (List.mem_filter.mpr ⟨lpx_mem hj, ?_⟩))
    by_cases e2 : j + 1 = i
    · subst e2
      simp only [oks, hj] at ho
      have : w.category = 1 := by cases w <;> simp_all [Value.category]
      simp [cvx_cat, this]
    · simp [e, e2]
theorem lhx_st2 {ad : Nat → Nat} {arr arr' : Array Slot} {n i : Nat} {ls : Lx} {v : Value} (hl : lhx ad arr n ls) (ho : oks ls i = true) (hi : i + 1 < n)
    (h : lv_has arr' n ((i, cvx ad v) :: (lpx ad ls).filter (fun q => !(q.1 == i) && (!(q.1 == i + 1) && !(q.1 + 1 == i && q.2.category == 2))))) : lhx ad arr' n ((ls.set i (some v)).set (i + 1) none) := by
  refine ⟨by rw [List.length_set, List.length_set]; exact hl.1, h.1, h.2.1, fun j w hj => ?_⟩
  rw [lg_set _ (i + 1) j _ (by rw [List.length_set, hl.1]; exact hi)] at hj
  by_cases e1 : j = i + 1
  · rw [if_pos e1] at hj
    cases hj
  · rw [if_neg e1, lg_set ls i j _ (by rw [hl.1]; omega)] at hj
    by_cases e : j = i
    · rw [if_pos e] at hj
      cases hj
      subst e
      exact h.2.2 _ List.mem_cons_self
    · rw [if_neg e] at hj
      refine h.2.2 (j, cvx ad w) (List.mem_cons_of_mem _ (List.mem_filter.mpr ⟨lpx_mem hj, ?_⟩))
      by_cases e2 : j + 1 = i
      · subst e2
        simp only [oks, hj] at ho
        have : w.category = 1 := by cases w <;> simp_all [Value.category]
        simp [cvx_cat, this]
        omega
      · simp [e, e1, e2]
theorem lg_rep (n i : Nat) : lg (List.replicate n none) i = none := by
  rw [lg_get]
  by_cases h : i < n
  · simp [h]
  · simp [h]
theorem ini_len : ∀ (vs : List Value) (n : Nat), (lg_sl vs).length ≤ n → (ini n vs).length = n := by
  intro vs
  induction vs with
  | nil => intro n _; simp [ini]
  | cons v vs ih =>
    intro n h
    have e : (lg_sl (v :: vs)).length = v.category + (lg_sl vs).length := by
      simp only [lg_sl, List.flatMap_cons, List.length_append]
      cases v <;> rfl
    rw [e] at h
    cases v <;> simp only [Value.category] at h <;> simp only [ini, List.length_cons] <;> rw [ih _ (by omega)] <;> omega
theorem ini_args (ad : Nat → Nat) : ∀ (vs : List Value) (n k i : Nat) (v : Value), lg (ini n vs) i = some v → (k + i, cvx ad v) ∈ lv_args k (vs.map (cvx ad)) := by
  intro vs
  induction vs with
  | nil => intro n k i v h; rw [ini, lg_rep] at h; cases h
  | cons u vs ih =>
    intro n k i v h
    simp only [List.map_cons, lv_args]
    have two : ∀ (w : Value) (m : Nat), w.category = 2 → lg (some w :: none :: ini m vs) i = some v → (k + i, cvx ad v) ∈ (k, cvx ad w) :: lv_args (k + 2) (vs.map (cvx ad)) := by
      intro w m _ h
      match i, h with
      | 0, h => cases h; exact List.mem_cons_self
      | 1, h => cases h
      | j + 2, h =>
        have := ih m (k + 2) j v h
        rw [show k + (j + 2) = k + 2 + j by omega]
        exact List.mem_cons_of_mem _ this
    have one : ∀ (w : Value) (m : Nat), lg (some w :: ini m vs) i = some v → (k + i, cvx ad v) ∈ (k, cvx ad w) :: lv_args (k + 1) (vs.map (cvx ad)) := by
      intro w m h
      match i, h with
      | 0, h => cases h; exact List.mem_cons_self
      | j + 1, h =>
        have := ih m (k + 1) j v h
        rw [show k + (j + 1) = k + 1 + j by omega]
        exact List.mem_cons_of_mem _ this
    cases u
    all_goals first
      | (exact two _ _ rfl h)
      | (exact one _ _ h)
