/-! ===== entries: what must be so of each, beside the tables' words ===== -/
def dvc (ci : Nat) : vw_C := clx.getD ci dcl
def mtx (i : Nat) : Mx := px.getD i dm
def pln (y : MethodName) (n : Nat) : Bool := decide (y.cls ≠ "java/lang/invoke/MethodHandle" ∧ y.cls ≠ "java/lang/invoke/VarHandle") && decide ((parseMethodDescriptor y.desc).map (fun d => d.parameters.length) = some n)
def ckx (m : Mx) (e : Ex) : Bool := match e with
  | (pc, ins, nx, a, c, w, x) => decide (decode m.2.1 pc = .ok (ins, nx - pc)) && (match ins with
    | .iconst n => decide (Int32.ofInt n = c) && Nat.beq nx (pc + 1)
    | .bipush n => decide ((Int8.ofInt n).toInt32 = c) && Nat.beq nx (pc + 2)
    | .sipush n => decide ((Int16.ofInt n).toInt32 = c) && Nat.beq nx (pc + 3)
    | .lconst n => decide (Int64.ofNat (n : Nat) = w) && Nat.beq nx (pc + 1)
    | .ldc _ => Nat.beq nx (pc + 2)
    | .ldc_w _ => Nat.beq nx (pc + 3)
    | .ldc2_w _ => Nat.beq nx (pc + 3)
    | .iload i => Nat.beq i a && Nat.beq nx (pc + 2)
    | .lload i => Nat.beq i a && Nat.beq nx (pc + 2)
    | .aload i => Nat.beq i a && Nat.beq nx (pc + 2)
    | .istore i => Nat.beq i a && Nat.beq nx (pc + 2)
    | .lstore i => Nat.beq i a && Nat.beq nx (pc + 2)
    | .astore i => Nat.beq i a && Nat.beq nx (pc + 2)
    | .iload_n i => Nat.beq (i : Nat) a && Nat.beq nx (pc + 1)
    | .lload_n i => Nat.beq (i : Nat) a && Nat.beq nx (pc + 1)
    | .aload_n i => Nat.beq (i : Nat) a && Nat.beq nx (pc + 1)
    | .istore_n i => Nat.beq (i : Nat) a && Nat.beq nx (pc + 1)
    | .lstore_n i => Nat.beq (i : Nat) a && Nat.beq nx (pc + 1)
    | .astore_n i => Nat.beq (i : Nat) a && Nat.beq nx (pc + 1)
    | .iinc i n => Nat.beq i a && (decide (Int32.ofInt n = c) && Nat.beq nx (pc + 3))
    | .goto off => decide ((pc : Int) + off = (a : Int)) && Nat.beq nx (pc + 3)
    | .ifCond _ off => decide ((pc : Int) + off = (a : Int)) && Nat.beq nx (pc + 3)
    | .if_icmp _ off => decide ((pc : Int) + off = (a : Int)) && Nat.beq nx (pc + 3)
    | .tableswitch d lo hi offs => decide ((pc : Int) + d = (a : Int)) && (decide (0 ≤ lo) && (decide (lo + (x.length : Int) < 2147483647) && (decide (hi = lo + (x.length : Int) - 1) && decide (offs.toList.map (fun o => (pc : Int) + o) = x.map (fun t : Nat => (t : Int))))))
    | .getfield _ => (match x with
      | [j, k] => Nat.blt j (dvc a).2.2 && Nat.beq ((fkx.getD a []).getD j 3) k
      | _ => false) && Nat.beq nx (pc + 3)
    | .putfield _ => (match x with
      | [j, k] => Nat.blt j (dvc a).2.2 && (Nat.beq ((fkx.getD a []).getD j 3) k && (!((dvc a).2.1 j).2.2.2 || decide (m.1.name = "<init>" ∧ m.1.cls = (dvc a).1)))
      | _ => false) && Nat.beq nx (pc + 3)
    | .aaload => Nat.ble 3 a && (Nat.ble a 5 && Nat.beq nx (pc + 1))
    | .aastore => (Nat.ble 3 a && (Nat.ble a 5 && x.all fun ci => Nat.blt ci 13 && (decide ((dvc ci).1 = enx a) || decide (Cond.castable (dvc ci).1 (enx a) ∈ lw_tbl)))) && Nat.beq nx (pc + 1)
    | .arraylength => Nat.ble 1 a && (Nat.ble a 5 && Nat.beq nx (pc + 1))
    | .new _ => Nat.blt a 13 && Nat.beq nx (pc + 3)
    | .newarray t => ((decide (t = .int) && Nat.beq a 1) || (decide (t = .boolean) && Nat.beq a 2)) && Nat.beq nx (pc + 2)
    | .anewarray _ => Nat.ble 3 a && (Nat.ble a 5 && Nat.beq nx (pc + 3))
    | .instanceof _ => (x.all fun ci => (decide ((dvc ci).1 = (dvc (x.headD 0)).1) && (x.take a).elem ci) || ((x.take a).elem ci && decide (Cond.castable (dvc ci).1 (dvc (x.headD 0)).1 ∈ lw_tbl)) || (!((x.take a).elem ci) && decide (((dvc ci).1, (dvc (x.headD 0)).1) ∈ ncx))) && Nat.beq nx (pc + 3)
    | .getstatic _ => Nat.beq nx (pc + 3)
    | .invokestatic _ => (match x with
      | [5] => true
      | [0, n] => pln (mtx a).1 n
      | _ => false) && Nat.beq nx (pc + 3)
    | .invokevirtual _ => (match x with
      | [n, ci, k] => decide ((mtx k).1.cls = (dvc ci).1) && pln (mtx k).1 n
      | [n, 6, k1, 5, k2, 0, k3, 1, k4, 9, k5, 2, k6] => decide ((mtx k1).1.cls = "DoorSold$Kind") && (pln (mtx k1).1 n && [k2, k3, k4, k5, k6].all fun k => decide ((mtx k).1.name = (mtx k1).1.name ∧ (mtx k).1.desc = (mtx k1).1.desc))
      | _ => false) && Nat.beq nx (pc + 3)
    | .invokespecial _ => (match x with
      | [3] => true
      | [2, n] => decide ((mtx a).1.name = "<init>") && (decide ((mtx a).2.2.2.1 = none) && pln (mtx a).1 n)
      | [6, n] => decide ((mtx a).1.name = "<init>") && (decide ((mtx a).2.2.2.1 = none) && pln (mtx a).1 n)
      | [4, n, ci] => decide ((dvc ci).1 = m.1.cls) && (!(decide ((mtx a).1.name = "<init>")) && pln (mtx a).1 n)
      | [7, n, ci] => decide ((dvc ci).1 = m.1.cls) && (!(decide ((mtx a).1.name = "<init>")) && pln (mtx a).1 n)
      | _ => false) && Nat.beq nx (pc + 3)
    | .ireturn => ((Nat.beq a 0 && decide (m.2.2.2.1 = some .int)) || (Nat.beq a 1 && decide (m.2.2.2.1 = some .boolean))) && Nat.beq nx (pc + 1)
    | .lreturn => decide (m.2.2.2.1 = some .long) && Nat.beq nx (pc + 1)
    | .areturn => decide (m.2.2.2.1 = some (.object "DoorSold$Kind")) && Nat.beq nx (pc + 1)
    | .return_ => decide (m.2.2.2.1 = none) && Nat.beq nx (pc + 1)
    | _ => Nat.beq nx (pc + 1))
def cdw (k : Nat) : Cond := .code (mtx k).1 (mtx k).2.1 (mtx k).2.2.1 (mtx k).2.2.2.1
def hKd (k : Nat) : MethodName := ⟨"DoorSold$Kind", (mtx k).1.name, (mtx k).1.desc⟩
def vwd (own : String) (i ci k : Nat) : List Cond :=
  if (mtx k).1.cls = "DoorSold$Kind" then [.methodLink own i (hKd k), .sameMethod "DoorSold$Kind" "DoorSold$Kind" (mtx k).1.name (mtx k).1.desc, .selects (dvc ci).1 (hKd k) (mtx k).1, .instanceMethod (mtx k).1, .initialized (mtx k).1.cls, cdw k]
  else [.methodLink own i (hKd k), .sameMethod "DoorSold$Kind" "DoorSold$Kind" (mtx k).1.name (mtx k).1.desc, .instanceMethod (hKd k), .selects (dvc ci).1 (hKd k) (mtx k).1, .instanceMethod (mtx k).1, .initialized (mtx k).1.cls, cdw k]
def ndx (m : Mx) (e : Ex) : List Cond := match e with
  | (_, ins, _, a, c, w, x) => match ins with
    | .ldc i => [.constant m.1.cls i c]
    | .ldc_w i => [.constant m.1.cls i c]
    | .ldc2_w i => [.constantLong m.1.cls i w]
    | .getfield i => match x with
      | j :: _ => [.fieldLink m.1.cls i (dvc a).1 ((dvc a).2.1 j).2.1 ((dvc a).2.1 j).2.2.1]
      | _ => []
    | .putfield i => match x with
      | j :: _ => [.fieldLink m.1.cls i (dvc a).1 ((dvc a).2.1 j).2.1 ((dvc a).2.1 j).2.2.1]
      | _ => []
    | .new i => [.classLink m.1.cls i (dvc a).1, .instantiable (dvc a).1 (dvc a).2.2, .initialized (dvc a).1]
    | .anewarray i => [.classLink m.1.cls i (enx a)]
    | .instanceof i => [.classLink m.1.cls i (dvc (x.headD 0)).1]
    | .getstatic i => [.fieldLink m.1.cls i "DoorSold$Reader" "LETTERS" "[I"]
    | .invokestatic i => match x with
      | [5] => [.methodLink m.1.cls i arraycopyName, .native arraycopyName, .static arraycopyName]
      | _ => [.methodLink m.1.cls i (mtx a).1, .static (mtx a).1, .initialized (mtx a).1.cls, cdw a]
    | .invokevirtual i => match x with
      | [_, ci, k] => [.methodLink m.1.cls i (mtx k).1, .instanceMethod (mtx k).1, .selects (dvc ci).1 (mtx k).1 (mtx k).1, .initialized (mtx k).1.cls, cdw k]
      | [_, ci, k1, c2, k2, c3, k3, c4, k4, c5, k5, c6, k6] => [.methodLink m.1.cls i (mtx k1).1, .instanceMethod (mtx k1).1, .selects (dvc ci).1 (mtx k1).1 (mtx k1).1, .initialized (mtx k1).1.cls, cdw k1] ++ (vwd m.1.cls i c2 k2 ++ (vwd m.1.cls i c3 k3 ++ (vwd m.1.cls i c4 k4 ++ (vwd m.1.cls i c5 k5 ++ vwd m.1.cls i c6 k6))))
      | _ => []
    | .invokespecial i => match x with
      | [3] => [.methodLink m.1.cls i objectInit, .instanceMethod objectInit]
      | [2, _] => [.methodLink m.1.cls i (mtx a).1, .instanceMethod (mtx a).1, .initialized (mtx a).1.cls, cdw a]
      | [6, _] => [.methodLinkNest m.1.cls i (mtx a).1 "DoorSold", .instanceMethod (mtx a).1, .initialized (mtx a).1.cls, cdw a]
      | [4, _, _] => [.methodLink m.1.cls i (mtx a).1, .sameMethod (mtx a).1.cls (mtx a).1.cls (mtx a).1.name (mtx a).1.desc, .superclass m.1.cls (mtx a).1.cls, .instanceMethod (mtx a).1, .initialized (mtx a).1.cls, cdw a]
      | [7, _, _] => [.methodLink m.1.cls i ⟨"DoorSold$Back", (mtx a).1.name, (mtx a).1.desc⟩, .sameMethod "DoorSold$Back" (mtx a).1.cls (mtx a).1.name (mtx a).1.desc, .superclass m.1.cls "DoorSold$Back", .superclass "DoorSold$Back" (mtx a).1.cls, .instanceMethod (mtx a).1, .initialized (mtx a).1.cls, cdw a]
      | _ => []
    | _ => []
/-- a method's table is right -/
def okm (m : Mx) : Prop := ∀ e ∈ m.2.2.2.2, ckx m e = true ∧ ∀ w ∈ ndx m e, w ∈ lw_tbl
theorem okm_of {m : Mx} (is : List Nat) (h1 : m.2.2.2.2.all (ckx m) = true) (h2 : m.2.2.2.2.flatMap (ndx m) = is.filterMap (fun i => lw_tbl[i]?)) : okm m := by
  intro e he
  refine ⟨List.all_eq_true.mp h1 e he, fun w hw => ?_⟩
  have h : w ∈ m.2.2.2.2.flatMap (ndx m) := List.mem_flatMap.mpr ⟨e, he, hw⟩
  rw [h2] at h
  obtain ⟨i, -, hi⟩ := List.mem_filterMap.mp h
  exact List.mem_of_getElem? hi
theorem okm_two {m : Mx} (n : Nat) (h1 : ∀ e ∈ m.2.2.2.2.take n, ckx m e = true ∧ ∀ w ∈ ndx m e, w ∈ lw_tbl) (h2 : ∀ e ∈ m.2.2.2.2.drop n, ckx m e = true ∧ ∀ w ∈ ndx m e, w ∈ lw_tbl) : okm m := by
  intro e he
  rw [← List.take_append_drop n m.2.2.2.2] at he
  exact (List.mem_append.mp he).elim (h1 e) (h2 e)
theorem okm_part {m : Mx} {l : List Ex} (is : List Nat) (h1 : l.all (ckx m) = true) (h2 : l.flatMap (ndx m) = is.filterMap (fun i => lw_tbl[i]?)) : ∀ e ∈ l, ckx m e = true ∧ ∀ w ∈ ndx m e, w ∈ lw_tbl := by
  intro e he
  refine ⟨List.all_eq_true.mp h1 e he, fun w hw => ?_⟩
  have h : w ∈ l.flatMap (ndx m) := List.mem_flatMap.mpr ⟨e, he, hw⟩
  rw [h2] at h
  obtain ⟨i, -, hi⟩ := List.mem_filterMap.mp h
  exact List.mem_of_getElem? hi
/-- every word rides with the warming tables -/
def rdw (w : Cond) : Bool := goodWord w || (match w with
  | .castable _ _ => true
  | .methodLinkNest _ _ _ _ => true
  | .declares _ => true
  | .arrayOver (.object _) => true
  | _ => false)
theorem rides {w : Cond} (hw : rdw w = true) {args a' : Array Value} {s U : State} (hW : s.WarmedH U.vm) (h : w.before args s = true) : w.before a' U = true := by
  unfold rdw at hw
  rcases Bool.or_eq_true _ _ ▸ hw with h1 | h1
  · exact word_at hW (good_of_word h1) h
  · cases w with
    | castable C T => exact va_Nw.use rfl (va_Nw.warmC hW (va_Nw.of rfl h))
    | methodLinkNest a b c d => exact va_Nw.use rfl (va_Nw.warmM hW (va_Nw.of rfl h))
    | declares y => exact va_Nw.use rfl (va_Nw.warmD hW (va_Nw.of rfl h))
    | arrayOver t => cases t with
      | object C => exact va_AO.use (va_AO.moved hW.alike (va_AO.of h))
      | _ => cases h1
    | _ => cases h1
def tbx : List Cond := lw_tbl.filter rdw
theorem tbx_in {w : Cond} (h : w ∈ lw_tbl) (hr : rdw w = true) : w ∈ tbx := List.mem_filter.mpr ⟨h, hr⟩
theorem tbx_ride {args : Array Value} {s : State} (h : ∀ w ∈ tbx, w.before args s = true) : ∀ w ∈ tbx, ∀ (a' : Array Value) (U : State), s.WarmedH U.vm → w.before a' U = true := fun w hw _ _ hW => rides (List.mem_filter.mp hw).2 hW (h w hw)
theorem okm_chunks {m : Mx} (c n : Nat) (hl : Nat.ble m.2.2.2.2.length (c * n) = true) (h : ∀ q, q < n → ∀ e ∈ ((m.2.2.2.2.drop (c * q)).take c), ckx m e = true ∧ ∀ w ∈ ndx m e, w ∈ lw_tbl) : okm m := by
  intro e he
  obtain ⟨i, hi⟩ := List.getElem?_of_mem he
  have hlt := (List.getElem?_eq_some_iff.mp hi).1
  have hle := Nat.le_of_ble_eq_true hl
  by_cases hc : c = 0
  · subst hc; omega
  · have hq : i / c < n := by
      apply Nat.div_lt_of_lt_mul
      omega
    refine h (i / c) hq e (List.mem_of_getElem? (i := i % c) ?_)
    rw [List.getElem?_take_of_lt (Nat.mod_lt _ (by omega)), List.getElem?_drop, Nat.div_add_mod, hi]
