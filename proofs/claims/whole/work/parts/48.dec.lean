-- DoorSoldModel.kinds(II)I
def b220_83 (k39 : Nat → Int32 → Int32 → Int32 → Int32 → Sx → Option (Int32 × Sx)) (x0 : Nat) (x1 : Int32) (x2 : Int32) (x5 : Int32) (s0 : Int32) (s1 : Int32) (S : Sx) : Option (Int32 × Sx) :=
  k39 x0 x1 x2 (s0 ||| s1) (x5 + (1 : Int32)) S
set_option maxRecDepth 100000 in
theorem ob220_83 (d : Nat) (k39 : Nat → Int32 → Int32 → Int32 → Int32 → Sx → Option (Int32 × Sx)) (hk39 : ∀ (x0 : Nat) (x1 : Int32) (x2 : Int32) (x4 : Int32) (x5 : Int32) (S : Sx), OkF wI (fun f => rk px kx f (d + 3) 220 39 [some (.ref x0), some (.int x1), some (.int x2), none, some (.int x4), some (.int x5)] [] S) (k39 x0 x1 x2 x4 x5 S)) (x0 : Nat) (x1 : Int32) (x2 : Int32) (x5 : Int32) (s0 : Int32) (s1 : Int32) (S : Sx) : OkF wI (fun f => rk px kx f (d + 3) 220 83 [some (.ref x0), some (.int x1), some (.int x2), none, none, some (.int x5)] [.int s1, .int s0] S) (b220_83 k39 x0 x1 x2 x5 s0 s1 S) := by
  unfold b220_83
  refine OkF.eq 4 (Y := fun f => rk px kx f (d + 3) 220 39 [some (.ref x0), some (.int x1), some (.int x2), none, some (.int (s0 ||| s1)), some (.int (x5 + (1 : Int32)))] [] S) (fun f => rfl) ?_
  exact OkF.kl (ls1 := [some (.ref x0), some (.int x1), some (.int x2), none, some (.int (s0 ||| s1)), some (.int (x5 + (1 : Int32)))]) (fun f => rfl) (hk39 x0 x1 x2 (s0 ||| s1) (x5 + (1 : Int32)) S)
def b220_39 (k39 : Nat → Int32 → Int32 → Int32 → Int32 → Sx → Option (Int32 × Sx)) (x0 : Nat) (x1 : Int32) (x2 : Int32) (x4 : Int32) (x5 : Int32) (S : Sx) : Option (Int32 × Sx) :=
  if (6 : Int32) ≤ x5 then some (x4, S) else if oc S x0 12 = true then (S.2.2.2.1 x0 8).bind fun a1 => if inb ((4 : Int32) + x1) (al S a1) = true then if oc S x0 12 = true then (S.2.2.2.1 x0 8).bind fun a2 => if inb ((10 : Int32) + x1) (al S a2) = true then if oc S x0 12 = true then (m219 x0 x2 x5 (S.2.1 a1 ((4 : Int32) + x1).toNatClampNeg) (S.2.1 a2 ((10 : Int32) + x1).toNatClampNeg) S).bind fun q3 => if q3.1 = 0 then b220_83 k39 x0 x1 x2 x5 x4 (0 : Int32) q3.2 else b220_83 k39 x0 x1 x2 x5 x4 ((1 : Int32) <<< (x5 &&& 31)) q3.2 else none else none else none else none else none
set_option maxRecDepth 100000 in
theorem ob220_39 (d : Nat) (k39 : Nat → Int32 → Int32 → Int32 → Int32 → Sx → Option (Int32 × Sx)) (hk39 : ∀ (x0 : Nat) (x1 : Int32) (x2 : Int32) (x4 : Int32) (x5 : Int32) (S : Sx), OkF wI (fun f => rk px kx f (d + 3) 220 39 [some (.ref x0), some (.int x1), some (.int x2), none, some (.int x4), some (.int x5)] [] S) (k39 x0 x1 x2 x4 x5 S)) (x0 : Nat) (x1 : Int32) (x2 : Int32) (x4 : Int32) (x5 : Int32) (S : Sx) : OkF wI (fun f => rk px kx f (d + 3) 220 39 [some (.ref x0), some (.int x1), some (.int x2), none, some (.int x4), some (.int x5)] [] S) (b220_39 k39 x0 x1 x2 x4 x5 S) := by
  unfold b220_39
  refine OkF.eq 3 (Y := fun f => if (6 : Int32) ≤ x5 then rk px kx f (d + 3) 220 92 [some (.ref x0), some (.int x1), some (.int x2), none, some (.int x4), some (.int x5)] [] S else rk px kx f (d + 3) 220 46 [some (.ref x0), some (.int x1), some (.int x2), none, some (.int x4), some (.int x5)] [] S) (fun f => rfl) ?_
  refine OkF.ite (fun _ => ?_) (fun _ => ?_)
  · exact OkF.ret 2 (fun f => rfl)
  · refine OkF.eq 6 (Y := fun f => if oc S x0 12 = true then rk px kx f (d + 3) 220 56 [some (.ref x0), some (.int x1), some (.int x2), none, some (.int x4), some (.int x5)] (va_rf (S.2.2.2.1 x0 8) :: [.int x5, .int x2, .ref x0, .int x4]) S else none) (fun f => rfl) ?_
    refine OkF.grd (fun _ => ?_)
    refine OkF.rf (fun a1 => ?_)
    refine OkF.eq 4 (Y := fun f => if inb ((4 : Int32) + x1) (al S a1) = true then rk px kx f (d + 3) 220 60 [some (.ref x0), some (.int x1), some (.int x2), none, some (.int x4), some (.int x5)] [.int (S.2.1 a1 ((4 : Int32) + x1).toNatClampNeg), .int x5, .int x2, .ref x0, .int x4] S else none) (fun f => rfl) ?_
    refine OkF.grd (fun _ => ?_)
    refine OkF.eq 2 (Y := fun f => if oc S x0 12 = true then rk px kx f (d + 3) 220 64 [some (.ref x0), some (.int x1), some (.int x2), none, some (.int x4), some (.int x5)] (va_rf (S.2.2.2.1 x0 8) :: [.int (S.2.1 a1 ((4 : Int32) + x1).toNatClampNeg), .int x5, .int x2, .ref x0, .int x4]) S else none) (fun f => rfl) ?_
    refine OkF.grd (fun _ => ?_)
    refine OkF.rf (fun a2 => ?_)
    refine OkF.eq 4 (Y := fun f => if inb ((10 : Int32) + x1) (al S a2) = true then rk px kx f (d + 3) 220 69 [some (.ref x0), some (.int x1), some (.int x2), none, some (.int x4), some (.int x5)] [.int (S.2.1 a2 ((10 : Int32) + x1).toNatClampNeg), .int (S.2.1 a1 ((4 : Int32) + x1).toNatClampNeg), .int x5, .int x2, .ref x0, .int x4] S else none) (fun f => rfl) ?_
    refine OkF.grd (fun _ => ?_)
    refine OkF.eq 1 (Y := fun f => if oc S x0 12 = true then (rk px kx f (d + 2) 219 0 [some (.ref x0), some (.int x2), some (.int x5), some (.int (S.2.1 a1 ((4 : Int32) + x1).toNatClampNeg)), some (.int (S.2.1 a2 ((10 : Int32) + x1).toNatClampNeg)), none, none, none] [] S).bind (fun q => rk px kx f (d + 3) 220 72 [some (.ref x0), some (.int x1), some (.int x2), none, some (.int x4), some (.int x5)] (q.1.toList ++ [.int x4]) q.2) else none) (fun f => rfl) ?_
    refine OkF.grd (fun _ => ?_)
    refine OkF.bind (w1 := wI) (om219 (d + 0) x0 x2 x5 (S.2.1 a1 ((4 : Int32) + x1).toNatClampNeg) (S.2.1 a2 ((10 : Int32) + x1).toNatClampNeg) S) (fun q3 => ?_)
    refine OkF.eq 1 (Y := fun f => if q3.1 = 0 then rk px kx f (d + 3) 220 82 [some (.ref x0), some (.int x1), some (.int x2), none, some (.int x4), some (.int x5)] [.int x4] q3.2 else rk px kx f (d + 3) 220 75 [some (.ref x0), some (.int x1), some (.int x2), none, some (.int x4), some (.int x5)] [.int x4] q3.2) (fun f => rfl) ?_
    refine OkF.ite (fun _ => ?_) (fun _ => ?_)
    · refine OkF.eq 1 (Y := fun f => rk px kx f (d + 3) 220 83 [some (.ref x0), some (.int x1), some (.int x2), none, some (.int x4), some (.int x5)] [.int (0 : Int32), .int x4] q3.2) (fun f => rfl) ?_
      exact OkF.kl (ls1 := [some (.ref x0), some (.int x1), some (.int x2), none, none, some (.int x5)]) (fun f => rfl) (ob220_83 d k39 hk39 x0 x1 x2 x5 x4 (0 : Int32) q3.2)
    · refine OkF.eq 4 (Y := fun f => rk px kx f (d + 3) 220 83 [some (.ref x0), some (.int x1), some (.int x2), none, some (.int x4), some (.int x5)] [.int ((1 : Int32) <<< (x5 &&& 31)), .int x4] q3.2) (fun f => rfl) ?_
      exact OkF.kl (ls1 := [some (.ref x0), some (.int x1), some (.int x2), none, none, some (.int x5)]) (fun f => rfl) (ob220_83 d k39 hk39 x0 x1 x2 x5 x4 ((1 : Int32) <<< (x5 &&& 31)) q3.2)
def l220_39 : Nat → Nat → Int32 → Int32 → Int32 → Int32 → Sx → Option (Int32 × Sx)
  | 0 => fun _ _ _ _ _ _ => none
  | n + 1 => fun x0 x1 x2 x4 x5 S => b220_39 (l220_39 n) x0 x1 x2 x4 x5 S
set_option maxRecDepth 100000 in
theorem ol220_39 (d : Nat) : ∀ (n : Nat) (x0 : Nat) (x1 : Int32) (x2 : Int32) (x4 : Int32) (x5 : Int32) (S : Sx), OkF wI (fun f => rk px kx f (d + 3) 220 39 [some (.ref x0), some (.int x1), some (.int x2), none, some (.int x4), some (.int x5)] [] S) (l220_39 n x0 x1 x2 x4 x5 S) := by
  intro n
  induction n with
  | zero => intro x0 x1 x2 x4 x5 S; exact OkF.no
  | succ n ih => intro x0 x1 x2 x4 x5 S; exact ob220_39 d (l220_39 n) ih x0 x1 x2 x4 x5 S
def m220 (x0 : Nat) (x1 : Int32) (x2 : Int32) (S : Sx) : Option (Int32 × Sx) :=
  if oc S x0 12 = true then (m171 x0 x1 S).bind fun q4 => if q4.1 = 0 then some ((-1 : Int32), q4.2) else (m149 x2 q4.2).bind fun q5 => if q5.1 = 0 then some ((-1 : Int32), q5.2) else if oc q5.2 x0 12 = true then (m218 x0 x2 q5.2).bind fun q6 => if q6.1 = 0 then l220_39 1000 x0 x1 x2 (0 : Int32) (0 : Int32) q6.2 else if oc q6.2 x0 12 = true then (m151 x0 q6.1 q6.2).bind fun q7 => some (q7.1, q7.2) else none else none else none
set_option maxRecDepth 100000 in
theorem om220 (d : Nat) (x0 : Nat) (x1 : Int32) (x2 : Int32) (S : Sx) : OkF wI (fun f => rk px kx f (d + 3) 220 0 [some (.ref x0), some (.int x1), some (.int x2), none, none, none] [] S) (m220 x0 x1 x2 S) := by
  unfold m220
  refine OkF.eq 3 (Y := fun f => if oc S x0 12 = true then (rk px kx f (d + 2) 171 0 [some (.ref x0), some (.int x1)] [] S).bind (fun q => rk px kx f (d + 3) 220 5 [some (.ref x0), some (.int x1), some (.int x2), none, none, none] (q.1.toList ++ []) q.2) else none) (fun f => rfl) ?_
  refine OkF.grd (fun _ => ?_)
  refine OkF.bind (w1 := wI) (om171 (d + 1) x0 x1 S) (fun q4 => ?_)
  refine OkF.eq 1 (Y := fun f => if q4.1 = 0 then rk px kx f (d + 3) 220 15 [some (.ref x0), some (.int x1), some (.int x2), none, none, none] [] q4.2 else rk px kx f (d + 3) 220 8 [some (.ref x0), some (.int x1), some (.int x2), none, none, none] [] q4.2) (fun f => rfl) ?_
  refine OkF.ite (fun _ => ?_) (fun _ => ?_)
  · exact OkF.ret 2 (fun f => rfl)
  · refine OkF.eq 2 (Y := fun f => (rk px kx f (d + 2) 149 0 [some (.int x2)] [] q4.2).bind (fun q => rk px kx f (d + 3) 220 12 [some (.ref x0), some (.int x1), some (.int x2), none, none, none] (q.1.toList ++ []) q.2)) (fun f => rfl) ?_
    refine OkF.bind (w1 := wI) (om149 (d + 1) x2 q4.2) (fun q5 => ?_)
    refine OkF.eq 1 (Y := fun f => if q5.1 = 0 then rk px kx f (d + 3) 220 15 [some (.ref x0), some (.int x1), some (.int x2), none, none, none] [] q5.2 else rk px kx f (d + 3) 220 17 [some (.ref x0), some (.int x1), some (.int x2), none, none, none] [] q5.2) (fun f => rfl) ?_
    refine OkF.ite (fun _ => ?_) (fun _ => ?_)
    · exact OkF.ret 2 (fun f => rfl)
    · refine OkF.eq 3 (Y := fun f => if oc q5.2 x0 12 = true then (rk px kx f (d + 2) 218 0 [some (.ref x0), some (.int x2), none, none, none] [] q5.2).bind (fun q => rk px kx f (d + 3) 220 22 [some (.ref x0), some (.int x1), some (.int x2), none, none, none] (q.1.toList ++ []) q.2) else none) (fun f => rfl) ?_
      refine OkF.grd (fun _ => ?_)
      refine OkF.bind (w1 := wI) (om218 (d + 0) x0 x2 q5.2) (fun q6 => ?_)
      refine OkF.eq 3 (Y := fun f => if q6.1 = 0 then rk px kx f (d + 3) 220 33 [some (.ref x0), some (.int x1), some (.int x2), some (.int q6.1), none, none] [] q6.2 else rk px kx f (d + 3) 220 27 [some (.ref x0), some (.int x1), some (.int x2), some (.int q6.1), none, none] [] q6.2) (fun f => rfl) ?_
      refine OkF.ite (fun _ => ?_) (fun _ => ?_)
      · refine OkF.eq 4 (Y := fun f => rk px kx f (d + 3) 220 39 [some (.ref x0), some (.int x1), some (.int x2), some (.int q6.1), some (.int (0 : Int32)), some (.int (0 : Int32))] [] q6.2) (fun f => rfl) ?_
        exact OkF.kl (ls1 := [some (.ref x0), some (.int x1), some (.int x2), none, some (.int (0 : Int32)), some (.int (0 : Int32))]) (fun f => rfl) (ol220_39 d 1000 x0 x1 x2 (0 : Int32) (0 : Int32) q6.2)
      · refine OkF.eq 3 (Y := fun f => if oc q6.2 x0 12 = true then (rk px kx f (d + 2) 151 0 [some (.ref x0), some (.int q6.1)] [] q6.2).bind (fun q => rk px kx f (d + 3) 220 32 [some (.ref x0), some (.int x1), some (.int x2), some (.int q6.1), none, none] (q.1.toList ++ []) q.2) else none) (fun f => rfl) ?_
        refine OkF.grd (fun _ => ?_)
        refine OkF.bind (w1 := wI) (om151 (d + 2) x0 q6.1 q6.2) (fun q7 => ?_)
        exact OkF.ret 1 (fun f => rfl)
-- DoorSoldModel.onFrom(I)I
def b222_2 (k2 : Nat → Int32 → Int32 → Sx → Option (Int32 × Sx)) (x0 : Nat) (x1 : Int32) (x2 : Int32) (S : Sx) : Option (Int32 × Sx) :=
  if oc S x0 12 = true then if (S.2.1 x0 4) ≤ x2 then some ((-9 : Int32), S) else if oc S x0 12 = true then (S.2.2.2.1 x0 8).bind fun a1 => if inb (1 : Int32) (al S a1) = true then if oc S x0 12 = true then (m174 x0 x2 (S.2.1 a1 (1 : Int32).toNatClampNeg) S).bind fun q2 => if q2.1 = x1 then if oc q2.2 x0 12 = true then (m184 x0 x2 q2.2).bind fun q3 => some (q3.1, q3.2) else none else k2 x0 x1 (x2 + (1 : Int32)) q2.2 else none else none else none else none
set_option maxRecDepth 100000 in
theorem ob222_2 (d : Nat) (k2 : Nat → Int32 → Int32 → Sx → Option (Int32 × Sx)) (hk2 : ∀ (x0 : Nat) (x1 : Int32) (x2 : Int32) (S : Sx), OkF wI (fun f => rk px kx f (d + 3) 222 2 [some (.ref x0), some (.int x1), some (.int x2)] [] S) (k2 x0 x1 x2 S)) (x0 : Nat) (x1 : Int32) (x2 : Int32) (S : Sx) : OkF wI (fun f => rk px kx f (d + 3) 222 2 [some (.ref x0), some (.int x1), some (.int x2)] [] S) (b222_2 k2 x0 x1 x2 S) := by
  unfold b222_2
  refine OkF.eq 3 (Y := fun f => if oc S x0 12 = true then rk px kx f (d + 3) 222 7 [some (.ref x0), some (.int x1), some (.int x2)] [.int (S.2.1 x0 4), .int x2] S else none) (fun f => rfl) ?_
  refine OkF.grd (fun _ => ?_)
  refine OkF.eq 1 (Y := fun f => if (S.2.1 x0 4) ≤ x2 then rk px kx f (d + 3) 222 37 [some (.ref x0), some (.int x1), some (.int x2)] [] S else rk px kx f (d + 3) 222 10 [some (.ref x0), some (.int x1), some (.int x2)] [] S) (fun f => rfl) ?_
  refine OkF.ite (fun _ => ?_) (fun _ => ?_)
  · exact OkF.ret 2 (fun f => rfl)
  · refine OkF.eq 4 (Y := fun f => if oc S x0 12 = true then rk px kx f (d + 3) 222 16 [some (.ref x0), some (.int x1), some (.int x2)] (va_rf (S.2.2.2.1 x0 8) :: [.int x2, .ref x0]) S else none) (fun f => rfl) ?_
    refine OkF.grd (fun _ => ?_)
    refine OkF.rf (fun a1 => ?_)
    refine OkF.eq 2 (Y := fun f => if inb (1 : Int32) (al S a1) = true then rk px kx f (d + 3) 222 18 [some (.ref x0), some (.int x1), some (.int x2)] [.int (S.2.1 a1 (1 : Int32).toNatClampNeg), .int x2, .ref x0] S else none) (fun f => rfl) ?_
    refine OkF.grd (fun _ => ?_)
    refine OkF.eq 1 (Y := fun f => if oc S x0 12 = true then (rk px kx f (d + 2) 174 0 [some (.ref x0), some (.int x2), some (.int (S.2.1 a1 (1 : Int32).toNatClampNeg))] [] S).bind (fun q => rk px kx f (d + 3) 222 21 [some (.ref x0), some (.int x1), some (.int x2)] (q.1.toList ++ []) q.2) else none) (fun f => rfl) ?_
    refine OkF.grd (fun _ => ?_)
    refine OkF.bind (w1 := wI) (om174 (d + 0) x0 x2 (S.2.1 a1 (1 : Int32).toNatClampNeg) S) (fun q2 => ?_)
    refine OkF.eq 2 (Y := fun f => if q2.1 = x1 then rk px kx f (d + 3) 222 25 [some (.ref x0), some (.int x1), some (.int x2)] [] q2.2 else rk px kx f (d + 3) 222 31 [some (.ref x0), some (.int x1), some (.int x2)] [] q2.2) (fun f => rfl) ?_
    refine OkF.ite (fun _ => ?_) (fun _ => ?_)
    · refine OkF.eq 3 (Y := fun f => if oc q2.2 x0 12 = true then (rk px kx f (d + 2) 184 0 [some (.ref x0), some (.int x2)] [] q2.2).bind (fun q => rk px kx f (d + 3) 222 30 [some (.ref x0), some (.int x1), some (.int x2)] (q.1.toList ++ []) q.2) else none) (fun f => rfl) ?_
      refine OkF.grd (fun _ => ?_)
      refine OkF.bind (w1 := wI) (om184 (d + 0) x0 x2 q2.2) (fun q3 => ?_)
      exact OkF.ret 1 (fun f => rfl)
    · refine OkF.eq 2 (Y := fun f => rk px kx f (d + 3) 222 2 [some (.ref x0), some (.int x1), some (.int (x2 + (1 : Int32)))] [] q2.2) (fun f => rfl) ?_
      exact OkF.kl (ls1 := [some (.ref x0), some (.int x1), some (.int (x2 + (1 : Int32)))]) (fun f => rfl) (hk2 x0 x1 (x2 + (1 : Int32)) q2.2)
def l222_2 : Nat → Nat → Int32 → Int32 → Sx → Option (Int32 × Sx)
  | 0 => fun _ _ _ _ => none
  | n + 1 => fun x0 x1 x2 S => b222_2 (l222_2 n) x0 x1 x2 S
set_option maxRecDepth 100000 in
theorem ol222_2 (d : Nat) : ∀ (n : Nat) (x0 : Nat) (x1 : Int32) (x2 : Int32) (S : Sx), OkF wI (fun f => rk px kx f (d + 3) 222 2 [some (.ref x0), some (.int x1), some (.int x2)] [] S) (l222_2 n x0 x1 x2 S) := by
  intro n
  induction n with
  | zero => intro x0 x1 x2 S; exact OkF.no
  | succ n ih => intro x0 x1 x2 S; exact ob222_2 d (l222_2 n) ih x0 x1 x2 S
def m222 (x0 : Nat) (x1 : Int32) (S : Sx) : Option (Int32 × Sx) :=
  l222_2 1000 x0 x1 (0 : Int32) S
set_option maxRecDepth 100000 in
theorem om222 (d : Nat) (x0 : Nat) (x1 : Int32) (S : Sx) : OkF wI (fun f => rk px kx f (d + 3) 222 0 [some (.ref x0), some (.int x1), none] [] S) (m222 x0 x1 S) := by
  unfold m222
  refine OkF.eq 2 (Y := fun f => rk px kx f (d + 3) 222 2 [some (.ref x0), some (.int x1), some (.int (0 : Int32))] [] S) (fun f => rfl) ?_
  exact OkF.kl (ls1 := [some (.ref x0), some (.int x1), some (.int (0 : Int32))]) (fun f => rfl) (ol222_2 d 1000 x0 x1 (0 : Int32) S)
-- DoorSoldModel.round(I)I
def b221_66 (k66 : Nat → Int32 → Int32 → Int32 → Sx → Option (Int32 × Sx)) (x0 : Nat) (x4 : Int32) (x5 : Int32) (x6 : Int32) (S : Sx) : Option (Int32 × Sx) :=
  if x6 = x4 then if oc S x0 12 = true then (m211 x0 x5 x4 S).bind fun q1 => some (q1.1, q1.2) else none else if oc S x0 12 = true then (m222 x0 x6 S).bind fun q2 => k66 x0 x4 (x5 + (1 : Int32)) q2.1 q2.2 else none
set_option maxRecDepth 100000 in
theorem ob221_66 (d : Nat) (k66 : Nat → Int32 → Int32 → Int32 → Sx → Option (Int32 × Sx)) (hk66 : ∀ (x0 : Nat) (x4 : Int32) (x5 : Int32) (x6 : Int32) (S : Sx), OkF wI (fun f => rk px kx f (d + 4) 221 66 [some (.ref x0), none, none, none, some (.int x4), some (.int x5), some (.int x6)] [] S) (k66 x0 x4 x5 x6 S)) (x0 : Nat) (x4 : Int32) (x5 : Int32) (x6 : Int32) (S : Sx) : OkF wI (fun f => rk px kx f (d + 4) 221 66 [some (.ref x0), none, none, none, some (.int x4), some (.int x5), some (.int x6)] [] S) (b221_66 k66 x0 x4 x5 x6 S) := by
  unfold b221_66
  refine OkF.eq 3 (Y := fun f => if x6 = x4 then rk px kx f (d + 4) 221 87 [some (.ref x0), none, none, none, some (.int x4), some (.int x5), some (.int x6)] [] S else rk px kx f (d + 4) 221 73 [some (.ref x0), none, none, none, some (.int x4), some (.int x5), some (.int x6)] [] S) (fun f => rfl) ?_
  refine OkF.ite (fun _ => ?_) (fun _ => ?_)
  · refine OkF.eq 4 (Y := fun f => if oc S x0 12 = true then (rk px kx f (d + 3) 211 0 [some (.ref x0), some (.int x5), some (.int x4)] [] S).bind (fun q => rk px kx f (d + 4) 221 95 [some (.ref x0), none, none, none, some (.int x4), some (.int x5), some (.int x6)] (q.1.toList ++ []) q.2) else none) (fun f => rfl) ?_
    refine OkF.grd (fun _ => ?_)
    refine OkF.bind (w1 := wI) (om211 (d + 3) x0 x5 x4 S) (fun q1 => ?_)
    exact OkF.ret 1 (fun f => rfl)
  · refine OkF.eq 4 (Y := fun f => if oc S x0 12 = true then (rk px kx f (d + 3) 222 0 [some (.ref x0), some (.int x6), none] [] S).bind (fun q => rk px kx f (d + 4) 221 82 [some (.ref x0), none, none, none, some (.int x4), some (.int (x5 + (1 : Int32))), some (.int x6)] (q.1.toList ++ []) q.2) else none) (fun f => rfl) ?_
    refine OkF.grd (fun _ => ?_)
    refine OkF.bind (w1 := wI) (om222 (d + 0) x0 x6 S) (fun q2 => ?_)
    refine OkF.eq 2 (Y := fun f => rk px kx f (d + 4) 221 66 [some (.ref x0), none, none, none, some (.int x4), some (.int (x5 + (1 : Int32))), some (.int q2.1)] [] q2.2) (fun f => rfl) ?_
    exact OkF.kl (ls1 := [some (.ref x0), none, none, none, some (.int x4), some (.int (x5 + (1 : Int32))), some (.int q2.1)]) (fun f => rfl) (hk66 x0 x4 (x5 + (1 : Int32)) q2.1 q2.2)
def l221_66 : Nat → Nat → Int32 → Int32 → Int32 → Sx → Option (Int32 × Sx)
  | 0 => fun _ _ _ _ _ => none
  | n + 1 => fun x0 x4 x5 x6 S => b221_66 (l221_66 n) x0 x4 x5 x6 S
set_option maxRecDepth 100000 in
theorem ol221_66 (d : Nat) : ∀ (n : Nat) (x0 : Nat) (x4 : Int32) (x5 : Int32) (x6 : Int32) (S : Sx), OkF wI (fun f => rk px kx f (d + 4) 221 66 [some (.ref x0), none, none, none, some (.int x4), some (.int x5), some (.int x6)] [] S) (l221_66 n x0 x4 x5 x6 S) := by
  intro n
  induction n with
  | zero => intro x0 x4 x5 x6 S; exact OkF.no
  | succ n ih => intro x0 x4 x5 x6 S; exact ob221_66 d (l221_66 n) ih x0 x4 x5 x6 S
def b221_43 (x0 : Nat) (x3 : Int32) (S : Sx) : Option (Int32 × Sx) :=
  if x3 = (-9 : Int32) then some ((-9 : Int32), S) else if oc S x0 12 = true then (m222 x0 x3 S).bind fun q3 => l221_66 1000 x0 x3 (1 : Int32) q3.1 q3.2 else none
set_option maxRecDepth 100000 in
theorem ob221_43 (d : Nat) (x0 : Nat) (x3 : Int32) (S : Sx) : OkF wI (fun f => rk px kx f (d + 4) 221 43 [some (.ref x0), none, none, some (.int x3), none, none, none] [] S) (b221_43 x0 x3 S) := by
  unfold b221_43
  refine OkF.eq 3 (Y := fun f => if x3 = (-9 : Int32) then rk px kx f (d + 4) 221 49 [some (.ref x0), none, none, some (.int x3), none, none, none] [] S else rk px kx f (d + 4) 221 52 [some (.ref x0), none, none, some (.int x3), none, none, none] [] S) (fun f => rfl) ?_
  refine OkF.ite (fun _ => ?_) (fun _ => ?_)
  · exact OkF.ret 2 (fun f => rfl)
  · refine OkF.eq 7 (Y := fun f => if oc S x0 12 = true then (rk px kx f (d + 3) 222 0 [some (.ref x0), some (.int x3), none] [] S).bind (fun q => rk px kx f (d + 4) 221 64 [some (.ref x0), none, none, some (.int x3), some (.int x3), some (.int (1 : Int32)), none] (q.1.toList ++ []) q.2) else none) (fun f => rfl) ?_
    refine OkF.grd (fun _ => ?_)
    refine OkF.bind (w1 := wI) (om222 (d + 0) x0 x3 S) (fun q3 => ?_)
    refine OkF.eq 1 (Y := fun f => rk px kx f (d + 4) 221 66 [some (.ref x0), none, none, some (.int x3), some (.int x3), some (.int (1 : Int32)), some (.int q3.1)] [] q3.2) (fun f => rfl) ?_
    exact OkF.kl (ls1 := [some (.ref x0), none, none, none, some (.int x3), some (.int (1 : Int32)), some (.int q3.1)]) (fun f => rfl) (ol221_66 d 1000 x0 x3 (1 : Int32) q3.1 q3.2)
def b221_14 (k14 : Nat → Int32 → Int32 → Sx → Option (Int32 × Sx)) (x0 : Nat) (x2 : Int32) (x3 : Int32) (S : Sx) : Option (Int32 × Sx) :=
  if x3 = (-9 : Int32) then b221_43 x0 x3 S else (m180 x2 x3 S).bind fun q4 => if q4.1 = 0 then if oc q4.2 x0 12 = true then (m222 x0 x3 q4.2).bind fun q5 => k14 x0 (x2 ||| ((1 : Int32) <<< (x3 &&& 31))) q5.1 q5.2 else none else b221_43 x0 x3 q4.2
set_option maxRecDepth 100000 in
theorem ob221_14 (d : Nat) (k14 : Nat → Int32 → Int32 → Sx → Option (Int32 × Sx)) (hk14 : ∀ (x0 : Nat) (x2 : Int32) (x3 : Int32) (S : Sx), OkF wI (fun f => rk px kx f (d + 4) 221 14 [some (.ref x0), none, some (.int x2), some (.int x3), none, none, none] [] S) (k14 x0 x2 x3 S)) (x0 : Nat) (x2 : Int32) (x3 : Int32) (S : Sx) : OkF wI (fun f => rk px kx f (d + 4) 221 14 [some (.ref x0), none, some (.int x2), some (.int x3), none, none, none] [] S) (b221_14 k14 x0 x2 x3 S) := by
  unfold b221_14
  refine OkF.eq 3 (Y := fun f => if x3 = (-9 : Int32) then rk px kx f (d + 4) 221 43 [some (.ref x0), none, some (.int x2), some (.int x3), none, none, none] [] S else rk px kx f (d + 4) 221 20 [some (.ref x0), none, some (.int x2), some (.int x3), none, none, none] [] S) (fun f => rfl) ?_
  refine OkF.ite (fun _ => ?_) (fun _ => ?_)
  · exact OkF.kl (ls1 := [some (.ref x0), none, none, some (.int x3), none, none, none]) (fun f => rfl) (ob221_43 d x0 x3 S)
  · refine OkF.eq 3 (Y := fun f => (rk px kx f (d + 3) 180 0 [some (.int x2), some (.int x3)] [] S).bind (fun q => rk px kx f (d + 4) 221 25 [some (.ref x0), none, some (.int x2), some (.int x3), none, none, none] (q.1.toList ++ []) q.2)) (fun f => rfl) ?_
    refine OkF.bind (w1 := wI) (om180 (d + 3) x2 x3 S) (fun q4 => ?_)
    refine OkF.eq 1 (Y := fun f => if q4.1 = 0 then rk px kx f (d + 4) 221 28 [some (.ref x0), none, some (.int x2), some (.int x3), none, none, none] [] q4.2 else rk px kx f (d + 4) 221 43 [some (.ref x0), none, some (.int x2), some (.int x3), none, none, none] [] q4.2) (fun f => rfl) ?_
    refine OkF.ite (fun _ => ?_) (fun _ => ?_)
    · refine OkF.eq 9 (Y := fun f => if oc q4.2 x0 12 = true then (rk px kx f (d + 3) 222 0 [some (.ref x0), some (.int x3), none] [] q4.2).bind (fun q => rk px kx f (d + 4) 221 39 [some (.ref x0), none, some (.int (x2 ||| ((1 : Int32) <<< (x3 &&& 31)))), some (.int x3), none, none, none] (q.1.toList ++ []) q.2) else none) (fun f => rfl) ?_
      refine OkF.grd (fun _ => ?_)
      refine OkF.bind (w1 := wI) (om222 (d + 0) x0 x3 q4.2) (fun q5 => ?_)
      refine OkF.eq 2 (Y := fun f => rk px kx f (d + 4) 221 14 [some (.ref x0), none, some (.int (x2 ||| ((1 : Int32) <<< (x3 &&& 31)))), some (.int q5.1), none, none, none] [] q5.2) (fun f => rfl) ?_
      exact OkF.kl (ls1 := [some (.ref x0), none, some (.int (x2 ||| ((1 : Int32) <<< (x3 &&& 31)))), some (.int q5.1), none, none, none]) (fun f => rfl) (hk14 x0 (x2 ||| ((1 : Int32) <<< (x3 &&& 31))) q5.1 q5.2)
    · exact OkF.kl (ls1 := [some (.ref x0), none, none, some (.int x3), none, none, none]) (fun f => rfl) (ob221_43 d x0 x3 q4.2)
def l221_14 : Nat → Nat → Int32 → Int32 → Sx → Option (Int32 × Sx)
  | 0 => fun _ _ _ _ => none
  | n + 1 => fun x0 x2 x3 S => b221_14 (l221_14 n) x0 x2 x3 S
set_option maxRecDepth 100000 in
theorem ol221_14 (d : Nat) : ∀ (n : Nat) (x0 : Nat) (x2 : Int32) (x3 : Int32) (S : Sx), OkF wI (fun f => rk px kx f (d + 4) 221 14 [some (.ref x0), none, some (.int x2), some (.int x3), none, none, none] [] S) (l221_14 n x0 x2 x3 S) := by
  intro n
  induction n with
  | zero => intro x0 x2 x3 S; exact OkF.no
  | succ n ih => intro x0 x2 x3 S; exact ob221_14 d (l221_14 n) ih x0 x2 x3 S
def m221 (x0 : Nat) (x1 : Int32) (S : Sx) : Option (Int32 × Sx) :=
  if oc S x0 12 = true then (m208 x0 x1 S).bind fun q6 => if q6.1 = 0 then some ((-1 : Int32), q6.2) else l221_14 1000 x0 (0 : Int32) x1 q6.2 else none
set_option maxRecDepth 100000 in
theorem om221 (d : Nat) (x0 : Nat) (x1 : Int32) (S : Sx) : OkF wI (fun f => rk px kx f (d + 4) 221 0 [some (.ref x0), some (.int x1), none, none, none, none, none] [] S) (m221 x0 x1 S) := by
  unfold m221
  refine OkF.eq 3 (Y := fun f => if oc S x0 12 = true then (rk px kx f (d + 3) 208 0 [some (.ref x0), some (.int x1)] [] S).bind (fun q => rk px kx f (d + 4) 221 5 [some (.ref x0), some (.int x1), none, none, none, none, none] (q.1.toList ++ []) q.2) else none) (fun f => rfl) ?_
  refine OkF.grd (fun _ => ?_)
  refine OkF.bind (w1 := wI) (om208 (d + 2) x0 x1 S) (fun q6 => ?_)
  refine OkF.eq 1 (Y := fun f => if q6.1 = 0 then rk px kx f (d + 4) 221 8 [some (.ref x0), some (.int x1), none, none, none, none, none] [] q6.2 else rk px kx f (d + 4) 221 10 [some (.ref x0), some (.int x1), none, none, none, none, none] [] q6.2) (fun f => rfl) ?_
  refine OkF.ite (fun _ => ?_) (fun _ => ?_)
  · exact OkF.ret 2 (fun f => rfl)
  · refine OkF.eq 4 (Y := fun f => rk px kx f (d + 4) 221 14 [some (.ref x0), some (.int x1), some (.int (0 : Int32)), some (.int x1), none, none, none] [] q6.2) (fun f => rfl) ?_
    exact OkF.kl (ls1 := [some (.ref x0), none, some (.int (0 : Int32)), some (.int x1), none, none, none]) (fun f => rfl) (ol221_14 d 1000 x0 (0 : Int32) x1 q6.2)
-- DoorSoldModel.faces()I
def b223_121 (k17 : Nat → Int32 → Int32 → Int32 → Sx → Option (Int32 × Sx)) (k30 : Nat → Int32 → Int32 → Int32 → Int32 → Sx → Option (Int32 × Sx)) (x0 : Nat) (x1 : Int32) (x3 : Int32) (x4 : Int32) (s0 : Int32) (S : Sx) : Option (Int32 × Sx) :=
  k30 x0 x1 s0 x3 (x4 + (1 : Int32)) S
set_option maxRecDepth 100000 in
theorem ob223_121 (d : Nat) (k17 : Nat → Int32 → Int32 → Int32 → Sx → Option (Int32 × Sx)) (hk17 : ∀ (x0 : Nat) (x1 : Int32) (x2 : Int32) (x3 : Int32) (S : Sx), OkF wI (fun f => rk px kx f (d + 3) 223 17 [some (.ref x0), some (.int x1), some (.int x2), some (.int x3), none, none] [] S) (k17 x0 x1 x2 x3 S)) (k30 : Nat → Int32 → Int32 → Int32 → Int32 → Sx → Option (Int32 × Sx)) (hk30 : ∀ (x0 : Nat) (x1 : Int32) (x2 : Int32) (x3 : Int32) (x4 : Int32) (S : Sx), OkF wI (fun f => rk px kx f (d + 3) 223 30 [some (.ref x0), some (.int x1), some (.int x2), some (.int x3), some (.int x4), none] [] S) (k30 x0 x1 x2 x3 x4 S)) (x0 : Nat) (x1 : Int32) (x3 : Int32) (x4 : Int32) (s0 : Int32) (S : Sx) : OkF wI (fun f => rk px kx f (d + 3) 223 121 [some (.ref x0), some (.int x1), none, some (.int x3), some (.int x4), none] [.int s0] S) (b223_121 k17 k30 x0 x1 x3 x4 s0 S) := by
  unfold b223_121
  refine OkF.eq 3 (Y := fun f => rk px kx f (d + 3) 223 30 [some (.ref x0), some (.int x1), some (.int s0), some (.int x3), some (.int (x4 + (1 : Int32))), none] [] S) (fun f => rfl) ?_
  exact OkF.kl (ls1 := [some (.ref x0), some (.int x1), some (.int s0), some (.int x3), some (.int (x4 + (1 : Int32))), none]) (fun f => rfl) (hk30 x0 x1 s0 x3 (x4 + (1 : Int32)) S)
def b223_120 (k17 : Nat → Int32 → Int32 → Int32 → Sx → Option (Int32 × Sx)) (k30 : Nat → Int32 → Int32 → Int32 → Int32 → Sx → Option (Int32 × Sx)) (x0 : Nat) (x1 : Int32) (x2 : Int32) (x3 : Int32) (x4 : Int32) (S : Sx) : Option (Int32 × Sx) :=
  b223_121 k17 k30 x0 x1 x3 x4 x2 S
set_option maxRecDepth 100000 in
theorem ob223_120 (d : Nat) (k17 : Nat → Int32 → Int32 → Int32 → Sx → Option (Int32 × Sx)) (hk17 : ∀ (x0 : Nat) (x1 : Int32) (x2 : Int32) (x3 : Int32) (S : Sx), OkF wI (fun f => rk px kx f (d + 3) 223 17 [some (.ref x0), some (.int x1), some (.int x2), some (.int x3), none, none] [] S) (k17 x0 x1 x2 x3 S)) (k30 : Nat → Int32 → Int32 → Int32 → Int32 → Sx → Option (Int32 × Sx)) (hk30 : ∀ (x0 : Nat) (x1 : Int32) (x2 : Int32) (x3 : Int32) (x4 : Int32) (S : Sx), OkF wI (fun f => rk px kx f (d + 3) 223 30 [some (.ref x0), some (.int x1), some (.int x2), some (.int x3), some (.int x4), none] [] S) (k30 x0 x1 x2 x3 x4 S)) (x0 : Nat) (x1 : Int32) (x2 : Int32) (x3 : Int32) (x4 : Int32) (S : Sx) : OkF wI (fun f => rk px kx f (d + 3) 223 120 [some (.ref x0), some (.int x1), some (.int x2), some (.int x3), some (.int x4), none] [] S) (b223_120 k17 k30 x0 x1 x2 x3 x4 S) := by
  unfold b223_120
  refine OkF.eq 1 (Y := fun f => rk px kx f (d + 3) 223 121 [some (.ref x0), some (.int x1), some (.int x2), some (.int x3), some (.int x4), none] [.int x2] S) (fun f => rfl) ?_
  exact OkF.kl (ls1 := [some (.ref x0), some (.int x1), none, some (.int x3), some (.int x4), none]) (fun f => rfl) (ob223_121 d k17 hk17 k30 hk30 x0 x1 x3 x4 x2 S)
def b223_97 (k17 : Nat → Int32 → Int32 → Int32 → Sx → Option (Int32 × Sx)) (k30 : Nat → Int32 → Int32 → Int32 → Int32 → Sx → Option (Int32 × Sx)) (x0 : Nat) (x2 : Int32) (x3 : Int32) (x4 : Int32) (x5 : Int32) (s0 : Int32) (s1 : Int32) (S : Sx) : Option (Int32 × Sx) :=
  if x5 = 0 then b223_120 k17 k30 x0 (s0 + s1) x2 x3 x4 S else if x2 = (-9 : Int32) then b223_121 k17 k30 x0 (s0 + s1) x3 x4 (((10 : Int32) * x3) + x4) S else b223_120 k17 k30 x0 (s0 + s1) x2 x3 x4 S
set_option maxRecDepth 100000 in
theorem ob223_97 (d : Nat) (k17 : Nat → Int32 → Int32 → Int32 → Sx → Option (Int32 × Sx)) (hk17 : ∀ (x0 : Nat) (x1 : Int32) (x2 : Int32) (x3 : Int32) (S : Sx), OkF wI (fun f => rk px kx f (d + 3) 223 17 [some (.ref x0), some (.int x1), some (.int x2), some (.int x3), none, none] [] S) (k17 x0 x1 x2 x3 S)) (k30 : Nat → Int32 → Int32 → Int32 → Int32 → Sx → Option (Int32 × Sx)) (hk30 : ∀ (x0 : Nat) (x1 : Int32) (x2 : Int32) (x3 : Int32) (x4 : Int32) (S : Sx), OkF wI (fun f => rk px kx f (d + 3) 223 30 [some (.ref x0), some (.int x1), some (.int x2), some (.int x3), some (.int x4), none] [] S) (k30 x0 x1 x2 x3 x4 S)) (x0 : Nat) (x2 : Int32) (x3 : Int32) (x4 : Int32) (x5 : Int32) (s0 : Int32) (s1 : Int32) (S : Sx) : OkF wI (fun f => rk px kx f (d + 3) 223 97 [some (.ref x0), none, some (.int x2), some (.int x3), some (.int x4), some (.int x5)] [.int s1, .int s0] S) (b223_97 k17 k30 x0 x2 x3 x4 x5 s0 s1 S) := by
  unfold b223_97
  refine OkF.eq 4 (Y := fun f => if x5 = 0 then rk px kx f (d + 3) 223 120 [some (.ref x0), some (.int (s0 + s1)), some (.int x2), some (.int x3), some (.int x4), some (.int x5)] [] S else rk px kx f (d + 3) 223 104 [some (.ref x0), some (.int (s0 + s1)), some (.int x2), some (.int x3), some (.int x4), some (.int x5)] [] S) (fun f => rfl) ?_
  refine OkF.ite (fun _ => ?_) (fun _ => ?_)
  · exact OkF.kl (ls1 := [some (.ref x0), some (.int (s0 + s1)), some (.int x2), some (.int x3), some (.int x4), none]) (fun f => rfl) (ob223_120 d k17 hk17 k30 hk30 x0 (s0 + s1) x2 x3 x4 S)
  · refine OkF.eq 3 (Y := fun f => if x2 = (-9 : Int32) then rk px kx f (d + 3) 223 110 [some (.ref x0), some (.int (s0 + s1)), some (.int x2), some (.int x3), some (.int x4), some (.int x5)] [] S else rk px kx f (d + 3) 223 120 [some (.ref x0), some (.int (s0 + s1)), some (.int x2), some (.int x3), some (.int x4), some (.int x5)] [] S) (fun f => rfl) ?_
    refine OkF.ite (fun _ => ?_) (fun _ => ?_)
    · refine OkF.eq 6 (Y := fun f => rk px kx f (d + 3) 223 121 [some (.ref x0), some (.int (s0 + s1)), some (.int x2), some (.int x3), some (.int x4), some (.int x5)] [.int (((10 : Int32) * x3) + x4)] S) (fun f => rfl) ?_
      exact OkF.kl (ls1 := [some (.ref x0), some (.int (s0 + s1)), none, some (.int x3), some (.int x4), none]) (fun f => rfl) (ob223_121 d k17 hk17 k30 hk30 x0 (s0 + s1) x3 x4 (((10 : Int32) * x3) + x4) S)
    · exact OkF.kl (ls1 := [some (.ref x0), some (.int (s0 + s1)), some (.int x2), some (.int x3), some (.int x4), none]) (fun f => rfl) (ob223_120 d k17 hk17 k30 hk30 x0 (s0 + s1) x2 x3 x4 S)
def b223_84 (k17 : Nat → Int32 → Int32 → Int32 → Sx → Option (Int32 × Sx)) (k30 : Nat → Int32 → Int32 → Int32 → Int32 → Sx → Option (Int32 × Sx)) (x0 : Nat) (x1 : Int32) (x2 : Int32) (x3 : Int32) (x4 : Int32) (s0 : Int32) (S : Sx) : Option (Int32 × Sx) :=
  if s0 = 0 then b223_97 k17 k30 x0 x2 x3 x4 s0 x1 (0 : Int32) S else b223_97 k17 k30 x0 x2 x3 x4 s0 x1 (1 : Int32) S
set_option maxRecDepth 100000 in
theorem ob223_84 (d : Nat) (k17 : Nat → Int32 → Int32 → Int32 → Sx → Option (Int32 × Sx)) (hk17 : ∀ (x0 : Nat) (x1 : Int32) (x2 : Int32) (x3 : Int32) (S : Sx), OkF wI (fun f => rk px kx f (d + 3) 223 17 [some (.ref x0), some (.int x1), some (.int x2), some (.int x3), none, none] [] S) (k17 x0 x1 x2 x3 S)) (k30 : Nat → Int32 → Int32 → Int32 → Int32 → Sx → Option (Int32 × Sx)) (hk30 : ∀ (x0 : Nat) (x1 : Int32) (x2 : Int32) (x3 : Int32) (x4 : Int32) (S : Sx), OkF wI (fun f => rk px kx f (d + 3) 223 30 [some (.ref x0), some (.int x1), some (.int x2), some (.int x3), some (.int x4), none] [] S) (k30 x0 x1 x2 x3 x4 S)) (x0 : Nat) (x1 : Int32) (x2 : Int32) (x3 : Int32) (x4 : Int32) (s0 : Int32) (S : Sx) : OkF wI (fun f => rk px kx f (d + 3) 223 84 [some (.ref x0), some (.int x1), some (.int x2), some (.int x3), some (.int x4), none] [.int s0] S) (b223_84 k17 k30 x0 x1 x2 x3 x4 s0 S) := by
  unfold b223_84
  refine OkF.eq 4 (Y := fun f => if s0 = 0 then rk px kx f (d + 3) 223 96 [some (.ref x0), some (.int x1), some (.int x2), some (.int x3), some (.int x4), some (.int s0)] [.int x1] S else rk px kx f (d + 3) 223 92 [some (.ref x0), some (.int x1), some (.int x2), some (.int x3), some (.int x4), some (.int s0)] [.int x1] S) (fun f => rfl) ?_
  refine OkF.ite (fun _ => ?_) (fun _ => ?_)
  · refine OkF.eq 1 (Y := fun f => rk px kx f (d + 3) 223 97 [some (.ref x0), some (.int x1), some (.int x2), some (.int x3), some (.int x4), some (.int s0)] [.int (0 : Int32), .int x1] S) (fun f => rfl) ?_
    exact OkF.kl (ls1 := [some (.ref x0), none, some (.int x2), some (.int x3), some (.int x4), some (.int s0)]) (fun f => rfl) (ob223_97 d k17 hk17 k30 hk30 x0 x2 x3 x4 s0 x1 (0 : Int32) S)
  · refine OkF.eq 2 (Y := fun f => rk px kx f (d + 3) 223 97 [some (.ref x0), some (.int x1), some (.int x2), some (.int x3), some (.int x4), some (.int s0)] [.int (1 : Int32), .int x1] S) (fun f => rfl) ?_
    exact OkF.kl (ls1 := [some (.ref x0), none, some (.int x2), some (.int x3), some (.int x4), some (.int s0)]) (fun f => rfl) (ob223_97 d k17 hk17 k30 hk30 x0 x2 x3 x4 s0 x1 (1 : Int32) S)
def b223_83 (k17 : Nat → Int32 → Int32 → Int32 → Sx → Option (Int32 × Sx)) (k30 : Nat → Int32 → Int32 → Int32 → Int32 → Sx → Option (Int32 × Sx)) (x0 : Nat) (x1 : Int32) (x2 : Int32) (x3 : Int32) (x4 : Int32) (S : Sx) : Option (Int32 × Sx) :=
  b223_84 k17 k30 x0 x1 x2 x3 x4 (0 : Int32) S
set_option maxRecDepth 100000 in
theorem ob223_83 (d : Nat) (k17 : Nat → Int32 → Int32 → Int32 → Sx → Option (Int32 × Sx)) (hk17 : ∀ (x0 : Nat) (x1 : Int32) (x2 : Int32) (x3 : Int32) (S : Sx), OkF wI (fun f => rk px kx f (d + 3) 223 17 [some (.ref x0), some (.int x1), some (.int x2), some (.int x3), none, none] [] S) (k17 x0 x1 x2 x3 S)) (k30 : Nat → Int32 → Int32 → Int32 → Int32 → Sx → Option (Int32 × Sx)) (hk30 : ∀ (x0 : Nat) (x1 : Int32) (x2 : Int32) (x3 : Int32) (x4 : Int32) (S : Sx), OkF wI (fun f => rk px kx f (d + 3) 223 30 [some (.ref x0), some (.int x1), some (.int x2), some (.int x3), some (.int x4), none] [] S) (k30 x0 x1 x2 x3 x4 S)) (x0 : Nat) (x1 : Int32) (x2 : Int32) (x3 : Int32) (x4 : Int32) (S : Sx) : OkF wI (fun f => rk px kx f (d + 3) 223 83 [some (.ref x0), some (.int x1), some (.int x2), some (.int x3), some (.int x4), none] [] S) (b223_83 k17 k30 x0 x1 x2 x3 x4 S) := by
  unfold b223_83
  refine OkF.eq 1 (Y := fun f => rk px kx f (d + 3) 223 84 [some (.ref x0), some (.int x1), some (.int x2), some (.int x3), some (.int x4), none] [.int (0 : Int32)] S) (fun f => rfl) ?_
  exact OkF.kl (ls1 := [some (.ref x0), some (.int x1), some (.int x2), some (.int x3), some (.int x4), none]) (fun f => rfl) (ob223_84 d k17 hk17 k30 hk30 x0 x1 x2 x3 x4 (0 : Int32) S)
def b223_30 (k17 : Nat → Int32 → Int32 → Int32 → Sx → Option (Int32 × Sx)) (k30 : Nat → Int32 → Int32 → Int32 → Int32 → Sx → Option (Int32 × Sx)) (x0 : Nat) (x1 : Int32) (x2 : Int32) (x3 : Int32) (x4 : Int32) (S : Sx) : Option (Int32 × Sx) :=
  if oc S x0 12 = true then if (S.2.1 x0 4) ≤ x4 then k17 x0 x1 x2 (x3 + (1 : Int32)) S else if oc S x0 12 = true then (m184 x0 x3 S).bind fun q1 => if oc q1.2 x0 12 = true then (q1.2.2.2.2.1 x0 8).bind fun a2 => if inb (1 : Int32) (al q1.2 a2) = true then if oc q1.2 x0 12 = true then (m174 x0 x4 (q1.2.2.1 a2 (1 : Int32).toNatClampNeg) q1.2).bind fun q3 => if q1.1 = q3.1 then if oc q3.2 x0 12 = true then (m184 x0 x4 q3.2).bind fun q4 => if oc q4.2 x0 12 = true then (q4.2.2.2.2.1 x0 8).bind fun a5 => if inb (1 : Int32) (al q4.2 a5) = true then if oc q4.2 x0 12 = true then (m174 x0 x3 (q4.2.2.1 a5 (1 : Int32).toNatClampNeg) q4.2).bind fun q6 => if q4.1 = q6.1 then b223_84 k17 k30 x0 x1 x2 x3 x4 (1 : Int32) q6.2 else b223_83 k17 k30 x0 x1 x2 x3 x4 q6.2 else none else none else none else none else b223_83 k17 k30 x0 x1 x2 x3 x4 q3.2 else none else none else none else none else none
set_option maxRecDepth 100000 in
theorem ob223_30 (d : Nat) (k17 : Nat → Int32 → Int32 → Int32 → Sx → Option (Int32 × Sx)) (hk17 : ∀ (x0 : Nat) (x1 : Int32) (x2 : Int32) (x3 : Int32) (S : Sx), OkF wI (fun f => rk px kx f (d + 3) 223 17 [some (.ref x0), some (.int x1), some (.int x2), some (.int x3), none, none] [] S) (k17 x0 x1 x2 x3 S)) (k30 : Nat → Int32 → Int32 → Int32 → Int32 → Sx → Option (Int32 × Sx)) (hk30 : ∀ (x0 : Nat) (x1 : Int32) (x2 : Int32) (x3 : Int32) (x4 : Int32) (S : Sx), OkF wI (fun f => rk px kx f (d + 3) 223 30 [some (.ref x0), some (.int x1), some (.int x2), some (.int x3), some (.int x4), none] [] S) (k30 x0 x1 x2 x3 x4 S)) (x0 : Nat) (x1 : Int32) (x2 : Int32) (x3 : Int32) (x4 : Int32) (S : Sx) : OkF wI (fun f => rk px kx f (d + 3) 223 30 [some (.ref x0), some (.int x1), some (.int x2), some (.int x3), some (.int x4), none] [] S) (b223_30 k17 k30 x0 x1 x2 x3 x4 S) := by
  unfold b223_30
  refine OkF.eq 3 (Y := fun f => if oc S x0 12 = true then rk px kx f (d + 3) 223 36 [some (.ref x0), some (.int x1), some (.int x2), some (.int x3), some (.int x4), none] [.int (S.2.1 x0 4), .int x4] S else none) (fun f => rfl) ?_
  refine OkF.grd (fun _ => ?_)
  refine OkF.eq 1 (Y := fun f => if (S.2.1 x0 4) ≤ x4 then rk px kx f (d + 3) 223 128 [some (.ref x0), some (.int x1), some (.int x2), some (.int x3), some (.int x4), none] [] S else rk px kx f (d + 3) 223 39 [some (.ref x0), some (.int x1), some (.int x2), some (.int x3), some (.int x4), none] [] S) (fun f => rfl) ?_
  refine OkF.ite (fun _ => ?_) (fun _ => ?_)
  · refine OkF.eq 2 (Y := fun f => rk px kx f (d + 3) 223 17 [some (.ref x0), some (.int x1), some (.int x2), some (.int (x3 + (1 : Int32))), some (.int x4), none] [] S) (fun f => rfl) ?_
    exact OkF.kl (ls1 := [some (.ref x0), some (.int x1), some (.int x2), some (.int (x3 + (1 : Int32))), none, none]) (fun f => rfl) (hk17 x0 x1 x2 (x3 + (1 : Int32)) S)
  · refine OkF.eq 3 (Y := fun f => if oc S x0 12 = true then (rk px kx f (d + 2) 184 0 [some (.ref x0), some (.int x3)] [] S).bind (fun q => rk px kx f (d + 3) 223 44 [some (.ref x0), some (.int x1), some (.int x2), some (.int x3), some (.int x4), none] (q.1.toList ++ []) q.2) else none) (fun f => rfl) ?_
    refine OkF.grd (fun _ => ?_)
    refine OkF.bind (w1 := wI) (om184 (d + 0) x0 x3 S) (fun q1 => ?_)
    refine OkF.eq 4 (Y := fun f => if oc q1.2 x0 12 = true then rk px kx f (d + 3) 223 51 [some (.ref x0), some (.int x1), some (.int x2), some (.int x3), some (.int x4), none] (va_rf (q1.2.2.2.2.1 x0 8) :: [.int x4, .ref x0, .int q1.1]) q1.2 else none) (fun f => rfl) ?_
    refine OkF.grd (fun _ => ?_)
    refine OkF.rf (fun a2 => ?_)
    refine OkF.eq 2 (Y := fun f => if inb (1 : Int32) (al q1.2 a2) = true then rk px kx f (d + 3) 223 53 [some (.ref x0), some (.int x1), some (.int x2), some (.int x3), some (.int x4), none] [.int (q1.2.2.1 a2 (1 : Int32).toNatClampNeg), .int x4, .ref x0, .int q1.1] q1.2 else none) (fun f => rfl) ?_
    refine OkF.grd (fun _ => ?_)
    refine OkF.eq 1 (Y := fun f => if oc q1.2 x0 12 = true then (rk px kx f (d + 2) 174 0 [some (.ref x0), some (.int x4), some (.int (q1.2.2.1 a2 (1 : Int32).toNatClampNeg))] [] q1.2).bind (fun q => rk px kx f (d + 3) 223 56 [some (.ref x0), some (.int x1), some (.int x2), some (.int x3), some (.int x4), none] (q.1.toList ++ [.int q1.1]) q.2) else none) (fun f => rfl) ?_
    refine OkF.grd (fun _ => ?_)
    refine OkF.bind (w1 := wI) (om174 (d + 0) x0 x4 (q1.2.2.1 a2 (1 : Int32).toNatClampNeg) q1.2) (fun q3 => ?_)
    refine OkF.eq 1 (Y := fun f => if q1.1 = q3.1 then rk px kx f (d + 3) 223 59 [some (.ref x0), some (.int x1), some (.int x2), some (.int x3), some (.int x4), none] [] q3.2 else rk px kx f (d + 3) 223 83 [some (.ref x0), some (.int x1), some (.int x2), some (.int x3), some (.int x4), none] [] q3.2) (fun f => rfl) ?_
    refine OkF.ite (fun _ => ?_) (fun _ => ?_)
    · refine OkF.eq 3 (Y := fun f => if oc q3.2 x0 12 = true then (rk px kx f (d + 2) 184 0 [some (.ref x0), some (.int x4)] [] q3.2).bind (fun q => rk px kx f (d + 3) 223 65 [some (.ref x0), some (.int x1), some (.int x2), some (.int x3), some (.int x4), none] (q.1.toList ++ []) q.2) else none) (fun f => rfl) ?_
      refine OkF.grd (fun _ => ?_)
      refine OkF.bind (w1 := wI) (om184 (d + 0) x0 x4 q3.2) (fun q4 => ?_)
      refine OkF.eq 4 (Y := fun f => if oc q4.2 x0 12 = true then rk px kx f (d + 3) 223 71 [some (.ref x0), some (.int x1), some (.int x2), some (.int x3), some (.int x4), none] (va_rf (q4.2.2.2.2.1 x0 8) :: [.int x3, .ref x0, .int q4.1]) q4.2 else none) (fun f => rfl) ?_
      refine OkF.grd (fun _ => ?_)
      refine OkF.rf (fun a5 => ?_)
      refine OkF.eq 2 (Y := fun f => if inb (1 : Int32) (al q4.2 a5) = true then rk px kx f (d + 3) 223 73 [some (.ref x0), some (.int x1), some (.int x2), some (.int x3), some (.int x4), none] [.int (q4.2.2.1 a5 (1 : Int32).toNatClampNeg), .int x3, .ref x0, .int q4.1] q4.2 else none) (fun f => rfl) ?_
      refine OkF.grd (fun _ => ?_)
      refine OkF.eq 1 (Y := fun f => if oc q4.2 x0 12 = true then (rk px kx f (d + 2) 174 0 [some (.ref x0), some (.int x3), some (.int (q4.2.2.1 a5 (1 : Int32).toNatClampNeg))] [] q4.2).bind (fun q => rk px kx f (d + 3) 223 76 [some (.ref x0), some (.int x1), some (.int x2), some (.int x3), some (.int x4), none] (q.1.toList ++ [.int q4.1]) q.2) else none) (fun f => rfl) ?_
      refine OkF.grd (fun _ => ?_)
      refine OkF.bind (w1 := wI) (om174 (d + 0) x0 x3 (q4.2.2.1 a5 (1 : Int32).toNatClampNeg) q4.2) (fun q6 => ?_)
      refine OkF.eq 1 (Y := fun f => if q4.1 = q6.1 then rk px kx f (d + 3) 223 79 [some (.ref x0), some (.int x1), some (.int x2), some (.int x3), some (.int x4), none] [] q6.2 else rk px kx f (d + 3) 223 83 [some (.ref x0), some (.int x1), some (.int x2), some (.int x3), some (.int x4), none] [] q6.2) (fun f => rfl) ?_
      refine OkF.ite (fun _ => ?_) (fun _ => ?_)
      · refine OkF.eq 2 (Y := fun f => rk px kx f (d + 3) 223 84 [some (.ref x0), some (.int x1), some (.int x2), some (.int x3), some (.int x4), none] [.int (1 : Int32)] q6.2) (fun f => rfl) ?_
        exact OkF.kl (ls1 := [some (.ref x0), some (.int x1), some (.int x2), some (.int x3), some (.int x4), none]) (fun f => rfl) (ob223_84 d k17 hk17 k30 hk30 x0 x1 x2 x3 x4 (1 : Int32) q6.2)
      · exact OkF.kl (ls1 := [some (.ref x0), some (.int x1), some (.int x2), some (.int x3), some (.int x4), none]) (fun f => rfl) (ob223_83 d k17 hk17 k30 hk30 x0 x1 x2 x3 x4 q6.2)
    · exact OkF.kl (ls1 := [some (.ref x0), some (.int x1), some (.int x2), some (.int x3), some (.int x4), none]) (fun f => rfl) (ob223_83 d k17 hk17 k30 hk30 x0 x1 x2 x3 x4 q3.2)
def l223_30 (k17 : Nat → Int32 → Int32 → Int32 → Sx → Option (Int32 × Sx)) : Nat → Nat → Int32 → Int32 → Int32 → Int32 → Sx → Option (Int32 × Sx)
  | 0 => fun _ _ _ _ _ _ => none
  | n + 1 => fun x0 x1 x2 x3 x4 S => b223_30 k17 (l223_30 k17 n) x0 x1 x2 x3 x4 S
set_option maxRecDepth 100000 in
theorem ol223_30 (d : Nat) (k17 : Nat → Int32 → Int32 → Int32 → Sx → Option (Int32 × Sx)) (hk17 : ∀ (x0 : Nat) (x1 : Int32) (x2 : Int32) (x3 : Int32) (S : Sx), OkF wI (fun f => rk px kx f (d + 3) 223 17 [some (.ref x0), some (.int x1), some (.int x2), some (.int x3), none, none] [] S) (k17 x0 x1 x2 x3 S)) : ∀ (n : Nat) (x0 : Nat) (x1 : Int32) (x2 : Int32) (x3 : Int32) (x4 : Int32) (S : Sx), OkF wI (fun f => rk px kx f (d + 3) 223 30 [some (.ref x0), some (.int x1), some (.int x2), some (.int x3), some (.int x4), none] [] S) (l223_30 k17 n x0 x1 x2 x3 x4 S) := by
  intro n
  induction n with
  | zero => intro x0 x1 x2 x3 x4 S; exact OkF.no
  | succ n ih => intro x0 x1 x2 x3 x4 S; exact ob223_30 d k17 hk17 (l223_30 k17 n) ih x0 x1 x2 x3 x4 S
def b223_17 (k17 : Nat → Int32 → Int32 → Int32 → Sx → Option (Int32 × Sx)) (x0 : Nat) (x1 : Int32) (x2 : Int32) (x3 : Int32) (S : Sx) : Option (Int32 × Sx) :=
  if oc S x0 12 = true then if (S.2.1 x0 4) ≤ x3 then if oc S x0 12 = true then (m211 x0 x1 x2 S).bind fun q7 => some (q7.1, q7.2) else none else l223_30 k17 1000 x0 x1 x2 x3 (x3 + (1 : Int32)) S else none
set_option maxRecDepth 100000 in
theorem ob223_17 (d : Nat) (k17 : Nat → Int32 → Int32 → Int32 → Sx → Option (Int32 × Sx)) (hk17 : ∀ (x0 : Nat) (x1 : Int32) (x2 : Int32) (x3 : Int32) (S : Sx), OkF wI (fun f => rk px kx f (d + 3) 223 17 [some (.ref x0), some (.int x1), some (.int x2), some (.int x3), none, none] [] S) (k17 x0 x1 x2 x3 S)) (x0 : Nat) (x1 : Int32) (x2 : Int32) (x3 : Int32) (S : Sx) : OkF wI (fun f => rk px kx f (d + 3) 223 17 [some (.ref x0), some (.int x1), some (.int x2), some (.int x3), none, none] [] S) (b223_17 k17 x0 x1 x2 x3 S) := by
  unfold b223_17
  refine OkF.eq 3 (Y := fun f => if oc S x0 12 = true then rk px kx f (d + 3) 223 22 [some (.ref x0), some (.int x1), some (.int x2), some (.int x3), none, none] [.int (S.2.1 x0 4), .int x3] S else none) (fun f => rfl) ?_
  refine OkF.grd (fun _ => ?_)
  refine OkF.eq 1 (Y := fun f => if (S.2.1 x0 4) ≤ x3 then rk px kx f (d + 3) 223 134 [some (.ref x0), some (.int x1), some (.int x2), some (.int x3), none, none] [] S else rk px kx f (d + 3) 223 25 [some (.ref x0), some (.int x1), some (.int x2), some (.int x3), none, none] [] S) (fun f => rfl) ?_
  refine OkF.ite (fun _ => ?_) (fun _ => ?_)
  · refine OkF.eq 4 (Y := fun f => if oc S x0 12 = true then (rk px kx f (d + 2) 211 0 [some (.ref x0), some (.int x1), some (.int x2)] [] S).bind (fun q => rk px kx f (d + 3) 223 140 [some (.ref x0), some (.int x1), some (.int x2), some (.int x3), none, none] (q.1.toList ++ []) q.2) else none) (fun f => rfl) ?_
    refine OkF.grd (fun _ => ?_)
    refine OkF.bind (w1 := wI) (om211 (d + 2) x0 x1 x2 S) (fun q7 => ?_)
    exact OkF.ret 1 (fun f => rfl)
  · refine OkF.eq 4 (Y := fun f => rk px kx f (d + 3) 223 30 [some (.ref x0), some (.int x1), some (.int x2), some (.int x3), some (.int (x3 + (1 : Int32))), none] [] S) (fun f => rfl) ?_
    exact OkF.kl (ls1 := [some (.ref x0), some (.int x1), some (.int x2), some (.int x3), some (.int (x3 + (1 : Int32))), none]) (fun f => rfl) (ol223_30 d k17 hk17 1000 x0 x1 x2 x3 (x3 + (1 : Int32)) S)
def l223_17 : Nat → Nat → Int32 → Int32 → Int32 → Sx → Option (Int32 × Sx)
  | 0 => fun _ _ _ _ _ => none
  | n + 1 => fun x0 x1 x2 x3 S => b223_17 (l223_17 n) x0 x1 x2 x3 S
set_option maxRecDepth 100000 in
theorem ol223_17 (d : Nat) : ∀ (n : Nat) (x0 : Nat) (x1 : Int32) (x2 : Int32) (x3 : Int32) (S : Sx), OkF wI (fun f => rk px kx f (d + 3) 223 17 [some (.ref x0), some (.int x1), some (.int x2), some (.int x3), none, none] [] S) (l223_17 n x0 x1 x2 x3 S) := by
  intro n
  induction n with
  | zero => intro x0 x1 x2 x3 S; exact OkF.no
  | succ n ih => intro x0 x1 x2 x3 S; exact ob223_17 d (l223_17 n) ih x0 x1 x2 x3 S
def m223 (x0 : Nat) (S : Sx) : Option (Int32 × Sx) :=
  if oc S x0 12 = true then if (S.2.1 x0 4) = 0 then some ((-4 : Int32), S) else l223_17 1000 x0 (0 : Int32) (-9 : Int32) (0 : Int32) S else none
set_option maxRecDepth 100000 in
theorem om223 (d : Nat) (x0 : Nat) (S : Sx) : OkF wI (fun f => rk px kx f (d + 3) 223 0 [some (.ref x0), none, none, none, none, none] [] S) (m223 x0 S) := by
  unfold m223
  refine OkF.eq 2 (Y := fun f => if oc S x0 12 = true then rk px kx f (d + 3) 223 4 [some (.ref x0), none, none, none, none, none] [.int (S.2.1 x0 4)] S else none) (fun f => rfl) ?_
  refine OkF.grd (fun _ => ?_)
  refine OkF.eq 1 (Y := fun f => if (S.2.1 x0 4) = 0 then rk px kx f (d + 3) 223 7 [some (.ref x0), none, none, none, none, none] [] S else rk px kx f (d + 3) 223 10 [some (.ref x0), none, none, none, none, none] [] S) (fun f => rfl) ?_
  refine OkF.ite (fun _ => ?_) (fun _ => ?_)
  · exact OkF.ret 2 (fun f => rfl)
  · refine OkF.eq 6 (Y := fun f => rk px kx f (d + 3) 223 17 [some (.ref x0), some (.int (0 : Int32)), some (.int (-9 : Int32)), some (.int (0 : Int32)), none, none] [] S) (fun f => rfl) ?_
    exact OkF.kl (ls1 := [some (.ref x0), some (.int (0 : Int32)), some (.int (-9 : Int32)), some (.int (0 : Int32)), none, none]) (fun f => rfl) (ol223_17 d 1000 x0 (0 : Int32) (-9 : Int32) (0 : Int32) S)
-- DoorSoldModel.moves(IIZ)I
def b225_180 (k19 : Nat → Int32 → Int32 → Int32 → Int32 → Int32 → Int32 → Sx → Option (Int32 × Sx)) (x0 : Nat) (x1 : Int32) (x2 : Int32) (x3 : Int32) (x4 : Int32) (x6 : Int32) (s0 : Int32) (S : Sx) : Option (Int32 × Sx) :=
  k19 x0 x1 x2 x3 x4 s0 (x6 + (1 : Int32)) S
set_option maxRecDepth 100000 in
theorem ob225_180 (d : Nat) (k19 : Nat → Int32 → Int32 → Int32 → Int32 → Int32 → Int32 → Sx → Option (Int32 × Sx)) (hk19 : ∀ (x0 : Nat) (x1 : Int32) (x2 : Int32) (x3 : Int32) (x4 : Int32) (x5 : Int32) (x6 : Int32) (S : Sx), OkF wI (fun f => rk px kx f (d + 3) 225 19 [some (.ref x0), some (.int x1), some (.int x2), some (.int x3), some (.int x4), some (.int x5), some (.int x6), none, none, none, none] [] S) (k19 x0 x1 x2 x3 x4 x5 x6 S)) (x0 : Nat) (x1 : Int32) (x2 : Int32) (x3 : Int32) (x4 : Int32) (x6 : Int32) (s0 : Int32) (S : Sx) : OkF wI (fun f => rk px kx f (d + 3) 225 180 [some (.ref x0), some (.int x1), some (.int x2), some (.int x3), some (.int x4), none, some (.int x6), none, none, none, none] [.int s0] S) (b225_180 k19 x0 x1 x2 x3 x4 x6 s0 S) := by
  unfold b225_180
  refine OkF.eq 3 (Y := fun f => rk px kx f (d + 3) 225 19 [some (.ref x0), some (.int x1), some (.int x2), some (.int x3), some (.int x4), some (.int s0), some (.int (x6 + (1 : Int32))), none, none, none, none] [] S) (fun f => rfl) ?_
  exact OkF.kl (ls1 := [some (.ref x0), some (.int x1), some (.int x2), some (.int x3), some (.int x4), some (.int s0), some (.int (x6 + (1 : Int32))), none, none, none, none]) (fun f => rfl) (hk19 x0 x1 x2 x3 x4 s0 (x6 + (1 : Int32)) S)
def b225_178 (k19 : Nat → Int32 → Int32 → Int32 → Int32 → Int32 → Int32 → Sx → Option (Int32 × Sx)) (x0 : Nat) (x1 : Int32) (x2 : Int32) (x3 : Int32) (x4 : Int32) (x5 : Int32) (x6 : Int32) (S : Sx) : Option (Int32 × Sx) :=
  b225_180 k19 x0 x1 x2 x3 x4 x6 x5 S
set_option maxRecDepth 100000 in
theorem ob225_178 (d : Nat) (k19 : Nat → Int32 → Int32 → Int32 → Int32 → Int32 → Int32 → Sx → Option (Int32 × Sx)) (hk19 : ∀ (x0 : Nat) (x1 : Int32) (x2 : Int32) (x3 : Int32) (x4 : Int32) (x5 : Int32) (x6 : Int32) (S : Sx), OkF wI (fun f => rk px kx f (d + 3) 225 19 [some (.ref x0), some (.int x1), some (.int x2), some (.int x3), some (.int x4), some (.int x5), some (.int x6), none, none, none, none] [] S) (k19 x0 x1 x2 x3 x4 x5 x6 S)) (x0 : Nat) (x1 : Int32) (x2 : Int32) (x3 : Int32) (x4 : Int32) (x5 : Int32) (x6 : Int32) (S : Sx) : OkF wI (fun f => rk px kx f (d + 3) 225 178 [some (.ref x0), some (.int x1), some (.int x2), some (.int x3), some (.int x4), some (.int x5), some (.int x6), none, none, none, none] [] S) (b225_178 k19 x0 x1 x2 x3 x4 x5 x6 S) := by
  unfold b225_178
  refine OkF.eq 1 (Y := fun f => rk px kx f (d + 3) 225 180 [some (.ref x0), some (.int x1), some (.int x2), some (.int x3), some (.int x4), some (.int x5), some (.int x6), none, none, none, none] [.int x5] S) (fun f => rfl) ?_
  exact OkF.kl (ls1 := [some (.ref x0), some (.int x1), some (.int x2), some (.int x3), some (.int x4), none, some (.int x6), none, none, none, none]) (fun f => rfl) (ob225_180 d k19 hk19 x0 x1 x2 x3 x4 x6 x5 S)
def b225_161 (k19 : Nat → Int32 → Int32 → Int32 → Int32 → Int32 → Int32 → Sx → Option (Int32 × Sx)) (x0 : Nat) (x1 : Int32) (x2 : Int32) (x3 : Int32) (x4 : Int32) (x5 : Int32) (x6 : Int32) (x7 : Int32) (x9 : Int32) (s0 : Int32) (S : Sx) : Option (Int32 × Sx) :=
  if x7 = 0 then b225_178 k19 x0 x1 x2 x3 x4 x5 x6 S else if s0 = 0 then b225_178 k19 x0 x1 x2 x3 x4 x5 x6 S else b225_180 k19 x0 x1 x2 x3 x4 x6 x9 S
set_option maxRecDepth 100000 in
theorem ob225_161 (d : Nat) (k19 : Nat → Int32 → Int32 → Int32 → Int32 → Int32 → Int32 → Sx → Option (Int32 × Sx)) (hk19 : ∀ (x0 : Nat) (x1 : Int32) (x2 : Int32) (x3 : Int32) (x4 : Int32) (x5 : Int32) (x6 : Int32) (S : Sx), OkF wI (fun f => rk px kx f (d + 3) 225 19 [some (.ref x0), some (.int x1), some (.int x2), some (.int x3), some (.int x4), some (.int x5), some (.int x6), none, none, none, none] [] S) (k19 x0 x1 x2 x3 x4 x5 x6 S)) (x0 : Nat) (x1 : Int32) (x2 : Int32) (x3 : Int32) (x4 : Int32) (x5 : Int32) (x6 : Int32) (x7 : Int32) (x9 : Int32) (s0 : Int32) (S : Sx) : OkF wI (fun f => rk px kx f (d + 3) 225 161 [some (.ref x0), some (.int x1), some (.int x2), some (.int x3), some (.int x4), some (.int x5), some (.int x6), some (.int x7), none, some (.int x9), none] [.int s0] S) (b225_161 k19 x0 x1 x2 x3 x4 x5 x6 x7 x9 s0 S) := by
  unfold b225_161
  refine OkF.eq 3 (Y := fun f => if x7 = 0 then rk px kx f (d + 3) 225 178 [some (.ref x0), some (.int x1), some (.int x2), some (.int x3), some (.int x4), some (.int x5), some (.int x6), some (.int x7), none, some (.int x9), some (.int s0)] [] S else rk px kx f (d + 3) 225 168 [some (.ref x0), some (.int x1), some (.int x2), some (.int x3), some (.int x4), some (.int x5), some (.int x6), some (.int x7), none, some (.int x9), some (.int s0)] [] S) (fun f => rfl) ?_
  refine OkF.ite (fun _ => ?_) (fun _ => ?_)
  · exact OkF.kl (ls1 := [some (.ref x0), some (.int x1), some (.int x2), some (.int x3), some (.int x4), some (.int x5), some (.int x6), none, none, none, none]) (fun f => rfl) (ob225_178 d k19 hk19 x0 x1 x2 x3 x4 x5 x6 S)
  · refine OkF.eq 2 (Y := fun f => if s0 = 0 then rk px kx f (d + 3) 225 178 [some (.ref x0), some (.int x1), some (.int x2), some (.int x3), some (.int x4), some (.int x5), some (.int x6), some (.int x7), none, some (.int x9), some (.int s0)] [] S else rk px kx f (d + 3) 225 173 [some (.ref x0), some (.int x1), some (.int x2), some (.int x3), some (.int x4), some (.int x5), some (.int x6), some (.int x7), none, some (.int x9), some (.int s0)] [] S) (fun f => rfl) ?_
    refine OkF.ite (fun _ => ?_) (fun _ => ?_)
    · exact OkF.kl (ls1 := [some (.ref x0), some (.int x1), some (.int x2), some (.int x3), some (.int x4), some (.int x5), some (.int x6), none, none, none, none]) (fun f => rfl) (ob225_178 d k19 hk19 x0 x1 x2 x3 x4 x5 x6 S)
    · refine OkF.eq 2 (Y := fun f => rk px kx f (d + 3) 225 180 [some (.ref x0), some (.int x1), some (.int x2), some (.int x3), some (.int x4), some (.int x5), some (.int x6), some (.int x7), none, some (.int x9), some (.int s0)] [.int x9] S) (fun f => rfl) ?_
      exact OkF.kl (ls1 := [some (.ref x0), some (.int x1), some (.int x2), some (.int x3), some (.int x4), none, some (.int x6), none, none, none, none]) (fun f => rfl) (ob225_180 d k19 hk19 x0 x1 x2 x3 x4 x6 x9 S)
def b225_156 (k19 : Nat → Int32 → Int32 → Int32 → Int32 → Int32 → Int32 → Sx → Option (Int32 × Sx)) (x0 : Nat) (x1 : Int32) (x2 : Int32) (x3 : Int32) (x4 : Int32) (x5 : Int32) (x6 : Int32) (x7 : Int32) (x9 : Int32) (S : Sx) : Option (Int32 × Sx) :=
  b225_161 k19 x0 x1 x2 x3 x4 x5 x6 x7 x9 (1 : Int32) S
set_option maxRecDepth 100000 in
theorem ob225_156 (d : Nat) (k19 : Nat → Int32 → Int32 → Int32 → Int32 → Int32 → Int32 → Sx → Option (Int32 × Sx)) (hk19 : ∀ (x0 : Nat) (x1 : Int32) (x2 : Int32) (x3 : Int32) (x4 : Int32) (x5 : Int32) (x6 : Int32) (S : Sx), OkF wI (fun f => rk px kx f (d + 3) 225 19 [some (.ref x0), some (.int x1), some (.int x2), some (.int x3), some (.int x4), some (.int x5), some (.int x6), none, none, none, none] [] S) (k19 x0 x1 x2 x3 x4 x5 x6 S)) (x0 : Nat) (x1 : Int32) (x2 : Int32) (x3 : Int32) (x4 : Int32) (x5 : Int32) (x6 : Int32) (x7 : Int32) (x9 : Int32) (S : Sx) : OkF wI (fun f => rk px kx f (d + 3) 225 156 [some (.ref x0), some (.int x1), some (.int x2), some (.int x3), some (.int x4), some (.int x5), some (.int x6), some (.int x7), none, some (.int x9), none] [] S) (b225_156 k19 x0 x1 x2 x3 x4 x5 x6 x7 x9 S) := by
  unfold b225_156
  refine OkF.eq 2 (Y := fun f => rk px kx f (d + 3) 225 161 [some (.ref x0), some (.int x1), some (.int x2), some (.int x3), some (.int x4), some (.int x5), some (.int x6), some (.int x7), none, some (.int x9), none] [.int (1 : Int32)] S) (fun f => rfl) ?_
  exact OkF.kl (ls1 := [some (.ref x0), some (.int x1), some (.int x2), some (.int x3), some (.int x4), some (.int x5), some (.int x6), some (.int x7), none, some (.int x9), none]) (fun f => rfl) (ob225_161 d k19 hk19 x0 x1 x2 x3 x4 x5 x6 x7 x9 (1 : Int32) S)
def b225_160 (k19 : Nat → Int32 → Int32 → Int32 → Int32 → Int32 → Int32 → Sx → Option (Int32 × Sx)) (x0 : Nat) (x1 : Int32) (x2 : Int32) (x3 : Int32) (x4 : Int32) (x5 : Int32) (x6 : Int32) (x7 : Int32) (x9 : Int32) (S : Sx) : Option (Int32 × Sx) :=
  b225_161 k19 x0 x1 x2 x3 x4 x5 x6 x7 x9 (0 : Int32) S
set_option maxRecDepth 100000 in
theorem ob225_160 (d : Nat) (k19 : Nat → Int32 → Int32 → Int32 → Int32 → Int32 → Int32 → Sx → Option (Int32 × Sx)) (hk19 : ∀ (x0 : Nat) (x1 : Int32) (x2 : Int32) (x3 : Int32) (x4 : Int32) (x5 : Int32) (x6 : Int32) (S : Sx), OkF wI (fun f => rk px kx f (d + 3) 225 19 [some (.ref x0), some (.int x1), some (.int x2), some (.int x3), some (.int x4), some (.int x5), some (.int x6), none, none, none, none] [] S) (k19 x0 x1 x2 x3 x4 x5 x6 S)) (x0 : Nat) (x1 : Int32) (x2 : Int32) (x3 : Int32) (x4 : Int32) (x5 : Int32) (x6 : Int32) (x7 : Int32) (x9 : Int32) (S : Sx) : OkF wI (fun f => rk px kx f (d + 3) 225 160 [some (.ref x0), some (.int x1), some (.int x2), some (.int x3), some (.int x4), some (.int x5), some (.int x6), some (.int x7), none, some (.int x9), none] [] S) (b225_160 k19 x0 x1 x2 x3 x4 x5 x6 x7 x9 S) := by
  unfold b225_160
  refine OkF.eq 1 (Y := fun f => rk px kx f (d + 3) 225 161 [some (.ref x0), some (.int x1), some (.int x2), some (.int x3), some (.int x4), some (.int x5), some (.int x6), some (.int x7), none, some (.int x9), none] [.int (0 : Int32)] S) (fun f => rfl) ?_
  exact OkF.kl (ls1 := [some (.ref x0), some (.int x1), some (.int x2), some (.int x3), some (.int x4), some (.int x5), some (.int x6), some (.int x7), none, some (.int x9), none]) (fun f => rfl) (ob225_161 d k19 hk19 x0 x1 x2 x3 x4 x5 x6 x7 x9 (0 : Int32) S)
def b225_126 (k19 : Nat → Int32 → Int32 → Int32 → Int32 → Int32 → Int32 → Sx → Option (Int32 × Sx)) (x0 : Nat) (x1 : Int32) (x2 : Int32) (x3 : Int32) (x4 : Int32) (x5 : Int32) (x6 : Int32) (x7 : Int32) (s0 : Int32) (S : Sx) : Option (Int32 × Sx) :=
  if x5 = (-9 : Int32) then b225_156 k19 x0 x1 x2 x3 x4 x5 x6 x7 s0 S else if x3 = 0 then if x5 ≤ s0 then b225_160 k19 x0 x1 x2 x3 x4 x5 x6 x7 s0 S else b225_156 k19 x0 x1 x2 x3 x4 x5 x6 x7 s0 S else if s0 ≤ x5 then b225_160 k19 x0 x1 x2 x3 x4 x5 x6 x7 s0 S else b225_156 k19 x0 x1 x2 x3 x4 x5 x6 x7 s0 S
set_option maxRecDepth 100000 in
theorem ob225_126 (d : Nat) (k19 : Nat → Int32 → Int32 → Int32 → Int32 → Int32 → Int32 → Sx → Option (Int32 × Sx)) (hk19 : ∀ (x0 : Nat) (x1 : Int32) (x2 : Int32) (x3 : Int32) (x4 : Int32) (x5 : Int32) (x6 : Int32) (S : Sx), OkF wI (fun f => rk px kx f (d + 3) 225 19 [some (.ref x0), some (.int x1), some (.int x2), some (.int x3), some (.int x4), some (.int x5), some (.int x6), none, none, none, none] [] S) (k19 x0 x1 x2 x3 x4 x5 x6 S)) (x0 : Nat) (x1 : Int32) (x2 : Int32) (x3 : Int32) (x4 : Int32) (x5 : Int32) (x6 : Int32) (x7 : Int32) (s0 : Int32) (S : Sx) : OkF wI (fun f => rk px kx f (d + 3) 225 126 [some (.ref x0), some (.int x1), some (.int x2), some (.int x3), some (.int x4), some (.int x5), some (.int x6), some (.int x7), none, none, none] [.int s0] S) (b225_126 k19 x0 x1 x2 x3 x4 x5 x6 x7 s0 S) := by
  unfold b225_126
  refine OkF.eq 4 (Y := fun f => if x5 = (-9 : Int32) then rk px kx f (d + 3) 225 156 [some (.ref x0), some (.int x1), some (.int x2), some (.int x3), some (.int x4), some (.int x5), some (.int x6), some (.int x7), none, some (.int s0), none] [] S else rk px kx f (d + 3) 225 135 [some (.ref x0), some (.int x1), some (.int x2), some (.int x3), some (.int x4), some (.int x5), some (.int x6), some (.int x7), none, some (.int s0), none] [] S) (fun f => rfl) ?_
  refine OkF.ite (fun _ => ?_) (fun _ => ?_)
  · exact OkF.kl (ls1 := [some (.ref x0), some (.int x1), some (.int x2), some (.int x3), some (.int x4), some (.int x5), some (.int x6), some (.int x7), none, some (.int s0), none]) (fun f => rfl) (ob225_156 d k19 hk19 x0 x1 x2 x3 x4 x5 x6 x7 s0 S)
  · refine OkF.eq 2 (Y := fun f => if x3 = 0 then rk px kx f (d + 3) 225 149 [some (.ref x0), some (.int x1), some (.int x2), some (.int x3), some (.int x4), some (.int x5), some (.int x6), some (.int x7), none, some (.int s0), none] [] S else rk px kx f (d + 3) 225 139 [some (.ref x0), some (.int x1), some (.int x2), some (.int x3), some (.int x4), some (.int x5), some (.int x6), some (.int x7), none, some (.int s0), none] [] S) (fun f => rfl) ?_
    refine OkF.ite (fun _ => ?_) (fun _ => ?_)
    · refine OkF.eq 3 (Y := fun f => if x5 ≤ s0 then rk px kx f (d + 3) 225 160 [some (.ref x0), some (.int x1), some (.int x2), some (.int x3), some (.int x4), some (.int x5), some (.int x6), some (.int x7), none, some (.int s0), none] [] S else rk px kx f (d + 3) 225 156 [some (.ref x0), some (.int x1), some (.int x2), some (.int x3), some (.int x4), some (.int x5), some (.int x6), some (.int x7), none, some (.int s0), none] [] S) (fun f => rfl) ?_
      refine OkF.ite (fun _ => ?_) (fun _ => ?_)
      · exact OkF.kl (ls1 := [some (.ref x0), some (.int x1), some (.int x2), some (.int x3), some (.int x4), some (.int x5), some (.int x6), some (.int x7), none, some (.int s0), none]) (fun f => rfl) (ob225_160 d k19 hk19 x0 x1 x2 x3 x4 x5 x6 x7 s0 S)
      · exact OkF.kl (ls1 := [some (.ref x0), some (.int x1), some (.int x2), some (.int x3), some (.int x4), some (.int x5), some (.int x6), some (.int x7), none, some (.int s0), none]) (fun f => rfl) (ob225_156 d k19 hk19 x0 x1 x2 x3 x4 x5 x6 x7 s0 S)
    · refine OkF.eq 3 (Y := fun f => if s0 ≤ x5 then rk px kx f (d + 3) 225 160 [some (.ref x0), some (.int x1), some (.int x2), some (.int x3), some (.int x4), some (.int x5), some (.int x6), some (.int x7), none, some (.int s0), none] [] S else rk px kx f (d + 3) 225 146 [some (.ref x0), some (.int x1), some (.int x2), some (.int x3), some (.int x4), some (.int x5), some (.int x6), some (.int x7), none, some (.int s0), none] [] S) (fun f => rfl) ?_
      refine OkF.ite (fun _ => ?_) (fun _ => ?_)
      · exact OkF.kl (ls1 := [some (.ref x0), some (.int x1), some (.int x2), some (.int x3), some (.int x4), some (.int x5), some (.int x6), some (.int x7), none, some (.int s0), none]) (fun f => rfl) (ob225_160 d k19 hk19 x0 x1 x2 x3 x4 x5 x6 x7 s0 S)
      · refine OkF.eq 1 (Y := fun f => rk px kx f (d + 3) 225 156 [some (.ref x0), some (.int x1), some (.int x2), some (.int x3), some (.int x4), some (.int x5), some (.int x6), some (.int x7), none, some (.int s0), none] [] S) (fun f => rfl) ?_
        exact OkF.kl (ls1 := [some (.ref x0), some (.int x1), some (.int x2), some (.int x3), some (.int x4), some (.int x5), some (.int x6), some (.int x7), none, some (.int s0), none]) (fun f => rfl) (ob225_156 d k19 hk19 x0 x1 x2 x3 x4 x5 x6 x7 s0 S)
def b225_93 (k19 : Nat → Int32 → Int32 → Int32 → Int32 → Int32 → Int32 → Sx → Option (Int32 × Sx)) (x0 : Nat) (x1 : Int32) (x2 : Int32) (x3 : Int32) (x4 : Int32) (x5 : Int32) (x6 : Int32) (x7 : Int32) (s0 : Int32) (S : Sx) : Option (Int32 × Sx) :=
  if x3 = 0 then if oc S x0 12 = true then (S.2.2.2.1 x0 26).bind fun a1 => if inb (((7 : Int32) * x1) + s0) (al S a1) = true then b225_126 k19 x0 x1 x2 x3 x4 x5 x6 x7 (S.2.1 a1 (((7 : Int32) * x1) + s0).toNatClampNeg) S else none else none else if oc S x0 12 = true then (S.2.2.2.1 x0 26).bind fun a2 => if inb (((7 : Int32) * s0) + x2) (al S a2) = true then b225_126 k19 x0 x1 x2 x3 x4 x5 x6 x7 (S.2.1 a2 (((7 : Int32) * s0) + x2).toNatClampNeg) S else none else none
set_option maxRecDepth 100000 in
theorem ob225_93 (d : Nat) (k19 : Nat → Int32 → Int32 → Int32 → Int32 → Int32 → Int32 → Sx → Option (Int32 × Sx)) (hk19 : ∀ (x0 : Nat) (x1 : Int32) (x2 : Int32) (x3 : Int32) (x4 : Int32) (x5 : Int32) (x6 : Int32) (S : Sx), OkF wI (fun f => rk px kx f (d + 3) 225 19 [some (.ref x0), some (.int x1), some (.int x2), some (.int x3), some (.int x4), some (.int x5), some (.int x6), none, none, none, none] [] S) (k19 x0 x1 x2 x3 x4 x5 x6 S)) (x0 : Nat) (x1 : Int32) (x2 : Int32) (x3 : Int32) (x4 : Int32) (x5 : Int32) (x6 : Int32) (x7 : Int32) (s0 : Int32) (S : Sx) : OkF wI (fun f => rk px kx f (d + 3) 225 93 [some (.ref x0), some (.int x1), some (.int x2), some (.int x3), some (.int x4), some (.int x5), some (.int x6), some (.int x7), none, none, none] [.int s0] S) (b225_93 k19 x0 x1 x2 x3 x4 x5 x6 x7 s0 S) := by
  unfold b225_93
  refine OkF.eq 3 (Y := fun f => if x3 = 0 then rk px kx f (d + 3) 225 114 [some (.ref x0), some (.int x1), some (.int x2), some (.int x3), some (.int x4), some (.int x5), some (.int x6), some (.int x7), some (.int s0), none, none] [] S else rk px kx f (d + 3) 225 99 [some (.ref x0), some (.int x1), some (.int x2), some (.int x3), some (.int x4), some (.int x5), some (.int x6), some (.int x7), some (.int s0), none, none] [] S) (fun f => rfl) ?_
  refine OkF.ite (fun _ => ?_) (fun _ => ?_)
  · refine OkF.eq 2 (Y := fun f => if oc S x0 12 = true then rk px kx f (d + 3) 225 118 [some (.ref x0), some (.int x1), some (.int x2), some (.int x3), some (.int x4), some (.int x5), some (.int x6), some (.int x7), some (.int s0), none, none] (va_rf (S.2.2.2.1 x0 26) :: []) S else none) (fun f => rfl) ?_
    refine OkF.grd (fun _ => ?_)
    refine OkF.rf (fun a1 => ?_)
    refine OkF.eq 6 (Y := fun f => if inb (((7 : Int32) * x1) + s0) (al S a1) = true then rk px kx f (d + 3) 225 126 [some (.ref x0), some (.int x1), some (.int x2), some (.int x3), some (.int x4), some (.int x5), some (.int x6), some (.int x7), some (.int s0), none, none] [.int (S.2.1 a1 (((7 : Int32) * x1) + s0).toNatClampNeg)] S else none) (fun f => rfl) ?_
    refine OkF.grd (fun _ => ?_)
    exact OkF.kl (ls1 := [some (.ref x0), some (.int x1), some (.int x2), some (.int x3), some (.int x4), some (.int x5), some (.int x6), some (.int x7), none, none, none]) (fun f => rfl) (ob225_126 d k19 hk19 x0 x1 x2 x3 x4 x5 x6 x7 (S.2.1 a1 (((7 : Int32) * x1) + s0).toNatClampNeg) S)
  · refine OkF.eq 2 (Y := fun f => if oc S x0 12 = true then rk px kx f (d + 3) 225 103 [some (.ref x0), some (.int x1), some (.int x2), some (.int x3), some (.int x4), some (.int x5), some (.int x6), some (.int x7), some (.int s0), none, none] (va_rf (S.2.2.2.1 x0 26) :: []) S else none) (fun f => rfl) ?_
    refine OkF.grd (fun _ => ?_)
    refine OkF.rf (fun a2 => ?_)
    refine OkF.eq 6 (Y := fun f => if inb (((7 : Int32) * s0) + x2) (al S a2) = true then rk px kx f (d + 3) 225 111 [some (.ref x0), some (.int x1), some (.int x2), some (.int x3), some (.int x4), some (.int x5), some (.int x6), some (.int x7), some (.int s0), none, none] [.int (S.2.1 a2 (((7 : Int32) * s0) + x2).toNatClampNeg)] S else none) (fun f => rfl) ?_
    refine OkF.grd (fun _ => ?_)
    refine OkF.eq 1 (Y := fun f => rk px kx f (d + 3) 225 126 [some (.ref x0), some (.int x1), some (.int x2), some (.int x3), some (.int x4), some (.int x5), some (.int x6), some (.int x7), some (.int s0), none, none] [.int (S.2.1 a2 (((7 : Int32) * s0) + x2).toNatClampNeg)] S) (fun f => rfl) ?_
    exact OkF.kl (ls1 := [some (.ref x0), some (.int x1), some (.int x2), some (.int x3), some (.int x4), some (.int x5), some (.int x6), some (.int x7), none, none, none]) (fun f => rfl) (ob225_126 d k19 hk19 x0 x1 x2 x3 x4 x5 x6 x7 (S.2.1 a2 (((7 : Int32) * s0) + x2).toNatClampNeg) S)
def b225_55 (k19 : Nat → Int32 → Int32 → Int32 → Int32 → Int32 → Int32 → Sx → Option (Int32 × Sx)) (x0 : Nat) (x1 : Int32) (x2 : Int32) (x3 : Int32) (x4 : Int32) (x5 : Int32) (x6 : Int32) (s0 : Int32) (S : Sx) : Option (Int32 × Sx) :=
  if x6 = (-2 : Int32) then b225_93 k19 x0 x1 x2 x3 x4 x5 x6 s0 x4 S else if x6 = (-1 : Int32) then if oc S x0 12 = true then if (S.2.1 x0 5) = 0 then none else b225_93 k19 x0 x1 x2 x3 x4 x5 x6 s0 ((x4 + (1 : Int32)) - (x4 + (1 : Int32)) / (S.2.1 x0 5) * (S.2.1 x0 5)) S else none else if oc S x0 12 = true then (m184 x0 x6 S).bind fun q3 => b225_93 k19 x0 x1 x2 x3 x4 x5 x6 s0 q3.1 q3.2 else none
set_option maxRecDepth 100000 in
theorem ob225_55 (d : Nat) (k19 : Nat → Int32 → Int32 → Int32 → Int32 → Int32 → Int32 → Sx → Option (Int32 × Sx)) (hk19 : ∀ (x0 : Nat) (x1 : Int32) (x2 : Int32) (x3 : Int32) (x4 : Int32) (x5 : Int32) (x6 : Int32) (S : Sx), OkF wI (fun f => rk px kx f (d + 3) 225 19 [some (.ref x0), some (.int x1), some (.int x2), some (.int x3), some (.int x4), some (.int x5), some (.int x6), none, none, none, none] [] S) (k19 x0 x1 x2 x3 x4 x5 x6 S)) (x0 : Nat) (x1 : Int32) (x2 : Int32) (x3 : Int32) (x4 : Int32) (x5 : Int32) (x6 : Int32) (s0 : Int32) (S : Sx) : OkF wI (fun f => rk px kx f (d + 3) 225 55 [some (.ref x0), some (.int x1), some (.int x2), some (.int x3), some (.int x4), some (.int x5), some (.int x6), none, none, none, none] [.int s0] S) (b225_55 k19 x0 x1 x2 x3 x4 x5 x6 s0 S) := by
  unfold b225_55
  refine OkF.eq 4 (Y := fun f => if x6 = (-2 : Int32) then rk px kx f (d + 3) 225 64 [some (.ref x0), some (.int x1), some (.int x2), some (.int x3), some (.int x4), some (.int x5), some (.int x6), some (.int s0), none, none, none] [] S else rk px kx f (d + 3) 225 69 [some (.ref x0), some (.int x1), some (.int x2), some (.int x3), some (.int x4), some (.int x5), some (.int x6), some (.int s0), none, none, none] [] S) (fun f => rfl) ?_
  refine OkF.ite (fun _ => ?_) (fun _ => ?_)
  · refine OkF.eq 2 (Y := fun f => rk px kx f (d + 3) 225 93 [some (.ref x0), some (.int x1), some (.int x2), some (.int x3), some (.int x4), some (.int x5), some (.int x6), some (.int s0), none, none, none] [.int x4] S) (fun f => rfl) ?_
    exact OkF.kl (ls1 := [some (.ref x0), some (.int x1), some (.int x2), some (.int x3), some (.int x4), some (.int x5), some (.int x6), some (.int s0), none, none, none]) (fun f => rfl) (ob225_93 d k19 hk19 x0 x1 x2 x3 x4 x5 x6 s0 x4 S)
  · refine OkF.eq 3 (Y := fun f => if x6 = (-1 : Int32) then rk px kx f (d + 3) 225 75 [some (.ref x0), some (.int x1), some (.int x2), some (.int x3), some (.int x4), some (.int x5), some (.int x6), some (.int s0), none, none, none] [] S else rk px kx f (d + 3) 225 87 [some (.ref x0), some (.int x1), some (.int x2), some (.int x3), some (.int x4), some (.int x5), some (.int x6), some (.int s0), none, none, none] [] S) (fun f => rfl) ?_
    refine OkF.ite (fun _ => ?_) (fun _ => ?_)
    · refine OkF.eq 5 (Y := fun f => if oc S x0 12 = true then rk px kx f (d + 3) 225 83 [some (.ref x0), some (.int x1), some (.int x2), some (.int x3), some (.int x4), some (.int x5), some (.int x6), some (.int s0), none, none, none] [.int (S.2.1 x0 5), .int (x4 + (1 : Int32))] S else none) (fun f => rfl) ?_
      refine OkF.grd (fun _ => ?_)
      refine OkF.eq 1 (Y := fun f => if (S.2.1 x0 5) = 0 then none else rk px kx f (d + 3) 225 84 [some (.ref x0), some (.int x1), some (.int x2), some (.int x3), some (.int x4), some (.int x5), some (.int x6), some (.int s0), none, none, none] [.int ((x4 + (1 : Int32)) - (x4 + (1 : Int32)) / (S.2.1 x0 5) * (S.2.1 x0 5))] S) (fun f => rfl) ?_
      refine OkF.ngr (fun _ => ?_)
      refine OkF.eq 1 (Y := fun f => rk px kx f (d + 3) 225 93 [some (.ref x0), some (.int x1), some (.int x2), some (.int x3), some (.int x4), some (.int x5), some (.int x6), some (.int s0), none, none, none] [.int ((x4 + (1 : Int32)) - (x4 + (1 : Int32)) / (S.2.1 x0 5) * (S.2.1 x0 5))] S) (fun f => rfl) ?_
      exact OkF.kl (ls1 := [some (.ref x0), some (.int x1), some (.int x2), some (.int x3), some (.int x4), some (.int x5), some (.int x6), some (.int s0), none, none, none]) (fun f => rfl) (ob225_93 d k19 hk19 x0 x1 x2 x3 x4 x5 x6 s0 ((x4 + (1 : Int32)) - (x4 + (1 : Int32)) / (S.2.1 x0 5) * (S.2.1 x0 5)) S)
    · refine OkF.eq 3 (Y := fun f => if oc S x0 12 = true then (rk px kx f (d + 2) 184 0 [some (.ref x0), some (.int x6)] [] S).bind (fun q => rk px kx f (d + 3) 225 93 [some (.ref x0), some (.int x1), some (.int x2), some (.int x3), some (.int x4), some (.int x5), some (.int x6), some (.int s0), none, none, none] (q.1.toList ++ []) q.2) else none) (fun f => rfl) ?_
      refine OkF.grd (fun _ => ?_)
      refine OkF.bind (w1 := wI) (om184 (d + 0) x0 x6 S) (fun q3 => ?_)
      exact OkF.kl (ls1 := [some (.ref x0), some (.int x1), some (.int x2), some (.int x3), some (.int x4), some (.int x5), some (.int x6), some (.int s0), none, none, none]) (fun f => rfl) (ob225_93 d k19 hk19 x0 x1 x2 x3 x4 x5 x6 s0 q3.1 q3.2)
def b225_50 (k19 : Nat → Int32 → Int32 → Int32 → Int32 → Int32 → Int32 → Sx → Option (Int32 × Sx)) (x0 : Nat) (x1 : Int32) (x2 : Int32) (x3 : Int32) (x4 : Int32) (x5 : Int32) (x6 : Int32) (S : Sx) : Option (Int32 × Sx) :=
  b225_55 k19 x0 x1 x2 x3 x4 x5 x6 (1 : Int32) S
set_option maxRecDepth 100000 in
theorem ob225_50 (d : Nat) (k19 : Nat → Int32 → Int32 → Int32 → Int32 → Int32 → Int32 → Sx → Option (Int32 × Sx)) (hk19 : ∀ (x0 : Nat) (x1 : Int32) (x2 : Int32) (x3 : Int32) (x4 : Int32) (x5 : Int32) (x6 : Int32) (S : Sx), OkF wI (fun f => rk px kx f (d + 3) 225 19 [some (.ref x0), some (.int x1), some (.int x2), some (.int x3), some (.int x4), some (.int x5), some (.int x6), none, none, none, none] [] S) (k19 x0 x1 x2 x3 x4 x5 x6 S)) (x0 : Nat) (x1 : Int32) (x2 : Int32) (x3 : Int32) (x4 : Int32) (x5 : Int32) (x6 : Int32) (S : Sx) : OkF wI (fun f => rk px kx f (d + 3) 225 50 [some (.ref x0), some (.int x1), some (.int x2), some (.int x3), some (.int x4), some (.int x5), some (.int x6), none, none, none, none] [] S) (b225_50 k19 x0 x1 x2 x3 x4 x5 x6 S) := by
  unfold b225_50
  refine OkF.eq 2 (Y := fun f => rk px kx f (d + 3) 225 55 [some (.ref x0), some (.int x1), some (.int x2), some (.int x3), some (.int x4), some (.int x5), some (.int x6), none, none, none, none] [.int (1 : Int32)] S) (fun f => rfl) ?_
  exact OkF.kl (ls1 := [some (.ref x0), some (.int x1), some (.int x2), some (.int x3), some (.int x4), some (.int x5), some (.int x6), none, none, none, none]) (fun f => rfl) (ob225_55 d k19 hk19 x0 x1 x2 x3 x4 x5 x6 (1 : Int32) S)
def b225_19 (k19 : Nat → Int32 → Int32 → Int32 → Int32 → Int32 → Int32 → Sx → Option (Int32 × Sx)) (x0 : Nat) (x1 : Int32) (x2 : Int32) (x3 : Int32) (x4 : Int32) (x5 : Int32) (x6 : Int32) (S : Sx) : Option (Int32 × Sx) :=
  if oc S x0 12 = true then if (S.2.1 x0 4) ≤ x6 then some (x5 + (1 : Int32), S) else if x6 < 0 then b225_50 k19 x0 x1 x2 x3 x4 x5 x6 S else if oc S x0 12 = true then (S.2.2.2.1 x0 8).bind fun a4 => if inb (1 : Int32) (al S a4) = true then if oc S x0 12 = true then (m174 x0 x6 (S.2.1 a4 (1 : Int32).toNatClampNeg) S).bind fun q5 => if q5.1 = x4 then b225_50 k19 x0 x1 x2 x3 x4 x5 x6 q5.2 else b225_55 k19 x0 x1 x2 x3 x4 x5 x6 (0 : Int32) q5.2 else none else none else none else none
set_option maxRecDepth 100000 in
theorem ob225_19 (d : Nat) (k19 : Nat → Int32 → Int32 → Int32 → Int32 → Int32 → Int32 → Sx → Option (Int32 × Sx)) (hk19 : ∀ (x0 : Nat) (x1 : Int32) (x2 : Int32) (x3 : Int32) (x4 : Int32) (x5 : Int32) (x6 : Int32) (S : Sx), OkF wI (fun f => rk px kx f (d + 3) 225 19 [some (.ref x0), some (.int x1), some (.int x2), some (.int x3), some (.int x4), some (.int x5), some (.int x6), none, none, none, none] [] S) (k19 x0 x1 x2 x3 x4 x5 x6 S)) (x0 : Nat) (x1 : Int32) (x2 : Int32) (x3 : Int32) (x4 : Int32) (x5 : Int32) (x6 : Int32) (S : Sx) : OkF wI (fun f => rk px kx f (d + 3) 225 19 [some (.ref x0), some (.int x1), some (.int x2), some (.int x3), some (.int x4), some (.int x5), some (.int x6), none, none, none, none] [] S) (b225_19 k19 x0 x1 x2 x3 x4 x5 x6 S) := by
  unfold b225_19
  refine OkF.eq 3 (Y := fun f => if oc S x0 12 = true then rk px kx f (d + 3) 225 25 [some (.ref x0), some (.int x1), some (.int x2), some (.int x3), some (.int x4), some (.int x5), some (.int x6), none, none, none, none] [.int (S.2.1 x0 4), .int x6] S else none) (fun f => rfl) ?_
  refine OkF.grd (fun _ => ?_)
  refine OkF.eq 1 (Y := fun f => if (S.2.1 x0 4) ≤ x6 then rk px kx f (d + 3) 225 188 [some (.ref x0), some (.int x1), some (.int x2), some (.int x3), some (.int x4), some (.int x5), some (.int x6), none, none, none, none] [] S else rk px kx f (d + 3) 225 28 [some (.ref x0), some (.int x1), some (.int x2), some (.int x3), some (.int x4), some (.int x5), some (.int x6), none, none, none, none] [] S) (fun f => rfl) ?_
  refine OkF.ite (fun _ => ?_) (fun _ => ?_)
  · exact OkF.ret 4 (fun f => rfl)
  · refine OkF.eq 2 (Y := fun f => if x6 < 0 then rk px kx f (d + 3) 225 50 [some (.ref x0), some (.int x1), some (.int x2), some (.int x3), some (.int x4), some (.int x5), some (.int x6), none, none, none, none] [] S else rk px kx f (d + 3) 225 33 [some (.ref x0), some (.int x1), some (.int x2), some (.int x3), some (.int x4), some (.int x5), some (.int x6), none, none, none, none] [] S) (fun f => rfl) ?_
    refine OkF.ite (fun _ => ?_) (fun _ => ?_)
    · exact OkF.kl (ls1 := [some (.ref x0), some (.int x1), some (.int x2), some (.int x3), some (.int x4), some (.int x5), some (.int x6), none, none, none, none]) (fun f => rfl) (ob225_50 d k19 hk19 x0 x1 x2 x3 x4 x5 x6 S)
    · refine OkF.eq 4 (Y := fun f => if oc S x0 12 = true then rk px kx f (d + 3) 225 40 [some (.ref x0), some (.int x1), some (.int x2), some (.int x3), some (.int x4), some (.int x5), some (.int x6), none, none, none, none] (va_rf (S.2.2.2.1 x0 8) :: [.int x6, .ref x0]) S else none) (fun f => rfl) ?_
      refine OkF.grd (fun _ => ?_)
      refine OkF.rf (fun a4 => ?_)
      refine OkF.eq 2 (Y := fun f => if inb (1 : Int32) (al S a4) = true then rk px kx f (d + 3) 225 42 [some (.ref x0), some (.int x1), some (.int x2), some (.int x3), some (.int x4), some (.int x5), some (.int x6), none, none, none, none] [.int (S.2.1 a4 (1 : Int32).toNatClampNeg), .int x6, .ref x0] S else none) (fun f => rfl) ?_
      refine OkF.grd (fun _ => ?_)
      refine OkF.eq 1 (Y := fun f => if oc S x0 12 = true then (rk px kx f (d + 2) 174 0 [some (.ref x0), some (.int x6), some (.int (S.2.1 a4 (1 : Int32).toNatClampNeg))] [] S).bind (fun q => rk px kx f (d + 3) 225 45 [some (.ref x0), some (.int x1), some (.int x2), some (.int x3), some (.int x4), some (.int x5), some (.int x6), none, none, none, none] (q.1.toList ++ []) q.2) else none) (fun f => rfl) ?_
      refine OkF.grd (fun _ => ?_)
      refine OkF.bind (w1 := wI) (om174 (d + 0) x0 x6 (S.2.1 a4 (1 : Int32).toNatClampNeg) S) (fun q5 => ?_)
      refine OkF.eq 2 (Y := fun f => if q5.1 = x4 then rk px kx f (d + 3) 225 50 [some (.ref x0), some (.int x1), some (.int x2), some (.int x3), some (.int x4), some (.int x5), some (.int x6), none, none, none, none] [] q5.2 else rk px kx f (d + 3) 225 54 [some (.ref x0), some (.int x1), some (.int x2), some (.int x3), some (.int x4), some (.int x5), some (.int x6), none, none, none, none] [] q5.2) (fun f => rfl) ?_
      refine OkF.ite (fun _ => ?_) (fun _ => ?_)
      · exact OkF.kl (ls1 := [some (.ref x0), some (.int x1), some (.int x2), some (.int x3), some (.int x4), some (.int x5), some (.int x6), none, none, none, none]) (fun f => rfl) (ob225_50 d k19 hk19 x0 x1 x2 x3 x4 x5 x6 q5.2)
      · refine OkF.eq 1 (Y := fun f => rk px kx f (d + 3) 225 55 [some (.ref x0), some (.int x1), some (.int x2), some (.int x3), some (.int x4), some (.int x5), some (.int x6), none, none, none, none] [.int (0 : Int32)] q5.2) (fun f => rfl) ?_
        exact OkF.kl (ls1 := [some (.ref x0), some (.int x1), some (.int x2), some (.int x3), some (.int x4), some (.int x5), some (.int x6), none, none, none, none]) (fun f => rfl) (ob225_55 d k19 hk19 x0 x1 x2 x3 x4 x5 x6 (0 : Int32) q5.2)
def l225_19 : Nat → Nat → Int32 → Int32 → Int32 → Int32 → Int32 → Int32 → Sx → Option (Int32 × Sx)
  | 0 => fun _ _ _ _ _ _ _ _ => none
  | n + 1 => fun x0 x1 x2 x3 x4 x5 x6 S => b225_19 (l225_19 n) x0 x1 x2 x3 x4 x5 x6 S
set_option maxRecDepth 100000 in
theorem ol225_19 (d : Nat) : ∀ (n : Nat) (x0 : Nat) (x1 : Int32) (x2 : Int32) (x3 : Int32) (x4 : Int32) (x5 : Int32) (x6 : Int32) (S : Sx), OkF wI (fun f => rk px kx f (d + 3) 225 19 [some (.ref x0), some (.int x1), some (.int x2), some (.int x3), some (.int x4), some (.int x5), some (.int x6), none, none, none, none] [] S) (l225_19 n x0 x1 x2 x3 x4 x5 x6 S) := by
  intro n
  induction n with
  | zero => intro x0 x1 x2 x3 x4 x5 x6 S; exact OkF.no
  | succ n ih => intro x0 x1 x2 x3 x4 x5 x6 S; exact ob225_19 d (l225_19 n) ih x0 x1 x2 x3 x4 x5 x6 S
def b225_9 (x0 : Nat) (x1 : Int32) (x2 : Int32) (x3 : Int32) (s0 : Int32) (S : Sx) : Option (Int32 × Sx) :=
  l225_19 1000 x0 x1 x2 x3 s0 (-9 : Int32) (-2 : Int32) S
set_option maxRecDepth 100000 in
theorem ob225_9 (d : Nat) (x0 : Nat) (x1 : Int32) (x2 : Int32) (x3 : Int32) (s0 : Int32) (S : Sx) : OkF wI (fun f => rk px kx f (d + 3) 225 9 [some (.ref x0), some (.int x1), some (.int x2), some (.int x3), none, none, none, none, none, none, none] [.int s0] S) (b225_9 x0 x1 x2 x3 s0 S) := by
  unfold b225_9
  refine OkF.eq 5 (Y := fun f => rk px kx f (d + 3) 225 19 [some (.ref x0), some (.int x1), some (.int x2), some (.int x3), some (.int s0), some (.int (-9 : Int32)), some (.int (-2 : Int32)), none, none, none, none] [] S) (fun f => rfl) ?_
  exact OkF.kl (ls1 := [some (.ref x0), some (.int x1), some (.int x2), some (.int x3), some (.int s0), some (.int (-9 : Int32)), some (.int (-2 : Int32)), none, none, none, none]) (fun f => rfl) (ol225_19 d 1000 x0 x1 x2 x3 s0 (-9 : Int32) (-2 : Int32) S)
def m225 (x0 : Nat) (x1 : Int32) (x2 : Int32) (x3 : Int32) (S : Sx) : Option (Int32 × Sx) :=
  if x3 = 0 then b225_9 x0 x1 x2 x3 x2 S else b225_9 x0 x1 x2 x3 x1 S
set_option maxRecDepth 100000 in
theorem om225 (d : Nat) (x0 : Nat) (x1 : Int32) (x2 : Int32) (x3 : Int32) (S : Sx) : OkF wI (fun f => rk px kx f (d + 3) 225 0 [some (.ref x0), some (.int x1), some (.int x2), some (.int x3), none, none, none, none, none, none, none] [] S) (m225 x0 x1 x2 x3 S) := by
  unfold m225
  refine OkF.eq 2 (Y := fun f => if x3 = 0 then rk px kx f (d + 3) 225 8 [some (.ref x0), some (.int x1), some (.int x2), some (.int x3), none, none, none, none, none, none, none] [] S else rk px kx f (d + 3) 225 4 [some (.ref x0), some (.int x1), some (.int x2), some (.int x3), none, none, none, none, none, none, none] [] S) (fun f => rfl) ?_
  refine OkF.ite (fun _ => ?_) (fun _ => ?_)
  · refine OkF.eq 1 (Y := fun f => rk px kx f (d + 3) 225 9 [some (.ref x0), some (.int x1), some (.int x2), some (.int x3), none, none, none, none, none, none, none] [.int x2] S) (fun f => rfl) ?_
    exact OkF.kl (ls1 := [some (.ref x0), some (.int x1), some (.int x2), some (.int x3), none, none, none, none, none, none, none]) (fun f => rfl) (ob225_9 d x0 x1 x2 x3 x2 S)
  · refine OkF.eq 2 (Y := fun f => rk px kx f (d + 3) 225 9 [some (.ref x0), some (.int x1), some (.int x2), some (.int x3), none, none, none, none, none, none, none] [.int x1] S) (fun f => rfl) ?_
    exact OkF.kl (ls1 := [some (.ref x0), some (.int x1), some (.int x2), some (.int x3), none, none, none, none, none, none, none]) (fun f => rfl) (ob225_9 d x0 x1 x2 x3 x1 S)
-- DoorSoldModel.chase(III)I
def b224_75 (k43 : Nat → Int32 → Int32 → Int32 → Int32 → Sx → Option (Int32 × Sx)) (x0 : Nat) (x1 : Int32) (x2 : Int32) (x3 : Int32) (x4 : Int32) (s0 : Nat) (s1 : Int32) (s2 : Int32) (S : Sx) : Option (Int32 × Sx) :=
  if inb s1 (aw S 1 s0) = true then lt (sI S s0 s1.toNatClampNeg s2) fun S1 => k43 x0 x1 x2 x3 (x4 + (1 : Int32)) S1 else none
set_option maxRecDepth 100000 in
theorem ob224_75 (d : Nat) (k43 : Nat → Int32 → Int32 → Int32 → Int32 → Sx → Option (Int32 × Sx)) (hk43 : ∀ (x0 : Nat) (x1 : Int32) (x2 : Int32) (x3 : Int32) (x4 : Int32) (S : Sx), OkF wI (fun f => rk px kx f (d + 4) 224 43 [some (.ref x0), some (.int x1), some (.int x2), some (.int x3), some (.int x4), none, none] [] S) (k43 x0 x1 x2 x3 x4 S)) (x0 : Nat) (x1 : Int32) (x2 : Int32) (x3 : Int32) (x4 : Int32) (s0 : Nat) (s1 : Int32) (s2 : Int32) (S : Sx) : OkF wI (fun f => rk px kx f (d + 4) 224 75 [some (.ref x0), some (.int x1), some (.int x2), some (.int x3), some (.int x4), none, none] [.int s2, .int s1, .ref s0] S) (b224_75 k43 x0 x1 x2 x3 x4 s0 s1 s2 S) := by
  unfold b224_75
  refine OkF.eq 1 (Y := fun f => if inb s1 (aw S 1 s0) = true then rk px kx f (d + 4) 224 76 [some (.ref x0), some (.int x1), some (.int x2), some (.int x3), some (.int x4), none, none] [] (sI S s0 s1.toNatClampNeg s2) else none) (fun f => rfl) ?_
  refine OkF.grd (fun _ => ?_)
  refine OkF.nm (fun S1 => ?_)
  refine OkF.eq 2 (Y := fun f => rk px kx f (d + 4) 224 43 [some (.ref x0), some (.int x1), some (.int x2), some (.int x3), some (.int (x4 + (1 : Int32))), none, none] [] S1) (fun f => rfl) ?_
  exact OkF.kl (ls1 := [some (.ref x0), some (.int x1), some (.int x2), some (.int x3), some (.int (x4 + (1 : Int32))), none, none]) (fun f => rfl) (hk43 x0 x1 x2 x3 (x4 + (1 : Int32)) S1)
def b224_180 (k87 : Nat → Int32 → Int32 → Int32 → Sx → Option (Int32 × Sx)) (k95 : Nat → Int32 → Int32 → Int32 → Int32 → Sx → Option (Int32 × Sx)) (x0 : Nat) (x1 : Int32) (x2 : Int32) (x4 : Int32) (x5 : Int32) (s0 : Nat) (s1 : Int32) (s2 : Int32) (S : Sx) : Option (Int32 × Sx) :=
  if inb s1 (aw S 1 s0) = true then lt (sI S s0 s1.toNatClampNeg s2) fun S2 => k95 x0 x1 x2 x4 (x5 + (1 : Int32)) S2 else none
set_option maxRecDepth 100000 in
theorem ob224_180 (d : Nat) (k87 : Nat → Int32 → Int32 → Int32 → Sx → Option (Int32 × Sx)) (hk87 : ∀ (x0 : Nat) (x1 : Int32) (x2 : Int32) (x4 : Int32) (S : Sx), OkF wI (fun f => rk px kx f (d + 4) 224 87 [some (.ref x0), some (.int x1), some (.int x2), none, some (.int x4), none, none] [] S) (k87 x0 x1 x2 x4 S)) (k95 : Nat → Int32 → Int32 → Int32 → Int32 → Sx → Option (Int32 × Sx)) (hk95 : ∀ (x0 : Nat) (x1 : Int32) (x2 : Int32) (x4 : Int32) (x5 : Int32) (S : Sx), OkF wI (fun f => rk px kx f (d + 4) 224 95 [some (.ref x0), some (.int x1), some (.int x2), none, some (.int x4), some (.int x5), none] [] S) (k95 x0 x1 x2 x4 x5 S)) (x0 : Nat) (x1 : Int32) (x2 : Int32) (x4 : Int32) (x5 : Int32) (s0 : Nat) (s1 : Int32) (s2 : Int32) (S : Sx) : OkF wI (fun f => rk px kx f (d + 4) 224 180 [some (.ref x0), some (.int x1), some (.int x2), none, some (.int x4), some (.int x5), none] [.int s2, .int s1, .ref s0] S) (b224_180 k87 k95 x0 x1 x2 x4 x5 s0 s1 s2 S) := by
  unfold b224_180
  refine OkF.eq 1 (Y := fun f => if inb s1 (aw S 1 s0) = true then rk px kx f (d + 4) 224 181 [some (.ref x0), some (.int x1), some (.int x2), none, some (.int x4), some (.int x5), none] [] (sI S s0 s1.toNatClampNeg s2) else none) (fun f => rfl) ?_
  refine OkF.grd (fun _ => ?_)
  refine OkF.nm (fun S2 => ?_)
  refine OkF.eq 2 (Y := fun f => rk px kx f (d + 4) 224 95 [some (.ref x0), some (.int x1), some (.int x2), none, some (.int x4), some (.int (x5 + (1 : Int32))), none] [] S2) (fun f => rfl) ?_
  exact OkF.kl (ls1 := [some (.ref x0), some (.int x1), some (.int x2), none, some (.int x4), some (.int (x5 + (1 : Int32))), none]) (fun f => rfl) (hk95 x0 x1 x2 x4 (x5 + (1 : Int32)) S2)
def b224_173 (k87 : Nat → Int32 → Int32 → Int32 → Sx → Option (Int32 × Sx)) (k95 : Nat → Int32 → Int32 → Int32 → Int32 → Sx → Option (Int32 × Sx)) (x0 : Nat) (x1 : Int32) (x2 : Int32) (x4 : Int32) (x5 : Int32) (s0 : Nat) (s1 : Int32) (s2 : Nat) (s3 : Int32) (s4 : Int32) (s5 : Int32) (S : Sx) : Option (Int32 × Sx) :=
  if oc S s2 12 = true then (m225 s2 s3 s4 s5 S).bind fun q3 => b224_180 k87 k95 x0 x1 x2 x4 x5 s0 s1 q3.1 q3.2 else none
set_option maxRecDepth 100000 in
theorem ob224_173 (d : Nat) (k87 : Nat → Int32 → Int32 → Int32 → Sx → Option (Int32 × Sx)) (hk87 : ∀ (x0 : Nat) (x1 : Int32) (x2 : Int32) (x4 : Int32) (S : Sx), OkF wI (fun f => rk px kx f (d + 4) 224 87 [some (.ref x0), some (.int x1), some (.int x2), none, some (.int x4), none, none] [] S) (k87 x0 x1 x2 x4 S)) (k95 : Nat → Int32 → Int32 → Int32 → Int32 → Sx → Option (Int32 × Sx)) (hk95 : ∀ (x0 : Nat) (x1 : Int32) (x2 : Int32) (x4 : Int32) (x5 : Int32) (S : Sx), OkF wI (fun f => rk px kx f (d + 4) 224 95 [some (.ref x0), some (.int x1), some (.int x2), none, some (.int x4), some (.int x5), none] [] S) (k95 x0 x1 x2 x4 x5 S)) (x0 : Nat) (x1 : Int32) (x2 : Int32) (x4 : Int32) (x5 : Int32) (s0 : Nat) (s1 : Int32) (s2 : Nat) (s3 : Int32) (s4 : Int32) (s5 : Int32) (S : Sx) : OkF wI (fun f => rk px kx f (d + 4) 224 173 [some (.ref x0), some (.int x1), some (.int x2), none, some (.int x4), some (.int x5), none] [.int s5, .int s4, .int s3, .ref s2, .int s1, .ref s0] S) (b224_173 k87 k95 x0 x1 x2 x4 x5 s0 s1 s2 s3 s4 s5 S) := by
  unfold b224_173
  refine OkF.eq 1 (Y := fun f => if oc S s2 12 = true then (rk px kx f (d + 3) 225 0 [some (.ref s2), some (.int s3), some (.int s4), some (.int s5), none, none, none, none, none, none, none] [] S).bind (fun q => rk px kx f (d + 4) 224 176 [some (.ref x0), some (.int x1), some (.int x2), none, some (.int x4), some (.int x5), none] (q.1.toList ++ [.int s1, .ref s0]) q.2) else none) (fun f => rfl) ?_
  refine OkF.grd (fun _ => ?_)
  refine OkF.bind (w1 := wI) (om225 (d + 0) s2 s3 s4 s5 S) (fun q3 => ?_)
  refine OkF.eq 1 (Y := fun f => rk px kx f (d + 4) 224 180 [some (.ref x0), some (.int x1), some (.int x2), none, some (.int x4), some (.int x5), none] [.int q3.1, .int s1, .ref s0] q3.2) (fun f => rfl) ?_
  exact OkF.kl (ls1 := [some (.ref x0), some (.int x1), some (.int x2), none, some (.int x4), some (.int x5), none]) (fun f => rfl) (ob224_180 d k87 hk87 k95 hk95 x0 x1 x2 x4 x5 s0 s1 q3.1 q3.2)
def b224_137 (k87 : Nat → Int32 → Int32 → Int32 → Sx → Option (Int32 × Sx)) (k95 : Nat → Int32 → Int32 → Int32 → Int32 → Sx → Option (Int32 × Sx)) (x0 : Nat) (x1 : Int32) (x2 : Int32) (x4 : Int32) (x5 : Int32) (s0 : Int32) (S : Sx) : Option (Int32 × Sx) :=
  if oc S x0 12 = true then (S.2.2.2.1 x0 27).bind fun a4 => if s0 = 0 then b224_180 k87 k95 x0 x1 x2 x4 x5 a4 x5 (0 : Int32) S else if (7 : Int32) = 0 then none else if (7 : Int32) = 0 then none else if (2 : Int32) = 0 then none else if (x4 - x4 / (2 : Int32) * (2 : Int32)) = 0 then b224_173 k87 k95 x0 x1 x2 x4 x5 a4 x5 x0 (x5 / (7 : Int32)) (x5 - x5 / (7 : Int32) * (7 : Int32)) (1 : Int32) S else b224_173 k87 k95 x0 x1 x2 x4 x5 a4 x5 x0 (x5 / (7 : Int32)) (x5 - x5 / (7 : Int32) * (7 : Int32)) (0 : Int32) S else none
set_option maxRecDepth 100000 in
theorem ob224_137 (d : Nat) (k87 : Nat → Int32 → Int32 → Int32 → Sx → Option (Int32 × Sx)) (hk87 : ∀ (x0 : Nat) (x1 : Int32) (x2 : Int32) (x4 : Int32) (S : Sx), OkF wI (fun f => rk px kx f (d + 4) 224 87 [some (.ref x0), some (.int x1), some (.int x2), none, some (.int x4), none, none] [] S) (k87 x0 x1 x2 x4 S)) (k95 : Nat → Int32 → Int32 → Int32 → Int32 → Sx → Option (Int32 × Sx)) (hk95 : ∀ (x0 : Nat) (x1 : Int32) (x2 : Int32) (x4 : Int32) (x5 : Int32) (S : Sx), OkF wI (fun f => rk px kx f (d + 4) 224 95 [some (.ref x0), some (.int x1), some (.int x2), none, some (.int x4), some (.int x5), none] [] S) (k95 x0 x1 x2 x4 x5 S)) (x0 : Nat) (x1 : Int32) (x2 : Int32) (x4 : Int32) (x5 : Int32) (s0 : Int32) (S : Sx) : OkF wI (fun f => rk px kx f (d + 4) 224 137 [some (.ref x0), some (.int x1), some (.int x2), none, some (.int x4), some (.int x5), none] [.int s0] S) (b224_137 k87 k95 x0 x1 x2 x4 x5 s0 S) := by
  unfold b224_137
  refine OkF.eq 3 (Y := fun f => if oc S x0 12 = true then rk px kx f (d + 4) 224 143 [some (.ref x0), some (.int x1), some (.int x2), none, some (.int x4), some (.int x5), some (.int s0)] (va_rf (S.2.2.2.1 x0 27) :: []) S else none) (fun f => rfl) ?_
  refine OkF.grd (fun _ => ?_)
  refine OkF.rf (fun a4 => ?_)
  refine OkF.eq 3 (Y := fun f => if s0 = 0 then rk px kx f (d + 4) 224 179 [some (.ref x0), some (.int x1), some (.int x2), none, some (.int x4), some (.int x5), some (.int s0)] [.int x5, .ref a4] S else rk px kx f (d + 4) 224 150 [some (.ref x0), some (.int x1), some (.int x2), none, some (.int x4), some (.int x5), some (.int s0)] [.int x5, .ref a4] S) (fun f => rfl) ?_
  refine OkF.ite (fun _ => ?_) (fun _ => ?_)
  · refine OkF.eq 1 (Y := fun f => rk px kx f (d + 4) 224 180 [some (.ref x0), some (.int x1), some (.int x2), none, some (.int x4), some (.int x5), some (.int s0)] [.int (0 : Int32), .int x5, .ref a4] S) (fun f => rfl) ?_
    exact OkF.kl (ls1 := [some (.ref x0), some (.int x1), some (.int x2), none, some (.int x4), some (.int x5), none]) (fun f => rfl) (ob224_180 d k87 hk87 k95 hk95 x0 x1 x2 x4 x5 a4 x5 (0 : Int32) S)
  · refine OkF.eq 4 (Y := fun f => if (7 : Int32) = 0 then none else rk px kx f (d + 4) 224 156 [some (.ref x0), some (.int x1), some (.int x2), none, some (.int x4), some (.int x5), some (.int s0)] [.int (x5 / (7 : Int32)), .ref x0, .int x5, .ref a4] S) (fun f => rfl) ?_
    refine OkF.ngr (fun _ => ?_)
    refine OkF.eq 3 (Y := fun f => if (7 : Int32) = 0 then none else rk px kx f (d + 4) 224 161 [some (.ref x0), some (.int x1), some (.int x2), none, some (.int x4), some (.int x5), some (.int s0)] [.int (x5 - x5 / (7 : Int32) * (7 : Int32)), .int (x5 / (7 : Int32)), .ref x0, .int x5, .ref a4] S) (fun f => rfl) ?_
    refine OkF.ngr (fun _ => ?_)
    refine OkF.eq 3 (Y := fun f => if (2 : Int32) = 0 then none else rk px kx f (d + 4) 224 165 [some (.ref x0), some (.int x1), some (.int x2), none, some (.int x4), some (.int x5), some (.int s0)] [.int (x4 - x4 / (2 : Int32) * (2 : Int32)), .int (x5 - x5 / (7 : Int32) * (7 : Int32)), .int (x5 / (7 : Int32)), .ref x0, .int x5, .ref a4] S) (fun f => rfl) ?_
    refine OkF.ngr (fun _ => ?_)
    refine OkF.eq 1 (Y := fun f => if (x4 - x4 / (2 : Int32) * (2 : Int32)) = 0 then rk px kx f (d + 4) 224 168 [some (.ref x0), some (.int x1), some (.int x2), none, some (.int x4), some (.int x5), some (.int s0)] [.int (x5 - x5 / (7 : Int32) * (7 : Int32)), .int (x5 / (7 : Int32)), .ref x0, .int x5, .ref a4] S else rk px kx f (d + 4) 224 172 [some (.ref x0), some (.int x1), some (.int x2), none, some (.int x4), some (.int x5), some (.int s0)] [.int (x5 - x5 / (7 : Int32) * (7 : Int32)), .int (x5 / (7 : Int32)), .ref x0, .int x5, .ref a4] S) (fun f => rfl) ?_
    refine OkF.ite (fun _ => ?_) (fun _ => ?_)
    · refine OkF.eq 2 (Y := fun f => rk px kx f (d + 4) 224 173 [some (.ref x0), some (.int x1), some (.int x2), none, some (.int x4), some (.int x5), some (.int s0)] [.int (1 : Int32), .int (x5 - x5 / (7 : Int32) * (7 : Int32)), .int (x5 / (7 : Int32)), .ref x0, .int x5, .ref a4] S) (fun f => rfl) ?_
      exact OkF.kl (ls1 := [some (.ref x0), some (.int x1), some (.int x2), none, some (.int x4), some (.int x5), none]) (fun f => rfl) (ob224_173 d k87 hk87 k95 hk95 x0 x1 x2 x4 x5 a4 x5 x0 (x5 / (7 : Int32)) (x5 - x5 / (7 : Int32) * (7 : Int32)) (1 : Int32) S)
    · refine OkF.eq 1 (Y := fun f => rk px kx f (d + 4) 224 173 [some (.ref x0), some (.int x1), some (.int x2), none, some (.int x4), some (.int x5), some (.int s0)] [.int (0 : Int32), .int (x5 - x5 / (7 : Int32) * (7 : Int32)), .int (x5 / (7 : Int32)), .ref x0, .int x5, .ref a4] S) (fun f => rfl) ?_
      exact OkF.kl (ls1 := [some (.ref x0), some (.int x1), some (.int x2), none, some (.int x4), some (.int x5), none]) (fun f => rfl) (ob224_173 d k87 hk87 k95 hk95 x0 x1 x2 x4 x5 a4 x5 x0 (x5 / (7 : Int32)) (x5 - x5 / (7 : Int32) * (7 : Int32)) (0 : Int32) S)
def b224_136 (k87 : Nat → Int32 → Int32 → Int32 → Sx → Option (Int32 × Sx)) (k95 : Nat → Int32 → Int32 → Int32 → Int32 → Sx → Option (Int32 × Sx)) (x0 : Nat) (x1 : Int32) (x2 : Int32) (x4 : Int32) (x5 : Int32) (S : Sx) : Option (Int32 × Sx) :=
  b224_137 k87 k95 x0 x1 x2 x4 x5 (0 : Int32) S
set_option maxRecDepth 100000 in
theorem ob224_136 (d : Nat) (k87 : Nat → Int32 → Int32 → Int32 → Sx → Option (Int32 × Sx)) (hk87 : ∀ (x0 : Nat) (x1 : Int32) (x2 : Int32) (x4 : Int32) (S : Sx), OkF wI (fun f => rk px kx f (d + 4) 224 87 [some (.ref x0), some (.int x1), some (.int x2), none, some (.int x4), none, none] [] S) (k87 x0 x1 x2 x4 S)) (k95 : Nat → Int32 → Int32 → Int32 → Int32 → Sx → Option (Int32 × Sx)) (hk95 : ∀ (x0 : Nat) (x1 : Int32) (x2 : Int32) (x4 : Int32) (x5 : Int32) (S : Sx), OkF wI (fun f => rk px kx f (d + 4) 224 95 [some (.ref x0), some (.int x1), some (.int x2), none, some (.int x4), some (.int x5), none] [] S) (k95 x0 x1 x2 x4 x5 S)) (x0 : Nat) (x1 : Int32) (x2 : Int32) (x4 : Int32) (x5 : Int32) (S : Sx) : OkF wI (fun f => rk px kx f (d + 4) 224 136 [some (.ref x0), some (.int x1), some (.int x2), none, some (.int x4), some (.int x5), none] [] S) (b224_136 k87 k95 x0 x1 x2 x4 x5 S) := by
  unfold b224_136
  refine OkF.eq 1 (Y := fun f => rk px kx f (d + 4) 224 137 [some (.ref x0), some (.int x1), some (.int x2), none, some (.int x4), some (.int x5), none] [.int (0 : Int32)] S) (fun f => rfl) ?_
  exact OkF.kl (ls1 := [some (.ref x0), some (.int x1), some (.int x2), none, some (.int x4), some (.int x5), none]) (fun f => rfl) (ob224_137 d k87 hk87 k95 hk95 x0 x1 x2 x4 x5 (0 : Int32) S)
def b224_95 (k87 : Nat → Int32 → Int32 → Int32 → Sx → Option (Int32 × Sx)) (k95 : Nat → Int32 → Int32 → Int32 → Int32 → Sx → Option (Int32 × Sx)) (x0 : Nat) (x1 : Int32) (x2 : Int32) (x4 : Int32) (x5 : Int32) (S : Sx) : Option (Int32 × Sx) :=
  if oc S x0 12 = true then if ((7 : Int32) * (S.2.1 x0 5)) ≤ x5 then if oc S x0 12 = true then (S.2.2.2.1 x0 27).bind fun a5 => if oc S x0 12 = true then (S.2.2.2.1 x0 26).bind fun a6 => (m191 a5 (0 : Int32) a6 (0 : Int32) (49 : Int32) S).bind fun q7 => k87 x0 x1 x2 (x4 + (-1 : Int32)) q7 else none else none else if (7 : Int32) = 0 then none else if oc S x0 12 = true then if (S.2.1 x0 5) ≤ (x5 - x5 / (7 : Int32) * (7 : Int32)) then b224_136 k87 k95 x0 x1 x2 x4 x5 S else if (7 : Int32) = 0 then none else if (7 : Int32) = 0 then none else if (x5 / (7 : Int32)) = (x5 - x5 / (7 : Int32) * (7 : Int32)) then b224_136 k87 k95 x0 x1 x2 x4 x5 S else b224_137 k87 k95 x0 x1 x2 x4 x5 (1 : Int32) S else none else none
set_option maxRecDepth 100000 in
theorem ob224_95 (d : Nat) (k87 : Nat → Int32 → Int32 → Int32 → Sx → Option (Int32 × Sx)) (hk87 : ∀ (x0 : Nat) (x1 : Int32) (x2 : Int32) (x4 : Int32) (S : Sx), OkF wI (fun f => rk px kx f (d + 4) 224 87 [some (.ref x0), some (.int x1), some (.int x2), none, some (.int x4), none, none] [] S) (k87 x0 x1 x2 x4 S)) (k95 : Nat → Int32 → Int32 → Int32 → Int32 → Sx → Option (Int32 × Sx)) (hk95 : ∀ (x0 : Nat) (x1 : Int32) (x2 : Int32) (x4 : Int32) (x5 : Int32) (S : Sx), OkF wI (fun f => rk px kx f (d + 4) 224 95 [some (.ref x0), some (.int x1), some (.int x2), none, some (.int x4), some (.int x5), none] [] S) (k95 x0 x1 x2 x4 x5 S)) (x0 : Nat) (x1 : Int32) (x2 : Int32) (x4 : Int32) (x5 : Int32) (S : Sx) : OkF wI (fun f => rk px kx f (d + 4) 224 95 [some (.ref x0), some (.int x1), some (.int x2), none, some (.int x4), some (.int x5), none] [] S) (b224_95 k87 k95 x0 x1 x2 x4 x5 S) := by
  unfold b224_95
  refine OkF.eq 4 (Y := fun f => if oc S x0 12 = true then rk px kx f (d + 4) 224 103 [some (.ref x0), some (.int x1), some (.int x2), none, some (.int x4), some (.int x5), none] [.int (S.2.1 x0 5), .int (7 : Int32), .int x5] S else none) (fun f => rfl) ?_
  refine OkF.grd (fun _ => ?_)
  refine OkF.eq 2 (Y := fun f => if ((7 : Int32) * (S.2.1 x0 5)) ≤ x5 then rk px kx f (d + 4) 224 187 [some (.ref x0), some (.int x1), some (.int x2), none, some (.int x4), some (.int x5), none] [] S else rk px kx f (d + 4) 224 107 [some (.ref x0), some (.int x1), some (.int x2), none, some (.int x4), some (.int x5), none] [] S) (fun f => rfl) ?_
  refine OkF.ite (fun _ => ?_) (fun _ => ?_)
  · refine OkF.eq 2 (Y := fun f => if oc S x0 12 = true then rk px kx f (d + 4) 224 191 [some (.ref x0), some (.int x1), some (.int x2), none, some (.int x4), some (.int x5), none] (va_rf (S.2.2.2.1 x0 27) :: []) S else none) (fun f => rfl) ?_
    refine OkF.grd (fun _ => ?_)
    refine OkF.rf (fun a5 => ?_)
    refine OkF.eq 3 (Y := fun f => if oc S x0 12 = true then rk px kx f (d + 4) 224 196 [some (.ref x0), some (.int x1), some (.int x2), none, some (.int x4), some (.int x5), none] (va_rf (S.2.2.2.1 x0 26) :: [.int (0 : Int32), .ref a5]) S else none) (fun f => rfl) ?_
    refine OkF.grd (fun _ => ?_)
    refine OkF.rf (fun a6 => ?_)
    refine OkF.eq 3 (Y := fun f => (rk px kx f (d + 3) 191 0 [some (.ref a5), some (.int (0 : Int32)), some (.ref a6), some (.int (0 : Int32)), some (.int (49 : Int32)), none] [] S).bind (fun q => rk px kx f (d + 4) 224 202 [some (.ref x0), some (.int x1), some (.int x2), none, some (.int x4), some (.int x5), none] (q.1.toList ++ []) q.2)) (fun f => rfl) ?_
    refine OkF.bind (w1 := wV) (om191 (d + 3) a5 (0 : Int32) a6 (0 : Int32) (49 : Int32) S) (fun q7 => ?_)
    refine OkF.eq 1 (Y := fun f => rk px kx f (d + 4) 224 205 [some (.ref x0), some (.int x1), some (.int x2), none, some (.int (x4 + (-1 : Int32))), some (.int x5), none] [] q7) (fun f => Eq.trans (b := stp px (rk px kx f) (d + 4) 224 (202, .iinc 4 (-1), 205, 4, (-1), 0, []) [some (.ref x0), some (.int x1), some (.int x2), none, some (.int x4), some (.int x5), none] [] q7) rfl rfl) ?_
    refine OkF.eq 1 (Y := fun f => rk px kx f (d + 4) 224 87 [some (.ref x0), some (.int x1), some (.int x2), none, some (.int (x4 + (-1 : Int32))), some (.int x5), none] [] q7) (fun f => rfl) ?_
    exact OkF.kl (ls1 := [some (.ref x0), some (.int x1), some (.int x2), none, some (.int (x4 + (-1 : Int32))), none, none]) (fun f => rfl) (hk87 x0 x1 x2 (x4 + (-1 : Int32)) q7)
  · refine OkF.eq 3 (Y := fun f => if (7 : Int32) = 0 then none else rk px kx f (d + 4) 224 112 [some (.ref x0), some (.int x1), some (.int x2), none, some (.int x4), some (.int x5), none] [.int (x5 - x5 / (7 : Int32) * (7 : Int32))] S) (fun f => rfl) ?_
    refine OkF.ngr (fun _ => ?_)
    refine OkF.eq 2 (Y := fun f => if oc S x0 12 = true then rk px kx f (d + 4) 224 116 [some (.ref x0), some (.int x1), some (.int x2), none, some (.int x4), some (.int x5), none] [.int (S.2.1 x0 5), .int (x5 - x5 / (7 : Int32) * (7 : Int32))] S else none) (fun f => rfl) ?_
    refine OkF.grd (fun _ => ?_)
    refine OkF.eq 1 (Y := fun f => if (S.2.1 x0 5) ≤ (x5 - x5 / (7 : Int32) * (7 : Int32)) then rk px kx f (d + 4) 224 136 [some (.ref x0), some (.int x1), some (.int x2), none, some (.int x4), some (.int x5), none] [] S else rk px kx f (d + 4) 224 119 [some (.ref x0), some (.int x1), some (.int x2), none, some (.int x4), some (.int x5), none] [] S) (fun f => rfl) ?_
    refine OkF.ite (fun _ => ?_) (fun _ => ?_)
    · exact OkF.kl (ls1 := [some (.ref x0), some (.int x1), some (.int x2), none, some (.int x4), some (.int x5), none]) (fun f => rfl) (ob224_136 d k87 hk87 k95 hk95 x0 x1 x2 x4 x5 S)
    · refine OkF.eq 3 (Y := fun f => if (7 : Int32) = 0 then none else rk px kx f (d + 4) 224 124 [some (.ref x0), some (.int x1), some (.int x2), none, some (.int x4), some (.int x5), none] [.int (x5 / (7 : Int32))] S) (fun f => rfl) ?_
      refine OkF.ngr (fun _ => ?_)
      refine OkF.eq 3 (Y := fun f => if (7 : Int32) = 0 then none else rk px kx f (d + 4) 224 129 [some (.ref x0), some (.int x1), some (.int x2), none, some (.int x4), some (.int x5), none] [.int (x5 - x5 / (7 : Int32) * (7 : Int32)), .int (x5 / (7 : Int32))] S) (fun f => rfl) ?_
      refine OkF.ngr (fun _ => ?_)
      refine OkF.eq 1 (Y := fun f => if (x5 / (7 : Int32)) = (x5 - x5 / (7 : Int32) * (7 : Int32)) then rk px kx f (d + 4) 224 136 [some (.ref x0), some (.int x1), some (.int x2), none, some (.int x4), some (.int x5), none] [] S else rk px kx f (d + 4) 224 132 [some (.ref x0), some (.int x1), some (.int x2), none, some (.int x4), some (.int x5), none] [] S) (fun f => rfl) ?_
      refine OkF.ite (fun _ => ?_) (fun _ => ?_)
      · exact OkF.kl (ls1 := [some (.ref x0), some (.int x1), some (.int x2), none, some (.int x4), some (.int x5), none]) (fun f => rfl) (ob224_136 d k87 hk87 k95 hk95 x0 x1 x2 x4 x5 S)
      · refine OkF.eq 2 (Y := fun f => rk px kx f (d + 4) 224 137 [some (.ref x0), some (.int x1), some (.int x2), none, some (.int x4), some (.int x5), none] [.int (1 : Int32)] S) (fun f => rfl) ?_
        exact OkF.kl (ls1 := [some (.ref x0), some (.int x1), some (.int x2), none, some (.int x4), some (.int x5), none]) (fun f => rfl) (ob224_137 d k87 hk87 k95 hk95 x0 x1 x2 x4 x5 (1 : Int32) S)
def l224_95 (k87 : Nat → Int32 → Int32 → Int32 → Sx → Option (Int32 × Sx)) : Nat → Nat → Int32 → Int32 → Int32 → Int32 → Sx → Option (Int32 × Sx)
  | 0 => fun _ _ _ _ _ _ => none
  | n + 1 => fun x0 x1 x2 x4 x5 S => b224_95 k87 (l224_95 k87 n) x0 x1 x2 x4 x5 S
set_option maxRecDepth 100000 in
theorem ol224_95 (d : Nat) (k87 : Nat → Int32 → Int32 → Int32 → Sx → Option (Int32 × Sx)) (hk87 : ∀ (x0 : Nat) (x1 : Int32) (x2 : Int32) (x4 : Int32) (S : Sx), OkF wI (fun f => rk px kx f (d + 4) 224 87 [some (.ref x0), some (.int x1), some (.int x2), none, some (.int x4), none, none] [] S) (k87 x0 x1 x2 x4 S)) : ∀ (n : Nat) (x0 : Nat) (x1 : Int32) (x2 : Int32) (x4 : Int32) (x5 : Int32) (S : Sx), OkF wI (fun f => rk px kx f (d + 4) 224 95 [some (.ref x0), some (.int x1), some (.int x2), none, some (.int x4), some (.int x5), none] [] S) (l224_95 k87 n x0 x1 x2 x4 x5 S) := by
  intro n
  induction n with
  | zero => intro x0 x1 x2 x4 x5 S; exact OkF.no
  | succ n ih => intro x0 x1 x2 x4 x5 S; exact ob224_95 d k87 hk87 (l224_95 k87 n) ih x0 x1 x2 x4 x5 S
def b224_87 (k87 : Nat → Int32 → Int32 → Int32 → Sx → Option (Int32 × Sx)) (x0 : Nat) (x1 : Int32) (x2 : Int32) (x4 : Int32) (S : Sx) : Option (Int32 × Sx) :=
  if x4 < 0 then if oc S x0 12 = true then (S.2.2.2.1 x0 26).bind fun a8 => if inb (((7 : Int32) * x1) + x2) (al S a8) = true then if (S.2.1 a8 (((7 : Int32) * x1) + x2).toNatClampNeg) < (1000000 : Int32) then some (S.2.1 a8 (((7 : Int32) * x1) + x2).toNatClampNeg, S) else some ((-9 : Int32), S) else none else none else l224_95 k87 1000 x0 x1 x2 x4 (0 : Int32) S
set_option maxRecDepth 100000 in
theorem ob224_87 (d : Nat) (k87 : Nat → Int32 → Int32 → Int32 → Sx → Option (Int32 × Sx)) (hk87 : ∀ (x0 : Nat) (x1 : Int32) (x2 : Int32) (x4 : Int32) (S : Sx), OkF wI (fun f => rk px kx f (d + 4) 224 87 [some (.ref x0), some (.int x1), some (.int x2), none, some (.int x4), none, none] [] S) (k87 x0 x1 x2 x4 S)) (x0 : Nat) (x1 : Int32) (x2 : Int32) (x4 : Int32) (S : Sx) : OkF wI (fun f => rk px kx f (d + 4) 224 87 [some (.ref x0), some (.int x1), some (.int x2), none, some (.int x4), none, none] [] S) (b224_87 k87 x0 x1 x2 x4 S) := by
  unfold b224_87
  refine OkF.eq 2 (Y := fun f => if x4 < 0 then rk px kx f (d + 4) 224 208 [some (.ref x0), some (.int x1), some (.int x2), none, some (.int x4), none, none] [] S else rk px kx f (d + 4) 224 92 [some (.ref x0), some (.int x1), some (.int x2), none, some (.int x4), none, none] [] S) (fun f => rfl) ?_
  refine OkF.ite (fun _ => ?_) (fun _ => ?_)
  · refine OkF.eq 2 (Y := fun f => if oc S x0 12 = true then rk px kx f (d + 4) 224 212 [some (.ref x0), some (.int x1), some (.int x2), none, some (.int x4), none, none] (va_rf (S.2.2.2.1 x0 26) :: []) S else none) (fun f => rfl) ?_
    refine OkF.grd (fun _ => ?_)
    refine OkF.rf (fun a8 => ?_)
    refine OkF.eq 6 (Y := fun f => if inb (((7 : Int32) * x1) + x2) (al S a8) = true then rk px kx f (d + 4) 224 219 [some (.ref x0), some (.int x1), some (.int x2), none, some (.int x4), none, none] [.int (S.2.1 a8 (((7 : Int32) * x1) + x2).toNatClampNeg)] S else none) (fun f => rfl) ?_
    refine OkF.grd (fun _ => ?_)
    refine OkF.eq 4 (Y := fun f => if (S.2.1 a8 (((7 : Int32) * x1) + x2).toNatClampNeg) < (1000000 : Int32) then rk px kx f (d + 4) 224 233 [some (.ref x0), some (.int x1), some (.int x2), none, some (.int (S.2.1 a8 (((7 : Int32) * x1) + x2).toNatClampNeg)), none, none] [] S else rk px kx f (d + 4) 224 228 [some (.ref x0), some (.int x1), some (.int x2), none, some (.int (S.2.1 a8 (((7 : Int32) * x1) + x2).toNatClampNeg)), none, none] [] S) (fun f => rfl) ?_
    refine OkF.ite (fun _ => ?_) (fun _ => ?_)
    · exact OkF.ret 2 (fun f => rfl)
    · exact OkF.ret 3 (fun f => rfl)
  · refine OkF.eq 2 (Y := fun f => rk px kx f (d + 4) 224 95 [some (.ref x0), some (.int x1), some (.int x2), none, some (.int x4), some (.int (0 : Int32)), none] [] S) (fun f => rfl) ?_
    exact OkF.kl (ls1 := [some (.ref x0), some (.int x1), some (.int x2), none, some (.int x4), some (.int (0 : Int32)), none]) (fun f => rfl) (ol224_95 d k87 hk87 1000 x0 x1 x2 x4 (0 : Int32) S)
def l224_87 : Nat → Nat → Int32 → Int32 → Int32 → Sx → Option (Int32 × Sx)
  | 0 => fun _ _ _ _ _ => none
  | n + 1 => fun x0 x1 x2 x4 S => b224_87 (l224_87 n) x0 x1 x2 x4 S
set_option maxRecDepth 100000 in
theorem ol224_87 (d : Nat) : ∀ (n : Nat) (x0 : Nat) (x1 : Int32) (x2 : Int32) (x4 : Int32) (S : Sx), OkF wI (fun f => rk px kx f (d + 4) 224 87 [some (.ref x0), some (.int x1), some (.int x2), none, some (.int x4), none, none] [] S) (l224_87 n x0 x1 x2 x4 S) := by
  intro n
  induction n with
  | zero => intro x0 x1 x2 x4 S; exact OkF.no
  | succ n ih => intro x0 x1 x2 x4 S; exact ob224_87 d (l224_87 n) ih x0 x1 x2 x4 S
def b224_43 (k43 : Nat → Int32 → Int32 → Int32 → Int32 → Sx → Option (Int32 × Sx)) (x0 : Nat) (x1 : Int32) (x2 : Int32) (x3 : Int32) (x4 : Int32) (S : Sx) : Option (Int32 × Sx) :=
  if (49 : Int32) ≤ x4 then l224_87 1000 x0 x1 x2 (x3 - (1 : Int32)) S else if oc S x0 12 = true then (S.2.2.2.1 x0 26).bind fun a9 => if (7 : Int32) = 0 then none else if (7 : Int32) = 0 then none else if (x4 / (7 : Int32)) = (x4 - x4 / (7 : Int32) * (7 : Int32)) then b224_75 k43 x0 x1 x2 x3 x4 a9 x4 (0 : Int32) S else b224_75 k43 x0 x1 x2 x3 x4 a9 x4 (1000000 : Int32) S else none
set_option maxRecDepth 100000 in
theorem ob224_43 (d : Nat) (k43 : Nat → Int32 → Int32 → Int32 → Int32 → Sx → Option (Int32 × Sx)) (hk43 : ∀ (x0 : Nat) (x1 : Int32) (x2 : Int32) (x3 : Int32) (x4 : Int32) (S : Sx), OkF wI (fun f => rk px kx f (d + 4) 224 43 [some (.ref x0), some (.int x1), some (.int x2), some (.int x3), some (.int x4), none, none] [] S) (k43 x0 x1 x2 x3 x4 S)) (x0 : Nat) (x1 : Int32) (x2 : Int32) (x3 : Int32) (x4 : Int32) (S : Sx) : OkF wI (fun f => rk px kx f (d + 4) 224 43 [some (.ref x0), some (.int x1), some (.int x2), some (.int x3), some (.int x4), none, none] [] S) (b224_43 k43 x0 x1 x2 x3 x4 S) := by
  unfold b224_43
  refine OkF.eq 3 (Y := fun f => if (49 : Int32) ≤ x4 then rk px kx f (d + 4) 224 82 [some (.ref x0), some (.int x1), some (.int x2), some (.int x3), some (.int x4), none, none] [] S else rk px kx f (d + 4) 224 50 [some (.ref x0), some (.int x1), some (.int x2), some (.int x3), some (.int x4), none, none] [] S) (fun f => rfl) ?_
  refine OkF.ite (fun _ => ?_) (fun _ => ?_)
  · refine OkF.eq 4 (Y := fun f => rk px kx f (d + 4) 224 87 [some (.ref x0), some (.int x1), some (.int x2), some (.int x3), some (.int (x3 - (1 : Int32))), none, none] [] S) (fun f => rfl) ?_
    exact OkF.kl (ls1 := [some (.ref x0), some (.int x1), some (.int x2), none, some (.int (x3 - (1 : Int32))), none, none]) (fun f => rfl) (ol224_87 d 1000 x0 x1 x2 (x3 - (1 : Int32)) S)
  · refine OkF.eq 2 (Y := fun f => if oc S x0 12 = true then rk px kx f (d + 4) 224 54 [some (.ref x0), some (.int x1), some (.int x2), some (.int x3), some (.int x4), none, none] (va_rf (S.2.2.2.1 x0 26) :: []) S else none) (fun f => rfl) ?_
    refine OkF.grd (fun _ => ?_)
    refine OkF.rf (fun a9 => ?_)
    refine OkF.eq 4 (Y := fun f => if (7 : Int32) = 0 then none else rk px kx f (d + 4) 224 61 [some (.ref x0), some (.int x1), some (.int x2), some (.int x3), some (.int x4), none, none] [.int (x4 / (7 : Int32)), .int x4, .ref a9] S) (fun f => rfl) ?_
    refine OkF.ngr (fun _ => ?_)
    refine OkF.eq 3 (Y := fun f => if (7 : Int32) = 0 then none else rk px kx f (d + 4) 224 66 [some (.ref x0), some (.int x1), some (.int x2), some (.int x3), some (.int x4), none, none] [.int (x4 - x4 / (7 : Int32) * (7 : Int32)), .int (x4 / (7 : Int32)), .int x4, .ref a9] S) (fun f => rfl) ?_
    refine OkF.ngr (fun _ => ?_)
    refine OkF.eq 1 (Y := fun f => if (x4 / (7 : Int32)) = (x4 - x4 / (7 : Int32) * (7 : Int32)) then rk px kx f (d + 4) 224 69 [some (.ref x0), some (.int x1), some (.int x2), some (.int x3), some (.int x4), none, none] [.int x4, .ref a9] S else rk px kx f (d + 4) 224 73 [some (.ref x0), some (.int x1), some (.int x2), some (.int x3), some (.int x4), none, none] [.int x4, .ref a9] S) (fun f => rfl) ?_
    refine OkF.ite (fun _ => ?_) (fun _ => ?_)
    · refine OkF.eq 2 (Y := fun f => rk px kx f (d + 4) 224 75 [some (.ref x0), some (.int x1), some (.int x2), some (.int x3), some (.int x4), none, none] [.int (0 : Int32), .int x4, .ref a9] S) (fun f => rfl) ?_
      exact OkF.kl (ls1 := [some (.ref x0), some (.int x1), some (.int x2), some (.int x3), some (.int x4), none, none]) (fun f => rfl) (ob224_75 d k43 hk43 x0 x1 x2 x3 x4 a9 x4 (0 : Int32) S)
    · refine OkF.eq 1 (Y := fun f => rk px kx f (d + 4) 224 75 [some (.ref x0), some (.int x1), some (.int x2), some (.int x3), some (.int x4), none, none] [.int (1000000 : Int32), .int x4, .ref a9] S) (fun f => rfl) ?_
      exact OkF.kl (ls1 := [some (.ref x0), some (.int x1), some (.int x2), some (.int x3), some (.int x4), none, none]) (fun f => rfl) (ob224_75 d k43 hk43 x0 x1 x2 x3 x4 a9 x4 (1000000 : Int32) S)
def l224_43 : Nat → Nat → Int32 → Int32 → Int32 → Int32 → Sx → Option (Int32 × Sx)
  | 0 => fun _ _ _ _ _ _ => none
  | n + 1 => fun x0 x1 x2 x3 x4 S => b224_43 (l224_43 n) x0 x1 x2 x3 x4 S
set_option maxRecDepth 100000 in
theorem ol224_43 (d : Nat) : ∀ (n : Nat) (x0 : Nat) (x1 : Int32) (x2 : Int32) (x3 : Int32) (x4 : Int32) (S : Sx), OkF wI (fun f => rk px kx f (d + 4) 224 43 [some (.ref x0), some (.int x1), some (.int x2), some (.int x3), some (.int x4), none, none] [] S) (l224_43 n x0 x1 x2 x3 x4 S) := by
  intro n
  induction n with
  | zero => intro x0 x1 x2 x3 x4 S; exact OkF.no
  | succ n ih => intro x0 x1 x2 x3 x4 S; exact ob224_43 d (l224_43 n) ih x0 x1 x2 x3 x4 S
def m224 (x0 : Nat) (x1 : Int32) (x2 : Int32) (x3 : Int32) (S : Sx) : Option (Int32 × Sx) :=
  if oc S x0 12 = true then if (S.2.1 x0 4) = 0 then some ((-4 : Int32), S) else if oc S x0 12 = true then (m208 x0 x1 S).bind fun q10 => if q10.1 = 0 then some ((-1 : Int32), q10.2) else if oc q10.2 x0 12 = true then (m208 x0 x2 q10.2).bind fun q11 => if q11.1 = 0 then some ((-1 : Int32), q11.2) else (m150 x3.toInt64 (0 : Int64) (6 : Int64) q11.2).bind fun q12 => if q12.1 = 0 then some ((-1 : Int32), q12.2) else l224_43 1000 x0 x1 x2 x3 (0 : Int32) q12.2 else none else none else none
set_option maxRecDepth 100000 in
theorem om224 (d : Nat) (x0 : Nat) (x1 : Int32) (x2 : Int32) (x3 : Int32) (S : Sx) : OkF wI (fun f => rk px kx f (d + 4) 224 0 [some (.ref x0), some (.int x1), some (.int x2), some (.int x3), none, none, none] [] S) (m224 x0 x1 x2 x3 S) := by
  unfold m224
  refine OkF.eq 2 (Y := fun f => if oc S x0 12 = true then rk px kx f (d + 4) 224 4 [some (.ref x0), some (.int x1), some (.int x2), some (.int x3), none, none, none] [.int (S.2.1 x0 4)] S else none) (fun f => rfl) ?_
  refine OkF.grd (fun _ => ?_)
  refine OkF.eq 1 (Y := fun f => if (S.2.1 x0 4) = 0 then rk px kx f (d + 4) 224 7 [some (.ref x0), some (.int x1), some (.int x2), some (.int x3), none, none, none] [] S else rk px kx f (d + 4) 224 10 [some (.ref x0), some (.int x1), some (.int x2), some (.int x3), none, none, none] [] S) (fun f => rfl) ?_
  refine OkF.ite (fun _ => ?_) (fun _ => ?_)
  · exact OkF.ret 2 (fun f => rfl)
  · refine OkF.eq 3 (Y := fun f => if oc S x0 12 = true then (rk px kx f (d + 3) 208 0 [some (.ref x0), some (.int x1)] [] S).bind (fun q => rk px kx f (d + 4) 224 15 [some (.ref x0), some (.int x1), some (.int x2), some (.int x3), none, none, none] (q.1.toList ++ []) q.2) else none) (fun f => rfl) ?_
    refine OkF.grd (fun _ => ?_)
    refine OkF.bind (w1 := wI) (om208 (d + 2) x0 x1 S) (fun q10 => ?_)
    refine OkF.eq 1 (Y := fun f => if q10.1 = 0 then rk px kx f (d + 4) 224 38 [some (.ref x0), some (.int x1), some (.int x2), some (.int x3), none, none, none] [] q10.2 else rk px kx f (d + 4) 224 18 [some (.ref x0), some (.int x1), some (.int x2), some (.int x3), none, none, none] [] q10.2) (fun f => rfl) ?_
    refine OkF.ite (fun _ => ?_) (fun _ => ?_)
    · exact OkF.ret 2 (fun f => rfl)
    · refine OkF.eq 3 (Y := fun f => if oc q10.2 x0 12 = true then (rk px kx f (d + 3) 208 0 [some (.ref x0), some (.int x2)] [] q10.2).bind (fun q => rk px kx f (d + 4) 224 23 [some (.ref x0), some (.int x1), some (.int x2), some (.int x3), none, none, none] (q.1.toList ++ []) q.2) else none) (fun f => rfl) ?_
      refine OkF.grd (fun _ => ?_)
      refine OkF.bind (w1 := wI) (om208 (d + 2) x0 x2 q10.2) (fun q11 => ?_)
      refine OkF.eq 1 (Y := fun f => if q11.1 = 0 then rk px kx f (d + 4) 224 38 [some (.ref x0), some (.int x1), some (.int x2), some (.int x3), none, none, none] [] q11.2 else rk px kx f (d + 4) 224 26 [some (.ref x0), some (.int x1), some (.int x2), some (.int x3), none, none, none] [] q11.2) (fun f => rfl) ?_
      refine OkF.ite (fun _ => ?_) (fun _ => ?_)
      · exact OkF.ret 2 (fun f => rfl)
      · refine OkF.eq 5 (Y := fun f => (rk px kx f (d + 3) 150 0 [some (.long x3.toInt64), none, some (.long (0 : Int64)), none, some (.long (6 : Int64)), none] [] q11.2).bind (fun q => rk px kx f (d + 4) 224 35 [some (.ref x0), some (.int x1), some (.int x2), some (.int x3), none, none, none] (q.1.toList ++ []) q.2)) (fun f => rfl) ?_
        refine OkF.bind (w1 := wI) (om150 (d + 3) x3.toInt64 (0 : Int64) (6 : Int64) q11.2) (fun q12 => ?_)
        refine OkF.eq 1 (Y := fun f => if q12.1 = 0 then rk px kx f (d + 4) 224 38 [some (.ref x0), some (.int x1), some (.int x2), some (.int x3), none, none, none] [] q12.2 else rk px kx f (d + 4) 224 40 [some (.ref x0), some (.int x1), some (.int x2), some (.int x3), none, none, none] [] q12.2) (fun f => rfl) ?_
        refine OkF.ite (fun _ => ?_) (fun _ => ?_)
        · exact OkF.ret 2 (fun f => rfl)
        · refine OkF.eq 2 (Y := fun f => rk px kx f (d + 4) 224 43 [some (.ref x0), some (.int x1), some (.int x2), some (.int x3), some (.int (0 : Int32)), none, none] [] q12.2) (fun f => rfl) ?_
          exact OkF.kl (ls1 := [some (.ref x0), some (.int x1), some (.int x2), some (.int x3), some (.int (0 : Int32)), none, none]) (fun f => rfl) (ol224_43 d 1000 x0 x1 x2 x3 (0 : Int32) q12.2)
