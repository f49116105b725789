-- DoorSold.lay(III)I
def m18 (x0 : Nat) (x1 : Int32) (x2 : Int32) (x3 : Int32) (S : Sx) : Option (Int32 × Sx) :=
  if oc S x0 11 = true then (m19 x0 x1 x2 S).bind fun q1 => if q1.1 = 0 then if oc q1.2 x0 11 = true then (q1.2.2.2.2.1 x0 0).bind fun a2 => if inb x1 (aw q1.2 3 a2) = true then (q1.2.2.2.2.1 a2 x1.toNatClampNeg).bind fun a3 => if oc q1.2 a3 8 = true then (q1.2.2.2.2.1 a3 0).bind fun a4 => if inb x2 (al q1.2 a4) = true then if oc q1.2 x0 11 = true then lt (sI q1.2 x0 12 (q1.2.2.1 a4 x2.toNatClampNeg)) fun S5 => if oc S5 x0 11 = true then (S5.2.2.2.1 x0 0).bind fun a6 => if inb x1 (aw S5 3 a6) = true then (S5.2.2.2.1 a6 x1.toNatClampNeg).bind fun a7 => if oc S5 a7 8 = true then (S5.2.2.2.1 a7 0).bind fun a8 => if inb x2 (aw S5 1 a8) = true then lt (sI S5 a8 x2.toNatClampNeg x3) fun S9 => some ((1 : Int32), S9) else none else none else none else none else none else none else none else none else none else some (q1.1, q1.2) else none
set_option maxRecDepth 100000 in
theorem om18 (d : Nat) (x0 : Nat) (x1 : Int32) (x2 : Int32) (x3 : Int32) (S : Sx) : OkF wI (fun f => rk px kx f (d + 2) 18 0 [some (.ref x0), some (.int x1), some (.int x2), some (.int x3), none] [] S) (m18 x0 x1 x2 x3 S) := by
  unfold m18
  refine OkF.eq 4 (Y := fun f => if oc S x0 11 = true then (rk px kx f (d + 1) 19 0 [some (.ref x0), some (.int x1), some (.int x2)] [] S).bind (fun q => rk px kx f (d + 2) 18 6 [some (.ref x0), some (.int x1), some (.int x2), some (.int x3), none] (q.1.toList ++ []) q.2) else none) (fun f => rfl) ?_
  refine OkF.grd (fun _ => ?_)
  refine OkF.bind (w1 := wI) (om19 (d + 0) x0 x1 x2 S) (fun q1 => ?_)
  refine OkF.eq 3 (Y := fun f => if q1.1 = 0 then rk px kx f (d + 2) 18 16 [some (.ref x0), some (.int x1), some (.int x2), some (.int x3), some (.int q1.1)] [] q1.2 else rk px kx f (d + 2) 18 13 [some (.ref x0), some (.int x1), some (.int x2), some (.int x3), some (.int q1.1)] [] q1.2) (fun f => rfl) ?_
  refine OkF.ite (fun _ => ?_) (fun _ => ?_)
  · refine OkF.eq 3 (Y := fun f => if oc q1.2 x0 11 = true then rk px kx f (d + 2) 18 21 [some (.ref x0), some (.int x1), some (.int x2), some (.int x3), some (.int q1.1)] (va_rf (q1.2.2.2.2.1 x0 0) :: [.ref x0]) q1.2 else none) (fun f => rfl) ?_
    refine OkF.grd (fun _ => ?_)
    refine OkF.rf (fun a2 => ?_)
    refine OkF.eq 2 (Y := fun f => if inb x1 (aw q1.2 3 a2) = true then rk px kx f (d + 2) 18 23 [some (.ref x0), some (.int x1), some (.int x2), some (.int x3), some (.int q1.1)] (va_rf (q1.2.2.2.2.1 a2 x1.toNatClampNeg) :: [.ref x0]) q1.2 else none) (fun f => rfl) ?_
    refine OkF.grd (fun _ => ?_)
    refine OkF.rf (fun a3 => ?_)
    refine OkF.eq 1 (Y := fun f => if oc q1.2 a3 8 = true then rk px kx f (d + 2) 18 26 [some (.ref x0), some (.int x1), some (.int x2), some (.int x3), some (.int q1.1)] (va_rf (q1.2.2.2.2.1 a3 0) :: [.ref x0]) q1.2 else none) (fun f => rfl) ?_
    refine OkF.grd (fun _ => ?_)
    refine OkF.rf (fun a4 => ?_)
    refine OkF.eq 2 (Y := fun f => if inb x2 (al q1.2 a4) = true then rk px kx f (d + 2) 18 28 [some (.ref x0), some (.int x1), some (.int x2), some (.int x3), some (.int q1.1)] [.int (q1.2.2.1 a4 x2.toNatClampNeg), .ref x0] q1.2 else none) (fun f => rfl) ?_
    refine OkF.grd (fun _ => ?_)
    refine OkF.eq 1 (Y := fun f => if oc q1.2 x0 11 = true then rk px kx f (d + 2) 18 31 [some (.ref x0), some (.int x1), some (.int x2), some (.int x3), some (.int q1.1)] [] (sI q1.2 x0 12 (q1.2.2.1 a4 x2.toNatClampNeg)) else none) (fun f => rfl) ?_
    refine OkF.grd (fun _ => ?_)
    refine OkF.nm (fun S5 => ?_)
    refine OkF.eq 2 (Y := fun f => if oc S5 x0 11 = true then rk px kx f (d + 2) 18 35 [some (.ref x0), some (.int x1), some (.int x2), some (.int x3), some (.int q1.1)] (va_rf (S5.2.2.2.1 x0 0) :: []) S5 else none) (fun f => rfl) ?_
    refine OkF.grd (fun _ => ?_)
    refine OkF.rf (fun a6 => ?_)
    refine OkF.eq 2 (Y := fun f => if inb x1 (aw S5 3 a6) = true then rk px kx f (d + 2) 18 37 [some (.ref x0), some (.int x1), some (.int x2), some (.int x3), some (.int q1.1)] (va_rf (S5.2.2.2.1 a6 x1.toNatClampNeg) :: []) S5 else none) (fun f => rfl) ?_
    refine OkF.grd (fun _ => ?_)
    refine OkF.rf (fun a7 => ?_)
    refine OkF.eq 1 (Y := fun f => if oc S5 a7 8 = true then rk px kx f (d + 2) 18 40 [some (.ref x0), some (.int x1), some (.int x2), some (.int x3), some (.int q1.1)] (va_rf (S5.2.2.2.1 a7 0) :: []) S5 else none) (fun f => rfl) ?_
    refine OkF.grd (fun _ => ?_)
    refine OkF.rf (fun a8 => ?_)
    refine OkF.eq 3 (Y := fun f => if inb x2 (aw S5 1 a8) = true then rk px kx f (d + 2) 18 43 [some (.ref x0), some (.int x1), some (.int x2), some (.int x3), some (.int q1.1)] [] (sI S5 a8 x2.toNatClampNeg x3) else none) (fun f => rfl) ?_
    refine OkF.grd (fun _ => ?_)
    refine OkF.nm (fun S9 => ?_)
    exact OkF.ret 2 (fun f => rfl)
  · exact OkF.ret 2 (fun f => rfl)
-- DoorSold.at(II)I
def m22 (x0 : Nat) (x1 : Int32) (x2 : Int32) (S : Sx) : Option (Int32 × Sx) :=
  if oc S x0 11 = true then (m19 x0 x1 x2 S).bind fun q1 => if q1.1 = 0 then if oc q1.2 x0 11 = true then (q1.2.2.2.2.1 x0 0).bind fun a2 => if inb x1 (aw q1.2 3 a2) = true then (q1.2.2.2.2.1 a2 x1.toNatClampNeg).bind fun a3 => if oc q1.2 a3 8 = true then (q1.2.2.2.2.1 a3 0).bind fun a4 => if inb x2 (al q1.2 a4) = true then if oc q1.2 x0 11 = true then lt (sI q1.2 x0 12 (q1.2.2.1 a4 x2.toNatClampNeg)) fun S5 => some ((1 : Int32), S5) else none else none else none else none else none else some (q1.1, q1.2) else none
set_option maxRecDepth 100000 in
theorem om22 (d : Nat) (x0 : Nat) (x1 : Int32) (x2 : Int32) (S : Sx) : OkF wI (fun f => rk px kx f (d + 2) 22 0 [some (.ref x0), some (.int x1), some (.int x2), none] [] S) (m22 x0 x1 x2 S) := by
  unfold m22
  refine OkF.eq 4 (Y := fun f => if oc S x0 11 = true then (rk px kx f (d + 1) 19 0 [some (.ref x0), some (.int x1), some (.int x2)] [] S).bind (fun q => rk px kx f (d + 2) 22 6 [some (.ref x0), some (.int x1), some (.int x2), none] (q.1.toList ++ []) q.2) else none) (fun f => rfl) ?_
  refine OkF.grd (fun _ => ?_)
  refine OkF.bind (w1 := wI) (om19 (d + 0) x0 x1 x2 S) (fun q1 => ?_)
  refine OkF.eq 3 (Y := fun f => if q1.1 = 0 then rk px kx f (d + 2) 22 13 [some (.ref x0), some (.int x1), some (.int x2), some (.int q1.1)] [] q1.2 else rk px kx f (d + 2) 22 11 [some (.ref x0), some (.int x1), some (.int x2), some (.int q1.1)] [] q1.2) (fun f => rfl) ?_
  refine OkF.ite (fun _ => ?_) (fun _ => ?_)
  · refine OkF.eq 3 (Y := fun f => if oc q1.2 x0 11 = true then rk px kx f (d + 2) 22 18 [some (.ref x0), some (.int x1), some (.int x2), some (.int q1.1)] (va_rf (q1.2.2.2.2.1 x0 0) :: [.ref x0]) q1.2 else none) (fun f => rfl) ?_
    refine OkF.grd (fun _ => ?_)
    refine OkF.rf (fun a2 => ?_)
    refine OkF.eq 2 (Y := fun f => if inb x1 (aw q1.2 3 a2) = true then rk px kx f (d + 2) 22 20 [some (.ref x0), some (.int x1), some (.int x2), some (.int q1.1)] (va_rf (q1.2.2.2.2.1 a2 x1.toNatClampNeg) :: [.ref x0]) q1.2 else none) (fun f => rfl) ?_
    refine OkF.grd (fun _ => ?_)
    refine OkF.rf (fun a3 => ?_)
    refine OkF.eq 1 (Y := fun f => if oc q1.2 a3 8 = true then rk px kx f (d + 2) 22 23 [some (.ref x0), some (.int x1), some (.int x2), some (.int q1.1)] (va_rf (q1.2.2.2.2.1 a3 0) :: [.ref x0]) q1.2 else none) (fun f => rfl) ?_
    refine OkF.grd (fun _ => ?_)
    refine OkF.rf (fun a4 => ?_)
    refine OkF.eq 2 (Y := fun f => if inb x2 (al q1.2 a4) = true then rk px kx f (d + 2) 22 25 [some (.ref x0), some (.int x1), some (.int x2), some (.int q1.1)] [.int (q1.2.2.1 a4 x2.toNatClampNeg), .ref x0] q1.2 else none) (fun f => rfl) ?_
    refine OkF.grd (fun _ => ?_)
    refine OkF.eq 1 (Y := fun f => if oc q1.2 x0 11 = true then rk px kx f (d + 2) 22 28 [some (.ref x0), some (.int x1), some (.int x2), some (.int q1.1)] [] (sI q1.2 x0 12 (q1.2.2.1 a4 x2.toNatClampNeg)) else none) (fun f => rfl) ?_
    refine OkF.grd (fun _ => ?_)
    refine OkF.nm (fun S5 => ?_)
    exact OkF.ret 2 (fun f => rfl)
  · exact OkF.ret 2 (fun f => rfl)
-- DoorSold.tear(I)I
def m23 (x0 : Nat) (x1 : Int32) (S : Sx) : Option (Int32 × Sx) :=
  (m14 x1 S).bind fun q1 => if q1.1 = 0 then if oc q1.2 x0 11 = true then (q1.2.2.2.2.1 x0 0).bind fun a2 => if inb x1 (aw q1.2 3 a2) = true then (q1.2.2.2.2.1 a2 x1.toNatClampNeg).bind fun a3 => if oc q1.2 a3 8 = true then (m20 a3 q1.2).bind fun q4 => if q4.1 = 0 then if oc q4.2 x0 11 = true then (q4.2.2.2.2.1 x0 0).bind fun a5 => if inb x1 (aw q4.2 3 a5) = true then (q4.2.2.2.2.1 a5 x1.toNatClampNeg).bind fun a6 => if oc q4.2 a6 8 = true then lt (sI q4.2 a6 1 (-1 : Int32)) fun S7 => some ((1 : Int32), S7) else none else none else none else if oc q4.2 x0 11 = true then (m15 x0 (1 : Int32) q4.2).bind fun q8 => some (q8.1, q8.2) else none else none else none else none else some ((-1 : Int32), q1.2)
set_option maxRecDepth 100000 in
theorem om23 (d : Nat) (x0 : Nat) (x1 : Int32) (S : Sx) : OkF wI (fun f => rk px kx f (d + 1) 23 0 [some (.ref x0), some (.int x1)] [] S) (m23 x0 x1 S) := by
  unfold m23
  refine OkF.eq 2 (Y := fun f => (rk px kx f (d + 0) 14 0 [some (.int x1)] [] S).bind (fun q => rk px kx f (d + 1) 23 4 [some (.ref x0), some (.int x1)] (q.1.toList ++ []) q.2)) (fun f => rfl) ?_
  refine OkF.bind (w1 := wI) (om14 (d + 0) x1 S) (fun q1 => ?_)
  refine OkF.eq 1 (Y := fun f => if q1.1 = 0 then rk px kx f (d + 1) 23 9 [some (.ref x0), some (.int x1)] [] q1.2 else rk px kx f (d + 1) 23 7 [some (.ref x0), some (.int x1)] [] q1.2) (fun f => rfl) ?_
  refine OkF.ite (fun _ => ?_) (fun _ => ?_)
  · refine OkF.eq 2 (Y := fun f => if oc q1.2 x0 11 = true then rk px kx f (d + 1) 23 13 [some (.ref x0), some (.int x1)] (va_rf (q1.2.2.2.2.1 x0 0) :: []) q1.2 else none) (fun f => rfl) ?_
    refine OkF.grd (fun _ => ?_)
    refine OkF.rf (fun a2 => ?_)
    refine OkF.eq 2 (Y := fun f => if inb x1 (aw q1.2 3 a2) = true then rk px kx f (d + 1) 23 15 [some (.ref x0), some (.int x1)] (va_rf (q1.2.2.2.2.1 a2 x1.toNatClampNeg) :: []) q1.2 else none) (fun f => rfl) ?_
    refine OkF.grd (fun _ => ?_)
    refine OkF.rf (fun a3 => ?_)
    refine OkF.eq 1 (Y := fun f => if oc q1.2 a3 8 = true then (rk px kx f (d + 0) 20 0 [some (.ref a3)] [] q1.2).bind (fun q => rk px kx f (d + 1) 23 18 [some (.ref x0), some (.int x1)] (q.1.toList ++ []) q.2) else none) (fun f => rfl) ?_
    refine OkF.grd (fun _ => ?_)
    refine OkF.bind (w1 := wI) (om20 (d + 0) a3 q1.2) (fun q4 => ?_)
    refine OkF.eq 1 (Y := fun f => if q4.1 = 0 then rk px kx f (d + 1) 23 27 [some (.ref x0), some (.int x1)] [] q4.2 else rk px kx f (d + 1) 23 21 [some (.ref x0), some (.int x1)] [] q4.2) (fun f => rfl) ?_
    refine OkF.ite (fun _ => ?_) (fun _ => ?_)
    · refine OkF.eq 2 (Y := fun f => if oc q4.2 x0 11 = true then rk px kx f (d + 1) 23 31 [some (.ref x0), some (.int x1)] (va_rf (q4.2.2.2.2.1 x0 0) :: []) q4.2 else none) (fun f => rfl) ?_
      refine OkF.grd (fun _ => ?_)
      refine OkF.rf (fun a5 => ?_)
      refine OkF.eq 2 (Y := fun f => if inb x1 (aw q4.2 3 a5) = true then rk px kx f (d + 1) 23 33 [some (.ref x0), some (.int x1)] (va_rf (q4.2.2.2.2.1 a5 x1.toNatClampNeg) :: []) q4.2 else none) (fun f => rfl) ?_
      refine OkF.grd (fun _ => ?_)
      refine OkF.rf (fun a6 => ?_)
      refine OkF.eq 2 (Y := fun f => if oc q4.2 a6 8 = true then rk px kx f (d + 1) 23 37 [some (.ref x0), some (.int x1)] [] (sI q4.2 a6 1 (-1 : Int32)) else none) (fun f => rfl) ?_
      refine OkF.grd (fun _ => ?_)
      refine OkF.nm (fun S7 => ?_)
      exact OkF.ret 2 (fun f => rfl)
    · refine OkF.eq 3 (Y := fun f => if oc q4.2 x0 11 = true then (rk px kx f (d + 0) 15 0 [some (.ref x0), some (.int (1 : Int32))] [] q4.2).bind (fun q => rk px kx f (d + 1) 23 26 [some (.ref x0), some (.int x1)] (q.1.toList ++ []) q.2) else none) (fun f => rfl) ?_
      refine OkF.grd (fun _ => ?_)
      refine OkF.bind (w1 := wI) (om15 (d + 0) x0 (1 : Int32) q4.2) (fun q8 => ?_)
      exact OkF.ret 1 (fun f => rfl)
  · exact OkF.ret 2 (fun f => rfl)
-- DoorSold.copy(IIIII)I
def b24_51 (x0 : Nat) (S : Sx) : Option (Int32 × Sx) :=
  if oc S x0 11 = true then (m15 x0 (1 : Int32) S).bind fun q1 => some (q1.1, q1.2) else none
set_option maxRecDepth 100000 in
theorem ob24_51 (d : Nat) (x0 : Nat) (S : Sx) : OkF wI (fun f => rk px kx f (d + 1) 24 51 [some (.ref x0), none, none, none, none, none] [] S) (b24_51 x0 S) := by
  unfold b24_51
  refine OkF.eq 3 (Y := fun f => if oc S x0 11 = true then (rk px kx f (d + 0) 15 0 [some (.ref x0), some (.int (1 : Int32))] [] S).bind (fun q => rk px kx f (d + 1) 24 56 [some (.ref x0), none, none, none, none, none] (q.1.toList ++ []) q.2) else none) (fun f => rfl) ?_
  refine OkF.grd (fun _ => ?_)
  refine OkF.bind (w1 := wI) (om15 (d + 0) x0 (1 : Int32) S) (fun q1 => ?_)
  exact OkF.ret 1 (fun f => rfl)
def b24_88 (x0 : Nat) (S : Sx) : Option (Int32 × Sx) :=
  if oc S x0 11 = true then (m15 x0 (2 : Int32) S).bind fun q2 => some (q2.1, q2.2) else none
set_option maxRecDepth 100000 in
theorem ob24_88 (d : Nat) (x0 : Nat) (S : Sx) : OkF wI (fun f => rk px kx f (d + 1) 24 88 [some (.ref x0), none, none, none, none, none] [] S) (b24_88 x0 S) := by
  unfold b24_88
  refine OkF.eq 3 (Y := fun f => if oc S x0 11 = true then (rk px kx f (d + 0) 15 0 [some (.ref x0), some (.int (2 : Int32))] [] S).bind (fun q => rk px kx f (d + 1) 24 93 [some (.ref x0), none, none, none, none, none] (q.1.toList ++ []) q.2) else none) (fun f => rfl) ?_
  refine OkF.grd (fun _ => ?_)
  refine OkF.bind (w1 := wI) (om15 (d + 0) x0 (2 : Int32) S) (fun q2 => ?_)
  exact OkF.ret 1 (fun f => rfl)
def m24 (x0 : Nat) (x1 : Int32) (x2 : Int32) (x3 : Int32) (x4 : Int32) (x5 : Int32) (S : Sx) : Option (Int32 × Sx) :=
  (m14 x1 S).bind fun q3 => if q3.1 = 0 then (m14 x3 q3.2).bind fun q4 => if q4.1 = 0 then if 0 ≤ x5 then if oc q4.2 x0 11 = true then (q4.2.2.2.2.1 x0 0).bind fun a5 => if inb x1 (aw q4.2 3 a5) = true then (q4.2.2.2.2.1 a5 x1.toNatClampNeg).bind fun a6 => if oc q4.2 a6 8 = true then (m20 a6 q4.2).bind fun q7 => if q7.1 = 0 then if oc q7.2 x0 11 = true then (q7.2.2.2.2.1 x0 0).bind fun a8 => if inb x3 (aw q7.2 3 a8) = true then (q7.2.2.2.2.1 a8 x3.toNatClampNeg).bind fun a9 => if oc q7.2 a9 8 = true then (m20 a9 q7.2).bind fun q10 => if q10.1 = 0 then if oc q10.2 x0 11 = true then (q10.2.2.2.2.1 x0 0).bind fun a11 => if inb x1 (aw q10.2 3 a11) = true then (q10.2.2.2.2.1 a11 x1.toNatClampNeg).bind fun a12 => if oc q10.2 a12 8 = true then (m21 a12 x2 x5 q10.2).bind fun q13 => if q13.1 = 0 then b24_88 x0 q13.2 else if oc q13.2 x0 11 = true then (q13.2.2.2.2.1 x0 0).bind fun a14 => if inb x3 (aw q13.2 3 a14) = true then (q13.2.2.2.2.1 a14 x3.toNatClampNeg).bind fun a15 => if oc q13.2 a15 8 = true then (m21 a15 x4 x5 q13.2).bind fun q16 => if q16.1 = 0 then b24_88 x0 q16.2 else if oc q16.2 x0 11 = true then (q16.2.2.2.2.1 x0 0).bind fun a17 => if inb x1 (aw q16.2 3 a17) = true then (q16.2.2.2.2.1 a17 x1.toNatClampNeg).bind fun a18 => if oc q16.2 a18 8 = true then (q16.2.2.2.2.1 a18 0).bind fun a19 => if oc q16.2 x0 11 = true then (q16.2.2.2.2.1 x0 0).bind fun a20 => if inb x3 (aw q16.2 3 a20) = true then (q16.2.2.2.2.1 a20 x3.toNatClampNeg).bind fun a21 => if oc q16.2 a21 8 = true then (q16.2.2.2.2.1 a21 0).bind fun a22 => if cpk q16.2 a19 a22 x2 x4 x5 = true then lt (cpS q16.2 a19 x2.toNatClampNeg a22 x4.toNatClampNeg x5.toNatClampNeg) fun S23 => some ((1 : Int32), S23) else none else none else none else none else none else none else none else none else none else none else none else none else none else b24_51 x0 q10.2 else none else none else none else b24_51 x0 q7.2 else none else none else none else if oc q4.2 x0 11 = true then (m15 x0 (5 : Int32) q4.2).bind fun q24 => some (q24.1, q24.2) else none else some ((-1 : Int32), q4.2) else some ((-1 : Int32), q3.2)
set_option maxRecDepth 100000 in
theorem om24 (d : Nat) (x0 : Nat) (x1 : Int32) (x2 : Int32) (x3 : Int32) (x4 : Int32) (x5 : Int32) (S : Sx) : OkF wI (fun f => rk px kx f (d + 1) 24 0 [some (.ref x0), some (.int x1), some (.int x2), some (.int x3), some (.int x4), some (.int x5)] [] S) (m24 x0 x1 x2 x3 x4 x5 S) := by
  unfold m24
  refine OkF.eq 2 (Y := fun f => (rk px kx f (d + 0) 14 0 [some (.int x1)] [] S).bind (fun q => rk px kx f (d + 1) 24 4 [some (.ref x0), some (.int x1), some (.int x2), some (.int x3), some (.int x4), some (.int x5)] (q.1.toList ++ []) q.2)) (fun f => rfl) ?_
  refine OkF.bind (w1 := wI) (om14 (d + 0) x1 S) (fun q3 => ?_)
  refine OkF.eq 1 (Y := fun f => if q3.1 = 0 then rk px kx f (d + 1) 24 7 [some (.ref x0), some (.int x1), some (.int x2), some (.int x3), some (.int x4), some (.int x5)] [] q3.2 else rk px kx f (d + 1) 24 14 [some (.ref x0), some (.int x1), some (.int x2), some (.int x3), some (.int x4), some (.int x5)] [] q3.2) (fun f => rfl) ?_
  refine OkF.ite (fun _ => ?_) (fun _ => ?_)
  · refine OkF.eq 2 (Y := fun f => (rk px kx f (d + 0) 14 0 [some (.int x3)] [] q3.2).bind (fun q => rk px kx f (d + 1) 24 11 [some (.ref x0), some (.int x1), some (.int x2), some (.int x3), some (.int x4), some (.int x5)] (q.1.toList ++ []) q.2)) (fun f => rfl) ?_
    refine OkF.bind (w1 := wI) (om14 (d + 0) x3 q3.2) (fun q4 => ?_)
    refine OkF.eq 1 (Y := fun f => if q4.1 = 0 then rk px kx f (d + 1) 24 16 [some (.ref x0), some (.int x1), some (.int x2), some (.int x3), some (.int x4), some (.int x5)] [] q4.2 else rk px kx f (d + 1) 24 14 [some (.ref x0), some (.int x1), some (.int x2), some (.int x3), some (.int x4), some (.int x5)] [] q4.2) (fun f => rfl) ?_
    refine OkF.ite (fun _ => ?_) (fun _ => ?_)
    · refine OkF.eq 2 (Y := fun f => if 0 ≤ x5 then rk px kx f (d + 1) 24 27 [some (.ref x0), some (.int x1), some (.int x2), some (.int x3), some (.int x4), some (.int x5)] [] q4.2 else rk px kx f (d + 1) 24 21 [some (.ref x0), some (.int x1), some (.int x2), some (.int x3), some (.int x4), some (.int x5)] [] q4.2) (fun f => rfl) ?_
      refine OkF.ite (fun _ => ?_) (fun _ => ?_)
      · refine OkF.eq 2 (Y := fun f => if oc q4.2 x0 11 = true then rk px kx f (d + 1) 24 31 [some (.ref x0), some (.int x1), some (.int x2), some (.int x3), some (.int x4), some (.int x5)] (va_rf (q4.2.2.2.2.1 x0 0) :: []) q4.2 else none) (fun f => rfl) ?_
        refine OkF.grd (fun _ => ?_)
        refine OkF.rf (fun a5 => ?_)
        refine OkF.eq 2 (Y := fun f => if inb x1 (aw q4.2 3 a5) = true then rk px kx f (d + 1) 24 33 [some (.ref x0), some (.int x1), some (.int x2), some (.int x3), some (.int x4), some (.int x5)] (va_rf (q4.2.2.2.2.1 a5 x1.toNatClampNeg) :: []) q4.2 else none) (fun f => rfl) ?_
        refine OkF.grd (fun _ => ?_)
        refine OkF.rf (fun a6 => ?_)
        refine OkF.eq 1 (Y := fun f => if oc q4.2 a6 8 = true then (rk px kx f (d + 0) 20 0 [some (.ref a6)] [] q4.2).bind (fun q => rk px kx f (d + 1) 24 36 [some (.ref x0), some (.int x1), some (.int x2), some (.int x3), some (.int x4), some (.int x5)] (q.1.toList ++ []) q.2) else none) (fun f => rfl) ?_
        refine OkF.grd (fun _ => ?_)
        refine OkF.bind (w1 := wI) (om20 (d + 0) a6 q4.2) (fun q7 => ?_)
        refine OkF.eq 1 (Y := fun f => if q7.1 = 0 then rk px kx f (d + 1) 24 39 [some (.ref x0), some (.int x1), some (.int x2), some (.int x3), some (.int x4), some (.int x5)] [] q7.2 else rk px kx f (d + 1) 24 51 [some (.ref x0), some (.int x1), some (.int x2), some (.int x3), some (.int x4), some (.int x5)] [] q7.2) (fun f => rfl) ?_
        refine OkF.ite (fun _ => ?_) (fun _ => ?_)
        · refine OkF.eq 2 (Y := fun f => if oc q7.2 x0 11 = true then rk px kx f (d + 1) 24 43 [some (.ref x0), some (.int x1), some (.int x2), some (.int x3), some (.int x4), some (.int x5)] (va_rf (q7.2.2.2.2.1 x0 0) :: []) q7.2 else none) (fun f => rfl) ?_
          refine OkF.grd (fun _ => ?_)
          refine OkF.rf (fun a8 => ?_)
          refine OkF.eq 2 (Y := fun f => if inb x3 (aw q7.2 3 a8) = true then rk px kx f (d + 1) 24 45 [some (.ref x0), some (.int x1), some (.int x2), some (.int x3), some (.int x4), some (.int x5)] (va_rf (q7.2.2.2.2.1 a8 x3.toNatClampNeg) :: []) q7.2 else none) (fun f => rfl) ?_
          refine OkF.grd (fun _ => ?_)
          refine OkF.rf (fun a9 => ?_)
          refine OkF.eq 1 (Y := fun f => if oc q7.2 a9 8 = true then (rk px kx f (d + 0) 20 0 [some (.ref a9)] [] q7.2).bind (fun q => rk px kx f (d + 1) 24 48 [some (.ref x0), some (.int x1), some (.int x2), some (.int x3), some (.int x4), some (.int x5)] (q.1.toList ++ []) q.2) else none) (fun f => rfl) ?_
          refine OkF.grd (fun _ => ?_)
          refine OkF.bind (w1 := wI) (om20 (d + 0) a9 q7.2) (fun q10 => ?_)
          refine OkF.eq 1 (Y := fun f => if q10.1 = 0 then rk px kx f (d + 1) 24 57 [some (.ref x0), some (.int x1), some (.int x2), some (.int x3), some (.int x4), some (.int x5)] [] q10.2 else rk px kx f (d + 1) 24 51 [some (.ref x0), some (.int x1), some (.int x2), some (.int x3), some (.int x4), some (.int x5)] [] q10.2) (fun f => rfl) ?_
          refine OkF.ite (fun _ => ?_) (fun _ => ?_)
          · refine OkF.eq 2 (Y := fun f => if oc q10.2 x0 11 = true then rk px kx f (d + 1) 24 61 [some (.ref x0), some (.int x1), some (.int x2), some (.int x3), some (.int x4), some (.int x5)] (va_rf (q10.2.2.2.2.1 x0 0) :: []) q10.2 else none) (fun f => rfl) ?_
            refine OkF.grd (fun _ => ?_)
            refine OkF.rf (fun a11 => ?_)
            refine OkF.eq 2 (Y := fun f => if inb x1 (aw q10.2 3 a11) = true then rk px kx f (d + 1) 24 63 [some (.ref x0), some (.int x1), some (.int x2), some (.int x3), some (.int x4), some (.int x5)] (va_rf (q10.2.2.2.2.1 a11 x1.toNatClampNeg) :: []) q10.2 else none) (fun f => rfl) ?_
            refine OkF.grd (fun _ => ?_)
            refine OkF.rf (fun a12 => ?_)
            refine OkF.eq 3 (Y := fun f => if oc q10.2 a12 8 = true then (rk px kx f (d + 0) 21 0 [some (.ref a12), some (.int x2), some (.int x5)] [] q10.2).bind (fun q => rk px kx f (d + 1) 24 69 [some (.ref x0), some (.int x1), some (.int x2), some (.int x3), some (.int x4), some (.int x5)] (q.1.toList ++ []) q.2) else none) (fun f => rfl) ?_
            refine OkF.grd (fun _ => ?_)
            refine OkF.bind (w1 := wI) (om21 (d + 0) a12 x2 x5 q10.2) (fun q13 => ?_)
            refine OkF.eq 1 (Y := fun f => if q13.1 = 0 then rk px kx f (d + 1) 24 88 [some (.ref x0), some (.int x1), some (.int x2), some (.int x3), some (.int x4), some (.int x5)] [] q13.2 else rk px kx f (d + 1) 24 72 [some (.ref x0), some (.int x1), some (.int x2), some (.int x3), some (.int x4), some (.int x5)] [] q13.2) (fun f => rfl) ?_
            refine OkF.ite (fun _ => ?_) (fun _ => ?_)
            · exact OkF.kl (ls1 := [some (.ref x0), none, none, none, none, none]) (fun f => rfl) (ob24_88 d x0 q13.2)
            · refine OkF.eq 2 (Y := fun f => if oc q13.2 x0 11 = true then rk px kx f (d + 1) 24 76 [some (.ref x0), some (.int x1), some (.int x2), some (.int x3), some (.int x4), some (.int x5)] (va_rf (q13.2.2.2.2.1 x0 0) :: []) q13.2 else none) (fun f => rfl) ?_
              refine OkF.grd (fun _ => ?_)
              refine OkF.rf (fun a14 => ?_)
              refine OkF.eq 2 (Y := fun f => if inb x3 (aw q13.2 3 a14) = true then rk px kx f (d + 1) 24 78 [some (.ref x0), some (.int x1), some (.int x2), some (.int x3), some (.int x4), some (.int x5)] (va_rf (q13.2.2.2.2.1 a14 x3.toNatClampNeg) :: []) q13.2 else none) (fun f => rfl) ?_
              refine OkF.grd (fun _ => ?_)
              refine OkF.rf (fun a15 => ?_)
              refine OkF.eq 3 (Y := fun f => if oc q13.2 a15 8 = true then (rk px kx f (d + 0) 21 0 [some (.ref a15), some (.int x4), some (.int x5)] [] q13.2).bind (fun q => rk px kx f (d + 1) 24 85 [some (.ref x0), some (.int x1), some (.int x2), some (.int x3), some (.int x4), some (.int x5)] (q.1.toList ++ []) q.2) else none) (fun f => rfl) ?_
              refine OkF.grd (fun _ => ?_)
              refine OkF.bind (w1 := wI) (om21 (d + 0) a15 x4 x5 q13.2) (fun q16 => ?_)
              refine OkF.eq 1 (Y := fun f => if q16.1 = 0 then rk px kx f (d + 1) 24 88 [some (.ref x0), some (.int x1), some (.int x2), some (.int x3), some (.int x4), some (.int x5)] [] q16.2 else rk px kx f (d + 1) 24 94 [some (.ref x0), some (.int x1), some (.int x2), some (.int x3), some (.int x4), some (.int x5)] [] q16.2) (fun f => rfl) ?_
              refine OkF.ite (fun _ => ?_) (fun _ => ?_)
              · exact OkF.kl (ls1 := [some (.ref x0), none, none, none, none, none]) (fun f => rfl) (ob24_88 d x0 q16.2)
              · refine OkF.eq 2 (Y := fun f => if oc q16.2 x0 11 = true then rk px kx f (d + 1) 24 98 [some (.ref x0), some (.int x1), some (.int x2), some (.int x3), some (.int x4), some (.int x5)] (va_rf (q16.2.2.2.2.1 x0 0) :: []) q16.2 else none) (fun f => rfl) ?_
                refine OkF.grd (fun _ => ?_)
                refine OkF.rf (fun a17 => ?_)
                refine OkF.eq 2 (Y := fun f => if inb x1 (aw q16.2 3 a17) = true then rk px kx f (d + 1) 24 100 [some (.ref x0), some (.int x1), some (.int x2), some (.int x3), some (.int x4), some (.int x5)] (va_rf (q16.2.2.2.2.1 a17 x1.toNatClampNeg) :: []) q16.2 else none) (fun f => rfl) ?_
                refine OkF.grd (fun _ => ?_)
                refine OkF.rf (fun a18 => ?_)
                refine OkF.eq 1 (Y := fun f => if oc q16.2 a18 8 = true then rk px kx f (d + 1) 24 103 [some (.ref x0), some (.int x1), some (.int x2), some (.int x3), some (.int x4), some (.int x5)] (va_rf (q16.2.2.2.2.1 a18 0) :: []) q16.2 else none) (fun f => rfl) ?_
                refine OkF.grd (fun _ => ?_)
                refine OkF.rf (fun a19 => ?_)
                refine OkF.eq 3 (Y := fun f => if oc q16.2 x0 11 = true then rk px kx f (d + 1) 24 108 [some (.ref x0), some (.int x1), some (.int x2), some (.int x3), some (.int x4), some (.int x5)] (va_rf (q16.2.2.2.2.1 x0 0) :: [.int x2, .ref a19]) q16.2 else none) (fun f => rfl) ?_
                refine OkF.grd (fun _ => ?_)
                refine OkF.rf (fun a20 => ?_)
                refine OkF.eq 2 (Y := fun f => if inb x3 (aw q16.2 3 a20) = true then rk px kx f (d + 1) 24 110 [some (.ref x0), some (.int x1), some (.int x2), some (.int x3), some (.int x4), some (.int x5)] (va_rf (q16.2.2.2.2.1 a20 x3.toNatClampNeg) :: [.int x2, .ref a19]) q16.2 else none) (fun f => rfl) ?_
                refine OkF.grd (fun _ => ?_)
                refine OkF.rf (fun a21 => ?_)
                refine OkF.eq 1 (Y := fun f => if oc q16.2 a21 8 = true then rk px kx f (d + 1) 24 113 [some (.ref x0), some (.int x1), some (.int x2), some (.int x3), some (.int x4), some (.int x5)] (va_rf (q16.2.2.2.2.1 a21 0) :: [.int x2, .ref a19]) q16.2 else none) (fun f => rfl) ?_
                refine OkF.grd (fun _ => ?_)
                refine OkF.rf (fun a22 => ?_)
                refine OkF.eq 3 (Y := fun f => if cpk q16.2 a19 a22 x2 x4 x5 = true then rk px kx f (d + 1) 24 120 [some (.ref x0), some (.int x1), some (.int x2), some (.int x3), some (.int x4), some (.int x5)] [] (cpS q16.2 a19 x2.toNatClampNeg a22 x4.toNatClampNeg x5.toNatClampNeg) else none) (fun f => rfl) ?_
                refine OkF.grd (fun _ => ?_)
                refine OkF.nm (fun S23 => ?_)
                exact OkF.ret 2 (fun f => rfl)
          · exact OkF.kl (ls1 := [some (.ref x0), none, none, none, none, none]) (fun f => rfl) (ob24_51 d x0 q10.2)
        · exact OkF.kl (ls1 := [some (.ref x0), none, none, none, none, none]) (fun f => rfl) (ob24_51 d x0 q7.2)
      · refine OkF.eq 3 (Y := fun f => if oc q4.2 x0 11 = true then (rk px kx f (d + 0) 15 0 [some (.ref x0), some (.int (5 : Int32))] [] q4.2).bind (fun q => rk px kx f (d + 1) 24 26 [some (.ref x0), some (.int x1), some (.int x2), some (.int x3), some (.int x4), some (.int x5)] (q.1.toList ++ []) q.2) else none) (fun f => rfl) ?_
        refine OkF.grd (fun _ => ?_)
        refine OkF.bind (w1 := wI) (om15 (d + 0) x0 (5 : Int32) q4.2) (fun q24 => ?_)
        exact OkF.ret 1 (fun f => rfl)
    · exact OkF.ret 2 (fun f => rfl)
  · exact OkF.ret 2 (fun f => rfl)
-- DoorSold$Row.sum()J
def b26_4 (k4 : Nat → Int64 → Int32 → Sx → Option (Int64 × Sx)) (x0 : Nat) (x1 : Int64) (x3 : Int32) (S : Sx) : Option (Int64 × Sx) :=
  if oc S x0 8 = true then if (S.2.1 x0 1) ≤ x3 then some (x1, S) else if oc S x0 8 = true then (S.2.2.2.1 x0 0).bind fun a1 => if inb x3 (al S a1) = true then k4 x0 (x1 + ((S.2.1 a1 x3.toNatClampNeg).toInt64)) (x3 + (1 : Int32)) S else none else none else none
set_option maxRecDepth 100000 in
theorem ob26_4 (d : Nat) (k4 : Nat → Int64 → Int32 → Sx → Option (Int64 × Sx)) (hk4 : ∀ (x0 : Nat) (x1 : Int64) (x3 : Int32) (S : Sx), OkF wL (fun f => rk px kx f (d + 0) 26 4 [some (.ref x0), some (.long x1), none, some (.int x3)] [] S) (k4 x0 x1 x3 S)) (x0 : Nat) (x1 : Int64) (x3 : Int32) (S : Sx) : OkF wL (fun f => rk px kx f (d + 0) 26 4 [some (.ref x0), some (.long x1), none, some (.int x3)] [] S) (b26_4 k4 x0 x1 x3 S) := by
  unfold b26_4
  refine OkF.eq 3 (Y := fun f => if oc S x0 8 = true then rk px kx f (d + 0) 26 9 [some (.ref x0), some (.long x1), none, some (.int x3)] [.int (S.2.1 x0 1), .int x3] S else none) (fun f => rfl) ?_
  refine OkF.grd (fun _ => ?_)
  refine OkF.eq 1 (Y := fun f => if (S.2.1 x0 1) ≤ x3 then rk px kx f (d + 0) 26 28 [some (.ref x0), some (.long x1), none, some (.int x3)] [] S else rk px kx f (d + 0) 26 12 [some (.ref x0), some (.long x1), none, some (.int x3)] [] S) (fun f => rfl) ?_
  refine OkF.ite (fun _ => ?_) (fun _ => ?_)
  · exact OkF.ret 2 (fun f => rfl)
  · refine OkF.eq 3 (Y := fun f => if oc S x0 8 = true then rk px kx f (d + 0) 26 17 [some (.ref x0), some (.long x1), none, some (.int x3)] (va_rf (S.2.2.2.1 x0 0) :: [.long x1]) S else none) (fun f => rfl) ?_
    refine OkF.grd (fun _ => ?_)
    refine OkF.rf (fun a1 => ?_)
    refine OkF.eq 2 (Y := fun f => if inb x3 (al S a1) = true then rk px kx f (d + 0) 26 19 [some (.ref x0), some (.long x1), none, some (.int x3)] [.int (S.2.1 a1 x3.toNatClampNeg), .long x1] S else none) (fun f => rfl) ?_
    refine OkF.grd (fun _ => ?_)
    refine OkF.eq 5 (Y := fun f => rk px kx f (d + 0) 26 4 [some (.ref x0), some (.long (x1 + ((S.2.1 a1 x3.toNatClampNeg).toInt64))), none, some (.int (x3 + (1 : Int32)))] [] S) (fun f => rfl) ?_
    exact OkF.kl (ls1 := [some (.ref x0), some (.long (x1 + ((S.2.1 a1 x3.toNatClampNeg).toInt64))), none, some (.int (x3 + (1 : Int32)))]) (fun f => rfl) (hk4 x0 (x1 + ((S.2.1 a1 x3.toNatClampNeg).toInt64)) (x3 + (1 : Int32)) S)
def l26_4 : Nat → Nat → Int64 → Int32 → Sx → Option (Int64 × Sx)
  | 0 => fun _ _ _ _ => none
  | n + 1 => fun x0 x1 x3 S => b26_4 (l26_4 n) x0 x1 x3 S
set_option maxRecDepth 100000 in
theorem ol26_4 (d : Nat) : ∀ (n : Nat) (x0 : Nat) (x1 : Int64) (x3 : Int32) (S : Sx), OkF wL (fun f => rk px kx f (d + 0) 26 4 [some (.ref x0), some (.long x1), none, some (.int x3)] [] S) (l26_4 n x0 x1 x3 S) := by
  intro n
  induction n with
  | zero => intro x0 x1 x3 S; exact OkF.no
  | succ n ih => intro x0 x1 x3 S; exact ob26_4 d (l26_4 n) ih x0 x1 x3 S
def m26 (x0 : Nat) (S : Sx) : Option (Int64 × Sx) :=
  l26_4 1000 x0 (0 : Int64) (0 : Int32) S
set_option maxRecDepth 100000 in
theorem om26 (d : Nat) (x0 : Nat) (S : Sx) : OkF wL (fun f => rk px kx f (d + 0) 26 0 [some (.ref x0), none, none, none] [] S) (m26 x0 S) := by
  unfold m26
  refine OkF.eq 4 (Y := fun f => rk px kx f (d + 0) 26 4 [some (.ref x0), some (.long (0 : Int64)), none, some (.int (0 : Int32))] [] S) (fun f => rfl) ?_
  exact OkF.kl (ls1 := [some (.ref x0), some (.long (0 : Int64)), none, some (.int (0 : Int32))]) (fun f => rfl) (ol26_4 d 1000 x0 (0 : Int64) (0 : Int32) S)
-- DoorSold.mean(I)I
def m25 (x0 : Nat) (x1 : Int32) (S : Sx) : Option (Int32 × Sx) :=
  (m14 x1 S).bind fun q1 => if q1.1 = 0 then if oc q1.2 x0 11 = true then (q1.2.2.2.2.1 x0 0).bind fun a2 => if inb x1 (aw q1.2 3 a2) = true then (q1.2.2.2.2.1 a2 x1.toNatClampNeg).bind fun a3 => if oc q1.2 a3 8 = true then (m20 a3 q1.2).bind fun q4 => if q4.1 = 0 then if oc q4.2 x0 11 = true then (q4.2.2.2.2.1 x0 0).bind fun a5 => if inb x1 (aw q4.2 3 a5) = true then (q4.2.2.2.2.1 a5 x1.toNatClampNeg).bind fun a6 => if oc q4.2 a6 8 = true then if (q4.2.2.1 a6 1) = 0 then if oc q4.2 x0 11 = true then (m15 x0 (4 : Int32) q4.2).bind fun q7 => some (q7.1, q7.2) else none else if oc q4.2 x0 11 = true then (q4.2.2.2.2.1 x0 0).bind fun a8 => if inb x1 (aw q4.2 3 a8) = true then (q4.2.2.2.2.1 a8 x1.toNatClampNeg).bind fun a9 => if oc q4.2 a9 8 = true then (m26 a9 q4.2).bind fun q10 => if ((q4.2.2.1 a6 1).toInt64) = 0 then none else if oc q10.2 x0 11 = true then lt (sI q10.2 x0 12 ((q10.1 / ((q4.2.2.1 a6 1).toInt64)).toInt32)) fun S11 => some ((1 : Int32), S11) else none else none else none else none else none else none else none else if oc q4.2 x0 11 = true then (m15 x0 (1 : Int32) q4.2).bind fun q12 => some (q12.1, q12.2) else none else none else none else none else some ((-1 : Int32), q1.2)
set_option maxRecDepth 100000 in
theorem om25 (d : Nat) (x0 : Nat) (x1 : Int32) (S : Sx) : OkF wI (fun f => rk px kx f (d + 1) 25 0 [some (.ref x0), some (.int x1), none] [] S) (m25 x0 x1 S) := by
  unfold m25
  refine OkF.eq 2 (Y := fun f => (rk px kx f (d + 0) 14 0 [some (.int x1)] [] S).bind (fun q => rk px kx f (d + 1) 25 4 [some (.ref x0), some (.int x1), none] (q.1.toList ++ []) q.2)) (fun f => rfl) ?_
  refine OkF.bind (w1 := wI) (om14 (d + 0) x1 S) (fun q1 => ?_)
  refine OkF.eq 1 (Y := fun f => if q1.1 = 0 then rk px kx f (d + 1) 25 9 [some (.ref x0), some (.int x1), none] [] q1.2 else rk px kx f (d + 1) 25 7 [some (.ref x0), some (.int x1), none] [] q1.2) (fun f => rfl) ?_
  refine OkF.ite (fun _ => ?_) (fun _ => ?_)
  · refine OkF.eq 2 (Y := fun f => if oc q1.2 x0 11 = true then rk px kx f (d + 1) 25 13 [some (.ref x0), some (.int x1), none] (va_rf (q1.2.2.2.2.1 x0 0) :: []) q1.2 else none) (fun f => rfl) ?_
    refine OkF.grd (fun _ => ?_)
    refine OkF.rf (fun a2 => ?_)
    refine OkF.eq 2 (Y := fun f => if inb x1 (aw q1.2 3 a2) = true then rk px kx f (d + 1) 25 15 [some (.ref x0), some (.int x1), none] (va_rf (q1.2.2.2.2.1 a2 x1.toNatClampNeg) :: []) q1.2 else none) (fun f => rfl) ?_
    refine OkF.grd (fun _ => ?_)
    refine OkF.rf (fun a3 => ?_)
    refine OkF.eq 1 (Y := fun f => if oc q1.2 a3 8 = true then (rk px kx f (d + 0) 20 0 [some (.ref a3)] [] q1.2).bind (fun q => rk px kx f (d + 1) 25 18 [some (.ref x0), some (.int x1), none] (q.1.toList ++ []) q.2) else none) (fun f => rfl) ?_
    refine OkF.grd (fun _ => ?_)
    refine OkF.bind (w1 := wI) (om20 (d + 0) a3 q1.2) (fun q4 => ?_)
    refine OkF.eq 1 (Y := fun f => if q4.1 = 0 then rk px kx f (d + 1) 25 27 [some (.ref x0), some (.int x1), none] [] q4.2 else rk px kx f (d + 1) 25 21 [some (.ref x0), some (.int x1), none] [] q4.2) (fun f => rfl) ?_
    refine OkF.ite (fun _ => ?_) (fun _ => ?_)
    · refine OkF.eq 2 (Y := fun f => if oc q4.2 x0 11 = true then rk px kx f (d + 1) 25 31 [some (.ref x0), some (.int x1), none] (va_rf (q4.2.2.2.2.1 x0 0) :: []) q4.2 else none) (fun f => rfl) ?_
      refine OkF.grd (fun _ => ?_)
      refine OkF.rf (fun a5 => ?_)
      refine OkF.eq 2 (Y := fun f => if inb x1 (aw q4.2 3 a5) = true then rk px kx f (d + 1) 25 33 [some (.ref x0), some (.int x1), none] (va_rf (q4.2.2.2.2.1 a5 x1.toNatClampNeg) :: []) q4.2 else none) (fun f => rfl) ?_
      refine OkF.grd (fun _ => ?_)
      refine OkF.rf (fun a6 => ?_)
      refine OkF.eq 1 (Y := fun f => if oc q4.2 a6 8 = true then rk px kx f (d + 1) 25 36 [some (.ref x0), some (.int x1), none] [.int (q4.2.2.1 a6 1)] q4.2 else none) (fun f => rfl) ?_
      refine OkF.grd (fun _ => ?_)
      refine OkF.eq 3 (Y := fun f => if (q4.2.2.1 a6 1) = 0 then rk px kx f (d + 1) 25 41 [some (.ref x0), some (.int x1), some (.int (q4.2.2.1 a6 1))] [] q4.2 else rk px kx f (d + 1) 25 47 [some (.ref x0), some (.int x1), some (.int (q4.2.2.1 a6 1))] [] q4.2) (fun f => rfl) ?_
      refine OkF.ite (fun _ => ?_) (fun _ => ?_)
      · refine OkF.eq 3 (Y := fun f => if oc q4.2 x0 11 = true then (rk px kx f (d + 0) 15 0 [some (.ref x0), some (.int (4 : Int32))] [] q4.2).bind (fun q => rk px kx f (d + 1) 25 46 [some (.ref x0), some (.int x1), some (.int (q4.2.2.1 a6 1))] (q.1.toList ++ []) q.2) else none) (fun f => rfl) ?_
        refine OkF.grd (fun _ => ?_)
        refine OkF.bind (w1 := wI) (om15 (d + 0) x0 (4 : Int32) q4.2) (fun q7 => ?_)
        exact OkF.ret 1 (fun f => rfl)
      · refine OkF.eq 3 (Y := fun f => if oc q4.2 x0 11 = true then rk px kx f (d + 1) 25 52 [some (.ref x0), some (.int x1), some (.int (q4.2.2.1 a6 1))] (va_rf (q4.2.2.2.2.1 x0 0) :: [.ref x0]) q4.2 else none) (fun f => rfl) ?_
        refine OkF.grd (fun _ => ?_)
        refine OkF.rf (fun a8 => ?_)
        refine OkF.eq 2 (Y := fun f => if inb x1 (aw q4.2 3 a8) = true then rk px kx f (d + 1) 25 54 [some (.ref x0), some (.int x1), some (.int (q4.2.2.1 a6 1))] (va_rf (q4.2.2.2.2.1 a8 x1.toNatClampNeg) :: [.ref x0]) q4.2 else none) (fun f => rfl) ?_
        refine OkF.grd (fun _ => ?_)
        refine OkF.rf (fun a9 => ?_)
        refine OkF.eq 1 (Y := fun f => if oc q4.2 a9 8 = true then (rk px kx f (d + 0) 26 0 [some (.ref a9), none, none, none] [] q4.2).bind (fun q => rk px kx f (d + 1) 25 57 [some (.ref x0), some (.int x1), some (.int (q4.2.2.1 a6 1))] (q.1.toList ++ [.ref x0]) q.2) else none) (fun f => rfl) ?_
        refine OkF.grd (fun _ => ?_)
        refine OkF.bind (w1 := wL) (om26 (d + 0) a9 q4.2) (fun q10 => ?_)
        refine OkF.eq 3 (Y := fun f => if ((q4.2.2.1 a6 1).toInt64) = 0 then none else rk px kx f (d + 1) 25 60 [some (.ref x0), some (.int x1), some (.int (q4.2.2.1 a6 1))] [.long (q10.1 / ((q4.2.2.1 a6 1).toInt64)), .ref x0] q10.2) (fun f => rfl) ?_
        refine OkF.ngr (fun _ => ?_)
        refine OkF.eq 2 (Y := fun f => if oc q10.2 x0 11 = true then rk px kx f (d + 1) 25 64 [some (.ref x0), some (.int x1), some (.int (q4.2.2.1 a6 1))] [] (sI q10.2 x0 12 ((q10.1 / ((q4.2.2.1 a6 1).toInt64)).toInt32)) else none) (fun f => rfl) ?_
        refine OkF.grd (fun _ => ?_)
        refine OkF.nm (fun S11 => ?_)
        exact OkF.ret 2 (fun f => rfl)
    · refine OkF.eq 3 (Y := fun f => if oc q4.2 x0 11 = true then (rk px kx f (d + 0) 15 0 [some (.ref x0), some (.int (1 : Int32))] [] q4.2).bind (fun q => rk px kx f (d + 1) 25 26 [some (.ref x0), some (.int x1), none] (q.1.toList ++ []) q.2) else none) (fun f => rfl) ?_
      refine OkF.grd (fun _ => ?_)
      refine OkF.bind (w1 := wI) (om15 (d + 0) x0 (1 : Int32) q4.2) (fun q12 => ?_)
      exact OkF.ret 1 (fun f => rfl)
  · exact OkF.ret 2 (fun f => rfl)
-- DoorSold.noText(I)Z
def m28 (x0 : Int32) (S : Sx) : Option (Int32 × Sx) :=
  if x0 < 0 then some ((1 : Int32), S) else if x0 < (4 : Int32) then some ((0 : Int32), S) else some ((1 : Int32), S)
set_option maxRecDepth 100000 in
theorem om28 (d : Nat) (x0 : Int32) (S : Sx) : OkF wI (fun f => rk px kx f (d + 0) 28 0 [some (.int x0)] [] S) (m28 x0 S) := by
  unfold m28
  refine OkF.eq 2 (Y := fun f => if x0 < 0 then rk px kx f (d + 0) 28 9 [some (.int x0)] [] S else rk px kx f (d + 0) 28 4 [some (.int x0)] [] S) (fun f => rfl) ?_
  refine OkF.ite (fun _ => ?_) (fun _ => ?_)
  · exact OkF.ret 3 (fun f => rfl)
  · refine OkF.eq 3 (Y := fun f => if x0 < (4 : Int32) then rk px kx f (d + 0) 28 13 [some (.int x0)] [] S else rk px kx f (d + 0) 28 9 [some (.int x0)] [] S) (fun f => rfl) ?_
    refine OkF.ite (fun _ => ?_) (fun _ => ?_)
    · exact OkF.ret 2 (fun f => rfl)
    · exact OkF.ret 3 (fun f => rfl)
-- DoorSold.text(II)I
def m27 (x0 : Nat) (x1 : Int32) (x2 : Int32) (S : Sx) : Option (Int32 × Sx) :=
  (m28 x1 S).bind fun q1 => if q1.1 = 0 then if x2 ≤ (60 : Int32) then if 0 ≤ x2 then if oc q1.2 x0 11 = true then (q1.2.2.2.2.1 x0 1).bind fun a2 => if inb x1 (aw q1.2 3 a2) = true then (q1.2.2.2.2.1 a2 x1.toNatClampNeg).bind fun a3 => if oc q1.2 a3 8 = true then (m16 a3 x2 (32 : Int32) q1.2).bind fun q4 => some (x2, q4) else none else none else none else if oc q1.2 x0 11 = true then (m15 x0 (5 : Int32) q1.2).bind fun q5 => some (q5.1, q5.2) else none else some ((-1 : Int32), q1.2) else some ((-1 : Int32), q1.2)
set_option maxRecDepth 100000 in
theorem om27 (d : Nat) (x0 : Nat) (x1 : Int32) (x2 : Int32) (S : Sx) : OkF wI (fun f => rk px kx f (d + 2) 27 0 [some (.ref x0), some (.int x1), some (.int x2)] [] S) (m27 x0 x1 x2 S) := by
  unfold m27
  refine OkF.eq 2 (Y := fun f => (rk px kx f (d + 1) 28 0 [some (.int x1)] [] S).bind (fun q => rk px kx f (d + 2) 27 4 [some (.ref x0), some (.int x1), some (.int x2)] (q.1.toList ++ []) q.2)) (fun f => rfl) ?_
  refine OkF.bind (w1 := wI) (om28 (d + 1) x1 S) (fun q1 => ?_)
  refine OkF.eq 1 (Y := fun f => if q1.1 = 0 then rk px kx f (d + 2) 27 7 [some (.ref x0), some (.int x1), some (.int x2)] [] q1.2 else rk px kx f (d + 2) 27 13 [some (.ref x0), some (.int x1), some (.int x2)] [] q1.2) (fun f => rfl) ?_
  refine OkF.ite (fun _ => ?_) (fun _ => ?_)
  · refine OkF.eq 3 (Y := fun f => if x2 ≤ (60 : Int32) then rk px kx f (d + 2) 27 15 [some (.ref x0), some (.int x1), some (.int x2)] [] q1.2 else rk px kx f (d + 2) 27 13 [some (.ref x0), some (.int x1), some (.int x2)] [] q1.2) (fun f => rfl) ?_
    refine OkF.ite (fun _ => ?_) (fun _ => ?_)
    · refine OkF.eq 2 (Y := fun f => if 0 ≤ x2 then rk px kx f (d + 2) 27 25 [some (.ref x0), some (.int x1), some (.int x2)] [] q1.2 else rk px kx f (d + 2) 27 19 [some (.ref x0), some (.int x1), some (.int x2)] [] q1.2) (fun f => rfl) ?_
      refine OkF.ite (fun _ => ?_) (fun _ => ?_)
      · refine OkF.eq 2 (Y := fun f => if oc q1.2 x0 11 = true then rk px kx f (d + 2) 27 29 [some (.ref x0), some (.int x1), some (.int x2)] (va_rf (q1.2.2.2.2.1 x0 1) :: []) q1.2 else none) (fun f => rfl) ?_
        refine OkF.grd (fun _ => ?_)
        refine OkF.rf (fun a2 => ?_)
        refine OkF.eq 2 (Y := fun f => if inb x1 (aw q1.2 3 a2) = true then rk px kx f (d + 2) 27 31 [some (.ref x0), some (.int x1), some (.int x2)] (va_rf (q1.2.2.2.2.1 a2 x1.toNatClampNeg) :: []) q1.2 else none) (fun f => rfl) ?_
        refine OkF.grd (fun _ => ?_)
        refine OkF.rf (fun a3 => ?_)
        refine OkF.eq 3 (Y := fun f => if oc q1.2 a3 8 = true then (rk px kx f (d + 1) 16 0 [some (.ref a3), some (.int x2), some (.int (32 : Int32)), none] [] q1.2).bind (fun q => rk px kx f (d + 2) 27 37 [some (.ref x0), some (.int x1), some (.int x2)] (q.1.toList ++ []) q.2) else none) (fun f => rfl) ?_
        refine OkF.grd (fun _ => ?_)
        refine OkF.bind (w1 := wV) (om16 (d + 0) a3 x2 (32 : Int32) q1.2) (fun q4 => ?_)
        exact OkF.ret 2 (fun f => rfl)
      · refine OkF.eq 3 (Y := fun f => if oc q1.2 x0 11 = true then (rk px kx f (d + 1) 15 0 [some (.ref x0), some (.int (5 : Int32))] [] q1.2).bind (fun q => rk px kx f (d + 2) 27 24 [some (.ref x0), some (.int x1), some (.int x2)] (q.1.toList ++ []) q.2) else none) (fun f => rfl) ?_
        refine OkF.grd (fun _ => ?_)
        refine OkF.bind (w1 := wI) (om15 (d + 1) x0 (5 : Int32) q1.2) (fun q5 => ?_)
        exact OkF.ret 1 (fun f => rfl)
    · exact OkF.ret 2 (fun f => rfl)
  · exact OkF.ret 2 (fun f => rfl)
-- DoorSold.put(III)I
def m29 (x0 : Nat) (x1 : Int32) (x2 : Int32) (x3 : Int32) (S : Sx) : Option (Int32 × Sx) :=
  (m28 x1 S).bind fun q1 => if q1.1 = 0 then if oc q1.2 x0 11 = true then (q1.2.2.2.2.1 x0 1).bind fun a2 => if inb x1 (aw q1.2 3 a2) = true then (q1.2.2.2.2.1 a2 x1.toNatClampNeg).bind fun a3 => if oc q1.2 a3 8 = true then (m20 a3 q1.2).bind fun q4 => if q4.1 = 0 then if oc q4.2 x0 11 = true then (q4.2.2.2.2.1 x0 1).bind fun a5 => if inb x1 (aw q4.2 3 a5) = true then (q4.2.2.2.2.1 a5 x1.toNatClampNeg).bind fun a6 => if oc q4.2 a6 8 = true then (m21 a6 x2 (1 : Int32) q4.2).bind fun q7 => if q7.1 = 0 then if oc q7.2 x0 11 = true then (m15 x0 (2 : Int32) q7.2).bind fun q8 => some (q8.1, q8.2) else none else if oc q7.2 x0 11 = true then (q7.2.2.2.2.1 x0 1).bind fun a9 => if inb x1 (aw q7.2 3 a9) = true then (q7.2.2.2.2.1 a9 x1.toNatClampNeg).bind fun a10 => if oc q7.2 a10 8 = true then (q7.2.2.2.2.1 a10 0).bind fun a11 => if inb x2 (al q7.2 a11) = true then if oc q7.2 x0 11 = true then (q7.2.2.2.2.1 x0 1).bind fun a12 => if inb x1 (aw q7.2 3 a12) = true then (q7.2.2.2.2.1 a12 x1.toNatClampNeg).bind fun a13 => if oc q7.2 a13 8 = true then (q7.2.2.2.2.1 a13 0).bind fun a14 => if inb x2 (aw q7.2 1 a14) = true then lt (sI q7.2 a14 x2.toNatClampNeg x3.toInt8.toInt32) fun S15 => some ((1000 : Int32) + (q7.2.2.1 a11 x2.toNatClampNeg), S15) else none else none else none else none else none else none else none else none else none else none else none else if oc q4.2 x0 11 = true then (m15 x0 (1 : Int32) q4.2).bind fun q16 => some (q16.1, q16.2) else none else none else none else none else some ((-1 : Int32), q1.2)
set_option maxRecDepth 100000 in
theorem om29 (d : Nat) (x0 : Nat) (x1 : Int32) (x2 : Int32) (x3 : Int32) (S : Sx) : OkF wI (fun f => rk px kx f (d + 1) 29 0 [some (.ref x0), some (.int x1), some (.int x2), some (.int x3), none] [] S) (m29 x0 x1 x2 x3 S) := by
  unfold m29
  refine OkF.eq 2 (Y := fun f => (rk px kx f (d + 0) 28 0 [some (.int x1)] [] S).bind (fun q => rk px kx f (d + 1) 29 4 [some (.ref x0), some (.int x1), some (.int x2), some (.int x3), none] (q.1.toList ++ []) q.2)) (fun f => rfl) ?_
  refine OkF.bind (w1 := wI) (om28 (d + 0) x1 S) (fun q1 => ?_)
  refine OkF.eq 1 (Y := fun f => if q1.1 = 0 then rk px kx f (d + 1) 29 9 [some (.ref x0), some (.int x1), some (.int x2), some (.int x3), none] [] q1.2 else rk px kx f (d + 1) 29 7 [some (.ref x0), some (.int x1), some (.int x2), some (.int x3), none] [] q1.2) (fun f => rfl) ?_
  refine OkF.ite (fun _ => ?_) (fun _ => ?_)
  · refine OkF.eq 2 (Y := fun f => if oc q1.2 x0 11 = true then rk px kx f (d + 1) 29 13 [some (.ref x0), some (.int x1), some (.int x2), some (.int x3), none] (va_rf (q1.2.2.2.2.1 x0 1) :: []) q1.2 else none) (fun f => rfl) ?_
    refine OkF.grd (fun _ => ?_)
    refine OkF.rf (fun a2 => ?_)
    refine OkF.eq 2 (Y := fun f => if inb x1 (aw q1.2 3 a2) = true then rk px kx f (d + 1) 29 15 [some (.ref x0), some (.int x1), some (.int x2), some (.int x3), none] (va_rf (q1.2.2.2.2.1 a2 x1.toNatClampNeg) :: []) q1.2 else none) (fun f => rfl) ?_
    refine OkF.grd (fun _ => ?_)
    refine OkF.rf (fun a3 => ?_)
    refine OkF.eq 1 (Y := fun f => if oc q1.2 a3 8 = true then (rk px kx f (d + 0) 20 0 [some (.ref a3)] [] q1.2).bind (fun q => rk px kx f (d + 1) 29 18 [some (.ref x0), some (.int x1), some (.int x2), some (.int x3), none] (q.1.toList ++ []) q.2) else none) (fun f => rfl) ?_
    refine OkF.grd (fun _ => ?_)
    refine OkF.bind (w1 := wI) (om20 (d + 0) a3 q1.2) (fun q4 => ?_)
    refine OkF.eq 1 (Y := fun f => if q4.1 = 0 then rk px kx f (d + 1) 29 27 [some (.ref x0), some (.int x1), some (.int x2), some (.int x3), none] [] q4.2 else rk px kx f (d + 1) 29 21 [some (.ref x0), some (.int x1), some (.int x2), some (.int x3), none] [] q4.2) (fun f => rfl) ?_
    refine OkF.ite (fun _ => ?_) (fun _ => ?_)
    · refine OkF.eq 2 (Y := fun f => if oc q4.2 x0 11 = true then rk px kx f (d + 1) 29 31 [some (.ref x0), some (.int x1), some (.int x2), some (.int x3), none] (va_rf (q4.2.2.2.2.1 x0 1) :: []) q4.2 else none) (fun f => rfl) ?_
      refine OkF.grd (fun _ => ?_)
      refine OkF.rf (fun a5 => ?_)
      refine OkF.eq 2 (Y := fun f => if inb x1 (aw q4.2 3 a5) = true then rk px kx f (d + 1) 29 33 [some (.ref x0), some (.int x1), some (.int x2), some (.int x3), none] (va_rf (q4.2.2.2.2.1 a5 x1.toNatClampNeg) :: []) q4.2 else none) (fun f => rfl) ?_
      refine OkF.grd (fun _ => ?_)
      refine OkF.rf (fun a6 => ?_)
      refine OkF.eq 3 (Y := fun f => if oc q4.2 a6 8 = true then (rk px kx f (d + 0) 21 0 [some (.ref a6), some (.int x2), some (.int (1 : Int32))] [] q4.2).bind (fun q => rk px kx f (d + 1) 29 38 [some (.ref x0), some (.int x1), some (.int x2), some (.int x3), none] (q.1.toList ++ []) q.2) else none) (fun f => rfl) ?_
      refine OkF.grd (fun _ => ?_)
      refine OkF.bind (w1 := wI) (om21 (d + 0) a6 x2 (1 : Int32) q4.2) (fun q7 => ?_)
      refine OkF.eq 1 (Y := fun f => if q7.1 = 0 then rk px kx f (d + 1) 29 41 [some (.ref x0), some (.int x1), some (.int x2), some (.int x3), none] [] q7.2 else rk px kx f (d + 1) 29 47 [some (.ref x0), some (.int x1), some (.int x2), some (.int x3), none] [] q7.2) (fun f => rfl) ?_
      refine OkF.ite (fun _ => ?_) (fun _ => ?_)
      · refine OkF.eq 3 (Y := fun f => if oc q7.2 x0 11 = true then (rk px kx f (d + 0) 15 0 [some (.ref x0), some (.int (2 : Int32))] [] q7.2).bind (fun q => rk px kx f (d + 1) 29 46 [some (.ref x0), some (.int x1), some (.int x2), some (.int x3), none] (q.1.toList ++ []) q.2) else none) (fun f => rfl) ?_
        refine OkF.grd (fun _ => ?_)
        refine OkF.bind (w1 := wI) (om15 (d + 0) x0 (2 : Int32) q7.2) (fun q8 => ?_)
        exact OkF.ret 1 (fun f => rfl)
      · refine OkF.eq 2 (Y := fun f => if oc q7.2 x0 11 = true then rk px kx f (d + 1) 29 51 [some (.ref x0), some (.int x1), some (.int x2), some (.int x3), none] (va_rf (q7.2.2.2.2.1 x0 1) :: []) q7.2 else none) (fun f => rfl) ?_
        refine OkF.grd (fun _ => ?_)
        refine OkF.rf (fun a9 => ?_)
        refine OkF.eq 2 (Y := fun f => if inb x1 (aw q7.2 3 a9) = true then rk px kx f (d + 1) 29 53 [some (.ref x0), some (.int x1), some (.int x2), some (.int x3), none] (va_rf (q7.2.2.2.2.1 a9 x1.toNatClampNeg) :: []) q7.2 else none) (fun f => rfl) ?_
        refine OkF.grd (fun _ => ?_)
        refine OkF.rf (fun a10 => ?_)
        refine OkF.eq 1 (Y := fun f => if oc q7.2 a10 8 = true then rk px kx f (d + 1) 29 56 [some (.ref x0), some (.int x1), some (.int x2), some (.int x3), none] (va_rf (q7.2.2.2.2.1 a10 0) :: []) q7.2 else none) (fun f => rfl) ?_
        refine OkF.grd (fun _ => ?_)
        refine OkF.rf (fun a11 => ?_)
        refine OkF.eq 2 (Y := fun f => if inb x2 (al q7.2 a11) = true then rk px kx f (d + 1) 29 58 [some (.ref x0), some (.int x1), some (.int x2), some (.int x3), none] [.int (q7.2.2.1 a11 x2.toNatClampNeg)] q7.2 else none) (fun f => rfl) ?_
        refine OkF.grd (fun _ => ?_)
        refine OkF.eq 3 (Y := fun f => if oc q7.2 x0 11 = true then rk px kx f (d + 1) 29 64 [some (.ref x0), some (.int x1), some (.int x2), some (.int x3), some (.int (q7.2.2.1 a11 x2.toNatClampNeg))] (va_rf (q7.2.2.2.2.1 x0 1) :: []) q7.2 else none) (fun f => rfl) ?_
        refine OkF.grd (fun _ => ?_)
        refine OkF.rf (fun a12 => ?_)
        refine OkF.eq 2 (Y := fun f => if inb x1 (aw q7.2 3 a12) = true then rk px kx f (d + 1) 29 66 [some (.ref x0), some (.int x1), some (.int x2), some (.int x3), some (.int (q7.2.2.1 a11 x2.toNatClampNeg))] (va_rf (q7.2.2.2.2.1 a12 x1.toNatClampNeg) :: []) q7.2 else none) (fun f => rfl) ?_
        refine OkF.grd (fun _ => ?_)
        refine OkF.rf (fun a13 => ?_)
        refine OkF.eq 1 (Y := fun f => if oc q7.2 a13 8 = true then rk px kx f (d + 1) 29 69 [some (.ref x0), some (.int x1), some (.int x2), some (.int x3), some (.int (q7.2.2.1 a11 x2.toNatClampNeg))] (va_rf (q7.2.2.2.2.1 a13 0) :: []) q7.2 else none) (fun f => rfl) ?_
        refine OkF.grd (fun _ => ?_)
        refine OkF.rf (fun a14 => ?_)
        refine OkF.eq 4 (Y := fun f => if inb x2 (aw q7.2 1 a14) = true then rk px kx f (d + 1) 29 73 [some (.ref x0), some (.int x1), some (.int x2), some (.int x3), some (.int (q7.2.2.1 a11 x2.toNatClampNeg))] [] (sI q7.2 a14 x2.toNatClampNeg x3.toInt8.toInt32) else none) (fun f => rfl) ?_
        refine OkF.grd (fun _ => ?_)
        refine OkF.nm (fun S15 => ?_)
        exact OkF.ret 4 (fun f => rfl)
    · refine OkF.eq 3 (Y := fun f => if oc q4.2 x0 11 = true then (rk px kx f (d + 0) 15 0 [some (.ref x0), some (.int (1 : Int32))] [] q4.2).bind (fun q => rk px kx f (d + 1) 29 26 [some (.ref x0), some (.int x1), some (.int x2), some (.int x3), none] (q.1.toList ++ []) q.2) else none) (fun f => rfl) ?_
      refine OkF.grd (fun _ => ?_)
      refine OkF.bind (w1 := wI) (om15 (d + 0) x0 (1 : Int32) q4.2) (fun q16 => ?_)
      exact OkF.ret 1 (fun f => rfl)
  · exact OkF.ret 2 (fun f => rfl)
-- DoorSold$Country.begin()V
def b33_2 (k2 : Nat → Int32 → Sx → Option (Sx)) (x0 : Nat) (x1 : Int32) (S : Sx) : Option (Sx) :=
  if oc S x0 4 = true then if (S.2.1 x0 9) ≤ x1 then if oc S x0 4 = true then if oc S x0 4 = true then lt (sI S x0 11 (S.2.1 x0 10)) fun S1 => if oc S1 x0 4 = true then lt (sI S1 x0 12 (0 : Int32)) fun S2 => if oc S2 x0 4 = true then lt (sI S2 x0 13 (0 : Int32)) fun S3 => if oc S3 x0 4 = true then lt (sI S3 x0 14 (0 : Int32)) fun S4 => if oc S4 x0 4 = true then lt (sI S4 x0 15 (0 : Int32)) fun S5 => some S5 else none else none else none else none else none else none else if oc S x0 4 = true then (S.2.2.2.1 x0 3).bind fun a6 => if oc S x0 4 = true then (S.2.2.2.1 x0 5).bind fun a7 => if inb x1 (al S a7) = true then if inb x1 (aw S 1 a6) = true then lt (sI S a6 x1.toNatClampNeg (S.2.1 a7 x1.toNatClampNeg)) fun S8 => if oc S8 x0 4 = true then (S8.2.2.2.1 x0 4).bind fun a9 => if oc S8 x0 4 = true then (S8.2.2.2.1 x0 6).bind fun a10 => if inb x1 (al S8 a10) = true then if inb x1 (aw S8 1 a9) = true then lt (sI S8 a9 x1.toNatClampNeg (S8.2.1 a10 x1.toNatClampNeg)) fun S11 => k2 x0 (x1 + (1 : Int32)) S11 else none else none else none else none else none else none else none else none else none
set_option maxRecDepth 100000 in
theorem ob33_2 (d : Nat) (k2 : Nat → Int32 → Sx → Option (Sx)) (hk2 : ∀ (x0 : Nat) (x1 : Int32) (S : Sx), OkF wV (fun f => rk px kx f (d + 0) 33 2 [some (.ref x0), some (.int x1)] [] S) (k2 x0 x1 S)) (x0 : Nat) (x1 : Int32) (S : Sx) : OkF wV (fun f => rk px kx f (d + 0) 33 2 [some (.ref x0), some (.int x1)] [] S) (b33_2 k2 x0 x1 S) := by
  unfold b33_2
  refine OkF.eq 3 (Y := fun f => if oc S x0 4 = true then rk px kx f (d + 0) 33 7 [some (.ref x0), some (.int x1)] [.int (S.2.1 x0 9), .int x1] S else none) (fun f => rfl) ?_
  refine OkF.grd (fun _ => ?_)
  refine OkF.eq 1 (Y := fun f => if (S.2.1 x0 9) ≤ x1 then rk px kx f (d + 0) 33 40 [some (.ref x0), some (.int x1)] [] S else rk px kx f (d + 0) 33 10 [some (.ref x0), some (.int x1)] [] S) (fun f => rfl) ?_
  refine OkF.ite (fun _ => ?_) (fun _ => ?_)
  · refine OkF.eq 3 (Y := fun f => if oc S x0 4 = true then rk px kx f (d + 0) 33 45 [some (.ref x0), some (.int x1)] [.int (S.2.1 x0 10), .ref x0] S else none) (fun f => rfl) ?_
    refine OkF.grd (fun _ => ?_)
    refine OkF.eq 1 (Y := fun f => if oc S x0 4 = true then rk px kx f (d + 0) 33 48 [some (.ref x0), some (.int x1)] [] (sI S x0 11 (S.2.1 x0 10)) else none) (fun f => rfl) ?_
    refine OkF.grd (fun _ => ?_)
    refine OkF.nm (fun S1 => ?_)
    refine OkF.eq 3 (Y := fun f => if oc S1 x0 4 = true then rk px kx f (d + 0) 33 53 [some (.ref x0), some (.int x1)] [] (sI S1 x0 12 (0 : Int32)) else none) (fun f => rfl) ?_
    refine OkF.grd (fun _ => ?_)
    refine OkF.nm (fun S2 => ?_)
    refine OkF.eq 3 (Y := fun f => if oc S2 x0 4 = true then rk px kx f (d + 0) 33 58 [some (.ref x0), some (.int x1)] [] (sI S2 x0 13 (0 : Int32)) else none) (fun f => rfl) ?_
    refine OkF.grd (fun _ => ?_)
    refine OkF.nm (fun S3 => ?_)
    refine OkF.eq 3 (Y := fun f => if oc S3 x0 4 = true then rk px kx f (d + 0) 33 63 [some (.ref x0), some (.int x1)] [] (sI S3 x0 14 (0 : Int32)) else none) (fun f => rfl) ?_
    refine OkF.grd (fun _ => ?_)
    refine OkF.nm (fun S4 => ?_)
    refine OkF.eq 3 (Y := fun f => if oc S4 x0 4 = true then rk px kx f (d + 0) 33 68 [some (.ref x0), some (.int x1)] [] (sI S4 x0 15 (0 : Int32)) else none) (fun f => rfl) ?_
    refine OkF.grd (fun _ => ?_)
    refine OkF.nm (fun S5 => ?_)
    exact OkF.ret 1 (fun f => rfl)
  · refine OkF.eq 2 (Y := fun f => if oc S x0 4 = true then rk px kx f (d + 0) 33 14 [some (.ref x0), some (.int x1)] (va_rf (S.2.2.2.1 x0 3) :: []) S else none) (fun f => rfl) ?_
    refine OkF.grd (fun _ => ?_)
    refine OkF.rf (fun a6 => ?_)
    refine OkF.eq 3 (Y := fun f => if oc S x0 4 = true then rk px kx f (d + 0) 33 19 [some (.ref x0), some (.int x1)] (va_rf (S.2.2.2.1 x0 5) :: [.int x1, .ref a6]) S else none) (fun f => rfl) ?_
    refine OkF.grd (fun _ => ?_)
    refine OkF.rf (fun a7 => ?_)
    refine OkF.eq 2 (Y := fun f => if inb x1 (al S a7) = true then rk px kx f (d + 0) 33 21 [some (.ref x0), some (.int x1)] [.int (S.2.1 a7 x1.toNatClampNeg), .int x1, .ref a6] S else none) (fun f => rfl) ?_
    refine OkF.grd (fun _ => ?_)
    refine OkF.eq 1 (Y := fun f => if inb x1 (aw S 1 a6) = true then rk px kx f (d + 0) 33 22 [some (.ref x0), some (.int x1)] [] (sI S a6 x1.toNatClampNeg (S.2.1 a7 x1.toNatClampNeg)) else none) (fun f => rfl) ?_
    refine OkF.grd (fun _ => ?_)
    refine OkF.nm (fun S8 => ?_)
    refine OkF.eq 2 (Y := fun f => if oc S8 x0 4 = true then rk px kx f (d + 0) 33 26 [some (.ref x0), some (.int x1)] (va_rf (S8.2.2.2.1 x0 4) :: []) S8 else none) (fun f => rfl) ?_
    refine OkF.grd (fun _ => ?_)
    refine OkF.rf (fun a9 => ?_)
    refine OkF.eq 3 (Y := fun f => if oc S8 x0 4 = true then rk px kx f (d + 0) 33 31 [some (.ref x0), some (.int x1)] (va_rf (S8.2.2.2.1 x0 6) :: [.int x1, .ref a9]) S8 else none) (fun f => rfl) ?_
    refine OkF.grd (fun _ => ?_)
    refine OkF.rf (fun a10 => ?_)
    refine OkF.eq 2 (Y := fun f => if inb x1 (al S8 a10) = true then rk px kx f (d + 0) 33 33 [some (.ref x0), some (.int x1)] [.int (S8.2.1 a10 x1.toNatClampNeg), .int x1, .ref a9] S8 else none) (fun f => rfl) ?_
    refine OkF.grd (fun _ => ?_)
    refine OkF.eq 1 (Y := fun f => if inb x1 (aw S8 1 a9) = true then rk px kx f (d + 0) 33 34 [some (.ref x0), some (.int x1)] [] (sI S8 a9 x1.toNatClampNeg (S8.2.1 a10 x1.toNatClampNeg)) else none) (fun f => rfl) ?_
    refine OkF.grd (fun _ => ?_)
    refine OkF.nm (fun S11 => ?_)
    refine OkF.eq 2 (Y := fun f => rk px kx f (d + 0) 33 2 [some (.ref x0), some (.int (x1 + (1 : Int32)))] [] S11) (fun f => rfl) ?_
    exact OkF.kl (ls1 := [some (.ref x0), some (.int (x1 + (1 : Int32)))]) (fun f => rfl) (hk2 x0 (x1 + (1 : Int32)) S11)
def l33_2 : Nat → Nat → Int32 → Sx → Option (Sx)
  | 0 => fun _ _ _ => none
  | n + 1 => fun x0 x1 S => b33_2 (l33_2 n) x0 x1 S
set_option maxRecDepth 100000 in
theorem ol33_2 (d : Nat) : ∀ (n : Nat) (x0 : Nat) (x1 : Int32) (S : Sx), OkF wV (fun f => rk px kx f (d + 0) 33 2 [some (.ref x0), some (.int x1)] [] S) (l33_2 n x0 x1 S) := by
  intro n
  induction n with
  | zero => intro x0 x1 S; exact OkF.no
  | succ n ih => intro x0 x1 S; exact ob33_2 d (l33_2 n) ih x0 x1 S
def m33 (x0 : Nat) (S : Sx) : Option (Sx) :=
  l33_2 1000 x0 (0 : Int32) S
set_option maxRecDepth 100000 in
theorem om33 (d : Nat) (x0 : Nat) (S : Sx) : OkF wV (fun f => rk px kx f (d + 0) 33 0 [some (.ref x0), none] [] S) (m33 x0 S) := by
  unfold m33
  refine OkF.eq 2 (Y := fun f => rk px kx f (d + 0) 33 2 [some (.ref x0), some (.int (0 : Int32))] [] S) (fun f => rfl) ?_
  exact OkF.kl (ls1 := [some (.ref x0), some (.int (0 : Int32))]) (fun f => rfl) (ol33_2 d 1000 x0 (0 : Int32) S)
-- DoorSold$Country.clear()V
def m32 (x0 : Nat) (S : Sx) : Option (Sx) :=
  if oc S x0 4 = true then lt (sI S x0 8 (0 : Int32)) fun S1 => if oc S1 x0 4 = true then lt (sI S1 x0 9 (0 : Int32)) fun S2 => if oc S2 x0 4 = true then lt (sI S2 x0 10 (0 : Int32)) fun S3 => if oc S3 x0 4 = true then (m33 x0 S3).bind fun q4 => some q4 else none else none else none else none
set_option maxRecDepth 100000 in
theorem om32 (d : Nat) (x0 : Nat) (S : Sx) : OkF wV (fun f => rk px kx f (d + 1) 32 0 [some (.ref x0)] [] S) (m32 x0 S) := by
  unfold m32
  refine OkF.eq 3 (Y := fun f => if oc S x0 4 = true then rk px kx f (d + 1) 32 5 [some (.ref x0)] [] (sI S x0 8 (0 : Int32)) else none) (fun f => rfl) ?_
  refine OkF.grd (fun _ => ?_)
  refine OkF.nm (fun S1 => ?_)
  refine OkF.eq 3 (Y := fun f => if oc S1 x0 4 = true then rk px kx f (d + 1) 32 10 [some (.ref x0)] [] (sI S1 x0 9 (0 : Int32)) else none) (fun f => rfl) ?_
  refine OkF.grd (fun _ => ?_)
  refine OkF.nm (fun S2 => ?_)
  refine OkF.eq 3 (Y := fun f => if oc S2 x0 4 = true then rk px kx f (d + 1) 32 15 [some (.ref x0)] [] (sI S2 x0 10 (0 : Int32)) else none) (fun f => rfl) ?_
  refine OkF.grd (fun _ => ?_)
  refine OkF.nm (fun S3 => ?_)
  refine OkF.eq 2 (Y := fun f => if oc S3 x0 4 = true then (rk px kx f (d + 0) 33 0 [some (.ref x0), none] [] S3).bind (fun q => rk px kx f (d + 1) 32 19 [some (.ref x0)] (q.1.toList ++ []) q.2) else none) (fun f => rfl) ?_
  refine OkF.grd (fun _ => ?_)
  refine OkF.bind (w1 := wV) (om33 (d + 0) x0 S3) (fun q4 => ?_)
  exact OkF.ret 1 (fun f => rfl)
-- DoorSold$Reader.skipBlanks(LDoorSold$Row;)V
def b34_0 (k0 : Nat → Nat → Sx → Option (Sx)) (x0 : Nat) (x1 : Nat) (S : Sx) : Option (Sx) :=
  if oc S x0 7 = true then if oc S x1 8 = true then if (S.2.1 x1 1) ≤ (S.2.1 x0 0) then some S else if oc S x1 8 = true then (S.2.2.2.1 x1 0).bind fun a1 => if oc S x0 7 = true then if inb (S.2.1 x0 0) (al S a1) = true then if (S.2.1 a1 (S.2.1 x0 0).toNatClampNeg) = (32 : Int32) then if oc S x0 7 = true then if oc S x0 7 = true then lt (sI S x0 0 ((S.2.1 x0 0) + (1 : Int32))) fun S2 => k0 x0 x1 S2 else none else none else some S else none else none else none else none else none
set_option maxRecDepth 100000 in
theorem ob34_0 (d : Nat) (k0 : Nat → Nat → Sx → Option (Sx)) (hk0 : ∀ (x0 : Nat) (x1 : Nat) (S : Sx), OkF wV (fun f => rk px kx f (d + 0) 34 0 [some (.ref x0), some (.ref x1)] [] S) (k0 x0 x1 S)) (x0 : Nat) (x1 : Nat) (S : Sx) : OkF wV (fun f => rk px kx f (d + 0) 34 0 [some (.ref x0), some (.ref x1)] [] S) (b34_0 k0 x0 x1 S) := by
  unfold b34_0
  refine OkF.eq 2 (Y := fun f => if oc S x0 7 = true then rk px kx f (d + 0) 34 4 [some (.ref x0), some (.ref x1)] [.int (S.2.1 x0 0)] S else none) (fun f => rfl) ?_
  refine OkF.grd (fun _ => ?_)
  refine OkF.eq 2 (Y := fun f => if oc S x1 8 = true then rk px kx f (d + 0) 34 8 [some (.ref x0), some (.ref x1)] [.int (S.2.1 x1 1), .int (S.2.1 x0 0)] S else none) (fun f => rfl) ?_
  refine OkF.grd (fun _ => ?_)
  refine OkF.eq 1 (Y := fun f => if (S.2.1 x1 1) ≤ (S.2.1 x0 0) then rk px kx f (d + 0) 34 38 [some (.ref x0), some (.ref x1)] [] S else rk px kx f (d + 0) 34 11 [some (.ref x0), some (.ref x1)] [] S) (fun f => rfl) ?_
  refine OkF.ite (fun _ => ?_) (fun _ => ?_)
  · exact OkF.ret 1 (fun f => rfl)
  · refine OkF.eq 2 (Y := fun f => if oc S x1 8 = true then rk px kx f (d + 0) 34 15 [some (.ref x0), some (.ref x1)] (va_rf (S.2.2.2.1 x1 0) :: []) S else none) (fun f => rfl) ?_
    refine OkF.grd (fun _ => ?_)
    refine OkF.rf (fun a1 => ?_)
    refine OkF.eq 2 (Y := fun f => if oc S x0 7 = true then rk px kx f (d + 0) 34 19 [some (.ref x0), some (.ref x1)] [.int (S.2.1 x0 0), .ref a1] S else none) (fun f => rfl) ?_
    refine OkF.grd (fun _ => ?_)
    refine OkF.eq 1 (Y := fun f => if inb (S.2.1 x0 0) (al S a1) = true then rk px kx f (d + 0) 34 20 [some (.ref x0), some (.ref x1)] [.int (S.2.1 a1 (S.2.1 x0 0).toNatClampNeg)] S else none) (fun f => rfl) ?_
    refine OkF.grd (fun _ => ?_)
    refine OkF.eq 2 (Y := fun f => if (S.2.1 a1 (S.2.1 x0 0).toNatClampNeg) = (32 : Int32) then rk px kx f (d + 0) 34 25 [some (.ref x0), some (.ref x1)] [] S else rk px kx f (d + 0) 34 38 [some (.ref x0), some (.ref x1)] [] S) (fun f => rfl) ?_
    refine OkF.ite (fun _ => ?_) (fun _ => ?_)
    · refine OkF.eq 3 (Y := fun f => if oc S x0 7 = true then rk px kx f (d + 0) 34 30 [some (.ref x0), some (.ref x1)] [.int (S.2.1 x0 0), .ref x0] S else none) (fun f => rfl) ?_
      refine OkF.grd (fun _ => ?_)
      refine OkF.eq 3 (Y := fun f => if oc S x0 7 = true then rk px kx f (d + 0) 34 35 [some (.ref x0), some (.ref x1)] [] (sI S x0 0 ((S.2.1 x0 0) + (1 : Int32))) else none) (fun f => rfl) ?_
      refine OkF.grd (fun _ => ?_)
      refine OkF.nm (fun S2 => ?_)
      refine OkF.eq 1 (Y := fun f => rk px kx f (d + 0) 34 0 [some (.ref x0), some (.ref x1)] [] S2) (fun f => rfl) ?_
      exact OkF.kl (ls1 := [some (.ref x0), some (.ref x1)]) (fun f => rfl) (hk0 x0 x1 S2)
    · exact OkF.ret 1 (fun f => rfl)
def l34_0 : Nat → Nat → Nat → Sx → Option (Sx)
  | 0 => fun _ _ _ => none
  | n + 1 => fun x0 x1 S => b34_0 (l34_0 n) x0 x1 S
set_option maxRecDepth 100000 in
theorem ol34_0 (d : Nat) : ∀ (n : Nat) (x0 : Nat) (x1 : Nat) (S : Sx), OkF wV (fun f => rk px kx f (d + 0) 34 0 [some (.ref x0), some (.ref x1)] [] S) (l34_0 n x0 x1 S) := by
  intro n
  induction n with
  | zero => intro x0 x1 S; exact OkF.no
  | succ n ih => intro x0 x1 S; exact ob34_0 d (l34_0 n) ih x0 x1 S
def m34 (x0 : Nat) (x1 : Nat) (S : Sx) : Option (Sx) :=
  l34_0 1000 x0 x1 S
set_option maxRecDepth 100000 in
theorem om34 (d : Nat) (x0 : Nat) (x1 : Nat) (S : Sx) : OkF wV (fun f => rk px kx f (d + 0) 34 0 [some (.ref x0), some (.ref x1)] [] S) (m34 x0 x1 S) := by
  unfold m34
  exact OkF.kl (ls1 := [some (.ref x0), some (.ref x1)]) (fun f => rfl) (ol34_0 d 1000 x0 x1 S)
-- DoorSold$Reader.readFigure(LDoorSold$Row;II)I
def m36 (x0 : Nat) (x1 : Nat) (x2 : Int32) (x3 : Int32) (S : Sx) : Option (Int32 × Sx) :=
  if oc S x0 7 = true then if oc S x1 8 = true then if (S.2.1 x0 0) < (S.2.1 x1 1) then if oc S x1 8 = true then (S.2.2.2.1 x1 0).bind fun a1 => if oc S x0 7 = true then if inb (S.2.1 x0 0) (al S a1) = true then if ((S.2.1 a1 (S.2.1 x0 0).toNatClampNeg) - (48 : Int32)) < x2 then some ((-9 : Int32), S) else if ((S.2.1 a1 (S.2.1 x0 0).toNatClampNeg) - (48 : Int32)) ≤ x3 then if oc S x0 7 = true then if oc S x0 7 = true then lt (sI S x0 0 ((S.2.1 x0 0) + (1 : Int32))) fun S2 => some ((S.2.1 a1 (S.2.1 x0 0).toNatClampNeg) - (48 : Int32), S2) else none else none else some ((-9 : Int32), S) else none else none else none else some ((-9 : Int32), S) else none else none
set_option maxRecDepth 100000 in
theorem om36 (d : Nat) (x0 : Nat) (x1 : Nat) (x2 : Int32) (x3 : Int32) (S : Sx) : OkF wI (fun f => rk px kx f (d + 0) 36 0 [some (.ref x0), some (.ref x1), some (.int x2), some (.int x3), none] [] S) (m36 x0 x1 x2 x3 S) := by
  unfold m36
  refine OkF.eq 2 (Y := fun f => if oc S x0 7 = true then rk px kx f (d + 0) 36 4 [some (.ref x0), some (.ref x1), some (.int x2), some (.int x3), none] [.int (S.2.1 x0 0)] S else none) (fun f => rfl) ?_
  refine OkF.grd (fun _ => ?_)
  refine OkF.eq 2 (Y := fun f => if oc S x1 8 = true then rk px kx f (d + 0) 36 8 [some (.ref x0), some (.ref x1), some (.int x2), some (.int x3), none] [.int (S.2.1 x1 1), .int (S.2.1 x0 0)] S else none) (fun f => rfl) ?_
  refine OkF.grd (fun _ => ?_)
  refine OkF.eq 1 (Y := fun f => if (S.2.1 x0 0) < (S.2.1 x1 1) then rk px kx f (d + 0) 36 14 [some (.ref x0), some (.ref x1), some (.int x2), some (.int x3), none] [] S else rk px kx f (d + 0) 36 11 [some (.ref x0), some (.ref x1), some (.int x2), some (.int x3), none] [] S) (fun f => rfl) ?_
  refine OkF.ite (fun _ => ?_) (fun _ => ?_)
  · refine OkF.eq 2 (Y := fun f => if oc S x1 8 = true then rk px kx f (d + 0) 36 18 [some (.ref x0), some (.ref x1), some (.int x2), some (.int x3), none] (va_rf (S.2.2.2.1 x1 0) :: []) S else none) (fun f => rfl) ?_
    refine OkF.grd (fun _ => ?_)
    refine OkF.rf (fun a1 => ?_)
    refine OkF.eq 2 (Y := fun f => if oc S x0 7 = true then rk px kx f (d + 0) 36 22 [some (.ref x0), some (.ref x1), some (.int x2), some (.int x3), none] [.int (S.2.1 x0 0), .ref a1] S else none) (fun f => rfl) ?_
    refine OkF.grd (fun _ => ?_)
    refine OkF.eq 1 (Y := fun f => if inb (S.2.1 x0 0) (al S a1) = true then rk px kx f (d + 0) 36 23 [some (.ref x0), some (.ref x1), some (.int x2), some (.int x3), none] [.int (S.2.1 a1 (S.2.1 x0 0).toNatClampNeg)] S else none) (fun f => rfl) ?_
    refine OkF.grd (fun _ => ?_)
    refine OkF.eq 6 (Y := fun f => if ((S.2.1 a1 (S.2.1 x0 0).toNatClampNeg) - (48 : Int32)) < x2 then rk px kx f (d + 0) 36 40 [some (.ref x0), some (.ref x1), some (.int x2), some (.int x3), some (.int ((S.2.1 a1 (S.2.1 x0 0).toNatClampNeg) - (48 : Int32)))] [] S else rk px kx f (d + 0) 36 34 [some (.ref x0), some (.ref x1), some (.int x2), some (.int x3), some (.int ((S.2.1 a1 (S.2.1 x0 0).toNatClampNeg) - (48 : Int32)))] [] S) (fun f => rfl) ?_
    refine OkF.ite (fun _ => ?_) (fun _ => ?_)
    · exact OkF.ret 2 (fun f => rfl)
    · refine OkF.eq 3 (Y := fun f => if ((S.2.1 a1 (S.2.1 x0 0).toNatClampNeg) - (48 : Int32)) ≤ x3 then rk px kx f (d + 0) 36 43 [some (.ref x0), some (.ref x1), some (.int x2), some (.int x3), some (.int ((S.2.1 a1 (S.2.1 x0 0).toNatClampNeg) - (48 : Int32)))] [] S else rk px kx f (d + 0) 36 40 [some (.ref x0), some (.ref x1), some (.int x2), some (.int x3), some (.int ((S.2.1 a1 (S.2.1 x0 0).toNatClampNeg) - (48 : Int32)))] [] S) (fun f => rfl) ?_
      refine OkF.ite (fun _ => ?_) (fun _ => ?_)
      · refine OkF.eq 3 (Y := fun f => if oc S x0 7 = true then rk px kx f (d + 0) 36 48 [some (.ref x0), some (.ref x1), some (.int x2), some (.int x3), some (.int ((S.2.1 a1 (S.2.1 x0 0).toNatClampNeg) - (48 : Int32)))] [.int (S.2.1 x0 0), .ref x0] S else none) (fun f => rfl) ?_
        refine OkF.grd (fun _ => ?_)
        refine OkF.eq 3 (Y := fun f => if oc S x0 7 = true then rk px kx f (d + 0) 36 53 [some (.ref x0), some (.ref x1), some (.int x2), some (.int x3), some (.int ((S.2.1 a1 (S.2.1 x0 0).toNatClampNeg) - (48 : Int32)))] [] (sI S x0 0 ((S.2.1 x0 0) + (1 : Int32))) else none) (fun f => rfl) ?_
        refine OkF.grd (fun _ => ?_)
        refine OkF.nm (fun S2 => ?_)
        exact OkF.ret 2 (fun f => rfl)
      · exact OkF.ret 2 (fun f => rfl)
  · exact OkF.ret 2 (fun f => rfl)
