-- DoorSoldModel.hoursOf(I)I
def m179 (x0 : Nat) (x1 : Int32) (S : Sx) : Option (Int32 × Sx) :=
  if oc S x0 12 = true then (S.2.2.2.1 x0 6).bind fun a1 => if inb x1 (al S a1) = true then if (S.2.1 a1 x1.toNatClampNeg) = (1 : Int32) then some ((2 : Int32), S) else if oc S x0 12 = true then (S.2.2.2.1 x0 6).bind fun a2 => if inb x1 (al S a2) = true then if (S.2.1 a2 x1.toNatClampNeg) = (4 : Int32) then some ((3 : Int32), S) else some ((1 : Int32), S) else none else none else none else none
set_option maxRecDepth 100000 in
theorem om179 (d : Nat) (x0 : Nat) (x1 : Int32) (S : Sx) : OkF wI (fun f => rk px kx f (d + 0) 179 0 [some (.ref x0), some (.int x1)] [] S) (m179 x0 x1 S) := by
  unfold m179
  refine OkF.eq 2 (Y := fun f => if oc S x0 12 = true then rk px kx f (d + 0) 179 4 [some (.ref x0), some (.int x1)] (va_rf (S.2.2.2.1 x0 6) :: []) S else none) (fun f => rfl) ?_
  refine OkF.grd (fun _ => ?_)
  refine OkF.rf (fun a1 => ?_)
  refine OkF.eq 2 (Y := fun f => if inb x1 (al S a1) = true then rk px kx f (d + 0) 179 6 [some (.ref x0), some (.int x1)] [.int (S.2.1 a1 x1.toNatClampNeg)] S else none) (fun f => rfl) ?_
  refine OkF.grd (fun _ => ?_)
  refine OkF.eq 2 (Y := fun f => if (S.2.1 a1 x1.toNatClampNeg) = (1 : Int32) then rk px kx f (d + 0) 179 10 [some (.ref x0), some (.int x1)] [] S else rk px kx f (d + 0) 179 14 [some (.ref x0), some (.int x1)] [] S) (fun f => rfl) ?_
  refine OkF.ite (fun _ => ?_) (fun _ => ?_)
  · exact OkF.ret 3 (fun f => rfl)
  · refine OkF.eq 2 (Y := fun f => if oc S x0 12 = true then rk px kx f (d + 0) 179 18 [some (.ref x0), some (.int x1)] (va_rf (S.2.2.2.1 x0 6) :: []) S else none) (fun f => rfl) ?_
    refine OkF.grd (fun _ => ?_)
    refine OkF.rf (fun a2 => ?_)
    refine OkF.eq 2 (Y := fun f => if inb x1 (al S a2) = true then rk px kx f (d + 0) 179 20 [some (.ref x0), some (.int x1)] [.int (S.2.1 a2 x1.toNatClampNeg)] S else none) (fun f => rfl) ?_
    refine OkF.grd (fun _ => ?_)
    refine OkF.eq 2 (Y := fun f => if (S.2.1 a2 x1.toNatClampNeg) = (4 : Int32) then rk px kx f (d + 0) 179 24 [some (.ref x0), some (.int x1)] [] S else rk px kx f (d + 0) 179 28 [some (.ref x0), some (.int x1)] [] S) (fun f => rfl) ?_
    refine OkF.ite (fun _ => ?_) (fun _ => ?_)
    · exact OkF.ret 3 (fun f => rfl)
    · exact OkF.ret 2 (fun f => rfl)
-- DoorSoldModel.has(II)Z
def m180 (x0 : Int32) (x1 : Int32) (S : Sx) : Option (Int32 × Sx) :=
  if ((x0 >>> (x1 &&& 31)) &&& (1 : Int32)) = (1 : Int32) then some ((1 : Int32), S) else some ((0 : Int32), S)
set_option maxRecDepth 100000 in
theorem om180 (d : Nat) (x0 : Int32) (x1 : Int32) (S : Sx) : OkF wI (fun f => rk px kx f (d + 0) 180 0 [some (.int x0), some (.int x1)] [] S) (m180 x0 x1 S) := by
  unfold m180
  refine OkF.eq 7 (Y := fun f => if ((x0 >>> (x1 &&& 31)) &&& (1 : Int32)) = (1 : Int32) then rk px kx f (d + 0) 180 9 [some (.int x0), some (.int x1)] [] S else rk px kx f (d + 0) 180 13 [some (.int x0), some (.int x1)] [] S) (fun f => rfl) ?_
  refine OkF.ite (fun _ => ?_) (fun _ => ?_)
  · exact OkF.ret 3 (fun f => rfl)
  · exact OkF.ret 2 (fun f => rfl)
-- DoorSoldModel.told(II)I
def m172 (x0 : Nat) (x1 : Int32) (x2 : Int32) (S : Sx) : Option (Int32 × Sx) :=
  if x2 = (0 : Int32) then (if oc S x0 12 = true then (S.2.2.2.1 x0 6).bind fun a1 => if inb x1 (al S a1) = true then some (S.2.1 a1 x1.toNatClampNeg, S) else none else none) else if x2 = (1 : Int32) then (if oc S x0 12 = true then (S.2.2.2.1 x0 8).bind fun a2 => if inb ((4 : Int32) + x1) (al S a2) = true then some (S.2.1 a2 ((4 : Int32) + x1).toNatClampNeg, S) else none else none) else if x2 = (2 : Int32) then (if oc S x0 12 = true then (S.2.2.2.1 x0 8).bind fun a3 => if inb ((10 : Int32) + x1) (al S a3) = true then some (S.2.1 a3 ((10 : Int32) + x1).toNatClampNeg, S) else none else none) else if x2 = (3 : Int32) then (if oc S x0 12 = true then (m173 x0 x1 S).bind fun q4 => some (q4.1, q4.2) else none) else if x2 = (4 : Int32) then (if oc S x0 12 = true then (S.2.2.2.1 x0 8).bind fun a5 => if inb (1 : Int32) (al S a5) = true then if oc S x0 12 = true then (m174 x0 x1 (S.2.1 a5 (1 : Int32).toNatClampNeg) S).bind fun q6 => some (q6.1, q6.2) else none else none else none) else if x2 = (5 : Int32) then (if oc S x0 12 = true then (S.2.2.2.1 x0 6).bind fun a7 => if inb x1 (al S a7) = true then if oc S x0 12 = true then (S.2.2.2.1 x0 8).bind fun a8 => if inb (1 : Int32) (al S a8) = true then (m177 (S.2.1 a7 x1.toNatClampNeg) (S.2.1 a8 (1 : Int32).toNatClampNeg) S).bind fun q9 => if q9.1 = 0 then some ((0 : Int32), q9.2) else some ((1 : Int32), q9.2) else none else none else none else none) else if x2 = (6 : Int32) then (if oc S x0 12 = true then (m179 x0 x1 S).bind fun q10 => some (q10.1, q10.2) else none) else if oc S x0 12 = true then (S.2.2.2.1 x0 8).bind fun a11 => if inb (3 : Int32) (al S a11) = true then (m180 (S.2.1 a11 (3 : Int32).toNatClampNeg) x1 S).bind fun q12 => if q12.1 = 0 then some ((0 : Int32), q12.2) else some ((1 : Int32), q12.2) else none else none
set_option maxRecDepth 100000 in
theorem om172 (d : Nat) (x0 : Nat) (x1 : Int32) (x2 : Int32) (S : Sx) : OkF wI (fun f => rk px kx f (d + 3) 172 0 [some (.ref x0), some (.int x1), some (.int x2)] [] S) (m172 x0 x1 x2 S) := by
  unfold m172
  refine OkF.eq 2 (Y := fun f => if x2 = (0 : Int32) then rk px kx f (d + 3) 172 44 [some (.ref x0), some (.int x1), some (.int x2)] [] S else if x2 = (1 : Int32) then rk px kx f (d + 3) 172 51 [some (.ref x0), some (.int x1), some (.int x2)] [] S else if x2 = (2 : Int32) then rk px kx f (d + 3) 172 60 [some (.ref x0), some (.int x1), some (.int x2)] [] S else if x2 = (3 : Int32) then rk px kx f (d + 3) 172 70 [some (.ref x0), some (.int x1), some (.int x2)] [] S else if x2 = (4 : Int32) then rk px kx f (d + 3) 172 76 [some (.ref x0), some (.int x1), some (.int x2)] [] S else if x2 = (5 : Int32) then rk px kx f (d + 3) 172 88 [some (.ref x0), some (.int x1), some (.int x2)] [] S else if x2 = (6 : Int32) then rk px kx f (d + 3) 172 112 [some (.ref x0), some (.int x1), some (.int x2)] [] S else rk px kx f (d + 3) 172 118 [some (.ref x0), some (.int x1), some (.int x2)] [] S) (fun f => rfl) ?_
  refine OkF.ite (fun _ => ?_) (fun _ => ?_)
  · refine OkF.eq 2 (Y := fun f => if oc S x0 12 = true then rk px kx f (d + 3) 172 48 [some (.ref x0), some (.int x1), some (.int x2)] (va_rf (S.2.2.2.1 x0 6) :: []) S else none) (fun f => rfl) ?_
    refine OkF.grd (fun _ => ?_)
    refine OkF.rf (fun a1 => ?_)
    refine OkF.eq 2 (Y := fun f => if inb x1 (al S a1) = true then rk px kx f (d + 3) 172 50 [some (.ref x0), some (.int x1), some (.int x2)] [.int (S.2.1 a1 x1.toNatClampNeg)] S else none) (fun f => rfl) ?_
    refine OkF.grd (fun _ => ?_)
    exact OkF.ret 1 (fun f => rfl)
  refine OkF.ite (fun _ => ?_) (fun _ => ?_)
  · refine OkF.eq 2 (Y := fun f => if oc S x0 12 = true then rk px kx f (d + 3) 172 55 [some (.ref x0), some (.int x1), some (.int x2)] (va_rf (S.2.2.2.1 x0 8) :: []) S else none) (fun f => rfl) ?_
    refine OkF.grd (fun _ => ?_)
    refine OkF.rf (fun a2 => ?_)
    refine OkF.eq 4 (Y := fun f => if inb ((4 : Int32) + x1) (al S a2) = true then rk px kx f (d + 3) 172 59 [some (.ref x0), some (.int x1), some (.int x2)] [.int (S.2.1 a2 ((4 : Int32) + x1).toNatClampNeg)] S else none) (fun f => rfl) ?_
    refine OkF.grd (fun _ => ?_)
    exact OkF.ret 1 (fun f => rfl)
  refine OkF.ite (fun _ => ?_) (fun _ => ?_)
  · refine OkF.eq 2 (Y := fun f => if oc S x0 12 = true then rk px kx f (d + 3) 172 64 [some (.ref x0), some (.int x1), some (.int x2)] (va_rf (S.2.2.2.1 x0 8) :: []) S else none) (fun f => rfl) ?_
    refine OkF.grd (fun _ => ?_)
    refine OkF.rf (fun a3 => ?_)
    refine OkF.eq 4 (Y := fun f => if inb ((10 : Int32) + x1) (al S a3) = true then rk px kx f (d + 3) 172 69 [some (.ref x0), some (.int x1), some (.int x2)] [.int (S.2.1 a3 ((10 : Int32) + x1).toNatClampNeg)] S else none) (fun f => rfl) ?_
    refine OkF.grd (fun _ => ?_)
    exact OkF.ret 1 (fun f => rfl)
  refine OkF.ite (fun _ => ?_) (fun _ => ?_)
  · refine OkF.eq 3 (Y := fun f => if oc S x0 12 = true then (rk px kx f (d + 2) 173 0 [some (.ref x0), some (.int x1)] [] S).bind (fun q => rk px kx f (d + 3) 172 75 [some (.ref x0), some (.int x1), some (.int x2)] (q.1.toList ++ []) q.2) else none) (fun f => rfl) ?_
    refine OkF.grd (fun _ => ?_)
    refine OkF.bind (w1 := wI) (om173 (d + 2) x0 x1 S) (fun q4 => ?_)
    exact OkF.ret 1 (fun f => rfl)
  refine OkF.ite (fun _ => ?_) (fun _ => ?_)
  · refine OkF.eq 4 (Y := fun f => if oc S x0 12 = true then rk px kx f (d + 3) 172 82 [some (.ref x0), some (.int x1), some (.int x2)] (va_rf (S.2.2.2.1 x0 8) :: [.int x1, .ref x0]) S else none) (fun f => rfl) ?_
    refine OkF.grd (fun _ => ?_)
    refine OkF.rf (fun a5 => ?_)
    refine OkF.eq 2 (Y := fun f => if inb (1 : Int32) (al S a5) = true then rk px kx f (d + 3) 172 84 [some (.ref x0), some (.int x1), some (.int x2)] [.int (S.2.1 a5 (1 : Int32).toNatClampNeg), .int x1, .ref x0] S else none) (fun f => rfl) ?_
    refine OkF.grd (fun _ => ?_)
    refine OkF.eq 1 (Y := fun f => if oc S x0 12 = true then (rk px kx f (d + 2) 174 0 [some (.ref x0), some (.int x1), some (.int (S.2.1 a5 (1 : Int32).toNatClampNeg))] [] S).bind (fun q => rk px kx f (d + 3) 172 87 [some (.ref x0), some (.int x1), some (.int x2)] (q.1.toList ++ []) q.2) else none) (fun f => rfl) ?_
    refine OkF.grd (fun _ => ?_)
    refine OkF.bind (w1 := wI) (om174 (d + 0) x0 x1 (S.2.1 a5 (1 : Int32).toNatClampNeg) S) (fun q6 => ?_)
    exact OkF.ret 1 (fun f => rfl)
  refine OkF.ite (fun _ => ?_) (fun _ => ?_)
  · refine OkF.eq 2 (Y := fun f => if oc S x0 12 = true then rk px kx f (d + 3) 172 92 [some (.ref x0), some (.int x1), some (.int x2)] (va_rf (S.2.2.2.1 x0 6) :: []) S else none) (fun f => rfl) ?_
    refine OkF.grd (fun _ => ?_)
    refine OkF.rf (fun a7 => ?_)
    refine OkF.eq 2 (Y := fun f => if inb x1 (al S a7) = true then rk px kx f (d + 3) 172 94 [some (.ref x0), some (.int x1), some (.int x2)] [.int (S.2.1 a7 x1.toNatClampNeg)] S else none) (fun f => rfl) ?_
    refine OkF.grd (fun _ => ?_)
    refine OkF.eq 2 (Y := fun f => if oc S x0 12 = true then rk px kx f (d + 3) 172 98 [some (.ref x0), some (.int x1), some (.int x2)] (va_rf (S.2.2.2.1 x0 8) :: [.int (S.2.1 a7 x1.toNatClampNeg)]) S else none) (fun f => rfl) ?_
    refine OkF.grd (fun _ => ?_)
    refine OkF.rf (fun a8 => ?_)
    refine OkF.eq 2 (Y := fun f => if inb (1 : Int32) (al S a8) = true then rk px kx f (d + 3) 172 100 [some (.ref x0), some (.int x1), some (.int x2)] [.int (S.2.1 a8 (1 : Int32).toNatClampNeg), .int (S.2.1 a7 x1.toNatClampNeg)] S else none) (fun f => rfl) ?_
    refine OkF.grd (fun _ => ?_)
    refine OkF.eq 1 (Y := fun f => (rk px kx f (d + 2) 177 0 [some (.int (S.2.1 a7 x1.toNatClampNeg)), some (.int (S.2.1 a8 (1 : Int32).toNatClampNeg))] [] S).bind (fun q => rk px kx f (d + 3) 172 103 [some (.ref x0), some (.int x1), some (.int x2)] (q.1.toList ++ []) q.2)) (fun f => rfl) ?_
    refine OkF.bind (w1 := wI) (om177 (d + 1) (S.2.1 a7 x1.toNatClampNeg) (S.2.1 a8 (1 : Int32).toNatClampNeg) S) (fun q9 => ?_)
    refine OkF.eq 1 (Y := fun f => if q9.1 = 0 then rk px kx f (d + 3) 172 110 [some (.ref x0), some (.int x1), some (.int x2)] [] q9.2 else rk px kx f (d + 3) 172 106 [some (.ref x0), some (.int x1), some (.int x2)] [] q9.2) (fun f => rfl) ?_
    refine OkF.ite (fun _ => ?_) (fun _ => ?_)
    · exact OkF.ret 2 (fun f => rfl)
    · exact OkF.ret 3 (fun f => rfl)
  refine OkF.ite (fun _ => ?_) (fun _ => ?_)
  · refine OkF.eq 3 (Y := fun f => if oc S x0 12 = true then (rk px kx f (d + 2) 179 0 [some (.ref x0), some (.int x1)] [] S).bind (fun q => rk px kx f (d + 3) 172 117 [some (.ref x0), some (.int x1), some (.int x2)] (q.1.toList ++ []) q.2) else none) (fun f => rfl) ?_
    refine OkF.grd (fun _ => ?_)
    refine OkF.bind (w1 := wI) (om179 (d + 2) x0 x1 S) (fun q10 => ?_)
    exact OkF.ret 1 (fun f => rfl)
  refine OkF.eq 2 (Y := fun f => if oc S x0 12 = true then rk px kx f (d + 3) 172 122 [some (.ref x0), some (.int x1), some (.int x2)] (va_rf (S.2.2.2.1 x0 8) :: []) S else none) (fun f => rfl) ?_
  refine OkF.grd (fun _ => ?_)
  refine OkF.rf (fun a11 => ?_)
  refine OkF.eq 2 (Y := fun f => if inb (3 : Int32) (al S a11) = true then rk px kx f (d + 3) 172 124 [some (.ref x0), some (.int x1), some (.int x2)] [.int (S.2.1 a11 (3 : Int32).toNatClampNeg)] S else none) (fun f => rfl) ?_
  refine OkF.grd (fun _ => ?_)
  refine OkF.eq 2 (Y := fun f => (rk px kx f (d + 2) 180 0 [some (.int (S.2.1 a11 (3 : Int32).toNatClampNeg)), some (.int x1)] [] S).bind (fun q => rk px kx f (d + 3) 172 128 [some (.ref x0), some (.int x1), some (.int x2)] (q.1.toList ++ []) q.2)) (fun f => rfl) ?_
  refine OkF.bind (w1 := wI) (om180 (d + 2) (S.2.1 a11 (3 : Int32).toNatClampNeg) x1 S) (fun q12 => ?_)
  refine OkF.eq 1 (Y := fun f => if q12.1 = 0 then rk px kx f (d + 3) 172 135 [some (.ref x0), some (.int x1), some (.int x2)] [] q12.2 else rk px kx f (d + 3) 172 131 [some (.ref x0), some (.int x1), some (.int x2)] [] q12.2) (fun f => rfl) ?_
  refine OkF.ite (fun _ => ?_) (fun _ => ?_)
  · exact OkF.ret 2 (fun f => rfl)
  · exact OkF.ret 3 (fun f => rfl)
-- DoorSoldModel.door(II)I
def m170 (x0 : Nat) (x1 : Int32) (x2 : Int32) (S : Sx) : Option (Int32 × Sx) :=
  if oc S x0 12 = true then (m171 x0 x1 S).bind fun q1 => if q1.1 = 0 then some ((-1 : Int32), q1.2) else (m150 x2.toInt64 (0 : Int64) (7 : Int64) q1.2).bind fun q2 => if q2.1 = 0 then some ((-1 : Int32), q2.2) else if oc q2.2 x0 12 = true then (m172 x0 x1 x2 q2.2).bind fun q3 => if oc q3.2 x0 12 = true then (m153 x0 q3.1 q3.2).bind fun q4 => some (q4.1, q4.2) else none else none else none
set_option maxRecDepth 100000 in
theorem om170 (d : Nat) (x0 : Nat) (x1 : Int32) (x2 : Int32) (S : Sx) : OkF wI (fun f => rk px kx f (d + 4) 170 0 [some (.ref x0), some (.int x1), some (.int x2)] [] S) (m170 x0 x1 x2 S) := by
  unfold m170
  refine OkF.eq 3 (Y := fun f => if oc S x0 12 = true then (rk px kx f (d + 3) 171 0 [some (.ref x0), some (.int x1)] [] S).bind (fun q => rk px kx f (d + 4) 170 5 [some (.ref x0), some (.int x1), some (.int x2)] (q.1.toList ++ []) q.2) else none) (fun f => rfl) ?_
  refine OkF.grd (fun _ => ?_)
  refine OkF.bind (w1 := wI) (om171 (d + 2) x0 x1 S) (fun q1 => ?_)
  refine OkF.eq 1 (Y := fun f => if q1.1 = 0 then rk px kx f (d + 4) 170 33 [some (.ref x0), some (.int x1), some (.int x2)] [] q1.2 else rk px kx f (d + 4) 170 8 [some (.ref x0), some (.int x1), some (.int x2)] [] q1.2) (fun f => rfl) ?_
  refine OkF.ite (fun _ => ?_) (fun _ => ?_)
  · exact OkF.ret 2 (fun f => rfl)
  · refine OkF.eq 5 (Y := fun f => (rk px kx f (d + 3) 150 0 [some (.long x2.toInt64), none, some (.long (0 : Int64)), none, some (.long (7 : Int64)), none] [] q1.2).bind (fun q => rk px kx f (d + 4) 170 17 [some (.ref x0), some (.int x1), some (.int x2)] (q.1.toList ++ []) q.2)) (fun f => rfl) ?_
    refine OkF.bind (w1 := wI) (om150 (d + 3) x2.toInt64 (0 : Int64) (7 : Int64) q1.2) (fun q2 => ?_)
    refine OkF.eq 1 (Y := fun f => if q2.1 = 0 then rk px kx f (d + 4) 170 33 [some (.ref x0), some (.int x1), some (.int x2)] [] q2.2 else rk px kx f (d + 4) 170 20 [some (.ref x0), some (.int x1), some (.int x2)] [] q2.2) (fun f => rfl) ?_
    refine OkF.ite (fun _ => ?_) (fun _ => ?_)
    · exact OkF.ret 2 (fun f => rfl)
    · refine OkF.eq 5 (Y := fun f => if oc q2.2 x0 12 = true then (rk px kx f (d + 3) 172 0 [some (.ref x0), some (.int x1), some (.int x2)] [] q2.2).bind (fun q => rk px kx f (d + 4) 170 27 [some (.ref x0), some (.int x1), some (.int x2)] (q.1.toList ++ [.ref x0]) q.2) else none) (fun f => rfl) ?_
      refine OkF.grd (fun _ => ?_)
      refine OkF.bind (w1 := wI) (om172 (d + 0) x0 x1 x2 q2.2) (fun q3 => ?_)
      refine OkF.eq 1 (Y := fun f => if oc q3.2 x0 12 = true then (rk px kx f (d + 3) 153 0 [some (.ref x0), some (.int q3.1)] [] q3.2).bind (fun q => rk px kx f (d + 4) 170 30 [some (.ref x0), some (.int x1), some (.int x2)] (q.1.toList ++ []) q.2) else none) (fun f => rfl) ?_
      refine OkF.grd (fun _ => ?_)
      refine OkF.bind (w1 := wI) (om153 (d + 3) x0 q3.1 q3.2) (fun q4 => ?_)
      exact OkF.ret 2 (fun f => rfl)
-- DoorSoldModel.isOf(II)Z
def b182_15 (x0 : Int32) (x1 : Int32) (S : Sx) : Option (Int32 × Sx) :=
  if x1 = (2 : Int32) then if x0 = (4 : Int32) then some ((1 : Int32), S) else some ((0 : Int32), S) else some ((0 : Int32), S)
set_option maxRecDepth 100000 in
theorem ob182_15 (d : Nat) (x0 : Int32) (x1 : Int32) (S : Sx) : OkF wI (fun f => rk px kx f (d + 0) 182 15 [some (.int x0), some (.int x1)] [] S) (b182_15 x0 x1 S) := by
  unfold b182_15
  refine OkF.eq 3 (Y := fun f => if x1 = (2 : Int32) then rk px kx f (d + 0) 182 20 [some (.int x0), some (.int x1)] [] S else rk px kx f (d + 0) 182 29 [some (.int x0), some (.int x1)] [] S) (fun f => rfl) ?_
  refine OkF.ite (fun _ => ?_) (fun _ => ?_)
  · refine OkF.eq 3 (Y := fun f => if x0 = (4 : Int32) then rk px kx f (d + 0) 182 25 [some (.int x0), some (.int x1)] [] S else rk px kx f (d + 0) 182 29 [some (.int x0), some (.int x1)] [] S) (fun f => rfl) ?_
    refine OkF.ite (fun _ => ?_) (fun _ => ?_)
    · exact OkF.ret 3 (fun f => rfl)
    · exact OkF.ret 2 (fun f => rfl)
  · exact OkF.ret 2 (fun f => rfl)
def m182 (x0 : Int32) (x1 : Int32) (S : Sx) : Option (Int32 × Sx) :=
  if x0 = x1 then some ((1 : Int32), S) else if x1 = (1 : Int32) then if x0 = (5 : Int32) then some ((1 : Int32), S) else b182_15 x0 x1 S else b182_15 x0 x1 S
set_option maxRecDepth 100000 in
theorem om182 (d : Nat) (x0 : Int32) (x1 : Int32) (S : Sx) : OkF wI (fun f => rk px kx f (d + 0) 182 0 [some (.int x0), some (.int x1)] [] S) (m182 x0 x1 S) := by
  unfold m182
  refine OkF.eq 3 (Y := fun f => if x0 = x1 then rk px kx f (d + 0) 182 25 [some (.int x0), some (.int x1)] [] S else rk px kx f (d + 0) 182 5 [some (.int x0), some (.int x1)] [] S) (fun f => rfl) ?_
  refine OkF.ite (fun _ => ?_) (fun _ => ?_)
  · exact OkF.ret 3 (fun f => rfl)
  · refine OkF.eq 3 (Y := fun f => if x1 = (1 : Int32) then rk px kx f (d + 0) 182 10 [some (.int x0), some (.int x1)] [] S else rk px kx f (d + 0) 182 15 [some (.int x0), some (.int x1)] [] S) (fun f => rfl) ?_
    refine OkF.ite (fun _ => ?_) (fun _ => ?_)
    · refine OkF.eq 3 (Y := fun f => if x0 = (5 : Int32) then rk px kx f (d + 0) 182 25 [some (.int x0), some (.int x1)] [] S else rk px kx f (d + 0) 182 15 [some (.int x0), some (.int x1)] [] S) (fun f => rfl) ?_
      refine OkF.ite (fun _ => ?_) (fun _ => ?_)
      · exact OkF.ret 3 (fun f => rfl)
      · exact OkF.kl (ls1 := [some (.int x0), some (.int x1)]) (fun f => rfl) (ob182_15 d x0 x1 S)
    · exact OkF.kl (ls1 := [some (.int x0), some (.int x1)]) (fun f => rfl) (ob182_15 d x0 x1 S)
-- DoorSoldModel.openOthers(I)I
def b183_41 (k4 : Nat → Int32 → Int32 → Int32 → Sx → Option (Int32 × Sx)) (x0 : Nat) (x1 : Int32) (x3 : Int32) (s0 : Int32) (s1 : Int32) (S : Sx) : Option (Int32 × Sx) :=
  k4 x0 x1 (s0 + s1) (x3 + (1 : Int32)) S
set_option maxRecDepth 100000 in
theorem ob183_41 (d : Nat) (k4 : Nat → Int32 → Int32 → Int32 → Sx → Option (Int32 × Sx)) (hk4 : ∀ (x0 : Nat) (x1 : Int32) (x2 : Int32) (x3 : Int32) (S : Sx), OkF wI (fun f => rk px kx f (d + 2) 183 4 [some (.ref x0), some (.int x1), some (.int x2), some (.int x3)] [] S) (k4 x0 x1 x2 x3 S)) (x0 : Nat) (x1 : Int32) (x3 : Int32) (s0 : Int32) (s1 : Int32) (S : Sx) : OkF wI (fun f => rk px kx f (d + 2) 183 41 [some (.ref x0), some (.int x1), none, some (.int x3)] [.int s1, .int s0] S) (b183_41 k4 x0 x1 x3 s0 s1 S) := by
  unfold b183_41
  refine OkF.eq 4 (Y := fun f => rk px kx f (d + 2) 183 4 [some (.ref x0), some (.int x1), some (.int (s0 + s1)), some (.int (x3 + (1 : Int32)))] [] S) (fun f => rfl) ?_
  exact OkF.kl (ls1 := [some (.ref x0), some (.int x1), some (.int (s0 + s1)), some (.int (x3 + (1 : Int32)))]) (fun f => rfl) (hk4 x0 x1 (s0 + s1) (x3 + (1 : Int32)) S)
def b183_40 (k4 : Nat → Int32 → Int32 → Int32 → Sx → Option (Int32 × Sx)) (x0 : Nat) (x1 : Int32) (x3 : Int32) (s0 : Int32) (S : Sx) : Option (Int32 × Sx) :=
  b183_41 k4 x0 x1 x3 s0 (0 : Int32) S
set_option maxRecDepth 100000 in
theorem ob183_40 (d : Nat) (k4 : Nat → Int32 → Int32 → Int32 → Sx → Option (Int32 × Sx)) (hk4 : ∀ (x0 : Nat) (x1 : Int32) (x2 : Int32) (x3 : Int32) (S : Sx), OkF wI (fun f => rk px kx f (d + 2) 183 4 [some (.ref x0), some (.int x1), some (.int x2), some (.int x3)] [] S) (k4 x0 x1 x2 x3 S)) (x0 : Nat) (x1 : Int32) (x3 : Int32) (s0 : Int32) (S : Sx) : OkF wI (fun f => rk px kx f (d + 2) 183 40 [some (.ref x0), some (.int x1), none, some (.int x3)] [.int s0] S) (b183_40 k4 x0 x1 x3 s0 S) := by
  unfold b183_40
  refine OkF.eq 1 (Y := fun f => rk px kx f (d + 2) 183 41 [some (.ref x0), some (.int x1), none, some (.int x3)] [.int (0 : Int32), .int s0] S) (fun f => rfl) ?_
  exact OkF.kl (ls1 := [some (.ref x0), some (.int x1), none, some (.int x3)]) (fun f => rfl) (ob183_41 d k4 hk4 x0 x1 x3 s0 (0 : Int32) S)
def b183_4 (k4 : Nat → Int32 → Int32 → Int32 → Sx → Option (Int32 × Sx)) (x0 : Nat) (x1 : Int32) (x2 : Int32) (x3 : Int32) (S : Sx) : Option (Int32 × Sx) :=
  if oc S x0 12 = true then if (S.2.1 x0 4) ≤ x3 then some (x2, S) else if x3 = x1 then b183_40 k4 x0 x1 x3 x2 S else if oc S x0 12 = true then (S.2.2.2.1 x0 6).bind fun a1 => if inb x3 (al S a1) = true then if oc S x0 12 = true then (S.2.2.2.1 x0 8).bind fun a2 => if inb (1 : Int32) (al S a2) = true then (m177 (S.2.1 a1 x3.toNatClampNeg) (S.2.1 a2 (1 : Int32).toNatClampNeg) S).bind fun q3 => if q3.1 = 0 then b183_40 k4 x0 x1 x3 x2 q3.2 else b183_41 k4 x0 x1 x3 x2 (1 : Int32) q3.2 else none else none else none else none else none
set_option maxRecDepth 100000 in
theorem ob183_4 (d : Nat) (k4 : Nat → Int32 → Int32 → Int32 → Sx → Option (Int32 × Sx)) (hk4 : ∀ (x0 : Nat) (x1 : Int32) (x2 : Int32) (x3 : Int32) (S : Sx), OkF wI (fun f => rk px kx f (d + 2) 183 4 [some (.ref x0), some (.int x1), some (.int x2), some (.int x3)] [] S) (k4 x0 x1 x2 x3 S)) (x0 : Nat) (x1 : Int32) (x2 : Int32) (x3 : Int32) (S : Sx) : OkF wI (fun f => rk px kx f (d + 2) 183 4 [some (.ref x0), some (.int x1), some (.int x2), some (.int x3)] [] S) (b183_4 k4 x0 x1 x2 x3 S) := by
  unfold b183_4
  refine OkF.eq 3 (Y := fun f => if oc S x0 12 = true then rk px kx f (d + 2) 183 9 [some (.ref x0), some (.int x1), some (.int x2), some (.int x3)] [.int (S.2.1 x0 4), .int x3] S else none) (fun f => rfl) ?_
  refine OkF.grd (fun _ => ?_)
  refine OkF.eq 1 (Y := fun f => if (S.2.1 x0 4) ≤ x3 then rk px kx f (d + 2) 183 49 [some (.ref x0), some (.int x1), some (.int x2), some (.int x3)] [] S else rk px kx f (d + 2) 183 12 [some (.ref x0), some (.int x1), some (.int x2), some (.int x3)] [] S) (fun f => rfl) ?_
  refine OkF.ite (fun _ => ?_) (fun _ => ?_)
  · exact OkF.ret 2 (fun f => rfl)
  · refine OkF.eq 4 (Y := fun f => if x3 = x1 then rk px kx f (d + 2) 183 40 [some (.ref x0), some (.int x1), some (.int x2), some (.int x3)] [.int x2] S else rk px kx f (d + 2) 183 18 [some (.ref x0), some (.int x1), some (.int x2), some (.int x3)] [.int x2] S) (fun f => rfl) ?_
    refine OkF.ite (fun _ => ?_) (fun _ => ?_)
    · exact OkF.kl (ls1 := [some (.ref x0), some (.int x1), none, some (.int x3)]) (fun f => rfl) (ob183_40 d k4 hk4 x0 x1 x3 x2 S)
    · refine OkF.eq 2 (Y := fun f => if oc S x0 12 = true then rk px kx f (d + 2) 183 22 [some (.ref x0), some (.int x1), some (.int x2), some (.int x3)] (va_rf (S.2.2.2.1 x0 6) :: [.int x2]) S else none) (fun f => rfl) ?_
      refine OkF.grd (fun _ => ?_)
      refine OkF.rf (fun a1 => ?_)
      refine OkF.eq 2 (Y := fun f => if inb x3 (al S a1) = true then rk px kx f (d + 2) 183 24 [some (.ref x0), some (.int x1), some (.int x2), some (.int x3)] [.int (S.2.1 a1 x3.toNatClampNeg), .int x2] S else none) (fun f => rfl) ?_
      refine OkF.grd (fun _ => ?_)
      refine OkF.eq 2 (Y := fun f => if oc S x0 12 = true then rk px kx f (d + 2) 183 28 [some (.ref x0), some (.int x1), some (.int x2), some (.int x3)] (va_rf (S.2.2.2.1 x0 8) :: [.int (S.2.1 a1 x3.toNatClampNeg), .int x2]) S else none) (fun f => rfl) ?_
      refine OkF.grd (fun _ => ?_)
      refine OkF.rf (fun a2 => ?_)
      refine OkF.eq 2 (Y := fun f => if inb (1 : Int32) (al S a2) = true then rk px kx f (d + 2) 183 30 [some (.ref x0), some (.int x1), some (.int x2), some (.int x3)] [.int (S.2.1 a2 (1 : Int32).toNatClampNeg), .int (S.2.1 a1 x3.toNatClampNeg), .int x2] S else none) (fun f => rfl) ?_
      refine OkF.grd (fun _ => ?_)
      refine OkF.eq 1 (Y := fun f => (rk px kx f (d + 1) 177 0 [some (.int (S.2.1 a1 x3.toNatClampNeg)), some (.int (S.2.1 a2 (1 : Int32).toNatClampNeg))] [] S).bind (fun q => rk px kx f (d + 2) 183 33 [some (.ref x0), some (.int x1), some (.int x2), some (.int x3)] (q.1.toList ++ [.int x2]) q.2)) (fun f => rfl) ?_
      refine OkF.bind (w1 := wI) (om177 (d + 0) (S.2.1 a1 x3.toNatClampNeg) (S.2.1 a2 (1 : Int32).toNatClampNeg) S) (fun q3 => ?_)
      refine OkF.eq 1 (Y := fun f => if q3.1 = 0 then rk px kx f (d + 2) 183 40 [some (.ref x0), some (.int x1), some (.int x2), some (.int x3)] [.int x2] q3.2 else rk px kx f (d + 2) 183 36 [some (.ref x0), some (.int x1), some (.int x2), some (.int x3)] [.int x2] q3.2) (fun f => rfl) ?_
      refine OkF.ite (fun _ => ?_) (fun _ => ?_)
      · exact OkF.kl (ls1 := [some (.ref x0), some (.int x1), none, some (.int x3)]) (fun f => rfl) (ob183_40 d k4 hk4 x0 x1 x3 x2 q3.2)
      · refine OkF.eq 2 (Y := fun f => rk px kx f (d + 2) 183 41 [some (.ref x0), some (.int x1), some (.int x2), some (.int x3)] [.int (1 : Int32), .int x2] q3.2) (fun f => rfl) ?_
        exact OkF.kl (ls1 := [some (.ref x0), some (.int x1), none, some (.int x3)]) (fun f => rfl) (ob183_41 d k4 hk4 x0 x1 x3 x2 (1 : Int32) q3.2)
def l183_4 : Nat → Nat → Int32 → Int32 → Int32 → Sx → Option (Int32 × Sx)
  | 0 => fun _ _ _ _ _ => none
  | n + 1 => fun x0 x1 x2 x3 S => b183_4 (l183_4 n) x0 x1 x2 x3 S
set_option maxRecDepth 100000 in
theorem ol183_4 (d : Nat) : ∀ (n : Nat) (x0 : Nat) (x1 : Int32) (x2 : Int32) (x3 : Int32) (S : Sx), OkF wI (fun f => rk px kx f (d + 2) 183 4 [some (.ref x0), some (.int x1), some (.int x2), some (.int x3)] [] S) (l183_4 n x0 x1 x2 x3 S) := by
  intro n
  induction n with
  | zero => intro x0 x1 x2 x3 S; exact OkF.no
  | succ n ih => intro x0 x1 x2 x3 S; exact ob183_4 d (l183_4 n) ih x0 x1 x2 x3 S
def m183 (x0 : Nat) (x1 : Int32) (S : Sx) : Option (Int32 × Sx) :=
  l183_4 1000 x0 x1 (0 : Int32) (0 : Int32) S
set_option maxRecDepth 100000 in
theorem om183 (d : Nat) (x0 : Nat) (x1 : Int32) (S : Sx) : OkF wI (fun f => rk px kx f (d + 2) 183 0 [some (.ref x0), some (.int x1), none, none] [] S) (m183 x0 x1 S) := by
  unfold m183
  refine OkF.eq 4 (Y := fun f => rk px kx f (d + 2) 183 4 [some (.ref x0), some (.int x1), some (.int (0 : Int32)), some (.int (0 : Int32))] [] S) (fun f => rfl) ?_
  exact OkF.kl (ls1 := [some (.ref x0), some (.int x1), some (.int (0 : Int32)), some (.int (0 : Int32))]) (fun f => rfl) (ol183_4 d 1000 x0 x1 (0 : Int32) (0 : Int32) S)
-- DoorSoldModel.outward(III)I
def m185 (x0 : Int32) (x1 : Int32) (x2 : Int32) (S : Sx) : Option (Int32 × Sx) :=
  (m176 x0 S).bind fun q1 => if q1.1 = 0 then some (x2, q1.2) else some (x1, q1.2)
set_option maxRecDepth 100000 in
theorem om185 (d : Nat) (x0 : Int32) (x1 : Int32) (x2 : Int32) (S : Sx) : OkF wI (fun f => rk px kx f (d + 1) 185 0 [some (.int x0), some (.int x1), some (.int x2)] [] S) (m185 x0 x1 x2 S) := by
  unfold m185
  refine OkF.eq 2 (Y := fun f => (rk px kx f (d + 0) 176 0 [some (.int x0)] [] S).bind (fun q => rk px kx f (d + 1) 185 4 [some (.int x0), some (.int x1), some (.int x2)] (q.1.toList ++ []) q.2)) (fun f => rfl) ?_
  refine OkF.bind (w1 := wI) (om176 (d + 0) x0 S) (fun q1 => ?_)
  refine OkF.eq 1 (Y := fun f => if q1.1 = 0 then rk px kx f (d + 1) 185 11 [some (.int x0), some (.int x1), some (.int x2)] [] q1.2 else rk px kx f (d + 1) 185 7 [some (.int x0), some (.int x1), some (.int x2)] [] q1.2) (fun f => rfl) ?_
  refine OkF.ite (fun _ => ?_) (fun _ => ?_)
  · exact OkF.ret 2 (fun f => rfl)
  · exact OkF.ret 3 (fun f => rfl)
-- DoorSoldModel.exit(I)I
def m184 (x0 : Nat) (x1 : Int32) (S : Sx) : Option (Int32 × Sx) :=
  if oc S x0 12 = true then (S.2.2.2.1 x0 6).bind fun a1 => if inb x1 (al S a1) = true then if oc S x0 12 = true then (S.2.2.2.1 x0 8).bind fun a2 => if inb ((4 : Int32) + x1) (al S a2) = true then if oc S x0 12 = true then (S.2.2.2.1 x0 8).bind fun a3 => if inb ((10 : Int32) + x1) (al S a3) = true then (m185 (S.2.1 a1 x1.toNatClampNeg) (S.2.1 a2 ((4 : Int32) + x1).toNatClampNeg) (S.2.1 a3 ((10 : Int32) + x1).toNatClampNeg) S).bind fun q4 => some (q4.1, q4.2) else none else none else none else none else none else none
set_option maxRecDepth 100000 in
theorem om184 (d : Nat) (x0 : Nat) (x1 : Int32) (S : Sx) : OkF wI (fun f => rk px kx f (d + 2) 184 0 [some (.ref x0), some (.int x1)] [] S) (m184 x0 x1 S) := by
  unfold m184
  refine OkF.eq 2 (Y := fun f => if oc S x0 12 = true then rk px kx f (d + 2) 184 4 [some (.ref x0), some (.int x1)] (va_rf (S.2.2.2.1 x0 6) :: []) S else none) (fun f => rfl) ?_
  refine OkF.grd (fun _ => ?_)
  refine OkF.rf (fun a1 => ?_)
  refine OkF.eq 2 (Y := fun f => if inb x1 (al S a1) = true then rk px kx f (d + 2) 184 6 [some (.ref x0), some (.int x1)] [.int (S.2.1 a1 x1.toNatClampNeg)] S else none) (fun f => rfl) ?_
  refine OkF.grd (fun _ => ?_)
  refine OkF.eq 2 (Y := fun f => if oc S x0 12 = true then rk px kx f (d + 2) 184 10 [some (.ref x0), some (.int x1)] (va_rf (S.2.2.2.1 x0 8) :: [.int (S.2.1 a1 x1.toNatClampNeg)]) S else none) (fun f => rfl) ?_
  refine OkF.grd (fun _ => ?_)
  refine OkF.rf (fun a2 => ?_)
  refine OkF.eq 4 (Y := fun f => if inb ((4 : Int32) + x1) (al S a2) = true then rk px kx f (d + 2) 184 14 [some (.ref x0), some (.int x1)] [.int (S.2.1 a2 ((4 : Int32) + x1).toNatClampNeg), .int (S.2.1 a1 x1.toNatClampNeg)] S else none) (fun f => rfl) ?_
  refine OkF.grd (fun _ => ?_)
  refine OkF.eq 2 (Y := fun f => if oc S x0 12 = true then rk px kx f (d + 2) 184 18 [some (.ref x0), some (.int x1)] (va_rf (S.2.2.2.1 x0 8) :: [.int (S.2.1 a2 ((4 : Int32) + x1).toNatClampNeg), .int (S.2.1 a1 x1.toNatClampNeg)]) S else none) (fun f => rfl) ?_
  refine OkF.grd (fun _ => ?_)
  refine OkF.rf (fun a3 => ?_)
  refine OkF.eq 4 (Y := fun f => if inb ((10 : Int32) + x1) (al S a3) = true then rk px kx f (d + 2) 184 23 [some (.ref x0), some (.int x1)] [.int (S.2.1 a3 ((10 : Int32) + x1).toNatClampNeg), .int (S.2.1 a2 ((4 : Int32) + x1).toNatClampNeg), .int (S.2.1 a1 x1.toNatClampNeg)] S else none) (fun f => rfl) ?_
  refine OkF.grd (fun _ => ?_)
  refine OkF.eq 1 (Y := fun f => (rk px kx f (d + 1) 185 0 [some (.int (S.2.1 a1 x1.toNatClampNeg)), some (.int (S.2.1 a2 ((4 : Int32) + x1).toNatClampNeg)), some (.int (S.2.1 a3 ((10 : Int32) + x1).toNatClampNeg))] [] S).bind (fun q => rk px kx f (d + 2) 184 26 [some (.ref x0), some (.int x1)] (q.1.toList ++ []) q.2)) (fun f => rfl) ?_
  refine OkF.bind (w1 := wI) (om185 (d + 0) (S.2.1 a1 x1.toNatClampNeg) (S.2.1 a2 ((4 : Int32) + x1).toNatClampNeg) (S.2.1 a3 ((10 : Int32) + x1).toNatClampNeg) S) (fun q4 => ?_)
  exact OkF.ret 1 (fun f => rfl)
-- DoorSoldModel.round0(II)I
def m186 (x0 : Nat) (x1 : Int32) (x2 : Int32) (S : Sx) : Option (Int32 × Sx) :=
  if oc S x0 12 = true then if oc S x0 12 = true then if (S.2.1 x0 5) = 0 then none else some (((x2 - x1) + (S.2.1 x0 5)) - ((x2 - x1) + (S.2.1 x0 5)) / (S.2.1 x0 5) * (S.2.1 x0 5), S) else none else none
set_option maxRecDepth 100000 in
theorem om186 (d : Nat) (x0 : Nat) (x1 : Int32) (x2 : Int32) (S : Sx) : OkF wI (fun f => rk px kx f (d + 0) 186 0 [some (.ref x0), some (.int x1), some (.int x2)] [] S) (m186 x0 x1 x2 S) := by
  unfold m186
  refine OkF.eq 5 (Y := fun f => if oc S x0 12 = true then rk px kx f (d + 0) 186 7 [some (.ref x0), some (.int x1), some (.int x2)] [.int (S.2.1 x0 5), .int (x2 - x1)] S else none) (fun f => rfl) ?_
  refine OkF.grd (fun _ => ?_)
  refine OkF.eq 3 (Y := fun f => if oc S x0 12 = true then rk px kx f (d + 0) 186 12 [some (.ref x0), some (.int x1), some (.int x2)] [.int (S.2.1 x0 5), .int ((x2 - x1) + (S.2.1 x0 5))] S else none) (fun f => rfl) ?_
  refine OkF.grd (fun _ => ?_)
  refine OkF.eq 1 (Y := fun f => if (S.2.1 x0 5) = 0 then none else rk px kx f (d + 0) 186 13 [some (.ref x0), some (.int x1), some (.int x2)] [.int (((x2 - x1) + (S.2.1 x0 5)) - ((x2 - x1) + (S.2.1 x0 5)) / (S.2.1 x0 5) * (S.2.1 x0 5))] S) (fun f => rfl) ?_
  refine OkF.ngr (fun _ => ?_)
  exact OkF.ret 1 (fun f => rfl)
-- DoorSoldModel.mark(II)I
def m181 (x0 : Nat) (x1 : Int32) (x2 : Int32) (S : Sx) : Option (Int32 × Sx) :=
  if oc S x0 12 = true then (m171 x0 x1 S).bind fun q1 => if q1.1 = 0 then some ((-1 : Int32), q1.2) else (m150 x2.toInt64 (1 : Int64) (5 : Int64) q1.2).bind fun q2 => if q2.1 = 0 then some ((-1 : Int32), q2.2) else if oc q2.2 x0 12 = true then (q2.2.2.2.2.1 x0 6).bind fun a3 => if inb x1 (al q2.2 a3) = true then (m182 (q2.2.2.1 a3 x1.toNatClampNeg) x2 q2.2).bind fun q4 => if q4.1 = 0 then if oc q4.2 x0 12 = true then (m151 x0 (3 : Int32) q4.2).bind fun q5 => some (q5.1, q5.2) else none else if x2 = (1 : Int32) then (if oc q4.2 x0 12 = true then (m183 x0 x1 q4.2).bind fun q6 => some (q6.1, q6.2) else none) else if x2 = (2 : Int32) then (if oc q4.2 x0 12 = true then (q4.2.2.2.2.1 x0 7).bind fun a7 => if inb x1 (al q4.2 a7) = true then if oc q4.2 x0 12 = true then (m173 x0 x1 q4.2).bind fun q8 => if (q4.2.2.1 a7 x1.toNatClampNeg) ≤ q8.1 then some ((0 : Int32), q8.2) else if oc q8.2 x0 12 = true then (q8.2.2.2.2.1 x0 7).bind fun a9 => if inb x1 (al q8.2 a9) = true then if oc q8.2 x0 12 = true then (m173 x0 x1 q8.2).bind fun q10 => some ((q8.2.2.1 a9 x1.toNatClampNeg) - q10.1, q10.2) else none else none else none else none else none else none) else if x2 = (3 : Int32) then (if oc q4.2 x0 12 = true then (q4.2.2.2.2.1 x0 8).bind fun a11 => if inb (1 : Int32) (al q4.2 a11) = true then if (3 : Int32) = 0 then none else if (3 : Int32) = 0 then none else some (((3 : Int32) - ((q4.2.2.1 a11 (1 : Int32).toNatClampNeg) - (q4.2.2.1 a11 (1 : Int32).toNatClampNeg) / (3 : Int32) * (3 : Int32))) - ((3 : Int32) - ((q4.2.2.1 a11 (1 : Int32).toNatClampNeg) - (q4.2.2.1 a11 (1 : Int32).toNatClampNeg) / (3 : Int32) * (3 : Int32))) / (3 : Int32) * (3 : Int32), q4.2) else none else none) else if x2 = (4 : Int32) then (if oc q4.2 x0 12 = true then (q4.2.2.2.2.1 x0 8).bind fun a12 => if inb (1 : Int32) (al q4.2 a12) = true then if oc q4.2 x0 12 = true then (m174 x0 x1 (q4.2.2.1 a12 (1 : Int32).toNatClampNeg) q4.2).bind fun q13 => if oc q13.2 x0 12 = true then (m184 x0 x1 q13.2).bind fun q14 => if oc q14.2 x0 12 = true then (m186 x0 q13.1 q14.1 q14.2).bind fun q15 => some ((3 : Int32) * q15.1, q15.2) else none else none else none else none else none) else if oc q4.2 x0 12 = true then (q4.2.2.2.2.1 x0 8).bind fun a16 => if inb (1 : Int32) (al q4.2 a16) = true then if oc q4.2 x0 12 = true then (m174 x0 x1 (q4.2.2.1 a16 (1 : Int32).toNatClampNeg) q4.2).bind fun q17 => if oc q17.2 x0 12 = true then (q17.2.2.2.2.1 x0 8).bind fun a18 => if inb (0 : Int32) (al q17.2 a18) = true then if oc q17.2 x0 12 = true then (m186 x0 q17.1 (q17.2.2.1 a18 (0 : Int32).toNatClampNeg) q17.2).bind fun q19 => some (q19.1, q19.2) else none else none else none else none else none else none else none else none else none
set_option maxRecDepth 100000 in
theorem om181 (d : Nat) (x0 : Nat) (x1 : Int32) (x2 : Int32) (S : Sx) : OkF wI (fun f => rk px kx f (d + 3) 181 0 [some (.ref x0), some (.int x1), some (.int x2)] [] S) (m181 x0 x1 x2 S) := by
  unfold m181
  refine OkF.eq 3 (Y := fun f => if oc S x0 12 = true then (rk px kx f (d + 2) 171 0 [some (.ref x0), some (.int x1)] [] S).bind (fun q => rk px kx f (d + 3) 181 5 [some (.ref x0), some (.int x1), some (.int x2)] (q.1.toList ++ []) q.2) else none) (fun f => rfl) ?_
  refine OkF.grd (fun _ => ?_)
  refine OkF.bind (w1 := wI) (om171 (d + 1) x0 x1 S) (fun q1 => ?_)
  refine OkF.eq 1 (Y := fun f => if q1.1 = 0 then rk px kx f (d + 3) 181 20 [some (.ref x0), some (.int x1), some (.int x2)] [] q1.2 else rk px kx f (d + 3) 181 8 [some (.ref x0), some (.int x1), some (.int x2)] [] q1.2) (fun f => rfl) ?_
  refine OkF.ite (fun _ => ?_) (fun _ => ?_)
  · exact OkF.ret 2 (fun f => rfl)
  · refine OkF.eq 5 (Y := fun f => (rk px kx f (d + 2) 150 0 [some (.long x2.toInt64), none, some (.long (1 : Int64)), none, some (.long (5 : Int64)), none] [] q1.2).bind (fun q => rk px kx f (d + 3) 181 17 [some (.ref x0), some (.int x1), some (.int x2)] (q.1.toList ++ []) q.2)) (fun f => rfl) ?_
    refine OkF.bind (w1 := wI) (om150 (d + 2) x2.toInt64 (1 : Int64) (5 : Int64) q1.2) (fun q2 => ?_)
    refine OkF.eq 1 (Y := fun f => if q2.1 = 0 then rk px kx f (d + 3) 181 20 [some (.ref x0), some (.int x1), some (.int x2)] [] q2.2 else rk px kx f (d + 3) 181 22 [some (.ref x0), some (.int x1), some (.int x2)] [] q2.2) (fun f => rfl) ?_
    refine OkF.ite (fun _ => ?_) (fun _ => ?_)
    · exact OkF.ret 2 (fun f => rfl)
    · refine OkF.eq 2 (Y := fun f => if oc q2.2 x0 12 = true then rk px kx f (d + 3) 181 26 [some (.ref x0), some (.int x1), some (.int x2)] (va_rf (q2.2.2.2.2.1 x0 6) :: []) q2.2 else none) (fun f => rfl) ?_
      refine OkF.grd (fun _ => ?_)
      refine OkF.rf (fun a3 => ?_)
      refine OkF.eq 2 (Y := fun f => if inb x1 (al q2.2 a3) = true then rk px kx f (d + 3) 181 28 [some (.ref x0), some (.int x1), some (.int x2)] [.int (q2.2.2.1 a3 x1.toNatClampNeg)] q2.2 else none) (fun f => rfl) ?_
      refine OkF.grd (fun _ => ?_)
      refine OkF.eq 2 (Y := fun f => (rk px kx f (d + 2) 182 0 [some (.int (q2.2.2.1 a3 x1.toNatClampNeg)), some (.int x2)] [] q2.2).bind (fun q => rk px kx f (d + 3) 181 32 [some (.ref x0), some (.int x1), some (.int x2)] (q.1.toList ++ []) q.2)) (fun f => rfl) ?_
      refine OkF.bind (w1 := wI) (om182 (d + 2) (q2.2.2.1 a3 x1.toNatClampNeg) x2 q2.2) (fun q4 => ?_)
      refine OkF.eq 1 (Y := fun f => if q4.1 = 0 then rk px kx f (d + 3) 181 35 [some (.ref x0), some (.int x1), some (.int x2)] [] q4.2 else rk px kx f (d + 3) 181 41 [some (.ref x0), some (.int x1), some (.int x2)] [] q4.2) (fun f => rfl) ?_
      refine OkF.ite (fun _ => ?_) (fun _ => ?_)
      · refine OkF.eq 3 (Y := fun f => if oc q4.2 x0 12 = true then (rk px kx f (d + 2) 151 0 [some (.ref x0), some (.int (3 : Int32))] [] q4.2).bind (fun q => rk px kx f (d + 3) 181 40 [some (.ref x0), some (.int x1), some (.int x2)] (q.1.toList ++ []) q.2) else none) (fun f => rfl) ?_
        refine OkF.grd (fun _ => ?_)
        refine OkF.bind (w1 := wI) (om151 (d + 2) x0 (3 : Int32) q4.2) (fun q5 => ?_)
        exact OkF.ret 1 (fun f => rfl)
      · refine OkF.eq 2 (Y := fun f => if x2 = (1 : Int32) then rk px kx f (d + 3) 181 72 [some (.ref x0), some (.int x1), some (.int x2)] [] q4.2 else if x2 = (2 : Int32) then rk px kx f (d + 3) 181 78 [some (.ref x0), some (.int x1), some (.int x2)] [] q4.2 else if x2 = (3 : Int32) then rk px kx f (d + 3) 181 109 [some (.ref x0), some (.int x1), some (.int x2)] [] q4.2 else if x2 = (4 : Int32) then rk px kx f (d + 3) 181 122 [some (.ref x0), some (.int x1), some (.int x2)] [] q4.2 else rk px kx f (d + 3) 181 145 [some (.ref x0), some (.int x1), some (.int x2)] [] q4.2) (fun f => rfl) ?_
        refine OkF.ite (fun _ => ?_) (fun _ => ?_)
        · refine OkF.eq 3 (Y := fun f => if oc q4.2 x0 12 = true then (rk px kx f (d + 2) 183 0 [some (.ref x0), some (.int x1), none, none] [] q4.2).bind (fun q => rk px kx f (d + 3) 181 77 [some (.ref x0), some (.int x1), some (.int x2)] (q.1.toList ++ []) q.2) else none) (fun f => rfl) ?_
          refine OkF.grd (fun _ => ?_)
          refine OkF.bind (w1 := wI) (om183 (d + 0) x0 x1 q4.2) (fun q6 => ?_)
          exact OkF.ret 1 (fun f => rfl)
        refine OkF.ite (fun _ => ?_) (fun _ => ?_)
        · refine OkF.eq 2 (Y := fun f => if oc q4.2 x0 12 = true then rk px kx f (d + 3) 181 82 [some (.ref x0), some (.int x1), some (.int x2)] (va_rf (q4.2.2.2.2.1 x0 7) :: []) q4.2 else none) (fun f => rfl) ?_
          refine OkF.grd (fun _ => ?_)
          refine OkF.rf (fun a7 => ?_)
          refine OkF.eq 2 (Y := fun f => if inb x1 (al q4.2 a7) = true then rk px kx f (d + 3) 181 84 [some (.ref x0), some (.int x1), some (.int x2)] [.int (q4.2.2.1 a7 x1.toNatClampNeg)] q4.2 else none) (fun f => rfl) ?_
          refine OkF.grd (fun _ => ?_)
          refine OkF.eq 3 (Y := fun f => if oc q4.2 x0 12 = true then (rk px kx f (d + 2) 173 0 [some (.ref x0), some (.int x1)] [] q4.2).bind (fun q => rk px kx f (d + 3) 181 89 [some (.ref x0), some (.int x1), some (.int x2)] (q.1.toList ++ [.int (q4.2.2.1 a7 x1.toNatClampNeg)]) q.2) else none) (fun f => rfl) ?_
          refine OkF.grd (fun _ => ?_)
          refine OkF.bind (w1 := wI) (om173 (d + 2) x0 x1 q4.2) (fun q8 => ?_)
          refine OkF.eq 1 (Y := fun f => if (q4.2.2.1 a7 x1.toNatClampNeg) ≤ q8.1 then rk px kx f (d + 3) 181 107 [some (.ref x0), some (.int x1), some (.int x2)] [] q8.2 else rk px kx f (d + 3) 181 92 [some (.ref x0), some (.int x1), some (.int x2)] [] q8.2) (fun f => rfl) ?_
          refine OkF.ite (fun _ => ?_) (fun _ => ?_)
          · exact OkF.ret 2 (fun f => rfl)
          · refine OkF.eq 2 (Y := fun f => if oc q8.2 x0 12 = true then rk px kx f (d + 3) 181 96 [some (.ref x0), some (.int x1), some (.int x2)] (va_rf (q8.2.2.2.2.1 x0 7) :: []) q8.2 else none) (fun f => rfl) ?_
            refine OkF.grd (fun _ => ?_)
            refine OkF.rf (fun a9 => ?_)
            refine OkF.eq 2 (Y := fun f => if inb x1 (al q8.2 a9) = true then rk px kx f (d + 3) 181 98 [some (.ref x0), some (.int x1), some (.int x2)] [.int (q8.2.2.1 a9 x1.toNatClampNeg)] q8.2 else none) (fun f => rfl) ?_
            refine OkF.grd (fun _ => ?_)
            refine OkF.eq 3 (Y := fun f => if oc q8.2 x0 12 = true then (rk px kx f (d + 2) 173 0 [some (.ref x0), some (.int x1)] [] q8.2).bind (fun q => rk px kx f (d + 3) 181 103 [some (.ref x0), some (.int x1), some (.int x2)] (q.1.toList ++ [.int (q8.2.2.1 a9 x1.toNatClampNeg)]) q.2) else none) (fun f => rfl) ?_
            refine OkF.grd (fun _ => ?_)
            refine OkF.bind (w1 := wI) (om173 (d + 2) x0 x1 q8.2) (fun q10 => ?_)
            exact OkF.ret 3 (fun f => rfl)
        refine OkF.ite (fun _ => ?_) (fun _ => ?_)
        · refine OkF.eq 3 (Y := fun f => if oc q4.2 x0 12 = true then rk px kx f (d + 3) 181 114 [some (.ref x0), some (.int x1), some (.int x2)] (va_rf (q4.2.2.2.2.1 x0 8) :: [.int (3 : Int32)]) q4.2 else none) (fun f => rfl) ?_
          refine OkF.grd (fun _ => ?_)
          refine OkF.rf (fun a11 => ?_)
          refine OkF.eq 2 (Y := fun f => if inb (1 : Int32) (al q4.2 a11) = true then rk px kx f (d + 3) 181 116 [some (.ref x0), some (.int x1), some (.int x2)] [.int (q4.2.2.1 a11 (1 : Int32).toNatClampNeg), .int (3 : Int32)] q4.2 else none) (fun f => rfl) ?_
          refine OkF.grd (fun _ => ?_)
          refine OkF.eq 2 (Y := fun f => if (3 : Int32) = 0 then none else rk px kx f (d + 3) 181 118 [some (.ref x0), some (.int x1), some (.int x2)] [.int ((q4.2.2.1 a11 (1 : Int32).toNatClampNeg) - (q4.2.2.1 a11 (1 : Int32).toNatClampNeg) / (3 : Int32) * (3 : Int32)), .int (3 : Int32)] q4.2) (fun f => rfl) ?_
          refine OkF.ngr (fun _ => ?_)
          refine OkF.eq 3 (Y := fun f => if (3 : Int32) = 0 then none else rk px kx f (d + 3) 181 121 [some (.ref x0), some (.int x1), some (.int x2)] [.int (((3 : Int32) - ((q4.2.2.1 a11 (1 : Int32).toNatClampNeg) - (q4.2.2.1 a11 (1 : Int32).toNatClampNeg) / (3 : Int32) * (3 : Int32))) - ((3 : Int32) - ((q4.2.2.1 a11 (1 : Int32).toNatClampNeg) - (q4.2.2.1 a11 (1 : Int32).toNatClampNeg) / (3 : Int32) * (3 : Int32))) / (3 : Int32) * (3 : Int32))] q4.2) (fun f => rfl) ?_
          refine OkF.ngr (fun _ => ?_)
          exact OkF.ret 1 (fun f => rfl)
        refine OkF.ite (fun _ => ?_) (fun _ => ?_)
        · refine OkF.eq 6 (Y := fun f => if oc q4.2 x0 12 = true then rk px kx f (d + 3) 181 130 [some (.ref x0), some (.int x1), some (.int x2)] (va_rf (q4.2.2.2.2.1 x0 8) :: [.int x1, .ref x0, .ref x0, .int (3 : Int32)]) q4.2 else none) (fun f => rfl) ?_
          refine OkF.grd (fun _ => ?_)
          refine OkF.rf (fun a12 => ?_)
          refine OkF.eq 2 (Y := fun f => if inb (1 : Int32) (al q4.2 a12) = true then rk px kx f (d + 3) 181 132 [some (.ref x0), some (.int x1), some (.int x2)] [.int (q4.2.2.1 a12 (1 : Int32).toNatClampNeg), .int x1, .ref x0, .ref x0, .int (3 : Int32)] q4.2 else none) (fun f => rfl) ?_
          refine OkF.grd (fun _ => ?_)
          refine OkF.eq 1 (Y := fun f => if oc q4.2 x0 12 = true then (rk px kx f (d + 2) 174 0 [some (.ref x0), some (.int x1), some (.int (q4.2.2.1 a12 (1 : Int32).toNatClampNeg))] [] q4.2).bind (fun q => rk px kx f (d + 3) 181 135 [some (.ref x0), some (.int x1), some (.int x2)] (q.1.toList ++ [.ref x0, .int (3 : Int32)]) q.2) else none) (fun f => rfl) ?_
          refine OkF.grd (fun _ => ?_)
          refine OkF.bind (w1 := wI) (om174 (d + 0) x0 x1 (q4.2.2.1 a12 (1 : Int32).toNatClampNeg) q4.2) (fun q13 => ?_)
          refine OkF.eq 3 (Y := fun f => if oc q13.2 x0 12 = true then (rk px kx f (d + 2) 184 0 [some (.ref x0), some (.int x1)] [] q13.2).bind (fun q => rk px kx f (d + 3) 181 140 [some (.ref x0), some (.int x1), some (.int x2)] (q.1.toList ++ [.int q13.1, .ref x0, .int (3 : Int32)]) q.2) else none) (fun f => rfl) ?_
          refine OkF.grd (fun _ => ?_)
          refine OkF.bind (w1 := wI) (om184 (d + 0) x0 x1 q13.2) (fun q14 => ?_)
          refine OkF.eq 1 (Y := fun f => if oc q14.2 x0 12 = true then (rk px kx f (d + 2) 186 0 [some (.ref x0), some (.int q13.1), some (.int q14.1)] [] q14.2).bind (fun q => rk px kx f (d + 3) 181 143 [some (.ref x0), some (.int x1), some (.int x2)] (q.1.toList ++ [.int (3 : Int32)]) q.2) else none) (fun f => rfl) ?_
          refine OkF.grd (fun _ => ?_)
          refine OkF.bind (w1 := wI) (om186 (d + 2) x0 q13.1 q14.1 q14.2) (fun q15 => ?_)
          exact OkF.ret 2 (fun f => rfl)
        refine OkF.eq 5 (Y := fun f => if oc q4.2 x0 12 = true then rk px kx f (d + 3) 181 152 [some (.ref x0), some (.int x1), some (.int x2)] (va_rf (q4.2.2.2.2.1 x0 8) :: [.int x1, .ref x0, .ref x0]) q4.2 else none) (fun f => rfl) ?_
        refine OkF.grd (fun _ => ?_)
        refine OkF.rf (fun a16 => ?_)
        refine OkF.eq 2 (Y := fun f => if inb (1 : Int32) (al q4.2 a16) = true then rk px kx f (d + 3) 181 154 [some (.ref x0), some (.int x1), some (.int x2)] [.int (q4.2.2.1 a16 (1 : Int32).toNatClampNeg), .int x1, .ref x0, .ref x0] q4.2 else none) (fun f => rfl) ?_
        refine OkF.grd (fun _ => ?_)
        refine OkF.eq 1 (Y := fun f => if oc q4.2 x0 12 = true then (rk px kx f (d + 2) 174 0 [some (.ref x0), some (.int x1), some (.int (q4.2.2.1 a16 (1 : Int32).toNatClampNeg))] [] q4.2).bind (fun q => rk px kx f (d + 3) 181 157 [some (.ref x0), some (.int x1), some (.int x2)] (q.1.toList ++ [.ref x0]) q.2) else none) (fun f => rfl) ?_
        refine OkF.grd (fun _ => ?_)
        refine OkF.bind (w1 := wI) (om174 (d + 0) x0 x1 (q4.2.2.1 a16 (1 : Int32).toNatClampNeg) q4.2) (fun q17 => ?_)
        refine OkF.eq 2 (Y := fun f => if oc q17.2 x0 12 = true then rk px kx f (d + 3) 181 161 [some (.ref x0), some (.int x1), some (.int x2)] (va_rf (q17.2.2.2.2.1 x0 8) :: [.int q17.1, .ref x0]) q17.2 else none) (fun f => rfl) ?_
        refine OkF.grd (fun _ => ?_)
        refine OkF.rf (fun a18 => ?_)
        refine OkF.eq 2 (Y := fun f => if inb (0 : Int32) (al q17.2 a18) = true then rk px kx f (d + 3) 181 163 [some (.ref x0), some (.int x1), some (.int x2)] [.int (q17.2.2.1 a18 (0 : Int32).toNatClampNeg), .int q17.1, .ref x0] q17.2 else none) (fun f => rfl) ?_
        refine OkF.grd (fun _ => ?_)
        refine OkF.eq 1 (Y := fun f => if oc q17.2 x0 12 = true then (rk px kx f (d + 2) 186 0 [some (.ref x0), some (.int q17.1), some (.int (q17.2.2.1 a18 (0 : Int32).toNatClampNeg))] [] q17.2).bind (fun q => rk px kx f (d + 3) 181 166 [some (.ref x0), some (.int x1), some (.int x2)] (q.1.toList ++ []) q.2) else none) (fun f => rfl) ?_
        refine OkF.grd (fun _ => ?_)
        refine OkF.bind (w1 := wI) (om186 (d + 2) x0 q17.1 (q17.2.2.1 a18 (0 : Int32).toNatClampNeg) q17.2) (fun q19 => ?_)
        exact OkF.ret 1 (fun f => rfl)
-- DoorSoldModel.refuses()I
def m188 (x0 : Nat) (S : Sx) : Option (Int32 × Sx) :=
  if oc S x0 12 = true then if (S.2.1 x0 4) = 0 then some ((-4 : Int32), S) else if oc S x0 12 = true then if (S.2.1 x0 9) = (40 : Int32) then some ((-2 : Int32), S) else some ((0 : Int32), S) else none else none
set_option maxRecDepth 100000 in
theorem om188 (d : Nat) (x0 : Nat) (S : Sx) : OkF wI (fun f => rk px kx f (d + 0) 188 0 [some (.ref x0)] [] S) (m188 x0 S) := by
  unfold m188
  refine OkF.eq 2 (Y := fun f => if oc S x0 12 = true then rk px kx f (d + 0) 188 4 [some (.ref x0)] [.int (S.2.1 x0 4)] S else none) (fun f => rfl) ?_
  refine OkF.grd (fun _ => ?_)
  refine OkF.eq 1 (Y := fun f => if (S.2.1 x0 4) = 0 then rk px kx f (d + 0) 188 7 [some (.ref x0)] [] S else rk px kx f (d + 0) 188 12 [some (.ref x0)] [] S) (fun f => rfl) ?_
  refine OkF.ite (fun _ => ?_) (fun _ => ?_)
  · exact OkF.ret 3 (fun f => rfl)
  · refine OkF.eq 2 (Y := fun f => if oc S x0 12 = true then rk px kx f (d + 0) 188 16 [some (.ref x0)] [.int (S.2.1 x0 9)] S else none) (fun f => rfl) ?_
    refine OkF.grd (fun _ => ?_)
    refine OkF.eq 2 (Y := fun f => if (S.2.1 x0 9) = (40 : Int32) then rk px kx f (d + 0) 188 21 [some (.ref x0)] [] S else rk px kx f (d + 0) 188 26 [some (.ref x0)] [] S) (fun f => rfl) ?_
    refine OkF.ite (fun _ => ?_) (fun _ => ?_)
    · exact OkF.ret 3 (fun f => rfl)
    · exact OkF.ret 2 (fun f => rfl)
-- DoorSoldModel.copies([II[III)V
def b191_3 (k3 : Nat → Int32 → Nat → Int32 → Int32 → Int32 → Sx → Option (Sx)) (x0 : Nat) (x1 : Int32) (x2 : Nat) (x3 : Int32) (x4 : Int32) (x5 : Int32) (S : Sx) : Option (Sx) :=
  if x4 ≤ x5 then some S else if inb (x1 + x5) (al S x0) = true then if inb (x3 + x5) (aw S 1 x2) = true then lt (sI S x2 (x3 + x5).toNatClampNeg (S.2.1 x0 (x1 + x5).toNatClampNeg)) fun S1 => k3 x0 x1 x2 x3 x4 (x5 + (1 : Int32)) S1 else none else none
set_option maxRecDepth 100000 in
theorem ob191_3 (d : Nat) (k3 : Nat → Int32 → Nat → Int32 → Int32 → Int32 → Sx → Option (Sx)) (hk3 : ∀ (x0 : Nat) (x1 : Int32) (x2 : Nat) (x3 : Int32) (x4 : Int32) (x5 : Int32) (S : Sx), OkF wV (fun f => rk px kx f (d + 0) 191 3 [some (.ref x0), some (.int x1), some (.ref x2), some (.int x3), some (.int x4), some (.int x5)] [] S) (k3 x0 x1 x2 x3 x4 x5 S)) (x0 : Nat) (x1 : Int32) (x2 : Nat) (x3 : Int32) (x4 : Int32) (x5 : Int32) (S : Sx) : OkF wV (fun f => rk px kx f (d + 0) 191 3 [some (.ref x0), some (.int x1), some (.ref x2), some (.int x3), some (.int x4), some (.int x5)] [] S) (b191_3 k3 x0 x1 x2 x3 x4 x5 S) := by
  unfold b191_3
  refine OkF.eq 3 (Y := fun f => if x4 ≤ x5 then rk px kx f (d + 0) 191 28 [some (.ref x0), some (.int x1), some (.ref x2), some (.int x3), some (.int x4), some (.int x5)] [] S else rk px kx f (d + 0) 191 10 [some (.ref x0), some (.int x1), some (.ref x2), some (.int x3), some (.int x4), some (.int x5)] [] S) (fun f => rfl) ?_
  refine OkF.ite (fun _ => ?_) (fun _ => ?_)
  · exact OkF.ret 1 (fun f => rfl)
  · refine OkF.eq 9 (Y := fun f => if inb (x1 + x5) (al S x0) = true then rk px kx f (d + 0) 191 21 [some (.ref x0), some (.int x1), some (.ref x2), some (.int x3), some (.int x4), some (.int x5)] [.int (S.2.1 x0 (x1 + x5).toNatClampNeg), .int (x3 + x5), .ref x2] S else none) (fun f => rfl) ?_
    refine OkF.grd (fun _ => ?_)
    refine OkF.eq 1 (Y := fun f => if inb (x3 + x5) (aw S 1 x2) = true then rk px kx f (d + 0) 191 22 [some (.ref x0), some (.int x1), some (.ref x2), some (.int x3), some (.int x4), some (.int x5)] [] (sI S x2 (x3 + x5).toNatClampNeg (S.2.1 x0 (x1 + x5).toNatClampNeg)) else none) (fun f => rfl) ?_
    refine OkF.grd (fun _ => ?_)
    refine OkF.nm (fun S1 => ?_)
    refine OkF.eq 2 (Y := fun f => rk px kx f (d + 0) 191 3 [some (.ref x0), some (.int x1), some (.ref x2), some (.int x3), some (.int x4), some (.int (x5 + (1 : Int32)))] [] S1) (fun f => rfl) ?_
    exact OkF.kl (ls1 := [some (.ref x0), some (.int x1), some (.ref x2), some (.int x3), some (.int x4), some (.int (x5 + (1 : Int32)))]) (fun f => rfl) (hk3 x0 x1 x2 x3 x4 (x5 + (1 : Int32)) S1)
def l191_3 : Nat → Nat → Int32 → Nat → Int32 → Int32 → Int32 → Sx → Option (Sx)
  | 0 => fun _ _ _ _ _ _ _ => none
  | n + 1 => fun x0 x1 x2 x3 x4 x5 S => b191_3 (l191_3 n) x0 x1 x2 x3 x4 x5 S
set_option maxRecDepth 100000 in
theorem ol191_3 (d : Nat) : ∀ (n : Nat) (x0 : Nat) (x1 : Int32) (x2 : Nat) (x3 : Int32) (x4 : Int32) (x5 : Int32) (S : Sx), OkF wV (fun f => rk px kx f (d + 0) 191 3 [some (.ref x0), some (.int x1), some (.ref x2), some (.int x3), some (.int x4), some (.int x5)] [] S) (l191_3 n x0 x1 x2 x3 x4 x5 S) := by
  intro n
  induction n with
  | zero => intro x0 x1 x2 x3 x4 x5 S; exact OkF.no
  | succ n ih => intro x0 x1 x2 x3 x4 x5 S; exact ob191_3 d (l191_3 n) ih x0 x1 x2 x3 x4 x5 S
def m191 (x0 : Nat) (x1 : Int32) (x2 : Nat) (x3 : Int32) (x4 : Int32) (S : Sx) : Option (Sx) :=
  l191_3 1000 x0 x1 x2 x3 x4 (0 : Int32) S
set_option maxRecDepth 100000 in
theorem om191 (d : Nat) (x0 : Nat) (x1 : Int32) (x2 : Nat) (x3 : Int32) (x4 : Int32) (S : Sx) : OkF wV (fun f => rk px kx f (d + 0) 191 0 [some (.ref x0), some (.int x1), some (.ref x2), some (.int x3), some (.int x4), none] [] S) (m191 x0 x1 x2 x3 x4 S) := by
  unfold m191
  refine OkF.eq 2 (Y := fun f => rk px kx f (d + 0) 191 3 [some (.ref x0), some (.int x1), some (.ref x2), some (.int x3), some (.int x4), some (.int (0 : Int32))] [] S) (fun f => rfl) ?_
  exact OkF.kl (ls1 := [some (.ref x0), some (.int x1), some (.ref x2), some (.int x3), some (.int x4), some (.int (0 : Int32))]) (fun f => rfl) (ol191_3 d 1000 x0 x1 x2 x3 x4 (0 : Int32) S)
-- DoorSoldModel.remember()V
def m190 (x0 : Nat) (S : Sx) : Option (Sx) :=
  if oc S x0 12 = true then (S.2.2.2.1 x0 8).bind fun a1 => if oc S x0 12 = true then (S.2.2.2.1 x0 10).bind fun a2 => if oc S x0 12 = true then (m191 a1 (0 : Int32) a2 ((16 : Int32) * (S.2.1 x0 9)) (16 : Int32) S).bind fun q3 => if oc q3 x0 12 = true then if oc q3 x0 12 = true then lt (sI q3 x0 9 ((q3.2.1 x0 9) + (1 : Int32))) fun S4 => some S4 else none else none else none else none else none
set_option maxRecDepth 100000 in
theorem om190 (d : Nat) (x0 : Nat) (S : Sx) : OkF wV (fun f => rk px kx f (d + 1) 190 0 [some (.ref x0)] [] S) (m190 x0 S) := by
  unfold m190
  refine OkF.eq 2 (Y := fun f => if oc S x0 12 = true then rk px kx f (d + 1) 190 4 [some (.ref x0)] (va_rf (S.2.2.2.1 x0 8) :: []) S else none) (fun f => rfl) ?_
  refine OkF.grd (fun _ => ?_)
  refine OkF.rf (fun a1 => ?_)
  refine OkF.eq 3 (Y := fun f => if oc S x0 12 = true then rk px kx f (d + 1) 190 9 [some (.ref x0)] (va_rf (S.2.2.2.1 x0 10) :: [.int (0 : Int32), .ref a1]) S else none) (fun f => rfl) ?_
  refine OkF.grd (fun _ => ?_)
  refine OkF.rf (fun a2 => ?_)
  refine OkF.eq 3 (Y := fun f => if oc S x0 12 = true then rk px kx f (d + 1) 190 15 [some (.ref x0)] [.int (S.2.1 x0 9), .int (16 : Int32), .ref a2, .int (0 : Int32), .ref a1] S else none) (fun f => rfl) ?_
  refine OkF.grd (fun _ => ?_)
  refine OkF.eq 3 (Y := fun f => (rk px kx f (d + 0) 191 0 [some (.ref a1), some (.int (0 : Int32)), some (.ref a2), some (.int ((16 : Int32) * (S.2.1 x0 9))), some (.int (16 : Int32)), none] [] S).bind (fun q => rk px kx f (d + 1) 190 21 [some (.ref x0)] (q.1.toList ++ []) q.2)) (fun f => rfl) ?_
  refine OkF.bind (w1 := wV) (om191 (d + 0) a1 (0 : Int32) a2 ((16 : Int32) * (S.2.1 x0 9)) (16 : Int32) S) (fun q3 => ?_)
  refine OkF.eq 3 (Y := fun f => if oc q3 x0 12 = true then rk px kx f (d + 1) 190 26 [some (.ref x0)] [.int (q3.2.1 x0 9), .ref x0] q3 else none) (fun f => rfl) ?_
  refine OkF.grd (fun _ => ?_)
  refine OkF.eq 3 (Y := fun f => if oc q3 x0 12 = true then rk px kx f (d + 1) 190 31 [some (.ref x0)] [] (sI q3 x0 9 ((q3.2.1 x0 9) + (1 : Int32))) else none) (fun f => rfl) ?_
  refine OkF.grd (fun _ => ?_)
  refine OkF.nm (fun S4 => ?_)
  exact OkF.ret 1 (fun f => rfl)
-- DoorSoldModel.roads()V
def m189 (x0 : Nat) (S : Sx) : Option (Sx) :=
  if oc S x0 12 = true then (m190 x0 S).bind fun q1 => if oc q1 x0 12 = true then (q1.2.2.2.1 x0 8).bind fun a2 => if oc q1 x0 12 = true then (q1.2.2.2.1 x0 8).bind fun a3 => if inb (0 : Int32) (al q1 a3) = true then if oc q1 x0 12 = true then if (q1.2.1 x0 5) = 0 then none else if inb (0 : Int32) (aw q1 1 a2) = true then lt (sI q1 a2 (0 : Int32).toNatClampNeg (((q1.2.1 a3 (0 : Int32).toNatClampNeg) + (1 : Int32)) - ((q1.2.1 a3 (0 : Int32).toNatClampNeg) + (1 : Int32)) / (q1.2.1 x0 5) * (q1.2.1 x0 5))) fun S4 => if oc S4 x0 12 = true then (S4.2.2.2.1 x0 8).bind fun a5 => if inb (1 : Int32) (al S4 a5) = true then if inb (1 : Int32) (aw S4 1 a5) = true then lt (sI S4 a5 (1 : Int32).toNatClampNeg ((S4.2.1 a5 (1 : Int32).toNatClampNeg) + (3 : Int32))) fun S6 => some S6 else none else none else none else none else none else none else none else none else none
set_option maxRecDepth 100000 in
theorem om189 (d : Nat) (x0 : Nat) (S : Sx) : OkF wV (fun f => rk px kx f (d + 2) 189 0 [some (.ref x0)] [] S) (m189 x0 S) := by
  unfold m189
  refine OkF.eq 2 (Y := fun f => if oc S x0 12 = true then (rk px kx f (d + 1) 190 0 [some (.ref x0)] [] S).bind (fun q => rk px kx f (d + 2) 189 4 [some (.ref x0)] (q.1.toList ++ []) q.2) else none) (fun f => rfl) ?_
  refine OkF.grd (fun _ => ?_)
  refine OkF.bind (w1 := wV) (om190 (d + 0) x0 S) (fun q1 => ?_)
  refine OkF.eq 2 (Y := fun f => if oc q1 x0 12 = true then rk px kx f (d + 2) 189 8 [some (.ref x0)] (va_rf (q1.2.2.2.1 x0 8) :: []) q1 else none) (fun f => rfl) ?_
  refine OkF.grd (fun _ => ?_)
  refine OkF.rf (fun a2 => ?_)
  refine OkF.eq 3 (Y := fun f => if oc q1 x0 12 = true then rk px kx f (d + 2) 189 13 [some (.ref x0)] (va_rf (q1.2.2.2.1 x0 8) :: [.int (0 : Int32), .ref a2]) q1 else none) (fun f => rfl) ?_
  refine OkF.grd (fun _ => ?_)
  refine OkF.rf (fun a3 => ?_)
  refine OkF.eq 2 (Y := fun f => if inb (0 : Int32) (al q1 a3) = true then rk px kx f (d + 2) 189 15 [some (.ref x0)] [.int (q1.2.1 a3 (0 : Int32).toNatClampNeg), .int (0 : Int32), .ref a2] q1 else none) (fun f => rfl) ?_
  refine OkF.grd (fun _ => ?_)
  refine OkF.eq 4 (Y := fun f => if oc q1 x0 12 = true then rk px kx f (d + 2) 189 21 [some (.ref x0)] [.int (q1.2.1 x0 5), .int ((q1.2.1 a3 (0 : Int32).toNatClampNeg) + (1 : Int32)), .int (0 : Int32), .ref a2] q1 else none) (fun f => rfl) ?_
  refine OkF.grd (fun _ => ?_)
  refine OkF.eq 1 (Y := fun f => if (q1.2.1 x0 5) = 0 then none else rk px kx f (d + 2) 189 22 [some (.ref x0)] [.int (((q1.2.1 a3 (0 : Int32).toNatClampNeg) + (1 : Int32)) - ((q1.2.1 a3 (0 : Int32).toNatClampNeg) + (1 : Int32)) / (q1.2.1 x0 5) * (q1.2.1 x0 5)), .int (0 : Int32), .ref a2] q1) (fun f => rfl) ?_
  refine OkF.ngr (fun _ => ?_)
  refine OkF.eq 1 (Y := fun f => if inb (0 : Int32) (aw q1 1 a2) = true then rk px kx f (d + 2) 189 23 [some (.ref x0)] [] (sI q1 a2 (0 : Int32).toNatClampNeg (((q1.2.1 a3 (0 : Int32).toNatClampNeg) + (1 : Int32)) - ((q1.2.1 a3 (0 : Int32).toNatClampNeg) + (1 : Int32)) / (q1.2.1 x0 5) * (q1.2.1 x0 5))) else none) (fun f => rfl) ?_
  refine OkF.grd (fun _ => ?_)
  refine OkF.nm (fun S4 => ?_)
  refine OkF.eq 2 (Y := fun f => if oc S4 x0 12 = true then rk px kx f (d + 2) 189 27 [some (.ref x0)] (va_rf (S4.2.2.2.1 x0 8) :: []) S4 else none) (fun f => rfl) ?_
  refine OkF.grd (fun _ => ?_)
  refine OkF.rf (fun a5 => ?_)
  refine OkF.eq 3 (Y := fun f => if inb (1 : Int32) (al S4 a5) = true then rk px kx f (d + 2) 189 30 [some (.ref x0)] [.int (S4.2.1 a5 (1 : Int32).toNatClampNeg), .int (1 : Int32), .ref a5] S4 else none) (fun f => rfl) ?_
  refine OkF.grd (fun _ => ?_)
  refine OkF.eq 3 (Y := fun f => if inb (1 : Int32) (aw S4 1 a5) = true then rk px kx f (d + 2) 189 33 [some (.ref x0)] [] (sI S4 a5 (1 : Int32).toNatClampNeg ((S4.2.1 a5 (1 : Int32).toNatClampNeg) + (3 : Int32))) else none) (fun f => rfl) ?_
  refine OkF.grd (fun _ => ?_)
  refine OkF.nm (fun S6 => ?_)
  exact OkF.ret 1 (fun f => rfl)
-- DoorSoldModel.road()I
def m187 (x0 : Nat) (S : Sx) : Option (Int32 × Sx) :=
  if oc S x0 12 = true then (m188 x0 S).bind fun q1 => if q1.1 = 0 then if oc q1.2 x0 12 = true then (m189 x0 q1.2).bind fun q2 => if oc q2 x0 12 = true then (q2.2.2.2.1 x0 8).bind fun a3 => if inb (0 : Int32) (al q2 a3) = true then some (q2.2.1 a3 (0 : Int32).toNatClampNeg, q2) else none else none else none else some (q1.1, q1.2) else none
set_option maxRecDepth 100000 in
theorem om187 (d : Nat) (x0 : Nat) (S : Sx) : OkF wI (fun f => rk px kx f (d + 3) 187 0 [some (.ref x0), none] [] S) (m187 x0 S) := by
  unfold m187
  refine OkF.eq 2 (Y := fun f => if oc S x0 12 = true then (rk px kx f (d + 2) 188 0 [some (.ref x0)] [] S).bind (fun q => rk px kx f (d + 3) 187 4 [some (.ref x0), none] (q.1.toList ++ []) q.2) else none) (fun f => rfl) ?_
  refine OkF.grd (fun _ => ?_)
  refine OkF.bind (w1 := wI) (om188 (d + 2) x0 S) (fun q1 => ?_)
  refine OkF.eq 3 (Y := fun f => if q1.1 = 0 then rk px kx f (d + 3) 187 11 [some (.ref x0), some (.int q1.1)] [] q1.2 else rk px kx f (d + 3) 187 9 [some (.ref x0), some (.int q1.1)] [] q1.2) (fun f => rfl) ?_
  refine OkF.ite (fun _ => ?_) (fun _ => ?_)
  · refine OkF.eq 2 (Y := fun f => if oc q1.2 x0 12 = true then (rk px kx f (d + 2) 189 0 [some (.ref x0)] [] q1.2).bind (fun q => rk px kx f (d + 3) 187 15 [some (.ref x0), some (.int q1.1)] (q.1.toList ++ []) q.2) else none) (fun f => rfl) ?_
    refine OkF.grd (fun _ => ?_)
    refine OkF.bind (w1 := wV) (om189 (d + 0) x0 q1.2) (fun q2 => ?_)
    refine OkF.eq 2 (Y := fun f => if oc q2 x0 12 = true then rk px kx f (d + 3) 187 19 [some (.ref x0), some (.int q1.1)] (va_rf (q2.2.2.2.1 x0 8) :: []) q2 else none) (fun f => rfl) ?_
    refine OkF.grd (fun _ => ?_)
    refine OkF.rf (fun a3 => ?_)
    refine OkF.eq 2 (Y := fun f => if inb (0 : Int32) (al q2 a3) = true then rk px kx f (d + 3) 187 21 [some (.ref x0), some (.int q1.1)] [.int (q2.2.1 a3 (0 : Int32).toNatClampNeg)] q2 else none) (fun f => rfl) ?_
    refine OkF.grd (fun _ => ?_)
    exact OkF.ret 1 (fun f => rfl)
  · exact OkF.ret 2 (fun f => rfl)
-- DoorSoldModel.waits()V
def m193 (x0 : Nat) (S : Sx) : Option (Sx) :=
  if oc S x0 12 = true then (m190 x0 S).bind fun q1 => if oc q1 x0 12 = true then (q1.2.2.2.1 x0 8).bind fun a2 => if inb (1 : Int32) (al q1 a2) = true then if inb (1 : Int32) (aw q1 1 a2) = true then lt (sI q1 a2 (1 : Int32).toNatClampNeg ((q1.2.1 a2 (1 : Int32).toNatClampNeg) + (1 : Int32))) fun S3 => some S3 else none else none else none else none
set_option maxRecDepth 100000 in
theorem om193 (d : Nat) (x0 : Nat) (S : Sx) : OkF wV (fun f => rk px kx f (d + 2) 193 0 [some (.ref x0)] [] S) (m193 x0 S) := by
  unfold m193
  refine OkF.eq 2 (Y := fun f => if oc S x0 12 = true then (rk px kx f (d + 1) 190 0 [some (.ref x0)] [] S).bind (fun q => rk px kx f (d + 2) 193 4 [some (.ref x0)] (q.1.toList ++ []) q.2) else none) (fun f => rfl) ?_
  refine OkF.grd (fun _ => ?_)
  refine OkF.bind (w1 := wV) (om190 (d + 0) x0 S) (fun q1 => ?_)
  refine OkF.eq 2 (Y := fun f => if oc q1 x0 12 = true then rk px kx f (d + 2) 193 8 [some (.ref x0)] (va_rf (q1.2.2.2.1 x0 8) :: []) q1 else none) (fun f => rfl) ?_
  refine OkF.grd (fun _ => ?_)
  refine OkF.rf (fun a2 => ?_)
  refine OkF.eq 3 (Y := fun f => if inb (1 : Int32) (al q1 a2) = true then rk px kx f (d + 2) 193 11 [some (.ref x0)] [.int (q1.2.1 a2 (1 : Int32).toNatClampNeg), .int (1 : Int32), .ref a2] q1 else none) (fun f => rfl) ?_
  refine OkF.grd (fun _ => ?_)
  refine OkF.eq 3 (Y := fun f => if inb (1 : Int32) (aw q1 1 a2) = true then rk px kx f (d + 2) 193 14 [some (.ref x0)] [] (sI q1 a2 (1 : Int32).toNatClampNeg ((q1.2.1 a2 (1 : Int32).toNatClampNeg) + (1 : Int32))) else none) (fun f => rfl) ?_
  refine OkF.grd (fun _ => ?_)
  refine OkF.nm (fun S3 => ?_)
  exact OkF.ret 1 (fun f => rfl)
