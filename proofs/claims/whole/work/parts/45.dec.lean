-- DoorSoldModel.stay()I
def m192 (x0 : Nat) (S : Sx) : Option (Int32 × Sx) :=
  if oc S x0 12 = true then (m188 x0 S).bind fun q1 => if q1.1 = 0 then if oc q1.2 x0 12 = true then (m193 x0 q1.2).bind fun q2 => if oc q2 x0 12 = true then (q2.2.2.2.1 x0 8).bind fun a3 => if inb (1 : Int32) (al q2 a3) = true then some (q2.2.1 a3 (1 : Int32).toNatClampNeg, q2) else none else none else none else some (q1.1, q1.2) else none
set_option maxRecDepth 100000 in
theorem om192 (d : Nat) (x0 : Nat) (S : Sx) : OkF wI (fun f => rk px kx f (d + 3) 192 0 [some (.ref x0), none] [] S) (m192 x0 S) := by
  unfold m192
  refine OkF.eq 2 (Y := fun f => if oc S x0 12 = true then (rk px kx f (d + 2) 188 0 [some (.ref x0)] [] S).bind (fun q => rk px kx f (d + 3) 192 4 [some (.ref x0), none] (q.1.toList ++ []) q.2) else none) (fun f => rfl) ?_
  refine OkF.grd (fun _ => ?_)
  refine OkF.bind (w1 := wI) (om188 (d + 2) x0 S) (fun q1 => ?_)
  refine OkF.eq 3 (Y := fun f => if q1.1 = 0 then rk px kx f (d + 3) 192 11 [some (.ref x0), some (.int q1.1)] [] q1.2 else rk px kx f (d + 3) 192 9 [some (.ref x0), some (.int q1.1)] [] q1.2) (fun f => rfl) ?_
  refine OkF.ite (fun _ => ?_) (fun _ => ?_)
  · refine OkF.eq 2 (Y := fun f => if oc q1.2 x0 12 = true then (rk px kx f (d + 2) 193 0 [some (.ref x0)] [] q1.2).bind (fun q => rk px kx f (d + 3) 192 15 [some (.ref x0), some (.int q1.1)] (q.1.toList ++ []) q.2) else none) (fun f => rfl) ?_
    refine OkF.grd (fun _ => ?_)
    refine OkF.bind (w1 := wV) (om193 (d + 0) x0 q1.2) (fun q2 => ?_)
    refine OkF.eq 2 (Y := fun f => if oc q2 x0 12 = true then rk px kx f (d + 3) 192 19 [some (.ref x0), some (.int q1.1)] (va_rf (q2.2.2.2.1 x0 8) :: []) q2 else none) (fun f => rfl) ?_
    refine OkF.grd (fun _ => ?_)
    refine OkF.rf (fun a3 => ?_)
    refine OkF.eq 2 (Y := fun f => if inb (1 : Int32) (al q2 a3) = true then rk px kx f (d + 3) 192 21 [some (.ref x0), some (.int q1.1)] [.int (q2.2.1 a3 (1 : Int32).toNatClampNeg)] q2 else none) (fun f => rfl) ?_
    refine OkF.grd (fun _ => ?_)
    exact OkF.ret 1 (fun f => rfl)
  · exact OkF.ret 2 (fun f => rfl)
-- DoorSoldModel.mayGo(I)Z
def m195 (x0 : Nat) (x1 : Int32) (S : Sx) : Option (Int32 × Sx) :=
  if oc S x0 12 = true then (S.2.2.2.1 x0 8).bind fun a1 => if inb (3 : Int32) (al S a1) = true then (m180 (S.2.1 a1 (3 : Int32).toNatClampNeg) x1 S).bind fun q2 => if q2.1 = 0 then some ((0 : Int32), q2.2) else if oc q2.2 x0 12 = true then (q2.2.2.2.2.1 x0 6).bind fun a3 => if inb x1 (al q2.2 a3) = true then if oc q2.2 x0 12 = true then (q2.2.2.2.2.1 x0 8).bind fun a4 => if inb (1 : Int32) (al q2.2 a4) = true then (m177 (q2.2.2.1 a3 x1.toNatClampNeg) (q2.2.2.1 a4 (1 : Int32).toNatClampNeg) q2.2).bind fun q5 => if q5.1 = 0 then some ((0 : Int32), q5.2) else if oc q5.2 x0 12 = true then (q5.2.2.2.2.1 x0 8).bind fun a6 => if inb (1 : Int32) (al q5.2 a6) = true then if oc q5.2 x0 12 = true then (m174 x0 x1 (q5.2.2.1 a6 (1 : Int32).toNatClampNeg) q5.2).bind fun q7 => if oc q7.2 x0 12 = true then (q7.2.2.2.2.1 x0 8).bind fun a8 => if inb (0 : Int32) (al q7.2 a8) = true then if q7.1 = (q7.2.2.1 a8 (0 : Int32).toNatClampNeg) then some ((1 : Int32), q7.2) else some ((0 : Int32), q7.2) else none else none else none else none else none else none else none else none else none else none else none
set_option maxRecDepth 100000 in
theorem om195 (d : Nat) (x0 : Nat) (x1 : Int32) (S : Sx) : OkF wI (fun f => rk px kx f (d + 3) 195 0 [some (.ref x0), some (.int x1)] [] S) (m195 x0 x1 S) := by
  unfold m195
  refine OkF.eq 2 (Y := fun f => if oc S x0 12 = true then rk px kx f (d + 3) 195 4 [some (.ref x0), some (.int x1)] (va_rf (S.2.2.2.1 x0 8) :: []) S else none) (fun f => rfl) ?_
  refine OkF.grd (fun _ => ?_)
  refine OkF.rf (fun a1 => ?_)
  refine OkF.eq 2 (Y := fun f => if inb (3 : Int32) (al S a1) = true then rk px kx f (d + 3) 195 6 [some (.ref x0), some (.int x1)] [.int (S.2.1 a1 (3 : Int32).toNatClampNeg)] S else none) (fun f => rfl) ?_
  refine OkF.grd (fun _ => ?_)
  refine OkF.eq 2 (Y := fun f => (rk px kx f (d + 2) 180 0 [some (.int (S.2.1 a1 (3 : Int32).toNatClampNeg)), some (.int x1)] [] S).bind (fun q => rk px kx f (d + 3) 195 10 [some (.ref x0), some (.int x1)] (q.1.toList ++ []) q.2)) (fun f => rfl) ?_
  refine OkF.bind (w1 := wI) (om180 (d + 2) (S.2.1 a1 (3 : Int32).toNatClampNeg) x1 S) (fun q2 => ?_)
  refine OkF.eq 1 (Y := fun f => if q2.1 = 0 then rk px kx f (d + 3) 195 55 [some (.ref x0), some (.int x1)] [] q2.2 else rk px kx f (d + 3) 195 13 [some (.ref x0), some (.int x1)] [] q2.2) (fun f => rfl) ?_
  refine OkF.ite (fun _ => ?_) (fun _ => ?_)
  · exact OkF.ret 2 (fun f => rfl)
  · refine OkF.eq 2 (Y := fun f => if oc q2.2 x0 12 = true then rk px kx f (d + 3) 195 17 [some (.ref x0), some (.int x1)] (va_rf (q2.2.2.2.2.1 x0 6) :: []) q2.2 else none) (fun f => rfl) ?_
    refine OkF.grd (fun _ => ?_)
    refine OkF.rf (fun a3 => ?_)
    refine OkF.eq 2 (Y := fun f => if inb x1 (al q2.2 a3) = true then rk px kx f (d + 3) 195 19 [some (.ref x0), some (.int x1)] [.int (q2.2.2.1 a3 x1.toNatClampNeg)] q2.2 else none) (fun f => rfl) ?_
    refine OkF.grd (fun _ => ?_)
    refine OkF.eq 2 (Y := fun f => if oc q2.2 x0 12 = true then rk px kx f (d + 3) 195 23 [some (.ref x0), some (.int x1)] (va_rf (q2.2.2.2.2.1 x0 8) :: [.int (q2.2.2.1 a3 x1.toNatClampNeg)]) q2.2 else none) (fun f => rfl) ?_
    refine OkF.grd (fun _ => ?_)
    refine OkF.rf (fun a4 => ?_)
    refine OkF.eq 2 (Y := fun f => if inb (1 : Int32) (al q2.2 a4) = true then rk px kx f (d + 3) 195 25 [some (.ref x0), some (.int x1)] [.int (q2.2.2.1 a4 (1 : Int32).toNatClampNeg), .int (q2.2.2.1 a3 x1.toNatClampNeg)] q2.2 else none) (fun f => rfl) ?_
    refine OkF.grd (fun _ => ?_)
    refine OkF.eq 1 (Y := fun f => (rk px kx f (d + 2) 177 0 [some (.int (q2.2.2.1 a3 x1.toNatClampNeg)), some (.int (q2.2.2.1 a4 (1 : Int32).toNatClampNeg))] [] q2.2).bind (fun q => rk px kx f (d + 3) 195 28 [some (.ref x0), some (.int x1)] (q.1.toList ++ []) q.2)) (fun f => rfl) ?_
    refine OkF.bind (w1 := wI) (om177 (d + 1) (q2.2.2.1 a3 x1.toNatClampNeg) (q2.2.2.1 a4 (1 : Int32).toNatClampNeg) q2.2) (fun q5 => ?_)
    refine OkF.eq 1 (Y := fun f => if q5.1 = 0 then rk px kx f (d + 3) 195 55 [some (.ref x0), some (.int x1)] [] q5.2 else rk px kx f (d + 3) 195 31 [some (.ref x0), some (.int x1)] [] q5.2) (fun f => rfl) ?_
    refine OkF.ite (fun _ => ?_) (fun _ => ?_)
    · exact OkF.ret 2 (fun f => rfl)
    · refine OkF.eq 4 (Y := fun f => if oc q5.2 x0 12 = true then rk px kx f (d + 3) 195 37 [some (.ref x0), some (.int x1)] (va_rf (q5.2.2.2.2.1 x0 8) :: [.int x1, .ref x0]) q5.2 else none) (fun f => rfl) ?_
      refine OkF.grd (fun _ => ?_)
      refine OkF.rf (fun a6 => ?_)
      refine OkF.eq 2 (Y := fun f => if inb (1 : Int32) (al q5.2 a6) = true then rk px kx f (d + 3) 195 39 [some (.ref x0), some (.int x1)] [.int (q5.2.2.1 a6 (1 : Int32).toNatClampNeg), .int x1, .ref x0] q5.2 else none) (fun f => rfl) ?_
      refine OkF.grd (fun _ => ?_)
      refine OkF.eq 1 (Y := fun f => if oc q5.2 x0 12 = true then (rk px kx f (d + 2) 174 0 [some (.ref x0), some (.int x1), some (.int (q5.2.2.1 a6 (1 : Int32).toNatClampNeg))] [] q5.2).bind (fun q => rk px kx f (d + 3) 195 42 [some (.ref x0), some (.int x1)] (q.1.toList ++ []) q.2) else none) (fun f => rfl) ?_
      refine OkF.grd (fun _ => ?_)
      refine OkF.bind (w1 := wI) (om174 (d + 0) x0 x1 (q5.2.2.1 a6 (1 : Int32).toNatClampNeg) q5.2) (fun q7 => ?_)
      refine OkF.eq 2 (Y := fun f => if oc q7.2 x0 12 = true then rk px kx f (d + 3) 195 46 [some (.ref x0), some (.int x1)] (va_rf (q7.2.2.2.2.1 x0 8) :: [.int q7.1]) q7.2 else none) (fun f => rfl) ?_
      refine OkF.grd (fun _ => ?_)
      refine OkF.rf (fun a8 => ?_)
      refine OkF.eq 2 (Y := fun f => if inb (0 : Int32) (al q7.2 a8) = true then rk px kx f (d + 3) 195 48 [some (.ref x0), some (.int x1)] [.int (q7.2.2.1 a8 (0 : Int32).toNatClampNeg), .int q7.1] q7.2 else none) (fun f => rfl) ?_
      refine OkF.grd (fun _ => ?_)
      refine OkF.eq 1 (Y := fun f => if q7.1 = (q7.2.2.1 a8 (0 : Int32).toNatClampNeg) then rk px kx f (d + 3) 195 51 [some (.ref x0), some (.int x1)] [] q7.2 else rk px kx f (d + 3) 195 55 [some (.ref x0), some (.int x1)] [] q7.2) (fun f => rfl) ?_
      refine OkF.ite (fun _ => ?_) (fun _ => ?_)
      · exact OkF.ret 3 (fun f => rfl)
      · exact OkF.ret 2 (fun f => rfl)
-- DoorSoldModel.goes(I)V
def m196 (x0 : Nat) (x1 : Int32) (S : Sx) : Option (Sx) :=
  if oc S x0 12 = true then (m190 x0 S).bind fun q1 => if oc q1 x0 12 = true then (q1.2.2.2.1 x0 8).bind fun a2 => if oc q1 x0 12 = true then (m184 x0 x1 q1).bind fun q3 => if inb (0 : Int32) (aw q3.2 1 a2) = true then lt (sI q3.2 a2 (0 : Int32).toNatClampNeg q3.1) fun S4 => if oc S4 x0 12 = true then (S4.2.2.2.1 x0 8).bind fun a5 => if inb (1 : Int32) (al S4 a5) = true then if oc S4 x0 12 = true then (m179 x0 x1 S4).bind fun q6 => if inb (1 : Int32) (aw q6.2 1 a5) = true then lt (sI q6.2 a5 (1 : Int32).toNatClampNeg ((S4.2.1 a5 (1 : Int32).toNatClampNeg) + q6.1)) fun S7 => some S7 else none else none else none else none else none else none else none else none
set_option maxRecDepth 100000 in
theorem om196 (d : Nat) (x0 : Nat) (x1 : Int32) (S : Sx) : OkF wV (fun f => rk px kx f (d + 3) 196 0 [some (.ref x0), some (.int x1)] [] S) (m196 x0 x1 S) := by
  unfold m196
  refine OkF.eq 2 (Y := fun f => if oc S x0 12 = true then (rk px kx f (d + 2) 190 0 [some (.ref x0)] [] S).bind (fun q => rk px kx f (d + 3) 196 4 [some (.ref x0), some (.int x1)] (q.1.toList ++ []) q.2) else none) (fun f => rfl) ?_
  refine OkF.grd (fun _ => ?_)
  refine OkF.bind (w1 := wV) (om190 (d + 1) x0 S) (fun q1 => ?_)
  refine OkF.eq 2 (Y := fun f => if oc q1 x0 12 = true then rk px kx f (d + 3) 196 8 [some (.ref x0), some (.int x1)] (va_rf (q1.2.2.2.1 x0 8) :: []) q1 else none) (fun f => rfl) ?_
  refine OkF.grd (fun _ => ?_)
  refine OkF.rf (fun a2 => ?_)
  refine OkF.eq 4 (Y := fun f => if oc q1 x0 12 = true then (rk px kx f (d + 2) 184 0 [some (.ref x0), some (.int x1)] [] q1).bind (fun q => rk px kx f (d + 3) 196 14 [some (.ref x0), some (.int x1)] (q.1.toList ++ [.int (0 : Int32), .ref a2]) q.2) else none) (fun f => rfl) ?_
  refine OkF.grd (fun _ => ?_)
  refine OkF.bind (w1 := wI) (om184 (d + 0) x0 x1 q1) (fun q3 => ?_)
  refine OkF.eq 1 (Y := fun f => if inb (0 : Int32) (aw q3.2 1 a2) = true then rk px kx f (d + 3) 196 15 [some (.ref x0), some (.int x1)] [] (sI q3.2 a2 (0 : Int32).toNatClampNeg q3.1) else none) (fun f => rfl) ?_
  refine OkF.grd (fun _ => ?_)
  refine OkF.nm (fun S4 => ?_)
  refine OkF.eq 2 (Y := fun f => if oc S4 x0 12 = true then rk px kx f (d + 3) 196 19 [some (.ref x0), some (.int x1)] (va_rf (S4.2.2.2.1 x0 8) :: []) S4 else none) (fun f => rfl) ?_
  refine OkF.grd (fun _ => ?_)
  refine OkF.rf (fun a5 => ?_)
  refine OkF.eq 3 (Y := fun f => if inb (1 : Int32) (al S4 a5) = true then rk px kx f (d + 3) 196 22 [some (.ref x0), some (.int x1)] [.int (S4.2.1 a5 (1 : Int32).toNatClampNeg), .int (1 : Int32), .ref a5] S4 else none) (fun f => rfl) ?_
  refine OkF.grd (fun _ => ?_)
  refine OkF.eq 3 (Y := fun f => if oc S4 x0 12 = true then (rk px kx f (d + 2) 179 0 [some (.ref x0), some (.int x1)] [] S4).bind (fun q => rk px kx f (d + 3) 196 27 [some (.ref x0), some (.int x1)] (q.1.toList ++ [.int (S4.2.1 a5 (1 : Int32).toNatClampNeg), .int (1 : Int32), .ref a5]) q.2) else none) (fun f => rfl) ?_
  refine OkF.grd (fun _ => ?_)
  refine OkF.bind (w1 := wI) (om179 (d + 2) x0 x1 S4) (fun q6 => ?_)
  refine OkF.eq 2 (Y := fun f => if inb (1 : Int32) (aw q6.2 1 a5) = true then rk px kx f (d + 3) 196 29 [some (.ref x0), some (.int x1)] [] (sI q6.2 a5 (1 : Int32).toNatClampNeg ((S4.2.1 a5 (1 : Int32).toNatClampNeg) + q6.1)) else none) (fun f => rfl) ?_
  refine OkF.grd (fun _ => ?_)
  refine OkF.nm (fun S7 => ?_)
  exact OkF.ret 1 (fun f => rfl)
-- DoorSoldModel.go(I)I
def m194 (x0 : Nat) (x1 : Int32) (S : Sx) : Option (Int32 × Sx) :=
  if oc S x0 12 = true then (m171 x0 x1 S).bind fun q1 => if q1.1 = 0 then some ((-1 : Int32), q1.2) else if oc q1.2 x0 12 = true then (m195 x0 x1 q1.2).bind fun q2 => if q2.1 = 0 then some ((-4 : Int32), q2.2) else if oc q2.2 x0 12 = true then if (q2.2.2.1 x0 9) = (40 : Int32) then some ((-2 : Int32), q2.2) else if oc q2.2 x0 12 = true then (m196 x0 x1 q2.2).bind fun q3 => if oc q3 x0 12 = true then (q3.2.2.2.1 x0 8).bind fun a4 => if inb (0 : Int32) (al q3 a4) = true then some (q3.2.1 a4 (0 : Int32).toNatClampNeg, q3) else none else none else none else none else none else none
set_option maxRecDepth 100000 in
theorem om194 (d : Nat) (x0 : Nat) (x1 : Int32) (S : Sx) : OkF wI (fun f => rk px kx f (d + 4) 194 0 [some (.ref x0), some (.int x1)] [] S) (m194 x0 x1 S) := by
  unfold m194
  refine OkF.eq 3 (Y := fun f => if oc S x0 12 = true then (rk px kx f (d + 3) 171 0 [some (.ref x0), some (.int x1)] [] S).bind (fun q => rk px kx f (d + 4) 194 5 [some (.ref x0), some (.int x1)] (q.1.toList ++ []) q.2) else none) (fun f => rfl) ?_
  refine OkF.grd (fun _ => ?_)
  refine OkF.bind (w1 := wI) (om171 (d + 2) x0 x1 S) (fun q1 => ?_)
  refine OkF.eq 1 (Y := fun f => if q1.1 = 0 then rk px kx f (d + 4) 194 8 [some (.ref x0), some (.int x1)] [] q1.2 else rk px kx f (d + 4) 194 10 [some (.ref x0), some (.int x1)] [] q1.2) (fun f => rfl) ?_
  refine OkF.ite (fun _ => ?_) (fun _ => ?_)
  · exact OkF.ret 2 (fun f => rfl)
  · refine OkF.eq 3 (Y := fun f => if oc q1.2 x0 12 = true then (rk px kx f (d + 3) 195 0 [some (.ref x0), some (.int x1)] [] q1.2).bind (fun q => rk px kx f (d + 4) 194 15 [some (.ref x0), some (.int x1)] (q.1.toList ++ []) q.2) else none) (fun f => rfl) ?_
    refine OkF.grd (fun _ => ?_)
    refine OkF.bind (w1 := wI) (om195 (d + 0) x0 x1 q1.2) (fun q2 => ?_)
    refine OkF.eq 1 (Y := fun f => if q2.1 = 0 then rk px kx f (d + 4) 194 18 [some (.ref x0), some (.int x1)] [] q2.2 else rk px kx f (d + 4) 194 21 [some (.ref x0), some (.int x1)] [] q2.2) (fun f => rfl) ?_
    refine OkF.ite (fun _ => ?_) (fun _ => ?_)
    · exact OkF.ret 2 (fun f => rfl)
    · refine OkF.eq 2 (Y := fun f => if oc q2.2 x0 12 = true then rk px kx f (d + 4) 194 25 [some (.ref x0), some (.int x1)] [.int (q2.2.2.1 x0 9)] q2.2 else none) (fun f => rfl) ?_
      refine OkF.grd (fun _ => ?_)
      refine OkF.eq 2 (Y := fun f => if (q2.2.2.1 x0 9) = (40 : Int32) then rk px kx f (d + 4) 194 30 [some (.ref x0), some (.int x1)] [] q2.2 else rk px kx f (d + 4) 194 33 [some (.ref x0), some (.int x1)] [] q2.2) (fun f => rfl) ?_
      refine OkF.ite (fun _ => ?_) (fun _ => ?_)
      · exact OkF.ret 2 (fun f => rfl)
      · refine OkF.eq 3 (Y := fun f => if oc q2.2 x0 12 = true then (rk px kx f (d + 3) 196 0 [some (.ref x0), some (.int x1)] [] q2.2).bind (fun q => rk px kx f (d + 4) 194 38 [some (.ref x0), some (.int x1)] (q.1.toList ++ []) q.2) else none) (fun f => rfl) ?_
        refine OkF.grd (fun _ => ?_)
        refine OkF.bind (w1 := wV) (om196 (d + 0) x0 x1 q2.2) (fun q3 => ?_)
        refine OkF.eq 2 (Y := fun f => if oc q3 x0 12 = true then rk px kx f (d + 4) 194 42 [some (.ref x0), some (.int x1)] (va_rf (q3.2.2.2.1 x0 8) :: []) q3 else none) (fun f => rfl) ?_
        refine OkF.grd (fun _ => ?_)
        refine OkF.rf (fun a4 => ?_)
        refine OkF.eq 2 (Y := fun f => if inb (0 : Int32) (al q3 a4) = true then rk px kx f (d + 4) 194 44 [some (.ref x0), some (.int x1)] [.int (q3.2.1 a4 (0 : Int32).toNatClampNeg)] q3 else none) (fun f => rfl) ?_
        refine OkF.grd (fun _ => ?_)
        exact OkF.ret 1 (fun f => rfl)
-- DoorSoldModel.buy(I)I
def m197 (x0 : Nat) (x1 : Int32) (S : Sx) : Option (Int32 × Sx) :=
  if oc S x0 12 = true then (m171 x0 x1 S).bind fun q1 => if q1.1 = 0 then some ((-1 : Int32), q1.2) else if oc q1.2 x0 12 = true then (q1.2.2.2.2.1 x0 8).bind fun a2 => if inb (3 : Int32) (al q1.2 a2) = true then (m180 (q1.2.2.1 a2 (3 : Int32).toNatClampNeg) x1 q1.2).bind fun q3 => if q3.1 = 0 then if oc q3.2 x0 12 = true then (m173 x0 x1 q3.2).bind fun q4 => if oc q4.2 x0 12 = true then (q4.2.2.2.2.1 x0 8).bind fun a5 => if inb (2 : Int32) (al q4.2 a5) = true then if q4.1 ≤ (q4.2.2.1 a5 (2 : Int32).toNatClampNeg) then if oc q4.2 x0 12 = true then if (q4.2.2.1 x0 9) = (40 : Int32) then some ((-2 : Int32), q4.2) else if oc q4.2 x0 12 = true then (m190 x0 q4.2).bind fun q6 => if oc q6 x0 12 = true then (q6.2.2.2.1 x0 8).bind fun a7 => if inb (3 : Int32) (al q6 a7) = true then if inb (3 : Int32) (aw q6 1 a7) = true then lt (sI q6 a7 (3 : Int32).toNatClampNeg ((q6.2.1 a7 (3 : Int32).toNatClampNeg) ||| ((1 : Int32) <<< (x1 &&& 31)))) fun S8 => if oc S8 x0 12 = true then (S8.2.2.2.1 x0 8).bind fun a9 => if inb (2 : Int32) (al S8 a9) = true then if oc S8 x0 12 = true then (m173 x0 x1 S8).bind fun q10 => if inb (2 : Int32) (aw q10.2 1 a9) = true then lt (sI q10.2 a9 (2 : Int32).toNatClampNeg ((S8.2.1 a9 (2 : Int32).toNatClampNeg) - q10.1)) fun S11 => if oc S11 x0 12 = true then (S11.2.2.2.1 x0 8).bind fun a12 => if inb (2 : Int32) (al S11 a12) = true then some (S11.2.1 a12 (2 : Int32).toNatClampNeg, S11) else none else none else none else none else none else none else none else none else none else none else none else some ((-6 : Int32), q4.2) else none else none else none else some ((-4 : Int32), q3.2) else none else none else none
set_option maxRecDepth 100000 in
theorem om197 (d : Nat) (x0 : Nat) (x1 : Int32) (S : Sx) : OkF wI (fun f => rk px kx f (d + 2) 197 0 [some (.ref x0), some (.int x1)] [] S) (m197 x0 x1 S) := by
  unfold m197
  refine OkF.eq 3 (Y := fun f => if oc S x0 12 = true then (rk px kx f (d + 1) 171 0 [some (.ref x0), some (.int x1)] [] S).bind (fun q => rk px kx f (d + 2) 197 5 [some (.ref x0), some (.int x1)] (q.1.toList ++ []) q.2) else none) (fun f => rfl) ?_
  refine OkF.grd (fun _ => ?_)
  refine OkF.bind (w1 := wI) (om171 (d + 0) x0 x1 S) (fun q1 => ?_)
  refine OkF.eq 1 (Y := fun f => if q1.1 = 0 then rk px kx f (d + 2) 197 8 [some (.ref x0), some (.int x1)] [] q1.2 else rk px kx f (d + 2) 197 10 [some (.ref x0), some (.int x1)] [] q1.2) (fun f => rfl) ?_
  refine OkF.ite (fun _ => ?_) (fun _ => ?_)
  · exact OkF.ret 2 (fun f => rfl)
  · refine OkF.eq 2 (Y := fun f => if oc q1.2 x0 12 = true then rk px kx f (d + 2) 197 14 [some (.ref x0), some (.int x1)] (va_rf (q1.2.2.2.2.1 x0 8) :: []) q1.2 else none) (fun f => rfl) ?_
    refine OkF.grd (fun _ => ?_)
    refine OkF.rf (fun a2 => ?_)
    refine OkF.eq 2 (Y := fun f => if inb (3 : Int32) (al q1.2 a2) = true then rk px kx f (d + 2) 197 16 [some (.ref x0), some (.int x1)] [.int (q1.2.2.1 a2 (3 : Int32).toNatClampNeg)] q1.2 else none) (fun f => rfl) ?_
    refine OkF.grd (fun _ => ?_)
    refine OkF.eq 2 (Y := fun f => (rk px kx f (d + 1) 180 0 [some (.int (q1.2.2.1 a2 (3 : Int32).toNatClampNeg)), some (.int x1)] [] q1.2).bind (fun q => rk px kx f (d + 2) 197 20 [some (.ref x0), some (.int x1)] (q.1.toList ++ []) q.2)) (fun f => rfl) ?_
    refine OkF.bind (w1 := wI) (om180 (d + 1) (q1.2.2.1 a2 (3 : Int32).toNatClampNeg) x1 q1.2) (fun q3 => ?_)
    refine OkF.eq 1 (Y := fun f => if q3.1 = 0 then rk px kx f (d + 2) 197 26 [some (.ref x0), some (.int x1)] [] q3.2 else rk px kx f (d + 2) 197 23 [some (.ref x0), some (.int x1)] [] q3.2) (fun f => rfl) ?_
    refine OkF.ite (fun _ => ?_) (fun _ => ?_)
    · refine OkF.eq 3 (Y := fun f => if oc q3.2 x0 12 = true then (rk px kx f (d + 1) 173 0 [some (.ref x0), some (.int x1)] [] q3.2).bind (fun q => rk px kx f (d + 2) 197 31 [some (.ref x0), some (.int x1)] (q.1.toList ++ []) q.2) else none) (fun f => rfl) ?_
      refine OkF.grd (fun _ => ?_)
      refine OkF.bind (w1 := wI) (om173 (d + 1) x0 x1 q3.2) (fun q4 => ?_)
      refine OkF.eq 2 (Y := fun f => if oc q4.2 x0 12 = true then rk px kx f (d + 2) 197 35 [some (.ref x0), some (.int x1)] (va_rf (q4.2.2.2.2.1 x0 8) :: [.int q4.1]) q4.2 else none) (fun f => rfl) ?_
      refine OkF.grd (fun _ => ?_)
      refine OkF.rf (fun a5 => ?_)
      refine OkF.eq 2 (Y := fun f => if inb (2 : Int32) (al q4.2 a5) = true then rk px kx f (d + 2) 197 37 [some (.ref x0), some (.int x1)] [.int (q4.2.2.1 a5 (2 : Int32).toNatClampNeg), .int q4.1] q4.2 else none) (fun f => rfl) ?_
      refine OkF.grd (fun _ => ?_)
      refine OkF.eq 1 (Y := fun f => if q4.1 ≤ (q4.2.2.1 a5 (2 : Int32).toNatClampNeg) then rk px kx f (d + 2) 197 43 [some (.ref x0), some (.int x1)] [] q4.2 else rk px kx f (d + 2) 197 40 [some (.ref x0), some (.int x1)] [] q4.2) (fun f => rfl) ?_
      refine OkF.ite (fun _ => ?_) (fun _ => ?_)
      · refine OkF.eq 2 (Y := fun f => if oc q4.2 x0 12 = true then rk px kx f (d + 2) 197 47 [some (.ref x0), some (.int x1)] [.int (q4.2.2.1 x0 9)] q4.2 else none) (fun f => rfl) ?_
        refine OkF.grd (fun _ => ?_)
        refine OkF.eq 2 (Y := fun f => if (q4.2.2.1 x0 9) = (40 : Int32) then rk px kx f (d + 2) 197 52 [some (.ref x0), some (.int x1)] [] q4.2 else rk px kx f (d + 2) 197 55 [some (.ref x0), some (.int x1)] [] q4.2) (fun f => rfl) ?_
        refine OkF.ite (fun _ => ?_) (fun _ => ?_)
        · exact OkF.ret 2 (fun f => rfl)
        · refine OkF.eq 2 (Y := fun f => if oc q4.2 x0 12 = true then (rk px kx f (d + 1) 190 0 [some (.ref x0)] [] q4.2).bind (fun q => rk px kx f (d + 2) 197 59 [some (.ref x0), some (.int x1)] (q.1.toList ++ []) q.2) else none) (fun f => rfl) ?_
          refine OkF.grd (fun _ => ?_)
          refine OkF.bind (w1 := wV) (om190 (d + 0) x0 q4.2) (fun q6 => ?_)
          refine OkF.eq 2 (Y := fun f => if oc q6 x0 12 = true then rk px kx f (d + 2) 197 63 [some (.ref x0), some (.int x1)] (va_rf (q6.2.2.2.1 x0 8) :: []) q6 else none) (fun f => rfl) ?_
          refine OkF.grd (fun _ => ?_)
          refine OkF.rf (fun a7 => ?_)
          refine OkF.eq 3 (Y := fun f => if inb (3 : Int32) (al q6 a7) = true then rk px kx f (d + 2) 197 66 [some (.ref x0), some (.int x1)] [.int (q6.2.1 a7 (3 : Int32).toNatClampNeg), .int (3 : Int32), .ref a7] q6 else none) (fun f => rfl) ?_
          refine OkF.grd (fun _ => ?_)
          refine OkF.eq 5 (Y := fun f => if inb (3 : Int32) (aw q6 1 a7) = true then rk px kx f (d + 2) 197 71 [some (.ref x0), some (.int x1)] [] (sI q6 a7 (3 : Int32).toNatClampNeg ((q6.2.1 a7 (3 : Int32).toNatClampNeg) ||| ((1 : Int32) <<< (x1 &&& 31)))) else none) (fun f => rfl) ?_
          refine OkF.grd (fun _ => ?_)
          refine OkF.nm (fun S8 => ?_)
          refine OkF.eq 2 (Y := fun f => if oc S8 x0 12 = true then rk px kx f (d + 2) 197 75 [some (.ref x0), some (.int x1)] (va_rf (S8.2.2.2.1 x0 8) :: []) S8 else none) (fun f => rfl) ?_
          refine OkF.grd (fun _ => ?_)
          refine OkF.rf (fun a9 => ?_)
          refine OkF.eq 3 (Y := fun f => if inb (2 : Int32) (al S8 a9) = true then rk px kx f (d + 2) 197 78 [some (.ref x0), some (.int x1)] [.int (S8.2.1 a9 (2 : Int32).toNatClampNeg), .int (2 : Int32), .ref a9] S8 else none) (fun f => rfl) ?_
          refine OkF.grd (fun _ => ?_)
          refine OkF.eq 3 (Y := fun f => if oc S8 x0 12 = true then (rk px kx f (d + 1) 173 0 [some (.ref x0), some (.int x1)] [] S8).bind (fun q => rk px kx f (d + 2) 197 83 [some (.ref x0), some (.int x1)] (q.1.toList ++ [.int (S8.2.1 a9 (2 : Int32).toNatClampNeg), .int (2 : Int32), .ref a9]) q.2) else none) (fun f => rfl) ?_
          refine OkF.grd (fun _ => ?_)
          refine OkF.bind (w1 := wI) (om173 (d + 1) x0 x1 S8) (fun q10 => ?_)
          refine OkF.eq 2 (Y := fun f => if inb (2 : Int32) (aw q10.2 1 a9) = true then rk px kx f (d + 2) 197 85 [some (.ref x0), some (.int x1)] [] (sI q10.2 a9 (2 : Int32).toNatClampNeg ((S8.2.1 a9 (2 : Int32).toNatClampNeg) - q10.1)) else none) (fun f => rfl) ?_
          refine OkF.grd (fun _ => ?_)
          refine OkF.nm (fun S11 => ?_)
          refine OkF.eq 2 (Y := fun f => if oc S11 x0 12 = true then rk px kx f (d + 2) 197 89 [some (.ref x0), some (.int x1)] (va_rf (S11.2.2.2.1 x0 8) :: []) S11 else none) (fun f => rfl) ?_
          refine OkF.grd (fun _ => ?_)
          refine OkF.rf (fun a12 => ?_)
          refine OkF.eq 2 (Y := fun f => if inb (2 : Int32) (al S11 a12) = true then rk px kx f (d + 2) 197 91 [some (.ref x0), some (.int x1)] [.int (S11.2.1 a12 (2 : Int32).toNatClampNeg)] S11 else none) (fun f => rfl) ?_
          refine OkF.grd (fun _ => ?_)
          exact OkF.ret 1 (fun f => rfl)
      · exact OkF.ret 2 (fun f => rfl)
    · exact OkF.ret 2 (fun f => rfl)
-- DoorSoldModel.sell(I)I
def m198 (x0 : Nat) (x1 : Int32) (S : Sx) : Option (Int32 × Sx) :=
  if oc S x0 12 = true then (m171 x0 x1 S).bind fun q1 => if q1.1 = 0 then some ((-1 : Int32), q1.2) else if oc q1.2 x0 12 = true then (q1.2.2.2.2.1 x0 8).bind fun a2 => if inb (3 : Int32) (al q1.2 a2) = true then (m180 (q1.2.2.1 a2 (3 : Int32).toNatClampNeg) x1 q1.2).bind fun q3 => if q3.1 = 0 then some ((-4 : Int32), q3.2) else if oc q3.2 x0 12 = true then if (q3.2.2.1 x0 9) = (40 : Int32) then some ((-2 : Int32), q3.2) else if oc q3.2 x0 12 = true then (m190 x0 q3.2).bind fun q4 => if oc q4 x0 12 = true then (q4.2.2.2.1 x0 8).bind fun a5 => if inb (3 : Int32) (al q4 a5) = true then if inb (3 : Int32) (aw q4 1 a5) = true then lt (sI q4 a5 (3 : Int32).toNatClampNeg ((q4.2.1 a5 (3 : Int32).toNatClampNeg) &&& (((1 : Int32) <<< (x1 &&& 31)) ^^^ (-1 : Int32)))) fun S6 => if oc S6 x0 12 = true then (S6.2.2.2.1 x0 8).bind fun a7 => if inb (2 : Int32) (al S6 a7) = true then if oc S6 x0 12 = true then (m173 x0 x1 S6).bind fun q8 => if (2 : Int32) = 0 then none else if inb (2 : Int32) (aw q8.2 1 a7) = true then lt (sI q8.2 a7 (2 : Int32).toNatClampNeg ((S6.2.1 a7 (2 : Int32).toNatClampNeg) + (q8.1 / (2 : Int32)))) fun S9 => if oc S9 x0 12 = true then (S9.2.2.2.1 x0 8).bind fun a10 => if inb (2 : Int32) (al S9 a10) = true then some (S9.2.1 a10 (2 : Int32).toNatClampNeg, S9) else none else none else none else none else none else none else none else none else none else none else none else none else none else none
set_option maxRecDepth 100000 in
theorem om198 (d : Nat) (x0 : Nat) (x1 : Int32) (S : Sx) : OkF wI (fun f => rk px kx f (d + 2) 198 0 [some (.ref x0), some (.int x1)] [] S) (m198 x0 x1 S) := by
  unfold m198
  refine OkF.eq 3 (Y := fun f => if oc S x0 12 = true then (rk px kx f (d + 1) 171 0 [some (.ref x0), some (.int x1)] [] S).bind (fun q => rk px kx f (d + 2) 198 5 [some (.ref x0), some (.int x1)] (q.1.toList ++ []) q.2) else none) (fun f => rfl) ?_
  refine OkF.grd (fun _ => ?_)
  refine OkF.bind (w1 := wI) (om171 (d + 0) x0 x1 S) (fun q1 => ?_)
  refine OkF.eq 1 (Y := fun f => if q1.1 = 0 then rk px kx f (d + 2) 198 8 [some (.ref x0), some (.int x1)] [] q1.2 else rk px kx f (d + 2) 198 10 [some (.ref x0), some (.int x1)] [] q1.2) (fun f => rfl) ?_
  refine OkF.ite (fun _ => ?_) (fun _ => ?_)
  · exact OkF.ret 2 (fun f => rfl)
  · refine OkF.eq 2 (Y := fun f => if oc q1.2 x0 12 = true then rk px kx f (d + 2) 198 14 [some (.ref x0), some (.int x1)] (va_rf (q1.2.2.2.2.1 x0 8) :: []) q1.2 else none) (fun f => rfl) ?_
    refine OkF.grd (fun _ => ?_)
    refine OkF.rf (fun a2 => ?_)
    refine OkF.eq 2 (Y := fun f => if inb (3 : Int32) (al q1.2 a2) = true then rk px kx f (d + 2) 198 16 [some (.ref x0), some (.int x1)] [.int (q1.2.2.1 a2 (3 : Int32).toNatClampNeg)] q1.2 else none) (fun f => rfl) ?_
    refine OkF.grd (fun _ => ?_)
    refine OkF.eq 2 (Y := fun f => (rk px kx f (d + 1) 180 0 [some (.int (q1.2.2.1 a2 (3 : Int32).toNatClampNeg)), some (.int x1)] [] q1.2).bind (fun q => rk px kx f (d + 2) 198 20 [some (.ref x0), some (.int x1)] (q.1.toList ++ []) q.2)) (fun f => rfl) ?_
    refine OkF.bind (w1 := wI) (om180 (d + 1) (q1.2.2.1 a2 (3 : Int32).toNatClampNeg) x1 q1.2) (fun q3 => ?_)
    refine OkF.eq 1 (Y := fun f => if q3.1 = 0 then rk px kx f (d + 2) 198 23 [some (.ref x0), some (.int x1)] [] q3.2 else rk px kx f (d + 2) 198 26 [some (.ref x0), some (.int x1)] [] q3.2) (fun f => rfl) ?_
    refine OkF.ite (fun _ => ?_) (fun _ => ?_)
    · exact OkF.ret 2 (fun f => rfl)
    · refine OkF.eq 2 (Y := fun f => if oc q3.2 x0 12 = true then rk px kx f (d + 2) 198 30 [some (.ref x0), some (.int x1)] [.int (q3.2.2.1 x0 9)] q3.2 else none) (fun f => rfl) ?_
      refine OkF.grd (fun _ => ?_)
      refine OkF.eq 2 (Y := fun f => if (q3.2.2.1 x0 9) = (40 : Int32) then rk px kx f (d + 2) 198 35 [some (.ref x0), some (.int x1)] [] q3.2 else rk px kx f (d + 2) 198 38 [some (.ref x0), some (.int x1)] [] q3.2) (fun f => rfl) ?_
      refine OkF.ite (fun _ => ?_) (fun _ => ?_)
      · exact OkF.ret 2 (fun f => rfl)
      · refine OkF.eq 2 (Y := fun f => if oc q3.2 x0 12 = true then (rk px kx f (d + 1) 190 0 [some (.ref x0)] [] q3.2).bind (fun q => rk px kx f (d + 2) 198 42 [some (.ref x0), some (.int x1)] (q.1.toList ++ []) q.2) else none) (fun f => rfl) ?_
        refine OkF.grd (fun _ => ?_)
        refine OkF.bind (w1 := wV) (om190 (d + 0) x0 q3.2) (fun q4 => ?_)
        refine OkF.eq 2 (Y := fun f => if oc q4 x0 12 = true then rk px kx f (d + 2) 198 46 [some (.ref x0), some (.int x1)] (va_rf (q4.2.2.2.1 x0 8) :: []) q4 else none) (fun f => rfl) ?_
        refine OkF.grd (fun _ => ?_)
        refine OkF.rf (fun a5 => ?_)
        refine OkF.eq 3 (Y := fun f => if inb (3 : Int32) (al q4 a5) = true then rk px kx f (d + 2) 198 49 [some (.ref x0), some (.int x1)] [.int (q4.2.1 a5 (3 : Int32).toNatClampNeg), .int (3 : Int32), .ref a5] q4 else none) (fun f => rfl) ?_
        refine OkF.grd (fun _ => ?_)
        refine OkF.eq 7 (Y := fun f => if inb (3 : Int32) (aw q4 1 a5) = true then rk px kx f (d + 2) 198 56 [some (.ref x0), some (.int x1)] [] (sI q4 a5 (3 : Int32).toNatClampNeg ((q4.2.1 a5 (3 : Int32).toNatClampNeg) &&& (((1 : Int32) <<< (x1 &&& 31)) ^^^ (-1 : Int32)))) else none) (fun f => rfl) ?_
        refine OkF.grd (fun _ => ?_)
        refine OkF.nm (fun S6 => ?_)
        refine OkF.eq 2 (Y := fun f => if oc S6 x0 12 = true then rk px kx f (d + 2) 198 60 [some (.ref x0), some (.int x1)] (va_rf (S6.2.2.2.1 x0 8) :: []) S6 else none) (fun f => rfl) ?_
        refine OkF.grd (fun _ => ?_)
        refine OkF.rf (fun a7 => ?_)
        refine OkF.eq 3 (Y := fun f => if inb (2 : Int32) (al S6 a7) = true then rk px kx f (d + 2) 198 63 [some (.ref x0), some (.int x1)] [.int (S6.2.1 a7 (2 : Int32).toNatClampNeg), .int (2 : Int32), .ref a7] S6 else none) (fun f => rfl) ?_
        refine OkF.grd (fun _ => ?_)
        refine OkF.eq 3 (Y := fun f => if oc S6 x0 12 = true then (rk px kx f (d + 1) 173 0 [some (.ref x0), some (.int x1)] [] S6).bind (fun q => rk px kx f (d + 2) 198 68 [some (.ref x0), some (.int x1)] (q.1.toList ++ [.int (S6.2.1 a7 (2 : Int32).toNatClampNeg), .int (2 : Int32), .ref a7]) q.2) else none) (fun f => rfl) ?_
        refine OkF.grd (fun _ => ?_)
        refine OkF.bind (w1 := wI) (om173 (d + 1) x0 x1 S6) (fun q8 => ?_)
        refine OkF.eq 2 (Y := fun f => if (2 : Int32) = 0 then none else rk px kx f (d + 2) 198 70 [some (.ref x0), some (.int x1)] [.int (q8.1 / (2 : Int32)), .int (S6.2.1 a7 (2 : Int32).toNatClampNeg), .int (2 : Int32), .ref a7] q8.2) (fun f => rfl) ?_
        refine OkF.ngr (fun _ => ?_)
        refine OkF.eq 2 (Y := fun f => if inb (2 : Int32) (aw q8.2 1 a7) = true then rk px kx f (d + 2) 198 72 [some (.ref x0), some (.int x1)] [] (sI q8.2 a7 (2 : Int32).toNatClampNeg ((S6.2.1 a7 (2 : Int32).toNatClampNeg) + (q8.1 / (2 : Int32)))) else none) (fun f => rfl) ?_
        refine OkF.grd (fun _ => ?_)
        refine OkF.nm (fun S9 => ?_)
        refine OkF.eq 2 (Y := fun f => if oc S9 x0 12 = true then rk px kx f (d + 2) 198 76 [some (.ref x0), some (.int x1)] (va_rf (S9.2.2.2.1 x0 8) :: []) S9 else none) (fun f => rfl) ?_
        refine OkF.grd (fun _ => ?_)
        refine OkF.rf (fun a10 => ?_)
        refine OkF.eq 2 (Y := fun f => if inb (2 : Int32) (al S9 a10) = true then rk px kx f (d + 2) 198 78 [some (.ref x0), some (.int x1)] [.int (S9.2.1 a10 (2 : Int32).toNatClampNeg)] S9 else none) (fun f => rfl) ?_
        refine OkF.grd (fun _ => ?_)
        exact OkF.ret 1 (fun f => rfl)
-- DoorSoldModel.set(I)I
def b199_140 (x0 : Nat) (x1 : Int32) (S : Sx) : Option (Int32 × Sx) :=
  if oc S x0 12 = true then (S.2.2.2.1 x0 8).bind fun a1 => if inb ((4 : Int32) + x1) (al S a1) = true then some (S.2.1 a1 ((4 : Int32) + x1).toNatClampNeg, S) else none else none
set_option maxRecDepth 100000 in
theorem ob199_140 (d : Nat) (x0 : Nat) (x1 : Int32) (S : Sx) : OkF wI (fun f => rk px kx f (d + 3) 199 140 [some (.ref x0), some (.int x1)] [] S) (b199_140 x0 x1 S) := by
  unfold b199_140
  refine OkF.eq 2 (Y := fun f => if oc S x0 12 = true then rk px kx f (d + 3) 199 144 [some (.ref x0), some (.int x1)] (va_rf (S.2.2.2.1 x0 8) :: []) S else none) (fun f => rfl) ?_
  refine OkF.grd (fun _ => ?_)
  refine OkF.rf (fun a1 => ?_)
  refine OkF.eq 4 (Y := fun f => if inb ((4 : Int32) + x1) (al S a1) = true then rk px kx f (d + 3) 199 148 [some (.ref x0), some (.int x1)] [.int (S.2.1 a1 ((4 : Int32) + x1).toNatClampNeg)] S else none) (fun f => rfl) ?_
  refine OkF.grd (fun _ => ?_)
  exact OkF.ret 1 (fun f => rfl)
def b199_139 (x0 : Nat) (x1 : Int32) (s0 : Nat) (s1 : Int32) (s2 : Int32) (S : Sx) : Option (Int32 × Sx) :=
  if inb s1 (aw S 1 s0) = true then lt (sI S s0 s1.toNatClampNeg s2) fun S2 => b199_140 x0 x1 S2 else none
set_option maxRecDepth 100000 in
theorem ob199_139 (d : Nat) (x0 : Nat) (x1 : Int32) (s0 : Nat) (s1 : Int32) (s2 : Int32) (S : Sx) : OkF wI (fun f => rk px kx f (d + 3) 199 139 [some (.ref x0), some (.int x1)] [.int s2, .int s1, .ref s0] S) (b199_139 x0 x1 s0 s1 s2 S) := by
  unfold b199_139
  refine OkF.eq 1 (Y := fun f => if inb s1 (aw S 1 s0) = true then rk px kx f (d + 3) 199 140 [some (.ref x0), some (.int x1)] [] (sI S s0 s1.toNatClampNeg s2) else none) (fun f => rfl) ?_
  refine OkF.grd (fun _ => ?_)
  refine OkF.nm (fun S2 => ?_)
  exact OkF.kl (ls1 := [some (.ref x0), some (.int x1)]) (fun f => rfl) (ob199_140 d x0 x1 S2)
def m199 (x0 : Nat) (x1 : Int32) (S : Sx) : Option (Int32 × Sx) :=
  if oc S x0 12 = true then (m171 x0 x1 S).bind fun q3 => if q3.1 = 0 then some ((-1 : Int32), q3.2) else if oc q3.2 x0 12 = true then (q3.2.2.2.2.1 x0 8).bind fun a4 => if inb (3 : Int32) (al q3.2 a4) = true then (m180 (q3.2.2.1 a4 (3 : Int32).toNatClampNeg) x1 q3.2).bind fun q5 => if q5.1 = 0 then some ((-4 : Int32), q5.2) else if oc q5.2 x0 12 = true then (q5.2.2.2.2.1 x0 8).bind fun a6 => if inb (1 : Int32) (al q5.2 a6) = true then if oc q5.2 x0 12 = true then (m174 x0 x1 (q5.2.2.1 a6 (1 : Int32).toNatClampNeg) q5.2).bind fun q7 => if oc q7.2 x0 12 = true then (q7.2.2.2.2.1 x0 8).bind fun a8 => if inb (0 : Int32) (al q7.2 a8) = true then if q7.1 = (q7.2.2.1 a8 (0 : Int32).toNatClampNeg) then some ((-4 : Int32), q7.2) else if oc q7.2 x0 12 = true then if (q7.2.2.1 x0 9) = (40 : Int32) then some ((-2 : Int32), q7.2) else if oc q7.2 x0 12 = true then (m190 x0 q7.2).bind fun q9 => if oc q9 x0 12 = true then (q9.2.2.2.1 x0 6).bind fun a10 => if inb x1 (al q9 a10) = true then (m176 (q9.2.1 a10 x1.toNatClampNeg) q9).bind fun q11 => if q11.1 = 0 then if oc q11.2 x0 12 = true then (q11.2.2.2.2.1 x0 8).bind fun a12 => if oc q11.2 x0 12 = true then (q11.2.2.2.2.1 x0 6).bind fun a13 => if inb x1 (al q11.2 a13) = true then if (q11.2.2.1 a13 x1.toNatClampNeg) = (5 : Int32) then if oc q11.2 x0 12 = true then (q11.2.2.2.2.1 x0 8).bind fun a14 => if inb (1 : Int32) (al q11.2 a14) = true then if oc q11.2 x0 12 = true then if (q11.2.2.1 x0 5) = 0 then none else if oc q11.2 x0 12 = true then (q11.2.2.2.2.1 x0 8).bind fun a15 => if inb (0 : Int32) (al q11.2 a15) = true then if oc q11.2 x0 12 = true then (m186 x0 ((q11.2.2.1 a14 (1 : Int32).toNatClampNeg) - (q11.2.2.1 a14 (1 : Int32).toNatClampNeg) / (q11.2.2.1 x0 5) * (q11.2.2.1 x0 5)) (q11.2.2.1 a15 (0 : Int32).toNatClampNeg) q11.2).bind fun q16 => b199_139 x0 x1 a12 ((4 : Int32) + x1) q16.1 q16.2 else none else none else none else none else none else none else if oc q11.2 x0 12 = true then (q11.2.2.2.2.1 x0 8).bind fun a17 => if inb (0 : Int32) (al q11.2 a17) = true then b199_139 x0 x1 a12 ((4 : Int32) + x1) (q11.2.2.1 a17 (0 : Int32).toNatClampNeg) q11.2 else none else none else none else none else none else if oc q11.2 x0 12 = true then (q11.2.2.2.2.1 x0 8).bind fun a18 => if oc q11.2 x0 12 = true then (q11.2.2.2.2.1 x0 8).bind fun a19 => if inb (0 : Int32) (al q11.2 a19) = true then if inb ((10 : Int32) + x1) (aw q11.2 1 a18) = true then lt (sI q11.2 a18 ((10 : Int32) + x1).toNatClampNeg (q11.2.2.1 a19 (0 : Int32).toNatClampNeg)) fun S20 => b199_140 x0 x1 S20 else none else none else none else none else none else none else none else none else none else none else none else none else none else none else none else none
set_option maxRecDepth 100000 in
theorem om199 (d : Nat) (x0 : Nat) (x1 : Int32) (S : Sx) : OkF wI (fun f => rk px kx f (d + 3) 199 0 [some (.ref x0), some (.int x1)] [] S) (m199 x0 x1 S) := by
  unfold m199
  refine OkF.eq 3 (Y := fun f => if oc S x0 12 = true then (rk px kx f (d + 2) 171 0 [some (.ref x0), some (.int x1)] [] S).bind (fun q => rk px kx f (d + 3) 199 5 [some (.ref x0), some (.int x1)] (q.1.toList ++ []) q.2) else none) (fun f => rfl) ?_
  refine OkF.grd (fun _ => ?_)
  refine OkF.bind (w1 := wI) (om171 (d + 1) x0 x1 S) (fun q3 => ?_)
  refine OkF.eq 1 (Y := fun f => if q3.1 = 0 then rk px kx f (d + 3) 199 8 [some (.ref x0), some (.int x1)] [] q3.2 else rk px kx f (d + 3) 199 10 [some (.ref x0), some (.int x1)] [] q3.2) (fun f => rfl) ?_
  refine OkF.ite (fun _ => ?_) (fun _ => ?_)
  · exact OkF.ret 2 (fun f => rfl)
  · refine OkF.eq 2 (Y := fun f => if oc q3.2 x0 12 = true then rk px kx f (d + 3) 199 14 [some (.ref x0), some (.int x1)] (va_rf (q3.2.2.2.2.1 x0 8) :: []) q3.2 else none) (fun f => rfl) ?_
    refine OkF.grd (fun _ => ?_)
    refine OkF.rf (fun a4 => ?_)
    refine OkF.eq 2 (Y := fun f => if inb (3 : Int32) (al q3.2 a4) = true then rk px kx f (d + 3) 199 16 [some (.ref x0), some (.int x1)] [.int (q3.2.2.1 a4 (3 : Int32).toNatClampNeg)] q3.2 else none) (fun f => rfl) ?_
    refine OkF.grd (fun _ => ?_)
    refine OkF.eq 2 (Y := fun f => (rk px kx f (d + 2) 180 0 [some (.int (q3.2.2.1 a4 (3 : Int32).toNatClampNeg)), some (.int x1)] [] q3.2).bind (fun q => rk px kx f (d + 3) 199 20 [some (.ref x0), some (.int x1)] (q.1.toList ++ []) q.2)) (fun f => rfl) ?_
    refine OkF.bind (w1 := wI) (om180 (d + 2) (q3.2.2.1 a4 (3 : Int32).toNatClampNeg) x1 q3.2) (fun q5 => ?_)
    refine OkF.eq 1 (Y := fun f => if q5.1 = 0 then rk px kx f (d + 3) 199 43 [some (.ref x0), some (.int x1)] [] q5.2 else rk px kx f (d + 3) 199 23 [some (.ref x0), some (.int x1)] [] q5.2) (fun f => rfl) ?_
    refine OkF.ite (fun _ => ?_) (fun _ => ?_)
    · exact OkF.ret 2 (fun f => rfl)
    · refine OkF.eq 4 (Y := fun f => if oc q5.2 x0 12 = true then rk px kx f (d + 3) 199 29 [some (.ref x0), some (.int x1)] (va_rf (q5.2.2.2.2.1 x0 8) :: [.int x1, .ref x0]) q5.2 else none) (fun f => rfl) ?_
      refine OkF.grd (fun _ => ?_)
      refine OkF.rf (fun a6 => ?_)
      refine OkF.eq 2 (Y := fun f => if inb (1 : Int32) (al q5.2 a6) = true then rk px kx f (d + 3) 199 31 [some (.ref x0), some (.int x1)] [.int (q5.2.2.1 a6 (1 : Int32).toNatClampNeg), .int x1, .ref x0] q5.2 else none) (fun f => rfl) ?_
      refine OkF.grd (fun _ => ?_)
      refine OkF.eq 1 (Y := fun f => if oc q5.2 x0 12 = true then (rk px kx f (d + 2) 174 0 [some (.ref x0), some (.int x1), some (.int (q5.2.2.1 a6 (1 : Int32).toNatClampNeg))] [] q5.2).bind (fun q => rk px kx f (d + 3) 199 34 [some (.ref x0), some (.int x1)] (q.1.toList ++ []) q.2) else none) (fun f => rfl) ?_
      refine OkF.grd (fun _ => ?_)
      refine OkF.bind (w1 := wI) (om174 (d + 0) x0 x1 (q5.2.2.1 a6 (1 : Int32).toNatClampNeg) q5.2) (fun q7 => ?_)
      refine OkF.eq 2 (Y := fun f => if oc q7.2 x0 12 = true then rk px kx f (d + 3) 199 38 [some (.ref x0), some (.int x1)] (va_rf (q7.2.2.2.2.1 x0 8) :: [.int q7.1]) q7.2 else none) (fun f => rfl) ?_
      refine OkF.grd (fun _ => ?_)
      refine OkF.rf (fun a8 => ?_)
      refine OkF.eq 2 (Y := fun f => if inb (0 : Int32) (al q7.2 a8) = true then rk px kx f (d + 3) 199 40 [some (.ref x0), some (.int x1)] [.int (q7.2.2.1 a8 (0 : Int32).toNatClampNeg), .int q7.1] q7.2 else none) (fun f => rfl) ?_
      refine OkF.grd (fun _ => ?_)
      refine OkF.eq 1 (Y := fun f => if q7.1 = (q7.2.2.1 a8 (0 : Int32).toNatClampNeg) then rk px kx f (d + 3) 199 43 [some (.ref x0), some (.int x1)] [] q7.2 else rk px kx f (d + 3) 199 46 [some (.ref x0), some (.int x1)] [] q7.2) (fun f => rfl) ?_
      refine OkF.ite (fun _ => ?_) (fun _ => ?_)
      · exact OkF.ret 2 (fun f => rfl)
      · refine OkF.eq 2 (Y := fun f => if oc q7.2 x0 12 = true then rk px kx f (d + 3) 199 50 [some (.ref x0), some (.int x1)] [.int (q7.2.2.1 x0 9)] q7.2 else none) (fun f => rfl) ?_
        refine OkF.grd (fun _ => ?_)
        refine OkF.eq 2 (Y := fun f => if (q7.2.2.1 x0 9) = (40 : Int32) then rk px kx f (d + 3) 199 55 [some (.ref x0), some (.int x1)] [] q7.2 else rk px kx f (d + 3) 199 58 [some (.ref x0), some (.int x1)] [] q7.2) (fun f => rfl) ?_
        refine OkF.ite (fun _ => ?_) (fun _ => ?_)
        · exact OkF.ret 2 (fun f => rfl)
        · refine OkF.eq 2 (Y := fun f => if oc q7.2 x0 12 = true then (rk px kx f (d + 2) 190 0 [some (.ref x0)] [] q7.2).bind (fun q => rk px kx f (d + 3) 199 62 [some (.ref x0), some (.int x1)] (q.1.toList ++ []) q.2) else none) (fun f => rfl) ?_
          refine OkF.grd (fun _ => ?_)
          refine OkF.bind (w1 := wV) (om190 (d + 1) x0 q7.2) (fun q9 => ?_)
          refine OkF.eq 2 (Y := fun f => if oc q9 x0 12 = true then rk px kx f (d + 3) 199 66 [some (.ref x0), some (.int x1)] (va_rf (q9.2.2.2.1 x0 6) :: []) q9 else none) (fun f => rfl) ?_
          refine OkF.grd (fun _ => ?_)
          refine OkF.rf (fun a10 => ?_)
          refine OkF.eq 2 (Y := fun f => if inb x1 (al q9 a10) = true then rk px kx f (d + 3) 199 68 [some (.ref x0), some (.int x1)] [.int (q9.2.1 a10 x1.toNatClampNeg)] q9 else none) (fun f => rfl) ?_
          refine OkF.grd (fun _ => ?_)
          refine OkF.eq 1 (Y := fun f => (rk px kx f (d + 2) 176 0 [some (.int (q9.2.1 a10 x1.toNatClampNeg))] [] q9).bind (fun q => rk px kx f (d + 3) 199 71 [some (.ref x0), some (.int x1)] (q.1.toList ++ []) q.2)) (fun f => rfl) ?_
          refine OkF.bind (w1 := wI) (om176 (d + 2) (q9.2.1 a10 x1.toNatClampNeg) q9) (fun q11 => ?_)
          refine OkF.eq 1 (Y := fun f => if q11.1 = 0 then rk px kx f (d + 3) 199 92 [some (.ref x0), some (.int x1)] [] q11.2 else rk px kx f (d + 3) 199 74 [some (.ref x0), some (.int x1)] [] q11.2) (fun f => rfl) ?_
          refine OkF.ite (fun _ => ?_) (fun _ => ?_)
          · refine OkF.eq 2 (Y := fun f => if oc q11.2 x0 12 = true then rk px kx f (d + 3) 199 96 [some (.ref x0), some (.int x1)] (va_rf (q11.2.2.2.2.1 x0 8) :: []) q11.2 else none) (fun f => rfl) ?_
            refine OkF.grd (fun _ => ?_)
            refine OkF.rf (fun a12 => ?_)
            refine OkF.eq 5 (Y := fun f => if oc q11.2 x0 12 = true then rk px kx f (d + 3) 199 103 [some (.ref x0), some (.int x1)] (va_rf (q11.2.2.2.2.1 x0 6) :: [.int ((4 : Int32) + x1), .ref a12]) q11.2 else none) (fun f => rfl) ?_
            refine OkF.grd (fun _ => ?_)
            refine OkF.rf (fun a13 => ?_)
            refine OkF.eq 2 (Y := fun f => if inb x1 (al q11.2 a13) = true then rk px kx f (d + 3) 199 105 [some (.ref x0), some (.int x1)] [.int (q11.2.2.1 a13 x1.toNatClampNeg), .int ((4 : Int32) + x1), .ref a12] q11.2 else none) (fun f => rfl) ?_
            refine OkF.grd (fun _ => ?_)
            refine OkF.eq 2 (Y := fun f => if (q11.2.2.1 a13 x1.toNatClampNeg) = (5 : Int32) then rk px kx f (d + 3) 199 109 [some (.ref x0), some (.int x1)] [.int ((4 : Int32) + x1), .ref a12] q11.2 else rk px kx f (d + 3) 199 133 [some (.ref x0), some (.int x1)] [.int ((4 : Int32) + x1), .ref a12] q11.2) (fun f => rfl) ?_
            refine OkF.ite (fun _ => ?_) (fun _ => ?_)
            · refine OkF.eq 3 (Y := fun f => if oc q11.2 x0 12 = true then rk px kx f (d + 3) 199 114 [some (.ref x0), some (.int x1)] (va_rf (q11.2.2.2.2.1 x0 8) :: [.ref x0, .int ((4 : Int32) + x1), .ref a12]) q11.2 else none) (fun f => rfl) ?_
              refine OkF.grd (fun _ => ?_)
              refine OkF.rf (fun a14 => ?_)
              refine OkF.eq 2 (Y := fun f => if inb (1 : Int32) (al q11.2 a14) = true then rk px kx f (d + 3) 199 116 [some (.ref x0), some (.int x1)] [.int (q11.2.2.1 a14 (1 : Int32).toNatClampNeg), .ref x0, .int ((4 : Int32) + x1), .ref a12] q11.2 else none) (fun f => rfl) ?_
              refine OkF.grd (fun _ => ?_)
              refine OkF.eq 2 (Y := fun f => if oc q11.2 x0 12 = true then rk px kx f (d + 3) 199 120 [some (.ref x0), some (.int x1)] [.int (q11.2.2.1 x0 5), .int (q11.2.2.1 a14 (1 : Int32).toNatClampNeg), .ref x0, .int ((4 : Int32) + x1), .ref a12] q11.2 else none) (fun f => rfl) ?_
              refine OkF.grd (fun _ => ?_)
              refine OkF.eq 1 (Y := fun f => if (q11.2.2.1 x0 5) = 0 then none else rk px kx f (d + 3) 199 121 [some (.ref x0), some (.int x1)] [.int ((q11.2.2.1 a14 (1 : Int32).toNatClampNeg) - (q11.2.2.1 a14 (1 : Int32).toNatClampNeg) / (q11.2.2.1 x0 5) * (q11.2.2.1 x0 5)), .ref x0, .int ((4 : Int32) + x1), .ref a12] q11.2) (fun f => rfl) ?_
              refine OkF.ngr (fun _ => ?_)
              refine OkF.eq 2 (Y := fun f => if oc q11.2 x0 12 = true then rk px kx f (d + 3) 199 125 [some (.ref x0), some (.int x1)] (va_rf (q11.2.2.2.2.1 x0 8) :: [.int ((q11.2.2.1 a14 (1 : Int32).toNatClampNeg) - (q11.2.2.1 a14 (1 : Int32).toNatClampNeg) / (q11.2.2.1 x0 5) * (q11.2.2.1 x0 5)), .ref x0, .int ((4 : Int32) + x1), .ref a12]) q11.2 else none) (fun f => rfl) ?_
              refine OkF.grd (fun _ => ?_)
              refine OkF.rf (fun a15 => ?_)
              refine OkF.eq 2 (Y := fun f => if inb (0 : Int32) (al q11.2 a15) = true then rk px kx f (d + 3) 199 127 [some (.ref x0), some (.int x1)] [.int (q11.2.2.1 a15 (0 : Int32).toNatClampNeg), .int ((q11.2.2.1 a14 (1 : Int32).toNatClampNeg) - (q11.2.2.1 a14 (1 : Int32).toNatClampNeg) / (q11.2.2.1 x0 5) * (q11.2.2.1 x0 5)), .ref x0, .int ((4 : Int32) + x1), .ref a12] q11.2 else none) (fun f => rfl) ?_
              refine OkF.grd (fun _ => ?_)
              refine OkF.eq 1 (Y := fun f => if oc q11.2 x0 12 = true then (rk px kx f (d + 2) 186 0 [some (.ref x0), some (.int ((q11.2.2.1 a14 (1 : Int32).toNatClampNeg) - (q11.2.2.1 a14 (1 : Int32).toNatClampNeg) / (q11.2.2.1 x0 5) * (q11.2.2.1 x0 5))), some (.int (q11.2.2.1 a15 (0 : Int32).toNatClampNeg))] [] q11.2).bind (fun q => rk px kx f (d + 3) 199 130 [some (.ref x0), some (.int x1)] (q.1.toList ++ [.int ((4 : Int32) + x1), .ref a12]) q.2) else none) (fun f => rfl) ?_
              refine OkF.grd (fun _ => ?_)
              refine OkF.bind (w1 := wI) (om186 (d + 2) x0 ((q11.2.2.1 a14 (1 : Int32).toNatClampNeg) - (q11.2.2.1 a14 (1 : Int32).toNatClampNeg) / (q11.2.2.1 x0 5) * (q11.2.2.1 x0 5)) (q11.2.2.1 a15 (0 : Int32).toNatClampNeg) q11.2) (fun q16 => ?_)
              refine OkF.eq 1 (Y := fun f => rk px kx f (d + 3) 199 139 [some (.ref x0), some (.int x1)] [.int q16.1, .int ((4 : Int32) + x1), .ref a12] q16.2) (fun f => rfl) ?_
              exact OkF.kl (ls1 := [some (.ref x0), some (.int x1)]) (fun f => rfl) (ob199_139 d x0 x1 a12 ((4 : Int32) + x1) q16.1 q16.2)
            · refine OkF.eq 2 (Y := fun f => if oc q11.2 x0 12 = true then rk px kx f (d + 3) 199 137 [some (.ref x0), some (.int x1)] (va_rf (q11.2.2.2.2.1 x0 8) :: [.int ((4 : Int32) + x1), .ref a12]) q11.2 else none) (fun f => rfl) ?_
              refine OkF.grd (fun _ => ?_)
              refine OkF.rf (fun a17 => ?_)
              refine OkF.eq 2 (Y := fun f => if inb (0 : Int32) (al q11.2 a17) = true then rk px kx f (d + 3) 199 139 [some (.ref x0), some (.int x1)] [.int (q11.2.2.1 a17 (0 : Int32).toNatClampNeg), .int ((4 : Int32) + x1), .ref a12] q11.2 else none) (fun f => rfl) ?_
              refine OkF.grd (fun _ => ?_)
              exact OkF.kl (ls1 := [some (.ref x0), some (.int x1)]) (fun f => rfl) (ob199_139 d x0 x1 a12 ((4 : Int32) + x1) (q11.2.2.1 a17 (0 : Int32).toNatClampNeg) q11.2)
          · refine OkF.eq 2 (Y := fun f => if oc q11.2 x0 12 = true then rk px kx f (d + 3) 199 78 [some (.ref x0), some (.int x1)] (va_rf (q11.2.2.2.2.1 x0 8) :: []) q11.2 else none) (fun f => rfl) ?_
            refine OkF.grd (fun _ => ?_)
            refine OkF.rf (fun a18 => ?_)
            refine OkF.eq 5 (Y := fun f => if oc q11.2 x0 12 = true then rk px kx f (d + 3) 199 86 [some (.ref x0), some (.int x1)] (va_rf (q11.2.2.2.2.1 x0 8) :: [.int ((10 : Int32) + x1), .ref a18]) q11.2 else none) (fun f => rfl) ?_
            refine OkF.grd (fun _ => ?_)
            refine OkF.rf (fun a19 => ?_)
            refine OkF.eq 2 (Y := fun f => if inb (0 : Int32) (al q11.2 a19) = true then rk px kx f (d + 3) 199 88 [some (.ref x0), some (.int x1)] [.int (q11.2.2.1 a19 (0 : Int32).toNatClampNeg), .int ((10 : Int32) + x1), .ref a18] q11.2 else none) (fun f => rfl) ?_
            refine OkF.grd (fun _ => ?_)
            refine OkF.eq 1 (Y := fun f => if inb ((10 : Int32) + x1) (aw q11.2 1 a18) = true then rk px kx f (d + 3) 199 89 [some (.ref x0), some (.int x1)] [] (sI q11.2 a18 ((10 : Int32) + x1).toNatClampNeg (q11.2.2.1 a19 (0 : Int32).toNatClampNeg)) else none) (fun f => rfl) ?_
            refine OkF.grd (fun _ => ?_)
            refine OkF.nm (fun S20 => ?_)
            refine OkF.eq 1 (Y := fun f => rk px kx f (d + 3) 199 140 [some (.ref x0), some (.int x1)] [] S20) (fun f => rfl) ?_
            exact OkF.kl (ls1 := [some (.ref x0), some (.int x1)]) (fun f => rfl) (ob199_140 d x0 x1 S20)
-- DoorSoldModel.undo(I)I
def b200_45 (x0 : Nat) (x1 : Int32) (x2 : Int32) (S : Sx) : Option (Int32 × Sx) :=
  if oc S x0 12 = true then lt (sI S x0 9 x1) fun S1 => some (x2, S1) else none
set_option maxRecDepth 100000 in
theorem ob200_45 (d : Nat) (x0 : Nat) (x1 : Int32) (x2 : Int32) (S : Sx) : OkF wI (fun f => rk px kx f (d + 1) 200 45 [some (.ref x0), some (.int x1), some (.int x2)] [] S) (b200_45 x0 x1 x2 S) := by
  unfold b200_45
  refine OkF.eq 3 (Y := fun f => if oc S x0 12 = true then rk px kx f (d + 1) 200 50 [some (.ref x0), some (.int x1), some (.int x2)] [] (sI S x0 9 x1) else none) (fun f => rfl) ?_
  refine OkF.grd (fun _ => ?_)
  refine OkF.nm (fun S1 => ?_)
  exact OkF.ret 2 (fun f => rfl)
def m200 (x0 : Nat) (x1 : Int32) (S : Sx) : Option (Int32 × Sx) :=
  if oc S x0 12 = true then (m150 x1.toInt64 (0 : Int64) ((S.2.1 x0 9).toInt64) S).bind fun q2 => if q2.1 = 0 then some ((-1 : Int32), q2.2) else if oc q2.2 x0 12 = true then if ((q2.2.2.1 x0 9) - x1) ≤ 0 then b200_45 x0 x1 ((q2.2.2.1 x0 9) - x1) q2.2 else if oc q2.2 x0 12 = true then (q2.2.2.2.2.1 x0 10).bind fun a3 => if oc q2.2 x0 12 = true then (q2.2.2.2.2.1 x0 8).bind fun a4 => (m191 a3 ((16 : Int32) * x1) a4 (0 : Int32) (16 : Int32) q2.2).bind fun q5 => b200_45 x0 x1 ((q2.2.2.1 x0 9) - x1) q5 else none else none else none else none
set_option maxRecDepth 100000 in
theorem om200 (d : Nat) (x0 : Nat) (x1 : Int32) (S : Sx) : OkF wI (fun f => rk px kx f (d + 1) 200 0 [some (.ref x0), some (.int x1), none] [] S) (m200 x0 x1 S) := by
  unfold m200
  refine OkF.eq 5 (Y := fun f => if oc S x0 12 = true then rk px kx f (d + 1) 200 7 [some (.ref x0), some (.int x1), none] [.int (S.2.1 x0 9), .long (0 : Int64), .long x1.toInt64] S else none) (fun f => rfl) ?_
  refine OkF.grd (fun _ => ?_)
  refine OkF.eq 2 (Y := fun f => (rk px kx f (d + 0) 150 0 [some (.long x1.toInt64), none, some (.long (0 : Int64)), none, some (.long ((S.2.1 x0 9).toInt64)), none] [] S).bind (fun q => rk px kx f (d + 1) 200 11 [some (.ref x0), some (.int x1), none] (q.1.toList ++ []) q.2)) (fun f => rfl) ?_
  refine OkF.bind (w1 := wI) (om150 (d + 0) x1.toInt64 (0 : Int64) ((S.2.1 x0 9).toInt64) S) (fun q2 => ?_)
  refine OkF.eq 1 (Y := fun f => if q2.1 = 0 then rk px kx f (d + 1) 200 14 [some (.ref x0), some (.int x1), none] [] q2.2 else rk px kx f (d + 1) 200 16 [some (.ref x0), some (.int x1), none] [] q2.2) (fun f => rfl) ?_
  refine OkF.ite (fun _ => ?_) (fun _ => ?_)
  · exact OkF.ret 2 (fun f => rfl)
  · refine OkF.eq 2 (Y := fun f => if oc q2.2 x0 12 = true then rk px kx f (d + 1) 200 20 [some (.ref x0), some (.int x1), none] [.int (q2.2.2.1 x0 9)] q2.2 else none) (fun f => rfl) ?_
    refine OkF.grd (fun _ => ?_)
    refine OkF.eq 5 (Y := fun f => if ((q2.2.2.1 x0 9) - x1) ≤ 0 then rk px kx f (d + 1) 200 45 [some (.ref x0), some (.int x1), some (.int ((q2.2.2.1 x0 9) - x1))] [] q2.2 else rk px kx f (d + 1) 200 27 [some (.ref x0), some (.int x1), some (.int ((q2.2.2.1 x0 9) - x1))] [] q2.2) (fun f => rfl) ?_
    refine OkF.ite (fun _ => ?_) (fun _ => ?_)
    · exact OkF.kl (ls1 := [some (.ref x0), some (.int x1), some (.int ((q2.2.2.1 x0 9) - x1))]) (fun f => rfl) (ob200_45 d x0 x1 ((q2.2.2.1 x0 9) - x1) q2.2)
    · refine OkF.eq 2 (Y := fun f => if oc q2.2 x0 12 = true then rk px kx f (d + 1) 200 31 [some (.ref x0), some (.int x1), some (.int ((q2.2.2.1 x0 9) - x1))] (va_rf (q2.2.2.2.2.1 x0 10) :: []) q2.2 else none) (fun f => rfl) ?_
      refine OkF.grd (fun _ => ?_)
      refine OkF.rf (fun a3 => ?_)
      refine OkF.eq 5 (Y := fun f => if oc q2.2 x0 12 = true then rk px kx f (d + 1) 200 39 [some (.ref x0), some (.int x1), some (.int ((q2.2.2.1 x0 9) - x1))] (va_rf (q2.2.2.2.2.1 x0 8) :: [.int ((16 : Int32) * x1), .ref a3]) q2.2 else none) (fun f => rfl) ?_
      refine OkF.grd (fun _ => ?_)
      refine OkF.rf (fun a4 => ?_)
      refine OkF.eq 3 (Y := fun f => (rk px kx f (d + 0) 191 0 [some (.ref a3), some (.int ((16 : Int32) * x1)), some (.ref a4), some (.int (0 : Int32)), some (.int (16 : Int32)), none] [] q2.2).bind (fun q => rk px kx f (d + 1) 200 45 [some (.ref x0), some (.int x1), some (.int ((q2.2.2.1 x0 9) - x1))] (q.1.toList ++ []) q.2)) (fun f => rfl) ?_
      refine OkF.bind (w1 := wV) (om191 (d + 0) a3 ((16 : Int32) * x1) a4 (0 : Int32) (16 : Int32) q2.2) (fun q5 => ?_)
      exact OkF.kl (ls1 := [some (.ref x0), some (.int x1), some (.int ((q2.2.2.1 x0 9) - x1))]) (fun f => rfl) (ob200_45 d x0 x1 ((q2.2.2.1 x0 9) - x1) q5)
-- DoorSoldModel.keep(I)I
def m201 (x0 : Nat) (x1 : Int32) (S : Sx) : Option (Int32 × Sx) :=
  (m150 x1.toInt64 (0 : Int64) (2 : Int64) S).bind fun q1 => if q1.1 = 0 then some ((-1 : Int32), q1.2) else if oc q1.2 x0 12 = true then if (q1.2.2.1 x0 4) = 0 then some ((-4 : Int32), q1.2) else if oc q1.2 x0 12 = true then (q1.2.2.2.2.1 x0 8).bind fun a2 => if oc q1.2 x0 12 = true then (q1.2.2.2.2.1 x0 11).bind fun a3 => (m191 a2 (0 : Int32) a3 ((657 : Int32) * x1) (16 : Int32) q1.2).bind fun q4 => if oc q4 x0 12 = true then (q4.2.2.2.1 x0 10).bind fun a5 => if oc q4 x0 12 = true then (q4.2.2.2.1 x0 11).bind fun a6 => (m191 a5 (0 : Int32) a6 (((657 : Int32) * x1) + (16 : Int32)) (640 : Int32) q4).bind fun q7 => if oc q7 x0 12 = true then (q7.2.2.2.1 x0 11).bind fun a8 => if oc q7 x0 12 = true then if inb (((657 : Int32) * x1) + (656 : Int32)) (aw q7 1 a8) = true then lt (sI q7 a8 (((657 : Int32) * x1) + (656 : Int32)).toNatClampNeg (q7.2.1 x0 9)) fun S9 => if oc S9 x0 12 = true then (S9.2.2.2.1 x0 12).bind fun a10 => if inb x1 (aw S9 2 a10) = true then lt (sI S9 a10 x1.toNatClampNeg ((1 : Int32) &&& 1)) fun S11 => if oc S11 x0 12 = true then some (S11.2.1 x0 9, S11) else none else none else none else none else none else none else none else none else none else none else none
set_option maxRecDepth 100000 in
theorem om201 (d : Nat) (x0 : Nat) (x1 : Int32) (S : Sx) : OkF wI (fun f => rk px kx f (d + 1) 201 0 [some (.ref x0), some (.int x1)] [] S) (m201 x0 x1 S) := by
  unfold m201
  refine OkF.eq 5 (Y := fun f => (rk px kx f (d + 0) 150 0 [some (.long x1.toInt64), none, some (.long (0 : Int64)), none, some (.long (2 : Int64)), none] [] S).bind (fun q => rk px kx f (d + 1) 201 9 [some (.ref x0), some (.int x1)] (q.1.toList ++ []) q.2)) (fun f => rfl) ?_
  refine OkF.bind (w1 := wI) (om150 (d + 0) x1.toInt64 (0 : Int64) (2 : Int64) S) (fun q1 => ?_)
  refine OkF.eq 1 (Y := fun f => if q1.1 = 0 then rk px kx f (d + 1) 201 12 [some (.ref x0), some (.int x1)] [] q1.2 else rk px kx f (d + 1) 201 14 [some (.ref x0), some (.int x1)] [] q1.2) (fun f => rfl) ?_
  refine OkF.ite (fun _ => ?_) (fun _ => ?_)
  · exact OkF.ret 2 (fun f => rfl)
  · refine OkF.eq 2 (Y := fun f => if oc q1.2 x0 12 = true then rk px kx f (d + 1) 201 18 [some (.ref x0), some (.int x1)] [.int (q1.2.2.1 x0 4)] q1.2 else none) (fun f => rfl) ?_
    refine OkF.grd (fun _ => ?_)
    refine OkF.eq 1 (Y := fun f => if (q1.2.2.1 x0 4) = 0 then rk px kx f (d + 1) 201 21 [some (.ref x0), some (.int x1)] [] q1.2 else rk px kx f (d + 1) 201 24 [some (.ref x0), some (.int x1)] [] q1.2) (fun f => rfl) ?_
    refine OkF.ite (fun _ => ?_) (fun _ => ?_)
    · exact OkF.ret 2 (fun f => rfl)
    · refine OkF.eq 2 (Y := fun f => if oc q1.2 x0 12 = true then rk px kx f (d + 1) 201 28 [some (.ref x0), some (.int x1)] (va_rf (q1.2.2.2.2.1 x0 8) :: []) q1.2 else none) (fun f => rfl) ?_
      refine OkF.grd (fun _ => ?_)
      refine OkF.rf (fun a2 => ?_)
      refine OkF.eq 3 (Y := fun f => if oc q1.2 x0 12 = true then rk px kx f (d + 1) 201 33 [some (.ref x0), some (.int x1)] (va_rf (q1.2.2.2.2.1 x0 11) :: [.int (0 : Int32), .ref a2]) q1.2 else none) (fun f => rfl) ?_
      refine OkF.grd (fun _ => ?_)
      refine OkF.rf (fun a3 => ?_)
      refine OkF.eq 5 (Y := fun f => (rk px kx f (d + 0) 191 0 [some (.ref a2), some (.int (0 : Int32)), some (.ref a3), some (.int ((657 : Int32) * x1)), some (.int (16 : Int32)), none] [] q1.2).bind (fun q => rk px kx f (d + 1) 201 43 [some (.ref x0), some (.int x1)] (q.1.toList ++ []) q.2)) (fun f => rfl) ?_
      refine OkF.bind (w1 := wV) (om191 (d + 0) a2 (0 : Int32) a3 ((657 : Int32) * x1) (16 : Int32) q1.2) (fun q4 => ?_)
      refine OkF.eq 2 (Y := fun f => if oc q4 x0 12 = true then rk px kx f (d + 1) 201 47 [some (.ref x0), some (.int x1)] (va_rf (q4.2.2.2.1 x0 10) :: []) q4 else none) (fun f => rfl) ?_
      refine OkF.grd (fun _ => ?_)
      refine OkF.rf (fun a5 => ?_)
      refine OkF.eq 3 (Y := fun f => if oc q4 x0 12 = true then rk px kx f (d + 1) 201 52 [some (.ref x0), some (.int x1)] (va_rf (q4.2.2.2.1 x0 11) :: [.int (0 : Int32), .ref a5]) q4 else none) (fun f => rfl) ?_
      refine OkF.grd (fun _ => ?_)
      refine OkF.rf (fun a6 => ?_)
      refine OkF.eq 7 (Y := fun f => (rk px kx f (d + 0) 191 0 [some (.ref a5), some (.int (0 : Int32)), some (.ref a6), some (.int (((657 : Int32) * x1) + (16 : Int32))), some (.int (640 : Int32)), none] [] q4).bind (fun q => rk px kx f (d + 1) 201 66 [some (.ref x0), some (.int x1)] (q.1.toList ++ []) q.2)) (fun f => rfl) ?_
      refine OkF.bind (w1 := wV) (om191 (d + 0) a5 (0 : Int32) a6 (((657 : Int32) * x1) + (16 : Int32)) (640 : Int32) q4) (fun q7 => ?_)
      refine OkF.eq 2 (Y := fun f => if oc q7 x0 12 = true then rk px kx f (d + 1) 201 70 [some (.ref x0), some (.int x1)] (va_rf (q7.2.2.2.1 x0 11) :: []) q7 else none) (fun f => rfl) ?_
      refine OkF.grd (fun _ => ?_)
      refine OkF.rf (fun a8 => ?_)
      refine OkF.eq 7 (Y := fun f => if oc q7 x0 12 = true then rk px kx f (d + 1) 201 83 [some (.ref x0), some (.int x1)] [.int (q7.2.1 x0 9), .int (((657 : Int32) * x1) + (656 : Int32)), .ref a8] q7 else none) (fun f => rfl) ?_
      refine OkF.grd (fun _ => ?_)
      refine OkF.eq 1 (Y := fun f => if inb (((657 : Int32) * x1) + (656 : Int32)) (aw q7 1 a8) = true then rk px kx f (d + 1) 201 84 [some (.ref x0), some (.int x1)] [] (sI q7 a8 (((657 : Int32) * x1) + (656 : Int32)).toNatClampNeg (q7.2.1 x0 9)) else none) (fun f => rfl) ?_
      refine OkF.grd (fun _ => ?_)
      refine OkF.nm (fun S9 => ?_)
      refine OkF.eq 2 (Y := fun f => if oc S9 x0 12 = true then rk px kx f (d + 1) 201 88 [some (.ref x0), some (.int x1)] (va_rf (S9.2.2.2.1 x0 12) :: []) S9 else none) (fun f => rfl) ?_
      refine OkF.grd (fun _ => ?_)
      refine OkF.rf (fun a10 => ?_)
      refine OkF.eq 3 (Y := fun f => if inb x1 (aw S9 2 a10) = true then rk px kx f (d + 1) 201 91 [some (.ref x0), some (.int x1)] [] (sI S9 a10 x1.toNatClampNeg ((1 : Int32) &&& 1)) else none) (fun f => rfl) ?_
      refine OkF.grd (fun _ => ?_)
      refine OkF.nm (fun S11 => ?_)
      refine OkF.eq 2 (Y := fun f => if oc S11 x0 12 = true then rk px kx f (d + 1) 201 95 [some (.ref x0), some (.int x1)] [.int (S11.2.1 x0 9)] S11 else none) (fun f => rfl) ?_
      refine OkF.grd (fun _ => ?_)
      exact OkF.ret 1 (fun f => rfl)
-- DoorSoldModel.on(I)I
def m202 (x0 : Nat) (x1 : Int32) (S : Sx) : Option (Int32 × Sx) :=
  (m150 x1.toInt64 (0 : Int64) (2 : Int64) S).bind fun q1 => if q1.1 = 0 then some ((-1 : Int32), q1.2) else if oc q1.2 x0 12 = true then (q1.2.2.2.2.1 x0 12).bind fun a2 => if inb x1 (aw q1.2 2 a2) = true then if (q1.2.2.1 a2 x1.toNatClampNeg) = 0 then if oc q1.2 x0 12 = true then (m151 x0 (1 : Int32) q1.2).bind fun q3 => some (q3.1, q3.2) else none else if oc q1.2 x0 12 = true then (q1.2.2.2.2.1 x0 11).bind fun a4 => if oc q1.2 x0 12 = true then (q1.2.2.2.2.1 x0 8).bind fun a5 => (m191 a4 ((657 : Int32) * x1) a5 (0 : Int32) (16 : Int32) q1.2).bind fun q6 => if oc q6 x0 12 = true then (q6.2.2.2.1 x0 11).bind fun a7 => if oc q6 x0 12 = true then (q6.2.2.2.1 x0 10).bind fun a8 => (m191 a7 (((657 : Int32) * x1) + (16 : Int32)) a8 (0 : Int32) (640 : Int32) q6).bind fun q9 => if oc q9 x0 12 = true then (q9.2.2.2.1 x0 11).bind fun a10 => if inb (((657 : Int32) * x1) + (656 : Int32)) (al q9 a10) = true then if oc q9 x0 12 = true then lt (sI q9 x0 9 (q9.2.1 a10 (((657 : Int32) * x1) + (656 : Int32)).toNatClampNeg)) fun S11 => if oc S11 x0 12 = true then some (S11.2.1 x0 9, S11) else none else none else none else none else none else none else none else none else none else none
set_option maxRecDepth 100000 in
theorem om202 (d : Nat) (x0 : Nat) (x1 : Int32) (S : Sx) : OkF wI (fun f => rk px kx f (d + 1) 202 0 [some (.ref x0), some (.int x1)] [] S) (m202 x0 x1 S) := by
  unfold m202
  refine OkF.eq 5 (Y := fun f => (rk px kx f (d + 0) 150 0 [some (.long x1.toInt64), none, some (.long (0 : Int64)), none, some (.long (2 : Int64)), none] [] S).bind (fun q => rk px kx f (d + 1) 202 9 [some (.ref x0), some (.int x1)] (q.1.toList ++ []) q.2)) (fun f => rfl) ?_
  refine OkF.bind (w1 := wI) (om150 (d + 0) x1.toInt64 (0 : Int64) (2 : Int64) S) (fun q1 => ?_)
  refine OkF.eq 1 (Y := fun f => if q1.1 = 0 then rk px kx f (d + 1) 202 12 [some (.ref x0), some (.int x1)] [] q1.2 else rk px kx f (d + 1) 202 14 [some (.ref x0), some (.int x1)] [] q1.2) (fun f => rfl) ?_
  refine OkF.ite (fun _ => ?_) (fun _ => ?_)
  · exact OkF.ret 2 (fun f => rfl)
  · refine OkF.eq 2 (Y := fun f => if oc q1.2 x0 12 = true then rk px kx f (d + 1) 202 18 [some (.ref x0), some (.int x1)] (va_rf (q1.2.2.2.2.1 x0 12) :: []) q1.2 else none) (fun f => rfl) ?_
    refine OkF.grd (fun _ => ?_)
    refine OkF.rf (fun a2 => ?_)
    refine OkF.eq 2 (Y := fun f => if inb x1 (aw q1.2 2 a2) = true then rk px kx f (d + 1) 202 20 [some (.ref x0), some (.int x1)] [.int (q1.2.2.1 a2 x1.toNatClampNeg)] q1.2 else none) (fun f => rfl) ?_
    refine OkF.grd (fun _ => ?_)
    refine OkF.eq 1 (Y := fun f => if (q1.2.2.1 a2 x1.toNatClampNeg) = 0 then rk px kx f (d + 1) 202 23 [some (.ref x0), some (.int x1)] [] q1.2 else rk px kx f (d + 1) 202 29 [some (.ref x0), some (.int x1)] [] q1.2) (fun f => rfl) ?_
    refine OkF.ite (fun _ => ?_) (fun _ => ?_)
    · refine OkF.eq 3 (Y := fun f => if oc q1.2 x0 12 = true then (rk px kx f (d + 0) 151 0 [some (.ref x0), some (.int (1 : Int32))] [] q1.2).bind (fun q => rk px kx f (d + 1) 202 28 [some (.ref x0), some (.int x1)] (q.1.toList ++ []) q.2) else none) (fun f => rfl) ?_
      refine OkF.grd (fun _ => ?_)
      refine OkF.bind (w1 := wI) (om151 (d + 0) x0 (1 : Int32) q1.2) (fun q3 => ?_)
      exact OkF.ret 1 (fun f => rfl)
    · refine OkF.eq 2 (Y := fun f => if oc q1.2 x0 12 = true then rk px kx f (d + 1) 202 33 [some (.ref x0), some (.int x1)] (va_rf (q1.2.2.2.2.1 x0 11) :: []) q1.2 else none) (fun f => rfl) ?_
      refine OkF.grd (fun _ => ?_)
      refine OkF.rf (fun a4 => ?_)
      refine OkF.eq 5 (Y := fun f => if oc q1.2 x0 12 = true then rk px kx f (d + 1) 202 42 [some (.ref x0), some (.int x1)] (va_rf (q1.2.2.2.2.1 x0 8) :: [.int ((657 : Int32) * x1), .ref a4]) q1.2 else none) (fun f => rfl) ?_
      refine OkF.grd (fun _ => ?_)
      refine OkF.rf (fun a5 => ?_)
      refine OkF.eq 3 (Y := fun f => (rk px kx f (d + 0) 191 0 [some (.ref a4), some (.int ((657 : Int32) * x1)), some (.ref a5), some (.int (0 : Int32)), some (.int (16 : Int32)), none] [] q1.2).bind (fun q => rk px kx f (d + 1) 202 48 [some (.ref x0), some (.int x1)] (q.1.toList ++ []) q.2)) (fun f => rfl) ?_
      refine OkF.bind (w1 := wV) (om191 (d + 0) a4 ((657 : Int32) * x1) a5 (0 : Int32) (16 : Int32) q1.2) (fun q6 => ?_)
      refine OkF.eq 2 (Y := fun f => if oc q6 x0 12 = true then rk px kx f (d + 1) 202 52 [some (.ref x0), some (.int x1)] (va_rf (q6.2.2.2.1 x0 11) :: []) q6 else none) (fun f => rfl) ?_
      refine OkF.grd (fun _ => ?_)
      refine OkF.rf (fun a7 => ?_)
      refine OkF.eq 7 (Y := fun f => if oc q6 x0 12 = true then rk px kx f (d + 1) 202 64 [some (.ref x0), some (.int x1)] (va_rf (q6.2.2.2.1 x0 10) :: [.int (((657 : Int32) * x1) + (16 : Int32)), .ref a7]) q6 else none) (fun f => rfl) ?_
      refine OkF.grd (fun _ => ?_)
      refine OkF.rf (fun a8 => ?_)
      refine OkF.eq 3 (Y := fun f => (rk px kx f (d + 0) 191 0 [some (.ref a7), some (.int (((657 : Int32) * x1) + (16 : Int32))), some (.ref a8), some (.int (0 : Int32)), some (.int (640 : Int32)), none] [] q6).bind (fun q => rk px kx f (d + 1) 202 71 [some (.ref x0), some (.int x1)] (q.1.toList ++ []) q.2)) (fun f => rfl) ?_
      refine OkF.bind (w1 := wV) (om191 (d + 0) a7 (((657 : Int32) * x1) + (16 : Int32)) a8 (0 : Int32) (640 : Int32) q6) (fun q9 => ?_)
      refine OkF.eq 3 (Y := fun f => if oc q9 x0 12 = true then rk px kx f (d + 1) 202 76 [some (.ref x0), some (.int x1)] (va_rf (q9.2.2.2.1 x0 11) :: [.ref x0]) q9 else none) (fun f => rfl) ?_
      refine OkF.grd (fun _ => ?_)
      refine OkF.rf (fun a10 => ?_)
      refine OkF.eq 6 (Y := fun f => if inb (((657 : Int32) * x1) + (656 : Int32)) (al q9 a10) = true then rk px kx f (d + 1) 202 86 [some (.ref x0), some (.int x1)] [.int (q9.2.1 a10 (((657 : Int32) * x1) + (656 : Int32)).toNatClampNeg), .ref x0] q9 else none) (fun f => rfl) ?_
      refine OkF.grd (fun _ => ?_)
      refine OkF.eq 1 (Y := fun f => if oc q9 x0 12 = true then rk px kx f (d + 1) 202 89 [some (.ref x0), some (.int x1)] [] (sI q9 x0 9 (q9.2.1 a10 (((657 : Int32) * x1) + (656 : Int32)).toNatClampNeg)) else none) (fun f => rfl) ?_
      refine OkF.grd (fun _ => ?_)
      refine OkF.nm (fun S11 => ?_)
      refine OkF.eq 2 (Y := fun f => if oc S11 x0 12 = true then rk px kx f (d + 1) 202 93 [some (.ref x0), some (.int x1)] [.int (S11.2.1 x0 9)] S11 else none) (fun f => rfl) ?_
      refine OkF.grd (fun _ => ?_)
      exact OkF.ret 1 (fun f => rfl)
