-- DoorSold.undo(I)I
def m84 (x0 : Nat) (x1 : Int32) (S : Sx) : Option (Int32 × Sx) :=
  if x1 < 0 then some ((-1 : Int32), S) else if oc S x0 11 = true then (S.2.2.2.1 x0 3).bind fun a1 => if oc S a1 4 = true then if x1 ≤ (S.2.1 a1 15) then if oc S x0 11 = true then (S.2.2.2.1 x0 3).bind fun a2 => if oc S a2 4 = true then if oc S x0 11 = true then (S.2.2.2.1 x0 3).bind fun a3 => if oc S a3 4 = true then (m85 a3 x1 S).bind fun q4 => some ((S.2.1 a2 15) - x1, q4) else none else none else none else none else some ((-1 : Int32), S) else none else none
set_option maxRecDepth 100000 in
theorem om84 (d : Nat) (x0 : Nat) (x1 : Int32) (S : Sx) : OkF wI (fun f => rk px kx f (d + 6) 84 0 [some (.ref x0), some (.int x1), none] [] S) (m84 x0 x1 S) := by
  unfold m84
  refine OkF.eq 2 (Y := fun f => if x1 < 0 then rk px kx f (d + 6) 84 15 [some (.ref x0), some (.int x1), none] [] S else rk px kx f (d + 6) 84 4 [some (.ref x0), some (.int x1), none] [] S) (fun f => rfl) ?_
  refine OkF.ite (fun _ => ?_) (fun _ => ?_)
  · exact OkF.ret 2 (fun f => rfl)
  · refine OkF.eq 3 (Y := fun f => if oc S x0 11 = true then rk px kx f (d + 6) 84 9 [some (.ref x0), some (.int x1), none] (va_rf (S.2.2.2.1 x0 3) :: [.int x1]) S else none) (fun f => rfl) ?_
    refine OkF.grd (fun _ => ?_)
    refine OkF.rf (fun a1 => ?_)
    refine OkF.eq 1 (Y := fun f => if oc S a1 4 = true then rk px kx f (d + 6) 84 12 [some (.ref x0), some (.int x1), none] [.int (S.2.1 a1 15), .int x1] S else none) (fun f => rfl) ?_
    refine OkF.grd (fun _ => ?_)
    refine OkF.eq 1 (Y := fun f => if x1 ≤ (S.2.1 a1 15) then rk px kx f (d + 6) 84 17 [some (.ref x0), some (.int x1), none] [] S else rk px kx f (d + 6) 84 15 [some (.ref x0), some (.int x1), none] [] S) (fun f => rfl) ?_
    refine OkF.ite (fun _ => ?_) (fun _ => ?_)
    · refine OkF.eq 2 (Y := fun f => if oc S x0 11 = true then rk px kx f (d + 6) 84 21 [some (.ref x0), some (.int x1), none] (va_rf (S.2.2.2.1 x0 3) :: []) S else none) (fun f => rfl) ?_
      refine OkF.grd (fun _ => ?_)
      refine OkF.rf (fun a2 => ?_)
      refine OkF.eq 1 (Y := fun f => if oc S a2 4 = true then rk px kx f (d + 6) 84 24 [some (.ref x0), some (.int x1), none] [.int (S.2.1 a2 15)] S else none) (fun f => rfl) ?_
      refine OkF.grd (fun _ => ?_)
      refine OkF.eq 5 (Y := fun f => if oc S x0 11 = true then rk px kx f (d + 6) 84 31 [some (.ref x0), some (.int x1), some (.int ((S.2.1 a2 15) - x1))] (va_rf (S.2.2.2.1 x0 3) :: []) S else none) (fun f => rfl) ?_
      refine OkF.grd (fun _ => ?_)
      refine OkF.rf (fun a3 => ?_)
      refine OkF.eq 2 (Y := fun f => if oc S a3 4 = true then (rk px kx f (d + 5) 85 0 [some (.ref a3), some (.int x1), none] [] S).bind (fun q => rk px kx f (d + 6) 84 35 [some (.ref x0), some (.int x1), some (.int ((S.2.1 a2 15) - x1))] (q.1.toList ++ []) q.2) else none) (fun f => rfl) ?_
      refine OkF.grd (fun _ => ?_)
      refine OkF.bind (w1 := wV) (om85 (d + 0) a3 x1 S) (fun q4 => ?_)
      exact OkF.ret 2 (fun f => rfl)
    · exact OkF.ret 2 (fun f => rfl)
-- DoorSold.noKeeping(I)Z
def m87 (x0 : Int32) (S : Sx) : Option (Int32 × Sx) :=
  if x0 < 0 then some ((1 : Int32), S) else if x0 < (3 : Int32) then some ((0 : Int32), S) else some ((1 : Int32), S)
set_option maxRecDepth 100000 in
theorem om87 (d : Nat) (x0 : Int32) (S : Sx) : OkF wI (fun f => rk px kx f (d + 0) 87 0 [some (.int x0)] [] S) (m87 x0 S) := by
  unfold m87
  refine OkF.eq 2 (Y := fun f => if x0 < 0 then rk px kx f (d + 0) 87 9 [some (.int x0)] [] S else rk px kx f (d + 0) 87 4 [some (.int x0)] [] S) (fun f => rfl) ?_
  refine OkF.ite (fun _ => ?_) (fun _ => ?_)
  · exact OkF.ret 3 (fun f => rfl)
  · refine OkF.eq 3 (Y := fun f => if x0 < (3 : Int32) then rk px kx f (d + 0) 87 13 [some (.int x0)] [] S else rk px kx f (d + 0) 87 9 [some (.int x0)] [] S) (fun f => rfl) ?_
    refine OkF.ite (fun _ => ?_) (fun _ => ?_)
    · exact OkF.ret 2 (fun f => rfl)
    · exact OkF.ret 3 (fun f => rfl)
-- DoorSold.keep(I)I
def m86 (x0 : Nat) (x1 : Int32) (S : Sx) : Option (Int32 × Sx) :=
  (m87 x1 S).bind fun q1 => if q1.1 = 0 then if oc q1.2 x0 11 = true then (q1.2.2.2.2.1 x0 3).bind fun a2 => if oc q1.2 a2 4 = true then if (q1.2.2.1 a2 9) = 0 then some ((-4 : Int32), q1.2) else if oc q1.2 x0 11 = true then (q1.2.2.2.2.1 x0 5).bind fun a3 => if inb x1 (aw q1.2 5 a3) = true then (q1.2.2.2.2.1 a3 x1.toNatClampNeg).bind fun a4 => if oc q1.2 x0 11 = true then (q1.2.2.2.2.1 x0 3).bind fun a5 => if oc q1.2 a4 4 = true then (m41 a4 a5 q1.2).bind fun q6 => if oc q6 x0 11 = true then (q6.2.2.2.1 x0 3).bind fun a7 => if oc q6 a7 4 = true then some (q6.2.1 a7 15, q6) else none else none else none else none else none else none else none else none else some ((-1 : Int32), q1.2)
set_option maxRecDepth 100000 in
theorem om86 (d : Nat) (x0 : Nat) (x1 : Int32) (S : Sx) : OkF wI (fun f => rk px kx f (d + 2) 86 0 [some (.ref x0), some (.int x1)] [] S) (m86 x0 x1 S) := by
  unfold m86
  refine OkF.eq 2 (Y := fun f => (rk px kx f (d + 1) 87 0 [some (.int x1)] [] S).bind (fun q => rk px kx f (d + 2) 86 4 [some (.ref x0), some (.int x1)] (q.1.toList ++ []) q.2)) (fun f => rfl) ?_
  refine OkF.bind (w1 := wI) (om87 (d + 1) x1 S) (fun q1 => ?_)
  refine OkF.eq 1 (Y := fun f => if q1.1 = 0 then rk px kx f (d + 2) 86 9 [some (.ref x0), some (.int x1)] [] q1.2 else rk px kx f (d + 2) 86 7 [some (.ref x0), some (.int x1)] [] q1.2) (fun f => rfl) ?_
  refine OkF.ite (fun _ => ?_) (fun _ => ?_)
  · refine OkF.eq 2 (Y := fun f => if oc q1.2 x0 11 = true then rk px kx f (d + 2) 86 13 [some (.ref x0), some (.int x1)] (va_rf (q1.2.2.2.2.1 x0 3) :: []) q1.2 else none) (fun f => rfl) ?_
    refine OkF.grd (fun _ => ?_)
    refine OkF.rf (fun a2 => ?_)
    refine OkF.eq 1 (Y := fun f => if oc q1.2 a2 4 = true then rk px kx f (d + 2) 86 16 [some (.ref x0), some (.int x1)] [.int (q1.2.2.1 a2 9)] q1.2 else none) (fun f => rfl) ?_
    refine OkF.grd (fun _ => ?_)
    refine OkF.eq 1 (Y := fun f => if (q1.2.2.1 a2 9) = 0 then rk px kx f (d + 2) 86 19 [some (.ref x0), some (.int x1)] [] q1.2 else rk px kx f (d + 2) 86 22 [some (.ref x0), some (.int x1)] [] q1.2) (fun f => rfl) ?_
    refine OkF.ite (fun _ => ?_) (fun _ => ?_)
    · exact OkF.ret 2 (fun f => rfl)
    · refine OkF.eq 2 (Y := fun f => if oc q1.2 x0 11 = true then rk px kx f (d + 2) 86 26 [some (.ref x0), some (.int x1)] (va_rf (q1.2.2.2.2.1 x0 5) :: []) q1.2 else none) (fun f => rfl) ?_
      refine OkF.grd (fun _ => ?_)
      refine OkF.rf (fun a3 => ?_)
      refine OkF.eq 2 (Y := fun f => if inb x1 (aw q1.2 5 a3) = true then rk px kx f (d + 2) 86 28 [some (.ref x0), some (.int x1)] (va_rf (q1.2.2.2.2.1 a3 x1.toNatClampNeg) :: []) q1.2 else none) (fun f => rfl) ?_
      refine OkF.grd (fun _ => ?_)
      refine OkF.rf (fun a4 => ?_)
      refine OkF.eq 2 (Y := fun f => if oc q1.2 x0 11 = true then rk px kx f (d + 2) 86 32 [some (.ref x0), some (.int x1)] (va_rf (q1.2.2.2.2.1 x0 3) :: [.ref a4]) q1.2 else none) (fun f => rfl) ?_
      refine OkF.grd (fun _ => ?_)
      refine OkF.rf (fun a5 => ?_)
      refine OkF.eq 1 (Y := fun f => if oc q1.2 a4 4 = true then (rk px kx f (d + 1) 41 0 [some (.ref a4), some (.ref a5)] [] q1.2).bind (fun q => rk px kx f (d + 2) 86 35 [some (.ref x0), some (.int x1)] (q.1.toList ++ []) q.2) else none) (fun f => rfl) ?_
      refine OkF.grd (fun _ => ?_)
      refine OkF.bind (w1 := wV) (om41 (d + 0) a4 a5 q1.2) (fun q6 => ?_)
      refine OkF.eq 2 (Y := fun f => if oc q6 x0 11 = true then rk px kx f (d + 2) 86 39 [some (.ref x0), some (.int x1)] (va_rf (q6.2.2.2.1 x0 3) :: []) q6 else none) (fun f => rfl) ?_
      refine OkF.grd (fun _ => ?_)
      refine OkF.rf (fun a7 => ?_)
      refine OkF.eq 1 (Y := fun f => if oc q6 a7 4 = true then rk px kx f (d + 2) 86 42 [some (.ref x0), some (.int x1)] [.int (q6.2.1 a7 15)] q6 else none) (fun f => rfl) ?_
      refine OkF.grd (fun _ => ?_)
      exact OkF.ret 1 (fun f => rfl)
  · exact OkF.ret 2 (fun f => rfl)
-- DoorSold.on(I)I
def m88 (x0 : Nat) (x1 : Int32) (S : Sx) : Option (Int32 × Sx) :=
  (m87 x1 S).bind fun q1 => if q1.1 = 0 then if oc q1.2 x0 11 = true then (q1.2.2.2.2.1 x0 5).bind fun a2 => if inb x1 (aw q1.2 5 a2) = true then (q1.2.2.2.2.1 a2 x1.toNatClampNeg).bind fun a3 => if oc q1.2 a3 4 = true then if (q1.2.2.1 a3 9) = 0 then if oc q1.2 x0 11 = true then (m15 x0 (1 : Int32) q1.2).bind fun q4 => some (q4.1, q4.2) else none else if oc q1.2 x0 11 = true then (q1.2.2.2.2.1 x0 3).bind fun a5 => if oc q1.2 x0 11 = true then (q1.2.2.2.2.1 x0 5).bind fun a6 => if inb x1 (aw q1.2 5 a6) = true then (q1.2.2.2.2.1 a6 x1.toNatClampNeg).bind fun a7 => if oc q1.2 a5 4 = true then (m41 a5 a7 q1.2).bind fun q8 => if oc q8 x0 11 = true then (q8.2.2.2.1 x0 3).bind fun a9 => if oc q8 a9 4 = true then some (q8.2.1 a9 15, q8) else none else none else none else none else none else none else none else none else none else some ((-1 : Int32), q1.2)
set_option maxRecDepth 100000 in
theorem om88 (d : Nat) (x0 : Nat) (x1 : Int32) (S : Sx) : OkF wI (fun f => rk px kx f (d + 2) 88 0 [some (.ref x0), some (.int x1)] [] S) (m88 x0 x1 S) := by
  unfold m88
  refine OkF.eq 2 (Y := fun f => (rk px kx f (d + 1) 87 0 [some (.int x1)] [] S).bind (fun q => rk px kx f (d + 2) 88 4 [some (.ref x0), some (.int x1)] (q.1.toList ++ []) q.2)) (fun f => rfl) ?_
  refine OkF.bind (w1 := wI) (om87 (d + 1) x1 S) (fun q1 => ?_)
  refine OkF.eq 1 (Y := fun f => if q1.1 = 0 then rk px kx f (d + 2) 88 9 [some (.ref x0), some (.int x1)] [] q1.2 else rk px kx f (d + 2) 88 7 [some (.ref x0), some (.int x1)] [] q1.2) (fun f => rfl) ?_
  refine OkF.ite (fun _ => ?_) (fun _ => ?_)
  · refine OkF.eq 2 (Y := fun f => if oc q1.2 x0 11 = true then rk px kx f (d + 2) 88 13 [some (.ref x0), some (.int x1)] (va_rf (q1.2.2.2.2.1 x0 5) :: []) q1.2 else none) (fun f => rfl) ?_
    refine OkF.grd (fun _ => ?_)
    refine OkF.rf (fun a2 => ?_)
    refine OkF.eq 2 (Y := fun f => if inb x1 (aw q1.2 5 a2) = true then rk px kx f (d + 2) 88 15 [some (.ref x0), some (.int x1)] (va_rf (q1.2.2.2.2.1 a2 x1.toNatClampNeg) :: []) q1.2 else none) (fun f => rfl) ?_
    refine OkF.grd (fun _ => ?_)
    refine OkF.rf (fun a3 => ?_)
    refine OkF.eq 1 (Y := fun f => if oc q1.2 a3 4 = true then rk px kx f (d + 2) 88 18 [some (.ref x0), some (.int x1)] [.int (q1.2.2.1 a3 9)] q1.2 else none) (fun f => rfl) ?_
    refine OkF.grd (fun _ => ?_)
    refine OkF.eq 1 (Y := fun f => if (q1.2.2.1 a3 9) = 0 then rk px kx f (d + 2) 88 21 [some (.ref x0), some (.int x1)] [] q1.2 else rk px kx f (d + 2) 88 27 [some (.ref x0), some (.int x1)] [] q1.2) (fun f => rfl) ?_
    refine OkF.ite (fun _ => ?_) (fun _ => ?_)
    · refine OkF.eq 3 (Y := fun f => if oc q1.2 x0 11 = true then (rk px kx f (d + 1) 15 0 [some (.ref x0), some (.int (1 : Int32))] [] q1.2).bind (fun q => rk px kx f (d + 2) 88 26 [some (.ref x0), some (.int x1)] (q.1.toList ++ []) q.2) else none) (fun f => rfl) ?_
      refine OkF.grd (fun _ => ?_)
      refine OkF.bind (w1 := wI) (om15 (d + 1) x0 (1 : Int32) q1.2) (fun q4 => ?_)
      exact OkF.ret 1 (fun f => rfl)
    · refine OkF.eq 2 (Y := fun f => if oc q1.2 x0 11 = true then rk px kx f (d + 2) 88 31 [some (.ref x0), some (.int x1)] (va_rf (q1.2.2.2.2.1 x0 3) :: []) q1.2 else none) (fun f => rfl) ?_
      refine OkF.grd (fun _ => ?_)
      refine OkF.rf (fun a5 => ?_)
      refine OkF.eq 2 (Y := fun f => if oc q1.2 x0 11 = true then rk px kx f (d + 2) 88 35 [some (.ref x0), some (.int x1)] (va_rf (q1.2.2.2.2.1 x0 5) :: [.ref a5]) q1.2 else none) (fun f => rfl) ?_
      refine OkF.grd (fun _ => ?_)
      refine OkF.rf (fun a6 => ?_)
      refine OkF.eq 2 (Y := fun f => if inb x1 (aw q1.2 5 a6) = true then rk px kx f (d + 2) 88 37 [some (.ref x0), some (.int x1)] (va_rf (q1.2.2.2.2.1 a6 x1.toNatClampNeg) :: [.ref a5]) q1.2 else none) (fun f => rfl) ?_
      refine OkF.grd (fun _ => ?_)
      refine OkF.rf (fun a7 => ?_)
      refine OkF.eq 1 (Y := fun f => if oc q1.2 a5 4 = true then (rk px kx f (d + 1) 41 0 [some (.ref a5), some (.ref a7)] [] q1.2).bind (fun q => rk px kx f (d + 2) 88 40 [some (.ref x0), some (.int x1)] (q.1.toList ++ []) q.2) else none) (fun f => rfl) ?_
      refine OkF.grd (fun _ => ?_)
      refine OkF.bind (w1 := wV) (om41 (d + 0) a5 a7 q1.2) (fun q8 => ?_)
      refine OkF.eq 2 (Y := fun f => if oc q8 x0 11 = true then rk px kx f (d + 2) 88 44 [some (.ref x0), some (.int x1)] (va_rf (q8.2.2.2.1 x0 3) :: []) q8 else none) (fun f => rfl) ?_
      refine OkF.grd (fun _ => ?_)
      refine OkF.rf (fun a9 => ?_)
      refine OkF.eq 1 (Y := fun f => if oc q8 a9 4 = true then rk px kx f (d + 2) 88 47 [some (.ref x0), some (.int x1)] [.int (q8.2.1 a9 15)] q8 else none) (fun f => rfl) ?_
      refine OkF.grd (fun _ => ?_)
      exact OkF.ret 1 (fun f => rfl)
  · exact OkF.ret 2 (fun f => rfl)
-- DoorSold.noHours(I)Z
def m90 (x0 : Int32) (S : Sx) : Option (Int32 × Sx) :=
  if x0 < 0 then some ((1 : Int32), S) else if x0 ≤ (30 : Int32) then some ((0 : Int32), S) else some ((1 : Int32), S)
set_option maxRecDepth 100000 in
theorem om90 (d : Nat) (x0 : Int32) (S : Sx) : OkF wI (fun f => rk px kx f (d + 0) 90 0 [some (.int x0)] [] S) (m90 x0 S) := by
  unfold m90
  refine OkF.eq 2 (Y := fun f => if x0 < 0 then rk px kx f (d + 0) 90 10 [some (.int x0)] [] S else rk px kx f (d + 0) 90 4 [some (.int x0)] [] S) (fun f => rfl) ?_
  refine OkF.ite (fun _ => ?_) (fun _ => ?_)
  · exact OkF.ret 3 (fun f => rfl)
  · refine OkF.eq 3 (Y := fun f => if x0 ≤ (30 : Int32) then rk px kx f (d + 0) 90 14 [some (.int x0)] [] S else rk px kx f (d + 0) 90 10 [some (.int x0)] [] S) (fun f => rfl) ?_
    refine OkF.ite (fun _ => ?_) (fun _ => ?_)
    · exact OkF.ret 2 (fun f => rfl)
    · exact OkF.ret 3 (fun f => rfl)
-- DoorSold$Ways.start(LDoorSold$Country;)V
def b92_2 (k2 : Nat → Nat → Int32 → Sx → Option (Sx)) (x0 : Nat) (x1 : Nat) (x2 : Int32) (S : Sx) : Option (Sx) :=
  if (30 : Int32) < x2 then if oc S x0 10 = true then (S.2.2.2.1 x0 0).bind fun a1 => if oc S x1 4 = true then if inb (0 : Int32) (aw S 1 a1) = true then lt (sI S a1 (0 : Int32).toNatClampNeg ((1 : Int32) <<< ((S.2.1 x1 12) &&& 31))) fun S2 => some S2 else none else none else none else if oc S x0 10 = true then (S.2.2.2.1 x0 0).bind fun a3 => if inb x2 (aw S 1 a3) = true then lt (sI S a3 x2.toNatClampNeg (0 : Int32)) fun S4 => k2 x0 x1 (x2 + (1 : Int32)) S4 else none else none
set_option maxRecDepth 100000 in
theorem ob92_2 (d : Nat) (k2 : Nat → Nat → Int32 → Sx → Option (Sx)) (hk2 : ∀ (x0 : Nat) (x1 : Nat) (x2 : Int32) (S : Sx), OkF wV (fun f => rk px kx f (d + 0) 92 2 [some (.ref x0), some (.ref x1), some (.int x2)] [] S) (k2 x0 x1 x2 S)) (x0 : Nat) (x1 : Nat) (x2 : Int32) (S : Sx) : OkF wV (fun f => rk px kx f (d + 0) 92 2 [some (.ref x0), some (.ref x1), some (.int x2)] [] S) (b92_2 k2 x0 x1 x2 S) := by
  unfold b92_2
  refine OkF.eq 3 (Y := fun f => if (30 : Int32) < x2 then rk px kx f (d + 0) 92 21 [some (.ref x0), some (.ref x1), some (.int x2)] [] S else rk px kx f (d + 0) 92 8 [some (.ref x0), some (.ref x1), some (.int x2)] [] S) (fun f => rfl) ?_
  refine OkF.ite (fun _ => ?_) (fun _ => ?_)
  · refine OkF.eq 2 (Y := fun f => if oc S x0 10 = true then rk px kx f (d + 0) 92 25 [some (.ref x0), some (.ref x1), some (.int x2)] (va_rf (S.2.2.2.1 x0 0) :: []) S else none) (fun f => rfl) ?_
    refine OkF.grd (fun _ => ?_)
    refine OkF.rf (fun a1 => ?_)
    refine OkF.eq 4 (Y := fun f => if oc S x1 4 = true then rk px kx f (d + 0) 92 31 [some (.ref x0), some (.ref x1), some (.int x2)] [.int (S.2.1 x1 12), .int (1 : Int32), .int (0 : Int32), .ref a1] S else none) (fun f => rfl) ?_
    refine OkF.grd (fun _ => ?_)
    refine OkF.eq 2 (Y := fun f => if inb (0 : Int32) (aw S 1 a1) = true then rk px kx f (d + 0) 92 33 [some (.ref x0), some (.ref x1), some (.int x2)] [] (sI S a1 (0 : Int32).toNatClampNeg ((1 : Int32) <<< ((S.2.1 x1 12) &&& 31))) else none) (fun f => rfl) ?_
    refine OkF.grd (fun _ => ?_)
    refine OkF.nm (fun S2 => ?_)
    exact OkF.ret 1 (fun f => rfl)
  · refine OkF.eq 2 (Y := fun f => if oc S x0 10 = true then rk px kx f (d + 0) 92 12 [some (.ref x0), some (.ref x1), some (.int x2)] (va_rf (S.2.2.2.1 x0 0) :: []) S else none) (fun f => rfl) ?_
    refine OkF.grd (fun _ => ?_)
    refine OkF.rf (fun a3 => ?_)
    refine OkF.eq 3 (Y := fun f => if inb x2 (aw S 1 a3) = true then rk px kx f (d + 0) 92 15 [some (.ref x0), some (.ref x1), some (.int x2)] [] (sI S a3 x2.toNatClampNeg (0 : Int32)) else none) (fun f => rfl) ?_
    refine OkF.grd (fun _ => ?_)
    refine OkF.nm (fun S4 => ?_)
    refine OkF.eq 2 (Y := fun f => rk px kx f (d + 0) 92 2 [some (.ref x0), some (.ref x1), some (.int (x2 + (1 : Int32)))] [] S4) (fun f => rfl) ?_
    exact OkF.kl (ls1 := [some (.ref x0), some (.ref x1), some (.int (x2 + (1 : Int32)))]) (fun f => rfl) (hk2 x0 x1 (x2 + (1 : Int32)) S4)
def l92_2 : Nat → Nat → Nat → Int32 → Sx → Option (Sx)
  | 0 => fun _ _ _ _ => none
  | n + 1 => fun x0 x1 x2 S => b92_2 (l92_2 n) x0 x1 x2 S
set_option maxRecDepth 100000 in
theorem ol92_2 (d : Nat) : ∀ (n : Nat) (x0 : Nat) (x1 : Nat) (x2 : Int32) (S : Sx), OkF wV (fun f => rk px kx f (d + 0) 92 2 [some (.ref x0), some (.ref x1), some (.int x2)] [] S) (l92_2 n x0 x1 x2 S) := by
  intro n
  induction n with
  | zero => intro x0 x1 x2 S; exact OkF.no
  | succ n ih => intro x0 x1 x2 S; exact ob92_2 d (l92_2 n) ih x0 x1 x2 S
def m92 (x0 : Nat) (x1 : Nat) (S : Sx) : Option (Sx) :=
  l92_2 1000 x0 x1 (0 : Int32) S
set_option maxRecDepth 100000 in
theorem om92 (d : Nat) (x0 : Nat) (x1 : Nat) (S : Sx) : OkF wV (fun f => rk px kx f (d + 0) 92 0 [some (.ref x0), some (.ref x1), none] [] S) (m92 x0 x1 S) := by
  unfold m92
  refine OkF.eq 2 (Y := fun f => rk px kx f (d + 0) 92 2 [some (.ref x0), some (.ref x1), some (.int (0 : Int32))] [] S) (fun f => rfl) ?_
  exact OkF.kl (ls1 := [some (.ref x0), some (.ref x1), some (.int (0 : Int32))]) (fun f => rfl) (ol92_2 d 1000 x0 x1 (0 : Int32) S)
-- DoorSold$Ways.land(II)V
def m94 (x0 : Nat) (x1 : Int32) (x2 : Int32) (S : Sx) : Option (Sx) :=
  if (30 : Int32) < x1 then some S else if oc S x0 10 = true then (S.2.2.2.1 x0 0).bind fun a1 => if inb x1 (al S a1) = true then if inb x1 (aw S 1 a1) = true then lt (sI S a1 x1.toNatClampNeg ((S.2.1 a1 x1.toNatClampNeg) ||| x2)) fun S2 => some S2 else none else none else none
set_option maxRecDepth 100000 in
theorem om94 (d : Nat) (x0 : Nat) (x1 : Int32) (x2 : Int32) (S : Sx) : OkF wV (fun f => rk px kx f (d + 0) 94 0 [some (.ref x0), some (.int x1), some (.int x2)] [] S) (m94 x0 x1 x2 S) := by
  unfold m94
  refine OkF.eq 3 (Y := fun f => if (30 : Int32) < x1 then rk px kx f (d + 0) 94 16 [some (.ref x0), some (.int x1), some (.int x2)] [] S else rk px kx f (d + 0) 94 6 [some (.ref x0), some (.int x1), some (.int x2)] [] S) (fun f => rfl) ?_
  refine OkF.ite (fun _ => ?_) (fun _ => ?_)
  · exact OkF.ret 1 (fun f => rfl)
  · refine OkF.eq 2 (Y := fun f => if oc S x0 10 = true then rk px kx f (d + 0) 94 10 [some (.ref x0), some (.int x1), some (.int x2)] (va_rf (S.2.2.2.1 x0 0) :: []) S else none) (fun f => rfl) ?_
    refine OkF.grd (fun _ => ?_)
    refine OkF.rf (fun a1 => ?_)
    refine OkF.eq 3 (Y := fun f => if inb x1 (al S a1) = true then rk px kx f (d + 0) 94 13 [some (.ref x0), some (.int x1), some (.int x2)] [.int (S.2.1 a1 x1.toNatClampNeg), .int x1, .ref a1] S else none) (fun f => rfl) ?_
    refine OkF.grd (fun _ => ?_)
    refine OkF.eq 3 (Y := fun f => if inb x1 (aw S 1 a1) = true then rk px kx f (d + 0) 94 16 [some (.ref x0), some (.int x1), some (.int x2)] [] (sI S a1 x1.toNatClampNeg ((S.2.1 a1 x1.toNatClampNeg) ||| x2)) else none) (fun f => rfl) ?_
    refine OkF.grd (fun _ => ?_)
    refine OkF.nm (fun S2 => ?_)
    exact OkF.ret 1 (fun f => rfl)
-- DoorSold$Ways.oneOn(LDoorSold$Country;I)I
def m95 (x0 : Nat) (x1 : Int32) (S : Sx) : Option (Int32 × Sx) :=
  if oc S x0 4 = true then (m12 (0 : Int32) ((S.2.1 x0 8) - (1 : Int32)) S).bind fun q1 => if (x1 &&& ((1 : Int32) <<< (q1.1 &&& 31))) = 0 then some (((x1 &&& (((1 : Int32) <<< (q1.1 &&& 31)) ^^^ (-1 : Int32))) <<< ((1 : Int32) &&& 31)) ||| (0 : Int32), q1.2) else some (((x1 &&& (((1 : Int32) <<< (q1.1 &&& 31)) ^^^ (-1 : Int32))) <<< ((1 : Int32) &&& 31)) ||| (1 : Int32), q1.2) else none
set_option maxRecDepth 100000 in
theorem om95 (d : Nat) (x0 : Nat) (x1 : Int32) (S : Sx) : OkF wI (fun f => rk px kx f (d + 1) 95 0 [some (.ref x0), some (.int x1), none] [] S) (m95 x0 x1 S) := by
  unfold m95
  refine OkF.eq 4 (Y := fun f => if oc S x0 4 = true then rk px kx f (d + 1) 95 6 [some (.ref x0), some (.int x1), none] [.int (S.2.1 x0 8), .int (0 : Int32), .int (1 : Int32)] S else none) (fun f => rfl) ?_
  refine OkF.grd (fun _ => ?_)
  refine OkF.eq 3 (Y := fun f => (rk px kx f (d + 0) 12 0 [some (.int (0 : Int32)), some (.int ((S.2.1 x0 8) - (1 : Int32)))] [] S).bind (fun q => rk px kx f (d + 1) 95 11 [some (.ref x0), some (.int x1), none] (q.1.toList ++ [.int (1 : Int32)]) q.2)) (fun f => rfl) ?_
  refine OkF.bind (w1 := wI) (om12 (d + 0) (0 : Int32) ((S.2.1 x0 8) - (1 : Int32)) S) (fun q1 => ?_)
  refine OkF.eq 13 (Y := fun f => if (x1 &&& ((1 : Int32) <<< (q1.1 &&& 31))) = 0 then rk px kx f (d + 1) 95 30 [some (.ref x0), some (.int x1), some (.int ((1 : Int32) <<< (q1.1 &&& 31)))] [.int ((x1 &&& (((1 : Int32) <<< (q1.1 &&& 31)) ^^^ (-1 : Int32))) <<< ((1 : Int32) &&& 31))] q1.2 else rk px kx f (d + 1) 95 26 [some (.ref x0), some (.int x1), some (.int ((1 : Int32) <<< (q1.1 &&& 31)))] [.int ((x1 &&& (((1 : Int32) <<< (q1.1 &&& 31)) ^^^ (-1 : Int32))) <<< ((1 : Int32) &&& 31))] q1.2) (fun f => rfl) ?_
  refine OkF.ite (fun _ => ?_) (fun _ => ?_)
  · exact OkF.ret 3 (fun f => rfl)
  · exact OkF.ret 4 (fun f => rfl)
-- DoorSold$Ways.canPassAfter(LDoorSold$Country;II)Z
def m96 (x0 : Nat) (x1 : Nat) (x2 : Int32) (x3 : Int32) (S : Sx) : Option (Int32 × Sx) :=
  if oc S x1 4 = true then if oc S x1 4 = true then (m57 x1 x2 ((S.2.1 x1 13) + x3) S).bind fun q1 => if q1.1 = 0 then some ((0 : Int32), q1.2) else if oc q1.2 x0 10 = true then (q1.2.2.2.2.1 x0 0).bind fun a2 => if inb x3 (al q1.2 a2) = true then if oc q1.2 x1 4 = true then if oc q1.2 x1 4 = true then (m51 x1 x2 ((q1.2.2.1 x1 13) + x3) q1.2).bind fun q3 => if (((q1.2.2.1 a2 x3.toNatClampNeg) >>> (q3.1 &&& 31)) &&& (1 : Int32)) = (1 : Int32) then some ((1 : Int32), q3.2) else some ((0 : Int32), q3.2) else none else none else none else none else none else none
set_option maxRecDepth 100000 in
theorem om96 (d : Nat) (x0 : Nat) (x1 : Nat) (x2 : Int32) (x3 : Int32) (S : Sx) : OkF wI (fun f => rk px kx f (d + 3) 96 0 [some (.ref x0), some (.ref x1), some (.int x2), some (.int x3)] [] S) (m96 x0 x1 x2 x3 S) := by
  unfold m96
  refine OkF.eq 4 (Y := fun f => if oc S x1 4 = true then rk px kx f (d + 3) 96 6 [some (.ref x0), some (.ref x1), some (.int x2), some (.int x3)] [.int (S.2.1 x1 13), .int x2, .ref x1] S else none) (fun f => rfl) ?_
  refine OkF.grd (fun _ => ?_)
  refine OkF.eq 3 (Y := fun f => if oc S x1 4 = true then (rk px kx f (d + 2) 57 0 [some (.ref x1), some (.int x2), some (.int ((S.2.1 x1 13) + x3))] [] S).bind (fun q => rk px kx f (d + 3) 96 11 [some (.ref x0), some (.ref x1), some (.int x2), some (.int x3)] (q.1.toList ++ []) q.2) else none) (fun f => rfl) ?_
  refine OkF.grd (fun _ => ?_)
  refine OkF.bind (w1 := wI) (om57 (d + 1) x1 x2 ((S.2.1 x1 13) + x3) S) (fun q1 => ?_)
  refine OkF.eq 1 (Y := fun f => if q1.1 = 0 then rk px kx f (d + 3) 96 42 [some (.ref x0), some (.ref x1), some (.int x2), some (.int x3)] [] q1.2 else rk px kx f (d + 3) 96 14 [some (.ref x0), some (.ref x1), some (.int x2), some (.int x3)] [] q1.2) (fun f => rfl) ?_
  refine OkF.ite (fun _ => ?_) (fun _ => ?_)
  · exact OkF.ret 2 (fun f => rfl)
  · refine OkF.eq 2 (Y := fun f => if oc q1.2 x0 10 = true then rk px kx f (d + 3) 96 18 [some (.ref x0), some (.ref x1), some (.int x2), some (.int x3)] (va_rf (q1.2.2.2.2.1 x0 0) :: []) q1.2 else none) (fun f => rfl) ?_
    refine OkF.grd (fun _ => ?_)
    refine OkF.rf (fun a2 => ?_)
    refine OkF.eq 2 (Y := fun f => if inb x3 (al q1.2 a2) = true then rk px kx f (d + 3) 96 20 [some (.ref x0), some (.ref x1), some (.int x2), some (.int x3)] [.int (q1.2.2.1 a2 x3.toNatClampNeg)] q1.2 else none) (fun f => rfl) ?_
    refine OkF.grd (fun _ => ?_)
    refine OkF.eq 4 (Y := fun f => if oc q1.2 x1 4 = true then rk px kx f (d + 3) 96 26 [some (.ref x0), some (.ref x1), some (.int x2), some (.int x3)] [.int (q1.2.2.1 x1 13), .int x2, .ref x1, .int (q1.2.2.1 a2 x3.toNatClampNeg)] q1.2 else none) (fun f => rfl) ?_
    refine OkF.grd (fun _ => ?_)
    refine OkF.eq 3 (Y := fun f => if oc q1.2 x1 4 = true then (rk px kx f (d + 2) 51 0 [some (.ref x1), some (.int x2), some (.int ((q1.2.2.1 x1 13) + x3))] [] q1.2).bind (fun q => rk px kx f (d + 3) 96 31 [some (.ref x0), some (.ref x1), some (.int x2), some (.int x3)] (q.1.toList ++ [.int (q1.2.2.1 a2 x3.toNatClampNeg)]) q.2) else none) (fun f => rfl) ?_
    refine OkF.grd (fun _ => ?_)
    refine OkF.bind (w1 := wI) (om51 (d + 0) x1 x2 ((q1.2.2.1 x1 13) + x3) q1.2) (fun q3 => ?_)
    refine OkF.eq 5 (Y := fun f => if (((q1.2.2.1 a2 x3.toNatClampNeg) >>> (q3.1 &&& 31)) &&& (1 : Int32)) = (1 : Int32) then rk px kx f (d + 3) 96 38 [some (.ref x0), some (.ref x1), some (.int x2), some (.int x3)] [] q3.2 else rk px kx f (d + 3) 96 42 [some (.ref x0), some (.ref x1), some (.int x2), some (.int x3)] [] q3.2) (fun f => rfl) ?_
    refine OkF.ite (fun _ => ?_) (fun _ => ?_)
    · exact OkF.ret 3 (fun f => rfl)
    · exact OkF.ret 2 (fun f => rfl)
-- DoorSold$Ways.spread(LDoorSold$Country;II)V
def b93_83 (k33 : Nat → Nat → Int32 → Int32 → Int32 → Sx → Option (Sx)) (x0 : Nat) (x1 : Nat) (x2 : Int32) (x3 : Int32) (x4 : Int32) (S : Sx) : Option (Sx) :=
  k33 x0 x1 x2 x3 (x4 + (1 : Int32)) S
set_option maxRecDepth 100000 in
theorem ob93_83 (d : Nat) (k33 : Nat → Nat → Int32 → Int32 → Int32 → Sx → Option (Sx)) (hk33 : ∀ (x0 : Nat) (x1 : Nat) (x2 : Int32) (x3 : Int32) (x4 : Int32) (S : Sx), OkF wV (fun f => rk px kx f (d + 4) 93 33 [some (.ref x0), some (.ref x1), some (.int x2), some (.int x3), some (.int x4)] [] S) (k33 x0 x1 x2 x3 x4 S)) (x0 : Nat) (x1 : Nat) (x2 : Int32) (x3 : Int32) (x4 : Int32) (S : Sx) : OkF wV (fun f => rk px kx f (d + 4) 93 83 [some (.ref x0), some (.ref x1), some (.int x2), some (.int x3), some (.int x4)] [] S) (b93_83 k33 x0 x1 x2 x3 x4 S) := by
  unfold b93_83
  refine OkF.eq 2 (Y := fun f => rk px kx f (d + 4) 93 33 [some (.ref x0), some (.ref x1), some (.int x2), some (.int x3), some (.int (x4 + (1 : Int32)))] [] S) (fun f => rfl) ?_
  exact OkF.kl (ls1 := [some (.ref x0), some (.ref x1), some (.int x2), some (.int x3), some (.int (x4 + (1 : Int32)))]) (fun f => rfl) (hk33 x0 x1 x2 x3 (x4 + (1 : Int32)) S)
def b93_33 (k33 : Nat → Nat → Int32 → Int32 → Int32 → Sx → Option (Sx)) (x0 : Nat) (x1 : Nat) (x2 : Int32) (x3 : Int32) (x4 : Int32) (S : Sx) : Option (Sx) :=
  if oc S x1 4 = true then if (S.2.1 x1 9) ≤ x4 then some S else if ((x2 >>> (x4 &&& 31)) &&& (1 : Int32)) = (1 : Int32) then if oc S x0 10 = true then (m96 x0 x1 x4 x3 S).bind fun q1 => if q1.1 = 0 then b93_83 k33 x0 x1 x2 x3 x4 q1.2 else if oc q1.2 x1 4 = true then (m61 x1 x4 q1.2).bind fun q2 => if oc q2.2 x1 4 = true then (m70 x1 x4 q2.2).bind fun q3 => if oc q3.2 x0 10 = true then (m94 x0 (x3 + q2.1) ((1 : Int32) <<< (q3.1 &&& 31)) q3.2).bind fun q4 => b93_83 k33 x0 x1 x2 x3 x4 q4 else none else none else none else none else b93_83 k33 x0 x1 x2 x3 x4 S else none
set_option maxRecDepth 100000 in
theorem ob93_33 (d : Nat) (k33 : Nat → Nat → Int32 → Int32 → Int32 → Sx → Option (Sx)) (hk33 : ∀ (x0 : Nat) (x1 : Nat) (x2 : Int32) (x3 : Int32) (x4 : Int32) (S : Sx), OkF wV (fun f => rk px kx f (d + 4) 93 33 [some (.ref x0), some (.ref x1), some (.int x2), some (.int x3), some (.int x4)] [] S) (k33 x0 x1 x2 x3 x4 S)) (x0 : Nat) (x1 : Nat) (x2 : Int32) (x3 : Int32) (x4 : Int32) (S : Sx) : OkF wV (fun f => rk px kx f (d + 4) 93 33 [some (.ref x0), some (.ref x1), some (.int x2), some (.int x3), some (.int x4)] [] S) (b93_33 k33 x0 x1 x2 x3 x4 S) := by
  unfold b93_33
  refine OkF.eq 3 (Y := fun f => if oc S x1 4 = true then rk px kx f (d + 4) 93 39 [some (.ref x0), some (.ref x1), some (.int x2), some (.int x3), some (.int x4)] [.int (S.2.1 x1 9), .int x4] S else none) (fun f => rfl) ?_
  refine OkF.grd (fun _ => ?_)
  refine OkF.eq 1 (Y := fun f => if (S.2.1 x1 9) ≤ x4 then rk px kx f (d + 4) 93 89 [some (.ref x0), some (.ref x1), some (.int x2), some (.int x3), some (.int x4)] [] S else rk px kx f (d + 4) 93 42 [some (.ref x0), some (.ref x1), some (.int x2), some (.int x3), some (.int x4)] [] S) (fun f => rfl) ?_
  refine OkF.ite (fun _ => ?_) (fun _ => ?_)
  · exact OkF.ret 1 (fun f => rfl)
  · refine OkF.eq 7 (Y := fun f => if ((x2 >>> (x4 &&& 31)) &&& (1 : Int32)) = (1 : Int32) then rk px kx f (d + 4) 93 52 [some (.ref x0), some (.ref x1), some (.int x2), some (.int x3), some (.int x4)] [] S else rk px kx f (d + 4) 93 83 [some (.ref x0), some (.ref x1), some (.int x2), some (.int x3), some (.int x4)] [] S) (fun f => rfl) ?_
    refine OkF.ite (fun _ => ?_) (fun _ => ?_)
    · refine OkF.eq 5 (Y := fun f => if oc S x0 10 = true then (rk px kx f (d + 3) 96 0 [some (.ref x0), some (.ref x1), some (.int x4), some (.int x3)] [] S).bind (fun q => rk px kx f (d + 4) 93 60 [some (.ref x0), some (.ref x1), some (.int x2), some (.int x3), some (.int x4)] (q.1.toList ++ []) q.2) else none) (fun f => rfl) ?_
      refine OkF.grd (fun _ => ?_)
      refine OkF.bind (w1 := wI) (om96 (d + 0) x0 x1 x4 x3 S) (fun q1 => ?_)
      refine OkF.eq 1 (Y := fun f => if q1.1 = 0 then rk px kx f (d + 4) 93 83 [some (.ref x0), some (.ref x1), some (.int x2), some (.int x3), some (.int x4)] [] q1.2 else rk px kx f (d + 4) 93 63 [some (.ref x0), some (.ref x1), some (.int x2), some (.int x3), some (.int x4)] [] q1.2) (fun f => rfl) ?_
      refine OkF.ite (fun _ => ?_) (fun _ => ?_)
      · exact OkF.kl (ls1 := [some (.ref x0), some (.ref x1), some (.int x2), some (.int x3), some (.int x4)]) (fun f => rfl) (ob93_83 d k33 hk33 x0 x1 x2 x3 x4 q1.2)
      · refine OkF.eq 5 (Y := fun f => if oc q1.2 x1 4 = true then (rk px kx f (d + 3) 61 0 [some (.ref x1), some (.int x4)] [] q1.2).bind (fun q => rk px kx f (d + 4) 93 71 [some (.ref x0), some (.ref x1), some (.int x2), some (.int x3), some (.int x4)] (q.1.toList ++ [.int x3, .ref x0]) q.2) else none) (fun f => rfl) ?_
        refine OkF.grd (fun _ => ?_)
        refine OkF.bind (w1 := wI) (om61 (d + 1) x1 x4 q1.2) (fun q2 => ?_)
        refine OkF.eq 5 (Y := fun f => if oc q2.2 x1 4 = true then (rk px kx f (d + 3) 70 0 [some (.ref x1), some (.int x4)] [] q2.2).bind (fun q => rk px kx f (d + 4) 93 79 [some (.ref x0), some (.ref x1), some (.int x2), some (.int x3), some (.int x4)] (q.1.toList ++ [.int (1 : Int32), .int (x3 + q2.1), .ref x0]) q.2) else none) (fun f => rfl) ?_
        refine OkF.grd (fun _ => ?_)
        refine OkF.bind (w1 := wI) (om70 (d + 2) x1 x4 q2.2) (fun q3 => ?_)
        refine OkF.eq 2 (Y := fun f => if oc q3.2 x0 10 = true then (rk px kx f (d + 3) 94 0 [some (.ref x0), some (.int (x3 + q2.1)), some (.int ((1 : Int32) <<< (q3.1 &&& 31)))] [] q3.2).bind (fun q => rk px kx f (d + 4) 93 83 [some (.ref x0), some (.ref x1), some (.int x2), some (.int x3), some (.int x4)] (q.1.toList ++ []) q.2) else none) (fun f => rfl) ?_
        refine OkF.grd (fun _ => ?_)
        refine OkF.bind (w1 := wV) (om94 (d + 3) x0 (x3 + q2.1) ((1 : Int32) <<< (q3.1 &&& 31)) q3.2) (fun q4 => ?_)
        exact OkF.kl (ls1 := [some (.ref x0), some (.ref x1), some (.int x2), some (.int x3), some (.int x4)]) (fun f => rfl) (ob93_83 d k33 hk33 x0 x1 x2 x3 x4 q4)
    · exact OkF.kl (ls1 := [some (.ref x0), some (.ref x1), some (.int x2), some (.int x3), some (.int x4)]) (fun f => rfl) (ob93_83 d k33 hk33 x0 x1 x2 x3 x4 S)
def l93_33 : Nat → Nat → Nat → Int32 → Int32 → Int32 → Sx → Option (Sx)
  | 0 => fun _ _ _ _ _ _ => none
  | n + 1 => fun x0 x1 x2 x3 x4 S => b93_33 (l93_33 n) x0 x1 x2 x3 x4 S
set_option maxRecDepth 100000 in
theorem ol93_33 (d : Nat) : ∀ (n : Nat) (x0 : Nat) (x1 : Nat) (x2 : Int32) (x3 : Int32) (x4 : Int32) (S : Sx), OkF wV (fun f => rk px kx f (d + 4) 93 33 [some (.ref x0), some (.ref x1), some (.int x2), some (.int x3), some (.int x4)] [] S) (l93_33 n x0 x1 x2 x3 x4 S) := by
  intro n
  induction n with
  | zero => intro x0 x1 x2 x3 x4 S; exact OkF.no
  | succ n ih => intro x0 x1 x2 x3 x4 S; exact ob93_33 d (l93_33 n) ih x0 x1 x2 x3 x4 S
def m93 (x0 : Nat) (x1 : Nat) (x2 : Int32) (x3 : Int32) (S : Sx) : Option (Sx) :=
  if oc S x0 10 = true then (S.2.2.2.1 x0 0).bind fun a5 => if inb x3 (al S a5) = true then if oc S x0 10 = true then (m94 x0 (x3 + (1 : Int32)) (S.2.1 a5 x3.toNatClampNeg) S).bind fun q6 => if oc q6 x0 10 = true then (q6.2.2.2.1 x0 0).bind fun a7 => if inb x3 (al q6 a7) = true then (m95 x1 (q6.2.1 a7 x3.toNatClampNeg) q6).bind fun q8 => if oc q8.2 x0 10 = true then (m94 x0 (x3 + (3 : Int32)) q8.1 q8.2).bind fun q9 => l93_33 1000 x0 x1 x2 x3 (0 : Int32) q9 else none else none else none else none else none else none
set_option maxRecDepth 100000 in
theorem om93 (d : Nat) (x0 : Nat) (x1 : Nat) (x2 : Int32) (x3 : Int32) (S : Sx) : OkF wV (fun f => rk px kx f (d + 4) 93 0 [some (.ref x0), some (.ref x1), some (.int x2), some (.int x3), none] [] S) (m93 x0 x1 x2 x3 S) := by
  unfold m93
  refine OkF.eq 6 (Y := fun f => if oc S x0 10 = true then rk px kx f (d + 4) 93 8 [some (.ref x0), some (.ref x1), some (.int x2), some (.int x3), none] (va_rf (S.2.2.2.1 x0 0) :: [.int (x3 + (1 : Int32)), .ref x0]) S else none) (fun f => rfl) ?_
  refine OkF.grd (fun _ => ?_)
  refine OkF.rf (fun a5 => ?_)
  refine OkF.eq 2 (Y := fun f => if inb x3 (al S a5) = true then rk px kx f (d + 4) 93 10 [some (.ref x0), some (.ref x1), some (.int x2), some (.int x3), none] [.int (S.2.1 a5 x3.toNatClampNeg), .int (x3 + (1 : Int32)), .ref x0] S else none) (fun f => rfl) ?_
  refine OkF.grd (fun _ => ?_)
  refine OkF.eq 1 (Y := fun f => if oc S x0 10 = true then (rk px kx f (d + 3) 94 0 [some (.ref x0), some (.int (x3 + (1 : Int32))), some (.int (S.2.1 a5 x3.toNatClampNeg))] [] S).bind (fun q => rk px kx f (d + 4) 93 13 [some (.ref x0), some (.ref x1), some (.int x2), some (.int x3), none] (q.1.toList ++ []) q.2) else none) (fun f => rfl) ?_
  refine OkF.grd (fun _ => ?_)
  refine OkF.bind (w1 := wV) (om94 (d + 3) x0 (x3 + (1 : Int32)) (S.2.1 a5 x3.toNatClampNeg) S) (fun q6 => ?_)
  refine OkF.eq 7 (Y := fun f => if oc q6 x0 10 = true then rk px kx f (d + 4) 93 22 [some (.ref x0), some (.ref x1), some (.int x2), some (.int x3), none] (va_rf (q6.2.2.2.1 x0 0) :: [.ref x1, .int (x3 + (3 : Int32)), .ref x0]) q6 else none) (fun f => rfl) ?_
  refine OkF.grd (fun _ => ?_)
  refine OkF.rf (fun a7 => ?_)
  refine OkF.eq 2 (Y := fun f => if inb x3 (al q6 a7) = true then rk px kx f (d + 4) 93 24 [some (.ref x0), some (.ref x1), some (.int x2), some (.int x3), none] [.int (q6.2.1 a7 x3.toNatClampNeg), .ref x1, .int (x3 + (3 : Int32)), .ref x0] q6 else none) (fun f => rfl) ?_
  refine OkF.grd (fun _ => ?_)
  refine OkF.eq 1 (Y := fun f => (rk px kx f (d + 3) 95 0 [some (.ref x1), some (.int (q6.2.1 a7 x3.toNatClampNeg)), none] [] q6).bind (fun q => rk px kx f (d + 4) 93 27 [some (.ref x0), some (.ref x1), some (.int x2), some (.int x3), none] (q.1.toList ++ [.int (x3 + (3 : Int32)), .ref x0]) q.2)) (fun f => rfl) ?_
  refine OkF.bind (w1 := wI) (om95 (d + 2) x1 (q6.2.1 a7 x3.toNatClampNeg) q6) (fun q8 => ?_)
  refine OkF.eq 1 (Y := fun f => if oc q8.2 x0 10 = true then (rk px kx f (d + 3) 94 0 [some (.ref x0), some (.int (x3 + (3 : Int32))), some (.int q8.1)] [] q8.2).bind (fun q => rk px kx f (d + 4) 93 30 [some (.ref x0), some (.ref x1), some (.int x2), some (.int x3), none] (q.1.toList ++ []) q.2) else none) (fun f => rfl) ?_
  refine OkF.grd (fun _ => ?_)
  refine OkF.bind (w1 := wV) (om94 (d + 3) x0 (x3 + (3 : Int32)) q8.1 q8.2) (fun q9 => ?_)
  refine OkF.eq 2 (Y := fun f => rk px kx f (d + 4) 93 33 [some (.ref x0), some (.ref x1), some (.int x2), some (.int x3), some (.int (0 : Int32))] [] q9) (fun f => rfl) ?_
  exact OkF.kl (ls1 := [some (.ref x0), some (.ref x1), some (.int x2), some (.int x3), some (.int (0 : Int32))]) (fun f => rfl) (ol93_33 d 1000 x0 x1 x2 x3 (0 : Int32) q9)
-- DoorSold$Ways.placesAfter(LDoorSold$Country;II)I
def b91_8 (k8 : Nat → Nat → Int32 → Int32 → Int32 → Sx → Option (Int32 × Sx)) (x0 : Nat) (x1 : Nat) (x2 : Int32) (x3 : Int32) (x4 : Int32) (S : Sx) : Option (Int32 × Sx) :=
  if x3 ≤ x4 then if oc S x0 10 = true then (S.2.2.2.1 x0 0).bind fun a1 => if inb x3 (al S a1) = true then some (S.2.1 a1 x3.toNatClampNeg, S) else none else none else if oc S x0 10 = true then (m93 x0 x1 x2 x4 S).bind fun q2 => k8 x0 x1 x2 x3 (x4 + (1 : Int32)) q2 else none
set_option maxRecDepth 100000 in
theorem ob91_8 (d : Nat) (k8 : Nat → Nat → Int32 → Int32 → Int32 → Sx → Option (Int32 × Sx)) (hk8 : ∀ (x0 : Nat) (x1 : Nat) (x2 : Int32) (x3 : Int32) (x4 : Int32) (S : Sx), OkF wI (fun f => rk px kx f (d + 5) 91 8 [some (.ref x0), some (.ref x1), some (.int x2), some (.int x3), some (.int x4)] [] S) (k8 x0 x1 x2 x3 x4 S)) (x0 : Nat) (x1 : Nat) (x2 : Int32) (x3 : Int32) (x4 : Int32) (S : Sx) : OkF wI (fun f => rk px kx f (d + 5) 91 8 [some (.ref x0), some (.ref x1), some (.int x2), some (.int x3), some (.int x4)] [] S) (b91_8 k8 x0 x1 x2 x3 x4 S) := by
  unfold b91_8
  refine OkF.eq 3 (Y := fun f => if x3 ≤ x4 then rk px kx f (d + 5) 91 28 [some (.ref x0), some (.ref x1), some (.int x2), some (.int x3), some (.int x4)] [] S else rk px kx f (d + 5) 91 14 [some (.ref x0), some (.ref x1), some (.int x2), some (.int x3), some (.int x4)] [] S) (fun f => rfl) ?_
  refine OkF.ite (fun _ => ?_) (fun _ => ?_)
  · refine OkF.eq 2 (Y := fun f => if oc S x0 10 = true then rk px kx f (d + 5) 91 32 [some (.ref x0), some (.ref x1), some (.int x2), some (.int x3), some (.int x4)] (va_rf (S.2.2.2.1 x0 0) :: []) S else none) (fun f => rfl) ?_
    refine OkF.grd (fun _ => ?_)
    refine OkF.rf (fun a1 => ?_)
    refine OkF.eq 2 (Y := fun f => if inb x3 (al S a1) = true then rk px kx f (d + 5) 91 34 [some (.ref x0), some (.ref x1), some (.int x2), some (.int x3), some (.int x4)] [.int (S.2.1 a1 x3.toNatClampNeg)] S else none) (fun f => rfl) ?_
    refine OkF.grd (fun _ => ?_)
    exact OkF.ret 1 (fun f => rfl)
  · refine OkF.eq 5 (Y := fun f => if oc S x0 10 = true then (rk px kx f (d + 4) 93 0 [some (.ref x0), some (.ref x1), some (.int x2), some (.int x4), none] [] S).bind (fun q => rk px kx f (d + 5) 91 22 [some (.ref x0), some (.ref x1), some (.int x2), some (.int x3), some (.int x4)] (q.1.toList ++ []) q.2) else none) (fun f => rfl) ?_
    refine OkF.grd (fun _ => ?_)
    refine OkF.bind (w1 := wV) (om93 (d + 0) x0 x1 x2 x4 S) (fun q2 => ?_)
    refine OkF.eq 2 (Y := fun f => rk px kx f (d + 5) 91 8 [some (.ref x0), some (.ref x1), some (.int x2), some (.int x3), some (.int (x4 + (1 : Int32)))] [] q2) (fun f => rfl) ?_
    exact OkF.kl (ls1 := [some (.ref x0), some (.ref x1), some (.int x2), some (.int x3), some (.int (x4 + (1 : Int32)))]) (fun f => rfl) (hk8 x0 x1 x2 x3 (x4 + (1 : Int32)) q2)
def l91_8 : Nat → Nat → Nat → Int32 → Int32 → Int32 → Sx → Option (Int32 × Sx)
  | 0 => fun _ _ _ _ _ _ => none
  | n + 1 => fun x0 x1 x2 x3 x4 S => b91_8 (l91_8 n) x0 x1 x2 x3 x4 S
set_option maxRecDepth 100000 in
theorem ol91_8 (d : Nat) : ∀ (n : Nat) (x0 : Nat) (x1 : Nat) (x2 : Int32) (x3 : Int32) (x4 : Int32) (S : Sx), OkF wI (fun f => rk px kx f (d + 5) 91 8 [some (.ref x0), some (.ref x1), some (.int x2), some (.int x3), some (.int x4)] [] S) (l91_8 n x0 x1 x2 x3 x4 S) := by
  intro n
  induction n with
  | zero => intro x0 x1 x2 x3 x4 S; exact OkF.no
  | succ n ih => intro x0 x1 x2 x3 x4 S; exact ob91_8 d (l91_8 n) ih x0 x1 x2 x3 x4 S
def m91 (x0 : Nat) (x1 : Nat) (x2 : Int32) (x3 : Int32) (S : Sx) : Option (Int32 × Sx) :=
  if oc S x0 10 = true then (m92 x0 x1 S).bind fun q3 => l91_8 1000 x0 x1 x2 x3 (0 : Int32) q3 else none
set_option maxRecDepth 100000 in
theorem om91 (d : Nat) (x0 : Nat) (x1 : Nat) (x2 : Int32) (x3 : Int32) (S : Sx) : OkF wI (fun f => rk px kx f (d + 5) 91 0 [some (.ref x0), some (.ref x1), some (.int x2), some (.int x3), none] [] S) (m91 x0 x1 x2 x3 S) := by
  unfold m91
  refine OkF.eq 3 (Y := fun f => if oc S x0 10 = true then (rk px kx f (d + 4) 92 0 [some (.ref x0), some (.ref x1), none] [] S).bind (fun q => rk px kx f (d + 5) 91 5 [some (.ref x0), some (.ref x1), some (.int x2), some (.int x3), none] (q.1.toList ++ []) q.2) else none) (fun f => rfl) ?_
  refine OkF.grd (fun _ => ?_)
  refine OkF.bind (w1 := wV) (om92 (d + 4) x0 x1 S) (fun q3 => ?_)
  refine OkF.eq 2 (Y := fun f => rk px kx f (d + 5) 91 8 [some (.ref x0), some (.ref x1), some (.int x2), some (.int x3), some (.int (0 : Int32))] [] q3) (fun f => rfl) ?_
  exact OkF.kl (ls1 := [some (.ref x0), some (.ref x1), some (.int x2), some (.int x3), some (.int (0 : Int32))]) (fun f => rfl) (ol91_8 d 1000 x0 x1 x2 x3 (0 : Int32) q3)
-- DoorSold.where(I)I
def m89 (x0 : Nat) (x1 : Int32) (S : Sx) : Option (Int32 × Sx) :=
  (m90 x1 S).bind fun q1 => if q1.1 = 0 then if oc q1.2 x0 11 = true then (q1.2.2.2.2.1 x0 3).bind fun a2 => if oc q1.2 a2 4 = true then if (q1.2.2.1 a2 9) = 0 then some ((-4 : Int32), q1.2) else if oc q1.2 x0 11 = true then (q1.2.2.2.2.1 x0 7).bind fun a3 => if oc q1.2 x0 11 = true then (q1.2.2.2.2.1 x0 3).bind fun a4 => if oc q1.2 x0 11 = true then (q1.2.2.2.2.1 x0 3).bind fun a5 => if oc q1.2 a5 4 = true then if oc q1.2 a3 10 = true then (m91 a3 a4 (q1.2.2.1 a5 14) x1 q1.2).bind fun q6 => some (q6.1, q6.2) else none else none else none else none else none else none else none else some ((-1 : Int32), q1.2)
set_option maxRecDepth 100000 in
theorem om89 (d : Nat) (x0 : Nat) (x1 : Int32) (S : Sx) : OkF wI (fun f => rk px kx f (d + 6) 89 0 [some (.ref x0), some (.int x1)] [] S) (m89 x0 x1 S) := by
  unfold m89
  refine OkF.eq 2 (Y := fun f => (rk px kx f (d + 5) 90 0 [some (.int x1)] [] S).bind (fun q => rk px kx f (d + 6) 89 4 [some (.ref x0), some (.int x1)] (q.1.toList ++ []) q.2)) (fun f => rfl) ?_
  refine OkF.bind (w1 := wI) (om90 (d + 5) x1 S) (fun q1 => ?_)
  refine OkF.eq 1 (Y := fun f => if q1.1 = 0 then rk px kx f (d + 6) 89 9 [some (.ref x0), some (.int x1)] [] q1.2 else rk px kx f (d + 6) 89 7 [some (.ref x0), some (.int x1)] [] q1.2) (fun f => rfl) ?_
  refine OkF.ite (fun _ => ?_) (fun _ => ?_)
  · refine OkF.eq 2 (Y := fun f => if oc q1.2 x0 11 = true then rk px kx f (d + 6) 89 13 [some (.ref x0), some (.int x1)] (va_rf (q1.2.2.2.2.1 x0 3) :: []) q1.2 else none) (fun f => rfl) ?_
    refine OkF.grd (fun _ => ?_)
    refine OkF.rf (fun a2 => ?_)
    refine OkF.eq 1 (Y := fun f => if oc q1.2 a2 4 = true then rk px kx f (d + 6) 89 16 [some (.ref x0), some (.int x1)] [.int (q1.2.2.1 a2 9)] q1.2 else none) (fun f => rfl) ?_
    refine OkF.grd (fun _ => ?_)
    refine OkF.eq 1 (Y := fun f => if (q1.2.2.1 a2 9) = 0 then rk px kx f (d + 6) 89 19 [some (.ref x0), some (.int x1)] [] q1.2 else rk px kx f (d + 6) 89 22 [some (.ref x0), some (.int x1)] [] q1.2) (fun f => rfl) ?_
    refine OkF.ite (fun _ => ?_) (fun _ => ?_)
    · exact OkF.ret 2 (fun f => rfl)
    · refine OkF.eq 2 (Y := fun f => if oc q1.2 x0 11 = true then rk px kx f (d + 6) 89 26 [some (.ref x0), some (.int x1)] (va_rf (q1.2.2.2.2.1 x0 7) :: []) q1.2 else none) (fun f => rfl) ?_
      refine OkF.grd (fun _ => ?_)
      refine OkF.rf (fun a3 => ?_)
      refine OkF.eq 2 (Y := fun f => if oc q1.2 x0 11 = true then rk px kx f (d + 6) 89 30 [some (.ref x0), some (.int x1)] (va_rf (q1.2.2.2.2.1 x0 3) :: [.ref a3]) q1.2 else none) (fun f => rfl) ?_
      refine OkF.grd (fun _ => ?_)
      refine OkF.rf (fun a4 => ?_)
      refine OkF.eq 2 (Y := fun f => if oc q1.2 x0 11 = true then rk px kx f (d + 6) 89 34 [some (.ref x0), some (.int x1)] (va_rf (q1.2.2.2.2.1 x0 3) :: [.ref a4, .ref a3]) q1.2 else none) (fun f => rfl) ?_
      refine OkF.grd (fun _ => ?_)
      refine OkF.rf (fun a5 => ?_)
      refine OkF.eq 1 (Y := fun f => if oc q1.2 a5 4 = true then rk px kx f (d + 6) 89 37 [some (.ref x0), some (.int x1)] [.int (q1.2.2.1 a5 14), .ref a4, .ref a3] q1.2 else none) (fun f => rfl) ?_
      refine OkF.grd (fun _ => ?_)
      refine OkF.eq 2 (Y := fun f => if oc q1.2 a3 10 = true then (rk px kx f (d + 5) 91 0 [some (.ref a3), some (.ref a4), some (.int (q1.2.2.1 a5 14)), some (.int x1), none] [] q1.2).bind (fun q => rk px kx f (d + 6) 89 41 [some (.ref x0), some (.int x1)] (q.1.toList ++ []) q.2) else none) (fun f => rfl) ?_
      refine OkF.grd (fun _ => ?_)
      refine OkF.bind (w1 := wI) (om91 (d + 0) a3 a4 (q1.2.2.1 a5 14) x1 q1.2) (fun q6 => ?_)
      exact OkF.ret 1 (fun f => rfl)
  · exact OkF.ret 2 (fun f => rfl)
-- DoorSold.noPlace(I)Z
def m98 (x0 : Nat) (x1 : Int32) (S : Sx) : Option (Int32 × Sx) :=
  if x1 < 0 then some ((1 : Int32), S) else if oc S x0 11 = true then (S.2.2.2.1 x0 3).bind fun a1 => if oc S a1 4 = true then if x1 < (S.2.1 a1 8) then some ((0 : Int32), S) else some ((1 : Int32), S) else none else none
set_option maxRecDepth 100000 in
theorem om98 (d : Nat) (x0 : Nat) (x1 : Int32) (S : Sx) : OkF wI (fun f => rk px kx f (d + 0) 98 0 [some (.ref x0), some (.int x1)] [] S) (m98 x0 x1 S) := by
  unfold m98
  refine OkF.eq 2 (Y := fun f => if x1 < 0 then rk px kx f (d + 0) 98 15 [some (.ref x0), some (.int x1)] [] S else rk px kx f (d + 0) 98 4 [some (.ref x0), some (.int x1)] [] S) (fun f => rfl) ?_
  refine OkF.ite (fun _ => ?_) (fun _ => ?_)
  · exact OkF.ret 3 (fun f => rfl)
  · refine OkF.eq 3 (Y := fun f => if oc S x0 11 = true then rk px kx f (d + 0) 98 9 [some (.ref x0), some (.int x1)] (va_rf (S.2.2.2.1 x0 3) :: [.int x1]) S else none) (fun f => rfl) ?_
    refine OkF.grd (fun _ => ?_)
    refine OkF.rf (fun a1 => ?_)
    refine OkF.eq 1 (Y := fun f => if oc S a1 4 = true then rk px kx f (d + 0) 98 12 [some (.ref x0), some (.int x1)] [.int (S.2.1 a1 8), .int x1] S else none) (fun f => rfl) ?_
    refine OkF.grd (fun _ => ?_)
    refine OkF.eq 1 (Y := fun f => if x1 < (S.2.1 a1 8) then rk px kx f (d + 0) 98 19 [some (.ref x0), some (.int x1)] [] S else rk px kx f (d + 0) 98 15 [some (.ref x0), some (.int x1)] [] S) (fun f => rfl) ?_
    refine OkF.ite (fun _ => ?_) (fun _ => ?_)
    · exact OkF.ret 2 (fun f => rfl)
    · exact OkF.ret 3 (fun f => rfl)
-- DoorSold$Ways.hoursTo(LDoorSold$Country;II)I
def b99_8 (k8 : Nat → Nat → Int32 → Int32 → Int32 → Sx → Option (Int32 × Sx)) (x0 : Nat) (x1 : Nat) (x2 : Int32) (x3 : Int32) (x4 : Int32) (S : Sx) : Option (Int32 × Sx) :=
  if (30 : Int32) ≤ x4 then some ((30 : Int32), S) else if oc S x0 10 = true then (S.2.2.2.1 x0 0).bind fun a1 => if inb x4 (al S a1) = true then if (((S.2.1 a1 x4.toNatClampNeg) >>> (x3 &&& 31)) &&& (1 : Int32)) = (1 : Int32) then some (x4, S) else if oc S x0 10 = true then (m93 x0 x1 x2 x4 S).bind fun q2 => k8 x0 x1 x2 x3 (x4 + (1 : Int32)) q2 else none else none else none
set_option maxRecDepth 100000 in
theorem ob99_8 (d : Nat) (k8 : Nat → Nat → Int32 → Int32 → Int32 → Sx → Option (Int32 × Sx)) (hk8 : ∀ (x0 : Nat) (x1 : Nat) (x2 : Int32) (x3 : Int32) (x4 : Int32) (S : Sx), OkF wI (fun f => rk px kx f (d + 5) 99 8 [some (.ref x0), some (.ref x1), some (.int x2), some (.int x3), some (.int x4)] [] S) (k8 x0 x1 x2 x3 x4 S)) (x0 : Nat) (x1 : Nat) (x2 : Int32) (x3 : Int32) (x4 : Int32) (S : Sx) : OkF wI (fun f => rk px kx f (d + 5) 99 8 [some (.ref x0), some (.ref x1), some (.int x2), some (.int x3), some (.int x4)] [] S) (b99_8 k8 x0 x1 x2 x3 x4 S) := by
  unfold b99_8
  refine OkF.eq 3 (Y := fun f => if (30 : Int32) ≤ x4 then rk px kx f (d + 5) 99 47 [some (.ref x0), some (.ref x1), some (.int x2), some (.int x3), some (.int x4)] [] S else rk px kx f (d + 5) 99 15 [some (.ref x0), some (.ref x1), some (.int x2), some (.int x3), some (.int x4)] [] S) (fun f => rfl) ?_
  refine OkF.ite (fun _ => ?_) (fun _ => ?_)
  · exact OkF.ret 2 (fun f => rfl)
  · refine OkF.eq 2 (Y := fun f => if oc S x0 10 = true then rk px kx f (d + 5) 99 19 [some (.ref x0), some (.ref x1), some (.int x2), some (.int x3), some (.int x4)] (va_rf (S.2.2.2.1 x0 0) :: []) S else none) (fun f => rfl) ?_
    refine OkF.grd (fun _ => ?_)
    refine OkF.rf (fun a1 => ?_)
    refine OkF.eq 2 (Y := fun f => if inb x4 (al S a1) = true then rk px kx f (d + 5) 99 22 [some (.ref x0), some (.ref x1), some (.int x2), some (.int x3), some (.int x4)] [.int (S.2.1 a1 x4.toNatClampNeg)] S else none) (fun f => rfl) ?_
    refine OkF.grd (fun _ => ?_)
    refine OkF.eq 6 (Y := fun f => if (((S.2.1 a1 x4.toNatClampNeg) >>> (x3 &&& 31)) &&& (1 : Int32)) = (1 : Int32) then rk px kx f (d + 5) 99 30 [some (.ref x0), some (.ref x1), some (.int x2), some (.int x3), some (.int x4)] [] S else rk px kx f (d + 5) 99 33 [some (.ref x0), some (.ref x1), some (.int x2), some (.int x3), some (.int x4)] [] S) (fun f => rfl) ?_
    refine OkF.ite (fun _ => ?_) (fun _ => ?_)
    · exact OkF.ret 2 (fun f => rfl)
    · refine OkF.eq 5 (Y := fun f => if oc S x0 10 = true then (rk px kx f (d + 4) 93 0 [some (.ref x0), some (.ref x1), some (.int x2), some (.int x4), none] [] S).bind (fun q => rk px kx f (d + 5) 99 41 [some (.ref x0), some (.ref x1), some (.int x2), some (.int x3), some (.int x4)] (q.1.toList ++ []) q.2) else none) (fun f => rfl) ?_
      refine OkF.grd (fun _ => ?_)
      refine OkF.bind (w1 := wV) (om93 (d + 0) x0 x1 x2 x4 S) (fun q2 => ?_)
      refine OkF.eq 2 (Y := fun f => rk px kx f (d + 5) 99 8 [some (.ref x0), some (.ref x1), some (.int x2), some (.int x3), some (.int (x4 + (1 : Int32)))] [] q2) (fun f => rfl) ?_
      exact OkF.kl (ls1 := [some (.ref x0), some (.ref x1), some (.int x2), some (.int x3), some (.int (x4 + (1 : Int32)))]) (fun f => rfl) (hk8 x0 x1 x2 x3 (x4 + (1 : Int32)) q2)
def l99_8 : Nat → Nat → Nat → Int32 → Int32 → Int32 → Sx → Option (Int32 × Sx)
  | 0 => fun _ _ _ _ _ _ => none
  | n + 1 => fun x0 x1 x2 x3 x4 S => b99_8 (l99_8 n) x0 x1 x2 x3 x4 S
set_option maxRecDepth 100000 in
theorem ol99_8 (d : Nat) : ∀ (n : Nat) (x0 : Nat) (x1 : Nat) (x2 : Int32) (x3 : Int32) (x4 : Int32) (S : Sx), OkF wI (fun f => rk px kx f (d + 5) 99 8 [some (.ref x0), some (.ref x1), some (.int x2), some (.int x3), some (.int x4)] [] S) (l99_8 n x0 x1 x2 x3 x4 S) := by
  intro n
  induction n with
  | zero => intro x0 x1 x2 x3 x4 S; exact OkF.no
  | succ n ih => intro x0 x1 x2 x3 x4 S; exact ob99_8 d (l99_8 n) ih x0 x1 x2 x3 x4 S
def m99 (x0 : Nat) (x1 : Nat) (x2 : Int32) (x3 : Int32) (S : Sx) : Option (Int32 × Sx) :=
  if oc S x0 10 = true then (m92 x0 x1 S).bind fun q3 => l99_8 1000 x0 x1 x2 x3 (0 : Int32) q3 else none
set_option maxRecDepth 100000 in
theorem om99 (d : Nat) (x0 : Nat) (x1 : Nat) (x2 : Int32) (x3 : Int32) (S : Sx) : OkF wI (fun f => rk px kx f (d + 5) 99 0 [some (.ref x0), some (.ref x1), some (.int x2), some (.int x3), none] [] S) (m99 x0 x1 x2 x3 S) := by
  unfold m99
  refine OkF.eq 3 (Y := fun f => if oc S x0 10 = true then (rk px kx f (d + 4) 92 0 [some (.ref x0), some (.ref x1), none] [] S).bind (fun q => rk px kx f (d + 5) 99 5 [some (.ref x0), some (.ref x1), some (.int x2), some (.int x3), none] (q.1.toList ++ []) q.2) else none) (fun f => rfl) ?_
  refine OkF.grd (fun _ => ?_)
  refine OkF.bind (w1 := wV) (om92 (d + 4) x0 x1 S) (fun q3 => ?_)
  refine OkF.eq 2 (Y := fun f => rk px kx f (d + 5) 99 8 [some (.ref x0), some (.ref x1), some (.int x2), some (.int x3), some (.int (0 : Int32))] [] q3) (fun f => rfl) ?_
  exact OkF.kl (ls1 := [some (.ref x0), some (.ref x1), some (.int x2), some (.int x3), some (.int (0 : Int32))]) (fun f => rfl) (ol99_8 d 1000 x0 x1 x2 x3 (0 : Int32) q3)
-- java/lang/Integer.bitCount(I)I
def m100 (x0 : Int32) (S : Sx) : Option (Int32 × Sx) :=
  some ((((((((x0 - (((x0.toUInt32 >>> ((1 : Int32).toUInt32 &&& Int32.toUInt32 31)).toInt32) &&& (1431655765 : Int32))) &&& (858993459 : Int32)) + ((((x0 - (((x0.toUInt32 >>> ((1 : Int32).toUInt32 &&& Int32.toUInt32 31)).toInt32) &&& (1431655765 : Int32))).toUInt32 >>> ((2 : Int32).toUInt32 &&& Int32.toUInt32 31)).toInt32) &&& (858993459 : Int32))) + (((((x0 - (((x0.toUInt32 >>> ((1 : Int32).toUInt32 &&& Int32.toUInt32 31)).toInt32) &&& (1431655765 : Int32))) &&& (858993459 : Int32)) + ((((x0 - (((x0.toUInt32 >>> ((1 : Int32).toUInt32 &&& Int32.toUInt32 31)).toInt32) &&& (1431655765 : Int32))).toUInt32 >>> ((2 : Int32).toUInt32 &&& Int32.toUInt32 31)).toInt32) &&& (858993459 : Int32))).toUInt32 >>> ((4 : Int32).toUInt32 &&& Int32.toUInt32 31)).toInt32)) &&& (252645135 : Int32)) + (((((((x0 - (((x0.toUInt32 >>> ((1 : Int32).toUInt32 &&& Int32.toUInt32 31)).toInt32) &&& (1431655765 : Int32))) &&& (858993459 : Int32)) + ((((x0 - (((x0.toUInt32 >>> ((1 : Int32).toUInt32 &&& Int32.toUInt32 31)).toInt32) &&& (1431655765 : Int32))).toUInt32 >>> ((2 : Int32).toUInt32 &&& Int32.toUInt32 31)).toInt32) &&& (858993459 : Int32))) + (((((x0 - (((x0.toUInt32 >>> ((1 : Int32).toUInt32 &&& Int32.toUInt32 31)).toInt32) &&& (1431655765 : Int32))) &&& (858993459 : Int32)) + ((((x0 - (((x0.toUInt32 >>> ((1 : Int32).toUInt32 &&& Int32.toUInt32 31)).toInt32) &&& (1431655765 : Int32))).toUInt32 >>> ((2 : Int32).toUInt32 &&& Int32.toUInt32 31)).toInt32) &&& (858993459 : Int32))).toUInt32 >>> ((4 : Int32).toUInt32 &&& Int32.toUInt32 31)).toInt32)) &&& (252645135 : Int32)).toUInt32 >>> ((8 : Int32).toUInt32 &&& Int32.toUInt32 31)).toInt32)) + ((((((((x0 - (((x0.toUInt32 >>> ((1 : Int32).toUInt32 &&& Int32.toUInt32 31)).toInt32) &&& (1431655765 : Int32))) &&& (858993459 : Int32)) + ((((x0 - (((x0.toUInt32 >>> ((1 : Int32).toUInt32 &&& Int32.toUInt32 31)).toInt32) &&& (1431655765 : Int32))).toUInt32 >>> ((2 : Int32).toUInt32 &&& Int32.toUInt32 31)).toInt32) &&& (858993459 : Int32))) + (((((x0 - (((x0.toUInt32 >>> ((1 : Int32).toUInt32 &&& Int32.toUInt32 31)).toInt32) &&& (1431655765 : Int32))) &&& (858993459 : Int32)) + ((((x0 - (((x0.toUInt32 >>> ((1 : Int32).toUInt32 &&& Int32.toUInt32 31)).toInt32) &&& (1431655765 : Int32))).toUInt32 >>> ((2 : Int32).toUInt32 &&& Int32.toUInt32 31)).toInt32) &&& (858993459 : Int32))).toUInt32 >>> ((4 : Int32).toUInt32 &&& Int32.toUInt32 31)).toInt32)) &&& (252645135 : Int32)) + (((((((x0 - (((x0.toUInt32 >>> ((1 : Int32).toUInt32 &&& Int32.toUInt32 31)).toInt32) &&& (1431655765 : Int32))) &&& (858993459 : Int32)) + ((((x0 - (((x0.toUInt32 >>> ((1 : Int32).toUInt32 &&& Int32.toUInt32 31)).toInt32) &&& (1431655765 : Int32))).toUInt32 >>> ((2 : Int32).toUInt32 &&& Int32.toUInt32 31)).toInt32) &&& (858993459 : Int32))) + (((((x0 - (((x0.toUInt32 >>> ((1 : Int32).toUInt32 &&& Int32.toUInt32 31)).toInt32) &&& (1431655765 : Int32))) &&& (858993459 : Int32)) + ((((x0 - (((x0.toUInt32 >>> ((1 : Int32).toUInt32 &&& Int32.toUInt32 31)).toInt32) &&& (1431655765 : Int32))).toUInt32 >>> ((2 : Int32).toUInt32 &&& Int32.toUInt32 31)).toInt32) &&& (858993459 : Int32))).toUInt32 >>> ((4 : Int32).toUInt32 &&& Int32.toUInt32 31)).toInt32)) &&& (252645135 : Int32)).toUInt32 >>> ((8 : Int32).toUInt32 &&& Int32.toUInt32 31)).toInt32)).toUInt32 >>> ((16 : Int32).toUInt32 &&& Int32.toUInt32 31)).toInt32)) &&& (63 : Int32), S)
set_option maxRecDepth 100000 in
theorem om100 (d : Nat) (x0 : Int32) (S : Sx) : OkF wI (fun f => rk px kx f (d + 0) 100 0 [some (.int x0)] [] S) (m100 x0 S) := by
  unfold m100
  exact OkF.ret 42 (fun f => rfl)
-- DoorSold.soonest(I)I
def m97 (x0 : Nat) (x1 : Int32) (S : Sx) : Option (Int32 × Sx) :=
  if oc S x0 11 = true then (m98 x0 x1 S).bind fun q1 => if q1.1 = 0 then if oc q1.2 x0 11 = true then (q1.2.2.2.2.1 x0 7).bind fun a2 => if oc q1.2 x0 11 = true then (q1.2.2.2.2.1 x0 3).bind fun a3 => if oc q1.2 x0 11 = true then (q1.2.2.2.2.1 x0 3).bind fun a4 => if oc q1.2 a4 4 = true then if oc q1.2 a2 10 = true then (m99 a2 a3 (q1.2.2.1 a4 14) x1 q1.2).bind fun q5 => if oc q5.2 x0 11 = true then (q5.2.2.2.2.1 x0 7).bind fun a6 => if oc q5.2 a6 10 = true then (q5.2.2.2.2.1 a6 0).bind fun a7 => if inb q5.1 (al q5.2 a7) = true then (m100 (q5.2.2.1 a7 q5.1.toNatClampNeg) q5.2).bind fun q8 => if oc q8.2 x0 11 = true then lt (sI q8.2 x0 12 q8.1) fun S9 => some (q5.1, S9) else none else none else none else none else none else none else none else none else none else some ((-1 : Int32), q1.2) else none
set_option maxRecDepth 100000 in
theorem om97 (d : Nat) (x0 : Nat) (x1 : Int32) (S : Sx) : OkF wI (fun f => rk px kx f (d + 6) 97 0 [some (.ref x0), some (.int x1), none] [] S) (m97 x0 x1 S) := by
  unfold m97
  refine OkF.eq 3 (Y := fun f => if oc S x0 11 = true then (rk px kx f (d + 5) 98 0 [some (.ref x0), some (.int x1)] [] S).bind (fun q => rk px kx f (d + 6) 97 5 [some (.ref x0), some (.int x1), none] (q.1.toList ++ []) q.2) else none) (fun f => rfl) ?_
  refine OkF.grd (fun _ => ?_)
  refine OkF.bind (w1 := wI) (om98 (d + 5) x0 x1 S) (fun q1 => ?_)
  refine OkF.eq 1 (Y := fun f => if q1.1 = 0 then rk px kx f (d + 6) 97 10 [some (.ref x0), some (.int x1), none] [] q1.2 else rk px kx f (d + 6) 97 8 [some (.ref x0), some (.int x1), none] [] q1.2) (fun f => rfl) ?_
  refine OkF.ite (fun _ => ?_) (fun _ => ?_)
  · refine OkF.eq 2 (Y := fun f => if oc q1.2 x0 11 = true then rk px kx f (d + 6) 97 14 [some (.ref x0), some (.int x1), none] (va_rf (q1.2.2.2.2.1 x0 7) :: []) q1.2 else none) (fun f => rfl) ?_
    refine OkF.grd (fun _ => ?_)
    refine OkF.rf (fun a2 => ?_)
    refine OkF.eq 2 (Y := fun f => if oc q1.2 x0 11 = true then rk px kx f (d + 6) 97 18 [some (.ref x0), some (.int x1), none] (va_rf (q1.2.2.2.2.1 x0 3) :: [.ref a2]) q1.2 else none) (fun f => rfl) ?_
    refine OkF.grd (fun _ => ?_)
    refine OkF.rf (fun a3 => ?_)
    refine OkF.eq 2 (Y := fun f => if oc q1.2 x0 11 = true then rk px kx f (d + 6) 97 22 [some (.ref x0), some (.int x1), none] (va_rf (q1.2.2.2.2.1 x0 3) :: [.ref a3, .ref a2]) q1.2 else none) (fun f => rfl) ?_
    refine OkF.grd (fun _ => ?_)
    refine OkF.rf (fun a4 => ?_)
    refine OkF.eq 1 (Y := fun f => if oc q1.2 a4 4 = true then rk px kx f (d + 6) 97 25 [some (.ref x0), some (.int x1), none] [.int (q1.2.2.1 a4 14), .ref a3, .ref a2] q1.2 else none) (fun f => rfl) ?_
    refine OkF.grd (fun _ => ?_)
    refine OkF.eq 2 (Y := fun f => if oc q1.2 a2 10 = true then (rk px kx f (d + 5) 99 0 [some (.ref a2), some (.ref a3), some (.int (q1.2.2.1 a4 14)), some (.int x1), none] [] q1.2).bind (fun q => rk px kx f (d + 6) 97 29 [some (.ref x0), some (.int x1), none] (q.1.toList ++ []) q.2) else none) (fun f => rfl) ?_
    refine OkF.grd (fun _ => ?_)
    refine OkF.bind (w1 := wI) (om99 (d + 0) a2 a3 (q1.2.2.1 a4 14) x1 q1.2) (fun q5 => ?_)
    refine OkF.eq 4 (Y := fun f => if oc q5.2 x0 11 = true then rk px kx f (d + 6) 97 35 [some (.ref x0), some (.int x1), some (.int q5.1)] (va_rf (q5.2.2.2.2.1 x0 7) :: [.ref x0]) q5.2 else none) (fun f => rfl) ?_
    refine OkF.grd (fun _ => ?_)
    refine OkF.rf (fun a6 => ?_)
    refine OkF.eq 1 (Y := fun f => if oc q5.2 a6 10 = true then rk px kx f (d + 6) 97 38 [some (.ref x0), some (.int x1), some (.int q5.1)] (va_rf (q5.2.2.2.2.1 a6 0) :: [.ref x0]) q5.2 else none) (fun f => rfl) ?_
    refine OkF.grd (fun _ => ?_)
    refine OkF.rf (fun a7 => ?_)
    refine OkF.eq 2 (Y := fun f => if inb q5.1 (al q5.2 a7) = true then rk px kx f (d + 6) 97 40 [some (.ref x0), some (.int x1), some (.int q5.1)] [.int (q5.2.2.1 a7 q5.1.toNatClampNeg), .ref x0] q5.2 else none) (fun f => rfl) ?_
    refine OkF.grd (fun _ => ?_)
    refine OkF.eq 1 (Y := fun f => (rk px kx f (d + 5) 100 0 [some (.int (q5.2.2.1 a7 q5.1.toNatClampNeg))] [] q5.2).bind (fun q => rk px kx f (d + 6) 97 43 [some (.ref x0), some (.int x1), some (.int q5.1)] (q.1.toList ++ [.ref x0]) q.2)) (fun f => rfl) ?_
    refine OkF.bind (w1 := wI) (om100 (d + 5) (q5.2.2.1 a7 q5.1.toNatClampNeg) q5.2) (fun q8 => ?_)
    refine OkF.eq 1 (Y := fun f => if oc q8.2 x0 11 = true then rk px kx f (d + 6) 97 46 [some (.ref x0), some (.int x1), some (.int q5.1)] [] (sI q8.2 x0 12 q8.1) else none) (fun f => rfl) ?_
    refine OkF.grd (fun _ => ?_)
    refine OkF.nm (fun S9 => ?_)
    exact OkF.ret 2 (fun f => rfl)
  · exact OkF.ret 2 (fun f => rfl)
-- DoorSold$Ways.canStep(LDoorSold$Country;III)Z
def m104 (x0 : Nat) (x1 : Int32) (x2 : Int32) (x3 : Int32) (S : Sx) : Option (Int32 × Sx) :=
  if x1 = (6 : Int32) then some ((1 : Int32), S) else if x1 = (7 : Int32) then some ((1 : Int32), S) else if oc S x0 4 = true then if oc S x0 4 = true then if (S.2.1 x0 9) ≤ x1 then some ((0 : Int32), S) else if oc S x0 4 = true then (m66 x0 x1 S).bind fun q1 => if q1.1 = 0 then some ((0 : Int32), q1.2) else if oc q1.2 x0 4 = true then (m57 x0 x1 ((S.2.1 x0 13) + x3) q1.2).bind fun q2 => if q2.1 = 0 then some ((0 : Int32), q2.2) else if oc q2.2 x0 4 = true then (m51 x0 x1 ((S.2.1 x0 13) + x3) q2.2).bind fun q3 => if q3.1 = x2 then some ((1 : Int32), q3.2) else some ((0 : Int32), q3.2) else none else none else none else none else none
set_option maxRecDepth 100000 in
theorem om104 (d : Nat) (x0 : Nat) (x1 : Int32) (x2 : Int32) (x3 : Int32) (S : Sx) : OkF wI (fun f => rk px kx f (d + 3) 104 0 [some (.ref x0), some (.int x1), some (.int x2), some (.int x3), none] [] S) (m104 x0 x1 x2 x3 S) := by
  unfold m104
  refine OkF.eq 3 (Y := fun f => if x1 = (6 : Int32) then rk px kx f (d + 3) 104 12 [some (.ref x0), some (.int x1), some (.int x2), some (.int x3), none] [] S else rk px kx f (d + 3) 104 6 [some (.ref x0), some (.int x1), some (.int x2), some (.int x3), none] [] S) (fun f => rfl) ?_
  refine OkF.ite (fun _ => ?_) (fun _ => ?_)
  · exact OkF.ret 2 (fun f => rfl)
  · refine OkF.eq 3 (Y := fun f => if x1 = (7 : Int32) then rk px kx f (d + 3) 104 12 [some (.ref x0), some (.int x1), some (.int x2), some (.int x3), none] [] S else rk px kx f (d + 3) 104 14 [some (.ref x0), some (.int x1), some (.int x2), some (.int x3), none] [] S) (fun f => rfl) ?_
    refine OkF.ite (fun _ => ?_) (fun _ => ?_)
    · exact OkF.ret 2 (fun f => rfl)
    · refine OkF.eq 2 (Y := fun f => if oc S x0 4 = true then rk px kx f (d + 3) 104 18 [some (.ref x0), some (.int x1), some (.int x2), some (.int x3), none] [.int (S.2.1 x0 13)] S else none) (fun f => rfl) ?_
      refine OkF.grd (fun _ => ?_)
      refine OkF.eq 6 (Y := fun f => if oc S x0 4 = true then rk px kx f (d + 3) 104 27 [some (.ref x0), some (.int x1), some (.int x2), some (.int x3), some (.int ((S.2.1 x0 13) + x3))] [.int (S.2.1 x0 9), .int x1] S else none) (fun f => rfl) ?_
      refine OkF.grd (fun _ => ?_)
      refine OkF.eq 1 (Y := fun f => if (S.2.1 x0 9) ≤ x1 then rk px kx f (d + 3) 104 63 [some (.ref x0), some (.int x1), some (.int x2), some (.int x3), some (.int ((S.2.1 x0 13) + x3))] [] S else rk px kx f (d + 3) 104 30 [some (.ref x0), some (.int x1), some (.int x2), some (.int x3), some (.int ((S.2.1 x0 13) + x3))] [] S) (fun f => rfl) ?_
      refine OkF.ite (fun _ => ?_) (fun _ => ?_)
      · exact OkF.ret 2 (fun f => rfl)
      · refine OkF.eq 3 (Y := fun f => if oc S x0 4 = true then (rk px kx f (d + 2) 66 0 [some (.ref x0), some (.int x1)] [] S).bind (fun q => rk px kx f (d + 3) 104 35 [some (.ref x0), some (.int x1), some (.int x2), some (.int x3), some (.int ((S.2.1 x0 13) + x3))] (q.1.toList ++ []) q.2) else none) (fun f => rfl) ?_
        refine OkF.grd (fun _ => ?_)
        refine OkF.bind (w1 := wI) (om66 (d + 2) x0 x1 S) (fun q1 => ?_)
        refine OkF.eq 1 (Y := fun f => if q1.1 = 0 then rk px kx f (d + 3) 104 63 [some (.ref x0), some (.int x1), some (.int x2), some (.int x3), some (.int ((S.2.1 x0 13) + x3))] [] q1.2 else rk px kx f (d + 3) 104 38 [some (.ref x0), some (.int x1), some (.int x2), some (.int x3), some (.int ((S.2.1 x0 13) + x3))] [] q1.2) (fun f => rfl) ?_
        refine OkF.ite (fun _ => ?_) (fun _ => ?_)
        · exact OkF.ret 2 (fun f => rfl)
        · refine OkF.eq 4 (Y := fun f => if oc q1.2 x0 4 = true then (rk px kx f (d + 2) 57 0 [some (.ref x0), some (.int x1), some (.int ((S.2.1 x0 13) + x3))] [] q1.2).bind (fun q => rk px kx f (d + 3) 104 45 [some (.ref x0), some (.int x1), some (.int x2), some (.int x3), some (.int ((S.2.1 x0 13) + x3))] (q.1.toList ++ []) q.2) else none) (fun f => rfl) ?_
          refine OkF.grd (fun _ => ?_)
          refine OkF.bind (w1 := wI) (om57 (d + 1) x0 x1 ((S.2.1 x0 13) + x3) q1.2) (fun q2 => ?_)
          refine OkF.eq 1 (Y := fun f => if q2.1 = 0 then rk px kx f (d + 3) 104 63 [some (.ref x0), some (.int x1), some (.int x2), some (.int x3), some (.int ((S.2.1 x0 13) + x3))] [] q2.2 else rk px kx f (d + 3) 104 48 [some (.ref x0), some (.int x1), some (.int x2), some (.int x3), some (.int ((S.2.1 x0 13) + x3))] [] q2.2) (fun f => rfl) ?_
          refine OkF.ite (fun _ => ?_) (fun _ => ?_)
          · exact OkF.ret 2 (fun f => rfl)
          · refine OkF.eq 4 (Y := fun f => if oc q2.2 x0 4 = true then (rk px kx f (d + 2) 51 0 [some (.ref x0), some (.int x1), some (.int ((S.2.1 x0 13) + x3))] [] q2.2).bind (fun q => rk px kx f (d + 3) 104 55 [some (.ref x0), some (.int x1), some (.int x2), some (.int x3), some (.int ((S.2.1 x0 13) + x3))] (q.1.toList ++ []) q.2) else none) (fun f => rfl) ?_
            refine OkF.grd (fun _ => ?_)
            refine OkF.bind (w1 := wI) (om51 (d + 0) x0 x1 ((S.2.1 x0 13) + x3) q2.2) (fun q3 => ?_)
            refine OkF.eq 2 (Y := fun f => if q3.1 = x2 then rk px kx f (d + 3) 104 59 [some (.ref x0), some (.int x1), some (.int x2), some (.int x3), some (.int ((S.2.1 x0 13) + x3))] [] q3.2 else rk px kx f (d + 3) 104 63 [some (.ref x0), some (.int x1), some (.int x2), some (.int x3), some (.int ((S.2.1 x0 13) + x3))] [] q3.2) (fun f => rfl) ?_
            refine OkF.ite (fun _ => ?_) (fun _ => ?_)
            · exact OkF.ret 3 (fun f => rfl)
            · exact OkF.ret 2 (fun f => rfl)
