-- DoorSold$Country.hasRoomFor(I)Z
def m74 (x0 : Nat) (x1 : Int32) (S : Sx) : Option (Int32 × Sx) :=
  if oc S x0 4 = true then if (40 : Int32) < ((S.2.1 x0 15) + x1) then some ((0 : Int32), S) else some ((1 : Int32), S) else none
set_option maxRecDepth 100000 in
theorem om74 (d : Nat) (x0 : Nat) (x1 : Int32) (S : Sx) : OkF wI (fun f => rk px kx f (d + 0) 74 0 [some (.ref x0), some (.int x1)] [] S) (m74 x0 x1 S) := by
  unfold m74
  refine OkF.eq 2 (Y := fun f => if oc S x0 4 = true then rk px kx f (d + 0) 74 4 [some (.ref x0), some (.int x1)] [.int (S.2.1 x0 15)] S else none) (fun f => rfl) ?_
  refine OkF.grd (fun _ => ?_)
  refine OkF.eq 4 (Y := fun f => if (40 : Int32) < ((S.2.1 x0 15) + x1) then rk px kx f (d + 0) 74 15 [some (.ref x0), some (.int x1)] [] S else rk px kx f (d + 0) 74 11 [some (.ref x0), some (.int x1)] [] S) (fun f => rfl) ?_
  refine OkF.ite (fun _ => ?_) (fun _ => ?_)
  · exact OkF.ret 2 (fun f => rfl)
  · exact OkF.ret 3 (fun f => rfl)
-- DoorSold$Country.setUp(I)V
def m76 (x0 : Nat) (x1 : Int32) (S : Sx) : Option (Sx) :=
  if oc S x0 4 = true then (m68 x0 x1 (2 : Int32) S).bind fun q1 => if q1.1 = 0 then if oc q1.2 x0 4 = true then (m68 x0 x1 (5 : Int32) q1.2).bind fun q2 => if q2.1 = 0 then if oc q2.2 x0 4 = true then (q2.2.2.2.2.1 x0 3).bind fun a3 => if oc q2.2 x0 4 = true then if inb x1 (aw q2.2 1 a3) = true then lt (sI q2.2 a3 x1.toNatClampNeg (q2.2.2.1 x0 12)) fun S4 => some S4 else none else none else none else if oc q2.2 x0 4 = true then (q2.2.2.2.2.1 x0 3).bind fun a5 => if oc q2.2 x0 4 = true then if oc q2.2 x0 4 = true then if oc q2.2 x0 4 = true then (m55 x0 ((q2.2.2.1 x0 12) - (q2.2.2.1 x0 13)) q2.2).bind fun q6 => if inb x1 (aw q6.2 1 a5) = true then lt (sI q6.2 a5 x1.toNatClampNeg q6.1) fun S7 => some S7 else none else none else none else none else none else none else if oc q1.2 x0 4 = true then (q1.2.2.2.2.1 x0 4).bind fun a8 => if oc q1.2 x0 4 = true then if inb x1 (aw q1.2 1 a8) = true then lt (sI q1.2 a8 x1.toNatClampNeg (q1.2.2.1 x0 12)) fun S9 => some S9 else none else none else none else none
set_option maxRecDepth 100000 in
theorem om76 (d : Nat) (x0 : Nat) (x1 : Int32) (S : Sx) : OkF wV (fun f => rk px kx f (d + 2) 76 0 [some (.ref x0), some (.int x1)] [] S) (m76 x0 x1 S) := by
  unfold m76
  refine OkF.eq 4 (Y := fun f => if oc S x0 4 = true then (rk px kx f (d + 1) 68 0 [some (.ref x0), some (.int x1), some (.int (2 : Int32)), none] [] S).bind (fun q => rk px kx f (d + 2) 76 6 [some (.ref x0), some (.int x1)] (q.1.toList ++ []) q.2) else none) (fun f => rfl) ?_
  refine OkF.grd (fun _ => ?_)
  refine OkF.bind (w1 := wI) (om68 (d + 0) x0 x1 (2 : Int32) S) (fun q1 => ?_)
  refine OkF.eq 1 (Y := fun f => if q1.1 = 0 then rk px kx f (d + 2) 76 22 [some (.ref x0), some (.int x1)] [] q1.2 else rk px kx f (d + 2) 76 9 [some (.ref x0), some (.int x1)] [] q1.2) (fun f => rfl) ?_
  refine OkF.ite (fun _ => ?_) (fun _ => ?_)
  · refine OkF.eq 4 (Y := fun f => if oc q1.2 x0 4 = true then (rk px kx f (d + 1) 68 0 [some (.ref x0), some (.int x1), some (.int (5 : Int32)), none] [] q1.2).bind (fun q => rk px kx f (d + 2) 76 28 [some (.ref x0), some (.int x1)] (q.1.toList ++ []) q.2) else none) (fun f => rfl) ?_
    refine OkF.grd (fun _ => ?_)
    refine OkF.bind (w1 := wI) (om68 (d + 0) x0 x1 (5 : Int32) q1.2) (fun q2 => ?_)
    refine OkF.eq 1 (Y := fun f => if q2.1 = 0 then rk px kx f (d + 2) 76 53 [some (.ref x0), some (.int x1)] [] q2.2 else rk px kx f (d + 2) 76 31 [some (.ref x0), some (.int x1)] [] q2.2) (fun f => rfl) ?_
    refine OkF.ite (fun _ => ?_) (fun _ => ?_)
    · refine OkF.eq 2 (Y := fun f => if oc q2.2 x0 4 = true then rk px kx f (d + 2) 76 57 [some (.ref x0), some (.int x1)] (va_rf (q2.2.2.2.2.1 x0 3) :: []) q2.2 else none) (fun f => rfl) ?_
      refine OkF.grd (fun _ => ?_)
      refine OkF.rf (fun a3 => ?_)
      refine OkF.eq 3 (Y := fun f => if oc q2.2 x0 4 = true then rk px kx f (d + 2) 76 62 [some (.ref x0), some (.int x1)] [.int (q2.2.2.1 x0 12), .int x1, .ref a3] q2.2 else none) (fun f => rfl) ?_
      refine OkF.grd (fun _ => ?_)
      refine OkF.eq 1 (Y := fun f => if inb x1 (aw q2.2 1 a3) = true then rk px kx f (d + 2) 76 63 [some (.ref x0), some (.int x1)] [] (sI q2.2 a3 x1.toNatClampNeg (q2.2.2.1 x0 12)) else none) (fun f => rfl) ?_
      refine OkF.grd (fun _ => ?_)
      refine OkF.nm (fun S4 => ?_)
      exact OkF.ret 1 (fun f => rfl)
    · refine OkF.eq 2 (Y := fun f => if oc q2.2 x0 4 = true then rk px kx f (d + 2) 76 35 [some (.ref x0), some (.int x1)] (va_rf (q2.2.2.2.2.1 x0 3) :: []) q2.2 else none) (fun f => rfl) ?_
      refine OkF.grd (fun _ => ?_)
      refine OkF.rf (fun a5 => ?_)
      refine OkF.eq 4 (Y := fun f => if oc q2.2 x0 4 = true then rk px kx f (d + 2) 76 41 [some (.ref x0), some (.int x1)] [.int (q2.2.2.1 x0 12), .ref x0, .int x1, .ref a5] q2.2 else none) (fun f => rfl) ?_
      refine OkF.grd (fun _ => ?_)
      refine OkF.eq 2 (Y := fun f => if oc q2.2 x0 4 = true then rk px kx f (d + 2) 76 45 [some (.ref x0), some (.int x1)] [.int (q2.2.2.1 x0 13), .int (q2.2.2.1 x0 12), .ref x0, .int x1, .ref a5] q2.2 else none) (fun f => rfl) ?_
      refine OkF.grd (fun _ => ?_)
      refine OkF.eq 2 (Y := fun f => if oc q2.2 x0 4 = true then (rk px kx f (d + 1) 55 0 [some (.ref x0), some (.int ((q2.2.2.1 x0 12) - (q2.2.2.1 x0 13)))] [] q2.2).bind (fun q => rk px kx f (d + 2) 76 49 [some (.ref x0), some (.int x1)] (q.1.toList ++ [.int x1, .ref a5]) q.2) else none) (fun f => rfl) ?_
      refine OkF.grd (fun _ => ?_)
      refine OkF.bind (w1 := wI) (om55 (d + 0) x0 ((q2.2.2.1 x0 12) - (q2.2.2.1 x0 13)) q2.2) (fun q6 => ?_)
      refine OkF.eq 1 (Y := fun f => if inb x1 (aw q6.2 1 a5) = true then rk px kx f (d + 2) 76 50 [some (.ref x0), some (.int x1)] [] (sI q6.2 a5 x1.toNatClampNeg q6.1) else none) (fun f => rfl) ?_
      refine OkF.grd (fun _ => ?_)
      refine OkF.nm (fun S7 => ?_)
      exact OkF.ret 2 (fun f => rfl)
  · refine OkF.eq 2 (Y := fun f => if oc q1.2 x0 4 = true then rk px kx f (d + 2) 76 13 [some (.ref x0), some (.int x1)] (va_rf (q1.2.2.2.2.1 x0 4) :: []) q1.2 else none) (fun f => rfl) ?_
    refine OkF.grd (fun _ => ?_)
    refine OkF.rf (fun a8 => ?_)
    refine OkF.eq 3 (Y := fun f => if oc q1.2 x0 4 = true then rk px kx f (d + 2) 76 18 [some (.ref x0), some (.int x1)] [.int (q1.2.2.1 x0 12), .int x1, .ref a8] q1.2 else none) (fun f => rfl) ?_
    refine OkF.grd (fun _ => ?_)
    refine OkF.eq 1 (Y := fun f => if inb x1 (aw q1.2 1 a8) = true then rk px kx f (d + 2) 76 19 [some (.ref x0), some (.int x1)] [] (sI q1.2 a8 x1.toNatClampNeg (q1.2.2.1 x0 12)) else none) (fun f => rfl) ?_
    refine OkF.grd (fun _ => ?_)
    refine OkF.nm (fun S9 => ?_)
    exact OkF.ret 2 (fun f => rfl)
-- DoorSold$Country.pass(I)V
def m77 (x0 : Nat) (x1 : Int32) (S : Sx) : Option (Sx) :=
  if oc S x0 4 = true then (m70 x0 x1 S).bind fun q1 => if oc q1.2 x0 4 = true then lt (sI q1.2 x0 12 q1.1) fun S2 => if oc S2 x0 4 = true then if oc S2 x0 4 = true then (m61 x0 x1 S2).bind fun q3 => if oc q3.2 x0 4 = true then lt (sI q3.2 x0 13 ((S2.2.1 x0 13) + q3.1)) fun S4 => some S4 else none else none else none else none else none
set_option maxRecDepth 100000 in
theorem om77 (d : Nat) (x0 : Nat) (x1 : Int32) (S : Sx) : OkF wV (fun f => rk px kx f (d + 3) 77 0 [some (.ref x0), some (.int x1)] [] S) (m77 x0 x1 S) := by
  unfold m77
  refine OkF.eq 4 (Y := fun f => if oc S x0 4 = true then (rk px kx f (d + 2) 70 0 [some (.ref x0), some (.int x1)] [] S).bind (fun q => rk px kx f (d + 3) 77 6 [some (.ref x0), some (.int x1)] (q.1.toList ++ [.ref x0]) q.2) else none) (fun f => rfl) ?_
  refine OkF.grd (fun _ => ?_)
  refine OkF.bind (w1 := wI) (om70 (d + 1) x0 x1 S) (fun q1 => ?_)
  refine OkF.eq 1 (Y := fun f => if oc q1.2 x0 4 = true then rk px kx f (d + 3) 77 9 [some (.ref x0), some (.int x1)] [] (sI q1.2 x0 12 q1.1) else none) (fun f => rfl) ?_
  refine OkF.grd (fun _ => ?_)
  refine OkF.nm (fun S2 => ?_)
  refine OkF.eq 3 (Y := fun f => if oc S2 x0 4 = true then rk px kx f (d + 3) 77 14 [some (.ref x0), some (.int x1)] [.int (S2.2.1 x0 13), .ref x0] S2 else none) (fun f => rfl) ?_
  refine OkF.grd (fun _ => ?_)
  refine OkF.eq 3 (Y := fun f => if oc S2 x0 4 = true then (rk px kx f (d + 2) 61 0 [some (.ref x0), some (.int x1)] [] S2).bind (fun q => rk px kx f (d + 3) 77 19 [some (.ref x0), some (.int x1)] (q.1.toList ++ [.int (S2.2.1 x0 13), .ref x0]) q.2) else none) (fun f => rfl) ?_
  refine OkF.grd (fun _ => ?_)
  refine OkF.bind (w1 := wI) (om61 (d + 0) x0 x1 S2) (fun q3 => ?_)
  refine OkF.eq 2 (Y := fun f => if oc q3.2 x0 4 = true then rk px kx f (d + 3) 77 23 [some (.ref x0), some (.int x1)] [] (sI q3.2 x0 13 ((S2.2.1 x0 13) + q3.1)) else none) (fun f => rfl) ?_
  refine OkF.grd (fun _ => ?_)
  refine OkF.nm (fun S4 => ?_)
  exact OkF.ret 1 (fun f => rfl)
-- DoorSold$Country.perform(I)V
def m75 (x0 : Nat) (x1 : Int32) (S : Sx) : Option (Sx) :=
  if oc S x0 4 = true then (m74 x0 (1 : Int32) S).bind fun q1 => if q1.1 = 0 then some q1.2 else if oc q1.2 x0 4 = true then (q1.2.2.2.2.1 x0 7).bind fun a2 => if oc q1.2 x0 4 = true then if inb (q1.2.2.1 x0 15) (aw q1.2 1 a2) = true then lt (sI q1.2 a2 (q1.2.2.1 x0 15).toNatClampNeg x1) fun S3 => if oc S3 x0 4 = true then if oc S3 x0 4 = true then lt (sI S3 x0 15 ((S3.2.1 x0 15) + (1 : Int32))) fun S4 => if x1 = (6 : Int32) then if oc S4 x0 4 = true then if oc S4 x0 4 = true then (m55 x0 ((S4.2.1 x0 12) + (1 : Int32)) S4).bind fun q5 => if oc q5.2 x0 4 = true then lt (sI q5.2 x0 12 q5.1) fun S6 => if oc S6 x0 4 = true then if oc S6 x0 4 = true then lt (sI S6 x0 13 ((S6.2.1 x0 13) + (3 : Int32))) fun S7 => some S7 else none else none else none else none else none else if x1 = (7 : Int32) then if oc S4 x0 4 = true then if oc S4 x0 4 = true then lt (sI S4 x0 13 ((S4.2.1 x0 13) + (1 : Int32))) fun S8 => some S8 else none else none else if x1 < (24 : Int32) then if x1 < (16 : Int32) then if x1 < (8 : Int32) then if oc S4 x0 4 = true then (m77 x0 x1 S4).bind fun q9 => some q9 else none else if oc S4 x0 4 = true then if oc S4 x0 4 = true then lt (sI S4 x0 14 ((S4.2.1 x0 14) ||| ((1 : Int32) <<< ((x1 - (8 : Int32)) &&& 31)))) fun S10 => if oc S10 x0 4 = true then if oc S10 x0 4 = true then (m45 x0 (x1 - (8 : Int32)) S10).bind fun q11 => if oc q11.2 x0 4 = true then lt (sI q11.2 x0 11 ((S10.2.1 x0 11) - q11.1)) fun S12 => some S12 else none else none else none else none else none else if oc S4 x0 4 = true then if oc S4 x0 4 = true then lt (sI S4 x0 14 ((S4.2.1 x0 14) &&& (((1 : Int32) <<< ((x1 - (16 : Int32)) &&& 31)) ^^^ (-1 : Int32)))) fun S13 => if oc S13 x0 4 = true then if oc S13 x0 4 = true then (m45 x0 (x1 - (16 : Int32)) S13).bind fun q14 => if (2 : Int32) = 0 then none else if oc q14.2 x0 4 = true then lt (sI q14.2 x0 11 ((S13.2.1 x0 11) + (q14.1 / (2 : Int32)))) fun S15 => some S15 else none else none else none else none else none else if oc S4 x0 4 = true then (m76 x0 (x1 - (24 : Int32)) S4).bind fun q16 => some q16 else none else none else none else none else none else none else none
set_option maxRecDepth 100000 in
theorem om75 (d : Nat) (x0 : Nat) (x1 : Int32) (S : Sx) : OkF wV (fun f => rk px kx f (d + 4) 75 0 [some (.ref x0), some (.int x1)] [] S) (m75 x0 x1 S) := by
  unfold m75
  refine OkF.eq 3 (Y := fun f => if oc S x0 4 = true then (rk px kx f (d + 3) 74 0 [some (.ref x0), some (.int (1 : Int32))] [] S).bind (fun q => rk px kx f (d + 4) 75 5 [some (.ref x0), some (.int x1)] (q.1.toList ++ []) q.2) else none) (fun f => rfl) ?_
  refine OkF.grd (fun _ => ?_)
  refine OkF.bind (w1 := wI) (om74 (d + 3) x0 (1 : Int32) S) (fun q1 => ?_)
  refine OkF.eq 1 (Y := fun f => if q1.1 = 0 then rk px kx f (d + 4) 75 8 [some (.ref x0), some (.int x1)] [] q1.2 else rk px kx f (d + 4) 75 9 [some (.ref x0), some (.int x1)] [] q1.2) (fun f => rfl) ?_
  refine OkF.ite (fun _ => ?_) (fun _ => ?_)
  · exact OkF.ret 1 (fun f => rfl)
  · refine OkF.eq 2 (Y := fun f => if oc q1.2 x0 4 = true then rk px kx f (d + 4) 75 13 [some (.ref x0), some (.int x1)] (va_rf (q1.2.2.2.2.1 x0 7) :: []) q1.2 else none) (fun f => rfl) ?_
    refine OkF.grd (fun _ => ?_)
    refine OkF.rf (fun a2 => ?_)
    refine OkF.eq 2 (Y := fun f => if oc q1.2 x0 4 = true then rk px kx f (d + 4) 75 17 [some (.ref x0), some (.int x1)] [.int (q1.2.2.1 x0 15), .ref a2] q1.2 else none) (fun f => rfl) ?_
    refine OkF.grd (fun _ => ?_)
    refine OkF.eq 2 (Y := fun f => if inb (q1.2.2.1 x0 15) (aw q1.2 1 a2) = true then rk px kx f (d + 4) 75 19 [some (.ref x0), some (.int x1)] [] (sI q1.2 a2 (q1.2.2.1 x0 15).toNatClampNeg x1) else none) (fun f => rfl) ?_
    refine OkF.grd (fun _ => ?_)
    refine OkF.nm (fun S3 => ?_)
    refine OkF.eq 3 (Y := fun f => if oc S3 x0 4 = true then rk px kx f (d + 4) 75 24 [some (.ref x0), some (.int x1)] [.int (S3.2.1 x0 15), .ref x0] S3 else none) (fun f => rfl) ?_
    refine OkF.grd (fun _ => ?_)
    refine OkF.eq 3 (Y := fun f => if oc S3 x0 4 = true then rk px kx f (d + 4) 75 29 [some (.ref x0), some (.int x1)] [] (sI S3 x0 15 ((S3.2.1 x0 15) + (1 : Int32))) else none) (fun f => rfl) ?_
    refine OkF.grd (fun _ => ?_)
    refine OkF.nm (fun S4 => ?_)
    refine OkF.eq 3 (Y := fun f => if x1 = (6 : Int32) then rk px kx f (d + 4) 75 35 [some (.ref x0), some (.int x1)] [] S4 else rk px kx f (d + 4) 75 62 [some (.ref x0), some (.int x1)] [] S4) (fun f => rfl) ?_
    refine OkF.ite (fun _ => ?_) (fun _ => ?_)
    · refine OkF.eq 4 (Y := fun f => if oc S4 x0 4 = true then rk px kx f (d + 4) 75 41 [some (.ref x0), some (.int x1)] [.int (S4.2.1 x0 12), .ref x0, .ref x0] S4 else none) (fun f => rfl) ?_
      refine OkF.grd (fun _ => ?_)
      refine OkF.eq 3 (Y := fun f => if oc S4 x0 4 = true then (rk px kx f (d + 3) 55 0 [some (.ref x0), some (.int ((S4.2.1 x0 12) + (1 : Int32)))] [] S4).bind (fun q => rk px kx f (d + 4) 75 46 [some (.ref x0), some (.int x1)] (q.1.toList ++ [.ref x0]) q.2) else none) (fun f => rfl) ?_
      refine OkF.grd (fun _ => ?_)
      refine OkF.bind (w1 := wI) (om55 (d + 2) x0 ((S4.2.1 x0 12) + (1 : Int32)) S4) (fun q5 => ?_)
      refine OkF.eq 1 (Y := fun f => if oc q5.2 x0 4 = true then rk px kx f (d + 4) 75 49 [some (.ref x0), some (.int x1)] [] (sI q5.2 x0 12 q5.1) else none) (fun f => rfl) ?_
      refine OkF.grd (fun _ => ?_)
      refine OkF.nm (fun S6 => ?_)
      refine OkF.eq 3 (Y := fun f => if oc S6 x0 4 = true then rk px kx f (d + 4) 75 54 [some (.ref x0), some (.int x1)] [.int (S6.2.1 x0 13), .ref x0] S6 else none) (fun f => rfl) ?_
      refine OkF.grd (fun _ => ?_)
      refine OkF.eq 3 (Y := fun f => if oc S6 x0 4 = true then rk px kx f (d + 4) 75 59 [some (.ref x0), some (.int x1)] [] (sI S6 x0 13 ((S6.2.1 x0 13) + (3 : Int32))) else none) (fun f => rfl) ?_
      refine OkF.grd (fun _ => ?_)
      refine OkF.nm (fun S7 => ?_)
      exact OkF.ret 2 (fun f => rfl)
    · refine OkF.eq 3 (Y := fun f => if x1 = (7 : Int32) then rk px kx f (d + 4) 75 68 [some (.ref x0), some (.int x1)] [] S4 else rk px kx f (d + 4) 75 81 [some (.ref x0), some (.int x1)] [] S4) (fun f => rfl) ?_
      refine OkF.ite (fun _ => ?_) (fun _ => ?_)
      · refine OkF.eq 3 (Y := fun f => if oc S4 x0 4 = true then rk px kx f (d + 4) 75 73 [some (.ref x0), some (.int x1)] [.int (S4.2.1 x0 13), .ref x0] S4 else none) (fun f => rfl) ?_
        refine OkF.grd (fun _ => ?_)
        refine OkF.eq 3 (Y := fun f => if oc S4 x0 4 = true then rk px kx f (d + 4) 75 78 [some (.ref x0), some (.int x1)] [] (sI S4 x0 13 ((S4.2.1 x0 13) + (1 : Int32))) else none) (fun f => rfl) ?_
        refine OkF.grd (fun _ => ?_)
        refine OkF.nm (fun S8 => ?_)
        exact OkF.ret 2 (fun f => rfl)
      · refine OkF.eq 3 (Y := fun f => if x1 < (24 : Int32) then rk px kx f (d + 4) 75 98 [some (.ref x0), some (.int x1)] [] S4 else rk px kx f (d + 4) 75 87 [some (.ref x0), some (.int x1)] [] S4) (fun f => rfl) ?_
        refine OkF.ite (fun _ => ?_) (fun _ => ?_)
        · refine OkF.eq 3 (Y := fun f => if x1 < (16 : Int32) then rk px kx f (d + 4) 75 143 [some (.ref x0), some (.int x1)] [] S4 else rk px kx f (d + 4) 75 104 [some (.ref x0), some (.int x1)] [] S4) (fun f => rfl) ?_
          refine OkF.ite (fun _ => ?_) (fun _ => ?_)
          · refine OkF.eq 3 (Y := fun f => if x1 < (8 : Int32) then rk px kx f (d + 4) 75 184 [some (.ref x0), some (.int x1)] [] S4 else rk px kx f (d + 4) 75 149 [some (.ref x0), some (.int x1)] [] S4) (fun f => rfl) ?_
            refine OkF.ite (fun _ => ?_) (fun _ => ?_)
            · refine OkF.eq 3 (Y := fun f => if oc S4 x0 4 = true then (rk px kx f (d + 3) 77 0 [some (.ref x0), some (.int x1)] [] S4).bind (fun q => rk px kx f (d + 4) 75 189 [some (.ref x0), some (.int x1)] (q.1.toList ++ []) q.2) else none) (fun f => rfl) ?_
              refine OkF.grd (fun _ => ?_)
              refine OkF.bind (w1 := wV) (om77 (d + 0) x0 x1 S4) (fun q9 => ?_)
              exact OkF.ret 1 (fun f => rfl)
            · refine OkF.eq 3 (Y := fun f => if oc S4 x0 4 = true then rk px kx f (d + 4) 75 154 [some (.ref x0), some (.int x1)] [.int (S4.2.1 x0 14), .ref x0] S4 else none) (fun f => rfl) ?_
              refine OkF.grd (fun _ => ?_)
              refine OkF.eq 7 (Y := fun f => if oc S4 x0 4 = true then rk px kx f (d + 4) 75 164 [some (.ref x0), some (.int x1)] [] (sI S4 x0 14 ((S4.2.1 x0 14) ||| ((1 : Int32) <<< ((x1 - (8 : Int32)) &&& 31)))) else none) (fun f => rfl) ?_
              refine OkF.grd (fun _ => ?_)
              refine OkF.nm (fun S10 => ?_)
              refine OkF.eq 3 (Y := fun f => if oc S10 x0 4 = true then rk px kx f (d + 4) 75 169 [some (.ref x0), some (.int x1)] [.int (S10.2.1 x0 11), .ref x0] S10 else none) (fun f => rfl) ?_
              refine OkF.grd (fun _ => ?_)
              refine OkF.eq 5 (Y := fun f => if oc S10 x0 4 = true then (rk px kx f (d + 3) 45 0 [some (.ref x0), some (.int (x1 - (8 : Int32)))] [] S10).bind (fun q => rk px kx f (d + 4) 75 177 [some (.ref x0), some (.int x1)] (q.1.toList ++ [.int (S10.2.1 x0 11), .ref x0]) q.2) else none) (fun f => rfl) ?_
              refine OkF.grd (fun _ => ?_)
              refine OkF.bind (w1 := wI) (om45 (d + 1) x0 (x1 - (8 : Int32)) S10) (fun q11 => ?_)
              refine OkF.eq 2 (Y := fun f => if oc q11.2 x0 4 = true then rk px kx f (d + 4) 75 181 [some (.ref x0), some (.int x1)] [] (sI q11.2 x0 11 ((S10.2.1 x0 11) - q11.1)) else none) (fun f => rfl) ?_
              refine OkF.grd (fun _ => ?_)
              refine OkF.nm (fun S12 => ?_)
              exact OkF.ret 2 (fun f => rfl)
          · refine OkF.eq 3 (Y := fun f => if oc S4 x0 4 = true then rk px kx f (d + 4) 75 109 [some (.ref x0), some (.int x1)] [.int (S4.2.1 x0 14), .ref x0] S4 else none) (fun f => rfl) ?_
            refine OkF.grd (fun _ => ?_)
            refine OkF.eq 9 (Y := fun f => if oc S4 x0 4 = true then rk px kx f (d + 4) 75 121 [some (.ref x0), some (.int x1)] [] (sI S4 x0 14 ((S4.2.1 x0 14) &&& (((1 : Int32) <<< ((x1 - (16 : Int32)) &&& 31)) ^^^ (-1 : Int32)))) else none) (fun f => rfl) ?_
            refine OkF.grd (fun _ => ?_)
            refine OkF.nm (fun S13 => ?_)
            refine OkF.eq 3 (Y := fun f => if oc S13 x0 4 = true then rk px kx f (d + 4) 75 126 [some (.ref x0), some (.int x1)] [.int (S13.2.1 x0 11), .ref x0] S13 else none) (fun f => rfl) ?_
            refine OkF.grd (fun _ => ?_)
            refine OkF.eq 5 (Y := fun f => if oc S13 x0 4 = true then (rk px kx f (d + 3) 45 0 [some (.ref x0), some (.int (x1 - (16 : Int32)))] [] S13).bind (fun q => rk px kx f (d + 4) 75 134 [some (.ref x0), some (.int x1)] (q.1.toList ++ [.int (S13.2.1 x0 11), .ref x0]) q.2) else none) (fun f => rfl) ?_
            refine OkF.grd (fun _ => ?_)
            refine OkF.bind (w1 := wI) (om45 (d + 1) x0 (x1 - (16 : Int32)) S13) (fun q14 => ?_)
            refine OkF.eq 2 (Y := fun f => if (2 : Int32) = 0 then none else rk px kx f (d + 4) 75 136 [some (.ref x0), some (.int x1)] [.int (q14.1 / (2 : Int32)), .int (S13.2.1 x0 11), .ref x0] q14.2) (fun f => rfl) ?_
            refine OkF.ngr (fun _ => ?_)
            refine OkF.eq 2 (Y := fun f => if oc q14.2 x0 4 = true then rk px kx f (d + 4) 75 140 [some (.ref x0), some (.int x1)] [] (sI q14.2 x0 11 ((S13.2.1 x0 11) + (q14.1 / (2 : Int32)))) else none) (fun f => rfl) ?_
            refine OkF.grd (fun _ => ?_)
            refine OkF.nm (fun S15 => ?_)
            exact OkF.ret 2 (fun f => rfl)
        · refine OkF.eq 5 (Y := fun f => if oc S4 x0 4 = true then (rk px kx f (d + 3) 76 0 [some (.ref x0), some (.int (x1 - (24 : Int32)))] [] S4).bind (fun q => rk px kx f (d + 4) 75 95 [some (.ref x0), some (.int x1)] (q.1.toList ++ []) q.2) else none) (fun f => rfl) ?_
          refine OkF.grd (fun _ => ?_)
          refine OkF.bind (w1 := wV) (om76 (d + 1) x0 (x1 - (24 : Int32)) S4) (fun q16 => ?_)
          exact OkF.ret 2 (fun f => rfl)
-- DoorSold.road()I
def m73 (x0 : Nat) (S : Sx) : Option (Int32 × Sx) :=
  if oc S x0 11 = true then (S.2.2.2.1 x0 3).bind fun a1 => if oc S a1 4 = true then if (S.2.1 a1 9) = 0 then some ((-4 : Int32), S) else if oc S x0 11 = true then (S.2.2.2.1 x0 3).bind fun a2 => if oc S a2 4 = true then (m74 a2 (1 : Int32) S).bind fun q3 => if q3.1 = 0 then some ((-2 : Int32), q3.2) else if oc q3.2 x0 11 = true then (q3.2.2.2.2.1 x0 3).bind fun a4 => if oc q3.2 a4 4 = true then (m75 a4 (6 : Int32) q3.2).bind fun q5 => if oc q5 x0 11 = true then (q5.2.2.2.1 x0 3).bind fun a6 => if oc q5 a6 4 = true then some (q5.2.1 a6 12, q5) else none else none else none else none else none else none else none else none
set_option maxRecDepth 100000 in
theorem om73 (d : Nat) (x0 : Nat) (S : Sx) : OkF wI (fun f => rk px kx f (d + 5) 73 0 [some (.ref x0)] [] S) (m73 x0 S) := by
  unfold m73
  refine OkF.eq 2 (Y := fun f => if oc S x0 11 = true then rk px kx f (d + 5) 73 4 [some (.ref x0)] (va_rf (S.2.2.2.1 x0 3) :: []) S else none) (fun f => rfl) ?_
  refine OkF.grd (fun _ => ?_)
  refine OkF.rf (fun a1 => ?_)
  refine OkF.eq 1 (Y := fun f => if oc S a1 4 = true then rk px kx f (d + 5) 73 7 [some (.ref x0)] [.int (S.2.1 a1 9)] S else none) (fun f => rfl) ?_
  refine OkF.grd (fun _ => ?_)
  refine OkF.eq 1 (Y := fun f => if (S.2.1 a1 9) = 0 then rk px kx f (d + 5) 73 10 [some (.ref x0)] [] S else rk px kx f (d + 5) 73 13 [some (.ref x0)] [] S) (fun f => rfl) ?_
  refine OkF.ite (fun _ => ?_) (fun _ => ?_)
  · exact OkF.ret 2 (fun f => rfl)
  · refine OkF.eq 2 (Y := fun f => if oc S x0 11 = true then rk px kx f (d + 5) 73 17 [some (.ref x0)] (va_rf (S.2.2.2.1 x0 3) :: []) S else none) (fun f => rfl) ?_
    refine OkF.grd (fun _ => ?_)
    refine OkF.rf (fun a2 => ?_)
    refine OkF.eq 2 (Y := fun f => if oc S a2 4 = true then (rk px kx f (d + 4) 74 0 [some (.ref a2), some (.int (1 : Int32))] [] S).bind (fun q => rk px kx f (d + 5) 73 21 [some (.ref x0)] (q.1.toList ++ []) q.2) else none) (fun f => rfl) ?_
    refine OkF.grd (fun _ => ?_)
    refine OkF.bind (w1 := wI) (om74 (d + 4) a2 (1 : Int32) S) (fun q3 => ?_)
    refine OkF.eq 1 (Y := fun f => if q3.1 = 0 then rk px kx f (d + 5) 73 24 [some (.ref x0)] [] q3.2 else rk px kx f (d + 5) 73 27 [some (.ref x0)] [] q3.2) (fun f => rfl) ?_
    refine OkF.ite (fun _ => ?_) (fun _ => ?_)
    · exact OkF.ret 2 (fun f => rfl)
    · refine OkF.eq 2 (Y := fun f => if oc q3.2 x0 11 = true then rk px kx f (d + 5) 73 31 [some (.ref x0)] (va_rf (q3.2.2.2.2.1 x0 3) :: []) q3.2 else none) (fun f => rfl) ?_
      refine OkF.grd (fun _ => ?_)
      refine OkF.rf (fun a4 => ?_)
      refine OkF.eq 2 (Y := fun f => if oc q3.2 a4 4 = true then (rk px kx f (d + 4) 75 0 [some (.ref a4), some (.int (6 : Int32))] [] q3.2).bind (fun q => rk px kx f (d + 5) 73 36 [some (.ref x0)] (q.1.toList ++ []) q.2) else none) (fun f => rfl) ?_
      refine OkF.grd (fun _ => ?_)
      refine OkF.bind (w1 := wV) (om75 (d + 0) a4 (6 : Int32) q3.2) (fun q5 => ?_)
      refine OkF.eq 2 (Y := fun f => if oc q5 x0 11 = true then rk px kx f (d + 5) 73 40 [some (.ref x0)] (va_rf (q5.2.2.2.1 x0 3) :: []) q5 else none) (fun f => rfl) ?_
      refine OkF.grd (fun _ => ?_)
      refine OkF.rf (fun a6 => ?_)
      refine OkF.eq 1 (Y := fun f => if oc q5 a6 4 = true then rk px kx f (d + 5) 73 43 [some (.ref x0)] [.int (q5.2.1 a6 12)] q5 else none) (fun f => rfl) ?_
      refine OkF.grd (fun _ => ?_)
      exact OkF.ret 1 (fun f => rfl)
-- DoorSold.stay()I
def m78 (x0 : Nat) (S : Sx) : Option (Int32 × Sx) :=
  if oc S x0 11 = true then (S.2.2.2.1 x0 3).bind fun a1 => if oc S a1 4 = true then if (S.2.1 a1 9) = 0 then some ((-4 : Int32), S) else if oc S x0 11 = true then (S.2.2.2.1 x0 3).bind fun a2 => if oc S a2 4 = true then (m74 a2 (1 : Int32) S).bind fun q3 => if q3.1 = 0 then some ((-2 : Int32), q3.2) else if oc q3.2 x0 11 = true then (q3.2.2.2.2.1 x0 3).bind fun a4 => if oc q3.2 a4 4 = true then (m75 a4 (7 : Int32) q3.2).bind fun q5 => if oc q5 x0 11 = true then (q5.2.2.2.1 x0 3).bind fun a6 => if oc q5 a6 4 = true then some (q5.2.1 a6 13, q5) else none else none else none else none else none else none else none else none
set_option maxRecDepth 100000 in
theorem om78 (d : Nat) (x0 : Nat) (S : Sx) : OkF wI (fun f => rk px kx f (d + 5) 78 0 [some (.ref x0)] [] S) (m78 x0 S) := by
  unfold m78
  refine OkF.eq 2 (Y := fun f => if oc S x0 11 = true then rk px kx f (d + 5) 78 4 [some (.ref x0)] (va_rf (S.2.2.2.1 x0 3) :: []) S else none) (fun f => rfl) ?_
  refine OkF.grd (fun _ => ?_)
  refine OkF.rf (fun a1 => ?_)
  refine OkF.eq 1 (Y := fun f => if oc S a1 4 = true then rk px kx f (d + 5) 78 7 [some (.ref x0)] [.int (S.2.1 a1 9)] S else none) (fun f => rfl) ?_
  refine OkF.grd (fun _ => ?_)
  refine OkF.eq 1 (Y := fun f => if (S.2.1 a1 9) = 0 then rk px kx f (d + 5) 78 10 [some (.ref x0)] [] S else rk px kx f (d + 5) 78 13 [some (.ref x0)] [] S) (fun f => rfl) ?_
  refine OkF.ite (fun _ => ?_) (fun _ => ?_)
  · exact OkF.ret 2 (fun f => rfl)
  · refine OkF.eq 2 (Y := fun f => if oc S x0 11 = true then rk px kx f (d + 5) 78 17 [some (.ref x0)] (va_rf (S.2.2.2.1 x0 3) :: []) S else none) (fun f => rfl) ?_
    refine OkF.grd (fun _ => ?_)
    refine OkF.rf (fun a2 => ?_)
    refine OkF.eq 2 (Y := fun f => if oc S a2 4 = true then (rk px kx f (d + 4) 74 0 [some (.ref a2), some (.int (1 : Int32))] [] S).bind (fun q => rk px kx f (d + 5) 78 21 [some (.ref x0)] (q.1.toList ++ []) q.2) else none) (fun f => rfl) ?_
    refine OkF.grd (fun _ => ?_)
    refine OkF.bind (w1 := wI) (om74 (d + 4) a2 (1 : Int32) S) (fun q3 => ?_)
    refine OkF.eq 1 (Y := fun f => if q3.1 = 0 then rk px kx f (d + 5) 78 24 [some (.ref x0)] [] q3.2 else rk px kx f (d + 5) 78 27 [some (.ref x0)] [] q3.2) (fun f => rfl) ?_
    refine OkF.ite (fun _ => ?_) (fun _ => ?_)
    · exact OkF.ret 2 (fun f => rfl)
    · refine OkF.eq 2 (Y := fun f => if oc q3.2 x0 11 = true then rk px kx f (d + 5) 78 31 [some (.ref x0)] (va_rf (q3.2.2.2.2.1 x0 3) :: []) q3.2 else none) (fun f => rfl) ?_
      refine OkF.grd (fun _ => ?_)
      refine OkF.rf (fun a4 => ?_)
      refine OkF.eq 2 (Y := fun f => if oc q3.2 a4 4 = true then (rk px kx f (d + 4) 75 0 [some (.ref a4), some (.int (7 : Int32))] [] q3.2).bind (fun q => rk px kx f (d + 5) 78 36 [some (.ref x0)] (q.1.toList ++ []) q.2) else none) (fun f => rfl) ?_
      refine OkF.grd (fun _ => ?_)
      refine OkF.bind (w1 := wV) (om75 (d + 0) a4 (7 : Int32) q3.2) (fun q5 => ?_)
      refine OkF.eq 2 (Y := fun f => if oc q5 x0 11 = true then rk px kx f (d + 5) 78 40 [some (.ref x0)] (va_rf (q5.2.2.2.1 x0 3) :: []) q5 else none) (fun f => rfl) ?_
      refine OkF.grd (fun _ => ?_)
      refine OkF.rf (fun a6 => ?_)
      refine OkF.eq 1 (Y := fun f => if oc q5 a6 4 = true then rk px kx f (d + 5) 78 43 [some (.ref x0)] [.int (q5.2.1 a6 13)] q5 else none) (fun f => rfl) ?_
      refine OkF.grd (fun _ => ?_)
      exact OkF.ret 1 (fun f => rfl)
-- DoorSold$Country.canPass(I)Z
def m80 (x0 : Nat) (x1 : Int32) (S : Sx) : Option (Int32 × Sx) :=
  if oc S x0 4 = true then (m66 x0 x1 S).bind fun q1 => if q1.1 = 0 then some ((0 : Int32), q1.2) else if oc q1.2 x0 4 = true then if oc q1.2 x0 4 = true then (m57 x0 x1 (q1.2.2.1 x0 13) q1.2).bind fun q2 => if q2.1 = 0 then some ((0 : Int32), q2.2) else if oc q2.2 x0 4 = true then if oc q2.2 x0 4 = true then (m51 x0 x1 (q2.2.2.1 x0 13) q2.2).bind fun q3 => if oc q3.2 x0 4 = true then if q3.1 = (q3.2.2.1 x0 12) then some ((1 : Int32), q3.2) else some ((0 : Int32), q3.2) else none else none else none else none else none else none
set_option maxRecDepth 100000 in
theorem om80 (d : Nat) (x0 : Nat) (x1 : Int32) (S : Sx) : OkF wI (fun f => rk px kx f (d + 3) 80 0 [some (.ref x0), some (.int x1)] [] S) (m80 x0 x1 S) := by
  unfold m80
  refine OkF.eq 3 (Y := fun f => if oc S x0 4 = true then (rk px kx f (d + 2) 66 0 [some (.ref x0), some (.int x1)] [] S).bind (fun q => rk px kx f (d + 3) 80 5 [some (.ref x0), some (.int x1)] (q.1.toList ++ []) q.2) else none) (fun f => rfl) ?_
  refine OkF.grd (fun _ => ?_)
  refine OkF.bind (w1 := wI) (om66 (d + 2) x0 x1 S) (fun q1 => ?_)
  refine OkF.eq 1 (Y := fun f => if q1.1 = 0 then rk px kx f (d + 3) 80 40 [some (.ref x0), some (.int x1)] [] q1.2 else rk px kx f (d + 3) 80 8 [some (.ref x0), some (.int x1)] [] q1.2) (fun f => rfl) ?_
  refine OkF.ite (fun _ => ?_) (fun _ => ?_)
  · exact OkF.ret 2 (fun f => rfl)
  · refine OkF.eq 4 (Y := fun f => if oc q1.2 x0 4 = true then rk px kx f (d + 3) 80 14 [some (.ref x0), some (.int x1)] [.int (q1.2.2.1 x0 13), .int x1, .ref x0] q1.2 else none) (fun f => rfl) ?_
    refine OkF.grd (fun _ => ?_)
    refine OkF.eq 1 (Y := fun f => if oc q1.2 x0 4 = true then (rk px kx f (d + 2) 57 0 [some (.ref x0), some (.int x1), some (.int (q1.2.2.1 x0 13))] [] q1.2).bind (fun q => rk px kx f (d + 3) 80 17 [some (.ref x0), some (.int x1)] (q.1.toList ++ []) q.2) else none) (fun f => rfl) ?_
    refine OkF.grd (fun _ => ?_)
    refine OkF.bind (w1 := wI) (om57 (d + 1) x0 x1 (q1.2.2.1 x0 13) q1.2) (fun q2 => ?_)
    refine OkF.eq 1 (Y := fun f => if q2.1 = 0 then rk px kx f (d + 3) 80 40 [some (.ref x0), some (.int x1)] [] q2.2 else rk px kx f (d + 3) 80 20 [some (.ref x0), some (.int x1)] [] q2.2) (fun f => rfl) ?_
    refine OkF.ite (fun _ => ?_) (fun _ => ?_)
    · exact OkF.ret 2 (fun f => rfl)
    · refine OkF.eq 4 (Y := fun f => if oc q2.2 x0 4 = true then rk px kx f (d + 3) 80 26 [some (.ref x0), some (.int x1)] [.int (q2.2.2.1 x0 13), .int x1, .ref x0] q2.2 else none) (fun f => rfl) ?_
      refine OkF.grd (fun _ => ?_)
      refine OkF.eq 1 (Y := fun f => if oc q2.2 x0 4 = true then (rk px kx f (d + 2) 51 0 [some (.ref x0), some (.int x1), some (.int (q2.2.2.1 x0 13))] [] q2.2).bind (fun q => rk px kx f (d + 3) 80 29 [some (.ref x0), some (.int x1)] (q.1.toList ++ []) q.2) else none) (fun f => rfl) ?_
      refine OkF.grd (fun _ => ?_)
      refine OkF.bind (w1 := wI) (om51 (d + 0) x0 x1 (q2.2.2.1 x0 13) q2.2) (fun q3 => ?_)
      refine OkF.eq 2 (Y := fun f => if oc q3.2 x0 4 = true then rk px kx f (d + 3) 80 33 [some (.ref x0), some (.int x1)] [.int (q3.2.2.1 x0 12), .int q3.1] q3.2 else none) (fun f => rfl) ?_
      refine OkF.grd (fun _ => ?_)
      refine OkF.eq 1 (Y := fun f => if q3.1 = (q3.2.2.1 x0 12) then rk px kx f (d + 3) 80 36 [some (.ref x0), some (.int x1)] [] q3.2 else rk px kx f (d + 3) 80 40 [some (.ref x0), some (.int x1)] [] q3.2) (fun f => rfl) ?_
      refine OkF.ite (fun _ => ?_) (fun _ => ?_)
      · exact OkF.ret 3 (fun f => rfl)
      · exact OkF.ret 2 (fun f => rfl)
-- DoorSold.go(I)I
def m79 (x0 : Nat) (x1 : Int32) (S : Sx) : Option (Int32 × Sx) :=
  if oc S x0 11 = true then (m43 x0 x1 S).bind fun q1 => if q1.1 = 0 then if oc q1.2 x0 11 = true then (q1.2.2.2.2.1 x0 3).bind fun a2 => if oc q1.2 a2 4 = true then (m80 a2 x1 q1.2).bind fun q3 => if q3.1 = 0 then some ((-4 : Int32), q3.2) else if oc q3.2 x0 11 = true then (q3.2.2.2.2.1 x0 3).bind fun a4 => if oc q3.2 a4 4 = true then (m74 a4 (1 : Int32) q3.2).bind fun q5 => if q5.1 = 0 then some ((-2 : Int32), q5.2) else if oc q5.2 x0 11 = true then (q5.2.2.2.2.1 x0 3).bind fun a6 => if oc q5.2 a6 4 = true then (m75 a6 x1 q5.2).bind fun q7 => if oc q7 x0 11 = true then (q7.2.2.2.1 x0 3).bind fun a8 => if oc q7 a8 4 = true then some (q7.2.1 a8 12, q7) else none else none else none else none else none else none else none else none else some ((-1 : Int32), q1.2) else none
set_option maxRecDepth 100000 in
theorem om79 (d : Nat) (x0 : Nat) (x1 : Int32) (S : Sx) : OkF wI (fun f => rk px kx f (d + 5) 79 0 [some (.ref x0), some (.int x1)] [] S) (m79 x0 x1 S) := by
  unfold m79
  refine OkF.eq 3 (Y := fun f => if oc S x0 11 = true then (rk px kx f (d + 4) 43 0 [some (.ref x0), some (.int x1)] [] S).bind (fun q => rk px kx f (d + 5) 79 5 [some (.ref x0), some (.int x1)] (q.1.toList ++ []) q.2) else none) (fun f => rfl) ?_
  refine OkF.grd (fun _ => ?_)
  refine OkF.bind (w1 := wI) (om43 (d + 4) x0 x1 S) (fun q1 => ?_)
  refine OkF.eq 1 (Y := fun f => if q1.1 = 0 then rk px kx f (d + 5) 79 10 [some (.ref x0), some (.int x1)] [] q1.2 else rk px kx f (d + 5) 79 8 [some (.ref x0), some (.int x1)] [] q1.2) (fun f => rfl) ?_
  refine OkF.ite (fun _ => ?_) (fun _ => ?_)
  · refine OkF.eq 2 (Y := fun f => if oc q1.2 x0 11 = true then rk px kx f (d + 5) 79 14 [some (.ref x0), some (.int x1)] (va_rf (q1.2.2.2.2.1 x0 3) :: []) q1.2 else none) (fun f => rfl) ?_
    refine OkF.grd (fun _ => ?_)
    refine OkF.rf (fun a2 => ?_)
    refine OkF.eq 2 (Y := fun f => if oc q1.2 a2 4 = true then (rk px kx f (d + 4) 80 0 [some (.ref a2), some (.int x1)] [] q1.2).bind (fun q => rk px kx f (d + 5) 79 18 [some (.ref x0), some (.int x1)] (q.1.toList ++ []) q.2) else none) (fun f => rfl) ?_
    refine OkF.grd (fun _ => ?_)
    refine OkF.bind (w1 := wI) (om80 (d + 1) a2 x1 q1.2) (fun q3 => ?_)
    refine OkF.eq 1 (Y := fun f => if q3.1 = 0 then rk px kx f (d + 5) 79 21 [some (.ref x0), some (.int x1)] [] q3.2 else rk px kx f (d + 5) 79 24 [some (.ref x0), some (.int x1)] [] q3.2) (fun f => rfl) ?_
    refine OkF.ite (fun _ => ?_) (fun _ => ?_)
    · exact OkF.ret 2 (fun f => rfl)
    · refine OkF.eq 2 (Y := fun f => if oc q3.2 x0 11 = true then rk px kx f (d + 5) 79 28 [some (.ref x0), some (.int x1)] (va_rf (q3.2.2.2.2.1 x0 3) :: []) q3.2 else none) (fun f => rfl) ?_
      refine OkF.grd (fun _ => ?_)
      refine OkF.rf (fun a4 => ?_)
      refine OkF.eq 2 (Y := fun f => if oc q3.2 a4 4 = true then (rk px kx f (d + 4) 74 0 [some (.ref a4), some (.int (1 : Int32))] [] q3.2).bind (fun q => rk px kx f (d + 5) 79 32 [some (.ref x0), some (.int x1)] (q.1.toList ++ []) q.2) else none) (fun f => rfl) ?_
      refine OkF.grd (fun _ => ?_)
      refine OkF.bind (w1 := wI) (om74 (d + 4) a4 (1 : Int32) q3.2) (fun q5 => ?_)
      refine OkF.eq 1 (Y := fun f => if q5.1 = 0 then rk px kx f (d + 5) 79 35 [some (.ref x0), some (.int x1)] [] q5.2 else rk px kx f (d + 5) 79 38 [some (.ref x0), some (.int x1)] [] q5.2) (fun f => rfl) ?_
      refine OkF.ite (fun _ => ?_) (fun _ => ?_)
      · exact OkF.ret 2 (fun f => rfl)
      · refine OkF.eq 2 (Y := fun f => if oc q5.2 x0 11 = true then rk px kx f (d + 5) 79 42 [some (.ref x0), some (.int x1)] (va_rf (q5.2.2.2.2.1 x0 3) :: []) q5.2 else none) (fun f => rfl) ?_
        refine OkF.grd (fun _ => ?_)
        refine OkF.rf (fun a6 => ?_)
        refine OkF.eq 2 (Y := fun f => if oc q5.2 a6 4 = true then (rk px kx f (d + 4) 75 0 [some (.ref a6), some (.int x1)] [] q5.2).bind (fun q => rk px kx f (d + 5) 79 46 [some (.ref x0), some (.int x1)] (q.1.toList ++ []) q.2) else none) (fun f => rfl) ?_
        refine OkF.grd (fun _ => ?_)
        refine OkF.bind (w1 := wV) (om75 (d + 0) a6 x1 q5.2) (fun q7 => ?_)
        refine OkF.eq 2 (Y := fun f => if oc q7 x0 11 = true then rk px kx f (d + 5) 79 50 [some (.ref x0), some (.int x1)] (va_rf (q7.2.2.2.1 x0 3) :: []) q7 else none) (fun f => rfl) ?_
        refine OkF.grd (fun _ => ?_)
        refine OkF.rf (fun a8 => ?_)
        refine OkF.eq 1 (Y := fun f => if oc q7 a8 4 = true then rk px kx f (d + 5) 79 53 [some (.ref x0), some (.int x1)] [.int (q7.2.1 a8 12)] q7 else none) (fun f => rfl) ?_
        refine OkF.grd (fun _ => ?_)
        exact OkF.ret 1 (fun f => rfl)
  · exact OkF.ret 2 (fun f => rfl)
-- DoorSold.buy(I)I
def m81 (x0 : Nat) (x1 : Int32) (S : Sx) : Option (Int32 × Sx) :=
  if oc S x0 11 = true then (m43 x0 x1 S).bind fun q1 => if q1.1 = 0 then if oc q1.2 x0 11 = true then (q1.2.2.2.2.1 x0 3).bind fun a2 => if oc q1.2 a2 4 = true then (m66 a2 x1 q1.2).bind fun q3 => if q3.1 = 0 then if oc q3.2 x0 11 = true then (q3.2.2.2.2.1 x0 3).bind fun a4 => if oc q3.2 a4 4 = true then (m45 a4 x1 q3.2).bind fun q5 => if oc q5.2 x0 11 = true then (q5.2.2.2.2.1 x0 3).bind fun a6 => if oc q5.2 a6 4 = true then if q5.1 ≤ (q5.2.2.1 a6 11) then if oc q5.2 x0 11 = true then (q5.2.2.2.2.1 x0 3).bind fun a7 => if oc q5.2 a7 4 = true then (m74 a7 (1 : Int32) q5.2).bind fun q8 => if q8.1 = 0 then some ((-2 : Int32), q8.2) else if oc q8.2 x0 11 = true then (q8.2.2.2.2.1 x0 3).bind fun a9 => if oc q8.2 a9 4 = true then (m75 a9 ((8 : Int32) + x1) q8.2).bind fun q10 => if oc q10 x0 11 = true then (q10.2.2.2.1 x0 3).bind fun a11 => if oc q10 a11 4 = true then some (q10.2.1 a11 11, q10) else none else none else none else none else none else none else some ((-6 : Int32), q5.2) else none else none else none else none else some ((-4 : Int32), q3.2) else none else none else some ((-1 : Int32), q1.2) else none
set_option maxRecDepth 100000 in
theorem om81 (d : Nat) (x0 : Nat) (x1 : Int32) (S : Sx) : OkF wI (fun f => rk px kx f (d + 5) 81 0 [some (.ref x0), some (.int x1)] [] S) (m81 x0 x1 S) := by
  unfold m81
  refine OkF.eq 3 (Y := fun f => if oc S x0 11 = true then (rk px kx f (d + 4) 43 0 [some (.ref x0), some (.int x1)] [] S).bind (fun q => rk px kx f (d + 5) 81 5 [some (.ref x0), some (.int x1)] (q.1.toList ++ []) q.2) else none) (fun f => rfl) ?_
  refine OkF.grd (fun _ => ?_)
  refine OkF.bind (w1 := wI) (om43 (d + 4) x0 x1 S) (fun q1 => ?_)
  refine OkF.eq 1 (Y := fun f => if q1.1 = 0 then rk px kx f (d + 5) 81 10 [some (.ref x0), some (.int x1)] [] q1.2 else rk px kx f (d + 5) 81 8 [some (.ref x0), some (.int x1)] [] q1.2) (fun f => rfl) ?_
  refine OkF.ite (fun _ => ?_) (fun _ => ?_)
  · refine OkF.eq 2 (Y := fun f => if oc q1.2 x0 11 = true then rk px kx f (d + 5) 81 14 [some (.ref x0), some (.int x1)] (va_rf (q1.2.2.2.2.1 x0 3) :: []) q1.2 else none) (fun f => rfl) ?_
    refine OkF.grd (fun _ => ?_)
    refine OkF.rf (fun a2 => ?_)
    refine OkF.eq 2 (Y := fun f => if oc q1.2 a2 4 = true then (rk px kx f (d + 4) 66 0 [some (.ref a2), some (.int x1)] [] q1.2).bind (fun q => rk px kx f (d + 5) 81 18 [some (.ref x0), some (.int x1)] (q.1.toList ++ []) q.2) else none) (fun f => rfl) ?_
    refine OkF.grd (fun _ => ?_)
    refine OkF.bind (w1 := wI) (om66 (d + 4) a2 x1 q1.2) (fun q3 => ?_)
    refine OkF.eq 1 (Y := fun f => if q3.1 = 0 then rk px kx f (d + 5) 81 24 [some (.ref x0), some (.int x1)] [] q3.2 else rk px kx f (d + 5) 81 21 [some (.ref x0), some (.int x1)] [] q3.2) (fun f => rfl) ?_
    refine OkF.ite (fun _ => ?_) (fun _ => ?_)
    · refine OkF.eq 2 (Y := fun f => if oc q3.2 x0 11 = true then rk px kx f (d + 5) 81 28 [some (.ref x0), some (.int x1)] (va_rf (q3.2.2.2.2.1 x0 3) :: []) q3.2 else none) (fun f => rfl) ?_
      refine OkF.grd (fun _ => ?_)
      refine OkF.rf (fun a4 => ?_)
      refine OkF.eq 2 (Y := fun f => if oc q3.2 a4 4 = true then (rk px kx f (d + 4) 45 0 [some (.ref a4), some (.int x1)] [] q3.2).bind (fun q => rk px kx f (d + 5) 81 32 [some (.ref x0), some (.int x1)] (q.1.toList ++ []) q.2) else none) (fun f => rfl) ?_
      refine OkF.grd (fun _ => ?_)
      refine OkF.bind (w1 := wI) (om45 (d + 2) a4 x1 q3.2) (fun q5 => ?_)
      refine OkF.eq 2 (Y := fun f => if oc q5.2 x0 11 = true then rk px kx f (d + 5) 81 36 [some (.ref x0), some (.int x1)] (va_rf (q5.2.2.2.2.1 x0 3) :: [.int q5.1]) q5.2 else none) (fun f => rfl) ?_
      refine OkF.grd (fun _ => ?_)
      refine OkF.rf (fun a6 => ?_)
      refine OkF.eq 1 (Y := fun f => if oc q5.2 a6 4 = true then rk px kx f (d + 5) 81 39 [some (.ref x0), some (.int x1)] [.int (q5.2.2.1 a6 11), .int q5.1] q5.2 else none) (fun f => rfl) ?_
      refine OkF.grd (fun _ => ?_)
      refine OkF.eq 1 (Y := fun f => if q5.1 ≤ (q5.2.2.1 a6 11) then rk px kx f (d + 5) 81 45 [some (.ref x0), some (.int x1)] [] q5.2 else rk px kx f (d + 5) 81 42 [some (.ref x0), some (.int x1)] [] q5.2) (fun f => rfl) ?_
      refine OkF.ite (fun _ => ?_) (fun _ => ?_)
      · refine OkF.eq 2 (Y := fun f => if oc q5.2 x0 11 = true then rk px kx f (d + 5) 81 49 [some (.ref x0), some (.int x1)] (va_rf (q5.2.2.2.2.1 x0 3) :: []) q5.2 else none) (fun f => rfl) ?_
        refine OkF.grd (fun _ => ?_)
        refine OkF.rf (fun a7 => ?_)
        refine OkF.eq 2 (Y := fun f => if oc q5.2 a7 4 = true then (rk px kx f (d + 4) 74 0 [some (.ref a7), some (.int (1 : Int32))] [] q5.2).bind (fun q => rk px kx f (d + 5) 81 53 [some (.ref x0), some (.int x1)] (q.1.toList ++ []) q.2) else none) (fun f => rfl) ?_
        refine OkF.grd (fun _ => ?_)
        refine OkF.bind (w1 := wI) (om74 (d + 4) a7 (1 : Int32) q5.2) (fun q8 => ?_)
        refine OkF.eq 1 (Y := fun f => if q8.1 = 0 then rk px kx f (d + 5) 81 56 [some (.ref x0), some (.int x1)] [] q8.2 else rk px kx f (d + 5) 81 59 [some (.ref x0), some (.int x1)] [] q8.2) (fun f => rfl) ?_
        refine OkF.ite (fun _ => ?_) (fun _ => ?_)
        · exact OkF.ret 2 (fun f => rfl)
        · refine OkF.eq 2 (Y := fun f => if oc q8.2 x0 11 = true then rk px kx f (d + 5) 81 63 [some (.ref x0), some (.int x1)] (va_rf (q8.2.2.2.2.1 x0 3) :: []) q8.2 else none) (fun f => rfl) ?_
          refine OkF.grd (fun _ => ?_)
          refine OkF.rf (fun a9 => ?_)
          refine OkF.eq 4 (Y := fun f => if oc q8.2 a9 4 = true then (rk px kx f (d + 4) 75 0 [some (.ref a9), some (.int ((8 : Int32) + x1))] [] q8.2).bind (fun q => rk px kx f (d + 5) 81 70 [some (.ref x0), some (.int x1)] (q.1.toList ++ []) q.2) else none) (fun f => rfl) ?_
          refine OkF.grd (fun _ => ?_)
          refine OkF.bind (w1 := wV) (om75 (d + 0) a9 ((8 : Int32) + x1) q8.2) (fun q10 => ?_)
          refine OkF.eq 2 (Y := fun f => if oc q10 x0 11 = true then rk px kx f (d + 5) 81 74 [some (.ref x0), some (.int x1)] (va_rf (q10.2.2.2.1 x0 3) :: []) q10 else none) (fun f => rfl) ?_
          refine OkF.grd (fun _ => ?_)
          refine OkF.rf (fun a11 => ?_)
          refine OkF.eq 1 (Y := fun f => if oc q10 a11 4 = true then rk px kx f (d + 5) 81 77 [some (.ref x0), some (.int x1)] [.int (q10.2.1 a11 11)] q10 else none) (fun f => rfl) ?_
          refine OkF.grd (fun _ => ?_)
          exact OkF.ret 1 (fun f => rfl)
      · exact OkF.ret 2 (fun f => rfl)
    · exact OkF.ret 2 (fun f => rfl)
  · exact OkF.ret 2 (fun f => rfl)
-- DoorSold.sell(I)I
def m82 (x0 : Nat) (x1 : Int32) (S : Sx) : Option (Int32 × Sx) :=
  if oc S x0 11 = true then (m43 x0 x1 S).bind fun q1 => if q1.1 = 0 then if oc q1.2 x0 11 = true then (q1.2.2.2.2.1 x0 3).bind fun a2 => if oc q1.2 a2 4 = true then (m66 a2 x1 q1.2).bind fun q3 => if q3.1 = 0 then some ((-4 : Int32), q3.2) else if oc q3.2 x0 11 = true then (q3.2.2.2.2.1 x0 3).bind fun a4 => if oc q3.2 a4 4 = true then (m74 a4 (1 : Int32) q3.2).bind fun q5 => if q5.1 = 0 then some ((-2 : Int32), q5.2) else if oc q5.2 x0 11 = true then (q5.2.2.2.2.1 x0 3).bind fun a6 => if oc q5.2 a6 4 = true then (m75 a6 ((16 : Int32) + x1) q5.2).bind fun q7 => if oc q7 x0 11 = true then (q7.2.2.2.1 x0 3).bind fun a8 => if oc q7 a8 4 = true then some (q7.2.1 a8 11, q7) else none else none else none else none else none else none else none else none else some ((-1 : Int32), q1.2) else none
set_option maxRecDepth 100000 in
theorem om82 (d : Nat) (x0 : Nat) (x1 : Int32) (S : Sx) : OkF wI (fun f => rk px kx f (d + 5) 82 0 [some (.ref x0), some (.int x1)] [] S) (m82 x0 x1 S) := by
  unfold m82
  refine OkF.eq 3 (Y := fun f => if oc S x0 11 = true then (rk px kx f (d + 4) 43 0 [some (.ref x0), some (.int x1)] [] S).bind (fun q => rk px kx f (d + 5) 82 5 [some (.ref x0), some (.int x1)] (q.1.toList ++ []) q.2) else none) (fun f => rfl) ?_
  refine OkF.grd (fun _ => ?_)
  refine OkF.bind (w1 := wI) (om43 (d + 4) x0 x1 S) (fun q1 => ?_)
  refine OkF.eq 1 (Y := fun f => if q1.1 = 0 then rk px kx f (d + 5) 82 10 [some (.ref x0), some (.int x1)] [] q1.2 else rk px kx f (d + 5) 82 8 [some (.ref x0), some (.int x1)] [] q1.2) (fun f => rfl) ?_
  refine OkF.ite (fun _ => ?_) (fun _ => ?_)
  · refine OkF.eq 2 (Y := fun f => if oc q1.2 x0 11 = true then rk px kx f (d + 5) 82 14 [some (.ref x0), some (.int x1)] (va_rf (q1.2.2.2.2.1 x0 3) :: []) q1.2 else none) (fun f => rfl) ?_
    refine OkF.grd (fun _ => ?_)
    refine OkF.rf (fun a2 => ?_)
    refine OkF.eq 2 (Y := fun f => if oc q1.2 a2 4 = true then (rk px kx f (d + 4) 66 0 [some (.ref a2), some (.int x1)] [] q1.2).bind (fun q => rk px kx f (d + 5) 82 18 [some (.ref x0), some (.int x1)] (q.1.toList ++ []) q.2) else none) (fun f => rfl) ?_
    refine OkF.grd (fun _ => ?_)
    refine OkF.bind (w1 := wI) (om66 (d + 4) a2 x1 q1.2) (fun q3 => ?_)
    refine OkF.eq 1 (Y := fun f => if q3.1 = 0 then rk px kx f (d + 5) 82 21 [some (.ref x0), some (.int x1)] [] q3.2 else rk px kx f (d + 5) 82 24 [some (.ref x0), some (.int x1)] [] q3.2) (fun f => rfl) ?_
    refine OkF.ite (fun _ => ?_) (fun _ => ?_)
    · exact OkF.ret 2 (fun f => rfl)
    · refine OkF.eq 2 (Y := fun f => if oc q3.2 x0 11 = true then rk px kx f (d + 5) 82 28 [some (.ref x0), some (.int x1)] (va_rf (q3.2.2.2.2.1 x0 3) :: []) q3.2 else none) (fun f => rfl) ?_
      refine OkF.grd (fun _ => ?_)
      refine OkF.rf (fun a4 => ?_)
      refine OkF.eq 2 (Y := fun f => if oc q3.2 a4 4 = true then (rk px kx f (d + 4) 74 0 [some (.ref a4), some (.int (1 : Int32))] [] q3.2).bind (fun q => rk px kx f (d + 5) 82 32 [some (.ref x0), some (.int x1)] (q.1.toList ++ []) q.2) else none) (fun f => rfl) ?_
      refine OkF.grd (fun _ => ?_)
      refine OkF.bind (w1 := wI) (om74 (d + 4) a4 (1 : Int32) q3.2) (fun q5 => ?_)
      refine OkF.eq 1 (Y := fun f => if q5.1 = 0 then rk px kx f (d + 5) 82 35 [some (.ref x0), some (.int x1)] [] q5.2 else rk px kx f (d + 5) 82 38 [some (.ref x0), some (.int x1)] [] q5.2) (fun f => rfl) ?_
      refine OkF.ite (fun _ => ?_) (fun _ => ?_)
      · exact OkF.ret 2 (fun f => rfl)
      · refine OkF.eq 2 (Y := fun f => if oc q5.2 x0 11 = true then rk px kx f (d + 5) 82 42 [some (.ref x0), some (.int x1)] (va_rf (q5.2.2.2.2.1 x0 3) :: []) q5.2 else none) (fun f => rfl) ?_
        refine OkF.grd (fun _ => ?_)
        refine OkF.rf (fun a6 => ?_)
        refine OkF.eq 4 (Y := fun f => if oc q5.2 a6 4 = true then (rk px kx f (d + 4) 75 0 [some (.ref a6), some (.int ((16 : Int32) + x1))] [] q5.2).bind (fun q => rk px kx f (d + 5) 82 49 [some (.ref x0), some (.int x1)] (q.1.toList ++ []) q.2) else none) (fun f => rfl) ?_
        refine OkF.grd (fun _ => ?_)
        refine OkF.bind (w1 := wV) (om75 (d + 0) a6 ((16 : Int32) + x1) q5.2) (fun q7 => ?_)
        refine OkF.eq 2 (Y := fun f => if oc q7 x0 11 = true then rk px kx f (d + 5) 82 53 [some (.ref x0), some (.int x1)] (va_rf (q7.2.2.2.1 x0 3) :: []) q7 else none) (fun f => rfl) ?_
        refine OkF.grd (fun _ => ?_)
        refine OkF.rf (fun a8 => ?_)
        refine OkF.eq 1 (Y := fun f => if oc q7 a8 4 = true then rk px kx f (d + 5) 82 56 [some (.ref x0), some (.int x1)] [.int (q7.2.1 a8 11)] q7 else none) (fun f => rfl) ?_
        refine OkF.grd (fun _ => ?_)
        exact OkF.ret 1 (fun f => rfl)
  · exact OkF.ret 2 (fun f => rfl)
-- DoorSold.set(I)I
def m83 (x0 : Nat) (x1 : Int32) (S : Sx) : Option (Int32 × Sx) :=
  if oc S x0 11 = true then (m43 x0 x1 S).bind fun q1 => if q1.1 = 0 then if oc q1.2 x0 11 = true then (q1.2.2.2.2.1 x0 3).bind fun a2 => if oc q1.2 a2 4 = true then (m66 a2 x1 q1.2).bind fun q3 => if q3.1 = 0 then some ((-4 : Int32), q3.2) else if oc q3.2 x0 11 = true then (q3.2.2.2.2.1 x0 3).bind fun a4 => if oc q3.2 x0 11 = true then (q3.2.2.2.2.1 x0 3).bind fun a5 => if oc q3.2 a5 4 = true then if oc q3.2 a4 4 = true then (m51 a4 x1 (q3.2.2.1 a5 13) q3.2).bind fun q6 => if oc q6.2 x0 11 = true then (q6.2.2.2.2.1 x0 3).bind fun a7 => if oc q6.2 a7 4 = true then if q6.1 = (q6.2.2.1 a7 12) then some ((-4 : Int32), q6.2) else if oc q6.2 x0 11 = true then (q6.2.2.2.2.1 x0 3).bind fun a8 => if oc q6.2 a8 4 = true then (m74 a8 (1 : Int32) q6.2).bind fun q9 => if q9.1 = 0 then some ((-2 : Int32), q9.2) else if oc q9.2 x0 11 = true then (q9.2.2.2.2.1 x0 3).bind fun a10 => if oc q9.2 a10 4 = true then (m75 a10 ((24 : Int32) + x1) q9.2).bind fun q11 => if oc q11 x0 11 = true then (q11.2.2.2.1 x0 3).bind fun a12 => if oc q11 a12 4 = true then (q11.2.2.2.1 a12 3).bind fun a13 => if inb x1 (al q11 a13) = true then some (q11.2.1 a13 x1.toNatClampNeg, q11) else none else none else none else none else none else none else none else none else none else none else none else none else none else none else none else some ((-1 : Int32), q1.2) else none
set_option maxRecDepth 100000 in
theorem om83 (d : Nat) (x0 : Nat) (x1 : Int32) (S : Sx) : OkF wI (fun f => rk px kx f (d + 5) 83 0 [some (.ref x0), some (.int x1)] [] S) (m83 x0 x1 S) := by
  unfold m83
  refine OkF.eq 3 (Y := fun f => if oc S x0 11 = true then (rk px kx f (d + 4) 43 0 [some (.ref x0), some (.int x1)] [] S).bind (fun q => rk px kx f (d + 5) 83 5 [some (.ref x0), some (.int x1)] (q.1.toList ++ []) q.2) else none) (fun f => rfl) ?_
  refine OkF.grd (fun _ => ?_)
  refine OkF.bind (w1 := wI) (om43 (d + 4) x0 x1 S) (fun q1 => ?_)
  refine OkF.eq 1 (Y := fun f => if q1.1 = 0 then rk px kx f (d + 5) 83 10 [some (.ref x0), some (.int x1)] [] q1.2 else rk px kx f (d + 5) 83 8 [some (.ref x0), some (.int x1)] [] q1.2) (fun f => rfl) ?_
  refine OkF.ite (fun _ => ?_) (fun _ => ?_)
  · refine OkF.eq 2 (Y := fun f => if oc q1.2 x0 11 = true then rk px kx f (d + 5) 83 14 [some (.ref x0), some (.int x1)] (va_rf (q1.2.2.2.2.1 x0 3) :: []) q1.2 else none) (fun f => rfl) ?_
    refine OkF.grd (fun _ => ?_)
    refine OkF.rf (fun a2 => ?_)
    refine OkF.eq 2 (Y := fun f => if oc q1.2 a2 4 = true then (rk px kx f (d + 4) 66 0 [some (.ref a2), some (.int x1)] [] q1.2).bind (fun q => rk px kx f (d + 5) 83 18 [some (.ref x0), some (.int x1)] (q.1.toList ++ []) q.2) else none) (fun f => rfl) ?_
    refine OkF.grd (fun _ => ?_)
    refine OkF.bind (w1 := wI) (om66 (d + 4) a2 x1 q1.2) (fun q3 => ?_)
    refine OkF.eq 1 (Y := fun f => if q3.1 = 0 then rk px kx f (d + 5) 83 46 [some (.ref x0), some (.int x1)] [] q3.2 else rk px kx f (d + 5) 83 21 [some (.ref x0), some (.int x1)] [] q3.2) (fun f => rfl) ?_
    refine OkF.ite (fun _ => ?_) (fun _ => ?_)
    · exact OkF.ret 2 (fun f => rfl)
    · refine OkF.eq 2 (Y := fun f => if oc q3.2 x0 11 = true then rk px kx f (d + 5) 83 25 [some (.ref x0), some (.int x1)] (va_rf (q3.2.2.2.2.1 x0 3) :: []) q3.2 else none) (fun f => rfl) ?_
      refine OkF.grd (fun _ => ?_)
      refine OkF.rf (fun a4 => ?_)
      refine OkF.eq 3 (Y := fun f => if oc q3.2 x0 11 = true then rk px kx f (d + 5) 83 30 [some (.ref x0), some (.int x1)] (va_rf (q3.2.2.2.2.1 x0 3) :: [.int x1, .ref a4]) q3.2 else none) (fun f => rfl) ?_
      refine OkF.grd (fun _ => ?_)
      refine OkF.rf (fun a5 => ?_)
      refine OkF.eq 1 (Y := fun f => if oc q3.2 a5 4 = true then rk px kx f (d + 5) 83 33 [some (.ref x0), some (.int x1)] [.int (q3.2.2.1 a5 13), .int x1, .ref a4] q3.2 else none) (fun f => rfl) ?_
      refine OkF.grd (fun _ => ?_)
      refine OkF.eq 1 (Y := fun f => if oc q3.2 a4 4 = true then (rk px kx f (d + 4) 51 0 [some (.ref a4), some (.int x1), some (.int (q3.2.2.1 a5 13))] [] q3.2).bind (fun q => rk px kx f (d + 5) 83 36 [some (.ref x0), some (.int x1)] (q.1.toList ++ []) q.2) else none) (fun f => rfl) ?_
      refine OkF.grd (fun _ => ?_)
      refine OkF.bind (w1 := wI) (om51 (d + 2) a4 x1 (q3.2.2.1 a5 13) q3.2) (fun q6 => ?_)
      refine OkF.eq 2 (Y := fun f => if oc q6.2 x0 11 = true then rk px kx f (d + 5) 83 40 [some (.ref x0), some (.int x1)] (va_rf (q6.2.2.2.2.1 x0 3) :: [.int q6.1]) q6.2 else none) (fun f => rfl) ?_
      refine OkF.grd (fun _ => ?_)
      refine OkF.rf (fun a7 => ?_)
      refine OkF.eq 1 (Y := fun f => if oc q6.2 a7 4 = true then rk px kx f (d + 5) 83 43 [some (.ref x0), some (.int x1)] [.int (q6.2.2.1 a7 12), .int q6.1] q6.2 else none) (fun f => rfl) ?_
      refine OkF.grd (fun _ => ?_)
      refine OkF.eq 1 (Y := fun f => if q6.1 = (q6.2.2.1 a7 12) then rk px kx f (d + 5) 83 46 [some (.ref x0), some (.int x1)] [] q6.2 else rk px kx f (d + 5) 83 49 [some (.ref x0), some (.int x1)] [] q6.2) (fun f => rfl) ?_
      refine OkF.ite (fun _ => ?_) (fun _ => ?_)
      · exact OkF.ret 2 (fun f => rfl)
      · refine OkF.eq 2 (Y := fun f => if oc q6.2 x0 11 = true then rk px kx f (d + 5) 83 53 [some (.ref x0), some (.int x1)] (va_rf (q6.2.2.2.2.1 x0 3) :: []) q6.2 else none) (fun f => rfl) ?_
        refine OkF.grd (fun _ => ?_)
        refine OkF.rf (fun a8 => ?_)
        refine OkF.eq 2 (Y := fun f => if oc q6.2 a8 4 = true then (rk px kx f (d + 4) 74 0 [some (.ref a8), some (.int (1 : Int32))] [] q6.2).bind (fun q => rk px kx f (d + 5) 83 57 [some (.ref x0), some (.int x1)] (q.1.toList ++ []) q.2) else none) (fun f => rfl) ?_
        refine OkF.grd (fun _ => ?_)
        refine OkF.bind (w1 := wI) (om74 (d + 4) a8 (1 : Int32) q6.2) (fun q9 => ?_)
        refine OkF.eq 1 (Y := fun f => if q9.1 = 0 then rk px kx f (d + 5) 83 60 [some (.ref x0), some (.int x1)] [] q9.2 else rk px kx f (d + 5) 83 63 [some (.ref x0), some (.int x1)] [] q9.2) (fun f => rfl) ?_
        refine OkF.ite (fun _ => ?_) (fun _ => ?_)
        · exact OkF.ret 2 (fun f => rfl)
        · refine OkF.eq 2 (Y := fun f => if oc q9.2 x0 11 = true then rk px kx f (d + 5) 83 67 [some (.ref x0), some (.int x1)] (va_rf (q9.2.2.2.2.1 x0 3) :: []) q9.2 else none) (fun f => rfl) ?_
          refine OkF.grd (fun _ => ?_)
          refine OkF.rf (fun a10 => ?_)
          refine OkF.eq 4 (Y := fun f => if oc q9.2 a10 4 = true then (rk px kx f (d + 4) 75 0 [some (.ref a10), some (.int ((24 : Int32) + x1))] [] q9.2).bind (fun q => rk px kx f (d + 5) 83 74 [some (.ref x0), some (.int x1)] (q.1.toList ++ []) q.2) else none) (fun f => rfl) ?_
          refine OkF.grd (fun _ => ?_)
          refine OkF.bind (w1 := wV) (om75 (d + 0) a10 ((24 : Int32) + x1) q9.2) (fun q11 => ?_)
          refine OkF.eq 2 (Y := fun f => if oc q11 x0 11 = true then rk px kx f (d + 5) 83 78 [some (.ref x0), some (.int x1)] (va_rf (q11.2.2.2.1 x0 3) :: []) q11 else none) (fun f => rfl) ?_
          refine OkF.grd (fun _ => ?_)
          refine OkF.rf (fun a12 => ?_)
          refine OkF.eq 1 (Y := fun f => if oc q11 a12 4 = true then rk px kx f (d + 5) 83 81 [some (.ref x0), some (.int x1)] (va_rf (q11.2.2.2.1 a12 3) :: []) q11 else none) (fun f => rfl) ?_
          refine OkF.grd (fun _ => ?_)
          refine OkF.rf (fun a13 => ?_)
          refine OkF.eq 2 (Y := fun f => if inb x1 (al q11 a13) = true then rk px kx f (d + 5) 83 83 [some (.ref x0), some (.int x1)] [.int (q11.2.1 a13 x1.toNatClampNeg)] q11 else none) (fun f => rfl) ?_
          refine OkF.grd (fun _ => ?_)
          exact OkF.ret 1 (fun f => rfl)
  · exact OkF.ret 2 (fun f => rfl)
-- DoorSold$Country.beginAgain(I)V
def b85_6 (k6 : Nat → Int32 → Int32 → Sx → Option (Sx)) (x0 : Nat) (x1 : Int32) (x2 : Int32) (S : Sx) : Option (Sx) :=
  if x1 ≤ x2 then some S else if (40 : Int32) ≤ x2 then some S else if oc S x0 4 = true then (S.2.2.2.1 x0 7).bind fun a1 => if inb x2 (al S a1) = true then if oc S x0 4 = true then (m75 x0 (S.2.1 a1 x2.toNatClampNeg) S).bind fun q2 => k6 x0 x1 (x2 + (1 : Int32)) q2 else none else none else none
set_option maxRecDepth 100000 in
theorem ob85_6 (d : Nat) (k6 : Nat → Int32 → Int32 → Sx → Option (Sx)) (hk6 : ∀ (x0 : Nat) (x1 : Int32) (x2 : Int32) (S : Sx), OkF wV (fun f => rk px kx f (d + 5) 85 6 [some (.ref x0), some (.int x1), some (.int x2)] [] S) (k6 x0 x1 x2 S)) (x0 : Nat) (x1 : Int32) (x2 : Int32) (S : Sx) : OkF wV (fun f => rk px kx f (d + 5) 85 6 [some (.ref x0), some (.int x1), some (.int x2)] [] S) (b85_6 k6 x0 x1 x2 S) := by
  unfold b85_6
  refine OkF.eq 3 (Y := fun f => if x1 ≤ x2 then rk px kx f (d + 5) 85 33 [some (.ref x0), some (.int x1), some (.int x2)] [] S else rk px kx f (d + 5) 85 11 [some (.ref x0), some (.int x1), some (.int x2)] [] S) (fun f => rfl) ?_
  refine OkF.ite (fun _ => ?_) (fun _ => ?_)
  · exact OkF.ret 1 (fun f => rfl)
  · refine OkF.eq 3 (Y := fun f => if (40 : Int32) ≤ x2 then rk px kx f (d + 5) 85 33 [some (.ref x0), some (.int x1), some (.int x2)] [] S else rk px kx f (d + 5) 85 17 [some (.ref x0), some (.int x1), some (.int x2)] [] S) (fun f => rfl) ?_
    refine OkF.ite (fun _ => ?_) (fun _ => ?_)
    · exact OkF.ret 1 (fun f => rfl)
    · refine OkF.eq 3 (Y := fun f => if oc S x0 4 = true then rk px kx f (d + 5) 85 22 [some (.ref x0), some (.int x1), some (.int x2)] (va_rf (S.2.2.2.1 x0 7) :: [.ref x0]) S else none) (fun f => rfl) ?_
      refine OkF.grd (fun _ => ?_)
      refine OkF.rf (fun a1 => ?_)
      refine OkF.eq 2 (Y := fun f => if inb x2 (al S a1) = true then rk px kx f (d + 5) 85 24 [some (.ref x0), some (.int x1), some (.int x2)] [.int (S.2.1 a1 x2.toNatClampNeg), .ref x0] S else none) (fun f => rfl) ?_
      refine OkF.grd (fun _ => ?_)
      refine OkF.eq 1 (Y := fun f => if oc S x0 4 = true then (rk px kx f (d + 4) 75 0 [some (.ref x0), some (.int (S.2.1 a1 x2.toNatClampNeg))] [] S).bind (fun q => rk px kx f (d + 5) 85 27 [some (.ref x0), some (.int x1), some (.int x2)] (q.1.toList ++ []) q.2) else none) (fun f => rfl) ?_
      refine OkF.grd (fun _ => ?_)
      refine OkF.bind (w1 := wV) (om75 (d + 0) x0 (S.2.1 a1 x2.toNatClampNeg) S) (fun q2 => ?_)
      refine OkF.eq 2 (Y := fun f => rk px kx f (d + 5) 85 6 [some (.ref x0), some (.int x1), some (.int (x2 + (1 : Int32)))] [] q2) (fun f => rfl) ?_
      exact OkF.kl (ls1 := [some (.ref x0), some (.int x1), some (.int (x2 + (1 : Int32)))]) (fun f => rfl) (hk6 x0 x1 (x2 + (1 : Int32)) q2)
def l85_6 : Nat → Nat → Int32 → Int32 → Sx → Option (Sx)
  | 0 => fun _ _ _ _ => none
  | n + 1 => fun x0 x1 x2 S => b85_6 (l85_6 n) x0 x1 x2 S
set_option maxRecDepth 100000 in
theorem ol85_6 (d : Nat) : ∀ (n : Nat) (x0 : Nat) (x1 : Int32) (x2 : Int32) (S : Sx), OkF wV (fun f => rk px kx f (d + 5) 85 6 [some (.ref x0), some (.int x1), some (.int x2)] [] S) (l85_6 n x0 x1 x2 S) := by
  intro n
  induction n with
  | zero => intro x0 x1 x2 S; exact OkF.no
  | succ n ih => intro x0 x1 x2 S; exact ob85_6 d (l85_6 n) ih x0 x1 x2 S
def m85 (x0 : Nat) (x1 : Int32) (S : Sx) : Option (Sx) :=
  if oc S x0 4 = true then (m33 x0 S).bind fun q3 => l85_6 1000 x0 x1 (0 : Int32) q3 else none
set_option maxRecDepth 100000 in
theorem om85 (d : Nat) (x0 : Nat) (x1 : Int32) (S : Sx) : OkF wV (fun f => rk px kx f (d + 5) 85 0 [some (.ref x0), some (.int x1), none] [] S) (m85 x0 x1 S) := by
  unfold m85
  refine OkF.eq 2 (Y := fun f => if oc S x0 4 = true then (rk px kx f (d + 4) 33 0 [some (.ref x0), none] [] S).bind (fun q => rk px kx f (d + 5) 85 4 [some (.ref x0), some (.int x1), none] (q.1.toList ++ []) q.2) else none) (fun f => rfl) ?_
  refine OkF.grd (fun _ => ?_)
  refine OkF.bind (w1 := wV) (om33 (d + 4) x0 S) (fun q3 => ?_)
  refine OkF.eq 2 (Y := fun f => rk px kx f (d + 5) 85 6 [some (.ref x0), some (.int x1), some (.int (0 : Int32))] [] q3) (fun f => rfl) ?_
  exact OkF.kl (ls1 := [some (.ref x0), some (.int x1), some (.int (0 : Int32))]) (fun f => rfl) (ol85_6 d 1000 x0 x1 (0 : Int32) q3)
