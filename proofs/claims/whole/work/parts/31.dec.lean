-- DoorSold$Kind.<init>()V
def m1 (x0 : Nat) (S : Sx) : Option (Sx) :=
  some S
set_option maxRecDepth 100000 in
theorem om1 (d : Nat) (x0 : Nat) (S : Sx) : OkF wV (fun f => rk px kx f (d + 1) 1 0 [some (.ref x0)] [] S) (m1 x0 S) := by
  unfold m1
  exact OkF.ret 3 (fun f => rfl)
-- DoorSold$Dutch.<init>()V
def m2 (x0 : Nat) (S : Sx) : Option (Sx) :=
  (m1 x0 S).bind fun q1 => some q1
set_option maxRecDepth 100000 in
theorem om2 (d : Nat) (x0 : Nat) (S : Sx) : OkF wV (fun f => rk px kx f (d + 2) 2 0 [some (.ref x0)] [] S) (m2 x0 S) := by
  unfold m2
  refine OkF.eq 2 (Y := fun f => (rk px kx f (d + 1) 1 0 [some (.ref x0)] [] S).bind (fun q => rk px kx f (d + 2) 2 4 [some (.ref x0)] (q.1.toList ++ []) q.2)) (fun f => rfl) ?_
  refine OkF.bind (w1 := wV) (om1 (d + 0) x0 S) (fun q1 => ?_)
  exact OkF.ret 1 (fun f => rfl)
-- DoorSold$Back.<init>()V
def m3 (x0 : Nat) (S : Sx) : Option (Sx) :=
  (m1 x0 S).bind fun q1 => some q1
set_option maxRecDepth 100000 in
theorem om3 (d : Nat) (x0 : Nat) (S : Sx) : OkF wV (fun f => rk px kx f (d + 2) 3 0 [some (.ref x0)] [] S) (m3 x0 S) := by
  unfold m3
  refine OkF.eq 2 (Y := fun f => (rk px kx f (d + 1) 1 0 [some (.ref x0)] [] S).bind (fun q => rk px kx f (d + 2) 3 4 [some (.ref x0)] (q.1.toList ++ []) q.2)) (fun f => rfl) ?_
  refine OkF.bind (w1 := wV) (om1 (d + 0) x0 S) (fun q1 => ?_)
  exact OkF.ret 1 (fun f => rfl)
-- DoorSold$Bricked.<init>()V
def m4 (x0 : Nat) (S : Sx) : Option (Sx) :=
  (m1 x0 S).bind fun q1 => some q1
set_option maxRecDepth 100000 in
theorem om4 (d : Nat) (x0 : Nat) (S : Sx) : OkF wV (fun f => rk px kx f (d + 2) 4 0 [some (.ref x0)] [] S) (m4 x0 S) := by
  unfold m4
  refine OkF.eq 2 (Y := fun f => (rk px kx f (d + 1) 1 0 [some (.ref x0)] [] S).bind (fun q => rk px kx f (d + 2) 4 4 [some (.ref x0)] (q.1.toList ++ []) q.2)) (fun f => rfl) ?_
  refine OkF.bind (w1 := wV) (om1 (d + 0) x0 S) (fun q1 => ?_)
  exact OkF.ret 1 (fun f => rfl)
-- DoorSold$Study.<init>()V
def m5 (x0 : Nat) (S : Sx) : Option (Sx) :=
  (m3 x0 S).bind fun q1 => some q1
set_option maxRecDepth 100000 in
theorem om5 (d : Nat) (x0 : Nat) (S : Sx) : OkF wV (fun f => rk px kx f (d + 3) 5 0 [some (.ref x0)] [] S) (m5 x0 S) := by
  unfold m5
  refine OkF.eq 2 (Y := fun f => (rk px kx f (d + 2) 3 0 [some (.ref x0)] [] S).bind (fun q => rk px kx f (d + 3) 5 4 [some (.ref x0)] (q.1.toList ++ []) q.2)) (fun f => rfl) ?_
  refine OkF.bind (w1 := wV) (om3 (d + 0) x0 S) (fun q1 => ?_)
  exact OkF.ret 1 (fun f => rfl)
-- DoorSold$Cart.<init>()V
def m6 (x0 : Nat) (S : Sx) : Option (Sx) :=
  (m2 x0 S).bind fun q1 => some q1
set_option maxRecDepth 100000 in
theorem om6 (d : Nat) (x0 : Nat) (S : Sx) : OkF wV (fun f => rk px kx f (d + 3) 6 0 [some (.ref x0)] [] S) (m6 x0 S) := by
  unfold m6
  refine OkF.eq 2 (Y := fun f => (rk px kx f (d + 2) 2 0 [some (.ref x0)] [] S).bind (fun q => rk px kx f (d + 3) 6 4 [some (.ref x0)] (q.1.toList ++ []) q.2)) (fun f => rfl) ?_
  refine OkF.bind (w1 := wV) (om2 (d + 0) x0 S) (fun q1 => ?_)
  exact OkF.ret 1 (fun f => rfl)
-- DoorSold$Country.<init>([LDoorSold$Kind;)V
def m7 (x0 : Nat) (x1 : Nat) (S : Sx) : Option (Sx) :=
  if (!(decide ((6 : Int32) < 0)) && nb S 1 (6 : Int32).toNatClampNeg) = true then lt (nwS S) fun S1 => if oc S1 x0 4 = true then lt (sR S1 x0 1 (some S.1)) fun S2 => if (!(decide ((6 : Int32) < 0)) && nb S2 1 (6 : Int32).toNatClampNeg) = true then lt (nwS S2) fun S3 => if oc S3 x0 4 = true then lt (sR S3 x0 2 (some S2.1)) fun S4 => if (!(decide ((6 : Int32) < 0)) && nb S4 1 (6 : Int32).toNatClampNeg) = true then lt (nwS S4) fun S5 => if oc S5 x0 4 = true then lt (sR S5 x0 3 (some S4.1)) fun S6 => if (!(decide ((6 : Int32) < 0)) && nb S6 1 (6 : Int32).toNatClampNeg) = true then lt (nwS S6) fun S7 => if oc S7 x0 4 = true then lt (sR S7 x0 4 (some S6.1)) fun S8 => if (!(decide ((6 : Int32) < 0)) && nb S8 1 (6 : Int32).toNatClampNeg) = true then lt (nwS S8) fun S9 => if oc S9 x0 4 = true then lt (sR S9 x0 5 (some S8.1)) fun S10 => if (!(decide ((6 : Int32) < 0)) && nb S10 1 (6 : Int32).toNatClampNeg) = true then lt (nwS S10) fun S11 => if oc S11 x0 4 = true then lt (sR S11 x0 6 (some S10.1)) fun S12 => if (!(decide ((40 : Int32) < 0)) && nb S12 1 (40 : Int32).toNatClampNeg) = true then lt (nwS S12) fun S13 => if oc S13 x0 4 = true then lt (sR S13 x0 7 (some S12.1)) fun S14 => if oc S14 x0 4 = true then lt (sI S14 x0 8 (0 : Int32)) fun S15 => if oc S15 x0 4 = true then lt (sI S15 x0 9 (0 : Int32)) fun S16 => if oc S16 x0 4 = true then lt (sI S16 x0 10 (0 : Int32)) fun S17 => if oc S17 x0 4 = true then lt (sI S17 x0 11 (0 : Int32)) fun S18 => if oc S18 x0 4 = true then lt (sI S18 x0 12 (0 : Int32)) fun S19 => if oc S19 x0 4 = true then lt (sI S19 x0 13 (0 : Int32)) fun S20 => if oc S20 x0 4 = true then lt (sI S20 x0 14 (0 : Int32)) fun S21 => if oc S21 x0 4 = true then lt (sI S21 x0 15 (0 : Int32)) fun S22 => if oc S22 x0 4 = true then lt (sR S22 x0 0 (some x1)) fun S23 => some S23 else none else none else none else none else none else none else none else none else none else none else none else none else none else none else none else none else none else none else none else none else none else none else none
set_option maxRecDepth 100000 in
theorem om7 (d : Nat) (x0 : Nat) (x1 : Nat) (S : Sx) : OkF wV (fun f => rk px kx f (d + 1) 7 0 [some (.ref x0), some (.ref x1)] [] S) (m7 x0 x1 S) := by
  unfold m7
  refine OkF.eq 5 (Y := fun f => if (!(decide ((6 : Int32) < 0)) && nb S 1 (6 : Int32).toNatClampNeg) = true then rk px kx f (d + 1) 7 9 [some (.ref x0), some (.ref x1)] [.ref S.1, .ref x0] (nwS S) else none) (fun f => rfl) ?_
  refine OkF.grd (fun _ => ?_)
  refine OkF.nm (fun S1 => ?_)
  refine OkF.eq 1 (Y := fun f => if oc S1 x0 4 = true then rk px kx f (d + 1) 7 12 [some (.ref x0), some (.ref x1)] [] (sR S1 x0 1 (some S.1)) else none) (fun f => rfl) ?_
  refine OkF.grd (fun _ => ?_)
  refine OkF.nm (fun S2 => ?_)
  refine OkF.eq 3 (Y := fun f => if (!(decide ((6 : Int32) < 0)) && nb S2 1 (6 : Int32).toNatClampNeg) = true then rk px kx f (d + 1) 7 17 [some (.ref x0), some (.ref x1)] [.ref S2.1, .ref x0] (nwS S2) else none) (fun f => rfl) ?_
  refine OkF.grd (fun _ => ?_)
  refine OkF.nm (fun S3 => ?_)
  refine OkF.eq 1 (Y := fun f => if oc S3 x0 4 = true then rk px kx f (d + 1) 7 20 [some (.ref x0), some (.ref x1)] [] (sR S3 x0 2 (some S2.1)) else none) (fun f => rfl) ?_
  refine OkF.grd (fun _ => ?_)
  refine OkF.nm (fun S4 => ?_)
  refine OkF.eq 3 (Y := fun f => if (!(decide ((6 : Int32) < 0)) && nb S4 1 (6 : Int32).toNatClampNeg) = true then rk px kx f (d + 1) 7 25 [some (.ref x0), some (.ref x1)] [.ref S4.1, .ref x0] (nwS S4) else none) (fun f => rfl) ?_
  refine OkF.grd (fun _ => ?_)
  refine OkF.nm (fun S5 => ?_)
  refine OkF.eq 1 (Y := fun f => if oc S5 x0 4 = true then rk px kx f (d + 1) 7 28 [some (.ref x0), some (.ref x1)] [] (sR S5 x0 3 (some S4.1)) else none) (fun f => rfl) ?_
  refine OkF.grd (fun _ => ?_)
  refine OkF.nm (fun S6 => ?_)
  refine OkF.eq 3 (Y := fun f => if (!(decide ((6 : Int32) < 0)) && nb S6 1 (6 : Int32).toNatClampNeg) = true then rk px kx f (d + 1) 7 33 [some (.ref x0), some (.ref x1)] [.ref S6.1, .ref x0] (nwS S6) else none) (fun f => rfl) ?_
  refine OkF.grd (fun _ => ?_)
  refine OkF.nm (fun S7 => ?_)
  refine OkF.eq 1 (Y := fun f => if oc S7 x0 4 = true then rk px kx f (d + 1) 7 36 [some (.ref x0), some (.ref x1)] [] (sR S7 x0 4 (some S6.1)) else none) (fun f => rfl) ?_
  refine OkF.grd (fun _ => ?_)
  refine OkF.nm (fun S8 => ?_)
  refine OkF.eq 3 (Y := fun f => if (!(decide ((6 : Int32) < 0)) && nb S8 1 (6 : Int32).toNatClampNeg) = true then rk px kx f (d + 1) 7 41 [some (.ref x0), some (.ref x1)] [.ref S8.1, .ref x0] (nwS S8) else none) (fun f => rfl) ?_
  refine OkF.grd (fun _ => ?_)
  refine OkF.nm (fun S9 => ?_)
  refine OkF.eq 1 (Y := fun f => if oc S9 x0 4 = true then rk px kx f (d + 1) 7 44 [some (.ref x0), some (.ref x1)] [] (sR S9 x0 5 (some S8.1)) else none) (fun f => rfl) ?_
  refine OkF.grd (fun _ => ?_)
  refine OkF.nm (fun S10 => ?_)
  refine OkF.eq 3 (Y := fun f => if (!(decide ((6 : Int32) < 0)) && nb S10 1 (6 : Int32).toNatClampNeg) = true then rk px kx f (d + 1) 7 49 [some (.ref x0), some (.ref x1)] [.ref S10.1, .ref x0] (nwS S10) else none) (fun f => rfl) ?_
  refine OkF.grd (fun _ => ?_)
  refine OkF.nm (fun S11 => ?_)
  refine OkF.eq 1 (Y := fun f => if oc S11 x0 4 = true then rk px kx f (d + 1) 7 52 [some (.ref x0), some (.ref x1)] [] (sR S11 x0 6 (some S10.1)) else none) (fun f => rfl) ?_
  refine OkF.grd (fun _ => ?_)
  refine OkF.nm (fun S12 => ?_)
  refine OkF.eq 3 (Y := fun f => if (!(decide ((40 : Int32) < 0)) && nb S12 1 (40 : Int32).toNatClampNeg) = true then rk px kx f (d + 1) 7 57 [some (.ref x0), some (.ref x1)] [.ref S12.1, .ref x0] (nwS S12) else none) (fun f => rfl) ?_
  refine OkF.grd (fun _ => ?_)
  refine OkF.nm (fun S13 => ?_)
  refine OkF.eq 1 (Y := fun f => if oc S13 x0 4 = true then rk px kx f (d + 1) 7 60 [some (.ref x0), some (.ref x1)] [] (sR S13 x0 7 (some S12.1)) else none) (fun f => rfl) ?_
  refine OkF.grd (fun _ => ?_)
  refine OkF.nm (fun S14 => ?_)
  refine OkF.eq 3 (Y := fun f => if oc S14 x0 4 = true then rk px kx f (d + 1) 7 65 [some (.ref x0), some (.ref x1)] [] (sI S14 x0 8 (0 : Int32)) else none) (fun f => rfl) ?_
  refine OkF.grd (fun _ => ?_)
  refine OkF.nm (fun S15 => ?_)
  refine OkF.eq 3 (Y := fun f => if oc S15 x0 4 = true then rk px kx f (d + 1) 7 70 [some (.ref x0), some (.ref x1)] [] (sI S15 x0 9 (0 : Int32)) else none) (fun f => rfl) ?_
  refine OkF.grd (fun _ => ?_)
  refine OkF.nm (fun S16 => ?_)
  refine OkF.eq 3 (Y := fun f => if oc S16 x0 4 = true then rk px kx f (d + 1) 7 75 [some (.ref x0), some (.ref x1)] [] (sI S16 x0 10 (0 : Int32)) else none) (fun f => rfl) ?_
  refine OkF.grd (fun _ => ?_)
  refine OkF.nm (fun S17 => ?_)
  refine OkF.eq 3 (Y := fun f => if oc S17 x0 4 = true then rk px kx f (d + 1) 7 80 [some (.ref x0), some (.ref x1)] [] (sI S17 x0 11 (0 : Int32)) else none) (fun f => rfl) ?_
  refine OkF.grd (fun _ => ?_)
  refine OkF.nm (fun S18 => ?_)
  refine OkF.eq 3 (Y := fun f => if oc S18 x0 4 = true then rk px kx f (d + 1) 7 85 [some (.ref x0), some (.ref x1)] [] (sI S18 x0 12 (0 : Int32)) else none) (fun f => rfl) ?_
  refine OkF.grd (fun _ => ?_)
  refine OkF.nm (fun S19 => ?_)
  refine OkF.eq 3 (Y := fun f => if oc S19 x0 4 = true then rk px kx f (d + 1) 7 90 [some (.ref x0), some (.ref x1)] [] (sI S19 x0 13 (0 : Int32)) else none) (fun f => rfl) ?_
  refine OkF.grd (fun _ => ?_)
  refine OkF.nm (fun S20 => ?_)
  refine OkF.eq 3 (Y := fun f => if oc S20 x0 4 = true then rk px kx f (d + 1) 7 95 [some (.ref x0), some (.ref x1)] [] (sI S20 x0 14 (0 : Int32)) else none) (fun f => rfl) ?_
  refine OkF.grd (fun _ => ?_)
  refine OkF.nm (fun S21 => ?_)
  refine OkF.eq 3 (Y := fun f => if oc S21 x0 4 = true then rk px kx f (d + 1) 7 100 [some (.ref x0), some (.ref x1)] [] (sI S21 x0 15 (0 : Int32)) else none) (fun f => rfl) ?_
  refine OkF.grd (fun _ => ?_)
  refine OkF.nm (fun S22 => ?_)
  refine OkF.eq 3 (Y := fun f => if oc S22 x0 4 = true then rk px kx f (d + 1) 7 105 [some (.ref x0), some (.ref x1)] [] (sR S22 x0 0 (some x1)) else none) (fun f => rfl) ?_
  refine OkF.grd (fun _ => ?_)
  refine OkF.nm (fun S23 => ?_)
  exact OkF.ret 1 (fun f => rfl)
-- DoorSold$Reader.<init>()V
def m8 (x0 : Nat) (S : Sx) : Option (Sx) :=
  if oc S x0 7 = true then lt (sI S x0 0 (0 : Int32)) fun S1 => some S1 else none
set_option maxRecDepth 100000 in
theorem om8 (d : Nat) (x0 : Nat) (S : Sx) : OkF wV (fun f => rk px kx f (d + 1) 8 0 [some (.ref x0)] [] S) (m8 x0 S) := by
  unfold m8
  refine OkF.eq 5 (Y := fun f => if oc S x0 7 = true then rk px kx f (d + 1) 8 9 [some (.ref x0)] [] (sI S x0 0 (0 : Int32)) else none) (fun f => rfl) ?_
  refine OkF.grd (fun _ => ?_)
  refine OkF.nm (fun S1 => ?_)
  exact OkF.ret 1 (fun f => rfl)
-- DoorSold$Ways.<init>()V
def m9 (x0 : Nat) (S : Sx) : Option (Sx) :=
  if (!(decide ((31 : Int32) < 0)) && nb S 1 (31 : Int32).toNatClampNeg) = true then lt (nwS S) fun S1 => if oc S1 x0 10 = true then lt (sR S1 x0 0 (some S.1)) fun S2 => if (!(decide ((31 : Int32) < 0)) && nb S2 1 (31 : Int32).toNatClampNeg) = true then lt (nwS S2) fun S3 => if oc S3 x0 10 = true then lt (sR S3 x0 1 (some S2.1)) fun S4 => some S4 else none else none else none else none
set_option maxRecDepth 100000 in
theorem om9 (d : Nat) (x0 : Nat) (S : Sx) : OkF wV (fun f => rk px kx f (d + 1) 9 0 [some (.ref x0)] [] S) (m9 x0 S) := by
  unfold m9
  refine OkF.eq 5 (Y := fun f => if (!(decide ((31 : Int32) < 0)) && nb S 1 (31 : Int32).toNatClampNeg) = true then rk px kx f (d + 1) 9 9 [some (.ref x0)] [.ref S.1, .ref x0] (nwS S) else none) (fun f => rfl) ?_
  refine OkF.grd (fun _ => ?_)
  refine OkF.nm (fun S1 => ?_)
  refine OkF.eq 1 (Y := fun f => if oc S1 x0 10 = true then rk px kx f (d + 1) 9 12 [some (.ref x0)] [] (sR S1 x0 0 (some S.1)) else none) (fun f => rfl) ?_
  refine OkF.grd (fun _ => ?_)
  refine OkF.nm (fun S2 => ?_)
  refine OkF.eq 3 (Y := fun f => if (!(decide ((31 : Int32) < 0)) && nb S2 1 (31 : Int32).toNatClampNeg) = true then rk px kx f (d + 1) 9 17 [some (.ref x0)] [.ref S2.1, .ref x0] (nwS S2) else none) (fun f => rfl) ?_
  refine OkF.grd (fun _ => ?_)
  refine OkF.nm (fun S3 => ?_)
  refine OkF.eq 1 (Y := fun f => if oc S3 x0 10 = true then rk px kx f (d + 1) 9 20 [some (.ref x0)] [] (sR S3 x0 1 (some S2.1)) else none) (fun f => rfl) ?_
  refine OkF.grd (fun _ => ?_)
  refine OkF.nm (fun S4 => ?_)
  exact OkF.ret 1 (fun f => rfl)
-- DoorSold$Chase.<init>()V
def m10 (x0 : Nat) (S : Sx) : Option (Sx) :=
  if (!(decide ((7 : Int32) < 0)) && nb S 1 (7 : Int32).toNatClampNeg) = true then lt (nwS S) fun S1 => if oc S1 x0 3 = true then lt (sR S1 x0 0 (some S.1)) fun S2 => if (!(decide ((49 : Int32) < 0)) && nb S2 1 (49 : Int32).toNatClampNeg) = true then lt (nwS S2) fun S3 => if oc S3 x0 3 = true then lt (sR S3 x0 1 (some S2.1)) fun S4 => if (!(decide ((49 : Int32) < 0)) && nb S4 1 (49 : Int32).toNatClampNeg) = true then lt (nwS S4) fun S5 => if oc S5 x0 3 = true then lt (sR S5 x0 2 (some S4.1)) fun S6 => some S6 else none else none else none else none else none else none
set_option maxRecDepth 100000 in
theorem om10 (d : Nat) (x0 : Nat) (S : Sx) : OkF wV (fun f => rk px kx f (d + 1) 10 0 [some (.ref x0)] [] S) (m10 x0 S) := by
  unfold m10
  refine OkF.eq 5 (Y := fun f => if (!(decide ((7 : Int32) < 0)) && nb S 1 (7 : Int32).toNatClampNeg) = true then rk px kx f (d + 1) 10 9 [some (.ref x0)] [.ref S.1, .ref x0] (nwS S) else none) (fun f => rfl) ?_
  refine OkF.grd (fun _ => ?_)
  refine OkF.nm (fun S1 => ?_)
  refine OkF.eq 1 (Y := fun f => if oc S1 x0 3 = true then rk px kx f (d + 1) 10 12 [some (.ref x0)] [] (sR S1 x0 0 (some S.1)) else none) (fun f => rfl) ?_
  refine OkF.grd (fun _ => ?_)
  refine OkF.nm (fun S2 => ?_)
  refine OkF.eq 3 (Y := fun f => if (!(decide ((49 : Int32) < 0)) && nb S2 1 (49 : Int32).toNatClampNeg) = true then rk px kx f (d + 1) 10 17 [some (.ref x0)] [.ref S2.1, .ref x0] (nwS S2) else none) (fun f => rfl) ?_
  refine OkF.grd (fun _ => ?_)
  refine OkF.nm (fun S3 => ?_)
  refine OkF.eq 1 (Y := fun f => if oc S3 x0 3 = true then rk px kx f (d + 1) 10 20 [some (.ref x0)] [] (sR S3 x0 1 (some S2.1)) else none) (fun f => rfl) ?_
  refine OkF.grd (fun _ => ?_)
  refine OkF.nm (fun S4 => ?_)
  refine OkF.eq 3 (Y := fun f => if (!(decide ((49 : Int32) < 0)) && nb S4 1 (49 : Int32).toNatClampNeg) = true then rk px kx f (d + 1) 10 25 [some (.ref x0)] [.ref S4.1, .ref x0] (nwS S4) else none) (fun f => rfl) ?_
  refine OkF.grd (fun _ => ?_)
  refine OkF.nm (fun S5 => ?_)
  refine OkF.eq 1 (Y := fun f => if oc S5 x0 3 = true then rk px kx f (d + 1) 10 28 [some (.ref x0)] [] (sR S5 x0 2 (some S4.1)) else none) (fun f => rfl) ?_
  refine OkF.grd (fun _ => ?_)
  refine OkF.nm (fun S6 => ?_)
  exact OkF.ret 1 (fun f => rfl)
-- java/lang/Math.max(II)I
def m12 (x0 : Int32) (x1 : Int32) (S : Sx) : Option (Int32 × Sx) :=
  if x0 < x1 then some (x1, S) else some (x0, S)
set_option maxRecDepth 100000 in
theorem om12 (d : Nat) (x0 : Int32) (x1 : Int32) (S : Sx) : OkF wI (fun f => rk px kx f (d + 0) 12 0 [some (.int x0), some (.int x1)] [] S) (m12 x0 x1 S) := by
  unfold m12
  refine OkF.eq 3 (Y := fun f => if x0 < x1 then rk px kx f (d + 0) 12 9 [some (.int x0), some (.int x1)] [] S else rk px kx f (d + 0) 12 5 [some (.int x0), some (.int x1)] [] S) (fun f => rfl) ?_
  refine OkF.ite (fun _ => ?_) (fun _ => ?_)
  · exact OkF.ret 2 (fun f => rfl)
  · exact OkF.ret 3 (fun f => rfl)
-- DoorSold$Row.<init>(I)V
def m11 (x0 : Nat) (x1 : Int32) (S : Sx) : Option (Sx) :=
  if oc S x0 8 = true then lt (sI S x0 1 (-1 : Int32)) fun S1 => (m12 (0 : Int32) x1 S1).bind fun q2 => if (!(decide (q2.1 < 0)) && nb q2.2 1 q2.1.toNatClampNeg) = true then lt (nwS q2.2) fun S3 => if oc S3 x0 8 = true then lt (sR S3 x0 0 (some q2.2.1)) fun S4 => some S4 else none else none else none
set_option maxRecDepth 100000 in
theorem om11 (d : Nat) (x0 : Nat) (x1 : Int32) (S : Sx) : OkF wV (fun f => rk px kx f (d + 1) 11 0 [some (.ref x0), some (.int x1)] [] S) (m11 x0 x1 S) := by
  unfold m11
  refine OkF.eq 5 (Y := fun f => if oc S x0 8 = true then rk px kx f (d + 1) 11 9 [some (.ref x0), some (.int x1)] [] (sI S x0 1 (-1 : Int32)) else none) (fun f => rfl) ?_
  refine OkF.grd (fun _ => ?_)
  refine OkF.nm (fun S1 => ?_)
  refine OkF.eq 4 (Y := fun f => (rk px kx f (d + 0) 12 0 [some (.int (0 : Int32)), some (.int x1)] [] S1).bind (fun q => rk px kx f (d + 1) 11 15 [some (.ref x0), some (.int x1)] (q.1.toList ++ [.ref x0]) q.2)) (fun f => rfl) ?_
  refine OkF.bind (w1 := wI) (om12 (d + 0) (0 : Int32) x1 S1) (fun q2 => ?_)
  refine OkF.eq 1 (Y := fun f => if (!(decide (q2.1 < 0)) && nb q2.2 1 q2.1.toNatClampNeg) = true then rk px kx f (d + 1) 11 17 [some (.ref x0), some (.int x1)] [.ref q2.2.1, .ref x0] (nwS q2.2) else none) (fun f => rfl) ?_
  refine OkF.grd (fun _ => ?_)
  refine OkF.nm (fun S3 => ?_)
  refine OkF.eq 1 (Y := fun f => if oc S3 x0 8 = true then rk px kx f (d + 1) 11 20 [some (.ref x0), some (.int x1)] [] (sR S3 x0 0 (some q2.2.1)) else none) (fun f => rfl) ?_
  refine OkF.grd (fun _ => ?_)
  refine OkF.nm (fun S4 => ?_)
  exact OkF.ret 1 (fun f => rfl)
-- DoorSold.<init>()V
def b0_256 (k256 : Nat → Int32 → Sx → Option (Sx)) (x0 : Nat) (x1 : Int32) (S : Sx) : Option (Sx) :=
  if (3 : Int32) ≤ x1 then some S else if oc S x0 11 = true then (S.2.2.2.1 x0 5).bind fun a1 => if nb S 0 4 = true then lt (nwS S) fun S2 => if oc S2 x0 11 = true then (S2.2.2.2.1 x0 2).bind fun a3 => (m7 S.1 a3 S2).bind fun q4 => if (inb x1 (aw q4 5 a1) && (iob q4 S.1 && ([4] : List Nat).elem (shp S.1).2)) = true then lt (sR q4 a1 x1.toNatClampNeg (some S.1)) fun S5 => k256 x0 (x1 + (1 : Int32)) S5 else none else none else none else none
set_option maxRecDepth 100000 in
theorem ob0_256 (d : Nat) (k256 : Nat → Int32 → Sx → Option (Sx)) (hk256 : ∀ (x0 : Nat) (x1 : Int32) (S : Sx), OkF wV (fun f => rk px kx f (d + 4) 0 256 [some (.ref x0), some (.int x1)] [] S) (k256 x0 x1 S)) (x0 : Nat) (x1 : Int32) (S : Sx) : OkF wV (fun f => rk px kx f (d + 4) 0 256 [some (.ref x0), some (.int x1)] [] S) (b0_256 k256 x0 x1 S) := by
  unfold b0_256
  refine OkF.eq 3 (Y := fun f => if (3 : Int32) ≤ x1 then rk px kx f (d + 4) 0 284 [some (.ref x0), some (.int x1)] [] S else rk px kx f (d + 4) 0 261 [some (.ref x0), some (.int x1)] [] S) (fun f => rfl) ?_
  refine OkF.ite (fun _ => ?_) (fun _ => ?_)
  · exact OkF.ret 1 (fun f => rfl)
  · refine OkF.eq 2 (Y := fun f => if oc S x0 11 = true then rk px kx f (d + 4) 0 265 [some (.ref x0), some (.int x1)] (va_rf (S.2.2.2.1 x0 5) :: []) S else none) (fun f => rfl) ?_
    refine OkF.grd (fun _ => ?_)
    refine OkF.rf (fun a1 => ?_)
    refine OkF.eq 2 (Y := fun f => if nb S 0 4 = true then rk px kx f (d + 4) 0 269 [some (.ref x0), some (.int x1)] [.ref S.1, .int x1, .ref a1] (nwS S) else none) (fun f => rfl) ?_
    refine OkF.grd (fun _ => ?_)
    refine OkF.nm (fun S2 => ?_)
    refine OkF.eq 3 (Y := fun f => if oc S2 x0 11 = true then rk px kx f (d + 4) 0 274 [some (.ref x0), some (.int x1)] (va_rf (S2.2.2.2.1 x0 2) :: [.ref S.1, .ref S.1, .int x1, .ref a1]) S2 else none) (fun f => rfl) ?_
    refine OkF.grd (fun _ => ?_)
    refine OkF.rf (fun a3 => ?_)
    refine OkF.eq 1 (Y := fun f => (rk px kx f (d + 3) 7 0 [some (.ref S.1), some (.ref a3)] [] S2).bind (fun q => rk px kx f (d + 4) 0 277 [some (.ref x0), some (.int x1)] (q.1.toList ++ [.ref S.1, .int x1, .ref a1]) q.2)) (fun f => rfl) ?_
    refine OkF.bind (w1 := wV) (om7 (d + 2) S.1 a3 S2) (fun q4 => ?_)
    refine OkF.eq 1 (Y := fun f => if (inb x1 (aw q4 5 a1) && (iob q4 S.1 && ([4] : List Nat).elem (shp S.1).2)) = true then rk px kx f (d + 4) 0 278 [some (.ref x0), some (.int x1)] [] (sR q4 a1 x1.toNatClampNeg (some S.1)) else none) (fun f => rfl) ?_
    refine OkF.grd (fun _ => ?_)
    refine OkF.nm (fun S5 => ?_)
    refine OkF.eq 2 (Y := fun f => rk px kx f (d + 4) 0 256 [some (.ref x0), some (.int (x1 + (1 : Int32)))] [] S5) (fun f => rfl) ?_
    exact OkF.kl (ls1 := [some (.ref x0), some (.int (x1 + (1 : Int32)))]) (fun f => rfl) (hk256 x0 (x1 + (1 : Int32)) S5)
def l0_256 : Nat → Nat → Int32 → Sx → Option (Sx)
  | 0 => fun _ _ _ => none
  | n + 1 => fun x0 x1 S => b0_256 (l0_256 n) x0 x1 S
set_option maxRecDepth 100000 in
theorem ol0_256 (d : Nat) : ∀ (n : Nat) (x0 : Nat) (x1 : Int32) (S : Sx), OkF wV (fun f => rk px kx f (d + 4) 0 256 [some (.ref x0), some (.int x1)] [] S) (l0_256 n x0 x1 S) := by
  intro n
  induction n with
  | zero => intro x0 x1 S; exact OkF.no
  | succ n ih => intro x0 x1 S; exact ob0_256 d (l0_256 n) ih x0 x1 S
def b0_228 (k228 : Nat → Int32 → Sx → Option (Sx)) (x0 : Nat) (x1 : Int32) (S : Sx) : Option (Sx) :=
  if (4 : Int32) ≤ x1 then l0_256 1000 x0 (0 : Int32) S else if oc S x0 11 = true then (S.2.2.2.1 x0 1).bind fun a6 => if nb S 0 8 = true then lt (nwS S) fun S7 => (m11 S.1 (60 : Int32) S7).bind fun q8 => if (inb x1 (aw q8 3 a6) && (iob q8 S.1 && ([8] : List Nat).elem (shp S.1).2)) = true then lt (sR q8 a6 x1.toNatClampNeg (some S.1)) fun S9 => k228 x0 (x1 + (1 : Int32)) S9 else none else none else none
set_option maxRecDepth 100000 in
theorem ob0_228 (d : Nat) (k228 : Nat → Int32 → Sx → Option (Sx)) (hk228 : ∀ (x0 : Nat) (x1 : Int32) (S : Sx), OkF wV (fun f => rk px kx f (d + 4) 0 228 [some (.ref x0), some (.int x1)] [] S) (k228 x0 x1 S)) (x0 : Nat) (x1 : Int32) (S : Sx) : OkF wV (fun f => rk px kx f (d + 4) 0 228 [some (.ref x0), some (.int x1)] [] S) (b0_228 k228 x0 x1 S) := by
  unfold b0_228
  refine OkF.eq 3 (Y := fun f => if (4 : Int32) ≤ x1 then rk px kx f (d + 4) 0 254 [some (.ref x0), some (.int x1)] [] S else rk px kx f (d + 4) 0 233 [some (.ref x0), some (.int x1)] [] S) (fun f => rfl) ?_
  refine OkF.ite (fun _ => ?_) (fun _ => ?_)
  · refine OkF.eq 2 (Y := fun f => rk px kx f (d + 4) 0 256 [some (.ref x0), some (.int (0 : Int32))] [] S) (fun f => rfl) ?_
    exact OkF.kl (ls1 := [some (.ref x0), some (.int (0 : Int32))]) (fun f => rfl) (ol0_256 d 1000 x0 (0 : Int32) S)
  · refine OkF.eq 2 (Y := fun f => if oc S x0 11 = true then rk px kx f (d + 4) 0 237 [some (.ref x0), some (.int x1)] (va_rf (S.2.2.2.1 x0 1) :: []) S else none) (fun f => rfl) ?_
    refine OkF.grd (fun _ => ?_)
    refine OkF.rf (fun a6 => ?_)
    refine OkF.eq 2 (Y := fun f => if nb S 0 8 = true then rk px kx f (d + 4) 0 241 [some (.ref x0), some (.int x1)] [.ref S.1, .int x1, .ref a6] (nwS S) else none) (fun f => rfl) ?_
    refine OkF.grd (fun _ => ?_)
    refine OkF.nm (fun S7 => ?_)
    refine OkF.eq 3 (Y := fun f => (rk px kx f (d + 3) 11 0 [some (.ref S.1), some (.int (60 : Int32))] [] S7).bind (fun q => rk px kx f (d + 4) 0 247 [some (.ref x0), some (.int x1)] (q.1.toList ++ [.ref S.1, .int x1, .ref a6]) q.2)) (fun f => rfl) ?_
    refine OkF.bind (w1 := wV) (om11 (d + 2) S.1 (60 : Int32) S7) (fun q8 => ?_)
    refine OkF.eq 1 (Y := fun f => if (inb x1 (aw q8 3 a6) && (iob q8 S.1 && ([8] : List Nat).elem (shp S.1).2)) = true then rk px kx f (d + 4) 0 248 [some (.ref x0), some (.int x1)] [] (sR q8 a6 x1.toNatClampNeg (some S.1)) else none) (fun f => rfl) ?_
    refine OkF.grd (fun _ => ?_)
    refine OkF.nm (fun S9 => ?_)
    refine OkF.eq 2 (Y := fun f => rk px kx f (d + 4) 0 228 [some (.ref x0), some (.int (x1 + (1 : Int32)))] [] S9) (fun f => rfl) ?_
    exact OkF.kl (ls1 := [some (.ref x0), some (.int (x1 + (1 : Int32)))]) (fun f => rfl) (hk228 x0 (x1 + (1 : Int32)) S9)
def l0_228 : Nat → Nat → Int32 → Sx → Option (Sx)
  | 0 => fun _ _ _ => none
  | n + 1 => fun x0 x1 S => b0_228 (l0_228 n) x0 x1 S
set_option maxRecDepth 100000 in
theorem ol0_228 (d : Nat) : ∀ (n : Nat) (x0 : Nat) (x1 : Int32) (S : Sx), OkF wV (fun f => rk px kx f (d + 4) 0 228 [some (.ref x0), some (.int x1)] [] S) (l0_228 n x0 x1 S) := by
  intro n
  induction n with
  | zero => intro x0 x1 S; exact OkF.no
  | succ n ih => intro x0 x1 S; exact ob0_228 d (l0_228 n) ih x0 x1 S
def b0_199 (k199 : Nat → Int32 → Sx → Option (Sx)) (x0 : Nat) (x1 : Int32) (S : Sx) : Option (Sx) :=
  if (6 : Int32) ≤ x1 then l0_228 1000 x0 (0 : Int32) S else if oc S x0 11 = true then (S.2.2.2.1 x0 0).bind fun a10 => if nb S 0 8 = true then lt (nwS S) fun S11 => (m11 S.1 (40 : Int32) S11).bind fun q12 => if (inb x1 (aw q12 3 a10) && (iob q12 S.1 && ([8] : List Nat).elem (shp S.1).2)) = true then lt (sR q12 a10 x1.toNatClampNeg (some S.1)) fun S13 => k199 x0 (x1 + (1 : Int32)) S13 else none else none else none
set_option maxRecDepth 100000 in
theorem ob0_199 (d : Nat) (k199 : Nat → Int32 → Sx → Option (Sx)) (hk199 : ∀ (x0 : Nat) (x1 : Int32) (S : Sx), OkF wV (fun f => rk px kx f (d + 4) 0 199 [some (.ref x0), some (.int x1)] [] S) (k199 x0 x1 S)) (x0 : Nat) (x1 : Int32) (S : Sx) : OkF wV (fun f => rk px kx f (d + 4) 0 199 [some (.ref x0), some (.int x1)] [] S) (b0_199 k199 x0 x1 S) := by
  unfold b0_199
  refine OkF.eq 3 (Y := fun f => if (6 : Int32) ≤ x1 then rk px kx f (d + 4) 0 226 [some (.ref x0), some (.int x1)] [] S else rk px kx f (d + 4) 0 205 [some (.ref x0), some (.int x1)] [] S) (fun f => rfl) ?_
  refine OkF.ite (fun _ => ?_) (fun _ => ?_)
  · refine OkF.eq 2 (Y := fun f => rk px kx f (d + 4) 0 228 [some (.ref x0), some (.int (0 : Int32))] [] S) (fun f => rfl) ?_
    exact OkF.kl (ls1 := [some (.ref x0), some (.int (0 : Int32))]) (fun f => rfl) (ol0_228 d 1000 x0 (0 : Int32) S)
  · refine OkF.eq 2 (Y := fun f => if oc S x0 11 = true then rk px kx f (d + 4) 0 209 [some (.ref x0), some (.int x1)] (va_rf (S.2.2.2.1 x0 0) :: []) S else none) (fun f => rfl) ?_
    refine OkF.grd (fun _ => ?_)
    refine OkF.rf (fun a10 => ?_)
    refine OkF.eq 2 (Y := fun f => if nb S 0 8 = true then rk px kx f (d + 4) 0 213 [some (.ref x0), some (.int x1)] [.ref S.1, .int x1, .ref a10] (nwS S) else none) (fun f => rfl) ?_
    refine OkF.grd (fun _ => ?_)
    refine OkF.nm (fun S11 => ?_)
    refine OkF.eq 3 (Y := fun f => (rk px kx f (d + 3) 11 0 [some (.ref S.1), some (.int (40 : Int32))] [] S11).bind (fun q => rk px kx f (d + 4) 0 219 [some (.ref x0), some (.int x1)] (q.1.toList ++ [.ref S.1, .int x1, .ref a10]) q.2)) (fun f => rfl) ?_
    refine OkF.bind (w1 := wV) (om11 (d + 2) S.1 (40 : Int32) S11) (fun q12 => ?_)
    refine OkF.eq 1 (Y := fun f => if (inb x1 (aw q12 3 a10) && (iob q12 S.1 && ([8] : List Nat).elem (shp S.1).2)) = true then rk px kx f (d + 4) 0 220 [some (.ref x0), some (.int x1)] [] (sR q12 a10 x1.toNatClampNeg (some S.1)) else none) (fun f => rfl) ?_
    refine OkF.grd (fun _ => ?_)
    refine OkF.nm (fun S13 => ?_)
    refine OkF.eq 2 (Y := fun f => rk px kx f (d + 4) 0 199 [some (.ref x0), some (.int (x1 + (1 : Int32)))] [] S13) (fun f => rfl) ?_
    exact OkF.kl (ls1 := [some (.ref x0), some (.int (x1 + (1 : Int32)))]) (fun f => rfl) (hk199 x0 (x1 + (1 : Int32)) S13)
def l0_199 : Nat → Nat → Int32 → Sx → Option (Sx)
  | 0 => fun _ _ _ => none
  | n + 1 => fun x0 x1 S => b0_199 (l0_199 n) x0 x1 S
set_option maxRecDepth 100000 in
theorem ol0_199 (d : Nat) : ∀ (n : Nat) (x0 : Nat) (x1 : Int32) (S : Sx), OkF wV (fun f => rk px kx f (d + 4) 0 199 [some (.ref x0), some (.int x1)] [] S) (l0_199 n x0 x1 S) := by
  intro n
  induction n with
  | zero => intro x0 x1 S; exact OkF.no
  | succ n ih => intro x0 x1 S; exact ob0_199 d (l0_199 n) ih x0 x1 S
def m0 (x0 : Nat) (S : Sx) : Option (Sx) :=
  if (!(decide ((6 : Int32) < 0)) && nb S 3 (6 : Int32).toNatClampNeg) = true then lt (nwS S) fun S14 => if oc S14 x0 11 = true then lt (sR S14 x0 0 (some S.1)) fun S15 => if (!(decide ((4 : Int32) < 0)) && nb S15 3 (4 : Int32).toNatClampNeg) = true then lt (nwS S15) fun S16 => if oc S16 x0 11 = true then lt (sR S16 x0 1 (some S15.1)) fun S17 => if (!(decide ((6 : Int32) < 0)) && nb S17 4 (6 : Int32).toNatClampNeg) = true then lt (nwS S17) fun S18 => if nb S18 0 6 = true then lt (nwS S18) fun S19 => (m1 S18.1 S19).bind fun q20 => if (inb (0 : Int32) (aw q20 4 S17.1) && (iob q20 S18.1 && ([6, 5, 0, 1, 9, 2] : List Nat).elem (shp S18.1).2)) = true then lt (sR q20 S17.1 (0 : Int32).toNatClampNeg (some S18.1)) fun S21 => if nb S21 0 5 = true then lt (nwS S21) fun S22 => (m2 S21.1 S22).bind fun q23 => if (inb (1 : Int32) (aw q23 4 S17.1) && (iob q23 S21.1 && ([6, 5, 0, 1, 9, 2] : List Nat).elem (shp S21.1).2)) = true then lt (sR q23 S17.1 (1 : Int32).toNatClampNeg (some S21.1)) fun S24 => if nb S24 0 0 = true then lt (nwS S24) fun S25 => (m3 S24.1 S25).bind fun q26 => if (inb (2 : Int32) (aw q26 4 S17.1) && (iob q26 S24.1 && ([6, 5, 0, 1, 9, 2] : List Nat).elem (shp S24.1).2)) = true then lt (sR q26 S17.1 (2 : Int32).toNatClampNeg (some S24.1)) fun S27 => if nb S27 0 1 = true then lt (nwS S27) fun S28 => (m4 S27.1 S28).bind fun q29 => if (inb (3 : Int32) (aw q29 4 S17.1) && (iob q29 S27.1 && ([6, 5, 0, 1, 9, 2] : List Nat).elem (shp S27.1).2)) = true then lt (sR q29 S17.1 (3 : Int32).toNatClampNeg (some S27.1)) fun S30 => if nb S30 0 9 = true then lt (nwS S30) fun S31 => (m5 S30.1 S31).bind fun q32 => if (inb (4 : Int32) (aw q32 4 S17.1) && (iob q32 S30.1 && ([6, 5, 0, 1, 9, 2] : List Nat).elem (shp S30.1).2)) = true then lt (sR q32 S17.1 (4 : Int32).toNatClampNeg (some S30.1)) fun S33 => if nb S33 0 2 = true then lt (nwS S33) fun S34 => (m6 S33.1 S34).bind fun q35 => if (inb (5 : Int32) (aw q35 4 S17.1) && (iob q35 S33.1 && ([6, 5, 0, 1, 9, 2] : List Nat).elem (shp S33.1).2)) = true then lt (sR q35 S17.1 (5 : Int32).toNatClampNeg (some S33.1)) fun S36 => if oc S36 x0 11 = true then lt (sR S36 x0 2 (some S17.1)) fun S37 => if nb S37 0 4 = true then lt (nwS S37) fun S38 => if oc S38 x0 11 = true then (S38.2.2.2.1 x0 2).bind fun a39 => (m7 S37.1 a39 S38).bind fun q40 => if oc q40 x0 11 = true then lt (sR q40 x0 3 (some S37.1)) fun S41 => if nb S41 0 4 = true then lt (nwS S41) fun S42 => if oc S42 x0 11 = true then (S42.2.2.2.1 x0 2).bind fun a43 => (m7 S41.1 a43 S42).bind fun q44 => if oc q44 x0 11 = true then lt (sR q44 x0 4 (some S41.1)) fun S45 => if (!(decide ((3 : Int32) < 0)) && nb S45 5 (3 : Int32).toNatClampNeg) = true then lt (nwS S45) fun S46 => if oc S46 x0 11 = true then lt (sR S46 x0 5 (some S45.1)) fun S47 => if nb S47 0 7 = true then lt (nwS S47) fun S48 => (m8 S47.1 S48).bind fun q49 => if oc q49 x0 11 = true then lt (sR q49 x0 6 (some S47.1)) fun S50 => if nb S50 0 10 = true then lt (nwS S50) fun S51 => (m9 S50.1 S51).bind fun q52 => if oc q52 x0 11 = true then lt (sR q52 x0 7 (some S50.1)) fun S53 => if nb S53 0 3 = true then lt (nwS S53) fun S54 => (m10 S53.1 S54).bind fun q55 => if oc q55 x0 11 = true then lt (sR q55 x0 8 (some S53.1)) fun S56 => if (!(decide ((7 : Int32) < 0)) && nb S56 1 (7 : Int32).toNatClampNeg) = true then lt (nwS S56) fun S57 => if oc S57 x0 11 = true then lt (sR S57 x0 9 (some S56.1)) fun S58 => if (!(decide ((6 : Int32) < 0)) && nb S58 1 (6 : Int32).toNatClampNeg) = true then lt (nwS S58) fun S59 => if oc S59 x0 11 = true then lt (sR S59 x0 10 (some S58.1)) fun S60 => if oc S60 x0 11 = true then lt (sI S60 x0 11 (0 : Int32)) fun S61 => if oc S61 x0 11 = true then lt (sI S61 x0 12 (0 : Int32)) fun S62 => if oc S62 x0 11 = true then lt (sL S62 x0 13 (0 : Int64)) fun S63 => if oc S63 x0 11 = true then lt (sL S63 x0 14 (1 : Int64)) fun S64 => l0_199 1000 x0 (0 : Int32) S64 else none else none else none else none else none else none else none else none else none else none else none else none else none else none else none else none else none else none else none else none else none else none else none else none else none else none else none else none else none else none else none else none else none else none else none else none else none else none else none else none
set_option maxRecDepth 100000 in
theorem om0 (d : Nat) (x0 : Nat) (S : Sx) : OkF wV (fun f => rk px kx f (d + 4) 0 0 [some (.ref x0), none] [] S) (m0 x0 S) := by
  unfold m0
  refine OkF.eq 5 (Y := fun f => if (!(decide ((6 : Int32) < 0)) && nb S 3 (6 : Int32).toNatClampNeg) = true then rk px kx f (d + 4) 0 10 [some (.ref x0), none] [.ref S.1, .ref x0] (nwS S) else none) (fun f => rfl) ?_
  refine OkF.grd (fun _ => ?_)
  refine OkF.nm (fun S14 => ?_)
  refine OkF.eq 1 (Y := fun f => if oc S14 x0 11 = true then rk px kx f (d + 4) 0 13 [some (.ref x0), none] [] (sR S14 x0 0 (some S.1)) else none) (fun f => rfl) ?_
  refine OkF.grd (fun _ => ?_)
  refine OkF.nm (fun S15 => ?_)
  refine OkF.eq 3 (Y := fun f => if (!(decide ((4 : Int32) < 0)) && nb S15 3 (4 : Int32).toNatClampNeg) = true then rk px kx f (d + 4) 0 18 [some (.ref x0), none] [.ref S15.1, .ref x0] (nwS S15) else none) (fun f => rfl) ?_
  refine OkF.grd (fun _ => ?_)
  refine OkF.nm (fun S16 => ?_)
  refine OkF.eq 1 (Y := fun f => if oc S16 x0 11 = true then rk px kx f (d + 4) 0 21 [some (.ref x0), none] [] (sR S16 x0 1 (some S15.1)) else none) (fun f => rfl) ?_
  refine OkF.grd (fun _ => ?_)
  refine OkF.nm (fun S17 => ?_)
  refine OkF.eq 3 (Y := fun f => if (!(decide ((6 : Int32) < 0)) && nb S17 4 (6 : Int32).toNatClampNeg) = true then rk px kx f (d + 4) 0 27 [some (.ref x0), none] [.ref S17.1, .ref x0] (nwS S17) else none) (fun f => rfl) ?_
  refine OkF.grd (fun _ => ?_)
  refine OkF.nm (fun S18 => ?_)
  refine OkF.eq 3 (Y := fun f => if nb S18 0 6 = true then rk px kx f (d + 4) 0 32 [some (.ref x0), none] [.ref S18.1, .int (0 : Int32), .ref S17.1, .ref S17.1, .ref x0] (nwS S18) else none) (fun f => rfl) ?_
  refine OkF.grd (fun _ => ?_)
  refine OkF.nm (fun S19 => ?_)
  refine OkF.eq 2 (Y := fun f => (rk px kx f (d + 3) 1 0 [some (.ref S18.1)] [] S19).bind (fun q => rk px kx f (d + 4) 0 36 [some (.ref x0), none] (q.1.toList ++ [.ref S18.1, .int (0 : Int32), .ref S17.1, .ref S17.1, .ref x0]) q.2)) (fun f => rfl) ?_
  refine OkF.bind (w1 := wV) (om1 (d + 2) S18.1 S19) (fun q20 => ?_)
  refine OkF.eq 1 (Y := fun f => if (inb (0 : Int32) (aw q20 4 S17.1) && (iob q20 S18.1 && ([6, 5, 0, 1, 9, 2] : List Nat).elem (shp S18.1).2)) = true then rk px kx f (d + 4) 0 37 [some (.ref x0), none] [.ref S17.1, .ref x0] (sR q20 S17.1 (0 : Int32).toNatClampNeg (some S18.1)) else none) (fun f => rfl) ?_
  refine OkF.grd (fun _ => ?_)
  refine OkF.nm (fun S21 => ?_)
  refine OkF.eq 3 (Y := fun f => if nb S21 0 5 = true then rk px kx f (d + 4) 0 42 [some (.ref x0), none] [.ref S21.1, .int (1 : Int32), .ref S17.1, .ref S17.1, .ref x0] (nwS S21) else none) (fun f => rfl) ?_
  refine OkF.grd (fun _ => ?_)
  refine OkF.nm (fun S22 => ?_)
  refine OkF.eq 2 (Y := fun f => (rk px kx f (d + 3) 2 0 [some (.ref S21.1)] [] S22).bind (fun q => rk px kx f (d + 4) 0 46 [some (.ref x0), none] (q.1.toList ++ [.ref S21.1, .int (1 : Int32), .ref S17.1, .ref S17.1, .ref x0]) q.2)) (fun f => rfl) ?_
  refine OkF.bind (w1 := wV) (om2 (d + 1) S21.1 S22) (fun q23 => ?_)
  refine OkF.eq 1 (Y := fun f => if (inb (1 : Int32) (aw q23 4 S17.1) && (iob q23 S21.1 && ([6, 5, 0, 1, 9, 2] : List Nat).elem (shp S21.1).2)) = true then rk px kx f (d + 4) 0 47 [some (.ref x0), none] [.ref S17.1, .ref x0] (sR q23 S17.1 (1 : Int32).toNatClampNeg (some S21.1)) else none) (fun f => rfl) ?_
  refine OkF.grd (fun _ => ?_)
  refine OkF.nm (fun S24 => ?_)
  refine OkF.eq 3 (Y := fun f => if nb S24 0 0 = true then rk px kx f (d + 4) 0 52 [some (.ref x0), none] [.ref S24.1, .int (2 : Int32), .ref S17.1, .ref S17.1, .ref x0] (nwS S24) else none) (fun f => rfl) ?_
  refine OkF.grd (fun _ => ?_)
  refine OkF.nm (fun S25 => ?_)
  refine OkF.eq 2 (Y := fun f => (rk px kx f (d + 3) 3 0 [some (.ref S24.1)] [] S25).bind (fun q => rk px kx f (d + 4) 0 56 [some (.ref x0), none] (q.1.toList ++ [.ref S24.1, .int (2 : Int32), .ref S17.1, .ref S17.1, .ref x0]) q.2)) (fun f => rfl) ?_
  refine OkF.bind (w1 := wV) (om3 (d + 1) S24.1 S25) (fun q26 => ?_)
  refine OkF.eq 1 (Y := fun f => if (inb (2 : Int32) (aw q26 4 S17.1) && (iob q26 S24.1 && ([6, 5, 0, 1, 9, 2] : List Nat).elem (shp S24.1).2)) = true then rk px kx f (d + 4) 0 57 [some (.ref x0), none] [.ref S17.1, .ref x0] (sR q26 S17.1 (2 : Int32).toNatClampNeg (some S24.1)) else none) (fun f => rfl) ?_
  refine OkF.grd (fun _ => ?_)
  refine OkF.nm (fun S27 => ?_)
  refine OkF.eq 3 (Y := fun f => if nb S27 0 1 = true then rk px kx f (d + 4) 0 62 [some (.ref x0), none] [.ref S27.1, .int (3 : Int32), .ref S17.1, .ref S17.1, .ref x0] (nwS S27) else none) (fun f => rfl) ?_
  refine OkF.grd (fun _ => ?_)
  refine OkF.nm (fun S28 => ?_)
  refine OkF.eq 2 (Y := fun f => (rk px kx f (d + 3) 4 0 [some (.ref S27.1)] [] S28).bind (fun q => rk px kx f (d + 4) 0 66 [some (.ref x0), none] (q.1.toList ++ [.ref S27.1, .int (3 : Int32), .ref S17.1, .ref S17.1, .ref x0]) q.2)) (fun f => rfl) ?_
  refine OkF.bind (w1 := wV) (om4 (d + 1) S27.1 S28) (fun q29 => ?_)
  refine OkF.eq 1 (Y := fun f => if (inb (3 : Int32) (aw q29 4 S17.1) && (iob q29 S27.1 && ([6, 5, 0, 1, 9, 2] : List Nat).elem (shp S27.1).2)) = true then rk px kx f (d + 4) 0 67 [some (.ref x0), none] [.ref S17.1, .ref x0] (sR q29 S17.1 (3 : Int32).toNatClampNeg (some S27.1)) else none) (fun f => rfl) ?_
  refine OkF.grd (fun _ => ?_)
  refine OkF.nm (fun S30 => ?_)
  refine OkF.eq 3 (Y := fun f => if nb S30 0 9 = true then rk px kx f (d + 4) 0 72 [some (.ref x0), none] [.ref S30.1, .int (4 : Int32), .ref S17.1, .ref S17.1, .ref x0] (nwS S30) else none) (fun f => rfl) ?_
  refine OkF.grd (fun _ => ?_)
  refine OkF.nm (fun S31 => ?_)
  refine OkF.eq 2 (Y := fun f => (rk px kx f (d + 3) 5 0 [some (.ref S30.1)] [] S31).bind (fun q => rk px kx f (d + 4) 0 76 [some (.ref x0), none] (q.1.toList ++ [.ref S30.1, .int (4 : Int32), .ref S17.1, .ref S17.1, .ref x0]) q.2)) (fun f => rfl) ?_
  refine OkF.bind (w1 := wV) (om5 (d + 0) S30.1 S31) (fun q32 => ?_)
  refine OkF.eq 1 (Y := fun f => if (inb (4 : Int32) (aw q32 4 S17.1) && (iob q32 S30.1 && ([6, 5, 0, 1, 9, 2] : List Nat).elem (shp S30.1).2)) = true then rk px kx f (d + 4) 0 77 [some (.ref x0), none] [.ref S17.1, .ref x0] (sR q32 S17.1 (4 : Int32).toNatClampNeg (some S30.1)) else none) (fun f => rfl) ?_
  refine OkF.grd (fun _ => ?_)
  refine OkF.nm (fun S33 => ?_)
  refine OkF.eq 3 (Y := fun f => if nb S33 0 2 = true then rk px kx f (d + 4) 0 82 [some (.ref x0), none] [.ref S33.1, .int (5 : Int32), .ref S17.1, .ref S17.1, .ref x0] (nwS S33) else none) (fun f => rfl) ?_
  refine OkF.grd (fun _ => ?_)
  refine OkF.nm (fun S34 => ?_)
  refine OkF.eq 2 (Y := fun f => (rk px kx f (d + 3) 6 0 [some (.ref S33.1)] [] S34).bind (fun q => rk px kx f (d + 4) 0 86 [some (.ref x0), none] (q.1.toList ++ [.ref S33.1, .int (5 : Int32), .ref S17.1, .ref S17.1, .ref x0]) q.2)) (fun f => rfl) ?_
  refine OkF.bind (w1 := wV) (om6 (d + 0) S33.1 S34) (fun q35 => ?_)
  refine OkF.eq 1 (Y := fun f => if (inb (5 : Int32) (aw q35 4 S17.1) && (iob q35 S33.1 && ([6, 5, 0, 1, 9, 2] : List Nat).elem (shp S33.1).2)) = true then rk px kx f (d + 4) 0 87 [some (.ref x0), none] [.ref S17.1, .ref x0] (sR q35 S17.1 (5 : Int32).toNatClampNeg (some S33.1)) else none) (fun f => rfl) ?_
  refine OkF.grd (fun _ => ?_)
  refine OkF.nm (fun S36 => ?_)
  refine OkF.eq 1 (Y := fun f => if oc S36 x0 11 = true then rk px kx f (d + 4) 0 90 [some (.ref x0), none] [] (sR S36 x0 2 (some S17.1)) else none) (fun f => rfl) ?_
  refine OkF.grd (fun _ => ?_)
  refine OkF.nm (fun S37 => ?_)
  refine OkF.eq 2 (Y := fun f => if nb S37 0 4 = true then rk px kx f (d + 4) 0 94 [some (.ref x0), none] [.ref S37.1, .ref x0] (nwS S37) else none) (fun f => rfl) ?_
  refine OkF.grd (fun _ => ?_)
  refine OkF.nm (fun S38 => ?_)
  refine OkF.eq 3 (Y := fun f => if oc S38 x0 11 = true then rk px kx f (d + 4) 0 99 [some (.ref x0), none] (va_rf (S38.2.2.2.1 x0 2) :: [.ref S37.1, .ref S37.1, .ref x0]) S38 else none) (fun f => rfl) ?_
  refine OkF.grd (fun _ => ?_)
  refine OkF.rf (fun a39 => ?_)
  refine OkF.eq 1 (Y := fun f => (rk px kx f (d + 3) 7 0 [some (.ref S37.1), some (.ref a39)] [] S38).bind (fun q => rk px kx f (d + 4) 0 102 [some (.ref x0), none] (q.1.toList ++ [.ref S37.1, .ref x0]) q.2)) (fun f => rfl) ?_
  refine OkF.bind (w1 := wV) (om7 (d + 2) S37.1 a39 S38) (fun q40 => ?_)
  refine OkF.eq 1 (Y := fun f => if oc q40 x0 11 = true then rk px kx f (d + 4) 0 105 [some (.ref x0), none] [] (sR q40 x0 3 (some S37.1)) else none) (fun f => rfl) ?_
  refine OkF.grd (fun _ => ?_)
  refine OkF.nm (fun S41 => ?_)
  refine OkF.eq 2 (Y := fun f => if nb S41 0 4 = true then rk px kx f (d + 4) 0 109 [some (.ref x0), none] [.ref S41.1, .ref x0] (nwS S41) else none) (fun f => rfl) ?_
  refine OkF.grd (fun _ => ?_)
  refine OkF.nm (fun S42 => ?_)
  refine OkF.eq 3 (Y := fun f => if oc S42 x0 11 = true then rk px kx f (d + 4) 0 114 [some (.ref x0), none] (va_rf (S42.2.2.2.1 x0 2) :: [.ref S41.1, .ref S41.1, .ref x0]) S42 else none) (fun f => rfl) ?_
  refine OkF.grd (fun _ => ?_)
  refine OkF.rf (fun a43 => ?_)
  refine OkF.eq 1 (Y := fun f => (rk px kx f (d + 3) 7 0 [some (.ref S41.1), some (.ref a43)] [] S42).bind (fun q => rk px kx f (d + 4) 0 117 [some (.ref x0), none] (q.1.toList ++ [.ref S41.1, .ref x0]) q.2)) (fun f => rfl) ?_
  refine OkF.bind (w1 := wV) (om7 (d + 2) S41.1 a43 S42) (fun q44 => ?_)
  refine OkF.eq 1 (Y := fun f => if oc q44 x0 11 = true then rk px kx f (d + 4) 0 120 [some (.ref x0), none] [] (sR q44 x0 4 (some S41.1)) else none) (fun f => rfl) ?_
  refine OkF.grd (fun _ => ?_)
  refine OkF.nm (fun S45 => ?_)
  refine OkF.eq 3 (Y := fun f => if (!(decide ((3 : Int32) < 0)) && nb S45 5 (3 : Int32).toNatClampNeg) = true then rk px kx f (d + 4) 0 125 [some (.ref x0), none] [.ref S45.1, .ref x0] (nwS S45) else none) (fun f => rfl) ?_
  refine OkF.grd (fun _ => ?_)
  refine OkF.nm (fun S46 => ?_)
  refine OkF.eq 1 (Y := fun f => if oc S46 x0 11 = true then rk px kx f (d + 4) 0 128 [some (.ref x0), none] [] (sR S46 x0 5 (some S45.1)) else none) (fun f => rfl) ?_
  refine OkF.grd (fun _ => ?_)
  refine OkF.nm (fun S47 => ?_)
  refine OkF.eq 2 (Y := fun f => if nb S47 0 7 = true then rk px kx f (d + 4) 0 132 [some (.ref x0), none] [.ref S47.1, .ref x0] (nwS S47) else none) (fun f => rfl) ?_
  refine OkF.grd (fun _ => ?_)
  refine OkF.nm (fun S48 => ?_)
  refine OkF.eq 2 (Y := fun f => (rk px kx f (d + 3) 8 0 [some (.ref S47.1)] [] S48).bind (fun q => rk px kx f (d + 4) 0 136 [some (.ref x0), none] (q.1.toList ++ [.ref S47.1, .ref x0]) q.2)) (fun f => rfl) ?_
  refine OkF.bind (w1 := wV) (om8 (d + 2) S47.1 S48) (fun q49 => ?_)
  refine OkF.eq 1 (Y := fun f => if oc q49 x0 11 = true then rk px kx f (d + 4) 0 139 [some (.ref x0), none] [] (sR q49 x0 6 (some S47.1)) else none) (fun f => rfl) ?_
  refine OkF.grd (fun _ => ?_)
  refine OkF.nm (fun S50 => ?_)
  refine OkF.eq 2 (Y := fun f => if nb S50 0 10 = true then rk px kx f (d + 4) 0 143 [some (.ref x0), none] [.ref S50.1, .ref x0] (nwS S50) else none) (fun f => rfl) ?_
  refine OkF.grd (fun _ => ?_)
  refine OkF.nm (fun S51 => ?_)
  refine OkF.eq 2 (Y := fun f => (rk px kx f (d + 3) 9 0 [some (.ref S50.1)] [] S51).bind (fun q => rk px kx f (d + 4) 0 147 [some (.ref x0), none] (q.1.toList ++ [.ref S50.1, .ref x0]) q.2)) (fun f => rfl) ?_
  refine OkF.bind (w1 := wV) (om9 (d + 2) S50.1 S51) (fun q52 => ?_)
  refine OkF.eq 1 (Y := fun f => if oc q52 x0 11 = true then rk px kx f (d + 4) 0 150 [some (.ref x0), none] [] (sR q52 x0 7 (some S50.1)) else none) (fun f => rfl) ?_
  refine OkF.grd (fun _ => ?_)
  refine OkF.nm (fun S53 => ?_)
  refine OkF.eq 2 (Y := fun f => if nb S53 0 3 = true then rk px kx f (d + 4) 0 154 [some (.ref x0), none] [.ref S53.1, .ref x0] (nwS S53) else none) (fun f => rfl) ?_
  refine OkF.grd (fun _ => ?_)
  refine OkF.nm (fun S54 => ?_)
  refine OkF.eq 2 (Y := fun f => (rk px kx f (d + 3) 10 0 [some (.ref S53.1)] [] S54).bind (fun q => rk px kx f (d + 4) 0 158 [some (.ref x0), none] (q.1.toList ++ [.ref S53.1, .ref x0]) q.2)) (fun f => rfl) ?_
  refine OkF.bind (w1 := wV) (om10 (d + 2) S53.1 S54) (fun q55 => ?_)
  refine OkF.eq 1 (Y := fun f => if oc q55 x0 11 = true then rk px kx f (d + 4) 0 161 [some (.ref x0), none] [] (sR q55 x0 8 (some S53.1)) else none) (fun f => rfl) ?_
  refine OkF.grd (fun _ => ?_)
  refine OkF.nm (fun S56 => ?_)
  refine OkF.eq 3 (Y := fun f => if (!(decide ((7 : Int32) < 0)) && nb S56 1 (7 : Int32).toNatClampNeg) = true then rk px kx f (d + 4) 0 166 [some (.ref x0), none] [.ref S56.1, .ref x0] (nwS S56) else none) (fun f => rfl) ?_
  refine OkF.grd (fun _ => ?_)
  refine OkF.nm (fun S57 => ?_)
  refine OkF.eq 1 (Y := fun f => if oc S57 x0 11 = true then rk px kx f (d + 4) 0 169 [some (.ref x0), none] [] (sR S57 x0 9 (some S56.1)) else none) (fun f => rfl) ?_
  refine OkF.grd (fun _ => ?_)
  refine OkF.nm (fun S58 => ?_)
  refine OkF.eq 3 (Y := fun f => if (!(decide ((6 : Int32) < 0)) && nb S58 1 (6 : Int32).toNatClampNeg) = true then rk px kx f (d + 4) 0 174 [some (.ref x0), none] [.ref S58.1, .ref x0] (nwS S58) else none) (fun f => rfl) ?_
  refine OkF.grd (fun _ => ?_)
  refine OkF.nm (fun S59 => ?_)
  refine OkF.eq 1 (Y := fun f => if oc S59 x0 11 = true then rk px kx f (d + 4) 0 177 [some (.ref x0), none] [] (sR S59 x0 10 (some S58.1)) else none) (fun f => rfl) ?_
  refine OkF.grd (fun _ => ?_)
  refine OkF.nm (fun S60 => ?_)
  refine OkF.eq 3 (Y := fun f => if oc S60 x0 11 = true then rk px kx f (d + 4) 0 182 [some (.ref x0), none] [] (sI S60 x0 11 (0 : Int32)) else none) (fun f => rfl) ?_
  refine OkF.grd (fun _ => ?_)
  refine OkF.nm (fun S61 => ?_)
  refine OkF.eq 3 (Y := fun f => if oc S61 x0 11 = true then rk px kx f (d + 4) 0 187 [some (.ref x0), none] [] (sI S61 x0 12 (0 : Int32)) else none) (fun f => rfl) ?_
  refine OkF.grd (fun _ => ?_)
  refine OkF.nm (fun S62 => ?_)
  refine OkF.eq 3 (Y := fun f => if oc S62 x0 11 = true then rk px kx f (d + 4) 0 192 [some (.ref x0), none] [] (sL S62 x0 13 (0 : Int64)) else none) (fun f => rfl) ?_
  refine OkF.grd (fun _ => ?_)
  refine OkF.nm (fun S63 => ?_)
  refine OkF.eq 3 (Y := fun f => if oc S63 x0 11 = true then rk px kx f (d + 4) 0 197 [some (.ref x0), none] [] (sL S63 x0 14 (1 : Int64)) else none) (fun f => rfl) ?_
  refine OkF.grd (fun _ => ?_)
  refine OkF.nm (fun S64 => ?_)
  refine OkF.eq 2 (Y := fun f => rk px kx f (d + 4) 0 199 [some (.ref x0), some (.int (0 : Int32))] [] S64) (fun f => rfl) ?_
  exact OkF.kl (ls1 := [some (.ref x0), some (.int (0 : Int32))]) (fun f => rfl) (ol0_199 d 1000 x0 (0 : Int32) S64)
-- DoorSold.noRow(I)Z
def m14 (x0 : Int32) (S : Sx) : Option (Int32 × Sx) :=
  if x0 < 0 then some ((1 : Int32), S) else if x0 < (6 : Int32) then some ((0 : Int32), S) else some ((1 : Int32), S)
set_option maxRecDepth 100000 in
theorem om14 (d : Nat) (x0 : Int32) (S : Sx) : OkF wI (fun f => rk px kx f (d + 0) 14 0 [some (.int x0)] [] S) (m14 x0 S) := by
  unfold m14
  refine OkF.eq 2 (Y := fun f => if x0 < 0 then rk px kx f (d + 0) 14 10 [some (.int x0)] [] S else rk px kx f (d + 0) 14 4 [some (.int x0)] [] S) (fun f => rfl) ?_
  refine OkF.ite (fun _ => ?_) (fun _ => ?_)
  · exact OkF.ret 3 (fun f => rfl)
  · refine OkF.eq 3 (Y := fun f => if x0 < (6 : Int32) then rk px kx f (d + 0) 14 14 [some (.int x0)] [] S else rk px kx f (d + 0) 14 10 [some (.int x0)] [] S) (fun f => rfl) ?_
    refine OkF.ite (fun _ => ?_) (fun _ => ?_)
    · exact OkF.ret 2 (fun f => rfl)
    · exact OkF.ret 3 (fun f => rfl)
-- DoorSold.find(I)I
def m15 (x0 : Nat) (x1 : Int32) (S : Sx) : Option (Int32 × Sx) :=
  if oc S x0 11 = true then lt (sI S x0 11 x1) fun S1 => if oc S1 x0 11 = true then (S1.2.2.2.1 x0 10).bind fun a2 => if inb x1 (al S1 a2) = true then if inb x1 (aw S1 1 a2) = true then lt (sI S1 a2 x1.toNatClampNeg ((S1.2.1 a2 x1.toNatClampNeg) + (1 : Int32))) fun S3 => some ((-3 : Int32), S3) else none else none else none else none
set_option maxRecDepth 100000 in
theorem om15 (d : Nat) (x0 : Nat) (x1 : Int32) (S : Sx) : OkF wI (fun f => rk px kx f (d + 0) 15 0 [some (.ref x0), some (.int x1)] [] S) (m15 x0 x1 S) := by
  unfold m15
  refine OkF.eq 3 (Y := fun f => if oc S x0 11 = true then rk px kx f (d + 0) 15 5 [some (.ref x0), some (.int x1)] [] (sI S x0 11 x1) else none) (fun f => rfl) ?_
  refine OkF.grd (fun _ => ?_)
  refine OkF.nm (fun S1 => ?_)
  refine OkF.eq 2 (Y := fun f => if oc S1 x0 11 = true then rk px kx f (d + 0) 15 9 [some (.ref x0), some (.int x1)] (va_rf (S1.2.2.2.1 x0 10) :: []) S1 else none) (fun f => rfl) ?_
  refine OkF.grd (fun _ => ?_)
  refine OkF.rf (fun a2 => ?_)
  refine OkF.eq 3 (Y := fun f => if inb x1 (al S1 a2) = true then rk px kx f (d + 0) 15 12 [some (.ref x0), some (.int x1)] [.int (S1.2.1 a2 x1.toNatClampNeg), .int x1, .ref a2] S1 else none) (fun f => rfl) ?_
  refine OkF.grd (fun _ => ?_)
  refine OkF.eq 3 (Y := fun f => if inb x1 (aw S1 1 a2) = true then rk px kx f (d + 0) 15 15 [some (.ref x0), some (.int x1)] [] (sI S1 a2 x1.toNatClampNeg ((S1.2.1 a2 x1.toNatClampNeg) + (1 : Int32))) else none) (fun f => rfl) ?_
  refine OkF.grd (fun _ => ?_)
  refine OkF.nm (fun S3 => ?_)
  exact OkF.ret 2 (fun f => rfl)
-- java/lang/Math.min(II)I
def m17 (x0 : Int32) (x1 : Int32) (S : Sx) : Option (Int32 × Sx) :=
  if x1 < x0 then some (x1, S) else some (x0, S)
set_option maxRecDepth 100000 in
theorem om17 (d : Nat) (x0 : Int32) (x1 : Int32) (S : Sx) : OkF wI (fun f => rk px kx f (d + 0) 17 0 [some (.int x0), some (.int x1)] [] S) (m17 x0 x1 S) := by
  unfold m17
  refine OkF.eq 3 (Y := fun f => if x1 < x0 then rk px kx f (d + 0) 17 9 [some (.int x0), some (.int x1)] [] S else rk px kx f (d + 0) 17 5 [some (.int x0), some (.int x1)] [] S) (fun f => rfl) ?_
  refine OkF.ite (fun _ => ?_) (fun _ => ?_)
  · exact OkF.ret 2 (fun f => rfl)
  · exact OkF.ret 3 (fun f => rfl)
-- DoorSold$Row.make(II)V
def b16_15 (k15 : Nat → Int32 → Int32 → Sx → Option (Sx)) (x0 : Nat) (x2 : Int32) (x3 : Int32) (S : Sx) : Option (Sx) :=
  if oc S x0 8 = true then if (S.2.1 x0 1) ≤ x3 then some S else if oc S x0 8 = true then (S.2.2.2.1 x0 0).bind fun a1 => if inb x3 (aw S 1 a1) = true then lt (sI S a1 x3.toNatClampNeg x2) fun S2 => k15 x0 x2 (x3 + (1 : Int32)) S2 else none else none else none
set_option maxRecDepth 100000 in
theorem ob16_15 (d : Nat) (k15 : Nat → Int32 → Int32 → Sx → Option (Sx)) (hk15 : ∀ (x0 : Nat) (x2 : Int32) (x3 : Int32) (S : Sx), OkF wV (fun f => rk px kx f (d + 1) 16 15 [some (.ref x0), none, some (.int x2), some (.int x3)] [] S) (k15 x0 x2 x3 S)) (x0 : Nat) (x2 : Int32) (x3 : Int32) (S : Sx) : OkF wV (fun f => rk px kx f (d + 1) 16 15 [some (.ref x0), none, some (.int x2), some (.int x3)] [] S) (b16_15 k15 x0 x2 x3 S) := by
  unfold b16_15
  refine OkF.eq 3 (Y := fun f => if oc S x0 8 = true then rk px kx f (d + 1) 16 20 [some (.ref x0), none, some (.int x2), some (.int x3)] [.int (S.2.1 x0 1), .int x3] S else none) (fun f => rfl) ?_
  refine OkF.grd (fun _ => ?_)
  refine OkF.eq 1 (Y := fun f => if (S.2.1 x0 1) ≤ x3 then rk px kx f (d + 1) 16 36 [some (.ref x0), none, some (.int x2), some (.int x3)] [] S else rk px kx f (d + 1) 16 23 [some (.ref x0), none, some (.int x2), some (.int x3)] [] S) (fun f => rfl) ?_
  refine OkF.ite (fun _ => ?_) (fun _ => ?_)
  · exact OkF.ret 1 (fun f => rfl)
  · refine OkF.eq 2 (Y := fun f => if oc S x0 8 = true then rk px kx f (d + 1) 16 27 [some (.ref x0), none, some (.int x2), some (.int x3)] (va_rf (S.2.2.2.1 x0 0) :: []) S else none) (fun f => rfl) ?_
    refine OkF.grd (fun _ => ?_)
    refine OkF.rf (fun a1 => ?_)
    refine OkF.eq 3 (Y := fun f => if inb x3 (aw S 1 a1) = true then rk px kx f (d + 1) 16 30 [some (.ref x0), none, some (.int x2), some (.int x3)] [] (sI S a1 x3.toNatClampNeg x2) else none) (fun f => rfl) ?_
    refine OkF.grd (fun _ => ?_)
    refine OkF.nm (fun S2 => ?_)
    refine OkF.eq 2 (Y := fun f => rk px kx f (d + 1) 16 15 [some (.ref x0), none, some (.int x2), some (.int (x3 + (1 : Int32)))] [] S2) (fun f => rfl) ?_
    exact OkF.kl (ls1 := [some (.ref x0), none, some (.int x2), some (.int (x3 + (1 : Int32)))]) (fun f => rfl) (hk15 x0 x2 (x3 + (1 : Int32)) S2)
def l16_15 : Nat → Nat → Int32 → Int32 → Sx → Option (Sx)
  | 0 => fun _ _ _ _ => none
  | n + 1 => fun x0 x2 x3 S => b16_15 (l16_15 n) x0 x2 x3 S
set_option maxRecDepth 100000 in
theorem ol16_15 (d : Nat) : ∀ (n : Nat) (x0 : Nat) (x2 : Int32) (x3 : Int32) (S : Sx), OkF wV (fun f => rk px kx f (d + 1) 16 15 [some (.ref x0), none, some (.int x2), some (.int x3)] [] S) (l16_15 n x0 x2 x3 S) := by
  intro n
  induction n with
  | zero => intro x0 x2 x3 S; exact OkF.no
  | succ n ih => intro x0 x2 x3 S; exact ob16_15 d (l16_15 n) ih x0 x2 x3 S
def m16 (x0 : Nat) (x1 : Int32) (x2 : Int32) (S : Sx) : Option (Sx) :=
  if oc S x0 8 = true then (S.2.2.2.1 x0 0).bind fun a3 => if (Nat.beq a3 1000 || isa S 1 a3) = true then (m17 x1 (Int32.ofNat (al S a3)) S).bind fun q4 => if oc q4.2 x0 8 = true then lt (sI q4.2 x0 1 q4.1) fun S5 => l16_15 1000 x0 x2 (0 : Int32) S5 else none else none else none
set_option maxRecDepth 100000 in
theorem om16 (d : Nat) (x0 : Nat) (x1 : Int32) (x2 : Int32) (S : Sx) : OkF wV (fun f => rk px kx f (d + 1) 16 0 [some (.ref x0), some (.int x1), some (.int x2), none] [] S) (m16 x0 x1 x2 S) := by
  unfold m16
  refine OkF.eq 4 (Y := fun f => if oc S x0 8 = true then rk px kx f (d + 1) 16 6 [some (.ref x0), some (.int x1), some (.int x2), none] (va_rf (S.2.2.2.1 x0 0) :: [.int x1, .ref x0]) S else none) (fun f => rfl) ?_
  refine OkF.grd (fun _ => ?_)
  refine OkF.rf (fun a3 => ?_)
  refine OkF.eq 1 (Y := fun f => if (Nat.beq a3 1000 || isa S 1 a3) = true then rk px kx f (d + 1) 16 7 [some (.ref x0), some (.int x1), some (.int x2), none] [.int (Int32.ofNat (al S a3)), .int x1, .ref x0] S else none) (fun f => rfl) ?_
  refine OkF.grd (fun _ => ?_)
  refine OkF.eq 1 (Y := fun f => (rk px kx f (d + 0) 17 0 [some (.int x1), some (.int (Int32.ofNat (al S a3)))] [] S).bind (fun q => rk px kx f (d + 1) 16 10 [some (.ref x0), some (.int x1), some (.int x2), none] (q.1.toList ++ [.ref x0]) q.2)) (fun f => rfl) ?_
  refine OkF.bind (w1 := wI) (om17 (d + 0) x1 (Int32.ofNat (al S a3)) S) (fun q4 => ?_)
  refine OkF.eq 1 (Y := fun f => if oc q4.2 x0 8 = true then rk px kx f (d + 1) 16 13 [some (.ref x0), some (.int x1), some (.int x2), none] [] (sI q4.2 x0 1 q4.1) else none) (fun f => rfl) ?_
  refine OkF.grd (fun _ => ?_)
  refine OkF.nm (fun S5 => ?_)
  refine OkF.eq 2 (Y := fun f => rk px kx f (d + 1) 16 15 [some (.ref x0), some (.int x1), some (.int x2), some (.int (0 : Int32))] [] S5) (fun f => rfl) ?_
  exact OkF.kl (ls1 := [some (.ref x0), none, some (.int x2), some (.int (0 : Int32))]) (fun f => rfl) (ol16_15 d 1000 x0 x2 (0 : Int32) S5)
-- DoorSold.row(II)I
def m13 (x0 : Nat) (x1 : Int32) (x2 : Int32) (S : Sx) : Option (Int32 × Sx) :=
  (m14 x1 S).bind fun q1 => if q1.1 = 0 then if x2 ≤ (40 : Int32) then if 0 ≤ x2 then if oc q1.2 x0 11 = true then (q1.2.2.2.2.1 x0 0).bind fun a2 => if inb x1 (aw q1.2 3 a2) = true then (q1.2.2.2.2.1 a2 x1.toNatClampNeg).bind fun a3 => if oc q1.2 a3 8 = true then (m16 a3 x2 (0 : Int32) q1.2).bind fun q4 => some (x2, q4) else none else none else none else if oc q1.2 x0 11 = true then (m15 x0 (5 : Int32) q1.2).bind fun q5 => some (q5.1, q5.2) else none else some ((-1 : Int32), q1.2) else some ((-1 : Int32), q1.2)
set_option maxRecDepth 100000 in
theorem om13 (d : Nat) (x0 : Nat) (x1 : Int32) (x2 : Int32) (S : Sx) : OkF wI (fun f => rk px kx f (d + 2) 13 0 [some (.ref x0), some (.int x1), some (.int x2)] [] S) (m13 x0 x1 x2 S) := by
  unfold m13
  refine OkF.eq 2 (Y := fun f => (rk px kx f (d + 1) 14 0 [some (.int x1)] [] S).bind (fun q => rk px kx f (d + 2) 13 4 [some (.ref x0), some (.int x1), some (.int x2)] (q.1.toList ++ []) q.2)) (fun f => rfl) ?_
  refine OkF.bind (w1 := wI) (om14 (d + 1) x1 S) (fun q1 => ?_)
  refine OkF.eq 1 (Y := fun f => if q1.1 = 0 then rk px kx f (d + 2) 13 7 [some (.ref x0), some (.int x1), some (.int x2)] [] q1.2 else rk px kx f (d + 2) 13 13 [some (.ref x0), some (.int x1), some (.int x2)] [] q1.2) (fun f => rfl) ?_
  refine OkF.ite (fun _ => ?_) (fun _ => ?_)
  · refine OkF.eq 3 (Y := fun f => if x2 ≤ (40 : Int32) then rk px kx f (d + 2) 13 15 [some (.ref x0), some (.int x1), some (.int x2)] [] q1.2 else rk px kx f (d + 2) 13 13 [some (.ref x0), some (.int x1), some (.int x2)] [] q1.2) (fun f => rfl) ?_
    refine OkF.ite (fun _ => ?_) (fun _ => ?_)
    · refine OkF.eq 2 (Y := fun f => if 0 ≤ x2 then rk px kx f (d + 2) 13 25 [some (.ref x0), some (.int x1), some (.int x2)] [] q1.2 else rk px kx f (d + 2) 13 19 [some (.ref x0), some (.int x1), some (.int x2)] [] q1.2) (fun f => rfl) ?_
      refine OkF.ite (fun _ => ?_) (fun _ => ?_)
      · refine OkF.eq 2 (Y := fun f => if oc q1.2 x0 11 = true then rk px kx f (d + 2) 13 29 [some (.ref x0), some (.int x1), some (.int x2)] (va_rf (q1.2.2.2.2.1 x0 0) :: []) q1.2 else none) (fun f => rfl) ?_
        refine OkF.grd (fun _ => ?_)
        refine OkF.rf (fun a2 => ?_)
        refine OkF.eq 2 (Y := fun f => if inb x1 (aw q1.2 3 a2) = true then rk px kx f (d + 2) 13 31 [some (.ref x0), some (.int x1), some (.int x2)] (va_rf (q1.2.2.2.2.1 a2 x1.toNatClampNeg) :: []) q1.2 else none) (fun f => rfl) ?_
        refine OkF.grd (fun _ => ?_)
        refine OkF.rf (fun a3 => ?_)
        refine OkF.eq 3 (Y := fun f => if oc q1.2 a3 8 = true then (rk px kx f (d + 1) 16 0 [some (.ref a3), some (.int x2), some (.int (0 : Int32)), none] [] q1.2).bind (fun q => rk px kx f (d + 2) 13 36 [some (.ref x0), some (.int x1), some (.int x2)] (q.1.toList ++ []) q.2) else none) (fun f => rfl) ?_
        refine OkF.grd (fun _ => ?_)
        refine OkF.bind (w1 := wV) (om16 (d + 0) a3 x2 (0 : Int32) q1.2) (fun q4 => ?_)
        exact OkF.ret 2 (fun f => rfl)
      · refine OkF.eq 3 (Y := fun f => if oc q1.2 x0 11 = true then (rk px kx f (d + 1) 15 0 [some (.ref x0), some (.int (5 : Int32))] [] q1.2).bind (fun q => rk px kx f (d + 2) 13 24 [some (.ref x0), some (.int x1), some (.int x2)] (q.1.toList ++ []) q.2) else none) (fun f => rfl) ?_
        refine OkF.grd (fun _ => ?_)
        refine OkF.bind (w1 := wI) (om15 (d + 1) x0 (5 : Int32) q1.2) (fun q5 => ?_)
        exact OkF.ret 1 (fun f => rfl)
    · exact OkF.ret 2 (fun f => rfl)
  · exact OkF.ret 2 (fun f => rfl)
-- DoorSold$Row.missing()Z
def m20 (x0 : Nat) (S : Sx) : Option (Int32 × Sx) :=
  if oc S x0 8 = true then if (S.2.1 x0 1) = (-1 : Int32) then some ((1 : Int32), S) else some ((0 : Int32), S) else none
set_option maxRecDepth 100000 in
theorem om20 (d : Nat) (x0 : Nat) (S : Sx) : OkF wI (fun f => rk px kx f (d + 0) 20 0 [some (.ref x0)] [] S) (m20 x0 S) := by
  unfold m20
  refine OkF.eq 2 (Y := fun f => if oc S x0 8 = true then rk px kx f (d + 0) 20 4 [some (.ref x0)] [.int (S.2.1 x0 1)] S else none) (fun f => rfl) ?_
  refine OkF.grd (fun _ => ?_)
  refine OkF.eq 2 (Y := fun f => if (S.2.1 x0 1) = (-1 : Int32) then rk px kx f (d + 0) 20 8 [some (.ref x0)] [] S else rk px kx f (d + 0) 20 12 [some (.ref x0)] [] S) (fun f => rfl) ?_
  refine OkF.ite (fun _ => ?_) (fun _ => ?_)
  · exact OkF.ret 3 (fun f => rfl)
  · exact OkF.ret 2 (fun f => rfl)
-- DoorSold$Row.holds(II)Z
def m21 (x0 : Nat) (x1 : Int32) (x2 : Int32) (S : Sx) : Option (Int32 × Sx) :=
  if x1 < 0 then some ((0 : Int32), S) else if oc S x0 8 = true then if (S.2.1 x0 1) < x1 then some ((0 : Int32), S) else if oc S x0 8 = true then if ((S.2.1 x0 1) - x1) < x2 then some ((0 : Int32), S) else some ((1 : Int32), S) else none else none
set_option maxRecDepth 100000 in
theorem om21 (d : Nat) (x0 : Nat) (x1 : Int32) (x2 : Int32) (S : Sx) : OkF wI (fun f => rk px kx f (d + 0) 21 0 [some (.ref x0), some (.int x1), some (.int x2)] [] S) (m21 x0 x1 x2 S) := by
  unfold m21
  refine OkF.eq 2 (Y := fun f => if x1 < 0 then rk px kx f (d + 0) 21 26 [some (.ref x0), some (.int x1), some (.int x2)] [] S else rk px kx f (d + 0) 21 4 [some (.ref x0), some (.int x1), some (.int x2)] [] S) (fun f => rfl) ?_
  refine OkF.ite (fun _ => ?_) (fun _ => ?_)
  · exact OkF.ret 2 (fun f => rfl)
  · refine OkF.eq 3 (Y := fun f => if oc S x0 8 = true then rk px kx f (d + 0) 21 9 [some (.ref x0), some (.int x1), some (.int x2)] [.int (S.2.1 x0 1), .int x1] S else none) (fun f => rfl) ?_
    refine OkF.grd (fun _ => ?_)
    refine OkF.eq 1 (Y := fun f => if (S.2.1 x0 1) < x1 then rk px kx f (d + 0) 21 26 [some (.ref x0), some (.int x1), some (.int x2)] [] S else rk px kx f (d + 0) 21 12 [some (.ref x0), some (.int x1), some (.int x2)] [] S) (fun f => rfl) ?_
    refine OkF.ite (fun _ => ?_) (fun _ => ?_)
    · exact OkF.ret 2 (fun f => rfl)
    · refine OkF.eq 3 (Y := fun f => if oc S x0 8 = true then rk px kx f (d + 0) 21 17 [some (.ref x0), some (.int x1), some (.int x2)] [.int (S.2.1 x0 1), .int x2] S else none) (fun f => rfl) ?_
      refine OkF.grd (fun _ => ?_)
      refine OkF.eq 3 (Y := fun f => if ((S.2.1 x0 1) - x1) < x2 then rk px kx f (d + 0) 21 26 [some (.ref x0), some (.int x1), some (.int x2)] [] S else rk px kx f (d + 0) 21 22 [some (.ref x0), some (.int x1), some (.int x2)] [] S) (fun f => rfl) ?_
      refine OkF.ite (fun _ => ?_) (fun _ => ?_)
      · exact OkF.ret 2 (fun f => rfl)
      · exact OkF.ret 3 (fun f => rfl)
-- DoorSold.cellRefusal(II)I
def m19 (x0 : Nat) (x1 : Int32) (x2 : Int32) (S : Sx) : Option (Int32 × Sx) :=
  (m14 x1 S).bind fun q1 => if q1.1 = 0 then if oc q1.2 x0 11 = true then (q1.2.2.2.2.1 x0 0).bind fun a2 => if inb x1 (aw q1.2 3 a2) = true then (q1.2.2.2.2.1 a2 x1.toNatClampNeg).bind fun a3 => if oc q1.2 a3 8 = true then (m20 a3 q1.2).bind fun q4 => if q4.1 = 0 then if oc q4.2 x0 11 = true then (q4.2.2.2.2.1 x0 0).bind fun a5 => if inb x1 (aw q4.2 3 a5) = true then (q4.2.2.2.2.1 a5 x1.toNatClampNeg).bind fun a6 => if oc q4.2 a6 8 = true then (m21 a6 x2 (1 : Int32) q4.2).bind fun q7 => if q7.1 = 0 then if oc q7.2 x0 11 = true then (m15 x0 (2 : Int32) q7.2).bind fun q8 => some (q8.1, q8.2) else none else some ((0 : Int32), q7.2) else none else none else none else if oc q4.2 x0 11 = true then (m15 x0 (1 : Int32) q4.2).bind fun q9 => some (q9.1, q9.2) else none else none else none else none else some ((-1 : Int32), q1.2)
set_option maxRecDepth 100000 in
theorem om19 (d : Nat) (x0 : Nat) (x1 : Int32) (x2 : Int32) (S : Sx) : OkF wI (fun f => rk px kx f (d + 1) 19 0 [some (.ref x0), some (.int x1), some (.int x2)] [] S) (m19 x0 x1 x2 S) := by
  unfold m19
  refine OkF.eq 2 (Y := fun f => (rk px kx f (d + 0) 14 0 [some (.int x1)] [] S).bind (fun q => rk px kx f (d + 1) 19 4 [some (.ref x0), some (.int x1), some (.int x2)] (q.1.toList ++ []) q.2)) (fun f => rfl) ?_
  refine OkF.bind (w1 := wI) (om14 (d + 0) x1 S) (fun q1 => ?_)
  refine OkF.eq 1 (Y := fun f => if q1.1 = 0 then rk px kx f (d + 1) 19 9 [some (.ref x0), some (.int x1), some (.int x2)] [] q1.2 else rk px kx f (d + 1) 19 7 [some (.ref x0), some (.int x1), some (.int x2)] [] q1.2) (fun f => rfl) ?_
  refine OkF.ite (fun _ => ?_) (fun _ => ?_)
  · refine OkF.eq 2 (Y := fun f => if oc q1.2 x0 11 = true then rk px kx f (d + 1) 19 13 [some (.ref x0), some (.int x1), some (.int x2)] (va_rf (q1.2.2.2.2.1 x0 0) :: []) q1.2 else none) (fun f => rfl) ?_
    refine OkF.grd (fun _ => ?_)
    refine OkF.rf (fun a2 => ?_)
    refine OkF.eq 2 (Y := fun f => if inb x1 (aw q1.2 3 a2) = true then rk px kx f (d + 1) 19 15 [some (.ref x0), some (.int x1), some (.int x2)] (va_rf (q1.2.2.2.2.1 a2 x1.toNatClampNeg) :: []) q1.2 else none) (fun f => rfl) ?_
    refine OkF.grd (fun _ => ?_)
    refine OkF.rf (fun a3 => ?_)
    refine OkF.eq 1 (Y := fun f => if oc q1.2 a3 8 = true then (rk px kx f (d + 0) 20 0 [some (.ref a3)] [] q1.2).bind (fun q => rk px kx f (d + 1) 19 18 [some (.ref x0), some (.int x1), some (.int x2)] (q.1.toList ++ []) q.2) else none) (fun f => rfl) ?_
    refine OkF.grd (fun _ => ?_)
    refine OkF.bind (w1 := wI) (om20 (d + 0) a3 q1.2) (fun q4 => ?_)
    refine OkF.eq 1 (Y := fun f => if q4.1 = 0 then rk px kx f (d + 1) 19 27 [some (.ref x0), some (.int x1), some (.int x2)] [] q4.2 else rk px kx f (d + 1) 19 21 [some (.ref x0), some (.int x1), some (.int x2)] [] q4.2) (fun f => rfl) ?_
    refine OkF.ite (fun _ => ?_) (fun _ => ?_)
    · refine OkF.eq 2 (Y := fun f => if oc q4.2 x0 11 = true then rk px kx f (d + 1) 19 31 [some (.ref x0), some (.int x1), some (.int x2)] (va_rf (q4.2.2.2.2.1 x0 0) :: []) q4.2 else none) (fun f => rfl) ?_
      refine OkF.grd (fun _ => ?_)
      refine OkF.rf (fun a5 => ?_)
      refine OkF.eq 2 (Y := fun f => if inb x1 (aw q4.2 3 a5) = true then rk px kx f (d + 1) 19 33 [some (.ref x0), some (.int x1), some (.int x2)] (va_rf (q4.2.2.2.2.1 a5 x1.toNatClampNeg) :: []) q4.2 else none) (fun f => rfl) ?_
      refine OkF.grd (fun _ => ?_)
      refine OkF.rf (fun a6 => ?_)
      refine OkF.eq 3 (Y := fun f => if oc q4.2 a6 8 = true then (rk px kx f (d + 0) 21 0 [some (.ref a6), some (.int x2), some (.int (1 : Int32))] [] q4.2).bind (fun q => rk px kx f (d + 1) 19 38 [some (.ref x0), some (.int x1), some (.int x2)] (q.1.toList ++ []) q.2) else none) (fun f => rfl) ?_
      refine OkF.grd (fun _ => ?_)
      refine OkF.bind (w1 := wI) (om21 (d + 0) a6 x2 (1 : Int32) q4.2) (fun q7 => ?_)
      refine OkF.eq 1 (Y := fun f => if q7.1 = 0 then rk px kx f (d + 1) 19 41 [some (.ref x0), some (.int x1), some (.int x2)] [] q7.2 else rk px kx f (d + 1) 19 47 [some (.ref x0), some (.int x1), some (.int x2)] [] q7.2) (fun f => rfl) ?_
      refine OkF.ite (fun _ => ?_) (fun _ => ?_)
      · refine OkF.eq 3 (Y := fun f => if oc q7.2 x0 11 = true then (rk px kx f (d + 0) 15 0 [some (.ref x0), some (.int (2 : Int32))] [] q7.2).bind (fun q => rk px kx f (d + 1) 19 46 [some (.ref x0), some (.int x1), some (.int x2)] (q.1.toList ++ []) q.2) else none) (fun f => rfl) ?_
        refine OkF.grd (fun _ => ?_)
        refine OkF.bind (w1 := wI) (om15 (d + 0) x0 (2 : Int32) q7.2) (fun q8 => ?_)
        exact OkF.ret 1 (fun f => rfl)
      · exact OkF.ret 2 (fun f => rfl)
    · refine OkF.eq 3 (Y := fun f => if oc q4.2 x0 11 = true then (rk px kx f (d + 0) 15 0 [some (.ref x0), some (.int (1 : Int32))] [] q4.2).bind (fun q => rk px kx f (d + 1) 19 26 [some (.ref x0), some (.int x1), some (.int x2)] (q.1.toList ++ []) q.2) else none) (fun f => rfl) ?_
      refine OkF.grd (fun _ => ?_)
      refine OkF.bind (w1 := wI) (om15 (d + 0) x0 (1 : Int32) q4.2) (fun q9 => ?_)
      exact OkF.ret 1 (fun f => rfl)
  · exact OkF.ret 2 (fun f => rfl)
