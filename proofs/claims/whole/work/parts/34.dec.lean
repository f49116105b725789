-- DoorSold.noDoor(I)Z
def m43 (x0 : Nat) (x1 : Int32) (S : Sx) : Option (Int32 × Sx) :=
  if x1 < 0 then some ((1 : Int32), S) else if oc S x0 11 = true then (S.2.2.2.1 x0 3).bind fun a1 => if oc S a1 4 = true then if x1 < (S.2.1 a1 9) then some ((0 : Int32), S) else some ((1 : Int32), S) else none else none
set_option maxRecDepth 100000 in
theorem om43 (d : Nat) (x0 : Nat) (x1 : Int32) (S : Sx) : OkF wI (fun f => rk px kx f (d + 0) 43 0 [some (.ref x0), some (.int x1)] [] S) (m43 x0 x1 S) := by
  unfold m43
  refine OkF.eq 2 (Y := fun f => if x1 < 0 then rk px kx f (d + 0) 43 15 [some (.ref x0), some (.int x1)] [] S else rk px kx f (d + 0) 43 4 [some (.ref x0), some (.int x1)] [] S) (fun f => rfl) ?_
  refine OkF.ite (fun _ => ?_) (fun _ => ?_)
  · exact OkF.ret 3 (fun f => rfl)
  · refine OkF.eq 3 (Y := fun f => if oc S x0 11 = true then rk px kx f (d + 0) 43 9 [some (.ref x0), some (.int x1)] (va_rf (S.2.2.2.1 x0 3) :: [.int x1]) S else none) (fun f => rfl) ?_
    refine OkF.grd (fun _ => ?_)
    refine OkF.rf (fun a1 => ?_)
    refine OkF.eq 1 (Y := fun f => if oc S a1 4 = true then rk px kx f (d + 0) 43 12 [some (.ref x0), some (.int x1)] [.int (S.2.1 a1 9), .int x1] S else none) (fun f => rfl) ?_
    refine OkF.grd (fun _ => ?_)
    refine OkF.eq 1 (Y := fun f => if x1 < (S.2.1 a1 9) then rk px kx f (d + 0) 43 19 [some (.ref x0), some (.int x1)] [] S else rk px kx f (d + 0) 43 15 [some (.ref x0), some (.int x1)] [] S) (fun f => rfl) ?_
    refine OkF.ite (fun _ => ?_) (fun _ => ?_)
    · exact OkF.ret 2 (fun f => rfl)
    · exact OkF.ret 3 (fun f => rfl)
-- DoorSold$Country.numbered(I)LDoorSold$Kind;
def b46_22 (x0 : Nat) (S : Sx) : Option (Nat × Sx) :=
  if oc S x0 4 = true then (S.2.2.2.1 x0 0).bind fun a1 => if inb (0 : Int32) (aw S 4 a1) = true then (S.2.2.2.1 a1 (0 : Int32).toNatClampNeg).bind fun a2 => some (a2, S) else none else none
set_option maxRecDepth 100000 in
theorem ob46_22 (d : Nat) (x0 : Nat) (S : Sx) : OkF wR (fun f => rk px kx f (d + 0) 46 22 [some (.ref x0), none] [] S) (b46_22 x0 S) := by
  unfold b46_22
  refine OkF.eq 2 (Y := fun f => if oc S x0 4 = true then rk px kx f (d + 0) 46 26 [some (.ref x0), none] (va_rf (S.2.2.2.1 x0 0) :: []) S else none) (fun f => rfl) ?_
  refine OkF.grd (fun _ => ?_)
  refine OkF.rf (fun a1 => ?_)
  refine OkF.eq 2 (Y := fun f => if inb (0 : Int32) (aw S 4 a1) = true then rk px kx f (d + 0) 46 28 [some (.ref x0), none] (va_rf (S.2.2.2.1 a1 (0 : Int32).toNatClampNeg) :: []) S else none) (fun f => rfl) ?_
  refine OkF.grd (fun _ => ?_)
  refine OkF.rf (fun a2 => ?_)
  exact OkF.ret 1 (fun f => rfl)
def m46 (x0 : Nat) (x1 : Int32) (S : Sx) : Option (Nat × Sx) :=
  if x1 < 0 then b46_22 x0 S else if oc S x0 4 = true then (S.2.2.2.1 x0 0).bind fun a3 => if isa S 4 a3 = true then if (Int32.ofNat (aw S 4 a3)) ≤ x1 then b46_22 x0 S else if oc S x0 4 = true then (S.2.2.2.1 x0 0).bind fun a4 => if inb x1 (aw S 4 a4) = true then (S.2.2.2.1 a4 x1.toNatClampNeg).bind fun a5 => some (a5, S) else none else none else none else none
set_option maxRecDepth 100000 in
theorem om46 (d : Nat) (x0 : Nat) (x1 : Int32) (S : Sx) : OkF wR (fun f => rk px kx f (d + 0) 46 0 [some (.ref x0), some (.int x1)] [] S) (m46 x0 x1 S) := by
  unfold m46
  refine OkF.eq 2 (Y := fun f => if x1 < 0 then rk px kx f (d + 0) 46 22 [some (.ref x0), some (.int x1)] [] S else rk px kx f (d + 0) 46 4 [some (.ref x0), some (.int x1)] [] S) (fun f => rfl) ?_
  refine OkF.ite (fun _ => ?_) (fun _ => ?_)
  · exact OkF.kl (ls1 := [some (.ref x0), none]) (fun f => rfl) (ob46_22 d x0 S)
  · refine OkF.eq 3 (Y := fun f => if oc S x0 4 = true then rk px kx f (d + 0) 46 9 [some (.ref x0), some (.int x1)] (va_rf (S.2.2.2.1 x0 0) :: [.int x1]) S else none) (fun f => rfl) ?_
    refine OkF.grd (fun _ => ?_)
    refine OkF.rf (fun a3 => ?_)
    refine OkF.eq 1 (Y := fun f => if isa S 4 a3 = true then rk px kx f (d + 0) 46 10 [some (.ref x0), some (.int x1)] [.int (Int32.ofNat (aw S 4 a3)), .int x1] S else none) (fun f => rfl) ?_
    refine OkF.grd (fun _ => ?_)
    refine OkF.eq 1 (Y := fun f => if (Int32.ofNat (aw S 4 a3)) ≤ x1 then rk px kx f (d + 0) 46 22 [some (.ref x0), some (.int x1)] [] S else rk px kx f (d + 0) 46 13 [some (.ref x0), some (.int x1)] [] S) (fun f => rfl) ?_
    refine OkF.ite (fun _ => ?_) (fun _ => ?_)
    · exact OkF.kl (ls1 := [some (.ref x0), none]) (fun f => rfl) (ob46_22 d x0 S)
    · refine OkF.eq 2 (Y := fun f => if oc S x0 4 = true then rk px kx f (d + 0) 46 17 [some (.ref x0), some (.int x1)] (va_rf (S.2.2.2.1 x0 0) :: []) S else none) (fun f => rfl) ?_
      refine OkF.grd (fun _ => ?_)
      refine OkF.rf (fun a4 => ?_)
      refine OkF.eq 2 (Y := fun f => if inb x1 (aw S 4 a4) = true then rk px kx f (d + 0) 46 19 [some (.ref x0), some (.int x1)] (va_rf (S.2.2.2.1 a4 x1.toNatClampNeg) :: []) S else none) (fun f => rfl) ?_
      refine OkF.grd (fun _ => ?_)
      refine OkF.rf (fun a5 => ?_)
      exact OkF.ret 2 (fun f => rfl)
-- DoorSold$Kind.cost(I)I
def m50 (x0 : Nat) (x1 : Int32) (S : Sx) : Option (Int32 × Sx) :=
  some (x1, S)
set_option maxRecDepth 100000 in
theorem om50 (d : Nat) (x0 : Nat) (x1 : Int32) (S : Sx) : OkF wI (fun f => rk px kx f (d + 0) 50 0 [some (.ref x0), some (.int x1)] [] S) (m50 x0 x1 S) := by
  unfold m50
  exact OkF.ret 2 (fun f => rfl)
-- DoorSold$Back.cost(I)I
def m47 (x0 : Nat) (x1 : Int32) (S : Sx) : Option (Int32 × Sx) :=
  if (2 : Int32) = 0 then none else some (x1 / (2 : Int32), S)
set_option maxRecDepth 100000 in
theorem om47 (d : Nat) (x0 : Nat) (x1 : Int32) (S : Sx) : OkF wI (fun f => rk px kx f (d + 0) 47 0 [some (.ref x0), some (.int x1)] [] S) (m47 x0 x1 S) := by
  unfold m47
  refine OkF.eq 3 (Y := fun f => if (2 : Int32) = 0 then none else rk px kx f (d + 0) 47 3 [some (.ref x0), some (.int x1)] [.int (x1 / (2 : Int32))] S) (fun f => rfl) ?_
  refine OkF.ngr (fun _ => ?_)
  exact OkF.ret 1 (fun f => rfl)
-- DoorSold$Bricked.cost(I)I
def m48 (x0 : Nat) (x1 : Int32) (S : Sx) : Option (Int32 × Sx) :=
  some ((1 : Int32), S)
set_option maxRecDepth 100000 in
theorem om48 (d : Nat) (x0 : Nat) (x1 : Int32) (S : Sx) : OkF wI (fun f => rk px kx f (d + 0) 48 0 [some (.ref x0), some (.int x1)] [] S) (m48 x0 x1 S) := by
  unfold m48
  exact OkF.ret 2 (fun f => rfl)
-- DoorSold$Study.cost(I)I
def m49 (x0 : Nat) (x1 : Int32) (S : Sx) : Option (Int32 × Sx) :=
  if oc S x0 9 = true then (m47 x0 x1 S).bind fun q1 => some (q1.1 + (3 : Int32), q1.2) else none
set_option maxRecDepth 100000 in
theorem om49 (d : Nat) (x0 : Nat) (x1 : Int32) (S : Sx) : OkF wI (fun f => rk px kx f (d + 1) 49 0 [some (.ref x0), some (.int x1)] [] S) (m49 x0 x1 S) := by
  unfold m49
  refine OkF.eq 3 (Y := fun f => if oc S x0 9 = true then (rk px kx f (d + 0) 47 0 [some (.ref x0), some (.int x1)] [] S).bind (fun q => rk px kx f (d + 1) 49 5 [some (.ref x0), some (.int x1)] (q.1.toList ++ []) q.2) else none) (fun f => rfl) ?_
  refine OkF.grd (fun _ => ?_)
  refine OkF.bind (w1 := wI) (om47 (d + 0) x0 x1 S) (fun q1 => ?_)
  exact OkF.ret 3 (fun f => rfl)
def vd_cost (v : Nat) (y0 : Int32) (S : Sx) : Option (Int32 × Sx) :=
  if oc S v 6 = true then m50 v y0 S else if oc S v 5 = true then m50 v y0 S else if oc S v 0 = true then m47 v y0 S else if oc S v 1 = true then m48 v y0 S else if oc S v 9 = true then m49 v y0 S else if oc S v 2 = true then m50 v y0 S else none
set_option maxRecDepth 100000 in
theorem ov_cost (d : Nat) (v : Nat) (y0 : Int32) (S : Sx) : OkF wI (fun f => vsl px (rk px kx f) (d + 1) S v [.int y0] [6, 50, 5, 50, 0, 47, 1, 48, 9, 49, 2, 50]) (vd_cost v y0 S) := by
  unfold vd_cost
  refine OkF.eq 0 (Y := fun f => if oc S v 6 = true then rk px kx f (d + 1) 50 0 [some (.ref v), some (.int y0)] [] S else if oc S v 5 = true then rk px kx f (d + 1) 50 0 [some (.ref v), some (.int y0)] [] S else if oc S v 0 = true then rk px kx f (d + 1) 47 0 [some (.ref v), some (.int y0)] [] S else if oc S v 1 = true then rk px kx f (d + 1) 48 0 [some (.ref v), some (.int y0)] [] S else if oc S v 9 = true then rk px kx f (d + 1) 49 0 [some (.ref v), some (.int y0)] [] S else if oc S v 2 = true then rk px kx f (d + 1) 50 0 [some (.ref v), some (.int y0)] [] S else none) (fun f => rfl) ?_
  refine OkF.ite (fun _ => om50 (d + 1) v y0 S) (fun _ => ?_)
  refine OkF.ite (fun _ => om50 (d + 1) v y0 S) (fun _ => ?_)
  refine OkF.ite (fun _ => om47 (d + 1) v y0 S) (fun _ => ?_)
  refine OkF.ite (fun _ => om48 (d + 1) v y0 S) (fun _ => ?_)
  refine OkF.ite (fun _ => om49 (d + 0) v y0 S) (fun _ => ?_)
  refine OkF.ite (fun _ => om50 (d + 1) v y0 S) (fun _ => ?_)
  exact OkF.no
-- DoorSold$Country.costOf(I)I
def m45 (x0 : Nat) (x1 : Int32) (S : Sx) : Option (Int32 × Sx) :=
  if oc S x0 4 = true then (S.2.2.2.1 x0 1).bind fun a1 => if inb x1 (al S a1) = true then if oc S x0 4 = true then (m46 x0 (S.2.1 a1 x1.toNatClampNeg) S).bind fun q2 => if oc q2.2 x0 4 = true then (q2.2.2.2.2.1 x0 2).bind fun a3 => if inb x1 (al q2.2 a3) = true then (vd_cost q2.1 (q2.2.2.1 a3 x1.toNatClampNeg) q2.2).bind fun q4 => some (q4.1, q4.2) else none else none else none else none else none
set_option maxRecDepth 100000 in
theorem om45 (d : Nat) (x0 : Nat) (x1 : Int32) (S : Sx) : OkF wI (fun f => rk px kx f (d + 2) 45 0 [some (.ref x0), some (.int x1)] [] S) (m45 x0 x1 S) := by
  unfold m45
  refine OkF.eq 3 (Y := fun f => if oc S x0 4 = true then rk px kx f (d + 2) 45 5 [some (.ref x0), some (.int x1)] (va_rf (S.2.2.2.1 x0 1) :: [.ref x0]) S else none) (fun f => rfl) ?_
  refine OkF.grd (fun _ => ?_)
  refine OkF.rf (fun a1 => ?_)
  refine OkF.eq 2 (Y := fun f => if inb x1 (al S a1) = true then rk px kx f (d + 2) 45 7 [some (.ref x0), some (.int x1)] [.int (S.2.1 a1 x1.toNatClampNeg), .ref x0] S else none) (fun f => rfl) ?_
  refine OkF.grd (fun _ => ?_)
  refine OkF.eq 1 (Y := fun f => if oc S x0 4 = true then (rk px kx f (d + 1) 46 0 [some (.ref x0), some (.int (S.2.1 a1 x1.toNatClampNeg))] [] S).bind (fun q => rk px kx f (d + 2) 45 10 [some (.ref x0), some (.int x1)] (q.1.toList ++ []) q.2) else none) (fun f => rfl) ?_
  refine OkF.grd (fun _ => ?_)
  refine OkF.bind (w1 := wR) (om46 (d + 1) x0 (S.2.1 a1 x1.toNatClampNeg) S) (fun q2 => ?_)
  refine OkF.eq 2 (Y := fun f => if oc q2.2 x0 4 = true then rk px kx f (d + 2) 45 14 [some (.ref x0), some (.int x1)] (va_rf (q2.2.2.2.2.1 x0 2) :: [.ref q2.1]) q2.2 else none) (fun f => rfl) ?_
  refine OkF.grd (fun _ => ?_)
  refine OkF.rf (fun a3 => ?_)
  refine OkF.eq 2 (Y := fun f => if inb x1 (al q2.2 a3) = true then rk px kx f (d + 2) 45 16 [some (.ref x0), some (.int x1)] [.int (q2.2.2.1 a3 x1.toNatClampNeg), .ref q2.1] q2.2 else none) (fun f => rfl) ?_
  refine OkF.grd (fun _ => ?_)
  refine OkF.eq 1 (Y := fun f => vcl px (rk px kx f) (d + 2) 45 19 [some (.ref x0), some (.int x1)] [] q2.2 q2.1 [.int (q2.2.2.1 a3 x1.toNatClampNeg)] [6, 50, 5, 50, 0, 47, 1, 48, 9, 49, 2, 50]) (fun f => rfl) ?_
  refine OkF.vir rfl (ov_cost (d + 0) q2.1 (q2.2.2.1 a3 x1.toNatClampNeg) q2.2) (fun q4 => ?_)
  exact OkF.ret 1 (fun f => rfl)
-- DoorSold$Kind.entry(III)I
def m54 (x0 : Nat) (x1 : Int32) (x2 : Int32) (x3 : Int32) (S : Sx) : Option (Int32 × Sx) :=
  some (x1, S)
set_option maxRecDepth 100000 in
theorem om54 (d : Nat) (x0 : Nat) (x1 : Int32) (x2 : Int32) (x3 : Int32) (S : Sx) : OkF wI (fun f => rk px kx f (d + 0) 54 0 [some (.ref x0), some (.int x1), some (.int x2), some (.int x3)] [] S) (m54 x0 x1 x2 x3 S) := by
  unfold m54
  exact OkF.ret 2 (fun f => rfl)
-- DoorSold$Back.entry(III)I
def m52 (x0 : Nat) (x1 : Int32) (x2 : Int32) (x3 : Int32) (S : Sx) : Option (Int32 × Sx) :=
  some (x2, S)
set_option maxRecDepth 100000 in
theorem om52 (d : Nat) (x0 : Nat) (x1 : Int32) (x2 : Int32) (x3 : Int32) (S : Sx) : OkF wI (fun f => rk px kx f (d + 0) 52 0 [some (.ref x0), some (.int x1), some (.int x2), some (.int x3)] [] S) (m52 x0 x1 x2 x3 S) := by
  unfold m52
  exact OkF.ret 2 (fun f => rfl)
-- DoorSold$Cart.entry(III)I
def m53 (x0 : Nat) (x1 : Int32) (x2 : Int32) (x3 : Int32) (S : Sx) : Option (Int32 × Sx) :=
  some (x1 + x3, S)
set_option maxRecDepth 100000 in
theorem om53 (d : Nat) (x0 : Nat) (x1 : Int32) (x2 : Int32) (x3 : Int32) (S : Sx) : OkF wI (fun f => rk px kx f (d + 0) 53 0 [some (.ref x0), some (.int x1), some (.int x2), some (.int x3)] [] S) (m53 x0 x1 x2 x3 S) := by
  unfold m53
  exact OkF.ret 4 (fun f => rfl)
-- java/lang/Math.floorMod(II)I
def m56 (x0 : Int32) (x1 : Int32) (S : Sx) : Option (Int32 × Sx) :=
  if x1 = 0 then none else if 0 ≤ (x0 ^^^ x1) then some (x0 - x0 / x1 * x1, S) else if (x0 - x0 / x1 * x1) = 0 then some (x0 - x0 / x1 * x1, S) else some ((x0 - x0 / x1 * x1) + x1, S)
set_option maxRecDepth 100000 in
theorem om56 (d : Nat) (x0 : Int32) (x1 : Int32) (S : Sx) : OkF wI (fun f => rk px kx f (d + 0) 56 0 [some (.int x0), some (.int x1), none] [] S) (m56 x0 x1 S) := by
  unfold m56
  refine OkF.eq 3 (Y := fun f => if x1 = 0 then none else rk px kx f (d + 0) 56 3 [some (.int x0), some (.int x1), none] [.int (x0 - x0 / x1 * x1)] S) (fun f => rfl) ?_
  refine OkF.ngr (fun _ => ?_)
  refine OkF.eq 5 (Y := fun f => if 0 ≤ (x0 ^^^ x1) then rk px kx f (d + 0) 56 18 [some (.int x0), some (.int x1), some (.int (x0 - x0 / x1 * x1))] [] S else rk px kx f (d + 0) 56 10 [some (.int x0), some (.int x1), some (.int (x0 - x0 / x1 * x1))] [] S) (fun f => rfl) ?_
  refine OkF.ite (fun _ => ?_) (fun _ => ?_)
  · exact OkF.ret 2 (fun f => rfl)
  · refine OkF.eq 2 (Y := fun f => if (x0 - x0 / x1 * x1) = 0 then rk px kx f (d + 0) 56 18 [some (.int x0), some (.int x1), some (.int (x0 - x0 / x1 * x1))] [] S else rk px kx f (d + 0) 56 14 [some (.int x0), some (.int x1), some (.int (x0 - x0 / x1 * x1))] [] S) (fun f => rfl) ?_
    refine OkF.ite (fun _ => ?_) (fun _ => ?_)
    · exact OkF.ret 2 (fun f => rfl)
    · exact OkF.ret 4 (fun f => rfl)
-- DoorSold$Country.ring(I)I
def m55 (x0 : Nat) (x1 : Int32) (S : Sx) : Option (Int32 × Sx) :=
  if oc S x0 4 = true then if (S.2.1 x0 8) ≤ 0 then some ((0 : Int32), S) else if oc S x0 4 = true then (m56 x1 (S.2.1 x0 8) S).bind fun q1 => some (q1.1, q1.2) else none else none
set_option maxRecDepth 100000 in
theorem om55 (d : Nat) (x0 : Nat) (x1 : Int32) (S : Sx) : OkF wI (fun f => rk px kx f (d + 1) 55 0 [some (.ref x0), some (.int x1)] [] S) (m55 x0 x1 S) := by
  unfold m55
  refine OkF.eq 2 (Y := fun f => if oc S x0 4 = true then rk px kx f (d + 1) 55 4 [some (.ref x0), some (.int x1)] [.int (S.2.1 x0 8)] S else none) (fun f => rfl) ?_
  refine OkF.grd (fun _ => ?_)
  refine OkF.eq 1 (Y := fun f => if (S.2.1 x0 8) ≤ 0 then rk px kx f (d + 1) 55 18 [some (.ref x0), some (.int x1)] [] S else rk px kx f (d + 1) 55 7 [some (.ref x0), some (.int x1)] [] S) (fun f => rfl) ?_
  refine OkF.ite (fun _ => ?_) (fun _ => ?_)
  · exact OkF.ret 2 (fun f => rfl)
  · refine OkF.eq 3 (Y := fun f => if oc S x0 4 = true then rk px kx f (d + 1) 55 12 [some (.ref x0), some (.int x1)] [.int (S.2.1 x0 8), .int x1] S else none) (fun f => rfl) ?_
    refine OkF.grd (fun _ => ?_)
    refine OkF.eq 1 (Y := fun f => (rk px kx f (d + 0) 56 0 [some (.int x1), some (.int (S.2.1 x0 8)), none] [] S).bind (fun q => rk px kx f (d + 1) 55 15 [some (.ref x0), some (.int x1)] (q.1.toList ++ []) q.2)) (fun f => rfl) ?_
    refine OkF.bind (w1 := wI) (om56 (d + 0) x1 (S.2.1 x0 8) S) (fun q1 => ?_)
    exact OkF.ret 2 (fun f => rfl)
def vd_entry (v : Nat) (y0 : Int32) (y1 : Int32) (y2 : Int32) (S : Sx) : Option (Int32 × Sx) :=
  if oc S v 6 = true then m54 v y0 y1 y2 S else if oc S v 5 = true then m54 v y0 y1 y2 S else if oc S v 0 = true then m52 v y0 y1 y2 S else if oc S v 1 = true then m54 v y0 y1 y2 S else if oc S v 9 = true then m52 v y0 y1 y2 S else if oc S v 2 = true then m53 v y0 y1 y2 S else none
set_option maxRecDepth 100000 in
theorem ov_entry (d : Nat) (v : Nat) (y0 : Int32) (y1 : Int32) (y2 : Int32) (S : Sx) : OkF wI (fun f => vsl px (rk px kx f) (d + 0) S v [.int y0, .int y1, .int y2] [6, 54, 5, 54, 0, 52, 1, 54, 9, 52, 2, 53]) (vd_entry v y0 y1 y2 S) := by
  unfold vd_entry
  refine OkF.eq 0 (Y := fun f => if oc S v 6 = true then rk px kx f (d + 0) 54 0 [some (.ref v), some (.int y0), some (.int y1), some (.int y2)] [] S else if oc S v 5 = true then rk px kx f (d + 0) 54 0 [some (.ref v), some (.int y0), some (.int y1), some (.int y2)] [] S else if oc S v 0 = true then rk px kx f (d + 0) 52 0 [some (.ref v), some (.int y0), some (.int y1), some (.int y2)] [] S else if oc S v 1 = true then rk px kx f (d + 0) 54 0 [some (.ref v), some (.int y0), some (.int y1), some (.int y2)] [] S else if oc S v 9 = true then rk px kx f (d + 0) 52 0 [some (.ref v), some (.int y0), some (.int y1), some (.int y2)] [] S else if oc S v 2 = true then rk px kx f (d + 0) 53 0 [some (.ref v), some (.int y0), some (.int y1), some (.int y2)] [] S else none) (fun f => rfl) ?_
  refine OkF.ite (fun _ => om54 (d + 0) v y0 y1 y2 S) (fun _ => ?_)
  refine OkF.ite (fun _ => om54 (d + 0) v y0 y1 y2 S) (fun _ => ?_)
  refine OkF.ite (fun _ => om52 (d + 0) v y0 y1 y2 S) (fun _ => ?_)
  refine OkF.ite (fun _ => om54 (d + 0) v y0 y1 y2 S) (fun _ => ?_)
  refine OkF.ite (fun _ => om52 (d + 0) v y0 y1 y2 S) (fun _ => ?_)
  refine OkF.ite (fun _ => om53 (d + 0) v y0 y1 y2 S) (fun _ => ?_)
  exact OkF.no
-- DoorSold$Country.entryOf(II)I
def m51 (x0 : Nat) (x1 : Int32) (x2 : Int32) (S : Sx) : Option (Int32 × Sx) :=
  if oc S x0 4 = true then (S.2.2.2.1 x0 1).bind fun a1 => if inb x1 (al S a1) = true then if oc S x0 4 = true then (m46 x0 (S.2.1 a1 x1.toNatClampNeg) S).bind fun q2 => if oc q2.2 x0 4 = true then (q2.2.2.2.2.1 x0 3).bind fun a3 => if inb x1 (al q2.2 a3) = true then if oc q2.2 x0 4 = true then (q2.2.2.2.2.1 x0 4).bind fun a4 => if inb x1 (al q2.2 a4) = true then (vd_entry q2.1 (q2.2.2.1 a3 x1.toNatClampNeg) (q2.2.2.1 a4 x1.toNatClampNeg) x2 q2.2).bind fun q5 => if oc q5.2 x0 4 = true then (m55 x0 q5.1 q5.2).bind fun q6 => some (q6.1, q6.2) else none else none else none else none else none else none else none else none
set_option maxRecDepth 100000 in
theorem om51 (d : Nat) (x0 : Nat) (x1 : Int32) (x2 : Int32) (S : Sx) : OkF wI (fun f => rk px kx f (d + 2) 51 0 [some (.ref x0), some (.int x1), some (.int x2)] [] S) (m51 x0 x1 x2 S) := by
  unfold m51
  refine OkF.eq 4 (Y := fun f => if oc S x0 4 = true then rk px kx f (d + 2) 51 6 [some (.ref x0), some (.int x1), some (.int x2)] (va_rf (S.2.2.2.1 x0 1) :: [.ref x0, .ref x0]) S else none) (fun f => rfl) ?_
  refine OkF.grd (fun _ => ?_)
  refine OkF.rf (fun a1 => ?_)
  refine OkF.eq 2 (Y := fun f => if inb x1 (al S a1) = true then rk px kx f (d + 2) 51 8 [some (.ref x0), some (.int x1), some (.int x2)] [.int (S.2.1 a1 x1.toNatClampNeg), .ref x0, .ref x0] S else none) (fun f => rfl) ?_
  refine OkF.grd (fun _ => ?_)
  refine OkF.eq 1 (Y := fun f => if oc S x0 4 = true then (rk px kx f (d + 1) 46 0 [some (.ref x0), some (.int (S.2.1 a1 x1.toNatClampNeg))] [] S).bind (fun q => rk px kx f (d + 2) 51 11 [some (.ref x0), some (.int x1), some (.int x2)] (q.1.toList ++ [.ref x0]) q.2) else none) (fun f => rfl) ?_
  refine OkF.grd (fun _ => ?_)
  refine OkF.bind (w1 := wR) (om46 (d + 1) x0 (S.2.1 a1 x1.toNatClampNeg) S) (fun q2 => ?_)
  refine OkF.eq 2 (Y := fun f => if oc q2.2 x0 4 = true then rk px kx f (d + 2) 51 15 [some (.ref x0), some (.int x1), some (.int x2)] (va_rf (q2.2.2.2.2.1 x0 3) :: [.ref q2.1, .ref x0]) q2.2 else none) (fun f => rfl) ?_
  refine OkF.grd (fun _ => ?_)
  refine OkF.rf (fun a3 => ?_)
  refine OkF.eq 2 (Y := fun f => if inb x1 (al q2.2 a3) = true then rk px kx f (d + 2) 51 17 [some (.ref x0), some (.int x1), some (.int x2)] [.int (q2.2.2.1 a3 x1.toNatClampNeg), .ref q2.1, .ref x0] q2.2 else none) (fun f => rfl) ?_
  refine OkF.grd (fun _ => ?_)
  refine OkF.eq 2 (Y := fun f => if oc q2.2 x0 4 = true then rk px kx f (d + 2) 51 21 [some (.ref x0), some (.int x1), some (.int x2)] (va_rf (q2.2.2.2.2.1 x0 4) :: [.int (q2.2.2.1 a3 x1.toNatClampNeg), .ref q2.1, .ref x0]) q2.2 else none) (fun f => rfl) ?_
  refine OkF.grd (fun _ => ?_)
  refine OkF.rf (fun a4 => ?_)
  refine OkF.eq 2 (Y := fun f => if inb x1 (al q2.2 a4) = true then rk px kx f (d + 2) 51 23 [some (.ref x0), some (.int x1), some (.int x2)] [.int (q2.2.2.1 a4 x1.toNatClampNeg), .int (q2.2.2.1 a3 x1.toNatClampNeg), .ref q2.1, .ref x0] q2.2 else none) (fun f => rfl) ?_
  refine OkF.grd (fun _ => ?_)
  refine OkF.eq 2 (Y := fun f => vcl px (rk px kx f) (d + 2) 51 27 [some (.ref x0), some (.int x1), some (.int x2)] [.ref x0] q2.2 q2.1 [.int (q2.2.2.1 a3 x1.toNatClampNeg), .int (q2.2.2.1 a4 x1.toNatClampNeg), .int x2] [6, 54, 5, 54, 0, 52, 1, 54, 9, 52, 2, 53]) (fun f => rfl) ?_
  refine OkF.vir rfl (ov_entry (d + 1) q2.1 (q2.2.2.1 a3 x1.toNatClampNeg) (q2.2.2.1 a4 x1.toNatClampNeg) x2 q2.2) (fun q5 => ?_)
  refine OkF.eq 1 (Y := fun f => if oc q5.2 x0 4 = true then (rk px kx f (d + 1) 55 0 [some (.ref x0), some (.int q5.1)] [] q5.2).bind (fun q => rk px kx f (d + 2) 51 30 [some (.ref x0), some (.int x1), some (.int x2)] (q.1.toList ++ []) q.2) else none) (fun f => rfl) ?_
  refine OkF.grd (fun _ => ?_)
  refine OkF.bind (w1 := wI) (om55 (d + 0) x0 q5.1 q5.2) (fun q6 => ?_)
  exact OkF.ret 1 (fun f => rfl)
-- DoorSold$Kind.opensIn(I)Z
def m60 (x0 : Nat) (x1 : Int32) (S : Sx) : Option (Int32 × Sx) :=
  some ((1 : Int32), S)
set_option maxRecDepth 100000 in
theorem om60 (d : Nat) (x0 : Nat) (x1 : Int32) (S : Sx) : OkF wI (fun f => rk px kx f (d + 0) 60 0 [some (.ref x0), some (.int x1)] [] S) (m60 x0 x1 S) := by
  unfold m60
  exact OkF.ret 2 (fun f => rfl)
-- DoorSold$Dutch.opensIn(I)Z
def m59 (x0 : Nat) (x1 : Int32) (S : Sx) : Option (Int32 × Sx) :=
  if (2 : Int32) = 0 then none else if (x1 - x1 / (2 : Int32) * (2 : Int32)) = 0 then some ((1 : Int32), S) else some ((0 : Int32), S)
set_option maxRecDepth 100000 in
theorem om59 (d : Nat) (x0 : Nat) (x1 : Int32) (S : Sx) : OkF wI (fun f => rk px kx f (d + 0) 59 0 [some (.ref x0), some (.int x1)] [] S) (m59 x0 x1 S) := by
  unfold m59
  refine OkF.eq 3 (Y := fun f => if (2 : Int32) = 0 then none else rk px kx f (d + 0) 59 3 [some (.ref x0), some (.int x1)] [.int (x1 - x1 / (2 : Int32) * (2 : Int32))] S) (fun f => rfl) ?_
  refine OkF.ngr (fun _ => ?_)
  refine OkF.eq 1 (Y := fun f => if (x1 - x1 / (2 : Int32) * (2 : Int32)) = 0 then rk px kx f (d + 0) 59 6 [some (.ref x0), some (.int x1)] [] S else rk px kx f (d + 0) 59 10 [some (.ref x0), some (.int x1)] [] S) (fun f => rfl) ?_
  refine OkF.ite (fun _ => ?_) (fun _ => ?_)
  · exact OkF.ret 3 (fun f => rfl)
  · exact OkF.ret 2 (fun f => rfl)
-- DoorSold$Bricked.opensIn(I)Z
def m58 (x0 : Nat) (x1 : Int32) (S : Sx) : Option (Int32 × Sx) :=
  if (3 : Int32) = 0 then none else if (x1 - x1 / (3 : Int32) * (3 : Int32)) = 0 then some ((1 : Int32), S) else some ((0 : Int32), S)
set_option maxRecDepth 100000 in
theorem om58 (d : Nat) (x0 : Nat) (x1 : Int32) (S : Sx) : OkF wI (fun f => rk px kx f (d + 0) 58 0 [some (.ref x0), some (.int x1)] [] S) (m58 x0 x1 S) := by
  unfold m58
  refine OkF.eq 3 (Y := fun f => if (3 : Int32) = 0 then none else rk px kx f (d + 0) 58 3 [some (.ref x0), some (.int x1)] [.int (x1 - x1 / (3 : Int32) * (3 : Int32))] S) (fun f => rfl) ?_
  refine OkF.ngr (fun _ => ?_)
  refine OkF.eq 1 (Y := fun f => if (x1 - x1 / (3 : Int32) * (3 : Int32)) = 0 then rk px kx f (d + 0) 58 6 [some (.ref x0), some (.int x1)] [] S else rk px kx f (d + 0) 58 10 [some (.ref x0), some (.int x1)] [] S) (fun f => rfl) ?_
  refine OkF.ite (fun _ => ?_) (fun _ => ?_)
  · exact OkF.ret 3 (fun f => rfl)
  · exact OkF.ret 2 (fun f => rfl)
def vd_opensIn (v : Nat) (y0 : Int32) (S : Sx) : Option (Int32 × Sx) :=
  if oc S v 6 = true then m60 v y0 S else if oc S v 5 = true then m59 v y0 S else if oc S v 0 = true then m60 v y0 S else if oc S v 1 = true then m58 v y0 S else if oc S v 9 = true then m60 v y0 S else if oc S v 2 = true then m59 v y0 S else none
set_option maxRecDepth 100000 in
theorem ov_opensIn (d : Nat) (v : Nat) (y0 : Int32) (S : Sx) : OkF wI (fun f => vsl px (rk px kx f) (d + 0) S v [.int y0] [6, 60, 5, 59, 0, 60, 1, 58, 9, 60, 2, 59]) (vd_opensIn v y0 S) := by
  unfold vd_opensIn
  refine OkF.eq 0 (Y := fun f => if oc S v 6 = true then rk px kx f (d + 0) 60 0 [some (.ref v), some (.int y0)] [] S else if oc S v 5 = true then rk px kx f (d + 0) 59 0 [some (.ref v), some (.int y0)] [] S else if oc S v 0 = true then rk px kx f (d + 0) 60 0 [some (.ref v), some (.int y0)] [] S else if oc S v 1 = true then rk px kx f (d + 0) 58 0 [some (.ref v), some (.int y0)] [] S else if oc S v 9 = true then rk px kx f (d + 0) 60 0 [some (.ref v), some (.int y0)] [] S else if oc S v 2 = true then rk px kx f (d + 0) 59 0 [some (.ref v), some (.int y0)] [] S else none) (fun f => rfl) ?_
  refine OkF.ite (fun _ => om60 (d + 0) v y0 S) (fun _ => ?_)
  refine OkF.ite (fun _ => om59 (d + 0) v y0 S) (fun _ => ?_)
  refine OkF.ite (fun _ => om60 (d + 0) v y0 S) (fun _ => ?_)
  refine OkF.ite (fun _ => om58 (d + 0) v y0 S) (fun _ => ?_)
  refine OkF.ite (fun _ => om60 (d + 0) v y0 S) (fun _ => ?_)
  refine OkF.ite (fun _ => om59 (d + 0) v y0 S) (fun _ => ?_)
  exact OkF.no
-- DoorSold$Country.isOpen(II)Z
def m57 (x0 : Nat) (x1 : Int32) (x2 : Int32) (S : Sx) : Option (Int32 × Sx) :=
  if oc S x0 4 = true then (S.2.2.2.1 x0 1).bind fun a1 => if inb x1 (al S a1) = true then if oc S x0 4 = true then (m46 x0 (S.2.1 a1 x1.toNatClampNeg) S).bind fun q2 => (vd_opensIn q2.1 x2 q2.2).bind fun q3 => some (q3.1 &&& 1, q3.2) else none else none else none
set_option maxRecDepth 100000 in
theorem om57 (d : Nat) (x0 : Nat) (x1 : Int32) (x2 : Int32) (S : Sx) : OkF wI (fun f => rk px kx f (d + 1) 57 0 [some (.ref x0), some (.int x1), some (.int x2)] [] S) (m57 x0 x1 x2 S) := by
  unfold m57
  refine OkF.eq 3 (Y := fun f => if oc S x0 4 = true then rk px kx f (d + 1) 57 5 [some (.ref x0), some (.int x1), some (.int x2)] (va_rf (S.2.2.2.1 x0 1) :: [.ref x0]) S else none) (fun f => rfl) ?_
  refine OkF.grd (fun _ => ?_)
  refine OkF.rf (fun a1 => ?_)
  refine OkF.eq 2 (Y := fun f => if inb x1 (al S a1) = true then rk px kx f (d + 1) 57 7 [some (.ref x0), some (.int x1), some (.int x2)] [.int (S.2.1 a1 x1.toNatClampNeg), .ref x0] S else none) (fun f => rfl) ?_
  refine OkF.grd (fun _ => ?_)
  refine OkF.eq 1 (Y := fun f => if oc S x0 4 = true then (rk px kx f (d + 0) 46 0 [some (.ref x0), some (.int (S.2.1 a1 x1.toNatClampNeg))] [] S).bind (fun q => rk px kx f (d + 1) 57 10 [some (.ref x0), some (.int x1), some (.int x2)] (q.1.toList ++ []) q.2) else none) (fun f => rfl) ?_
  refine OkF.grd (fun _ => ?_)
  refine OkF.bind (w1 := wR) (om46 (d + 0) x0 (S.2.1 a1 x1.toNatClampNeg) S) (fun q2 => ?_)
  refine OkF.eq 2 (Y := fun f => vcl px (rk px kx f) (d + 1) 57 14 [some (.ref x0), some (.int x1), some (.int x2)] [] q2.2 q2.1 [.int x2] [6, 60, 5, 59, 0, 60, 1, 58, 9, 60, 2, 59]) (fun f => rfl) ?_
  refine OkF.vir rfl (ov_opensIn (d + 0) q2.1 x2 q2.2) (fun q3 => ?_)
  exact OkF.ret 1 (fun f => rfl)
-- DoorSold$Kind.hours()I
def m65 (x0 : Nat) (S : Sx) : Option (Int32 × Sx) :=
  some ((1 : Int32), S)
set_option maxRecDepth 100000 in
theorem om65 (d : Nat) (x0 : Nat) (S : Sx) : OkF wI (fun f => rk px kx f (d + 0) 65 0 [some (.ref x0)] [] S) (m65 x0 S) := by
  unfold m65
  exact OkF.ret 2 (fun f => rfl)
-- DoorSold$Dutch.hours()I
def m63 (x0 : Nat) (S : Sx) : Option (Int32 × Sx) :=
  some ((2 : Int32), S)
set_option maxRecDepth 100000 in
theorem om63 (d : Nat) (x0 : Nat) (S : Sx) : OkF wI (fun f => rk px kx f (d + 0) 63 0 [some (.ref x0)] [] S) (m63 x0 S) := by
  unfold m63
  exact OkF.ret 2 (fun f => rfl)
-- DoorSold$Study.hours()I
def m64 (x0 : Nat) (S : Sx) : Option (Int32 × Sx) :=
  if oc S x0 9 = true then (m65 x0 S).bind fun q1 => some (q1.1 + (2 : Int32), q1.2) else none
set_option maxRecDepth 100000 in
theorem om64 (d : Nat) (x0 : Nat) (S : Sx) : OkF wI (fun f => rk px kx f (d + 1) 64 0 [some (.ref x0)] [] S) (m64 x0 S) := by
  unfold m64
  refine OkF.eq 2 (Y := fun f => if oc S x0 9 = true then (rk px kx f (d + 0) 65 0 [some (.ref x0)] [] S).bind (fun q => rk px kx f (d + 1) 64 4 [some (.ref x0)] (q.1.toList ++ []) q.2) else none) (fun f => rfl) ?_
  refine OkF.grd (fun _ => ?_)
  refine OkF.bind (w1 := wI) (om65 (d + 0) x0 S) (fun q1 => ?_)
  exact OkF.ret 3 (fun f => rfl)
-- DoorSold$Cart.hours()I
def m62 (x0 : Nat) (S : Sx) : Option (Int32 × Sx) :=
  if oc S x0 2 = true then (m63 x0 S).bind fun q1 => some (q1.1 - (1 : Int32), q1.2) else none
set_option maxRecDepth 100000 in
theorem om62 (d : Nat) (x0 : Nat) (S : Sx) : OkF wI (fun f => rk px kx f (d + 1) 62 0 [some (.ref x0)] [] S) (m62 x0 S) := by
  unfold m62
  refine OkF.eq 2 (Y := fun f => if oc S x0 2 = true then (rk px kx f (d + 0) 63 0 [some (.ref x0)] [] S).bind (fun q => rk px kx f (d + 1) 62 4 [some (.ref x0)] (q.1.toList ++ []) q.2) else none) (fun f => rfl) ?_
  refine OkF.grd (fun _ => ?_)
  refine OkF.bind (w1 := wI) (om63 (d + 0) x0 S) (fun q1 => ?_)
  exact OkF.ret 3 (fun f => rfl)
def vd_hours (v : Nat) (S : Sx) : Option (Int32 × Sx) :=
  if oc S v 6 = true then m65 v S else if oc S v 5 = true then m63 v S else if oc S v 0 = true then m65 v S else if oc S v 1 = true then m65 v S else if oc S v 9 = true then m64 v S else if oc S v 2 = true then m62 v S else none
set_option maxRecDepth 100000 in
theorem ov_hours (d : Nat) (v : Nat) (S : Sx) : OkF wI (fun f => vsl px (rk px kx f) (d + 1) S v [] [6, 65, 5, 63, 0, 65, 1, 65, 9, 64, 2, 62]) (vd_hours v S) := by
  unfold vd_hours
  refine OkF.eq 0 (Y := fun f => if oc S v 6 = true then rk px kx f (d + 1) 65 0 [some (.ref v)] [] S else if oc S v 5 = true then rk px kx f (d + 1) 63 0 [some (.ref v)] [] S else if oc S v 0 = true then rk px kx f (d + 1) 65 0 [some (.ref v)] [] S else if oc S v 1 = true then rk px kx f (d + 1) 65 0 [some (.ref v)] [] S else if oc S v 9 = true then rk px kx f (d + 1) 64 0 [some (.ref v)] [] S else if oc S v 2 = true then rk px kx f (d + 1) 62 0 [some (.ref v)] [] S else none) (fun f => rfl) ?_
  refine OkF.ite (fun _ => om65 (d + 1) v S) (fun _ => ?_)
  refine OkF.ite (fun _ => om63 (d + 1) v S) (fun _ => ?_)
  refine OkF.ite (fun _ => om65 (d + 1) v S) (fun _ => ?_)
  refine OkF.ite (fun _ => om65 (d + 1) v S) (fun _ => ?_)
  refine OkF.ite (fun _ => om64 (d + 0) v S) (fun _ => ?_)
  refine OkF.ite (fun _ => om62 (d + 0) v S) (fun _ => ?_)
  exact OkF.no
-- DoorSold$Country.hoursOf(I)I
def m61 (x0 : Nat) (x1 : Int32) (S : Sx) : Option (Int32 × Sx) :=
  if oc S x0 4 = true then (S.2.2.2.1 x0 1).bind fun a1 => if inb x1 (al S a1) = true then if oc S x0 4 = true then (m46 x0 (S.2.1 a1 x1.toNatClampNeg) S).bind fun q2 => (vd_hours q2.1 q2.2).bind fun q3 => some (q3.1, q3.2) else none else none else none
set_option maxRecDepth 100000 in
theorem om61 (d : Nat) (x0 : Nat) (x1 : Int32) (S : Sx) : OkF wI (fun f => rk px kx f (d + 2) 61 0 [some (.ref x0), some (.int x1)] [] S) (m61 x0 x1 S) := by
  unfold m61
  refine OkF.eq 3 (Y := fun f => if oc S x0 4 = true then rk px kx f (d + 2) 61 5 [some (.ref x0), some (.int x1)] (va_rf (S.2.2.2.1 x0 1) :: [.ref x0]) S else none) (fun f => rfl) ?_
  refine OkF.grd (fun _ => ?_)
  refine OkF.rf (fun a1 => ?_)
  refine OkF.eq 2 (Y := fun f => if inb x1 (al S a1) = true then rk px kx f (d + 2) 61 7 [some (.ref x0), some (.int x1)] [.int (S.2.1 a1 x1.toNatClampNeg), .ref x0] S else none) (fun f => rfl) ?_
  refine OkF.grd (fun _ => ?_)
  refine OkF.eq 1 (Y := fun f => if oc S x0 4 = true then (rk px kx f (d + 1) 46 0 [some (.ref x0), some (.int (S.2.1 a1 x1.toNatClampNeg))] [] S).bind (fun q => rk px kx f (d + 2) 61 10 [some (.ref x0), some (.int x1)] (q.1.toList ++ []) q.2) else none) (fun f => rfl) ?_
  refine OkF.grd (fun _ => ?_)
  refine OkF.bind (w1 := wR) (om46 (d + 1) x0 (S.2.1 a1 x1.toNatClampNeg) S) (fun q2 => ?_)
  refine OkF.eq 1 (Y := fun f => vcl px (rk px kx f) (d + 2) 61 13 [some (.ref x0), some (.int x1)] [] q2.2 q2.1 [] [6, 65, 5, 63, 0, 65, 1, 65, 9, 64, 2, 62]) (fun f => rfl) ?_
  refine OkF.vir rfl (ov_hours (d + 0) q2.1 q2.2) (fun q3 => ?_)
  exact OkF.ret 1 (fun f => rfl)
-- DoorSold$Country.owns(I)Z
def m66 (x0 : Nat) (x1 : Int32) (S : Sx) : Option (Int32 × Sx) :=
  if oc S x0 4 = true then if (((S.2.1 x0 14) >>> (x1 &&& 31)) &&& (1 : Int32)) = (1 : Int32) then some ((1 : Int32), S) else some ((0 : Int32), S) else none
set_option maxRecDepth 100000 in
theorem om66 (d : Nat) (x0 : Nat) (x1 : Int32) (S : Sx) : OkF wI (fun f => rk px kx f (d + 0) 66 0 [some (.ref x0), some (.int x1)] [] S) (m66 x0 x1 S) := by
  unfold m66
  refine OkF.eq 2 (Y := fun f => if oc S x0 4 = true then rk px kx f (d + 0) 66 4 [some (.ref x0), some (.int x1)] [.int (S.2.1 x0 14)] S else none) (fun f => rfl) ?_
  refine OkF.grd (fun _ => ?_)
  refine OkF.eq 6 (Y := fun f => if (((S.2.1 x0 14) >>> (x1 &&& 31)) &&& (1 : Int32)) = (1 : Int32) then rk px kx f (d + 0) 66 12 [some (.ref x0), some (.int x1)] [] S else rk px kx f (d + 0) 66 16 [some (.ref x0), some (.int x1)] [] S) (fun f => rfl) ?_
  refine OkF.ite (fun _ => ?_) (fun _ => ?_)
  · exact OkF.ret 3 (fun f => rfl)
  · exact OkF.ret 2 (fun f => rfl)
-- DoorSold.factOf(II)I
def m44 (x0 : Nat) (x1 : Int32) (x2 : Int32) (S : Sx) : Option (Int32 × Sx) :=
  if x2 = (0 : Int32) then (if oc S x0 11 = true then (S.2.2.2.1 x0 3).bind fun a1 => if oc S a1 4 = true then (S.2.2.2.1 a1 1).bind fun a2 => if inb x1 (al S a2) = true then some (S.2.1 a2 x1.toNatClampNeg, S) else none else none else none) else if x2 = (1 : Int32) then (if oc S x0 11 = true then (S.2.2.2.1 x0 3).bind fun a3 => if oc S a3 4 = true then (S.2.2.2.1 a3 3).bind fun a4 => if inb x1 (al S a4) = true then some (S.2.1 a4 x1.toNatClampNeg, S) else none else none else none) else if x2 = (2 : Int32) then (if oc S x0 11 = true then (S.2.2.2.1 x0 3).bind fun a5 => if oc S a5 4 = true then (S.2.2.2.1 a5 4).bind fun a6 => if inb x1 (al S a6) = true then some (S.2.1 a6 x1.toNatClampNeg, S) else none else none else none) else if x2 = (3 : Int32) then (if oc S x0 11 = true then (S.2.2.2.1 x0 3).bind fun a7 => if oc S a7 4 = true then (m45 a7 x1 S).bind fun q8 => some (q8.1, q8.2) else none else none) else if x2 = (4 : Int32) then (if oc S x0 11 = true then (S.2.2.2.1 x0 3).bind fun a9 => if oc S x0 11 = true then (S.2.2.2.1 x0 3).bind fun a10 => if oc S a10 4 = true then if oc S a9 4 = true then (m51 a9 x1 (S.2.1 a10 13) S).bind fun q11 => some (q11.1, q11.2) else none else none else none else none) else if x2 = (5 : Int32) then (if oc S x0 11 = true then (S.2.2.2.1 x0 3).bind fun a12 => if oc S x0 11 = true then (S.2.2.2.1 x0 3).bind fun a13 => if oc S a13 4 = true then if oc S a12 4 = true then (m57 a12 x1 (S.2.1 a13 13) S).bind fun q14 => if q14.1 = 0 then some ((0 : Int32), q14.2) else some ((1 : Int32), q14.2) else none else none else none else none) else if x2 = (6 : Int32) then (if oc S x0 11 = true then (S.2.2.2.1 x0 3).bind fun a15 => if oc S a15 4 = true then (m61 a15 x1 S).bind fun q16 => some (q16.1, q16.2) else none else none) else if oc S x0 11 = true then (S.2.2.2.1 x0 3).bind fun a17 => if oc S a17 4 = true then (m66 a17 x1 S).bind fun q18 => if q18.1 = 0 then some ((0 : Int32), q18.2) else some ((1 : Int32), q18.2) else none else none
set_option maxRecDepth 100000 in
theorem om44 (d : Nat) (x0 : Nat) (x1 : Int32) (x2 : Int32) (S : Sx) : OkF wI (fun f => rk px kx f (d + 3) 44 0 [some (.ref x0), some (.int x1), some (.int x2)] [] S) (m44 x0 x1 x2 S) := by
  unfold m44
  refine OkF.eq 2 (Y := fun f => if x2 = (0 : Int32) then rk px kx f (d + 3) 44 44 [some (.ref x0), some (.int x1), some (.int x2)] [] S else if x2 = (1 : Int32) then rk px kx f (d + 3) 44 54 [some (.ref x0), some (.int x1), some (.int x2)] [] S else if x2 = (2 : Int32) then rk px kx f (d + 3) 44 64 [some (.ref x0), some (.int x1), some (.int x2)] [] S else if x2 = (3 : Int32) then rk px kx f (d + 3) 44 74 [some (.ref x0), some (.int x1), some (.int x2)] [] S else if x2 = (4 : Int32) then rk px kx f (d + 3) 44 83 [some (.ref x0), some (.int x1), some (.int x2)] [] S else if x2 = (5 : Int32) then rk px kx f (d + 3) 44 99 [some (.ref x0), some (.int x1), some (.int x2)] [] S else if x2 = (6 : Int32) then rk px kx f (d + 3) 44 123 [some (.ref x0), some (.int x1), some (.int x2)] [] S else rk px kx f (d + 3) 44 132 [some (.ref x0), some (.int x1), some (.int x2)] [] S) (fun f => rfl) ?_
  refine OkF.ite (fun _ => ?_) (fun _ => ?_)
  · refine OkF.eq 2 (Y := fun f => if oc S x0 11 = true then rk px kx f (d + 3) 44 48 [some (.ref x0), some (.int x1), some (.int x2)] (va_rf (S.2.2.2.1 x0 3) :: []) S else none) (fun f => rfl) ?_
    refine OkF.grd (fun _ => ?_)
    refine OkF.rf (fun a1 => ?_)
    refine OkF.eq 1 (Y := fun f => if oc S a1 4 = true then rk px kx f (d + 3) 44 51 [some (.ref x0), some (.int x1), some (.int x2)] (va_rf (S.2.2.2.1 a1 1) :: []) S else none) (fun f => rfl) ?_
    refine OkF.grd (fun _ => ?_)
    refine OkF.rf (fun a2 => ?_)
    refine OkF.eq 2 (Y := fun f => if inb x1 (al S a2) = true then rk px kx f (d + 3) 44 53 [some (.ref x0), some (.int x1), some (.int x2)] [.int (S.2.1 a2 x1.toNatClampNeg)] S else none) (fun f => rfl) ?_
    refine OkF.grd (fun _ => ?_)
    exact OkF.ret 1 (fun f => rfl)
  refine OkF.ite (fun _ => ?_) (fun _ => ?_)
  · refine OkF.eq 2 (Y := fun f => if oc S x0 11 = true then rk px kx f (d + 3) 44 58 [some (.ref x0), some (.int x1), some (.int x2)] (va_rf (S.2.2.2.1 x0 3) :: []) S else none) (fun f => rfl) ?_
    refine OkF.grd (fun _ => ?_)
    refine OkF.rf (fun a3 => ?_)
    refine OkF.eq 1 (Y := fun f => if oc S a3 4 = true then rk px kx f (d + 3) 44 61 [some (.ref x0), some (.int x1), some (.int x2)] (va_rf (S.2.2.2.1 a3 3) :: []) S else none) (fun f => rfl) ?_
    refine OkF.grd (fun _ => ?_)
    refine OkF.rf (fun a4 => ?_)
    refine OkF.eq 2 (Y := fun f => if inb x1 (al S a4) = true then rk px kx f (d + 3) 44 63 [some (.ref x0), some (.int x1), some (.int x2)] [.int (S.2.1 a4 x1.toNatClampNeg)] S else none) (fun f => rfl) ?_
    refine OkF.grd (fun _ => ?_)
    exact OkF.ret 1 (fun f => rfl)
  refine OkF.ite (fun _ => ?_) (fun _ => ?_)
  · refine OkF.eq 2 (Y := fun f => if oc S x0 11 = true then rk px kx f (d + 3) 44 68 [some (.ref x0), some (.int x1), some (.int x2)] (va_rf (S.2.2.2.1 x0 3) :: []) S else none) (fun f => rfl) ?_
    refine OkF.grd (fun _ => ?_)
    refine OkF.rf (fun a5 => ?_)
    refine OkF.eq 1 (Y := fun f => if oc S a5 4 = true then rk px kx f (d + 3) 44 71 [some (.ref x0), some (.int x1), some (.int x2)] (va_rf (S.2.2.2.1 a5 4) :: []) S else none) (fun f => rfl) ?_
    refine OkF.grd (fun _ => ?_)
    refine OkF.rf (fun a6 => ?_)
    refine OkF.eq 2 (Y := fun f => if inb x1 (al S a6) = true then rk px kx f (d + 3) 44 73 [some (.ref x0), some (.int x1), some (.int x2)] [.int (S.2.1 a6 x1.toNatClampNeg)] S else none) (fun f => rfl) ?_
    refine OkF.grd (fun _ => ?_)
    exact OkF.ret 1 (fun f => rfl)
  refine OkF.ite (fun _ => ?_) (fun _ => ?_)
  · refine OkF.eq 2 (Y := fun f => if oc S x0 11 = true then rk px kx f (d + 3) 44 78 [some (.ref x0), some (.int x1), some (.int x2)] (va_rf (S.2.2.2.1 x0 3) :: []) S else none) (fun f => rfl) ?_
    refine OkF.grd (fun _ => ?_)
    refine OkF.rf (fun a7 => ?_)
    refine OkF.eq 2 (Y := fun f => if oc S a7 4 = true then (rk px kx f (d + 2) 45 0 [some (.ref a7), some (.int x1)] [] S).bind (fun q => rk px kx f (d + 3) 44 82 [some (.ref x0), some (.int x1), some (.int x2)] (q.1.toList ++ []) q.2) else none) (fun f => rfl) ?_
    refine OkF.grd (fun _ => ?_)
    refine OkF.bind (w1 := wI) (om45 (d + 0) a7 x1 S) (fun q8 => ?_)
    exact OkF.ret 1 (fun f => rfl)
  refine OkF.ite (fun _ => ?_) (fun _ => ?_)
  · refine OkF.eq 2 (Y := fun f => if oc S x0 11 = true then rk px kx f (d + 3) 44 87 [some (.ref x0), some (.int x1), some (.int x2)] (va_rf (S.2.2.2.1 x0 3) :: []) S else none) (fun f => rfl) ?_
    refine OkF.grd (fun _ => ?_)
    refine OkF.rf (fun a9 => ?_)
    refine OkF.eq 3 (Y := fun f => if oc S x0 11 = true then rk px kx f (d + 3) 44 92 [some (.ref x0), some (.int x1), some (.int x2)] (va_rf (S.2.2.2.1 x0 3) :: [.int x1, .ref a9]) S else none) (fun f => rfl) ?_
    refine OkF.grd (fun _ => ?_)
    refine OkF.rf (fun a10 => ?_)
    refine OkF.eq 1 (Y := fun f => if oc S a10 4 = true then rk px kx f (d + 3) 44 95 [some (.ref x0), some (.int x1), some (.int x2)] [.int (S.2.1 a10 13), .int x1, .ref a9] S else none) (fun f => rfl) ?_
    refine OkF.grd (fun _ => ?_)
    refine OkF.eq 1 (Y := fun f => if oc S a9 4 = true then (rk px kx f (d + 2) 51 0 [some (.ref a9), some (.int x1), some (.int (S.2.1 a10 13))] [] S).bind (fun q => rk px kx f (d + 3) 44 98 [some (.ref x0), some (.int x1), some (.int x2)] (q.1.toList ++ []) q.2) else none) (fun f => rfl) ?_
    refine OkF.grd (fun _ => ?_)
    refine OkF.bind (w1 := wI) (om51 (d + 0) a9 x1 (S.2.1 a10 13) S) (fun q11 => ?_)
    exact OkF.ret 1 (fun f => rfl)
  refine OkF.ite (fun _ => ?_) (fun _ => ?_)
  · refine OkF.eq 2 (Y := fun f => if oc S x0 11 = true then rk px kx f (d + 3) 44 103 [some (.ref x0), some (.int x1), some (.int x2)] (va_rf (S.2.2.2.1 x0 3) :: []) S else none) (fun f => rfl) ?_
    refine OkF.grd (fun _ => ?_)
    refine OkF.rf (fun a12 => ?_)
    refine OkF.eq 3 (Y := fun f => if oc S x0 11 = true then rk px kx f (d + 3) 44 108 [some (.ref x0), some (.int x1), some (.int x2)] (va_rf (S.2.2.2.1 x0 3) :: [.int x1, .ref a12]) S else none) (fun f => rfl) ?_
    refine OkF.grd (fun _ => ?_)
    refine OkF.rf (fun a13 => ?_)
    refine OkF.eq 1 (Y := fun f => if oc S a13 4 = true then rk px kx f (d + 3) 44 111 [some (.ref x0), some (.int x1), some (.int x2)] [.int (S.2.1 a13 13), .int x1, .ref a12] S else none) (fun f => rfl) ?_
    refine OkF.grd (fun _ => ?_)
    refine OkF.eq 1 (Y := fun f => if oc S a12 4 = true then (rk px kx f (d + 2) 57 0 [some (.ref a12), some (.int x1), some (.int (S.2.1 a13 13))] [] S).bind (fun q => rk px kx f (d + 3) 44 114 [some (.ref x0), some (.int x1), some (.int x2)] (q.1.toList ++ []) q.2) else none) (fun f => rfl) ?_
    refine OkF.grd (fun _ => ?_)
    refine OkF.bind (w1 := wI) (om57 (d + 1) a12 x1 (S.2.1 a13 13) S) (fun q14 => ?_)
    refine OkF.eq 1 (Y := fun f => if q14.1 = 0 then rk px kx f (d + 3) 44 121 [some (.ref x0), some (.int x1), some (.int x2)] [] q14.2 else rk px kx f (d + 3) 44 117 [some (.ref x0), some (.int x1), some (.int x2)] [] q14.2) (fun f => rfl) ?_
    refine OkF.ite (fun _ => ?_) (fun _ => ?_)
    · exact OkF.ret 2 (fun f => rfl)
    · exact OkF.ret 3 (fun f => rfl)
  refine OkF.ite (fun _ => ?_) (fun _ => ?_)
  · refine OkF.eq 2 (Y := fun f => if oc S x0 11 = true then rk px kx f (d + 3) 44 127 [some (.ref x0), some (.int x1), some (.int x2)] (va_rf (S.2.2.2.1 x0 3) :: []) S else none) (fun f => rfl) ?_
    refine OkF.grd (fun _ => ?_)
    refine OkF.rf (fun a15 => ?_)
    refine OkF.eq 2 (Y := fun f => if oc S a15 4 = true then (rk px kx f (d + 2) 61 0 [some (.ref a15), some (.int x1)] [] S).bind (fun q => rk px kx f (d + 3) 44 131 [some (.ref x0), some (.int x1), some (.int x2)] (q.1.toList ++ []) q.2) else none) (fun f => rfl) ?_
    refine OkF.grd (fun _ => ?_)
    refine OkF.bind (w1 := wI) (om61 (d + 0) a15 x1 S) (fun q16 => ?_)
    exact OkF.ret 1 (fun f => rfl)
  refine OkF.eq 2 (Y := fun f => if oc S x0 11 = true then rk px kx f (d + 3) 44 136 [some (.ref x0), some (.int x1), some (.int x2)] (va_rf (S.2.2.2.1 x0 3) :: []) S else none) (fun f => rfl) ?_
  refine OkF.grd (fun _ => ?_)
  refine OkF.rf (fun a17 => ?_)
  refine OkF.eq 2 (Y := fun f => if oc S a17 4 = true then (rk px kx f (d + 2) 66 0 [some (.ref a17), some (.int x1)] [] S).bind (fun q => rk px kx f (d + 3) 44 140 [some (.ref x0), some (.int x1), some (.int x2)] (q.1.toList ++ []) q.2) else none) (fun f => rfl) ?_
  refine OkF.grd (fun _ => ?_)
  refine OkF.bind (w1 := wI) (om66 (d + 2) a17 x1 S) (fun q18 => ?_)
  refine OkF.eq 1 (Y := fun f => if q18.1 = 0 then rk px kx f (d + 3) 44 147 [some (.ref x0), some (.int x1), some (.int x2)] [] q18.2 else rk px kx f (d + 3) 44 143 [some (.ref x0), some (.int x1), some (.int x2)] [] q18.2) (fun f => rfl) ?_
  refine OkF.ite (fun _ => ?_) (fun _ => ?_)
  · exact OkF.ret 2 (fun f => rfl)
  · exact OkF.ret 3 (fun f => rfl)
-- DoorSold.door(II)I
def m42 (x0 : Nat) (x1 : Int32) (x2 : Int32) (S : Sx) : Option (Int32 × Sx) :=
  if oc S x0 11 = true then (m43 x0 x1 S).bind fun q1 => if q1.1 = 0 then if x2 < 0 then some ((-1 : Int32), q1.2) else if x2 < (8 : Int32) then if oc q1.2 x0 11 = true then (m44 x0 x1 x2 q1.2).bind fun q2 => if oc q2.2 x0 11 = true then lt (sI q2.2 x0 12 q2.1) fun S3 => some ((1 : Int32), S3) else none else none else some ((-1 : Int32), q1.2) else some ((-1 : Int32), q1.2) else none
set_option maxRecDepth 100000 in
theorem om42 (d : Nat) (x0 : Nat) (x1 : Int32) (x2 : Int32) (S : Sx) : OkF wI (fun f => rk px kx f (d + 4) 42 0 [some (.ref x0), some (.int x1), some (.int x2)] [] S) (m42 x0 x1 x2 S) := by
  unfold m42
  refine OkF.eq 3 (Y := fun f => if oc S x0 11 = true then (rk px kx f (d + 3) 43 0 [some (.ref x0), some (.int x1)] [] S).bind (fun q => rk px kx f (d + 4) 42 5 [some (.ref x0), some (.int x1), some (.int x2)] (q.1.toList ++ []) q.2) else none) (fun f => rfl) ?_
  refine OkF.grd (fun _ => ?_)
  refine OkF.bind (w1 := wI) (om43 (d + 3) x0 x1 S) (fun q1 => ?_)
  refine OkF.eq 1 (Y := fun f => if q1.1 = 0 then rk px kx f (d + 4) 42 8 [some (.ref x0), some (.int x1), some (.int x2)] [] q1.2 else rk px kx f (d + 4) 42 18 [some (.ref x0), some (.int x1), some (.int x2)] [] q1.2) (fun f => rfl) ?_
  refine OkF.ite (fun _ => ?_) (fun _ => ?_)
  · refine OkF.eq 2 (Y := fun f => if x2 < 0 then rk px kx f (d + 4) 42 18 [some (.ref x0), some (.int x1), some (.int x2)] [] q1.2 else rk px kx f (d + 4) 42 12 [some (.ref x0), some (.int x1), some (.int x2)] [] q1.2) (fun f => rfl) ?_
    refine OkF.ite (fun _ => ?_) (fun _ => ?_)
    · exact OkF.ret 2 (fun f => rfl)
    · refine OkF.eq 3 (Y := fun f => if x2 < (8 : Int32) then rk px kx f (d + 4) 42 20 [some (.ref x0), some (.int x1), some (.int x2)] [] q1.2 else rk px kx f (d + 4) 42 18 [some (.ref x0), some (.int x1), some (.int x2)] [] q1.2) (fun f => rfl) ?_
      refine OkF.ite (fun _ => ?_) (fun _ => ?_)
      · refine OkF.eq 5 (Y := fun f => if oc q1.2 x0 11 = true then (rk px kx f (d + 3) 44 0 [some (.ref x0), some (.int x1), some (.int x2)] [] q1.2).bind (fun q => rk px kx f (d + 4) 42 27 [some (.ref x0), some (.int x1), some (.int x2)] (q.1.toList ++ [.ref x0]) q.2) else none) (fun f => rfl) ?_
        refine OkF.grd (fun _ => ?_)
        refine OkF.bind (w1 := wI) (om44 (d + 0) x0 x1 x2 q1.2) (fun q2 => ?_)
        refine OkF.eq 1 (Y := fun f => if oc q2.2 x0 11 = true then rk px kx f (d + 4) 42 30 [some (.ref x0), some (.int x1), some (.int x2)] [] (sI q2.2 x0 12 q2.1) else none) (fun f => rfl) ?_
        refine OkF.grd (fun _ => ?_)
        refine OkF.nm (fun S3 => ?_)
        exact OkF.ret 2 (fun f => rfl)
      · exact OkF.ret 2 (fun f => rfl)
  · exact OkF.ret 2 (fun f => rfl)
-- DoorSold$Country.isOf(II)Z
def m68 (x0 : Nat) (x1 : Int32) (x2 : Int32) (S : Sx) : Option (Int32 × Sx) :=
  if oc S x0 4 = true then (S.2.2.2.1 x0 1).bind fun a1 => if inb x1 (al S a1) = true then if oc S x0 4 = true then (m46 x0 (S.2.1 a1 x1.toNatClampNeg) S).bind fun q2 => if x2 = (1 : Int32) then (if (iob q2.2 q2.1 && ([5, 2, 6, 0, 1, 9] : List Nat).elem (shp q2.1).2) = true then some ((iot q2.1 [5, 2]) &&& 1, q2.2) else none) else if x2 = (2 : Int32) then (if (iob q2.2 q2.1 && ([0, 9, 6, 5, 1, 2] : List Nat).elem (shp q2.1).2) = true then some ((iot q2.1 [0, 9]) &&& 1, q2.2) else none) else if x2 = (3 : Int32) then (if (iob q2.2 q2.1 && ([1, 6, 5, 0, 9, 2] : List Nat).elem (shp q2.1).2) = true then some ((iot q2.1 [1]) &&& 1, q2.2) else none) else if x2 = (4 : Int32) then (if (iob q2.2 q2.1 && ([9, 6, 5, 0, 1, 2] : List Nat).elem (shp q2.1).2) = true then some ((iot q2.1 [9]) &&& 1, q2.2) else none) else if x2 = (5 : Int32) then (if (iob q2.2 q2.1 && ([2, 6, 5, 0, 1, 9] : List Nat).elem (shp q2.1).2) = true then some ((iot q2.1 [2]) &&& 1, q2.2) else none) else some ((1 : Int32), q2.2) else none else none else none
set_option maxRecDepth 100000 in
theorem om68 (d : Nat) (x0 : Nat) (x1 : Int32) (x2 : Int32) (S : Sx) : OkF wI (fun f => rk px kx f (d + 1) 68 0 [some (.ref x0), some (.int x1), some (.int x2), none] [] S) (m68 x0 x1 x2 S) := by
  unfold m68
  refine OkF.eq 3 (Y := fun f => if oc S x0 4 = true then rk px kx f (d + 1) 68 5 [some (.ref x0), some (.int x1), some (.int x2), none] (va_rf (S.2.2.2.1 x0 1) :: [.ref x0]) S else none) (fun f => rfl) ?_
  refine OkF.grd (fun _ => ?_)
  refine OkF.rf (fun a1 => ?_)
  refine OkF.eq 2 (Y := fun f => if inb x1 (al S a1) = true then rk px kx f (d + 1) 68 7 [some (.ref x0), some (.int x1), some (.int x2), none] [.int (S.2.1 a1 x1.toNatClampNeg), .ref x0] S else none) (fun f => rfl) ?_
  refine OkF.grd (fun _ => ?_)
  refine OkF.eq 1 (Y := fun f => if oc S x0 4 = true then (rk px kx f (d + 0) 46 0 [some (.ref x0), some (.int (S.2.1 a1 x1.toNatClampNeg))] [] S).bind (fun q => rk px kx f (d + 1) 68 10 [some (.ref x0), some (.int x1), some (.int x2), none] (q.1.toList ++ []) q.2) else none) (fun f => rfl) ?_
  refine OkF.grd (fun _ => ?_)
  refine OkF.bind (w1 := wR) (om46 (d + 0) x0 (S.2.1 a1 x1.toNatClampNeg) S) (fun q2 => ?_)
  refine OkF.eq 3 (Y := fun f => if x2 = (1 : Int32) then rk px kx f (d + 1) 68 48 [some (.ref x0), some (.int x1), some (.int x2), some (.ref q2.1)] [] q2.2 else if x2 = (2 : Int32) then rk px kx f (d + 1) 68 53 [some (.ref x0), some (.int x1), some (.int x2), some (.ref q2.1)] [] q2.2 else if x2 = (3 : Int32) then rk px kx f (d + 1) 68 58 [some (.ref x0), some (.int x1), some (.int x2), some (.ref q2.1)] [] q2.2 else if x2 = (4 : Int32) then rk px kx f (d + 1) 68 63 [some (.ref x0), some (.int x1), some (.int x2), some (.ref q2.1)] [] q2.2 else if x2 = (5 : Int32) then rk px kx f (d + 1) 68 68 [some (.ref x0), some (.int x1), some (.int x2), some (.ref q2.1)] [] q2.2 else rk px kx f (d + 1) 68 73 [some (.ref x0), some (.int x1), some (.int x2), some (.ref q2.1)] [] q2.2) (fun f => rfl) ?_
  refine OkF.ite (fun _ => ?_) (fun _ => ?_)
  · refine OkF.eq 2 (Y := fun f => if (iob q2.2 q2.1 && ([5, 2, 6, 0, 1, 9] : List Nat).elem (shp q2.1).2) = true then rk px kx f (d + 1) 68 52 [some (.ref x0), some (.int x1), some (.int x2), some (.ref q2.1)] [.int (iot q2.1 [5, 2])] q2.2 else none) (fun f => rfl) ?_
    refine OkF.grd (fun _ => ?_)
    exact OkF.ret 1 (fun f => rfl)
  refine OkF.ite (fun _ => ?_) (fun _ => ?_)
  · refine OkF.eq 2 (Y := fun f => if (iob q2.2 q2.1 && ([0, 9, 6, 5, 1, 2] : List Nat).elem (shp q2.1).2) = true then rk px kx f (d + 1) 68 57 [some (.ref x0), some (.int x1), some (.int x2), some (.ref q2.1)] [.int (iot q2.1 [0, 9])] q2.2 else none) (fun f => rfl) ?_
    refine OkF.grd (fun _ => ?_)
    exact OkF.ret 1 (fun f => rfl)
  refine OkF.ite (fun _ => ?_) (fun _ => ?_)
  · refine OkF.eq 2 (Y := fun f => if (iob q2.2 q2.1 && ([1, 6, 5, 0, 9, 2] : List Nat).elem (shp q2.1).2) = true then rk px kx f (d + 1) 68 62 [some (.ref x0), some (.int x1), some (.int x2), some (.ref q2.1)] [.int (iot q2.1 [1])] q2.2 else none) (fun f => rfl) ?_
    refine OkF.grd (fun _ => ?_)
    exact OkF.ret 1 (fun f => rfl)
  refine OkF.ite (fun _ => ?_) (fun _ => ?_)
  · refine OkF.eq 2 (Y := fun f => if (iob q2.2 q2.1 && ([9, 6, 5, 0, 1, 2] : List Nat).elem (shp q2.1).2) = true then rk px kx f (d + 1) 68 67 [some (.ref x0), some (.int x1), some (.int x2), some (.ref q2.1)] [.int (iot q2.1 [9])] q2.2 else none) (fun f => rfl) ?_
    refine OkF.grd (fun _ => ?_)
    exact OkF.ret 1 (fun f => rfl)
  refine OkF.ite (fun _ => ?_) (fun _ => ?_)
  · refine OkF.eq 2 (Y := fun f => if (iob q2.2 q2.1 && ([2, 6, 5, 0, 1, 9] : List Nat).elem (shp q2.1).2) = true then rk px kx f (d + 1) 68 72 [some (.ref x0), some (.int x1), some (.int x2), some (.ref q2.1)] [.int (iot q2.1 [2])] q2.2 else none) (fun f => rfl) ?_
    refine OkF.grd (fun _ => ?_)
    exact OkF.ret 1 (fun f => rfl)
  exact OkF.ret 2 (fun f => rfl)
-- DoorSold.otherOpenDoors(I)I
def b69_41 (k4 : Nat → Int32 → Int32 → Int32 → Sx → Option (Int32 × Sx)) (x0 : Nat) (x1 : Int32) (x2 : Int32) (x3 : Int32) (S : Sx) : Option (Int32 × Sx) :=
  k4 x0 x1 x2 (x3 + (1 : Int32)) S
set_option maxRecDepth 100000 in
theorem ob69_41 (d : Nat) (k4 : Nat → Int32 → Int32 → Int32 → Sx → Option (Int32 × Sx)) (hk4 : ∀ (x0 : Nat) (x1 : Int32) (x2 : Int32) (x3 : Int32) (S : Sx), OkF wI (fun f => rk px kx f (d + 2) 69 4 [some (.ref x0), some (.int x1), some (.int x2), some (.int x3)] [] S) (k4 x0 x1 x2 x3 S)) (x0 : Nat) (x1 : Int32) (x2 : Int32) (x3 : Int32) (S : Sx) : OkF wI (fun f => rk px kx f (d + 2) 69 41 [some (.ref x0), some (.int x1), some (.int x2), some (.int x3)] [] S) (b69_41 k4 x0 x1 x2 x3 S) := by
  unfold b69_41
  refine OkF.eq 2 (Y := fun f => rk px kx f (d + 2) 69 4 [some (.ref x0), some (.int x1), some (.int x2), some (.int (x3 + (1 : Int32)))] [] S) (fun f => rfl) ?_
  exact OkF.kl (ls1 := [some (.ref x0), some (.int x1), some (.int x2), some (.int (x3 + (1 : Int32)))]) (fun f => rfl) (hk4 x0 x1 x2 (x3 + (1 : Int32)) S)
def b69_4 (k4 : Nat → Int32 → Int32 → Int32 → Sx → Option (Int32 × Sx)) (x0 : Nat) (x1 : Int32) (x2 : Int32) (x3 : Int32) (S : Sx) : Option (Int32 × Sx) :=
  if oc S x0 11 = true then (S.2.2.2.1 x0 3).bind fun a1 => if oc S a1 4 = true then if (S.2.1 a1 9) ≤ x3 then some (x2, S) else if x3 = x1 then b69_41 k4 x0 x1 x2 x3 S else if oc S x0 11 = true then (S.2.2.2.1 x0 3).bind fun a2 => if oc S x0 11 = true then (S.2.2.2.1 x0 3).bind fun a3 => if oc S a3 4 = true then if oc S a2 4 = true then (m57 a2 x3 (S.2.1 a3 13) S).bind fun q4 => if q4.1 = 0 then b69_41 k4 x0 x1 x2 x3 q4.2 else b69_41 k4 x0 x1 (x2 + (1 : Int32)) x3 q4.2 else none else none else none else none else none else none
set_option maxRecDepth 100000 in
theorem ob69_4 (d : Nat) (k4 : Nat → Int32 → Int32 → Int32 → Sx → Option (Int32 × Sx)) (hk4 : ∀ (x0 : Nat) (x1 : Int32) (x2 : Int32) (x3 : Int32) (S : Sx), OkF wI (fun f => rk px kx f (d + 2) 69 4 [some (.ref x0), some (.int x1), some (.int x2), some (.int x3)] [] S) (k4 x0 x1 x2 x3 S)) (x0 : Nat) (x1 : Int32) (x2 : Int32) (x3 : Int32) (S : Sx) : OkF wI (fun f => rk px kx f (d + 2) 69 4 [some (.ref x0), some (.int x1), some (.int x2), some (.int x3)] [] S) (b69_4 k4 x0 x1 x2 x3 S) := by
  unfold b69_4
  refine OkF.eq 3 (Y := fun f => if oc S x0 11 = true then rk px kx f (d + 2) 69 9 [some (.ref x0), some (.int x1), some (.int x2), some (.int x3)] (va_rf (S.2.2.2.1 x0 3) :: [.int x3]) S else none) (fun f => rfl) ?_
  refine OkF.grd (fun _ => ?_)
  refine OkF.rf (fun a1 => ?_)
  refine OkF.eq 1 (Y := fun f => if oc S a1 4 = true then rk px kx f (d + 2) 69 12 [some (.ref x0), some (.int x1), some (.int x2), some (.int x3)] [.int (S.2.1 a1 9), .int x3] S else none) (fun f => rfl) ?_
  refine OkF.grd (fun _ => ?_)
  refine OkF.eq 1 (Y := fun f => if (S.2.1 a1 9) ≤ x3 then rk px kx f (d + 2) 69 47 [some (.ref x0), some (.int x1), some (.int x2), some (.int x3)] [] S else rk px kx f (d + 2) 69 15 [some (.ref x0), some (.int x1), some (.int x2), some (.int x3)] [] S) (fun f => rfl) ?_
  refine OkF.ite (fun _ => ?_) (fun _ => ?_)
  · exact OkF.ret 2 (fun f => rfl)
  · refine OkF.eq 3 (Y := fun f => if x3 = x1 then rk px kx f (d + 2) 69 41 [some (.ref x0), some (.int x1), some (.int x2), some (.int x3)] [] S else rk px kx f (d + 2) 69 20 [some (.ref x0), some (.int x1), some (.int x2), some (.int x3)] [] S) (fun f => rfl) ?_
    refine OkF.ite (fun _ => ?_) (fun _ => ?_)
    · exact OkF.kl (ls1 := [some (.ref x0), some (.int x1), some (.int x2), some (.int x3)]) (fun f => rfl) (ob69_41 d k4 hk4 x0 x1 x2 x3 S)
    · refine OkF.eq 2 (Y := fun f => if oc S x0 11 = true then rk px kx f (d + 2) 69 24 [some (.ref x0), some (.int x1), some (.int x2), some (.int x3)] (va_rf (S.2.2.2.1 x0 3) :: []) S else none) (fun f => rfl) ?_
      refine OkF.grd (fun _ => ?_)
      refine OkF.rf (fun a2 => ?_)
      refine OkF.eq 3 (Y := fun f => if oc S x0 11 = true then rk px kx f (d + 2) 69 29 [some (.ref x0), some (.int x1), some (.int x2), some (.int x3)] (va_rf (S.2.2.2.1 x0 3) :: [.int x3, .ref a2]) S else none) (fun f => rfl) ?_
      refine OkF.grd (fun _ => ?_)
      refine OkF.rf (fun a3 => ?_)
      refine OkF.eq 1 (Y := fun f => if oc S a3 4 = true then rk px kx f (d + 2) 69 32 [some (.ref x0), some (.int x1), some (.int x2), some (.int x3)] [.int (S.2.1 a3 13), .int x3, .ref a2] S else none) (fun f => rfl) ?_
      refine OkF.grd (fun _ => ?_)
      refine OkF.eq 1 (Y := fun f => if oc S a2 4 = true then (rk px kx f (d + 1) 57 0 [some (.ref a2), some (.int x3), some (.int (S.2.1 a3 13))] [] S).bind (fun q => rk px kx f (d + 2) 69 35 [some (.ref x0), some (.int x1), some (.int x2), some (.int x3)] (q.1.toList ++ []) q.2) else none) (fun f => rfl) ?_
      refine OkF.grd (fun _ => ?_)
      refine OkF.bind (w1 := wI) (om57 (d + 0) a2 x3 (S.2.1 a3 13) S) (fun q4 => ?_)
      refine OkF.eq 1 (Y := fun f => if q4.1 = 0 then rk px kx f (d + 2) 69 41 [some (.ref x0), some (.int x1), some (.int x2), some (.int x3)] [] q4.2 else rk px kx f (d + 2) 69 38 [some (.ref x0), some (.int x1), some (.int x2), some (.int x3)] [] q4.2) (fun f => rfl) ?_
      refine OkF.ite (fun _ => ?_) (fun _ => ?_)
      · exact OkF.kl (ls1 := [some (.ref x0), some (.int x1), some (.int x2), some (.int x3)]) (fun f => rfl) (ob69_41 d k4 hk4 x0 x1 x2 x3 q4.2)
      · refine OkF.eq 1 (Y := fun f => rk px kx f (d + 2) 69 41 [some (.ref x0), some (.int x1), some (.int (x2 + (1 : Int32))), some (.int x3)] [] q4.2) (fun f => rfl) ?_
        exact OkF.kl (ls1 := [some (.ref x0), some (.int x1), some (.int (x2 + (1 : Int32))), some (.int x3)]) (fun f => rfl) (ob69_41 d k4 hk4 x0 x1 (x2 + (1 : Int32)) x3 q4.2)
def l69_4 : Nat → Nat → Int32 → Int32 → Int32 → Sx → Option (Int32 × Sx)
  | 0 => fun _ _ _ _ _ => none
  | n + 1 => fun x0 x1 x2 x3 S => b69_4 (l69_4 n) x0 x1 x2 x3 S
set_option maxRecDepth 100000 in
theorem ol69_4 (d : Nat) : ∀ (n : Nat) (x0 : Nat) (x1 : Int32) (x2 : Int32) (x3 : Int32) (S : Sx), OkF wI (fun f => rk px kx f (d + 2) 69 4 [some (.ref x0), some (.int x1), some (.int x2), some (.int x3)] [] S) (l69_4 n x0 x1 x2 x3 S) := by
  intro n
  induction n with
  | zero => intro x0 x1 x2 x3 S; exact OkF.no
  | succ n ih => intro x0 x1 x2 x3 S; exact ob69_4 d (l69_4 n) ih x0 x1 x2 x3 S
def m69 (x0 : Nat) (x1 : Int32) (S : Sx) : Option (Int32 × Sx) :=
  l69_4 1000 x0 x1 (0 : Int32) (0 : Int32) S
set_option maxRecDepth 100000 in
theorem om69 (d : Nat) (x0 : Nat) (x1 : Int32) (S : Sx) : OkF wI (fun f => rk px kx f (d + 2) 69 0 [some (.ref x0), some (.int x1), none, none] [] S) (m69 x0 x1 S) := by
  unfold m69
  refine OkF.eq 4 (Y := fun f => rk px kx f (d + 2) 69 4 [some (.ref x0), some (.int x1), some (.int (0 : Int32)), some (.int (0 : Int32))] [] S) (fun f => rfl) ?_
  exact OkF.kl (ls1 := [some (.ref x0), some (.int x1), some (.int (0 : Int32)), some (.int (0 : Int32))]) (fun f => rfl) (ol69_4 d 1000 x0 x1 (0 : Int32) (0 : Int32) S)
-- DoorSold$Kind.exit(II)I
def m72 (x0 : Nat) (x1 : Int32) (x2 : Int32) (S : Sx) : Option (Int32 × Sx) :=
  some (x2, S)
set_option maxRecDepth 100000 in
theorem om72 (d : Nat) (x0 : Nat) (x1 : Int32) (x2 : Int32) (S : Sx) : OkF wI (fun f => rk px kx f (d + 0) 72 0 [some (.ref x0), some (.int x1), some (.int x2)] [] S) (m72 x0 x1 x2 S) := by
  unfold m72
  exact OkF.ret 2 (fun f => rfl)
-- DoorSold$Back.exit(II)I
def m71 (x0 : Nat) (x1 : Int32) (x2 : Int32) (S : Sx) : Option (Int32 × Sx) :=
  some (x1, S)
set_option maxRecDepth 100000 in
theorem om71 (d : Nat) (x0 : Nat) (x1 : Int32) (x2 : Int32) (S : Sx) : OkF wI (fun f => rk px kx f (d + 0) 71 0 [some (.ref x0), some (.int x1), some (.int x2)] [] S) (m71 x0 x1 x2 S) := by
  unfold m71
  exact OkF.ret 2 (fun f => rfl)
def vd_exit (v : Nat) (y0 : Int32) (y1 : Int32) (S : Sx) : Option (Int32 × Sx) :=
  if oc S v 6 = true then m72 v y0 y1 S else if oc S v 5 = true then m72 v y0 y1 S else if oc S v 0 = true then m71 v y0 y1 S else if oc S v 1 = true then m72 v y0 y1 S else if oc S v 9 = true then m71 v y0 y1 S else if oc S v 2 = true then m72 v y0 y1 S else none
set_option maxRecDepth 100000 in
theorem ov_exit (d : Nat) (v : Nat) (y0 : Int32) (y1 : Int32) (S : Sx) : OkF wI (fun f => vsl px (rk px kx f) (d + 0) S v [.int y0, .int y1] [6, 72, 5, 72, 0, 71, 1, 72, 9, 71, 2, 72]) (vd_exit v y0 y1 S) := by
  unfold vd_exit
  refine OkF.eq 0 (Y := fun f => if oc S v 6 = true then rk px kx f (d + 0) 72 0 [some (.ref v), some (.int y0), some (.int y1)] [] S else if oc S v 5 = true then rk px kx f (d + 0) 72 0 [some (.ref v), some (.int y0), some (.int y1)] [] S else if oc S v 0 = true then rk px kx f (d + 0) 71 0 [some (.ref v), some (.int y0), some (.int y1)] [] S else if oc S v 1 = true then rk px kx f (d + 0) 72 0 [some (.ref v), some (.int y0), some (.int y1)] [] S else if oc S v 9 = true then rk px kx f (d + 0) 71 0 [some (.ref v), some (.int y0), some (.int y1)] [] S else if oc S v 2 = true then rk px kx f (d + 0) 72 0 [some (.ref v), some (.int y0), some (.int y1)] [] S else none) (fun f => rfl) ?_
  refine OkF.ite (fun _ => om72 (d + 0) v y0 y1 S) (fun _ => ?_)
  refine OkF.ite (fun _ => om72 (d + 0) v y0 y1 S) (fun _ => ?_)
  refine OkF.ite (fun _ => om71 (d + 0) v y0 y1 S) (fun _ => ?_)
  refine OkF.ite (fun _ => om72 (d + 0) v y0 y1 S) (fun _ => ?_)
  refine OkF.ite (fun _ => om71 (d + 0) v y0 y1 S) (fun _ => ?_)
  refine OkF.ite (fun _ => om72 (d + 0) v y0 y1 S) (fun _ => ?_)
  exact OkF.no
-- DoorSold$Country.exitOf(I)I
def m70 (x0 : Nat) (x1 : Int32) (S : Sx) : Option (Int32 × Sx) :=
  if oc S x0 4 = true then (S.2.2.2.1 x0 1).bind fun a1 => if inb x1 (al S a1) = true then if oc S x0 4 = true then (m46 x0 (S.2.1 a1 x1.toNatClampNeg) S).bind fun q2 => if oc q2.2 x0 4 = true then (q2.2.2.2.2.1 x0 3).bind fun a3 => if inb x1 (al q2.2 a3) = true then if oc q2.2 x0 4 = true then (q2.2.2.2.2.1 x0 4).bind fun a4 => if inb x1 (al q2.2 a4) = true then (vd_exit q2.1 (q2.2.2.1 a3 x1.toNatClampNeg) (q2.2.2.1 a4 x1.toNatClampNeg) q2.2).bind fun q5 => some (q5.1, q5.2) else none else none else none else none else none else none else none
set_option maxRecDepth 100000 in
theorem om70 (d : Nat) (x0 : Nat) (x1 : Int32) (S : Sx) : OkF wI (fun f => rk px kx f (d + 1) 70 0 [some (.ref x0), some (.int x1)] [] S) (m70 x0 x1 S) := by
  unfold m70
  refine OkF.eq 3 (Y := fun f => if oc S x0 4 = true then rk px kx f (d + 1) 70 5 [some (.ref x0), some (.int x1)] (va_rf (S.2.2.2.1 x0 1) :: [.ref x0]) S else none) (fun f => rfl) ?_
  refine OkF.grd (fun _ => ?_)
  refine OkF.rf (fun a1 => ?_)
  refine OkF.eq 2 (Y := fun f => if inb x1 (al S a1) = true then rk px kx f (d + 1) 70 7 [some (.ref x0), some (.int x1)] [.int (S.2.1 a1 x1.toNatClampNeg), .ref x0] S else none) (fun f => rfl) ?_
  refine OkF.grd (fun _ => ?_)
  refine OkF.eq 1 (Y := fun f => if oc S x0 4 = true then (rk px kx f (d + 0) 46 0 [some (.ref x0), some (.int (S.2.1 a1 x1.toNatClampNeg))] [] S).bind (fun q => rk px kx f (d + 1) 70 10 [some (.ref x0), some (.int x1)] (q.1.toList ++ []) q.2) else none) (fun f => rfl) ?_
  refine OkF.grd (fun _ => ?_)
  refine OkF.bind (w1 := wR) (om46 (d + 0) x0 (S.2.1 a1 x1.toNatClampNeg) S) (fun q2 => ?_)
  refine OkF.eq 2 (Y := fun f => if oc q2.2 x0 4 = true then rk px kx f (d + 1) 70 14 [some (.ref x0), some (.int x1)] (va_rf (q2.2.2.2.2.1 x0 3) :: [.ref q2.1]) q2.2 else none) (fun f => rfl) ?_
  refine OkF.grd (fun _ => ?_)
  refine OkF.rf (fun a3 => ?_)
  refine OkF.eq 2 (Y := fun f => if inb x1 (al q2.2 a3) = true then rk px kx f (d + 1) 70 16 [some (.ref x0), some (.int x1)] [.int (q2.2.2.1 a3 x1.toNatClampNeg), .ref q2.1] q2.2 else none) (fun f => rfl) ?_
  refine OkF.grd (fun _ => ?_)
  refine OkF.eq 2 (Y := fun f => if oc q2.2 x0 4 = true then rk px kx f (d + 1) 70 20 [some (.ref x0), some (.int x1)] (va_rf (q2.2.2.2.2.1 x0 4) :: [.int (q2.2.2.1 a3 x1.toNatClampNeg), .ref q2.1]) q2.2 else none) (fun f => rfl) ?_
  refine OkF.grd (fun _ => ?_)
  refine OkF.rf (fun a4 => ?_)
  refine OkF.eq 2 (Y := fun f => if inb x1 (al q2.2 a4) = true then rk px kx f (d + 1) 70 22 [some (.ref x0), some (.int x1)] [.int (q2.2.2.1 a4 x1.toNatClampNeg), .int (q2.2.2.1 a3 x1.toNatClampNeg), .ref q2.1] q2.2 else none) (fun f => rfl) ?_
  refine OkF.grd (fun _ => ?_)
  refine OkF.eq 1 (Y := fun f => vcl px (rk px kx f) (d + 1) 70 25 [some (.ref x0), some (.int x1)] [] q2.2 q2.1 [.int (q2.2.2.1 a3 x1.toNatClampNeg), .int (q2.2.2.1 a4 x1.toNatClampNeg)] [6, 72, 5, 72, 0, 71, 1, 72, 9, 71, 2, 72]) (fun f => rfl) ?_
  refine OkF.vir rfl (ov_exit (d + 0) q2.1 (q2.2.2.1 a3 x1.toNatClampNeg) (q2.2.2.1 a4 x1.toNatClampNeg) q2.2) (fun q5 => ?_)
  exact OkF.ret 1 (fun f => rfl)
-- DoorSold.mark(II)I
def m67 (x0 : Nat) (x1 : Int32) (x2 : Int32) (S : Sx) : Option (Int32 × Sx) :=
  if oc S x0 11 = true then (m43 x0 x1 S).bind fun q1 => if q1.1 = 0 then if x2 < (1 : Int32) then some ((-1 : Int32), q1.2) else if x2 < (6 : Int32) then if oc q1.2 x0 11 = true then (q1.2.2.2.2.1 x0 3).bind fun a2 => if oc q1.2 a2 4 = true then (m68 a2 x1 x2 q1.2).bind fun q3 => if q3.1 = 0 then if oc q3.2 x0 11 = true then (m15 x0 (3 : Int32) q3.2).bind fun q4 => some (q4.1, q4.2) else none else if x2 = (1 : Int32) then (if oc q3.2 x0 11 = true then (m69 x0 x1 q3.2).bind fun q5 => some (q5.1, q5.2) else none) else if x2 = (2 : Int32) then (if oc q3.2 x0 11 = true then (q3.2.2.2.2.1 x0 3).bind fun a6 => if oc q3.2 a6 4 = true then (q3.2.2.2.2.1 a6 2).bind fun a7 => if inb x1 (al q3.2 a7) = true then if oc q3.2 x0 11 = true then (q3.2.2.2.2.1 x0 3).bind fun a8 => if oc q3.2 a8 4 = true then (m45 a8 x1 q3.2).bind fun q9 => (m12 (0 : Int32) ((q3.2.2.1 a7 x1.toNatClampNeg) - q9.1) q9.2).bind fun q10 => some (q10.1, q10.2) else none else none else none else none else none) else if x2 = (3 : Int32) then (if oc q3.2 x0 11 = true then (q3.2.2.2.2.1 x0 3).bind fun a11 => if oc q3.2 a11 4 = true then (m56 (-(q3.2.2.1 a11 13)) (3 : Int32) q3.2).bind fun q12 => some (q12.1, q12.2) else none else none) else if x2 = (4 : Int32) then (if oc q3.2 x0 11 = true then (q3.2.2.2.2.1 x0 3).bind fun a13 => if oc q3.2 x0 11 = true then (q3.2.2.2.2.1 x0 3).bind fun a14 => if oc q3.2 a14 4 = true then (m70 a14 x1 q3.2).bind fun q15 => if oc q15.2 x0 11 = true then (q15.2.2.2.2.1 x0 3).bind fun a16 => if oc q15.2 x0 11 = true then (q15.2.2.2.2.1 x0 3).bind fun a17 => if oc q15.2 a17 4 = true then if oc q15.2 a16 4 = true then (m51 a16 x1 (q15.2.2.1 a17 13) q15.2).bind fun q18 => if oc q18.2 a13 4 = true then (m55 a13 (q15.1 - q18.1) q18.2).bind fun q19 => some ((3 : Int32) * q19.1, q19.2) else none else none else none else none else none else none else none else none) else if oc q3.2 x0 11 = true then (q3.2.2.2.2.1 x0 3).bind fun a20 => if oc q3.2 x0 11 = true then (q3.2.2.2.2.1 x0 3).bind fun a21 => if oc q3.2 a21 4 = true then if oc q3.2 x0 11 = true then (q3.2.2.2.2.1 x0 3).bind fun a22 => if oc q3.2 x0 11 = true then (q3.2.2.2.2.1 x0 3).bind fun a23 => if oc q3.2 a23 4 = true then if oc q3.2 a22 4 = true then (m51 a22 x1 (q3.2.2.1 a23 13) q3.2).bind fun q24 => if oc q24.2 a20 4 = true then (m55 a20 ((q3.2.2.1 a21 12) - q24.1) q24.2).bind fun q25 => some (q25.1, q25.2) else none else none else none else none else none else none else none else none else none else none else some ((-1 : Int32), q1.2) else some ((-1 : Int32), q1.2) else none
set_option maxRecDepth 100000 in
theorem om67 (d : Nat) (x0 : Nat) (x1 : Int32) (x2 : Int32) (S : Sx) : OkF wI (fun f => rk px kx f (d + 3) 67 0 [some (.ref x0), some (.int x1), some (.int x2)] [] S) (m67 x0 x1 x2 S) := by
  unfold m67
  refine OkF.eq 3 (Y := fun f => if oc S x0 11 = true then (rk px kx f (d + 2) 43 0 [some (.ref x0), some (.int x1)] [] S).bind (fun q => rk px kx f (d + 3) 67 5 [some (.ref x0), some (.int x1), some (.int x2)] (q.1.toList ++ []) q.2) else none) (fun f => rfl) ?_
  refine OkF.grd (fun _ => ?_)
  refine OkF.bind (w1 := wI) (om43 (d + 2) x0 x1 S) (fun q1 => ?_)
  refine OkF.eq 1 (Y := fun f => if q1.1 = 0 then rk px kx f (d + 3) 67 8 [some (.ref x0), some (.int x1), some (.int x2)] [] q1.2 else rk px kx f (d + 3) 67 19 [some (.ref x0), some (.int x1), some (.int x2)] [] q1.2) (fun f => rfl) ?_
  refine OkF.ite (fun _ => ?_) (fun _ => ?_)
  · refine OkF.eq 3 (Y := fun f => if x2 < (1 : Int32) then rk px kx f (d + 3) 67 19 [some (.ref x0), some (.int x1), some (.int x2)] [] q1.2 else rk px kx f (d + 3) 67 13 [some (.ref x0), some (.int x1), some (.int x2)] [] q1.2) (fun f => rfl) ?_
    refine OkF.ite (fun _ => ?_) (fun _ => ?_)
    · exact OkF.ret 2 (fun f => rfl)
    · refine OkF.eq 3 (Y := fun f => if x2 < (6 : Int32) then rk px kx f (d + 3) 67 21 [some (.ref x0), some (.int x1), some (.int x2)] [] q1.2 else rk px kx f (d + 3) 67 19 [some (.ref x0), some (.int x1), some (.int x2)] [] q1.2) (fun f => rfl) ?_
      refine OkF.ite (fun _ => ?_) (fun _ => ?_)
      · refine OkF.eq 2 (Y := fun f => if oc q1.2 x0 11 = true then rk px kx f (d + 3) 67 25 [some (.ref x0), some (.int x1), some (.int x2)] (va_rf (q1.2.2.2.2.1 x0 3) :: []) q1.2 else none) (fun f => rfl) ?_
        refine OkF.grd (fun _ => ?_)
        refine OkF.rf (fun a2 => ?_)
        refine OkF.eq 3 (Y := fun f => if oc q1.2 a2 4 = true then (rk px kx f (d + 2) 68 0 [some (.ref a2), some (.int x1), some (.int x2), none] [] q1.2).bind (fun q => rk px kx f (d + 3) 67 30 [some (.ref x0), some (.int x1), some (.int x2)] (q.1.toList ++ []) q.2) else none) (fun f => rfl) ?_
        refine OkF.grd (fun _ => ?_)
        refine OkF.bind (w1 := wI) (om68 (d + 1) a2 x1 x2 q1.2) (fun q3 => ?_)
        refine OkF.eq 1 (Y := fun f => if q3.1 = 0 then rk px kx f (d + 3) 67 33 [some (.ref x0), some (.int x1), some (.int x2)] [] q3.2 else rk px kx f (d + 3) 67 39 [some (.ref x0), some (.int x1), some (.int x2)] [] q3.2) (fun f => rfl) ?_
        refine OkF.ite (fun _ => ?_) (fun _ => ?_)
        · refine OkF.eq 3 (Y := fun f => if oc q3.2 x0 11 = true then (rk px kx f (d + 2) 15 0 [some (.ref x0), some (.int (3 : Int32))] [] q3.2).bind (fun q => rk px kx f (d + 3) 67 38 [some (.ref x0), some (.int x1), some (.int x2)] (q.1.toList ++ []) q.2) else none) (fun f => rfl) ?_
          refine OkF.grd (fun _ => ?_)
          refine OkF.bind (w1 := wI) (om15 (d + 2) x0 (3 : Int32) q3.2) (fun q4 => ?_)
          exact OkF.ret 1 (fun f => rfl)
        · refine OkF.eq 2 (Y := fun f => if x2 = (1 : Int32) then rk px kx f (d + 3) 67 72 [some (.ref x0), some (.int x1), some (.int x2)] [] q3.2 else if x2 = (2 : Int32) then rk px kx f (d + 3) 67 78 [some (.ref x0), some (.int x1), some (.int x2)] [] q3.2 else if x2 = (3 : Int32) then rk px kx f (d + 3) 67 101 [some (.ref x0), some (.int x1), some (.int x2)] [] q3.2 else if x2 = (4 : Int32) then rk px kx f (d + 3) 67 114 [some (.ref x0), some (.int x1), some (.int x2)] [] q3.2 else rk px kx f (d + 3) 67 148 [some (.ref x0), some (.int x1), some (.int x2)] [] q3.2) (fun f => rfl) ?_
          refine OkF.ite (fun _ => ?_) (fun _ => ?_)
          · refine OkF.eq 3 (Y := fun f => if oc q3.2 x0 11 = true then (rk px kx f (d + 2) 69 0 [some (.ref x0), some (.int x1), none, none] [] q3.2).bind (fun q => rk px kx f (d + 3) 67 77 [some (.ref x0), some (.int x1), some (.int x2)] (q.1.toList ++ []) q.2) else none) (fun f => rfl) ?_
            refine OkF.grd (fun _ => ?_)
            refine OkF.bind (w1 := wI) (om69 (d + 0) x0 x1 q3.2) (fun q5 => ?_)
            exact OkF.ret 1 (fun f => rfl)
          refine OkF.ite (fun _ => ?_) (fun _ => ?_)
          · refine OkF.eq 3 (Y := fun f => if oc q3.2 x0 11 = true then rk px kx f (d + 3) 67 83 [some (.ref x0), some (.int x1), some (.int x2)] (va_rf (q3.2.2.2.2.1 x0 3) :: [.int (0 : Int32)]) q3.2 else none) (fun f => rfl) ?_
            refine OkF.grd (fun _ => ?_)
            refine OkF.rf (fun a6 => ?_)
            refine OkF.eq 1 (Y := fun f => if oc q3.2 a6 4 = true then rk px kx f (d + 3) 67 86 [some (.ref x0), some (.int x1), some (.int x2)] (va_rf (q3.2.2.2.2.1 a6 2) :: [.int (0 : Int32)]) q3.2 else none) (fun f => rfl) ?_
            refine OkF.grd (fun _ => ?_)
            refine OkF.rf (fun a7 => ?_)
            refine OkF.eq 2 (Y := fun f => if inb x1 (al q3.2 a7) = true then rk px kx f (d + 3) 67 88 [some (.ref x0), some (.int x1), some (.int x2)] [.int (q3.2.2.1 a7 x1.toNatClampNeg), .int (0 : Int32)] q3.2 else none) (fun f => rfl) ?_
            refine OkF.grd (fun _ => ?_)
            refine OkF.eq 2 (Y := fun f => if oc q3.2 x0 11 = true then rk px kx f (d + 3) 67 92 [some (.ref x0), some (.int x1), some (.int x2)] (va_rf (q3.2.2.2.2.1 x0 3) :: [.int (q3.2.2.1 a7 x1.toNatClampNeg), .int (0 : Int32)]) q3.2 else none) (fun f => rfl) ?_
            refine OkF.grd (fun _ => ?_)
            refine OkF.rf (fun a8 => ?_)
            refine OkF.eq 2 (Y := fun f => if oc q3.2 a8 4 = true then (rk px kx f (d + 2) 45 0 [some (.ref a8), some (.int x1)] [] q3.2).bind (fun q => rk px kx f (d + 3) 67 96 [some (.ref x0), some (.int x1), some (.int x2)] (q.1.toList ++ [.int (q3.2.2.1 a7 x1.toNatClampNeg), .int (0 : Int32)]) q.2) else none) (fun f => rfl) ?_
            refine OkF.grd (fun _ => ?_)
            refine OkF.bind (w1 := wI) (om45 (d + 0) a8 x1 q3.2) (fun q9 => ?_)
            refine OkF.eq 2 (Y := fun f => (rk px kx f (d + 2) 12 0 [some (.int (0 : Int32)), some (.int ((q3.2.2.1 a7 x1.toNatClampNeg) - q9.1))] [] q9.2).bind (fun q => rk px kx f (d + 3) 67 100 [some (.ref x0), some (.int x1), some (.int x2)] (q.1.toList ++ []) q.2)) (fun f => rfl) ?_
            refine OkF.bind (w1 := wI) (om12 (d + 2) (0 : Int32) ((q3.2.2.1 a7 x1.toNatClampNeg) - q9.1) q9.2) (fun q10 => ?_)
            exact OkF.ret 1 (fun f => rfl)
          refine OkF.ite (fun _ => ?_) (fun _ => ?_)
          · refine OkF.eq 2 (Y := fun f => if oc q3.2 x0 11 = true then rk px kx f (d + 3) 67 105 [some (.ref x0), some (.int x1), some (.int x2)] (va_rf (q3.2.2.2.2.1 x0 3) :: []) q3.2 else none) (fun f => rfl) ?_
            refine OkF.grd (fun _ => ?_)
            refine OkF.rf (fun a11 => ?_)
            refine OkF.eq 1 (Y := fun f => if oc q3.2 a11 4 = true then rk px kx f (d + 3) 67 108 [some (.ref x0), some (.int x1), some (.int x2)] [.int (q3.2.2.1 a11 13)] q3.2 else none) (fun f => rfl) ?_
            refine OkF.grd (fun _ => ?_)
            refine OkF.eq 3 (Y := fun f => (rk px kx f (d + 2) 56 0 [some (.int (-(q3.2.2.1 a11 13))), some (.int (3 : Int32)), none] [] q3.2).bind (fun q => rk px kx f (d + 3) 67 113 [some (.ref x0), some (.int x1), some (.int x2)] (q.1.toList ++ []) q.2)) (fun f => rfl) ?_
            refine OkF.bind (w1 := wI) (om56 (d + 2) (-(q3.2.2.1 a11 13)) (3 : Int32) q3.2) (fun q12 => ?_)
            exact OkF.ret 1 (fun f => rfl)
          refine OkF.ite (fun _ => ?_) (fun _ => ?_)
          · refine OkF.eq 3 (Y := fun f => if oc q3.2 x0 11 = true then rk px kx f (d + 3) 67 119 [some (.ref x0), some (.int x1), some (.int x2)] (va_rf (q3.2.2.2.2.1 x0 3) :: [.int (3 : Int32)]) q3.2 else none) (fun f => rfl) ?_
            refine OkF.grd (fun _ => ?_)
            refine OkF.rf (fun a13 => ?_)
            refine OkF.eq 2 (Y := fun f => if oc q3.2 x0 11 = true then rk px kx f (d + 3) 67 123 [some (.ref x0), some (.int x1), some (.int x2)] (va_rf (q3.2.2.2.2.1 x0 3) :: [.ref a13, .int (3 : Int32)]) q3.2 else none) (fun f => rfl) ?_
            refine OkF.grd (fun _ => ?_)
            refine OkF.rf (fun a14 => ?_)
            refine OkF.eq 2 (Y := fun f => if oc q3.2 a14 4 = true then (rk px kx f (d + 2) 70 0 [some (.ref a14), some (.int x1)] [] q3.2).bind (fun q => rk px kx f (d + 3) 67 127 [some (.ref x0), some (.int x1), some (.int x2)] (q.1.toList ++ [.ref a13, .int (3 : Int32)]) q.2) else none) (fun f => rfl) ?_
            refine OkF.grd (fun _ => ?_)
            refine OkF.bind (w1 := wI) (om70 (d + 1) a14 x1 q3.2) (fun q15 => ?_)
            refine OkF.eq 2 (Y := fun f => if oc q15.2 x0 11 = true then rk px kx f (d + 3) 67 131 [some (.ref x0), some (.int x1), some (.int x2)] (va_rf (q15.2.2.2.2.1 x0 3) :: [.int q15.1, .ref a13, .int (3 : Int32)]) q15.2 else none) (fun f => rfl) ?_
            refine OkF.grd (fun _ => ?_)
            refine OkF.rf (fun a16 => ?_)
            refine OkF.eq 3 (Y := fun f => if oc q15.2 x0 11 = true then rk px kx f (d + 3) 67 136 [some (.ref x0), some (.int x1), some (.int x2)] (va_rf (q15.2.2.2.2.1 x0 3) :: [.int x1, .ref a16, .int q15.1, .ref a13, .int (3 : Int32)]) q15.2 else none) (fun f => rfl) ?_
            refine OkF.grd (fun _ => ?_)
            refine OkF.rf (fun a17 => ?_)
            refine OkF.eq 1 (Y := fun f => if oc q15.2 a17 4 = true then rk px kx f (d + 3) 67 139 [some (.ref x0), some (.int x1), some (.int x2)] [.int (q15.2.2.1 a17 13), .int x1, .ref a16, .int q15.1, .ref a13, .int (3 : Int32)] q15.2 else none) (fun f => rfl) ?_
            refine OkF.grd (fun _ => ?_)
            refine OkF.eq 1 (Y := fun f => if oc q15.2 a16 4 = true then (rk px kx f (d + 2) 51 0 [some (.ref a16), some (.int x1), some (.int (q15.2.2.1 a17 13))] [] q15.2).bind (fun q => rk px kx f (d + 3) 67 142 [some (.ref x0), some (.int x1), some (.int x2)] (q.1.toList ++ [.int q15.1, .ref a13, .int (3 : Int32)]) q.2) else none) (fun f => rfl) ?_
            refine OkF.grd (fun _ => ?_)
            refine OkF.bind (w1 := wI) (om51 (d + 0) a16 x1 (q15.2.2.1 a17 13) q15.2) (fun q18 => ?_)
            refine OkF.eq 2 (Y := fun f => if oc q18.2 a13 4 = true then (rk px kx f (d + 2) 55 0 [some (.ref a13), some (.int (q15.1 - q18.1))] [] q18.2).bind (fun q => rk px kx f (d + 3) 67 146 [some (.ref x0), some (.int x1), some (.int x2)] (q.1.toList ++ [.int (3 : Int32)]) q.2) else none) (fun f => rfl) ?_
            refine OkF.grd (fun _ => ?_)
            refine OkF.bind (w1 := wI) (om55 (d + 1) a13 (q15.1 - q18.1) q18.2) (fun q19 => ?_)
            exact OkF.ret 2 (fun f => rfl)
          refine OkF.eq 2 (Y := fun f => if oc q3.2 x0 11 = true then rk px kx f (d + 3) 67 152 [some (.ref x0), some (.int x1), some (.int x2)] (va_rf (q3.2.2.2.2.1 x0 3) :: []) q3.2 else none) (fun f => rfl) ?_
          refine OkF.grd (fun _ => ?_)
          refine OkF.rf (fun a20 => ?_)
          refine OkF.eq 2 (Y := fun f => if oc q3.2 x0 11 = true then rk px kx f (d + 3) 67 156 [some (.ref x0), some (.int x1), some (.int x2)] (va_rf (q3.2.2.2.2.1 x0 3) :: [.ref a20]) q3.2 else none) (fun f => rfl) ?_
          refine OkF.grd (fun _ => ?_)
          refine OkF.rf (fun a21 => ?_)
          refine OkF.eq 1 (Y := fun f => if oc q3.2 a21 4 = true then rk px kx f (d + 3) 67 159 [some (.ref x0), some (.int x1), some (.int x2)] [.int (q3.2.2.1 a21 12), .ref a20] q3.2 else none) (fun f => rfl) ?_
          refine OkF.grd (fun _ => ?_)
          refine OkF.eq 2 (Y := fun f => if oc q3.2 x0 11 = true then rk px kx f (d + 3) 67 163 [some (.ref x0), some (.int x1), some (.int x2)] (va_rf (q3.2.2.2.2.1 x0 3) :: [.int (q3.2.2.1 a21 12), .ref a20]) q3.2 else none) (fun f => rfl) ?_
          refine OkF.grd (fun _ => ?_)
          refine OkF.rf (fun a22 => ?_)
          refine OkF.eq 3 (Y := fun f => if oc q3.2 x0 11 = true then rk px kx f (d + 3) 67 168 [some (.ref x0), some (.int x1), some (.int x2)] (va_rf (q3.2.2.2.2.1 x0 3) :: [.int x1, .ref a22, .int (q3.2.2.1 a21 12), .ref a20]) q3.2 else none) (fun f => rfl) ?_
          refine OkF.grd (fun _ => ?_)
          refine OkF.rf (fun a23 => ?_)
          refine OkF.eq 1 (Y := fun f => if oc q3.2 a23 4 = true then rk px kx f (d + 3) 67 171 [some (.ref x0), some (.int x1), some (.int x2)] [.int (q3.2.2.1 a23 13), .int x1, .ref a22, .int (q3.2.2.1 a21 12), .ref a20] q3.2 else none) (fun f => rfl) ?_
          refine OkF.grd (fun _ => ?_)
          refine OkF.eq 1 (Y := fun f => if oc q3.2 a22 4 = true then (rk px kx f (d + 2) 51 0 [some (.ref a22), some (.int x1), some (.int (q3.2.2.1 a23 13))] [] q3.2).bind (fun q => rk px kx f (d + 3) 67 174 [some (.ref x0), some (.int x1), some (.int x2)] (q.1.toList ++ [.int (q3.2.2.1 a21 12), .ref a20]) q.2) else none) (fun f => rfl) ?_
          refine OkF.grd (fun _ => ?_)
          refine OkF.bind (w1 := wI) (om51 (d + 0) a22 x1 (q3.2.2.1 a23 13) q3.2) (fun q24 => ?_)
          refine OkF.eq 2 (Y := fun f => if oc q24.2 a20 4 = true then (rk px kx f (d + 2) 55 0 [some (.ref a20), some (.int ((q3.2.2.1 a21 12) - q24.1))] [] q24.2).bind (fun q => rk px kx f (d + 3) 67 178 [some (.ref x0), some (.int x1), some (.int x2)] (q.1.toList ++ []) q.2) else none) (fun f => rfl) ?_
          refine OkF.grd (fun _ => ?_)
          refine OkF.bind (w1 := wI) (om55 (d + 1) a20 ((q3.2.2.1 a21 12) - q24.1) q24.2) (fun q25 => ?_)
          exact OkF.ret 1 (fun f => rfl)
      · exact OkF.ret 2 (fun f => rfl)
  · exact OkF.ret 2 (fun f => rfl)
