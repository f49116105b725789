-- DoorSold$Reader.readHead(LDoorSold$Row;LDoorSold$Country;)Z
def m35 (x0 : Nat) (x1 : Nat) (x2 : Nat) (S : Sx) : Option (Int32 × Sx) :=
  if oc S x0 7 = true then if oc S x1 8 = true then if (S.2.1 x1 1) ≤ (S.2.1 x0 0) then some ((0 : Int32), S) else if oc S x1 8 = true then (S.2.2.2.1 x1 0).bind fun a1 => if oc S x0 7 = true then if inb (S.2.1 x0 0) (al S a1) = true then if (S.2.1 a1 (S.2.1 x0 0).toNatClampNeg) = (110 : Int32) then if oc S x0 7 = true then if oc S x0 7 = true then lt (sI S x0 0 ((S.2.1 x0 0) + (1 : Int32))) fun S2 => if oc S2 x0 7 = true then (m36 x0 x1 (2 : Int32) (7 : Int32) S2).bind fun q3 => if q3.1 = (-9 : Int32) then some ((0 : Int32), q3.2) else if oc q3.2 x0 7 = true then (m36 x0 x1 (0 : Int32) (9 : Int32) q3.2).bind fun q4 => if q4.1 = (-9 : Int32) then some ((0 : Int32), q4.2) else if oc q4.2 x0 7 = true then (m36 x0 x1 (0 : Int32) (9 : Int32) q4.2).bind fun q5 => if q5.1 = (-9 : Int32) then some ((0 : Int32), q5.2) else if oc q5.2 x2 4 = true then lt (sI q5.2 x2 8 q3.1) fun S6 => if oc S6 x2 4 = true then lt (sI S6 x2 10 (((10 : Int32) * q4.1) + q5.1)) fun S7 => some ((1 : Int32), S7) else none else none else none else none else none else none else none else some ((0 : Int32), S) else none else none else none else none else none
set_option maxRecDepth 100000 in
theorem om35 (d : Nat) (x0 : Nat) (x1 : Nat) (x2 : Nat) (S : Sx) : OkF wI (fun f => rk px kx f (d + 1) 35 0 [some (.ref x0), some (.ref x1), some (.ref x2), none, none, none] [] S) (m35 x0 x1 x2 S) := by
  unfold m35
  refine OkF.eq 2 (Y := fun f => if oc S x0 7 = true then rk px kx f (d + 1) 35 4 [some (.ref x0), some (.ref x1), some (.ref x2), none, none, none] [.int (S.2.1 x0 0)] S else none) (fun f => rfl) ?_
  refine OkF.grd (fun _ => ?_)
  refine OkF.eq 2 (Y := fun f => if oc S x1 8 = true then rk px kx f (d + 1) 35 8 [some (.ref x0), some (.ref x1), some (.ref x2), none, none, none] [.int (S.2.1 x1 1), .int (S.2.1 x0 0)] S else none) (fun f => rfl) ?_
  refine OkF.grd (fun _ => ?_)
  refine OkF.eq 1 (Y := fun f => if (S.2.1 x1 1) ≤ (S.2.1 x0 0) then rk px kx f (d + 1) 35 25 [some (.ref x0), some (.ref x1), some (.ref x2), none, none, none] [] S else rk px kx f (d + 1) 35 11 [some (.ref x0), some (.ref x1), some (.ref x2), none, none, none] [] S) (fun f => rfl) ?_
  refine OkF.ite (fun _ => ?_) (fun _ => ?_)
  · exact OkF.ret 2 (fun f => rfl)
  · refine OkF.eq 2 (Y := fun f => if oc S x1 8 = true then rk px kx f (d + 1) 35 15 [some (.ref x0), some (.ref x1), some (.ref x2), none, none, none] (va_rf (S.2.2.2.1 x1 0) :: []) S else none) (fun f => rfl) ?_
    refine OkF.grd (fun _ => ?_)
    refine OkF.rf (fun a1 => ?_)
    refine OkF.eq 2 (Y := fun f => if oc S x0 7 = true then rk px kx f (d + 1) 35 19 [some (.ref x0), some (.ref x1), some (.ref x2), none, none, none] [.int (S.2.1 x0 0), .ref a1] S else none) (fun f => rfl) ?_
    refine OkF.grd (fun _ => ?_)
    refine OkF.eq 1 (Y := fun f => if inb (S.2.1 x0 0) (al S a1) = true then rk px kx f (d + 1) 35 20 [some (.ref x0), some (.ref x1), some (.ref x2), none, none, none] [.int (S.2.1 a1 (S.2.1 x0 0).toNatClampNeg)] S else none) (fun f => rfl) ?_
    refine OkF.grd (fun _ => ?_)
    refine OkF.eq 2 (Y := fun f => if (S.2.1 a1 (S.2.1 x0 0).toNatClampNeg) = (110 : Int32) then rk px kx f (d + 1) 35 27 [some (.ref x0), some (.ref x1), some (.ref x2), none, none, none] [] S else rk px kx f (d + 1) 35 25 [some (.ref x0), some (.ref x1), some (.ref x2), none, none, none] [] S) (fun f => rfl) ?_
    refine OkF.ite (fun _ => ?_) (fun _ => ?_)
    · refine OkF.eq 3 (Y := fun f => if oc S x0 7 = true then rk px kx f (d + 1) 35 32 [some (.ref x0), some (.ref x1), some (.ref x2), none, none, none] [.int (S.2.1 x0 0), .ref x0] S else none) (fun f => rfl) ?_
      refine OkF.grd (fun _ => ?_)
      refine OkF.eq 3 (Y := fun f => if oc S x0 7 = true then rk px kx f (d + 1) 35 37 [some (.ref x0), some (.ref x1), some (.ref x2), none, none, none] [] (sI S x0 0 ((S.2.1 x0 0) + (1 : Int32))) else none) (fun f => rfl) ?_
      refine OkF.grd (fun _ => ?_)
      refine OkF.nm (fun S2 => ?_)
      refine OkF.eq 5 (Y := fun f => if oc S2 x0 7 = true then (rk px kx f (d + 0) 36 0 [some (.ref x0), some (.ref x1), some (.int (2 : Int32)), some (.int (7 : Int32)), none] [] S2).bind (fun q => rk px kx f (d + 1) 35 45 [some (.ref x0), some (.ref x1), some (.ref x2), none, none, none] (q.1.toList ++ []) q.2) else none) (fun f => rfl) ?_
      refine OkF.grd (fun _ => ?_)
      refine OkF.bind (w1 := wI) (om36 (d + 0) x0 x1 (2 : Int32) (7 : Int32) S2) (fun q3 => ?_)
      refine OkF.eq 4 (Y := fun f => if q3.1 = (-9 : Int32) then rk px kx f (d + 1) 35 52 [some (.ref x0), some (.ref x1), some (.ref x2), some (.int q3.1), none, none] [] q3.2 else rk px kx f (d + 1) 35 54 [some (.ref x0), some (.ref x1), some (.ref x2), some (.int q3.1), none, none] [] q3.2) (fun f => rfl) ?_
      refine OkF.ite (fun _ => ?_) (fun _ => ?_)
      · exact OkF.ret 2 (fun f => rfl)
      · refine OkF.eq 5 (Y := fun f => if oc q3.2 x0 7 = true then (rk px kx f (d + 0) 36 0 [some (.ref x0), some (.ref x1), some (.int (0 : Int32)), some (.int (9 : Int32)), none] [] q3.2).bind (fun q => rk px kx f (d + 1) 35 62 [some (.ref x0), some (.ref x1), some (.ref x2), some (.int q3.1), none, none] (q.1.toList ++ []) q.2) else none) (fun f => rfl) ?_
        refine OkF.grd (fun _ => ?_)
        refine OkF.bind (w1 := wI) (om36 (d + 0) x0 x1 (0 : Int32) (9 : Int32) q3.2) (fun q4 => ?_)
        refine OkF.eq 4 (Y := fun f => if q4.1 = (-9 : Int32) then rk px kx f (d + 1) 35 71 [some (.ref x0), some (.ref x1), some (.ref x2), some (.int q3.1), some (.int q4.1), none] [] q4.2 else rk px kx f (d + 1) 35 73 [some (.ref x0), some (.ref x1), some (.ref x2), some (.int q3.1), some (.int q4.1), none] [] q4.2) (fun f => rfl) ?_
        refine OkF.ite (fun _ => ?_) (fun _ => ?_)
        · exact OkF.ret 2 (fun f => rfl)
        · refine OkF.eq 5 (Y := fun f => if oc q4.2 x0 7 = true then (rk px kx f (d + 0) 36 0 [some (.ref x0), some (.ref x1), some (.int (0 : Int32)), some (.int (9 : Int32)), none] [] q4.2).bind (fun q => rk px kx f (d + 1) 35 81 [some (.ref x0), some (.ref x1), some (.ref x2), some (.int q3.1), some (.int q4.1), none] (q.1.toList ++ []) q.2) else none) (fun f => rfl) ?_
          refine OkF.grd (fun _ => ?_)
          refine OkF.bind (w1 := wI) (om36 (d + 0) x0 x1 (0 : Int32) (9 : Int32) q4.2) (fun q5 => ?_)
          refine OkF.eq 4 (Y := fun f => if q5.1 = (-9 : Int32) then rk px kx f (d + 1) 35 90 [some (.ref x0), some (.ref x1), some (.ref x2), some (.int q3.1), some (.int q4.1), some (.int q5.1)] [] q5.2 else rk px kx f (d + 1) 35 92 [some (.ref x0), some (.ref x1), some (.ref x2), some (.int q3.1), some (.int q4.1), some (.int q5.1)] [] q5.2) (fun f => rfl) ?_
          refine OkF.ite (fun _ => ?_) (fun _ => ?_)
          · exact OkF.ret 2 (fun f => rfl)
          · refine OkF.eq 3 (Y := fun f => if oc q5.2 x2 4 = true then rk px kx f (d + 1) 35 97 [some (.ref x0), some (.ref x1), some (.ref x2), some (.int q3.1), some (.int q4.1), some (.int q5.1)] [] (sI q5.2 x2 8 q3.1) else none) (fun f => rfl) ?_
            refine OkF.grd (fun _ => ?_)
            refine OkF.nm (fun S6 => ?_)
            refine OkF.eq 7 (Y := fun f => if oc S6 x2 4 = true then rk px kx f (d + 1) 35 109 [some (.ref x0), some (.ref x1), some (.ref x2), some (.int q3.1), some (.int q4.1), some (.int q5.1)] [] (sI S6 x2 10 (((10 : Int32) * q4.1) + q5.1)) else none) (fun f => rfl) ?_
            refine OkF.grd (fun _ => ?_)
            refine OkF.nm (fun S7 => ?_)
            exact OkF.ret 2 (fun f => rfl)
    · exact OkF.ret 2 (fun f => rfl)
-- DoorSold$Reader.readLetter(LDoorSold$Row;)I
def b38_16 (k16 : Nat → Nat → Int32 → Sx → Option (Int32 × Sx)) (x0 : Nat) (x1 : Nat) (x2 : Int32) (S : Sx) : Option (Int32 × Sx) :=
  if (6 : Int32) ≤ x2 then some ((-9 : Int32), S) else if oc S x1 8 = true then (S.2.2.2.1 x1 0).bind fun a1 => if oc S x0 7 = true then if inb (S.2.1 x0 0) (al S a1) = true then if inb x2 (al S 1001) = true then if (S.2.1 a1 (S.2.1 x0 0).toNatClampNeg) = (S.2.1 1001 x2.toNatClampNeg) then if oc S x0 7 = true then if oc S x0 7 = true then lt (sI S x0 0 ((S.2.1 x0 0) + (1 : Int32))) fun S2 => some (x2, S2) else none else none else k16 x0 x1 (x2 + (1 : Int32)) S else none else none else none else none
set_option maxRecDepth 100000 in
theorem ob38_16 (d : Nat) (k16 : Nat → Nat → Int32 → Sx → Option (Int32 × Sx)) (hk16 : ∀ (x0 : Nat) (x1 : Nat) (x2 : Int32) (S : Sx), OkF wI (fun f => rk px kx f (d + 0) 38 16 [some (.ref x0), some (.ref x1), some (.int x2)] [] S) (k16 x0 x1 x2 S)) (x0 : Nat) (x1 : Nat) (x2 : Int32) (S : Sx) : OkF wI (fun f => rk px kx f (d + 0) 38 16 [some (.ref x0), some (.ref x1), some (.int x2)] [] S) (b38_16 k16 x0 x1 x2 S) := by
  unfold b38_16
  refine OkF.eq 3 (Y := fun f => if (6 : Int32) ≤ x2 then rk px kx f (d + 0) 38 60 [some (.ref x0), some (.ref x1), some (.int x2)] [] S else rk px kx f (d + 0) 38 22 [some (.ref x0), some (.ref x1), some (.int x2)] [] S) (fun f => rfl) ?_
  refine OkF.ite (fun _ => ?_) (fun _ => ?_)
  · exact OkF.ret 2 (fun f => rfl)
  · refine OkF.eq 2 (Y := fun f => if oc S x1 8 = true then rk px kx f (d + 0) 38 26 [some (.ref x0), some (.ref x1), some (.int x2)] (va_rf (S.2.2.2.1 x1 0) :: []) S else none) (fun f => rfl) ?_
    refine OkF.grd (fun _ => ?_)
    refine OkF.rf (fun a1 => ?_)
    refine OkF.eq 2 (Y := fun f => if oc S x0 7 = true then rk px kx f (d + 0) 38 30 [some (.ref x0), some (.ref x1), some (.int x2)] [.int (S.2.1 x0 0), .ref a1] S else none) (fun f => rfl) ?_
    refine OkF.grd (fun _ => ?_)
    refine OkF.eq 1 (Y := fun f => if inb (S.2.1 x0 0) (al S a1) = true then rk px kx f (d + 0) 38 31 [some (.ref x0), some (.ref x1), some (.int x2)] [.int (S.2.1 a1 (S.2.1 x0 0).toNatClampNeg)] S else none) (fun f => rfl) ?_
    refine OkF.grd (fun _ => ?_)
    refine OkF.eq 3 (Y := fun f => if inb x2 (al S 1001) = true then rk px kx f (d + 0) 38 36 [some (.ref x0), some (.ref x1), some (.int x2)] [.int (S.2.1 1001 x2.toNatClampNeg), .int (S.2.1 a1 (S.2.1 x0 0).toNatClampNeg)] S else none) (fun f => rfl) ?_
    refine OkF.grd (fun _ => ?_)
    refine OkF.eq 1 (Y := fun f => if (S.2.1 a1 (S.2.1 x0 0).toNatClampNeg) = (S.2.1 1001 x2.toNatClampNeg) then rk px kx f (d + 0) 38 42 [some (.ref x0), some (.ref x1), some (.int x2)] [] S else rk px kx f (d + 0) 38 39 [some (.ref x0), some (.ref x1), some (.int x2)] [] S) (fun f => rfl) ?_
    refine OkF.ite (fun _ => ?_) (fun _ => ?_)
    · refine OkF.eq 3 (Y := fun f => if oc S x0 7 = true then rk px kx f (d + 0) 38 47 [some (.ref x0), some (.ref x1), some (.int x2)] [.int (S.2.1 x0 0), .ref x0] S else none) (fun f => rfl) ?_
      refine OkF.grd (fun _ => ?_)
      refine OkF.eq 3 (Y := fun f => if oc S x0 7 = true then rk px kx f (d + 0) 38 52 [some (.ref x0), some (.ref x1), some (.int x2)] [] (sI S x0 0 ((S.2.1 x0 0) + (1 : Int32))) else none) (fun f => rfl) ?_
      refine OkF.grd (fun _ => ?_)
      refine OkF.nm (fun S2 => ?_)
      exact OkF.ret 2 (fun f => rfl)
    · refine OkF.eq 3 (Y := fun f => rk px kx f (d + 0) 38 16 [some (.ref x0), some (.ref x1), some (.int (x2 + (1 : Int32)))] [] S) (fun f => rfl) ?_
      exact OkF.kl (ls1 := [some (.ref x0), some (.ref x1), some (.int (x2 + (1 : Int32)))]) (fun f => rfl) (hk16 x0 x1 (x2 + (1 : Int32)) S)
def l38_16 : Nat → Nat → Nat → Int32 → Sx → Option (Int32 × Sx)
  | 0 => fun _ _ _ _ => none
  | n + 1 => fun x0 x1 x2 S => b38_16 (l38_16 n) x0 x1 x2 S
set_option maxRecDepth 100000 in
theorem ol38_16 (d : Nat) : ∀ (n : Nat) (x0 : Nat) (x1 : Nat) (x2 : Int32) (S : Sx), OkF wI (fun f => rk px kx f (d + 0) 38 16 [some (.ref x0), some (.ref x1), some (.int x2)] [] S) (l38_16 n x0 x1 x2 S) := by
  intro n
  induction n with
  | zero => intro x0 x1 x2 S; exact OkF.no
  | succ n ih => intro x0 x1 x2 S; exact ob38_16 d (l38_16 n) ih x0 x1 x2 S
def m38 (x0 : Nat) (x1 : Nat) (S : Sx) : Option (Int32 × Sx) :=
  if oc S x0 7 = true then if oc S x1 8 = true then if (S.2.1 x0 0) < (S.2.1 x1 1) then l38_16 1000 x0 x1 (0 : Int32) S else some ((-9 : Int32), S) else none else none
set_option maxRecDepth 100000 in
theorem om38 (d : Nat) (x0 : Nat) (x1 : Nat) (S : Sx) : OkF wI (fun f => rk px kx f (d + 0) 38 0 [some (.ref x0), some (.ref x1), none] [] S) (m38 x0 x1 S) := by
  unfold m38
  refine OkF.eq 2 (Y := fun f => if oc S x0 7 = true then rk px kx f (d + 0) 38 4 [some (.ref x0), some (.ref x1), none] [.int (S.2.1 x0 0)] S else none) (fun f => rfl) ?_
  refine OkF.grd (fun _ => ?_)
  refine OkF.eq 2 (Y := fun f => if oc S x1 8 = true then rk px kx f (d + 0) 38 8 [some (.ref x0), some (.ref x1), none] [.int (S.2.1 x1 1), .int (S.2.1 x0 0)] S else none) (fun f => rfl) ?_
  refine OkF.grd (fun _ => ?_)
  refine OkF.eq 1 (Y := fun f => if (S.2.1 x0 0) < (S.2.1 x1 1) then rk px kx f (d + 0) 38 14 [some (.ref x0), some (.ref x1), none] [] S else rk px kx f (d + 0) 38 11 [some (.ref x0), some (.ref x1), none] [] S) (fun f => rfl) ?_
  refine OkF.ite (fun _ => ?_) (fun _ => ?_)
  · refine OkF.eq 2 (Y := fun f => rk px kx f (d + 0) 38 16 [some (.ref x0), some (.ref x1), some (.int (0 : Int32))] [] S) (fun f => rfl) ?_
    exact OkF.kl (ls1 := [some (.ref x0), some (.ref x1), some (.int (0 : Int32))]) (fun f => rfl) (ol38_16 d 1000 x0 x1 (0 : Int32) S)
  · exact OkF.ret 2 (fun f => rfl)
-- DoorSold$Country.addDoor(IIII)V
def m39 (x0 : Nat) (x1 : Int32) (x2 : Int32) (x3 : Int32) (x4 : Int32) (S : Sx) : Option (Sx) :=
  if oc S x0 4 = true then if (S.2.1 x0 9) < (6 : Int32) then if oc S x0 4 = true then (S.2.2.2.1 x0 1).bind fun a1 => if oc S x0 4 = true then if inb (S.2.1 x0 9) (aw S 1 a1) = true then lt (sI S a1 (S.2.1 x0 9).toNatClampNeg x1) fun S2 => if oc S2 x0 4 = true then (S2.2.2.2.1 x0 5).bind fun a3 => if oc S2 x0 4 = true then if inb (S2.2.1 x0 9) (aw S2 1 a3) = true then lt (sI S2 a3 (S2.2.1 x0 9).toNatClampNeg x2) fun S4 => if oc S4 x0 4 = true then (S4.2.2.2.1 x0 6).bind fun a5 => if oc S4 x0 4 = true then if inb (S4.2.1 x0 9) (aw S4 1 a5) = true then lt (sI S4 a5 (S4.2.1 x0 9).toNatClampNeg x3) fun S6 => if oc S6 x0 4 = true then (S6.2.2.2.1 x0 2).bind fun a7 => if oc S6 x0 4 = true then if inb (S6.2.1 x0 9) (aw S6 1 a7) = true then lt (sI S6 a7 (S6.2.1 x0 9).toNatClampNeg x4) fun S8 => if oc S8 x0 4 = true then if oc S8 x0 4 = true then lt (sI S8 x0 9 ((S8.2.1 x0 9) + (1 : Int32))) fun S9 => some S9 else none else none else none else none else none else none else none else none else none else none else none else none else none else none else some S else none
set_option maxRecDepth 100000 in
theorem om39 (d : Nat) (x0 : Nat) (x1 : Int32) (x2 : Int32) (x3 : Int32) (x4 : Int32) (S : Sx) : OkF wV (fun f => rk px kx f (d + 0) 39 0 [some (.ref x0), some (.int x1), some (.int x2), some (.int x3), some (.int x4)] [] S) (m39 x0 x1 x2 x3 x4 S) := by
  unfold m39
  refine OkF.eq 2 (Y := fun f => if oc S x0 4 = true then rk px kx f (d + 0) 39 4 [some (.ref x0), some (.int x1), some (.int x2), some (.int x3), some (.int x4)] [.int (S.2.1 x0 9)] S else none) (fun f => rfl) ?_
  refine OkF.grd (fun _ => ?_)
  refine OkF.eq 2 (Y := fun f => if (S.2.1 x0 9) < (6 : Int32) then rk px kx f (d + 0) 39 10 [some (.ref x0), some (.int x1), some (.int x2), some (.int x3), some (.int x4)] [] S else rk px kx f (d + 0) 39 9 [some (.ref x0), some (.int x1), some (.int x2), some (.int x3), some (.int x4)] [] S) (fun f => rfl) ?_
  refine OkF.ite (fun _ => ?_) (fun _ => ?_)
  · refine OkF.eq 2 (Y := fun f => if oc S x0 4 = true then rk px kx f (d + 0) 39 14 [some (.ref x0), some (.int x1), some (.int x2), some (.int x3), some (.int x4)] (va_rf (S.2.2.2.1 x0 1) :: []) S else none) (fun f => rfl) ?_
    refine OkF.grd (fun _ => ?_)
    refine OkF.rf (fun a1 => ?_)
    refine OkF.eq 2 (Y := fun f => if oc S x0 4 = true then rk px kx f (d + 0) 39 18 [some (.ref x0), some (.int x1), some (.int x2), some (.int x3), some (.int x4)] [.int (S.2.1 x0 9), .ref a1] S else none) (fun f => rfl) ?_
    refine OkF.grd (fun _ => ?_)
    refine OkF.eq 2 (Y := fun f => if inb (S.2.1 x0 9) (aw S 1 a1) = true then rk px kx f (d + 0) 39 20 [some (.ref x0), some (.int x1), some (.int x2), some (.int x3), some (.int x4)] [] (sI S a1 (S.2.1 x0 9).toNatClampNeg x1) else none) (fun f => rfl) ?_
    refine OkF.grd (fun _ => ?_)
    refine OkF.nm (fun S2 => ?_)
    refine OkF.eq 2 (Y := fun f => if oc S2 x0 4 = true then rk px kx f (d + 0) 39 24 [some (.ref x0), some (.int x1), some (.int x2), some (.int x3), some (.int x4)] (va_rf (S2.2.2.2.1 x0 5) :: []) S2 else none) (fun f => rfl) ?_
    refine OkF.grd (fun _ => ?_)
    refine OkF.rf (fun a3 => ?_)
    refine OkF.eq 2 (Y := fun f => if oc S2 x0 4 = true then rk px kx f (d + 0) 39 28 [some (.ref x0), some (.int x1), some (.int x2), some (.int x3), some (.int x4)] [.int (S2.2.1 x0 9), .ref a3] S2 else none) (fun f => rfl) ?_
    refine OkF.grd (fun _ => ?_)
    refine OkF.eq 2 (Y := fun f => if inb (S2.2.1 x0 9) (aw S2 1 a3) = true then rk px kx f (d + 0) 39 30 [some (.ref x0), some (.int x1), some (.int x2), some (.int x3), some (.int x4)] [] (sI S2 a3 (S2.2.1 x0 9).toNatClampNeg x2) else none) (fun f => rfl) ?_
    refine OkF.grd (fun _ => ?_)
    refine OkF.nm (fun S4 => ?_)
    refine OkF.eq 2 (Y := fun f => if oc S4 x0 4 = true then rk px kx f (d + 0) 39 34 [some (.ref x0), some (.int x1), some (.int x2), some (.int x3), some (.int x4)] (va_rf (S4.2.2.2.1 x0 6) :: []) S4 else none) (fun f => rfl) ?_
    refine OkF.grd (fun _ => ?_)
    refine OkF.rf (fun a5 => ?_)
    refine OkF.eq 2 (Y := fun f => if oc S4 x0 4 = true then rk px kx f (d + 0) 39 38 [some (.ref x0), some (.int x1), some (.int x2), some (.int x3), some (.int x4)] [.int (S4.2.1 x0 9), .ref a5] S4 else none) (fun f => rfl) ?_
    refine OkF.grd (fun _ => ?_)
    refine OkF.eq 2 (Y := fun f => if inb (S4.2.1 x0 9) (aw S4 1 a5) = true then rk px kx f (d + 0) 39 40 [some (.ref x0), some (.int x1), some (.int x2), some (.int x3), some (.int x4)] [] (sI S4 a5 (S4.2.1 x0 9).toNatClampNeg x3) else none) (fun f => rfl) ?_
    refine OkF.grd (fun _ => ?_)
    refine OkF.nm (fun S6 => ?_)
    refine OkF.eq 2 (Y := fun f => if oc S6 x0 4 = true then rk px kx f (d + 0) 39 44 [some (.ref x0), some (.int x1), some (.int x2), some (.int x3), some (.int x4)] (va_rf (S6.2.2.2.1 x0 2) :: []) S6 else none) (fun f => rfl) ?_
    refine OkF.grd (fun _ => ?_)
    refine OkF.rf (fun a7 => ?_)
    refine OkF.eq 2 (Y := fun f => if oc S6 x0 4 = true then rk px kx f (d + 0) 39 48 [some (.ref x0), some (.int x1), some (.int x2), some (.int x3), some (.int x4)] [.int (S6.2.1 x0 9), .ref a7] S6 else none) (fun f => rfl) ?_
    refine OkF.grd (fun _ => ?_)
    refine OkF.eq 2 (Y := fun f => if inb (S6.2.1 x0 9) (aw S6 1 a7) = true then rk px kx f (d + 0) 39 51 [some (.ref x0), some (.int x1), some (.int x2), some (.int x3), some (.int x4)] [] (sI S6 a7 (S6.2.1 x0 9).toNatClampNeg x4) else none) (fun f => rfl) ?_
    refine OkF.grd (fun _ => ?_)
    refine OkF.nm (fun S8 => ?_)
    refine OkF.eq 3 (Y := fun f => if oc S8 x0 4 = true then rk px kx f (d + 0) 39 56 [some (.ref x0), some (.int x1), some (.int x2), some (.int x3), some (.int x4)] [.int (S8.2.1 x0 9), .ref x0] S8 else none) (fun f => rfl) ?_
    refine OkF.grd (fun _ => ?_)
    refine OkF.eq 3 (Y := fun f => if oc S8 x0 4 = true then rk px kx f (d + 0) 39 61 [some (.ref x0), some (.int x1), some (.int x2), some (.int x3), some (.int x4)] [] (sI S8 x0 9 ((S8.2.1 x0 9) + (1 : Int32))) else none) (fun f => rfl) ?_
    refine OkF.grd (fun _ => ?_)
    refine OkF.nm (fun S9 => ?_)
    exact OkF.ret 1 (fun f => rfl)
  · exact OkF.ret 1 (fun f => rfl)
-- DoorSold$Reader.readDoor(LDoorSold$Row;LDoorSold$Country;)Z
def m37 (x0 : Nat) (x1 : Nat) (x2 : Nat) (S : Sx) : Option (Int32 × Sx) :=
  if oc S x2 4 = true then if (S.2.1 x2 9) = (6 : Int32) then some ((0 : Int32), S) else if oc S x0 7 = true then (m38 x0 x1 S).bind fun q1 => if q1.1 = (-9 : Int32) then some ((0 : Int32), q1.2) else if oc q1.2 x2 4 = true then if oc q1.2 x0 7 = true then (m36 x0 x1 (0 : Int32) ((q1.2.2.1 x2 8) - (1 : Int32)) q1.2).bind fun q2 => if q2.1 = (-9 : Int32) then some ((0 : Int32), q2.2) else if oc q2.2 x2 4 = true then if oc q2.2 x0 7 = true then (m36 x0 x1 (0 : Int32) ((q2.2.2.1 x2 8) - (1 : Int32)) q2.2).bind fun q3 => if q3.1 = (-9 : Int32) then some ((0 : Int32), q3.2) else if oc q3.2 x0 7 = true then (m36 x0 x1 (0 : Int32) (9 : Int32) q3.2).bind fun q4 => if q4.1 = (-9 : Int32) then some ((0 : Int32), q4.2) else if oc q4.2 x2 4 = true then (m39 x2 q1.1 q2.1 q3.1 q4.1 q4.2).bind fun q5 => some ((1 : Int32), q5) else none else none else none else none else none else none else none else none
set_option maxRecDepth 100000 in
theorem om37 (d : Nat) (x0 : Nat) (x1 : Nat) (x2 : Nat) (S : Sx) : OkF wI (fun f => rk px kx f (d + 1) 37 0 [some (.ref x0), some (.ref x1), some (.ref x2), none, none, none, none] [] S) (m37 x0 x1 x2 S) := by
  unfold m37
  refine OkF.eq 2 (Y := fun f => if oc S x2 4 = true then rk px kx f (d + 1) 37 4 [some (.ref x0), some (.ref x1), some (.ref x2), none, none, none, none] [.int (S.2.1 x2 9)] S else none) (fun f => rfl) ?_
  refine OkF.grd (fun _ => ?_)
  refine OkF.eq 2 (Y := fun f => if (S.2.1 x2 9) = (6 : Int32) then rk px kx f (d + 1) 37 9 [some (.ref x0), some (.ref x1), some (.ref x2), none, none, none, none] [] S else rk px kx f (d + 1) 37 11 [some (.ref x0), some (.ref x1), some (.ref x2), none, none, none, none] [] S) (fun f => rfl) ?_
  refine OkF.ite (fun _ => ?_) (fun _ => ?_)
  · exact OkF.ret 2 (fun f => rfl)
  · refine OkF.eq 3 (Y := fun f => if oc S x0 7 = true then (rk px kx f (d + 0) 38 0 [some (.ref x0), some (.ref x1), none] [] S).bind (fun q => rk px kx f (d + 1) 37 16 [some (.ref x0), some (.ref x1), some (.ref x2), none, none, none, none] (q.1.toList ++ []) q.2) else none) (fun f => rfl) ?_
    refine OkF.grd (fun _ => ?_)
    refine OkF.bind (w1 := wI) (om38 (d + 0) x0 x1 S) (fun q1 => ?_)
    refine OkF.eq 4 (Y := fun f => if q1.1 = (-9 : Int32) then rk px kx f (d + 1) 37 23 [some (.ref x0), some (.ref x1), some (.ref x2), some (.int q1.1), none, none, none] [] q1.2 else rk px kx f (d + 1) 37 25 [some (.ref x0), some (.ref x1), some (.ref x2), some (.int q1.1), none, none, none] [] q1.2) (fun f => rfl) ?_
    refine OkF.ite (fun _ => ?_) (fun _ => ?_)
    · exact OkF.ret 2 (fun f => rfl)
    · refine OkF.eq 5 (Y := fun f => if oc q1.2 x2 4 = true then rk px kx f (d + 1) 37 32 [some (.ref x0), some (.ref x1), some (.ref x2), some (.int q1.1), none, none, none] [.int (q1.2.2.1 x2 8), .int (0 : Int32), .ref x1, .ref x0] q1.2 else none) (fun f => rfl) ?_
      refine OkF.grd (fun _ => ?_)
      refine OkF.eq 3 (Y := fun f => if oc q1.2 x0 7 = true then (rk px kx f (d + 0) 36 0 [some (.ref x0), some (.ref x1), some (.int (0 : Int32)), some (.int ((q1.2.2.1 x2 8) - (1 : Int32))), none] [] q1.2).bind (fun q => rk px kx f (d + 1) 37 37 [some (.ref x0), some (.ref x1), some (.ref x2), some (.int q1.1), none, none, none] (q.1.toList ++ []) q.2) else none) (fun f => rfl) ?_
      refine OkF.grd (fun _ => ?_)
      refine OkF.bind (w1 := wI) (om36 (d + 0) x0 x1 (0 : Int32) ((q1.2.2.1 x2 8) - (1 : Int32)) q1.2) (fun q2 => ?_)
      refine OkF.eq 4 (Y := fun f => if q2.1 = (-9 : Int32) then rk px kx f (d + 1) 37 46 [some (.ref x0), some (.ref x1), some (.ref x2), some (.int q1.1), some (.int q2.1), none, none] [] q2.2 else rk px kx f (d + 1) 37 48 [some (.ref x0), some (.ref x1), some (.ref x2), some (.int q1.1), some (.int q2.1), none, none] [] q2.2) (fun f => rfl) ?_
      refine OkF.ite (fun _ => ?_) (fun _ => ?_)
      · exact OkF.ret 2 (fun f => rfl)
      · refine OkF.eq 5 (Y := fun f => if oc q2.2 x2 4 = true then rk px kx f (d + 1) 37 55 [some (.ref x0), some (.ref x1), some (.ref x2), some (.int q1.1), some (.int q2.1), none, none] [.int (q2.2.2.1 x2 8), .int (0 : Int32), .ref x1, .ref x0] q2.2 else none) (fun f => rfl) ?_
        refine OkF.grd (fun _ => ?_)
        refine OkF.eq 3 (Y := fun f => if oc q2.2 x0 7 = true then (rk px kx f (d + 0) 36 0 [some (.ref x0), some (.ref x1), some (.int (0 : Int32)), some (.int ((q2.2.2.1 x2 8) - (1 : Int32))), none] [] q2.2).bind (fun q => rk px kx f (d + 1) 37 60 [some (.ref x0), some (.ref x1), some (.ref x2), some (.int q1.1), some (.int q2.1), none, none] (q.1.toList ++ []) q.2) else none) (fun f => rfl) ?_
        refine OkF.grd (fun _ => ?_)
        refine OkF.bind (w1 := wI) (om36 (d + 0) x0 x1 (0 : Int32) ((q2.2.2.1 x2 8) - (1 : Int32)) q2.2) (fun q3 => ?_)
        refine OkF.eq 4 (Y := fun f => if q3.1 = (-9 : Int32) then rk px kx f (d + 1) 37 69 [some (.ref x0), some (.ref x1), some (.ref x2), some (.int q1.1), some (.int q2.1), some (.int q3.1), none] [] q3.2 else rk px kx f (d + 1) 37 71 [some (.ref x0), some (.ref x1), some (.ref x2), some (.int q1.1), some (.int q2.1), some (.int q3.1), none] [] q3.2) (fun f => rfl) ?_
        refine OkF.ite (fun _ => ?_) (fun _ => ?_)
        · exact OkF.ret 2 (fun f => rfl)
        · refine OkF.eq 5 (Y := fun f => if oc q3.2 x0 7 = true then (rk px kx f (d + 0) 36 0 [some (.ref x0), some (.ref x1), some (.int (0 : Int32)), some (.int (9 : Int32)), none] [] q3.2).bind (fun q => rk px kx f (d + 1) 37 79 [some (.ref x0), some (.ref x1), some (.ref x2), some (.int q1.1), some (.int q2.1), some (.int q3.1), none] (q.1.toList ++ []) q.2) else none) (fun f => rfl) ?_
          refine OkF.grd (fun _ => ?_)
          refine OkF.bind (w1 := wI) (om36 (d + 0) x0 x1 (0 : Int32) (9 : Int32) q3.2) (fun q4 => ?_)
          refine OkF.eq 4 (Y := fun f => if q4.1 = (-9 : Int32) then rk px kx f (d + 1) 37 88 [some (.ref x0), some (.ref x1), some (.ref x2), some (.int q1.1), some (.int q2.1), some (.int q3.1), some (.int q4.1)] [] q4.2 else rk px kx f (d + 1) 37 90 [some (.ref x0), some (.ref x1), some (.ref x2), some (.int q1.1), some (.int q2.1), some (.int q3.1), some (.int q4.1)] [] q4.2) (fun f => rfl) ?_
          refine OkF.ite (fun _ => ?_) (fun _ => ?_)
          · exact OkF.ret 2 (fun f => rfl)
          · refine OkF.eq 6 (Y := fun f => if oc q4.2 x2 4 = true then (rk px kx f (d + 0) 39 0 [some (.ref x2), some (.int q1.1), some (.int q2.1), some (.int q3.1), some (.int q4.1)] [] q4.2).bind (fun q => rk px kx f (d + 1) 37 101 [some (.ref x0), some (.ref x1), some (.ref x2), some (.int q1.1), some (.int q2.1), some (.int q3.1), some (.int q4.1)] (q.1.toList ++ []) q.2) else none) (fun f => rfl) ?_
            refine OkF.grd (fun _ => ?_)
            refine OkF.bind (w1 := wV) (om39 (d + 0) x2 q1.1 q2.1 q3.1 q4.1 q4.2) (fun q5 => ?_)
            exact OkF.ret 2 (fun f => rfl)
-- DoorSold$Reader.faultOf(LDoorSold$Row;LDoorSold$Country;)I
def b31_77 (x0 : Nat) (x2 : Nat) (S : Sx) : Option (Int32 × Sx) :=
  if oc S x2 4 = true then if (S.2.1 x2 9) = 0 then if oc S x0 7 = true then some (S.2.1 x0 0, S) else none else some ((-9 : Int32), S) else none
set_option maxRecDepth 100000 in
theorem ob31_77 (d : Nat) (x0 : Nat) (x2 : Nat) (S : Sx) : OkF wI (fun f => rk px kx f (d + 2) 31 77 [some (.ref x0), none, some (.ref x2), none] [] S) (b31_77 x0 x2 S) := by
  unfold b31_77
  refine OkF.eq 2 (Y := fun f => if oc S x2 4 = true then rk px kx f (d + 2) 31 81 [some (.ref x0), none, some (.ref x2), none] [.int (S.2.1 x2 9)] S else none) (fun f => rfl) ?_
  refine OkF.grd (fun _ => ?_)
  refine OkF.eq 1 (Y := fun f => if (S.2.1 x2 9) = 0 then rk px kx f (d + 2) 31 84 [some (.ref x0), none, some (.ref x2), none] [] S else rk px kx f (d + 2) 31 91 [some (.ref x0), none, some (.ref x2), none] [] S) (fun f => rfl) ?_
  refine OkF.ite (fun _ => ?_) (fun _ => ?_)
  · refine OkF.eq 2 (Y := fun f => if oc S x0 7 = true then rk px kx f (d + 2) 31 88 [some (.ref x0), none, some (.ref x2), none] [.int (S.2.1 x0 0)] S else none) (fun f => rfl) ?_
    refine OkF.grd (fun _ => ?_)
    exact OkF.ret 2 (fun f => rfl)
  · exact OkF.ret 2 (fun f => rfl)
def b31_35 (k35 : Nat → Nat → Nat → Int32 → Sx → Option (Int32 × Sx)) (x0 : Nat) (x1 : Nat) (x2 : Nat) (x3 : Int32) (S : Sx) : Option (Int32 × Sx) :=
  if (6 : Int32) < x3 then b31_77 x0 x2 S else if oc S x0 7 = true then if oc S x1 8 = true then if (S.2.1 x1 1) ≤ (S.2.1 x0 0) then b31_77 x0 x2 S else if oc S x0 7 = true then (m37 x0 x1 x2 S).bind fun q1 => if q1.1 = 0 then if oc q1.2 x0 7 = true then some (q1.2.2.1 x0 0, q1.2) else none else if oc q1.2 x0 7 = true then (m34 x0 x1 q1.2).bind fun q2 => k35 x0 x1 x2 (x3 + (1 : Int32)) q2 else none else none else none else none
set_option maxRecDepth 100000 in
theorem ob31_35 (d : Nat) (k35 : Nat → Nat → Nat → Int32 → Sx → Option (Int32 × Sx)) (hk35 : ∀ (x0 : Nat) (x1 : Nat) (x2 : Nat) (x3 : Int32) (S : Sx), OkF wI (fun f => rk px kx f (d + 2) 31 35 [some (.ref x0), some (.ref x1), some (.ref x2), some (.int x3)] [] S) (k35 x0 x1 x2 x3 S)) (x0 : Nat) (x1 : Nat) (x2 : Nat) (x3 : Int32) (S : Sx) : OkF wI (fun f => rk px kx f (d + 2) 31 35 [some (.ref x0), some (.ref x1), some (.ref x2), some (.int x3)] [] S) (b31_35 k35 x0 x1 x2 x3 S) := by
  unfold b31_35
  refine OkF.eq 3 (Y := fun f => if (6 : Int32) < x3 then rk px kx f (d + 2) 31 77 [some (.ref x0), some (.ref x1), some (.ref x2), some (.int x3)] [] S else rk px kx f (d + 2) 31 41 [some (.ref x0), some (.ref x1), some (.ref x2), some (.int x3)] [] S) (fun f => rfl) ?_
  refine OkF.ite (fun _ => ?_) (fun _ => ?_)
  · exact OkF.kl (ls1 := [some (.ref x0), none, some (.ref x2), none]) (fun f => rfl) (ob31_77 d x0 x2 S)
  · refine OkF.eq 2 (Y := fun f => if oc S x0 7 = true then rk px kx f (d + 2) 31 45 [some (.ref x0), some (.ref x1), some (.ref x2), some (.int x3)] [.int (S.2.1 x0 0)] S else none) (fun f => rfl) ?_
    refine OkF.grd (fun _ => ?_)
    refine OkF.eq 2 (Y := fun f => if oc S x1 8 = true then rk px kx f (d + 2) 31 49 [some (.ref x0), some (.ref x1), some (.ref x2), some (.int x3)] [.int (S.2.1 x1 1), .int (S.2.1 x0 0)] S else none) (fun f => rfl) ?_
    refine OkF.grd (fun _ => ?_)
    refine OkF.eq 1 (Y := fun f => if (S.2.1 x1 1) ≤ (S.2.1 x0 0) then rk px kx f (d + 2) 31 77 [some (.ref x0), some (.ref x1), some (.ref x2), some (.int x3)] [] S else rk px kx f (d + 2) 31 52 [some (.ref x0), some (.ref x1), some (.ref x2), some (.int x3)] [] S) (fun f => rfl) ?_
    refine OkF.ite (fun _ => ?_) (fun _ => ?_)
    · exact OkF.kl (ls1 := [some (.ref x0), none, some (.ref x2), none]) (fun f => rfl) (ob31_77 d x0 x2 S)
    · refine OkF.eq 4 (Y := fun f => if oc S x0 7 = true then (rk px kx f (d + 1) 37 0 [some (.ref x0), some (.ref x1), some (.ref x2), none, none, none, none] [] S).bind (fun q => rk px kx f (d + 2) 31 58 [some (.ref x0), some (.ref x1), some (.ref x2), some (.int x3)] (q.1.toList ++ []) q.2) else none) (fun f => rfl) ?_
      refine OkF.grd (fun _ => ?_)
      refine OkF.bind (w1 := wI) (om37 (d + 0) x0 x1 x2 S) (fun q1 => ?_)
      refine OkF.eq 1 (Y := fun f => if q1.1 = 0 then rk px kx f (d + 2) 31 61 [some (.ref x0), some (.ref x1), some (.ref x2), some (.int x3)] [] q1.2 else rk px kx f (d + 2) 31 66 [some (.ref x0), some (.ref x1), some (.ref x2), some (.int x3)] [] q1.2) (fun f => rfl) ?_
      refine OkF.ite (fun _ => ?_) (fun _ => ?_)
      · refine OkF.eq 2 (Y := fun f => if oc q1.2 x0 7 = true then rk px kx f (d + 2) 31 65 [some (.ref x0), some (.ref x1), some (.ref x2), some (.int x3)] [.int (q1.2.2.1 x0 0)] q1.2 else none) (fun f => rfl) ?_
        refine OkF.grd (fun _ => ?_)
        exact OkF.ret 1 (fun f => rfl)
      · refine OkF.eq 3 (Y := fun f => if oc q1.2 x0 7 = true then (rk px kx f (d + 1) 34 0 [some (.ref x0), some (.ref x1)] [] q1.2).bind (fun q => rk px kx f (d + 2) 31 71 [some (.ref x0), some (.ref x1), some (.ref x2), some (.int x3)] (q.1.toList ++ []) q.2) else none) (fun f => rfl) ?_
        refine OkF.grd (fun _ => ?_)
        refine OkF.bind (w1 := wV) (om34 (d + 1) x0 x1 q1.2) (fun q2 => ?_)
        refine OkF.eq 2 (Y := fun f => rk px kx f (d + 2) 31 35 [some (.ref x0), some (.ref x1), some (.ref x2), some (.int (x3 + (1 : Int32)))] [] q2) (fun f => rfl) ?_
        exact OkF.kl (ls1 := [some (.ref x0), some (.ref x1), some (.ref x2), some (.int (x3 + (1 : Int32)))]) (fun f => rfl) (hk35 x0 x1 x2 (x3 + (1 : Int32)) q2)
def l31_35 : Nat → Nat → Nat → Nat → Int32 → Sx → Option (Int32 × Sx)
  | 0 => fun _ _ _ _ _ => none
  | n + 1 => fun x0 x1 x2 x3 S => b31_35 (l31_35 n) x0 x1 x2 x3 S
set_option maxRecDepth 100000 in
theorem ol31_35 (d : Nat) : ∀ (n : Nat) (x0 : Nat) (x1 : Nat) (x2 : Nat) (x3 : Int32) (S : Sx), OkF wI (fun f => rk px kx f (d + 2) 31 35 [some (.ref x0), some (.ref x1), some (.ref x2), some (.int x3)] [] S) (l31_35 n x0 x1 x2 x3 S) := by
  intro n
  induction n with
  | zero => intro x0 x1 x2 x3 S; exact OkF.no
  | succ n ih => intro x0 x1 x2 x3 S; exact ob31_35 d (l31_35 n) ih x0 x1 x2 x3 S
def m31 (x0 : Nat) (x1 : Nat) (x2 : Nat) (S : Sx) : Option (Int32 × Sx) :=
  if oc S x2 4 = true then (m32 x2 S).bind fun q3 => if oc q3 x0 7 = true then lt (sI q3 x0 0 (0 : Int32)) fun S4 => if oc S4 x0 7 = true then (m34 x0 x1 S4).bind fun q5 => if oc q5 x0 7 = true then (m35 x0 x1 x2 q5).bind fun q6 => if q6.1 = 0 then if oc q6.2 x0 7 = true then some (q6.2.2.1 x0 0, q6.2) else none else if oc q6.2 x0 7 = true then (m34 x0 x1 q6.2).bind fun q7 => l31_35 1000 x0 x1 x2 (0 : Int32) q7 else none else none else none else none else none
set_option maxRecDepth 100000 in
theorem om31 (d : Nat) (x0 : Nat) (x1 : Nat) (x2 : Nat) (S : Sx) : OkF wI (fun f => rk px kx f (d + 2) 31 0 [some (.ref x0), some (.ref x1), some (.ref x2), none] [] S) (m31 x0 x1 x2 S) := by
  unfold m31
  refine OkF.eq 2 (Y := fun f => if oc S x2 4 = true then (rk px kx f (d + 1) 32 0 [some (.ref x2)] [] S).bind (fun q => rk px kx f (d + 2) 31 4 [some (.ref x0), some (.ref x1), some (.ref x2), none] (q.1.toList ++ []) q.2) else none) (fun f => rfl) ?_
  refine OkF.grd (fun _ => ?_)
  refine OkF.bind (w1 := wV) (om32 (d + 0) x2 S) (fun q3 => ?_)
  refine OkF.eq 3 (Y := fun f => if oc q3 x0 7 = true then rk px kx f (d + 2) 31 9 [some (.ref x0), some (.ref x1), some (.ref x2), none] [] (sI q3 x0 0 (0 : Int32)) else none) (fun f => rfl) ?_
  refine OkF.grd (fun _ => ?_)
  refine OkF.nm (fun S4 => ?_)
  refine OkF.eq 3 (Y := fun f => if oc S4 x0 7 = true then (rk px kx f (d + 1) 34 0 [some (.ref x0), some (.ref x1)] [] S4).bind (fun q => rk px kx f (d + 2) 31 14 [some (.ref x0), some (.ref x1), some (.ref x2), none] (q.1.toList ++ []) q.2) else none) (fun f => rfl) ?_
  refine OkF.grd (fun _ => ?_)
  refine OkF.bind (w1 := wV) (om34 (d + 1) x0 x1 S4) (fun q5 => ?_)
  refine OkF.eq 4 (Y := fun f => if oc q5 x0 7 = true then (rk px kx f (d + 1) 35 0 [some (.ref x0), some (.ref x1), some (.ref x2), none, none, none] [] q5).bind (fun q => rk px kx f (d + 2) 31 20 [some (.ref x0), some (.ref x1), some (.ref x2), none] (q.1.toList ++ []) q.2) else none) (fun f => rfl) ?_
  refine OkF.grd (fun _ => ?_)
  refine OkF.bind (w1 := wI) (om35 (d + 0) x0 x1 x2 q5) (fun q6 => ?_)
  refine OkF.eq 1 (Y := fun f => if q6.1 = 0 then rk px kx f (d + 2) 31 23 [some (.ref x0), some (.ref x1), some (.ref x2), none] [] q6.2 else rk px kx f (d + 2) 31 28 [some (.ref x0), some (.ref x1), some (.ref x2), none] [] q6.2) (fun f => rfl) ?_
  refine OkF.ite (fun _ => ?_) (fun _ => ?_)
  · refine OkF.eq 2 (Y := fun f => if oc q6.2 x0 7 = true then rk px kx f (d + 2) 31 27 [some (.ref x0), some (.ref x1), some (.ref x2), none] [.int (q6.2.2.1 x0 0)] q6.2 else none) (fun f => rfl) ?_
    refine OkF.grd (fun _ => ?_)
    exact OkF.ret 1 (fun f => rfl)
  · refine OkF.eq 3 (Y := fun f => if oc q6.2 x0 7 = true then (rk px kx f (d + 1) 34 0 [some (.ref x0), some (.ref x1)] [] q6.2).bind (fun q => rk px kx f (d + 2) 31 33 [some (.ref x0), some (.ref x1), some (.ref x2), none] (q.1.toList ++ []) q.2) else none) (fun f => rfl) ?_
    refine OkF.grd (fun _ => ?_)
    refine OkF.bind (w1 := wV) (om34 (d + 1) x0 x1 q6.2) (fun q7 => ?_)
    refine OkF.eq 2 (Y := fun f => rk px kx f (d + 2) 31 35 [some (.ref x0), some (.ref x1), some (.ref x2), some (.int (0 : Int32))] [] q7) (fun f => rfl) ?_
    exact OkF.kl (ls1 := [some (.ref x0), some (.ref x1), some (.ref x2), some (.int (0 : Int32))]) (fun f => rfl) (ol31_35 d 1000 x0 x1 x2 (0 : Int32) q7)
-- DoorSold.fault(I)I
def m30 (x0 : Nat) (x1 : Int32) (S : Sx) : Option (Int32 × Sx) :=
  (m28 x1 S).bind fun q1 => if q1.1 = 0 then if oc q1.2 x0 11 = true then (q1.2.2.2.2.1 x0 1).bind fun a2 => if inb x1 (aw q1.2 3 a2) = true then (q1.2.2.2.2.1 a2 x1.toNatClampNeg).bind fun a3 => if oc q1.2 a3 8 = true then (m20 a3 q1.2).bind fun q4 => if q4.1 = 0 then if oc q4.2 x0 11 = true then (q4.2.2.2.2.1 x0 6).bind fun a5 => if oc q4.2 x0 11 = true then (q4.2.2.2.2.1 x0 1).bind fun a6 => if inb x1 (aw q4.2 3 a6) = true then (q4.2.2.2.2.1 a6 x1.toNatClampNeg).bind fun a7 => if oc q4.2 x0 11 = true then (q4.2.2.2.2.1 x0 4).bind fun a8 => if oc q4.2 a5 7 = true then (m31 a5 a7 a8 q4.2).bind fun q9 => some (q9.1, q9.2) else none else none else none else none else none else if oc q4.2 x0 11 = true then (m15 x0 (1 : Int32) q4.2).bind fun q10 => some (q10.1, q10.2) else none else none else none else none else some ((-1 : Int32), q1.2)
set_option maxRecDepth 100000 in
theorem om30 (d : Nat) (x0 : Nat) (x1 : Int32) (S : Sx) : OkF wI (fun f => rk px kx f (d + 3) 30 0 [some (.ref x0), some (.int x1)] [] S) (m30 x0 x1 S) := by
  unfold m30
  refine OkF.eq 2 (Y := fun f => (rk px kx f (d + 2) 28 0 [some (.int x1)] [] S).bind (fun q => rk px kx f (d + 3) 30 4 [some (.ref x0), some (.int x1)] (q.1.toList ++ []) q.2)) (fun f => rfl) ?_
  refine OkF.bind (w1 := wI) (om28 (d + 2) x1 S) (fun q1 => ?_)
  refine OkF.eq 1 (Y := fun f => if q1.1 = 0 then rk px kx f (d + 3) 30 9 [some (.ref x0), some (.int x1)] [] q1.2 else rk px kx f (d + 3) 30 7 [some (.ref x0), some (.int x1)] [] q1.2) (fun f => rfl) ?_
  refine OkF.ite (fun _ => ?_) (fun _ => ?_)
  · refine OkF.eq 2 (Y := fun f => if oc q1.2 x0 11 = true then rk px kx f (d + 3) 30 13 [some (.ref x0), some (.int x1)] (va_rf (q1.2.2.2.2.1 x0 1) :: []) q1.2 else none) (fun f => rfl) ?_
    refine OkF.grd (fun _ => ?_)
    refine OkF.rf (fun a2 => ?_)
    refine OkF.eq 2 (Y := fun f => if inb x1 (aw q1.2 3 a2) = true then rk px kx f (d + 3) 30 15 [some (.ref x0), some (.int x1)] (va_rf (q1.2.2.2.2.1 a2 x1.toNatClampNeg) :: []) q1.2 else none) (fun f => rfl) ?_
    refine OkF.grd (fun _ => ?_)
    refine OkF.rf (fun a3 => ?_)
    refine OkF.eq 1 (Y := fun f => if oc q1.2 a3 8 = true then (rk px kx f (d + 2) 20 0 [some (.ref a3)] [] q1.2).bind (fun q => rk px kx f (d + 3) 30 18 [some (.ref x0), some (.int x1)] (q.1.toList ++ []) q.2) else none) (fun f => rfl) ?_
    refine OkF.grd (fun _ => ?_)
    refine OkF.bind (w1 := wI) (om20 (d + 2) a3 q1.2) (fun q4 => ?_)
    refine OkF.eq 1 (Y := fun f => if q4.1 = 0 then rk px kx f (d + 3) 30 27 [some (.ref x0), some (.int x1)] [] q4.2 else rk px kx f (d + 3) 30 21 [some (.ref x0), some (.int x1)] [] q4.2) (fun f => rfl) ?_
    refine OkF.ite (fun _ => ?_) (fun _ => ?_)
    · refine OkF.eq 2 (Y := fun f => if oc q4.2 x0 11 = true then rk px kx f (d + 3) 30 31 [some (.ref x0), some (.int x1)] (va_rf (q4.2.2.2.2.1 x0 6) :: []) q4.2 else none) (fun f => rfl) ?_
      refine OkF.grd (fun _ => ?_)
      refine OkF.rf (fun a5 => ?_)
      refine OkF.eq 2 (Y := fun f => if oc q4.2 x0 11 = true then rk px kx f (d + 3) 30 35 [some (.ref x0), some (.int x1)] (va_rf (q4.2.2.2.2.1 x0 1) :: [.ref a5]) q4.2 else none) (fun f => rfl) ?_
      refine OkF.grd (fun _ => ?_)
      refine OkF.rf (fun a6 => ?_)
      refine OkF.eq 2 (Y := fun f => if inb x1 (aw q4.2 3 a6) = true then rk px kx f (d + 3) 30 37 [some (.ref x0), some (.int x1)] (va_rf (q4.2.2.2.2.1 a6 x1.toNatClampNeg) :: [.ref a5]) q4.2 else none) (fun f => rfl) ?_
      refine OkF.grd (fun _ => ?_)
      refine OkF.rf (fun a7 => ?_)
      refine OkF.eq 2 (Y := fun f => if oc q4.2 x0 11 = true then rk px kx f (d + 3) 30 41 [some (.ref x0), some (.int x1)] (va_rf (q4.2.2.2.2.1 x0 4) :: [.ref a7, .ref a5]) q4.2 else none) (fun f => rfl) ?_
      refine OkF.grd (fun _ => ?_)
      refine OkF.rf (fun a8 => ?_)
      refine OkF.eq 1 (Y := fun f => if oc q4.2 a5 7 = true then (rk px kx f (d + 2) 31 0 [some (.ref a5), some (.ref a7), some (.ref a8), none] [] q4.2).bind (fun q => rk px kx f (d + 3) 30 44 [some (.ref x0), some (.int x1)] (q.1.toList ++ []) q.2) else none) (fun f => rfl) ?_
      refine OkF.grd (fun _ => ?_)
      refine OkF.bind (w1 := wI) (om31 (d + 0) a5 a7 a8 q4.2) (fun q9 => ?_)
      exact OkF.ret 1 (fun f => rfl)
    · refine OkF.eq 3 (Y := fun f => if oc q4.2 x0 11 = true then (rk px kx f (d + 2) 15 0 [some (.ref x0), some (.int (1 : Int32))] [] q4.2).bind (fun q => rk px kx f (d + 3) 30 26 [some (.ref x0), some (.int x1)] (q.1.toList ++ []) q.2) else none) (fun f => rfl) ?_
      refine OkF.grd (fun _ => ?_)
      refine OkF.bind (w1 := wI) (om15 (d + 2) x0 (1 : Int32) q4.2) (fun q10 => ?_)
      exact OkF.ret 1 (fun f => rfl)
  · exact OkF.ret 2 (fun f => rfl)
-- DoorSold$Country.become(LDoorSold$Country;)V
def m41 (x0 : Nat) (x1 : Nat) (S : Sx) : Option (Sx) :=
  if oc S x1 4 = true then (S.2.2.2.1 x1 1).bind fun a1 => if oc S x0 4 = true then (S.2.2.2.1 x0 1).bind fun a2 => if cpk S a1 a2 (0 : Int32) (0 : Int32) (6 : Int32) = true then lt (cpS S a1 (0 : Int32).toNatClampNeg a2 (0 : Int32).toNatClampNeg (6 : Int32).toNatClampNeg) fun S3 => if oc S3 x1 4 = true then (S3.2.2.2.1 x1 2).bind fun a4 => if oc S3 x0 4 = true then (S3.2.2.2.1 x0 2).bind fun a5 => if cpk S3 a4 a5 (0 : Int32) (0 : Int32) (6 : Int32) = true then lt (cpS S3 a4 (0 : Int32).toNatClampNeg a5 (0 : Int32).toNatClampNeg (6 : Int32).toNatClampNeg) fun S6 => if oc S6 x1 4 = true then (S6.2.2.2.1 x1 3).bind fun a7 => if oc S6 x0 4 = true then (S6.2.2.2.1 x0 3).bind fun a8 => if cpk S6 a7 a8 (0 : Int32) (0 : Int32) (6 : Int32) = true then lt (cpS S6 a7 (0 : Int32).toNatClampNeg a8 (0 : Int32).toNatClampNeg (6 : Int32).toNatClampNeg) fun S9 => if oc S9 x1 4 = true then (S9.2.2.2.1 x1 4).bind fun a10 => if oc S9 x0 4 = true then (S9.2.2.2.1 x0 4).bind fun a11 => if cpk S9 a10 a11 (0 : Int32) (0 : Int32) (6 : Int32) = true then lt (cpS S9 a10 (0 : Int32).toNatClampNeg a11 (0 : Int32).toNatClampNeg (6 : Int32).toNatClampNeg) fun S12 => if oc S12 x1 4 = true then (S12.2.2.2.1 x1 5).bind fun a13 => if oc S12 x0 4 = true then (S12.2.2.2.1 x0 5).bind fun a14 => if cpk S12 a13 a14 (0 : Int32) (0 : Int32) (6 : Int32) = true then lt (cpS S12 a13 (0 : Int32).toNatClampNeg a14 (0 : Int32).toNatClampNeg (6 : Int32).toNatClampNeg) fun S15 => if oc S15 x1 4 = true then (S15.2.2.2.1 x1 6).bind fun a16 => if oc S15 x0 4 = true then (S15.2.2.2.1 x0 6).bind fun a17 => if cpk S15 a16 a17 (0 : Int32) (0 : Int32) (6 : Int32) = true then lt (cpS S15 a16 (0 : Int32).toNatClampNeg a17 (0 : Int32).toNatClampNeg (6 : Int32).toNatClampNeg) fun S18 => if oc S18 x1 4 = true then (S18.2.2.2.1 x1 7).bind fun a19 => if oc S18 x0 4 = true then (S18.2.2.2.1 x0 7).bind fun a20 => if cpk S18 a19 a20 (0 : Int32) (0 : Int32) (40 : Int32) = true then lt (cpS S18 a19 (0 : Int32).toNatClampNeg a20 (0 : Int32).toNatClampNeg (40 : Int32).toNatClampNeg) fun S21 => if oc S21 x1 4 = true then if oc S21 x0 4 = true then lt (sI S21 x0 8 (S21.2.1 x1 8)) fun S22 => if oc S22 x1 4 = true then if oc S22 x0 4 = true then lt (sI S22 x0 9 (S22.2.1 x1 9)) fun S23 => if oc S23 x1 4 = true then if oc S23 x0 4 = true then lt (sI S23 x0 10 (S23.2.1 x1 10)) fun S24 => if oc S24 x1 4 = true then if oc S24 x0 4 = true then lt (sI S24 x0 11 (S24.2.1 x1 11)) fun S25 => if oc S25 x1 4 = true then if oc S25 x0 4 = true then lt (sI S25 x0 12 (S25.2.1 x1 12)) fun S26 => if oc S26 x1 4 = true then if oc S26 x0 4 = true then lt (sI S26 x0 13 (S26.2.1 x1 13)) fun S27 => if oc S27 x1 4 = true then if oc S27 x0 4 = true then lt (sI S27 x0 14 (S27.2.1 x1 14)) fun S28 => if oc S28 x1 4 = true then if oc S28 x0 4 = true then lt (sI S28 x0 15 (S28.2.1 x1 15)) fun S29 => some S29 else none else none else none else none else none else none else none else none else none else none else none else none else none else none else none else none else none else none else none else none else none else none else none else none else none else none else none else none else none else none else none else none else none else none else none else none else none
set_option maxRecDepth 100000 in
theorem om41 (d : Nat) (x0 : Nat) (x1 : Nat) (S : Sx) : OkF wV (fun f => rk px kx f (d + 1) 41 0 [some (.ref x0), some (.ref x1)] [] S) (m41 x0 x1 S) := by
  unfold m41
  refine OkF.eq 2 (Y := fun f => if oc S x1 4 = true then rk px kx f (d + 1) 41 4 [some (.ref x0), some (.ref x1)] (va_rf (S.2.2.2.1 x1 1) :: []) S else none) (fun f => rfl) ?_
  refine OkF.grd (fun _ => ?_)
  refine OkF.rf (fun a1 => ?_)
  refine OkF.eq 3 (Y := fun f => if oc S x0 4 = true then rk px kx f (d + 1) 41 9 [some (.ref x0), some (.ref x1)] (va_rf (S.2.2.2.1 x0 1) :: [.int (0 : Int32), .ref a1]) S else none) (fun f => rfl) ?_
  refine OkF.grd (fun _ => ?_)
  refine OkF.rf (fun a2 => ?_)
  refine OkF.eq 3 (Y := fun f => if cpk S a1 a2 (0 : Int32) (0 : Int32) (6 : Int32) = true then rk px kx f (d + 1) 41 15 [some (.ref x0), some (.ref x1)] [] (cpS S a1 (0 : Int32).toNatClampNeg a2 (0 : Int32).toNatClampNeg (6 : Int32).toNatClampNeg) else none) (fun f => rfl) ?_
  refine OkF.grd (fun _ => ?_)
  refine OkF.nm (fun S3 => ?_)
  refine OkF.eq 2 (Y := fun f => if oc S3 x1 4 = true then rk px kx f (d + 1) 41 19 [some (.ref x0), some (.ref x1)] (va_rf (S3.2.2.2.1 x1 2) :: []) S3 else none) (fun f => rfl) ?_
  refine OkF.grd (fun _ => ?_)
  refine OkF.rf (fun a4 => ?_)
  refine OkF.eq 3 (Y := fun f => if oc S3 x0 4 = true then rk px kx f (d + 1) 41 24 [some (.ref x0), some (.ref x1)] (va_rf (S3.2.2.2.1 x0 2) :: [.int (0 : Int32), .ref a4]) S3 else none) (fun f => rfl) ?_
  refine OkF.grd (fun _ => ?_)
  refine OkF.rf (fun a5 => ?_)
  refine OkF.eq 3 (Y := fun f => if cpk S3 a4 a5 (0 : Int32) (0 : Int32) (6 : Int32) = true then rk px kx f (d + 1) 41 30 [some (.ref x0), some (.ref x1)] [] (cpS S3 a4 (0 : Int32).toNatClampNeg a5 (0 : Int32).toNatClampNeg (6 : Int32).toNatClampNeg) else none) (fun f => rfl) ?_
  refine OkF.grd (fun _ => ?_)
  refine OkF.nm (fun S6 => ?_)
  refine OkF.eq 2 (Y := fun f => if oc S6 x1 4 = true then rk px kx f (d + 1) 41 34 [some (.ref x0), some (.ref x1)] (va_rf (S6.2.2.2.1 x1 3) :: []) S6 else none) (fun f => rfl) ?_
  refine OkF.grd (fun _ => ?_)
  refine OkF.rf (fun a7 => ?_)
  refine OkF.eq 3 (Y := fun f => if oc S6 x0 4 = true then rk px kx f (d + 1) 41 39 [some (.ref x0), some (.ref x1)] (va_rf (S6.2.2.2.1 x0 3) :: [.int (0 : Int32), .ref a7]) S6 else none) (fun f => rfl) ?_
  refine OkF.grd (fun _ => ?_)
  refine OkF.rf (fun a8 => ?_)
  refine OkF.eq 3 (Y := fun f => if cpk S6 a7 a8 (0 : Int32) (0 : Int32) (6 : Int32) = true then rk px kx f (d + 1) 41 45 [some (.ref x0), some (.ref x1)] [] (cpS S6 a7 (0 : Int32).toNatClampNeg a8 (0 : Int32).toNatClampNeg (6 : Int32).toNatClampNeg) else none) (fun f => rfl) ?_
  refine OkF.grd (fun _ => ?_)
  refine OkF.nm (fun S9 => ?_)
  refine OkF.eq 2 (Y := fun f => if oc S9 x1 4 = true then rk px kx f (d + 1) 41 49 [some (.ref x0), some (.ref x1)] (va_rf (S9.2.2.2.1 x1 4) :: []) S9 else none) (fun f => rfl) ?_
  refine OkF.grd (fun _ => ?_)
  refine OkF.rf (fun a10 => ?_)
  refine OkF.eq 3 (Y := fun f => if oc S9 x0 4 = true then rk px kx f (d + 1) 41 54 [some (.ref x0), some (.ref x1)] (va_rf (S9.2.2.2.1 x0 4) :: [.int (0 : Int32), .ref a10]) S9 else none) (fun f => rfl) ?_
  refine OkF.grd (fun _ => ?_)
  refine OkF.rf (fun a11 => ?_)
  refine OkF.eq 3 (Y := fun f => if cpk S9 a10 a11 (0 : Int32) (0 : Int32) (6 : Int32) = true then rk px kx f (d + 1) 41 60 [some (.ref x0), some (.ref x1)] [] (cpS S9 a10 (0 : Int32).toNatClampNeg a11 (0 : Int32).toNatClampNeg (6 : Int32).toNatClampNeg) else none) (fun f => rfl) ?_
  refine OkF.grd (fun _ => ?_)
  refine OkF.nm (fun S12 => ?_)
  refine OkF.eq 2 (Y := fun f => if oc S12 x1 4 = true then rk px kx f (d + 1) 41 64 [some (.ref x0), some (.ref x1)] (va_rf (S12.2.2.2.1 x1 5) :: []) S12 else none) (fun f => rfl) ?_
  refine OkF.grd (fun _ => ?_)
  refine OkF.rf (fun a13 => ?_)
  refine OkF.eq 3 (Y := fun f => if oc S12 x0 4 = true then rk px kx f (d + 1) 41 69 [some (.ref x0), some (.ref x1)] (va_rf (S12.2.2.2.1 x0 5) :: [.int (0 : Int32), .ref a13]) S12 else none) (fun f => rfl) ?_
  refine OkF.grd (fun _ => ?_)
  refine OkF.rf (fun a14 => ?_)
  refine OkF.eq 3 (Y := fun f => if cpk S12 a13 a14 (0 : Int32) (0 : Int32) (6 : Int32) = true then rk px kx f (d + 1) 41 75 [some (.ref x0), some (.ref x1)] [] (cpS S12 a13 (0 : Int32).toNatClampNeg a14 (0 : Int32).toNatClampNeg (6 : Int32).toNatClampNeg) else none) (fun f => rfl) ?_
  refine OkF.grd (fun _ => ?_)
  refine OkF.nm (fun S15 => ?_)
  refine OkF.eq 2 (Y := fun f => if oc S15 x1 4 = true then rk px kx f (d + 1) 41 79 [some (.ref x0), some (.ref x1)] (va_rf (S15.2.2.2.1 x1 6) :: []) S15 else none) (fun f => rfl) ?_
  refine OkF.grd (fun _ => ?_)
  refine OkF.rf (fun a16 => ?_)
  refine OkF.eq 3 (Y := fun f => if oc S15 x0 4 = true then rk px kx f (d + 1) 41 84 [some (.ref x0), some (.ref x1)] (va_rf (S15.2.2.2.1 x0 6) :: [.int (0 : Int32), .ref a16]) S15 else none) (fun f => rfl) ?_
  refine OkF.grd (fun _ => ?_)
  refine OkF.rf (fun a17 => ?_)
  refine OkF.eq 3 (Y := fun f => if cpk S15 a16 a17 (0 : Int32) (0 : Int32) (6 : Int32) = true then rk px kx f (d + 1) 41 90 [some (.ref x0), some (.ref x1)] [] (cpS S15 a16 (0 : Int32).toNatClampNeg a17 (0 : Int32).toNatClampNeg (6 : Int32).toNatClampNeg) else none) (fun f => rfl) ?_
  refine OkF.grd (fun _ => ?_)
  refine OkF.nm (fun S18 => ?_)
  refine OkF.eq 2 (Y := fun f => if oc S18 x1 4 = true then rk px kx f (d + 1) 41 94 [some (.ref x0), some (.ref x1)] (va_rf (S18.2.2.2.1 x1 7) :: []) S18 else none) (fun f => rfl) ?_
  refine OkF.grd (fun _ => ?_)
  refine OkF.rf (fun a19 => ?_)
  refine OkF.eq 3 (Y := fun f => if oc S18 x0 4 = true then rk px kx f (d + 1) 41 99 [some (.ref x0), some (.ref x1)] (va_rf (S18.2.2.2.1 x0 7) :: [.int (0 : Int32), .ref a19]) S18 else none) (fun f => rfl) ?_
  refine OkF.grd (fun _ => ?_)
  refine OkF.rf (fun a20 => ?_)
  refine OkF.eq 3 (Y := fun f => if cpk S18 a19 a20 (0 : Int32) (0 : Int32) (40 : Int32) = true then rk px kx f (d + 1) 41 105 [some (.ref x0), some (.ref x1)] [] (cpS S18 a19 (0 : Int32).toNatClampNeg a20 (0 : Int32).toNatClampNeg (40 : Int32).toNatClampNeg) else none) (fun f => rfl) ?_
  refine OkF.grd (fun _ => ?_)
  refine OkF.nm (fun S21 => ?_)
  refine OkF.eq 3 (Y := fun f => if oc S21 x1 4 = true then rk px kx f (d + 1) 41 110 [some (.ref x0), some (.ref x1)] [.int (S21.2.1 x1 8), .ref x0] S21 else none) (fun f => rfl) ?_
  refine OkF.grd (fun _ => ?_)
  refine OkF.eq 1 (Y := fun f => if oc S21 x0 4 = true then rk px kx f (d + 1) 41 113 [some (.ref x0), some (.ref x1)] [] (sI S21 x0 8 (S21.2.1 x1 8)) else none) (fun f => rfl) ?_
  refine OkF.grd (fun _ => ?_)
  refine OkF.nm (fun S22 => ?_)
  refine OkF.eq 3 (Y := fun f => if oc S22 x1 4 = true then rk px kx f (d + 1) 41 118 [some (.ref x0), some (.ref x1)] [.int (S22.2.1 x1 9), .ref x0] S22 else none) (fun f => rfl) ?_
  refine OkF.grd (fun _ => ?_)
  refine OkF.eq 1 (Y := fun f => if oc S22 x0 4 = true then rk px kx f (d + 1) 41 121 [some (.ref x0), some (.ref x1)] [] (sI S22 x0 9 (S22.2.1 x1 9)) else none) (fun f => rfl) ?_
  refine OkF.grd (fun _ => ?_)
  refine OkF.nm (fun S23 => ?_)
  refine OkF.eq 3 (Y := fun f => if oc S23 x1 4 = true then rk px kx f (d + 1) 41 126 [some (.ref x0), some (.ref x1)] [.int (S23.2.1 x1 10), .ref x0] S23 else none) (fun f => rfl) ?_
  refine OkF.grd (fun _ => ?_)
  refine OkF.eq 1 (Y := fun f => if oc S23 x0 4 = true then rk px kx f (d + 1) 41 129 [some (.ref x0), some (.ref x1)] [] (sI S23 x0 10 (S23.2.1 x1 10)) else none) (fun f => rfl) ?_
  refine OkF.grd (fun _ => ?_)
  refine OkF.nm (fun S24 => ?_)
  refine OkF.eq 3 (Y := fun f => if oc S24 x1 4 = true then rk px kx f (d + 1) 41 134 [some (.ref x0), some (.ref x1)] [.int (S24.2.1 x1 11), .ref x0] S24 else none) (fun f => rfl) ?_
  refine OkF.grd (fun _ => ?_)
  refine OkF.eq 1 (Y := fun f => if oc S24 x0 4 = true then rk px kx f (d + 1) 41 137 [some (.ref x0), some (.ref x1)] [] (sI S24 x0 11 (S24.2.1 x1 11)) else none) (fun f => rfl) ?_
  refine OkF.grd (fun _ => ?_)
  refine OkF.nm (fun S25 => ?_)
  refine OkF.eq 3 (Y := fun f => if oc S25 x1 4 = true then rk px kx f (d + 1) 41 142 [some (.ref x0), some (.ref x1)] [.int (S25.2.1 x1 12), .ref x0] S25 else none) (fun f => rfl) ?_
  refine OkF.grd (fun _ => ?_)
  refine OkF.eq 1 (Y := fun f => if oc S25 x0 4 = true then rk px kx f (d + 1) 41 145 [some (.ref x0), some (.ref x1)] [] (sI S25 x0 12 (S25.2.1 x1 12)) else none) (fun f => rfl) ?_
  refine OkF.grd (fun _ => ?_)
  refine OkF.nm (fun S26 => ?_)
  refine OkF.eq 3 (Y := fun f => if oc S26 x1 4 = true then rk px kx f (d + 1) 41 150 [some (.ref x0), some (.ref x1)] [.int (S26.2.1 x1 13), .ref x0] S26 else none) (fun f => rfl) ?_
  refine OkF.grd (fun _ => ?_)
  refine OkF.eq 1 (Y := fun f => if oc S26 x0 4 = true then rk px kx f (d + 1) 41 153 [some (.ref x0), some (.ref x1)] [] (sI S26 x0 13 (S26.2.1 x1 13)) else none) (fun f => rfl) ?_
  refine OkF.grd (fun _ => ?_)
  refine OkF.nm (fun S27 => ?_)
  refine OkF.eq 3 (Y := fun f => if oc S27 x1 4 = true then rk px kx f (d + 1) 41 158 [some (.ref x0), some (.ref x1)] [.int (S27.2.1 x1 14), .ref x0] S27 else none) (fun f => rfl) ?_
  refine OkF.grd (fun _ => ?_)
  refine OkF.eq 1 (Y := fun f => if oc S27 x0 4 = true then rk px kx f (d + 1) 41 161 [some (.ref x0), some (.ref x1)] [] (sI S27 x0 14 (S27.2.1 x1 14)) else none) (fun f => rfl) ?_
  refine OkF.grd (fun _ => ?_)
  refine OkF.nm (fun S28 => ?_)
  refine OkF.eq 3 (Y := fun f => if oc S28 x1 4 = true then rk px kx f (d + 1) 41 166 [some (.ref x0), some (.ref x1)] [.int (S28.2.1 x1 15), .ref x0] S28 else none) (fun f => rfl) ?_
  refine OkF.grd (fun _ => ?_)
  refine OkF.eq 1 (Y := fun f => if oc S28 x0 4 = true then rk px kx f (d + 1) 41 169 [some (.ref x0), some (.ref x1)] [] (sI S28 x0 15 (S28.2.1 x1 15)) else none) (fun f => rfl) ?_
  refine OkF.grd (fun _ => ?_)
  refine OkF.nm (fun S29 => ?_)
  exact OkF.ret 1 (fun f => rfl)
-- DoorSold.country(I)I
def b40_72 (k72 : Nat → Int32 → Sx → Option (Int32 × Sx)) (x0 : Nat) (x2 : Int32) (S : Sx) : Option (Int32 × Sx) :=
  if (3 : Int32) ≤ x2 then if oc S x0 11 = true then (S.2.2.2.1 x0 3).bind fun a1 => if oc S a1 4 = true then some (S.2.1 a1 9, S) else none else none else if oc S x0 11 = true then (S.2.2.2.1 x0 5).bind fun a2 => if inb x2 (aw S 5 a2) = true then (S.2.2.2.1 a2 x2.toNatClampNeg).bind fun a3 => if oc S a3 4 = true then (m32 a3 S).bind fun q4 => k72 x0 (x2 + (1 : Int32)) q4 else none else none else none
set_option maxRecDepth 100000 in
theorem ob40_72 (d : Nat) (k72 : Nat → Int32 → Sx → Option (Int32 × Sx)) (hk72 : ∀ (x0 : Nat) (x2 : Int32) (S : Sx), OkF wI (fun f => rk px kx f (d + 3) 40 72 [some (.ref x0), none, some (.int x2)] [] S) (k72 x0 x2 S)) (x0 : Nat) (x2 : Int32) (S : Sx) : OkF wI (fun f => rk px kx f (d + 3) 40 72 [some (.ref x0), none, some (.int x2)] [] S) (b40_72 k72 x0 x2 S) := by
  unfold b40_72
  refine OkF.eq 3 (Y := fun f => if (3 : Int32) ≤ x2 then rk px kx f (d + 3) 40 92 [some (.ref x0), none, some (.int x2)] [] S else rk px kx f (d + 3) 40 77 [some (.ref x0), none, some (.int x2)] [] S) (fun f => rfl) ?_
  refine OkF.ite (fun _ => ?_) (fun _ => ?_)
  · refine OkF.eq 2 (Y := fun f => if oc S x0 11 = true then rk px kx f (d + 3) 40 96 [some (.ref x0), none, some (.int x2)] (va_rf (S.2.2.2.1 x0 3) :: []) S else none) (fun f => rfl) ?_
    refine OkF.grd (fun _ => ?_)
    refine OkF.rf (fun a1 => ?_)
    refine OkF.eq 1 (Y := fun f => if oc S a1 4 = true then rk px kx f (d + 3) 40 99 [some (.ref x0), none, some (.int x2)] [.int (S.2.1 a1 9)] S else none) (fun f => rfl) ?_
    refine OkF.grd (fun _ => ?_)
    exact OkF.ret 1 (fun f => rfl)
  · refine OkF.eq 2 (Y := fun f => if oc S x0 11 = true then rk px kx f (d + 3) 40 81 [some (.ref x0), none, some (.int x2)] (va_rf (S.2.2.2.1 x0 5) :: []) S else none) (fun f => rfl) ?_
    refine OkF.grd (fun _ => ?_)
    refine OkF.rf (fun a2 => ?_)
    refine OkF.eq 2 (Y := fun f => if inb x2 (aw S 5 a2) = true then rk px kx f (d + 3) 40 83 [some (.ref x0), none, some (.int x2)] (va_rf (S.2.2.2.1 a2 x2.toNatClampNeg) :: []) S else none) (fun f => rfl) ?_
    refine OkF.grd (fun _ => ?_)
    refine OkF.rf (fun a3 => ?_)
    refine OkF.eq 1 (Y := fun f => if oc S a3 4 = true then (rk px kx f (d + 2) 32 0 [some (.ref a3)] [] S).bind (fun q => rk px kx f (d + 3) 40 86 [some (.ref x0), none, some (.int x2)] (q.1.toList ++ []) q.2) else none) (fun f => rfl) ?_
    refine OkF.grd (fun _ => ?_)
    refine OkF.bind (w1 := wV) (om32 (d + 1) a3 S) (fun q4 => ?_)
    refine OkF.eq 2 (Y := fun f => rk px kx f (d + 3) 40 72 [some (.ref x0), none, some (.int (x2 + (1 : Int32)))] [] q4) (fun f => rfl) ?_
    exact OkF.kl (ls1 := [some (.ref x0), none, some (.int (x2 + (1 : Int32)))]) (fun f => rfl) (hk72 x0 (x2 + (1 : Int32)) q4)
def l40_72 : Nat → Nat → Int32 → Sx → Option (Int32 × Sx)
  | 0 => fun _ _ _ => none
  | n + 1 => fun x0 x2 S => b40_72 (l40_72 n) x0 x2 S
set_option maxRecDepth 100000 in
theorem ol40_72 (d : Nat) : ∀ (n : Nat) (x0 : Nat) (x2 : Int32) (S : Sx), OkF wI (fun f => rk px kx f (d + 3) 40 72 [some (.ref x0), none, some (.int x2)] [] S) (l40_72 n x0 x2 S) := by
  intro n
  induction n with
  | zero => intro x0 x2 S; exact OkF.no
  | succ n ih => intro x0 x2 S; exact ob40_72 d (l40_72 n) ih x0 x2 S
def m40 (x0 : Nat) (x1 : Int32) (S : Sx) : Option (Int32 × Sx) :=
  (m28 x1 S).bind fun q5 => if q5.1 = 0 then if oc q5.2 x0 11 = true then (q5.2.2.2.2.1 x0 1).bind fun a6 => if inb x1 (aw q5.2 3 a6) = true then (q5.2.2.2.2.1 a6 x1.toNatClampNeg).bind fun a7 => if oc q5.2 a7 8 = true then (m20 a7 q5.2).bind fun q8 => if q8.1 = 0 then if oc q8.2 x0 11 = true then (q8.2.2.2.2.1 x0 6).bind fun a9 => if oc q8.2 x0 11 = true then (q8.2.2.2.2.1 x0 1).bind fun a10 => if inb x1 (aw q8.2 3 a10) = true then (q8.2.2.2.2.1 a10 x1.toNatClampNeg).bind fun a11 => if oc q8.2 x0 11 = true then (q8.2.2.2.2.1 x0 4).bind fun a12 => if oc q8.2 a9 7 = true then (m31 a9 a11 a12 q8.2).bind fun q13 => if q13.1 = (-9 : Int32) then if oc q13.2 x0 11 = true then (q13.2.2.2.2.1 x0 4).bind fun a14 => if oc q13.2 a14 4 = true then (m33 a14 q13.2).bind fun q15 => if oc q15 x0 11 = true then (q15.2.2.2.1 x0 3).bind fun a16 => if oc q15 x0 11 = true then (q15.2.2.2.1 x0 4).bind fun a17 => if oc q15 a16 4 = true then (m41 a16 a17 q15).bind fun q18 => l40_72 1000 x0 (0 : Int32) q18 else none else none else none else none else none else some ((-4 : Int32), q13.2) else none else none else none else none else none else if oc q8.2 x0 11 = true then (m15 x0 (1 : Int32) q8.2).bind fun q19 => some (q19.1, q19.2) else none else none else none else none else some ((-1 : Int32), q5.2)
set_option maxRecDepth 100000 in
theorem om40 (d : Nat) (x0 : Nat) (x1 : Int32) (S : Sx) : OkF wI (fun f => rk px kx f (d + 3) 40 0 [some (.ref x0), some (.int x1), none] [] S) (m40 x0 x1 S) := by
  unfold m40
  refine OkF.eq 2 (Y := fun f => (rk px kx f (d + 2) 28 0 [some (.int x1)] [] S).bind (fun q => rk px kx f (d + 3) 40 4 [some (.ref x0), some (.int x1), none] (q.1.toList ++ []) q.2)) (fun f => rfl) ?_
  refine OkF.bind (w1 := wI) (om28 (d + 2) x1 S) (fun q5 => ?_)
  refine OkF.eq 1 (Y := fun f => if q5.1 = 0 then rk px kx f (d + 3) 40 9 [some (.ref x0), some (.int x1), none] [] q5.2 else rk px kx f (d + 3) 40 7 [some (.ref x0), some (.int x1), none] [] q5.2) (fun f => rfl) ?_
  refine OkF.ite (fun _ => ?_) (fun _ => ?_)
  · refine OkF.eq 2 (Y := fun f => if oc q5.2 x0 11 = true then rk px kx f (d + 3) 40 13 [some (.ref x0), some (.int x1), none] (va_rf (q5.2.2.2.2.1 x0 1) :: []) q5.2 else none) (fun f => rfl) ?_
    refine OkF.grd (fun _ => ?_)
    refine OkF.rf (fun a6 => ?_)
    refine OkF.eq 2 (Y := fun f => if inb x1 (aw q5.2 3 a6) = true then rk px kx f (d + 3) 40 15 [some (.ref x0), some (.int x1), none] (va_rf (q5.2.2.2.2.1 a6 x1.toNatClampNeg) :: []) q5.2 else none) (fun f => rfl) ?_
    refine OkF.grd (fun _ => ?_)
    refine OkF.rf (fun a7 => ?_)
    refine OkF.eq 1 (Y := fun f => if oc q5.2 a7 8 = true then (rk px kx f (d + 2) 20 0 [some (.ref a7)] [] q5.2).bind (fun q => rk px kx f (d + 3) 40 18 [some (.ref x0), some (.int x1), none] (q.1.toList ++ []) q.2) else none) (fun f => rfl) ?_
    refine OkF.grd (fun _ => ?_)
    refine OkF.bind (w1 := wI) (om20 (d + 2) a7 q5.2) (fun q8 => ?_)
    refine OkF.eq 1 (Y := fun f => if q8.1 = 0 then rk px kx f (d + 3) 40 27 [some (.ref x0), some (.int x1), none] [] q8.2 else rk px kx f (d + 3) 40 21 [some (.ref x0), some (.int x1), none] [] q8.2) (fun f => rfl) ?_
    refine OkF.ite (fun _ => ?_) (fun _ => ?_)
    · refine OkF.eq 2 (Y := fun f => if oc q8.2 x0 11 = true then rk px kx f (d + 3) 40 31 [some (.ref x0), some (.int x1), none] (va_rf (q8.2.2.2.2.1 x0 6) :: []) q8.2 else none) (fun f => rfl) ?_
      refine OkF.grd (fun _ => ?_)
      refine OkF.rf (fun a9 => ?_)
      refine OkF.eq 2 (Y := fun f => if oc q8.2 x0 11 = true then rk px kx f (d + 3) 40 35 [some (.ref x0), some (.int x1), none] (va_rf (q8.2.2.2.2.1 x0 1) :: [.ref a9]) q8.2 else none) (fun f => rfl) ?_
      refine OkF.grd (fun _ => ?_)
      refine OkF.rf (fun a10 => ?_)
      refine OkF.eq 2 (Y := fun f => if inb x1 (aw q8.2 3 a10) = true then rk px kx f (d + 3) 40 37 [some (.ref x0), some (.int x1), none] (va_rf (q8.2.2.2.2.1 a10 x1.toNatClampNeg) :: [.ref a9]) q8.2 else none) (fun f => rfl) ?_
      refine OkF.grd (fun _ => ?_)
      refine OkF.rf (fun a11 => ?_)
      refine OkF.eq 2 (Y := fun f => if oc q8.2 x0 11 = true then rk px kx f (d + 3) 40 41 [some (.ref x0), some (.int x1), none] (va_rf (q8.2.2.2.2.1 x0 4) :: [.ref a11, .ref a9]) q8.2 else none) (fun f => rfl) ?_
      refine OkF.grd (fun _ => ?_)
      refine OkF.rf (fun a12 => ?_)
      refine OkF.eq 1 (Y := fun f => if oc q8.2 a9 7 = true then (rk px kx f (d + 2) 31 0 [some (.ref a9), some (.ref a11), some (.ref a12), none] [] q8.2).bind (fun q => rk px kx f (d + 3) 40 44 [some (.ref x0), some (.int x1), none] (q.1.toList ++ []) q.2) else none) (fun f => rfl) ?_
      refine OkF.grd (fun _ => ?_)
      refine OkF.bind (w1 := wI) (om31 (d + 0) a9 a11 a12 q8.2) (fun q13 => ?_)
      refine OkF.eq 2 (Y := fun f => if q13.1 = (-9 : Int32) then rk px kx f (d + 3) 40 52 [some (.ref x0), some (.int x1), none] [] q13.2 else rk px kx f (d + 3) 40 49 [some (.ref x0), some (.int x1), none] [] q13.2) (fun f => rfl) ?_
      refine OkF.ite (fun _ => ?_) (fun _ => ?_)
      · refine OkF.eq 2 (Y := fun f => if oc q13.2 x0 11 = true then rk px kx f (d + 3) 40 56 [some (.ref x0), some (.int x1), none] (va_rf (q13.2.2.2.2.1 x0 4) :: []) q13.2 else none) (fun f => rfl) ?_
        refine OkF.grd (fun _ => ?_)
        refine OkF.rf (fun a14 => ?_)
        refine OkF.eq 1 (Y := fun f => if oc q13.2 a14 4 = true then (rk px kx f (d + 2) 33 0 [some (.ref a14), none] [] q13.2).bind (fun q => rk px kx f (d + 3) 40 59 [some (.ref x0), some (.int x1), none] (q.1.toList ++ []) q.2) else none) (fun f => rfl) ?_
        refine OkF.grd (fun _ => ?_)
        refine OkF.bind (w1 := wV) (om33 (d + 2) a14 q13.2) (fun q15 => ?_)
        refine OkF.eq 2 (Y := fun f => if oc q15 x0 11 = true then rk px kx f (d + 3) 40 63 [some (.ref x0), some (.int x1), none] (va_rf (q15.2.2.2.1 x0 3) :: []) q15 else none) (fun f => rfl) ?_
        refine OkF.grd (fun _ => ?_)
        refine OkF.rf (fun a16 => ?_)
        refine OkF.eq 2 (Y := fun f => if oc q15 x0 11 = true then rk px kx f (d + 3) 40 67 [some (.ref x0), some (.int x1), none] (va_rf (q15.2.2.2.1 x0 4) :: [.ref a16]) q15 else none) (fun f => rfl) ?_
        refine OkF.grd (fun _ => ?_)
        refine OkF.rf (fun a17 => ?_)
        refine OkF.eq 1 (Y := fun f => if oc q15 a16 4 = true then (rk px kx f (d + 2) 41 0 [some (.ref a16), some (.ref a17)] [] q15).bind (fun q => rk px kx f (d + 3) 40 70 [some (.ref x0), some (.int x1), none] (q.1.toList ++ []) q.2) else none) (fun f => rfl) ?_
        refine OkF.grd (fun _ => ?_)
        refine OkF.bind (w1 := wV) (om41 (d + 1) a16 a17 q15) (fun q18 => ?_)
        refine OkF.eq 2 (Y := fun f => rk px kx f (d + 3) 40 72 [some (.ref x0), some (.int x1), some (.int (0 : Int32))] [] q18) (fun f => rfl) ?_
        exact OkF.kl (ls1 := [some (.ref x0), none, some (.int (0 : Int32))]) (fun f => rfl) (ol40_72 d 1000 x0 (0 : Int32) q18)
      · exact OkF.ret 2 (fun f => rfl)
    · refine OkF.eq 3 (Y := fun f => if oc q8.2 x0 11 = true then (rk px kx f (d + 2) 15 0 [some (.ref x0), some (.int (1 : Int32))] [] q8.2).bind (fun q => rk px kx f (d + 3) 40 26 [some (.ref x0), some (.int x1), none] (q.1.toList ++ []) q.2) else none) (fun f => rfl) ?_
      refine OkF.grd (fun _ => ?_)
      refine OkF.bind (w1 := wI) (om15 (d + 2) x0 (1 : Int32) q8.2) (fun q19 => ?_)
      exact OkF.ret 1 (fun f => rfl)
  · exact OkF.ret 2 (fun f => rfl)
