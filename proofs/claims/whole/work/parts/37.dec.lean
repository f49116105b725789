-- DoorSold$Ways.hoursFor(LDoorSold$Country;I)I
def m105 (x0 : Nat) (x1 : Int32) (S : Sx) : Option (Int32 × Sx) :=
  if x1 = (7 : Int32) then some ((1 : Int32), S) else if x1 = (6 : Int32) then some ((3 : Int32), S) else if oc S x0 4 = true then (m61 x0 x1 S).bind fun q1 => some (q1.1, q1.2) else none
set_option maxRecDepth 100000 in
theorem om105 (d : Nat) (x0 : Nat) (x1 : Int32) (S : Sx) : OkF wI (fun f => rk px kx f (d + 3) 105 0 [some (.ref x0), some (.int x1)] [] S) (m105 x0 x1 S) := by
  unfold m105
  refine OkF.eq 3 (Y := fun f => if x1 = (7 : Int32) then rk px kx f (d + 3) 105 6 [some (.ref x0), some (.int x1)] [] S else rk px kx f (d + 3) 105 8 [some (.ref x0), some (.int x1)] [] S) (fun f => rfl) ?_
  refine OkF.ite (fun _ => ?_) (fun _ => ?_)
  · exact OkF.ret 2 (fun f => rfl)
  · refine OkF.eq 3 (Y := fun f => if x1 = (6 : Int32) then rk px kx f (d + 3) 105 14 [some (.ref x0), some (.int x1)] [] S else rk px kx f (d + 3) 105 18 [some (.ref x0), some (.int x1)] [] S) (fun f => rfl) ?_
    refine OkF.ite (fun _ => ?_) (fun _ => ?_)
    · exact OkF.ret 3 (fun f => rfl)
    · refine OkF.eq 3 (Y := fun f => if oc S x0 4 = true then (rk px kx f (d + 2) 61 0 [some (.ref x0), some (.int x1)] [] S).bind (fun q => rk px kx f (d + 3) 105 23 [some (.ref x0), some (.int x1)] (q.1.toList ++ []) q.2) else none) (fun f => rfl) ?_
      refine OkF.grd (fun _ => ?_)
      refine OkF.bind (w1 := wI) (om61 (d + 0) x0 x1 S) (fun q1 => ?_)
      exact OkF.ret 1 (fun f => rfl)
-- DoorSold$Ways.placeAfter(LDoorSold$Country;II)I
def m106 (x0 : Nat) (x1 : Int32) (x2 : Int32) (S : Sx) : Option (Int32 × Sx) :=
  if x1 = (7 : Int32) then some (x2, S) else if x1 = (6 : Int32) then if oc S x0 4 = true then (m55 x0 (x2 + (1 : Int32)) S).bind fun q1 => some (q1.1, q1.2) else none else if oc S x0 4 = true then (m70 x0 x1 S).bind fun q2 => some (q2.1, q2.2) else none
set_option maxRecDepth 100000 in
theorem om106 (d : Nat) (x0 : Nat) (x1 : Int32) (x2 : Int32) (S : Sx) : OkF wI (fun f => rk px kx f (d + 2) 106 0 [some (.ref x0), some (.int x1), some (.int x2)] [] S) (m106 x0 x1 x2 S) := by
  unfold m106
  refine OkF.eq 3 (Y := fun f => if x1 = (7 : Int32) then rk px kx f (d + 2) 106 6 [some (.ref x0), some (.int x1), some (.int x2)] [] S else rk px kx f (d + 2) 106 8 [some (.ref x0), some (.int x1), some (.int x2)] [] S) (fun f => rfl) ?_
  refine OkF.ite (fun _ => ?_) (fun _ => ?_)
  · exact OkF.ret 2 (fun f => rfl)
  · refine OkF.eq 3 (Y := fun f => if x1 = (6 : Int32) then rk px kx f (d + 2) 106 14 [some (.ref x0), some (.int x1), some (.int x2)] [] S else rk px kx f (d + 2) 106 24 [some (.ref x0), some (.int x1), some (.int x2)] [] S) (fun f => rfl) ?_
    refine OkF.ite (fun _ => ?_) (fun _ => ?_)
    · refine OkF.eq 5 (Y := fun f => if oc S x0 4 = true then (rk px kx f (d + 1) 55 0 [some (.ref x0), some (.int (x2 + (1 : Int32)))] [] S).bind (fun q => rk px kx f (d + 2) 106 21 [some (.ref x0), some (.int x1), some (.int x2)] (q.1.toList ++ []) q.2) else none) (fun f => rfl) ?_
      refine OkF.grd (fun _ => ?_)
      refine OkF.bind (w1 := wI) (om55 (d + 0) x0 (x2 + (1 : Int32)) S) (fun q1 => ?_)
      exact OkF.ret 2 (fun f => rfl)
    · refine OkF.eq 3 (Y := fun f => if oc S x0 4 = true then (rk px kx f (d + 1) 70 0 [some (.ref x0), some (.int x1)] [] S).bind (fun q => rk px kx f (d + 2) 106 29 [some (.ref x0), some (.int x1), some (.int x2)] (q.1.toList ++ []) q.2) else none) (fun f => rfl) ?_
      refine OkF.grd (fun _ => ?_)
      refine OkF.bind (w1 := wI) (om70 (d + 0) x0 x1 S) (fun q2 => ?_)
      exact OkF.ret 1 (fun f => rfl)
-- DoorSold$Ways.firstStep(LDoorSold$Country;II)I
def b103_68 (k3 : Nat → Nat → Int32 → Int32 → Int32 → Sx → Option (Int32 × Sx)) (x0 : Nat) (x1 : Nat) (x2 : Int32) (x3 : Int32) (x4 : Int32) (S : Sx) : Option (Int32 × Sx) :=
  k3 x0 x1 x2 x3 (x4 + (1 : Int32)) S
set_option maxRecDepth 100000 in
theorem ob103_68 (d : Nat) (k3 : Nat → Nat → Int32 → Int32 → Int32 → Sx → Option (Int32 × Sx)) (hk3 : ∀ (x0 : Nat) (x1 : Nat) (x2 : Int32) (x3 : Int32) (x4 : Int32) (S : Sx), OkF wI (fun f => rk px kx f (d + 4) 103 3 [some (.ref x0), some (.ref x1), some (.int x2), some (.int x3), some (.int x4), none] [] S) (k3 x0 x1 x2 x3 x4 S)) (x0 : Nat) (x1 : Nat) (x2 : Int32) (x3 : Int32) (x4 : Int32) (S : Sx) : OkF wI (fun f => rk px kx f (d + 4) 103 68 [some (.ref x0), some (.ref x1), some (.int x2), some (.int x3), some (.int x4), none] [] S) (b103_68 k3 x0 x1 x2 x3 x4 S) := by
  unfold b103_68
  refine OkF.eq 2 (Y := fun f => rk px kx f (d + 4) 103 3 [some (.ref x0), some (.ref x1), some (.int x2), some (.int x3), some (.int (x4 + (1 : Int32))), none] [] S) (fun f => rfl) ?_
  exact OkF.kl (ls1 := [some (.ref x0), some (.ref x1), some (.int x2), some (.int x3), some (.int (x4 + (1 : Int32))), none]) (fun f => rfl) (hk3 x0 x1 x2 x3 (x4 + (1 : Int32)) S)
def b103_3 (k3 : Nat → Nat → Int32 → Int32 → Int32 → Sx → Option (Int32 × Sx)) (x0 : Nat) (x1 : Nat) (x2 : Int32) (x3 : Int32) (x4 : Int32) (S : Sx) : Option (Int32 × Sx) :=
  if (8 : Int32) ≤ x4 then some ((-9 : Int32), S) else (m104 x1 x4 x2 x3 S).bind fun q1 => if q1.1 = 0 then b103_68 k3 x0 x1 x2 x3 x4 q1.2 else (m105 x1 x4 q1.2).bind fun q2 => if (x3 + q2.1) ≤ (30 : Int32) then if oc q2.2 x0 10 = true then (q2.2.2.2.2.1 x0 1).bind fun a3 => if inb (x3 + q2.1) (al q2.2 a3) = true then (m106 x1 x4 x2 q2.2).bind fun q4 => if (((q2.2.2.1 a3 (x3 + q2.1).toNatClampNeg) >>> (q4.1 &&& 31)) &&& (1 : Int32)) = (1 : Int32) then some (x4, q4.2) else b103_68 k3 x0 x1 x2 x3 x4 q4.2 else none else none else b103_68 k3 x0 x1 x2 x3 x4 q2.2
set_option maxRecDepth 100000 in
theorem ob103_3 (d : Nat) (k3 : Nat → Nat → Int32 → Int32 → Int32 → Sx → Option (Int32 × Sx)) (hk3 : ∀ (x0 : Nat) (x1 : Nat) (x2 : Int32) (x3 : Int32) (x4 : Int32) (S : Sx), OkF wI (fun f => rk px kx f (d + 4) 103 3 [some (.ref x0), some (.ref x1), some (.int x2), some (.int x3), some (.int x4), none] [] S) (k3 x0 x1 x2 x3 x4 S)) (x0 : Nat) (x1 : Nat) (x2 : Int32) (x3 : Int32) (x4 : Int32) (S : Sx) : OkF wI (fun f => rk px kx f (d + 4) 103 3 [some (.ref x0), some (.ref x1), some (.int x2), some (.int x3), some (.int x4), none] [] S) (b103_3 k3 x0 x1 x2 x3 x4 S) := by
  unfold b103_3
  refine OkF.eq 3 (Y := fun f => if (8 : Int32) ≤ x4 then rk px kx f (d + 4) 103 74 [some (.ref x0), some (.ref x1), some (.int x2), some (.int x3), some (.int x4), none] [] S else rk px kx f (d + 4) 103 10 [some (.ref x0), some (.ref x1), some (.int x2), some (.int x3), some (.int x4), none] [] S) (fun f => rfl) ?_
  refine OkF.ite (fun _ => ?_) (fun _ => ?_)
  · exact OkF.ret 2 (fun f => rfl)
  · refine OkF.eq 5 (Y := fun f => (rk px kx f (d + 3) 104 0 [some (.ref x1), some (.int x4), some (.int x2), some (.int x3), none] [] S).bind (fun q => rk px kx f (d + 4) 103 18 [some (.ref x0), some (.ref x1), some (.int x2), some (.int x3), some (.int x4), none] (q.1.toList ++ []) q.2)) (fun f => rfl) ?_
    refine OkF.bind (w1 := wI) (om104 (d + 0) x1 x4 x2 x3 S) (fun q1 => ?_)
    refine OkF.eq 1 (Y := fun f => if q1.1 = 0 then rk px kx f (d + 4) 103 21 [some (.ref x0), some (.ref x1), some (.int x2), some (.int x3), some (.int x4), none] [] q1.2 else rk px kx f (d + 4) 103 24 [some (.ref x0), some (.ref x1), some (.int x2), some (.int x3), some (.int x4), none] [] q1.2) (fun f => rfl) ?_
    refine OkF.ite (fun _ => ?_) (fun _ => ?_)
    · refine OkF.eq 1 (Y := fun f => rk px kx f (d + 4) 103 68 [some (.ref x0), some (.ref x1), some (.int x2), some (.int x3), some (.int x4), none] [] q1.2) (fun f => rfl) ?_
      exact OkF.kl (ls1 := [some (.ref x0), some (.ref x1), some (.int x2), some (.int x3), some (.int x4), none]) (fun f => rfl) (ob103_68 d k3 hk3 x0 x1 x2 x3 x4 q1.2)
    · refine OkF.eq 4 (Y := fun f => (rk px kx f (d + 3) 105 0 [some (.ref x1), some (.int x4)] [] q1.2).bind (fun q => rk px kx f (d + 4) 103 31 [some (.ref x0), some (.ref x1), some (.int x2), some (.int x3), some (.int x4), none] (q.1.toList ++ [.int x3]) q.2)) (fun f => rfl) ?_
      refine OkF.bind (w1 := wI) (om105 (d + 0) x1 x4 q1.2) (fun q2 => ?_)
      refine OkF.eq 5 (Y := fun f => if (x3 + q2.1) ≤ (30 : Int32) then rk px kx f (d + 4) 103 44 [some (.ref x0), some (.ref x1), some (.int x2), some (.int x3), some (.int x4), some (.int (x3 + q2.1))] [] q2.2 else rk px kx f (d + 4) 103 41 [some (.ref x0), some (.ref x1), some (.int x2), some (.int x3), some (.int x4), some (.int (x3 + q2.1))] [] q2.2) (fun f => rfl) ?_
      refine OkF.ite (fun _ => ?_) (fun _ => ?_)
      · refine OkF.eq 2 (Y := fun f => if oc q2.2 x0 10 = true then rk px kx f (d + 4) 103 48 [some (.ref x0), some (.ref x1), some (.int x2), some (.int x3), some (.int x4), some (.int (x3 + q2.1))] (va_rf (q2.2.2.2.2.1 x0 1) :: []) q2.2 else none) (fun f => rfl) ?_
        refine OkF.grd (fun _ => ?_)
        refine OkF.rf (fun a3 => ?_)
        refine OkF.eq 2 (Y := fun f => if inb (x3 + q2.1) (al q2.2 a3) = true then rk px kx f (d + 4) 103 51 [some (.ref x0), some (.ref x1), some (.int x2), some (.int x3), some (.int x4), some (.int (x3 + q2.1))] [.int (q2.2.2.1 a3 (x3 + q2.1).toNatClampNeg)] q2.2 else none) (fun f => rfl) ?_
        refine OkF.grd (fun _ => ?_)
        refine OkF.eq 4 (Y := fun f => (rk px kx f (d + 3) 106 0 [some (.ref x1), some (.int x4), some (.int x2)] [] q2.2).bind (fun q => rk px kx f (d + 4) 103 58 [some (.ref x0), some (.ref x1), some (.int x2), some (.int x3), some (.int x4), some (.int (x3 + q2.1))] (q.1.toList ++ [.int (q2.2.2.1 a3 (x3 + q2.1).toNatClampNeg)]) q.2)) (fun f => rfl) ?_
        refine OkF.bind (w1 := wI) (om106 (d + 1) x1 x4 x2 q2.2) (fun q4 => ?_)
        refine OkF.eq 5 (Y := fun f => if (((q2.2.2.1 a3 (x3 + q2.1).toNatClampNeg) >>> (q4.1 &&& 31)) &&& (1 : Int32)) = (1 : Int32) then rk px kx f (d + 4) 103 65 [some (.ref x0), some (.ref x1), some (.int x2), some (.int x3), some (.int x4), some (.int (x3 + q2.1))] [] q4.2 else rk px kx f (d + 4) 103 68 [some (.ref x0), some (.ref x1), some (.int x2), some (.int x3), some (.int x4), some (.int (x3 + q2.1))] [] q4.2) (fun f => rfl) ?_
        refine OkF.ite (fun _ => ?_) (fun _ => ?_)
        · exact OkF.ret 2 (fun f => rfl)
        · exact OkF.kl (ls1 := [some (.ref x0), some (.ref x1), some (.int x2), some (.int x3), some (.int x4), none]) (fun f => rfl) (ob103_68 d k3 hk3 x0 x1 x2 x3 x4 q4.2)
      · refine OkF.eq 1 (Y := fun f => rk px kx f (d + 4) 103 68 [some (.ref x0), some (.ref x1), some (.int x2), some (.int x3), some (.int x4), some (.int (x3 + q2.1))] [] q2.2) (fun f => rfl) ?_
        exact OkF.kl (ls1 := [some (.ref x0), some (.ref x1), some (.int x2), some (.int x3), some (.int x4), none]) (fun f => rfl) (ob103_68 d k3 hk3 x0 x1 x2 x3 x4 q2.2)
def l103_3 : Nat → Nat → Nat → Int32 → Int32 → Int32 → Sx → Option (Int32 × Sx)
  | 0 => fun _ _ _ _ _ _ => none
  | n + 1 => fun x0 x1 x2 x3 x4 S => b103_3 (l103_3 n) x0 x1 x2 x3 x4 S
set_option maxRecDepth 100000 in
theorem ol103_3 (d : Nat) : ∀ (n : Nat) (x0 : Nat) (x1 : Nat) (x2 : Int32) (x3 : Int32) (x4 : Int32) (S : Sx), OkF wI (fun f => rk px kx f (d + 4) 103 3 [some (.ref x0), some (.ref x1), some (.int x2), some (.int x3), some (.int x4), none] [] S) (l103_3 n x0 x1 x2 x3 x4 S) := by
  intro n
  induction n with
  | zero => intro x0 x1 x2 x3 x4 S; exact OkF.no
  | succ n ih => intro x0 x1 x2 x3 x4 S; exact ob103_3 d (l103_3 n) ih x0 x1 x2 x3 x4 S
def m103 (x0 : Nat) (x1 : Nat) (x2 : Int32) (x3 : Int32) (S : Sx) : Option (Int32 × Sx) :=
  l103_3 1000 x0 x1 x2 x3 (0 : Int32) S
set_option maxRecDepth 100000 in
theorem om103 (d : Nat) (x0 : Nat) (x1 : Nat) (x2 : Int32) (x3 : Int32) (S : Sx) : OkF wI (fun f => rk px kx f (d + 4) 103 0 [some (.ref x0), some (.ref x1), some (.int x2), some (.int x3), none, none] [] S) (m103 x0 x1 x2 x3 S) := by
  unfold m103
  refine OkF.eq 2 (Y := fun f => rk px kx f (d + 4) 103 3 [some (.ref x0), some (.ref x1), some (.int x2), some (.int x3), some (.int (0 : Int32)), none] [] S) (fun f => rfl) ?_
  exact OkF.kl (ls1 := [some (.ref x0), some (.ref x1), some (.int x2), some (.int x3), some (.int (0 : Int32)), none]) (fun f => rfl) (ol103_3 d 1000 x0 x1 x2 x3 (0 : Int32) S)
-- DoorSold$Ways.traceBack(LDoorSold$Country;II)V
def b102_83 (k38 : Nat → Nat → Int32 → Sx → Option (Sx)) (k46 : Nat → Nat → Int32 → Int32 → Sx → Option (Sx)) (x0 : Nat) (x1 : Nat) (x4 : Int32) (x5 : Int32) (S : Sx) : Option (Sx) :=
  k46 x0 x1 x4 (x5 + (1 : Int32)) S
set_option maxRecDepth 100000 in
theorem ob102_83 (d : Nat) (k38 : Nat → Nat → Int32 → Sx → Option (Sx)) (hk38 : ∀ (x0 : Nat) (x1 : Nat) (x4 : Int32) (S : Sx), OkF wV (fun f => rk px kx f (d + 5) 102 38 [some (.ref x0), some (.ref x1), none, none, some (.int x4), none] [] S) (k38 x0 x1 x4 S)) (k46 : Nat → Nat → Int32 → Int32 → Sx → Option (Sx)) (hk46 : ∀ (x0 : Nat) (x1 : Nat) (x4 : Int32) (x5 : Int32) (S : Sx), OkF wV (fun f => rk px kx f (d + 5) 102 46 [some (.ref x0), some (.ref x1), none, none, some (.int x4), some (.int x5)] [] S) (k46 x0 x1 x4 x5 S)) (x0 : Nat) (x1 : Nat) (x4 : Int32) (x5 : Int32) (S : Sx) : OkF wV (fun f => rk px kx f (d + 5) 102 83 [some (.ref x0), some (.ref x1), none, none, some (.int x4), some (.int x5)] [] S) (b102_83 k38 k46 x0 x1 x4 x5 S) := by
  unfold b102_83
  refine OkF.eq 2 (Y := fun f => rk px kx f (d + 5) 102 46 [some (.ref x0), some (.ref x1), none, none, some (.int x4), some (.int (x5 + (1 : Int32)))] [] S) (fun f => rfl) ?_
  exact OkF.kl (ls1 := [some (.ref x0), some (.ref x1), none, none, some (.int x4), some (.int (x5 + (1 : Int32)))]) (fun f => rfl) (hk46 x0 x1 x4 (x5 + (1 : Int32)) S)
def b102_46 (k38 : Nat → Nat → Int32 → Sx → Option (Sx)) (k46 : Nat → Nat → Int32 → Int32 → Sx → Option (Sx)) (x0 : Nat) (x1 : Nat) (x4 : Int32) (x5 : Int32) (S : Sx) : Option (Sx) :=
  if oc S x1 4 = true then if (S.2.1 x1 8) ≤ x5 then k38 x0 x1 (x4 + (-1 : Int32)) S else if oc S x0 10 = true then (m103 x0 x1 x5 x4 S).bind fun q1 => if q1.1 = (-9 : Int32) then b102_83 k38 k46 x0 x1 x4 x5 q1.2 else if oc q1.2 x0 10 = true then (q1.2.2.2.2.1 x0 1).bind fun a2 => if inb x4 (al q1.2 a2) = true then if inb x4 (aw q1.2 1 a2) = true then lt (sI q1.2 a2 x4.toNatClampNeg ((q1.2.2.1 a2 x4.toNatClampNeg) ||| ((1 : Int32) <<< (x5 &&& 31)))) fun S3 => b102_83 k38 k46 x0 x1 x4 x5 S3 else none else none else none else none else none
set_option maxRecDepth 100000 in
theorem ob102_46 (d : Nat) (k38 : Nat → Nat → Int32 → Sx → Option (Sx)) (hk38 : ∀ (x0 : Nat) (x1 : Nat) (x4 : Int32) (S : Sx), OkF wV (fun f => rk px kx f (d + 5) 102 38 [some (.ref x0), some (.ref x1), none, none, some (.int x4), none] [] S) (k38 x0 x1 x4 S)) (k46 : Nat → Nat → Int32 → Int32 → Sx → Option (Sx)) (hk46 : ∀ (x0 : Nat) (x1 : Nat) (x4 : Int32) (x5 : Int32) (S : Sx), OkF wV (fun f => rk px kx f (d + 5) 102 46 [some (.ref x0), some (.ref x1), none, none, some (.int x4), some (.int x5)] [] S) (k46 x0 x1 x4 x5 S)) (x0 : Nat) (x1 : Nat) (x4 : Int32) (x5 : Int32) (S : Sx) : OkF wV (fun f => rk px kx f (d + 5) 102 46 [some (.ref x0), some (.ref x1), none, none, some (.int x4), some (.int x5)] [] S) (b102_46 k38 k46 x0 x1 x4 x5 S) := by
  unfold b102_46
  refine OkF.eq 3 (Y := fun f => if oc S x1 4 = true then rk px kx f (d + 5) 102 52 [some (.ref x0), some (.ref x1), none, none, some (.int x4), some (.int x5)] [.int (S.2.1 x1 8), .int x5] S else none) (fun f => rfl) ?_
  refine OkF.grd (fun _ => ?_)
  refine OkF.eq 1 (Y := fun f => if (S.2.1 x1 8) ≤ x5 then rk px kx f (d + 5) 102 89 [some (.ref x0), some (.ref x1), none, none, some (.int x4), some (.int x5)] [] S else rk px kx f (d + 5) 102 55 [some (.ref x0), some (.ref x1), none, none, some (.int x4), some (.int x5)] [] S) (fun f => rfl) ?_
  refine OkF.ite (fun _ => ?_) (fun _ => ?_)
  · refine OkF.eq 1 (Y := fun f => rk px kx f (d + 5) 102 92 [some (.ref x0), some (.ref x1), none, none, some (.int (x4 + (-1 : Int32))), some (.int x5)] [] S) (fun f => Eq.trans (b := stp px (rk px kx f) (d + 5) 102 (89, .iinc 4 (-1), 92, 4, (-1), 0, []) [some (.ref x0), some (.ref x1), none, none, some (.int x4), some (.int x5)] [] S) rfl rfl) ?_
    refine OkF.eq 1 (Y := fun f => rk px kx f (d + 5) 102 38 [some (.ref x0), some (.ref x1), none, none, some (.int (x4 + (-1 : Int32))), some (.int x5)] [] S) (fun f => rfl) ?_
    exact OkF.kl (ls1 := [some (.ref x0), some (.ref x1), none, none, some (.int (x4 + (-1 : Int32))), none]) (fun f => rfl) (hk38 x0 x1 (x4 + (-1 : Int32)) S)
  · refine OkF.eq 5 (Y := fun f => if oc S x0 10 = true then (rk px kx f (d + 4) 103 0 [some (.ref x0), some (.ref x1), some (.int x5), some (.int x4), none, none] [] S).bind (fun q => rk px kx f (d + 5) 102 64 [some (.ref x0), some (.ref x1), none, none, some (.int x4), some (.int x5)] (q.1.toList ++ []) q.2) else none) (fun f => rfl) ?_
    refine OkF.grd (fun _ => ?_)
    refine OkF.bind (w1 := wI) (om103 (d + 0) x0 x1 x5 x4 S) (fun q1 => ?_)
    refine OkF.eq 2 (Y := fun f => if q1.1 = (-9 : Int32) then rk px kx f (d + 5) 102 83 [some (.ref x0), some (.ref x1), none, none, some (.int x4), some (.int x5)] [] q1.2 else rk px kx f (d + 5) 102 69 [some (.ref x0), some (.ref x1), none, none, some (.int x4), some (.int x5)] [] q1.2) (fun f => rfl) ?_
    refine OkF.ite (fun _ => ?_) (fun _ => ?_)
    · exact OkF.kl (ls1 := [some (.ref x0), some (.ref x1), none, none, some (.int x4), some (.int x5)]) (fun f => rfl) (ob102_83 d k38 hk38 k46 hk46 x0 x1 x4 x5 q1.2)
    · refine OkF.eq 2 (Y := fun f => if oc q1.2 x0 10 = true then rk px kx f (d + 5) 102 73 [some (.ref x0), some (.ref x1), none, none, some (.int x4), some (.int x5)] (va_rf (q1.2.2.2.2.1 x0 1) :: []) q1.2 else none) (fun f => rfl) ?_
      refine OkF.grd (fun _ => ?_)
      refine OkF.rf (fun a2 => ?_)
      refine OkF.eq 3 (Y := fun f => if inb x4 (al q1.2 a2) = true then rk px kx f (d + 5) 102 77 [some (.ref x0), some (.ref x1), none, none, some (.int x4), some (.int x5)] [.int (q1.2.2.1 a2 x4.toNatClampNeg), .int x4, .ref a2] q1.2 else none) (fun f => rfl) ?_
      refine OkF.grd (fun _ => ?_)
      refine OkF.eq 5 (Y := fun f => if inb x4 (aw q1.2 1 a2) = true then rk px kx f (d + 5) 102 83 [some (.ref x0), some (.ref x1), none, none, some (.int x4), some (.int x5)] [] (sI q1.2 a2 x4.toNatClampNeg ((q1.2.2.1 a2 x4.toNatClampNeg) ||| ((1 : Int32) <<< (x5 &&& 31)))) else none) (fun f => rfl) ?_
      refine OkF.grd (fun _ => ?_)
      refine OkF.nm (fun S3 => ?_)
      exact OkF.kl (ls1 := [some (.ref x0), some (.ref x1), none, none, some (.int x4), some (.int x5)]) (fun f => rfl) (ob102_83 d k38 hk38 k46 hk46 x0 x1 x4 x5 S3)
def l102_46 (k38 : Nat → Nat → Int32 → Sx → Option (Sx)) : Nat → Nat → Nat → Int32 → Int32 → Sx → Option (Sx)
  | 0 => fun _ _ _ _ _ => none
  | n + 1 => fun x0 x1 x4 x5 S => b102_46 k38 (l102_46 k38 n) x0 x1 x4 x5 S
set_option maxRecDepth 100000 in
theorem ol102_46 (d : Nat) (k38 : Nat → Nat → Int32 → Sx → Option (Sx)) (hk38 : ∀ (x0 : Nat) (x1 : Nat) (x4 : Int32) (S : Sx), OkF wV (fun f => rk px kx f (d + 5) 102 38 [some (.ref x0), some (.ref x1), none, none, some (.int x4), none] [] S) (k38 x0 x1 x4 S)) : ∀ (n : Nat) (x0 : Nat) (x1 : Nat) (x4 : Int32) (x5 : Int32) (S : Sx), OkF wV (fun f => rk px kx f (d + 5) 102 46 [some (.ref x0), some (.ref x1), none, none, some (.int x4), some (.int x5)] [] S) (l102_46 k38 n x0 x1 x4 x5 S) := by
  intro n
  induction n with
  | zero => intro x0 x1 x4 x5 S; exact OkF.no
  | succ n ih => intro x0 x1 x4 x5 S; exact ob102_46 d k38 hk38 (l102_46 k38 n) ih x0 x1 x4 x5 S
def b102_38 (k38 : Nat → Nat → Int32 → Sx → Option (Sx)) (x0 : Nat) (x1 : Nat) (x4 : Int32) (S : Sx) : Option (Sx) :=
  if x4 < 0 then some S else l102_46 k38 1000 x0 x1 x4 (0 : Int32) S
set_option maxRecDepth 100000 in
theorem ob102_38 (d : Nat) (k38 : Nat → Nat → Int32 → Sx → Option (Sx)) (hk38 : ∀ (x0 : Nat) (x1 : Nat) (x4 : Int32) (S : Sx), OkF wV (fun f => rk px kx f (d + 5) 102 38 [some (.ref x0), some (.ref x1), none, none, some (.int x4), none] [] S) (k38 x0 x1 x4 S)) (x0 : Nat) (x1 : Nat) (x4 : Int32) (S : Sx) : OkF wV (fun f => rk px kx f (d + 5) 102 38 [some (.ref x0), some (.ref x1), none, none, some (.int x4), none] [] S) (b102_38 k38 x0 x1 x4 S) := by
  unfold b102_38
  refine OkF.eq 2 (Y := fun f => if x4 < 0 then rk px kx f (d + 5) 102 95 [some (.ref x0), some (.ref x1), none, none, some (.int x4), none] [] S else rk px kx f (d + 5) 102 43 [some (.ref x0), some (.ref x1), none, none, some (.int x4), none] [] S) (fun f => rfl) ?_
  refine OkF.ite (fun _ => ?_) (fun _ => ?_)
  · exact OkF.ret 1 (fun f => rfl)
  · refine OkF.eq 2 (Y := fun f => rk px kx f (d + 5) 102 46 [some (.ref x0), some (.ref x1), none, none, some (.int x4), some (.int (0 : Int32))] [] S) (fun f => rfl) ?_
    exact OkF.kl (ls1 := [some (.ref x0), some (.ref x1), none, none, some (.int x4), some (.int (0 : Int32))]) (fun f => rfl) (ol102_46 d k38 hk38 1000 x0 x1 x4 (0 : Int32) S)
def l102_38 : Nat → Nat → Nat → Int32 → Sx → Option (Sx)
  | 0 => fun _ _ _ _ => none
  | n + 1 => fun x0 x1 x4 S => b102_38 (l102_38 n) x0 x1 x4 S
set_option maxRecDepth 100000 in
theorem ol102_38 (d : Nat) : ∀ (n : Nat) (x0 : Nat) (x1 : Nat) (x4 : Int32) (S : Sx), OkF wV (fun f => rk px kx f (d + 5) 102 38 [some (.ref x0), some (.ref x1), none, none, some (.int x4), none] [] S) (l102_38 n x0 x1 x4 S) := by
  intro n
  induction n with
  | zero => intro x0 x1 x4 S; exact OkF.no
  | succ n ih => intro x0 x1 x4 S; exact ob102_38 d (l102_38 n) ih x0 x1 x4 S
def b102_3 (k3 : Nat → Nat → Int32 → Int32 → Int32 → Sx → Option (Sx)) (x0 : Nat) (x1 : Nat) (x2 : Int32) (x3 : Int32) (x4 : Int32) (S : Sx) : Option (Sx) :=
  if (30 : Int32) < x4 then if oc S x0 10 = true then (S.2.2.2.1 x0 1).bind fun a4 => if inb x3 (aw S 1 a4) = true then lt (sI S a4 x3.toNatClampNeg ((1 : Int32) <<< (x2 &&& 31))) fun S5 => l102_38 1000 x0 x1 (x3 - (1 : Int32)) S5 else none else none else if oc S x0 10 = true then (S.2.2.2.1 x0 1).bind fun a6 => if inb x4 (aw S 1 a6) = true then lt (sI S a6 x4.toNatClampNeg (0 : Int32)) fun S7 => k3 x0 x1 x2 x3 (x4 + (1 : Int32)) S7 else none else none
set_option maxRecDepth 100000 in
theorem ob102_3 (d : Nat) (k3 : Nat → Nat → Int32 → Int32 → Int32 → Sx → Option (Sx)) (hk3 : ∀ (x0 : Nat) (x1 : Nat) (x2 : Int32) (x3 : Int32) (x4 : Int32) (S : Sx), OkF wV (fun f => rk px kx f (d + 5) 102 3 [some (.ref x0), some (.ref x1), some (.int x2), some (.int x3), some (.int x4), none] [] S) (k3 x0 x1 x2 x3 x4 S)) (x0 : Nat) (x1 : Nat) (x2 : Int32) (x3 : Int32) (x4 : Int32) (S : Sx) : OkF wV (fun f => rk px kx f (d + 5) 102 3 [some (.ref x0), some (.ref x1), some (.int x2), some (.int x3), some (.int x4), none] [] S) (b102_3 k3 x0 x1 x2 x3 x4 S) := by
  unfold b102_3
  refine OkF.eq 3 (Y := fun f => if (30 : Int32) < x4 then rk px kx f (d + 5) 102 24 [some (.ref x0), some (.ref x1), some (.int x2), some (.int x3), some (.int x4), none] [] S else rk px kx f (d + 5) 102 10 [some (.ref x0), some (.ref x1), some (.int x2), some (.int x3), some (.int x4), none] [] S) (fun f => rfl) ?_
  refine OkF.ite (fun _ => ?_) (fun _ => ?_)
  · refine OkF.eq 2 (Y := fun f => if oc S x0 10 = true then rk px kx f (d + 5) 102 28 [some (.ref x0), some (.ref x1), some (.int x2), some (.int x3), some (.int x4), none] (va_rf (S.2.2.2.1 x0 1) :: []) S else none) (fun f => rfl) ?_
    refine OkF.grd (fun _ => ?_)
    refine OkF.rf (fun a4 => ?_)
    refine OkF.eq 5 (Y := fun f => if inb x3 (aw S 1 a4) = true then rk px kx f (d + 5) 102 33 [some (.ref x0), some (.ref x1), some (.int x2), some (.int x3), some (.int x4), none] [] (sI S a4 x3.toNatClampNeg ((1 : Int32) <<< (x2 &&& 31))) else none) (fun f => rfl) ?_
    refine OkF.grd (fun _ => ?_)
    refine OkF.nm (fun S5 => ?_)
    refine OkF.eq 4 (Y := fun f => rk px kx f (d + 5) 102 38 [some (.ref x0), some (.ref x1), some (.int x2), some (.int x3), some (.int (x3 - (1 : Int32))), none] [] S5) (fun f => rfl) ?_
    exact OkF.kl (ls1 := [some (.ref x0), some (.ref x1), none, none, some (.int (x3 - (1 : Int32))), none]) (fun f => rfl) (ol102_38 d 1000 x0 x1 (x3 - (1 : Int32)) S5)
  · refine OkF.eq 2 (Y := fun f => if oc S x0 10 = true then rk px kx f (d + 5) 102 14 [some (.ref x0), some (.ref x1), some (.int x2), some (.int x3), some (.int x4), none] (va_rf (S.2.2.2.1 x0 1) :: []) S else none) (fun f => rfl) ?_
    refine OkF.grd (fun _ => ?_)
    refine OkF.rf (fun a6 => ?_)
    refine OkF.eq 3 (Y := fun f => if inb x4 (aw S 1 a6) = true then rk px kx f (d + 5) 102 18 [some (.ref x0), some (.ref x1), some (.int x2), some (.int x3), some (.int x4), none] [] (sI S a6 x4.toNatClampNeg (0 : Int32)) else none) (fun f => rfl) ?_
    refine OkF.grd (fun _ => ?_)
    refine OkF.nm (fun S7 => ?_)
    refine OkF.eq 2 (Y := fun f => rk px kx f (d + 5) 102 3 [some (.ref x0), some (.ref x1), some (.int x2), some (.int x3), some (.int (x4 + (1 : Int32))), none] [] S7) (fun f => rfl) ?_
    exact OkF.kl (ls1 := [some (.ref x0), some (.ref x1), some (.int x2), some (.int x3), some (.int (x4 + (1 : Int32))), none]) (fun f => rfl) (hk3 x0 x1 x2 x3 (x4 + (1 : Int32)) S7)
def l102_3 : Nat → Nat → Nat → Int32 → Int32 → Int32 → Sx → Option (Sx)
  | 0 => fun _ _ _ _ _ _ => none
  | n + 1 => fun x0 x1 x2 x3 x4 S => b102_3 (l102_3 n) x0 x1 x2 x3 x4 S
set_option maxRecDepth 100000 in
theorem ol102_3 (d : Nat) : ∀ (n : Nat) (x0 : Nat) (x1 : Nat) (x2 : Int32) (x3 : Int32) (x4 : Int32) (S : Sx), OkF wV (fun f => rk px kx f (d + 5) 102 3 [some (.ref x0), some (.ref x1), some (.int x2), some (.int x3), some (.int x4), none] [] S) (l102_3 n x0 x1 x2 x3 x4 S) := by
  intro n
  induction n with
  | zero => intro x0 x1 x2 x3 x4 S; exact OkF.no
  | succ n ih => intro x0 x1 x2 x3 x4 S; exact ob102_3 d (l102_3 n) ih x0 x1 x2 x3 x4 S
def m102 (x0 : Nat) (x1 : Nat) (x2 : Int32) (x3 : Int32) (S : Sx) : Option (Sx) :=
  l102_3 1000 x0 x1 x2 x3 (0 : Int32) S
set_option maxRecDepth 100000 in
theorem om102 (d : Nat) (x0 : Nat) (x1 : Nat) (x2 : Int32) (x3 : Int32) (S : Sx) : OkF wV (fun f => rk px kx f (d + 5) 102 0 [some (.ref x0), some (.ref x1), some (.int x2), some (.int x3), none, none] [] S) (m102 x0 x1 x2 x3 S) := by
  unfold m102
  refine OkF.eq 2 (Y := fun f => rk px kx f (d + 5) 102 3 [some (.ref x0), some (.ref x1), some (.int x2), some (.int x3), some (.int (0 : Int32)), none] [] S) (fun f => rfl) ?_
  exact OkF.kl (ls1 := [some (.ref x0), some (.ref x1), some (.int x2), some (.int x3), some (.int (0 : Int32)), none]) (fun f => rfl) (ol102_3 d 1000 x0 x1 x2 x3 (0 : Int32) S)
-- DoorSold$Row.append(I)V
def m108 (x0 : Nat) (x1 : Int32) (S : Sx) : Option (Sx) :=
  if oc S x0 8 = true then if (S.2.1 x0 1) < 0 then some S else if oc S x0 8 = true then if oc S x0 8 = true then (S.2.2.2.1 x0 0).bind fun a1 => if (Nat.beq a1 1000 || isa S 1 a1) = true then if (S.2.1 x0 1) < (Int32.ofNat (al S a1)) then if oc S x0 8 = true then (S.2.2.2.1 x0 0).bind fun a2 => if oc S x0 8 = true then if inb (S.2.1 x0 1) (aw S 1 a2) = true then lt (sI S a2 (S.2.1 x0 1).toNatClampNeg x1) fun S3 => if oc S3 x0 8 = true then if oc S3 x0 8 = true then lt (sI S3 x0 1 ((S3.2.1 x0 1) + (1 : Int32))) fun S4 => some S4 else none else none else none else none else none else some S else none else none else none else none
set_option maxRecDepth 100000 in
theorem om108 (d : Nat) (x0 : Nat) (x1 : Int32) (S : Sx) : OkF wV (fun f => rk px kx f (d + 0) 108 0 [some (.ref x0), some (.int x1)] [] S) (m108 x0 x1 S) := by
  unfold m108
  refine OkF.eq 2 (Y := fun f => if oc S x0 8 = true then rk px kx f (d + 0) 108 4 [some (.ref x0), some (.int x1)] [.int (S.2.1 x0 1)] S else none) (fun f => rfl) ?_
  refine OkF.grd (fun _ => ?_)
  refine OkF.eq 1 (Y := fun f => if (S.2.1 x0 1) < 0 then rk px kx f (d + 0) 108 19 [some (.ref x0), some (.int x1)] [] S else rk px kx f (d + 0) 108 7 [some (.ref x0), some (.int x1)] [] S) (fun f => rfl) ?_
  refine OkF.ite (fun _ => ?_) (fun _ => ?_)
  · exact OkF.ret 1 (fun f => rfl)
  · refine OkF.eq 2 (Y := fun f => if oc S x0 8 = true then rk px kx f (d + 0) 108 11 [some (.ref x0), some (.int x1)] [.int (S.2.1 x0 1)] S else none) (fun f => rfl) ?_
    refine OkF.grd (fun _ => ?_)
    refine OkF.eq 2 (Y := fun f => if oc S x0 8 = true then rk px kx f (d + 0) 108 15 [some (.ref x0), some (.int x1)] (va_rf (S.2.2.2.1 x0 0) :: [.int (S.2.1 x0 1)]) S else none) (fun f => rfl) ?_
    refine OkF.grd (fun _ => ?_)
    refine OkF.rf (fun a1 => ?_)
    refine OkF.eq 1 (Y := fun f => if (Nat.beq a1 1000 || isa S 1 a1) = true then rk px kx f (d + 0) 108 16 [some (.ref x0), some (.int x1)] [.int (Int32.ofNat (al S a1)), .int (S.2.1 x0 1)] S else none) (fun f => rfl) ?_
    refine OkF.grd (fun _ => ?_)
    refine OkF.eq 1 (Y := fun f => if (S.2.1 x0 1) < (Int32.ofNat (al S a1)) then rk px kx f (d + 0) 108 20 [some (.ref x0), some (.int x1)] [] S else rk px kx f (d + 0) 108 19 [some (.ref x0), some (.int x1)] [] S) (fun f => rfl) ?_
    refine OkF.ite (fun _ => ?_) (fun _ => ?_)
    · refine OkF.eq 2 (Y := fun f => if oc S x0 8 = true then rk px kx f (d + 0) 108 24 [some (.ref x0), some (.int x1)] (va_rf (S.2.2.2.1 x0 0) :: []) S else none) (fun f => rfl) ?_
      refine OkF.grd (fun _ => ?_)
      refine OkF.rf (fun a2 => ?_)
      refine OkF.eq 2 (Y := fun f => if oc S x0 8 = true then rk px kx f (d + 0) 108 28 [some (.ref x0), some (.int x1)] [.int (S.2.1 x0 1), .ref a2] S else none) (fun f => rfl) ?_
      refine OkF.grd (fun _ => ?_)
      refine OkF.eq 2 (Y := fun f => if inb (S.2.1 x0 1) (aw S 1 a2) = true then rk px kx f (d + 0) 108 30 [some (.ref x0), some (.int x1)] [] (sI S a2 (S.2.1 x0 1).toNatClampNeg x1) else none) (fun f => rfl) ?_
      refine OkF.grd (fun _ => ?_)
      refine OkF.nm (fun S3 => ?_)
      refine OkF.eq 3 (Y := fun f => if oc S3 x0 8 = true then rk px kx f (d + 0) 108 35 [some (.ref x0), some (.int x1)] [.int (S3.2.1 x0 1), .ref x0] S3 else none) (fun f => rfl) ?_
      refine OkF.grd (fun _ => ?_)
      refine OkF.eq 3 (Y := fun f => if oc S3 x0 8 = true then rk px kx f (d + 0) 108 40 [some (.ref x0), some (.int x1)] [] (sI S3 x0 1 ((S3.2.1 x0 1) + (1 : Int32))) else none) (fun f => rfl) ?_
      refine OkF.grd (fun _ => ?_)
      refine OkF.nm (fun S4 => ?_)
      exact OkF.ret 1 (fun f => rfl)
    · exact OkF.ret 1 (fun f => rfl)
-- DoorSold$Ways.firstSteps(LDoorSold$Country;ILDoorSold$Row;)V
def b107_12 (k12 : Nat → Nat → Int32 → Nat → Int32 → Int32 → Int32 → Sx → Option (Sx)) (x0 : Nat) (x1 : Nat) (x2 : Int32) (x3 : Nat) (x4 : Int32) (x5 : Int32) (x6 : Int32) (S : Sx) : Option (Sx) :=
  if x2 ≤ x6 then some S else if x2 ≤ x5 then some S else if oc S x0 10 = true then (m103 x0 x1 x4 x5 S).bind fun q1 => if q1.1 = (-9 : Int32) then some q1.2 else if oc q1.2 x3 8 = true then (m108 x3 q1.1 q1.2).bind fun q2 => (m106 x1 q1.1 x4 q2).bind fun q3 => (m105 x1 q1.1 q3.2).bind fun q4 => k12 x0 x1 x2 x3 q3.1 (x5 + q4.1) (x6 + (1 : Int32)) q4.2 else none else none
set_option maxRecDepth 100000 in
theorem ob107_12 (d : Nat) (k12 : Nat → Nat → Int32 → Nat → Int32 → Int32 → Int32 → Sx → Option (Sx)) (hk12 : ∀ (x0 : Nat) (x1 : Nat) (x2 : Int32) (x3 : Nat) (x4 : Int32) (x5 : Int32) (x6 : Int32) (S : Sx), OkF wV (fun f => rk px kx f (d + 5) 107 12 [some (.ref x0), some (.ref x1), some (.int x2), some (.ref x3), some (.int x4), some (.int x5), some (.int x6), none] [] S) (k12 x0 x1 x2 x3 x4 x5 x6 S)) (x0 : Nat) (x1 : Nat) (x2 : Int32) (x3 : Nat) (x4 : Int32) (x5 : Int32) (x6 : Int32) (S : Sx) : OkF wV (fun f => rk px kx f (d + 5) 107 12 [some (.ref x0), some (.ref x1), some (.int x2), some (.ref x3), some (.int x4), some (.int x5), some (.int x6), none] [] S) (b107_12 k12 x0 x1 x2 x3 x4 x5 x6 S) := by
  unfold b107_12
  refine OkF.eq 3 (Y := fun f => if x2 ≤ x6 then rk px kx f (d + 5) 107 76 [some (.ref x0), some (.ref x1), some (.int x2), some (.ref x3), some (.int x4), some (.int x5), some (.int x6), none] [] S else rk px kx f (d + 5) 107 18 [some (.ref x0), some (.ref x1), some (.int x2), some (.ref x3), some (.int x4), some (.int x5), some (.int x6), none] [] S) (fun f => rfl) ?_
  refine OkF.ite (fun _ => ?_) (fun _ => ?_)
  · exact OkF.ret 1 (fun f => rfl)
  · refine OkF.eq 3 (Y := fun f => if x2 ≤ x5 then rk px kx f (d + 5) 107 76 [some (.ref x0), some (.ref x1), some (.int x2), some (.ref x3), some (.int x4), some (.int x5), some (.int x6), none] [] S else rk px kx f (d + 5) 107 24 [some (.ref x0), some (.ref x1), some (.int x2), some (.ref x3), some (.int x4), some (.int x5), some (.int x6), none] [] S) (fun f => rfl) ?_
    refine OkF.ite (fun _ => ?_) (fun _ => ?_)
    · exact OkF.ret 1 (fun f => rfl)
    · refine OkF.eq 5 (Y := fun f => if oc S x0 10 = true then (rk px kx f (d + 4) 103 0 [some (.ref x0), some (.ref x1), some (.int x4), some (.int x5), none, none] [] S).bind (fun q => rk px kx f (d + 5) 107 33 [some (.ref x0), some (.ref x1), some (.int x2), some (.ref x3), some (.int x4), some (.int x5), some (.int x6), none] (q.1.toList ++ []) q.2) else none) (fun f => rfl) ?_
      refine OkF.grd (fun _ => ?_)
      refine OkF.bind (w1 := wI) (om103 (d + 0) x0 x1 x4 x5 S) (fun q1 => ?_)
      refine OkF.eq 4 (Y := fun f => if q1.1 = (-9 : Int32) then rk px kx f (d + 5) 107 42 [some (.ref x0), some (.ref x1), some (.int x2), some (.ref x3), some (.int x4), some (.int x5), some (.int x6), some (.int q1.1)] [] q1.2 else rk px kx f (d + 5) 107 43 [some (.ref x0), some (.ref x1), some (.int x2), some (.ref x3), some (.int x4), some (.int x5), some (.int x6), some (.int q1.1)] [] q1.2) (fun f => rfl) ?_
      refine OkF.ite (fun _ => ?_) (fun _ => ?_)
      · exact OkF.ret 1 (fun f => rfl)
      · refine OkF.eq 3 (Y := fun f => if oc q1.2 x3 8 = true then (rk px kx f (d + 4) 108 0 [some (.ref x3), some (.int q1.1)] [] q1.2).bind (fun q => rk px kx f (d + 5) 107 49 [some (.ref x0), some (.ref x1), some (.int x2), some (.ref x3), some (.int x4), some (.int x5), some (.int x6), some (.int q1.1)] (q.1.toList ++ []) q.2) else none) (fun f => rfl) ?_
        refine OkF.grd (fun _ => ?_)
        refine OkF.bind (w1 := wV) (om108 (d + 4) x3 q1.1 q1.2) (fun q2 => ?_)
        refine OkF.eq 4 (Y := fun f => (rk px kx f (d + 4) 106 0 [some (.ref x1), some (.int q1.1), some (.int x4)] [] q2).bind (fun q => rk px kx f (d + 5) 107 57 [some (.ref x0), some (.ref x1), some (.int x2), some (.ref x3), some (.int x4), some (.int x5), some (.int x6), some (.int q1.1)] (q.1.toList ++ []) q.2)) (fun f => rfl) ?_
        refine OkF.bind (w1 := wI) (om106 (d + 2) x1 q1.1 x4 q2) (fun q3 => ?_)
        refine OkF.eq 5 (Y := fun f => (rk px kx f (d + 4) 105 0 [some (.ref x1), some (.int q1.1)] [] q3.2).bind (fun q => rk px kx f (d + 5) 107 67 [some (.ref x0), some (.ref x1), some (.int x2), some (.ref x3), some (.int q3.1), some (.int x5), some (.int x6), some (.int q1.1)] (q.1.toList ++ [.int x5]) q.2)) (fun f => rfl) ?_
        refine OkF.bind (w1 := wI) (om105 (d + 1) x1 q1.1 q3.2) (fun q4 => ?_)
        refine OkF.eq 4 (Y := fun f => rk px kx f (d + 5) 107 12 [some (.ref x0), some (.ref x1), some (.int x2), some (.ref x3), some (.int q3.1), some (.int (x5 + q4.1)), some (.int (x6 + (1 : Int32))), some (.int q1.1)] [] q4.2) (fun f => rfl) ?_
        exact OkF.kl (ls1 := [some (.ref x0), some (.ref x1), some (.int x2), some (.ref x3), some (.int q3.1), some (.int (x5 + q4.1)), some (.int (x6 + (1 : Int32))), none]) (fun f => rfl) (hk12 x0 x1 x2 x3 q3.1 (x5 + q4.1) (x6 + (1 : Int32)) q4.2)
def l107_12 : Nat → Nat → Nat → Int32 → Nat → Int32 → Int32 → Int32 → Sx → Option (Sx)
  | 0 => fun _ _ _ _ _ _ _ _ => none
  | n + 1 => fun x0 x1 x2 x3 x4 x5 x6 S => b107_12 (l107_12 n) x0 x1 x2 x3 x4 x5 x6 S
set_option maxRecDepth 100000 in
theorem ol107_12 (d : Nat) : ∀ (n : Nat) (x0 : Nat) (x1 : Nat) (x2 : Int32) (x3 : Nat) (x4 : Int32) (x5 : Int32) (x6 : Int32) (S : Sx), OkF wV (fun f => rk px kx f (d + 5) 107 12 [some (.ref x0), some (.ref x1), some (.int x2), some (.ref x3), some (.int x4), some (.int x5), some (.int x6), none] [] S) (l107_12 n x0 x1 x2 x3 x4 x5 x6 S) := by
  intro n
  induction n with
  | zero => intro x0 x1 x2 x3 x4 x5 x6 S; exact OkF.no
  | succ n ih => intro x0 x1 x2 x3 x4 x5 x6 S; exact ob107_12 d (l107_12 n) ih x0 x1 x2 x3 x4 x5 x6 S
def m107 (x0 : Nat) (x1 : Nat) (x2 : Int32) (x3 : Nat) (S : Sx) : Option (Sx) :=
  if oc S x1 4 = true then l107_12 1000 x0 x1 x2 x3 (S.2.1 x1 12) (0 : Int32) (0 : Int32) S else none
set_option maxRecDepth 100000 in
theorem om107 (d : Nat) (x0 : Nat) (x1 : Nat) (x2 : Int32) (x3 : Nat) (S : Sx) : OkF wV (fun f => rk px kx f (d + 5) 107 0 [some (.ref x0), some (.ref x1), some (.int x2), some (.ref x3), none, none, none, none] [] S) (m107 x0 x1 x2 x3 S) := by
  unfold m107
  refine OkF.eq 2 (Y := fun f => if oc S x1 4 = true then rk px kx f (d + 5) 107 4 [some (.ref x0), some (.ref x1), some (.int x2), some (.ref x3), none, none, none, none] [.int (S.2.1 x1 12)] S else none) (fun f => rfl) ?_
  refine OkF.grd (fun _ => ?_)
  refine OkF.eq 5 (Y := fun f => rk px kx f (d + 5) 107 12 [some (.ref x0), some (.ref x1), some (.int x2), some (.ref x3), some (.int (S.2.1 x1 12)), some (.int (0 : Int32)), some (.int (0 : Int32)), none] [] S) (fun f => rfl) ?_
  exact OkF.kl (ls1 := [some (.ref x0), some (.ref x1), some (.int x2), some (.ref x3), some (.int (S.2.1 x1 12)), some (.int (0 : Int32)), some (.int (0 : Int32)), none]) (fun f => rfl) (ol107_12 d 1000 x0 x1 x2 x3 (S.2.1 x1 12) (0 : Int32) (0 : Int32) S)
-- DoorSold.way(II)I
def m101 (x0 : Nat) (x1 : Int32) (x2 : Int32) (S : Sx) : Option (Int32 × Sx) :=
  if oc S x0 11 = true then (m98 x0 x1 S).bind fun q1 => if q1.1 = 0 then (m14 x2 q1.2).bind fun q2 => if q2.1 = 0 then if oc q2.2 x0 11 = true then (q2.2.2.2.2.1 x0 7).bind fun a3 => if oc q2.2 x0 11 = true then (q2.2.2.2.2.1 x0 3).bind fun a4 => if oc q2.2 x0 11 = true then (q2.2.2.2.2.1 x0 3).bind fun a5 => if oc q2.2 a5 4 = true then if oc q2.2 a3 10 = true then (m99 a3 a4 (q2.2.2.1 a5 14) x1 q2.2).bind fun q6 => if oc q6.2 x0 11 = true then (q6.2.2.2.2.1 x0 7).bind fun a7 => if oc q6.2 x0 11 = true then (q6.2.2.2.2.1 x0 3).bind fun a8 => if oc q6.2 a7 10 = true then (m102 a7 a8 x1 q6.1 q6.2).bind fun q9 => if oc q9 x0 11 = true then (q9.2.2.2.1 x0 0).bind fun a10 => if inb x2 (aw q9 3 a10) = true then (q9.2.2.2.1 a10 x2.toNatClampNeg).bind fun a11 => if oc q9 a11 8 = true then (m16 a11 (0 : Int32) (0 : Int32) q9).bind fun q12 => if oc q12 x0 11 = true then (q12.2.2.2.1 x0 7).bind fun a13 => if oc q12 x0 11 = true then (q12.2.2.2.1 x0 3).bind fun a14 => if oc q12 x0 11 = true then (q12.2.2.2.1 x0 0).bind fun a15 => if inb x2 (aw q12 3 a15) = true then (q12.2.2.2.1 a15 x2.toNatClampNeg).bind fun a16 => if oc q12 a13 10 = true then (m107 a13 a14 q6.1 a16 q12).bind fun q17 => if oc q17 x0 11 = true then (q17.2.2.2.1 x0 0).bind fun a18 => if inb x2 (aw q17 3 a18) = true then (q17.2.2.2.1 a18 x2.toNatClampNeg).bind fun a19 => if oc q17 a19 8 = true then some (q17.2.1 a19 1, q17) else none else none else none else none else none else none else none else none else none else none else none else none else none else none else none else none else none else none else none else some ((-1 : Int32), q2.2) else some ((-1 : Int32), q1.2) else none
set_option maxRecDepth 100000 in
theorem om101 (d : Nat) (x0 : Nat) (x1 : Int32) (x2 : Int32) (S : Sx) : OkF wI (fun f => rk px kx f (d + 6) 101 0 [some (.ref x0), some (.int x1), some (.int x2), none] [] S) (m101 x0 x1 x2 S) := by
  unfold m101
  refine OkF.eq 3 (Y := fun f => if oc S x0 11 = true then (rk px kx f (d + 5) 98 0 [some (.ref x0), some (.int x1)] [] S).bind (fun q => rk px kx f (d + 6) 101 5 [some (.ref x0), some (.int x1), some (.int x2), none] (q.1.toList ++ []) q.2) else none) (fun f => rfl) ?_
  refine OkF.grd (fun _ => ?_)
  refine OkF.bind (w1 := wI) (om98 (d + 5) x0 x1 S) (fun q1 => ?_)
  refine OkF.eq 1 (Y := fun f => if q1.1 = 0 then rk px kx f (d + 6) 101 8 [some (.ref x0), some (.int x1), some (.int x2), none] [] q1.2 else rk px kx f (d + 6) 101 15 [some (.ref x0), some (.int x1), some (.int x2), none] [] q1.2) (fun f => rfl) ?_
  refine OkF.ite (fun _ => ?_) (fun _ => ?_)
  · refine OkF.eq 2 (Y := fun f => (rk px kx f (d + 5) 14 0 [some (.int x2)] [] q1.2).bind (fun q => rk px kx f (d + 6) 101 12 [some (.ref x0), some (.int x1), some (.int x2), none] (q.1.toList ++ []) q.2)) (fun f => rfl) ?_
    refine OkF.bind (w1 := wI) (om14 (d + 5) x2 q1.2) (fun q2 => ?_)
    refine OkF.eq 1 (Y := fun f => if q2.1 = 0 then rk px kx f (d + 6) 101 17 [some (.ref x0), some (.int x1), some (.int x2), none] [] q2.2 else rk px kx f (d + 6) 101 15 [some (.ref x0), some (.int x1), some (.int x2), none] [] q2.2) (fun f => rfl) ?_
    refine OkF.ite (fun _ => ?_) (fun _ => ?_)
    · refine OkF.eq 2 (Y := fun f => if oc q2.2 x0 11 = true then rk px kx f (d + 6) 101 21 [some (.ref x0), some (.int x1), some (.int x2), none] (va_rf (q2.2.2.2.2.1 x0 7) :: []) q2.2 else none) (fun f => rfl) ?_
      refine OkF.grd (fun _ => ?_)
      refine OkF.rf (fun a3 => ?_)
      refine OkF.eq 2 (Y := fun f => if oc q2.2 x0 11 = true then rk px kx f (d + 6) 101 25 [some (.ref x0), some (.int x1), some (.int x2), none] (va_rf (q2.2.2.2.2.1 x0 3) :: [.ref a3]) q2.2 else none) (fun f => rfl) ?_
      refine OkF.grd (fun _ => ?_)
      refine OkF.rf (fun a4 => ?_)
      refine OkF.eq 2 (Y := fun f => if oc q2.2 x0 11 = true then rk px kx f (d + 6) 101 29 [some (.ref x0), some (.int x1), some (.int x2), none] (va_rf (q2.2.2.2.2.1 x0 3) :: [.ref a4, .ref a3]) q2.2 else none) (fun f => rfl) ?_
      refine OkF.grd (fun _ => ?_)
      refine OkF.rf (fun a5 => ?_)
      refine OkF.eq 1 (Y := fun f => if oc q2.2 a5 4 = true then rk px kx f (d + 6) 101 32 [some (.ref x0), some (.int x1), some (.int x2), none] [.int (q2.2.2.1 a5 14), .ref a4, .ref a3] q2.2 else none) (fun f => rfl) ?_
      refine OkF.grd (fun _ => ?_)
      refine OkF.eq 2 (Y := fun f => if oc q2.2 a3 10 = true then (rk px kx f (d + 5) 99 0 [some (.ref a3), some (.ref a4), some (.int (q2.2.2.1 a5 14)), some (.int x1), none] [] q2.2).bind (fun q => rk px kx f (d + 6) 101 36 [some (.ref x0), some (.int x1), some (.int x2), none] (q.1.toList ++ []) q.2) else none) (fun f => rfl) ?_
      refine OkF.grd (fun _ => ?_)
      refine OkF.bind (w1 := wI) (om99 (d + 0) a3 a4 (q2.2.2.1 a5 14) x1 q2.2) (fun q6 => ?_)
      refine OkF.eq 3 (Y := fun f => if oc q6.2 x0 11 = true then rk px kx f (d + 6) 101 41 [some (.ref x0), some (.int x1), some (.int x2), some (.int q6.1)] (va_rf (q6.2.2.2.2.1 x0 7) :: []) q6.2 else none) (fun f => rfl) ?_
      refine OkF.grd (fun _ => ?_)
      refine OkF.rf (fun a7 => ?_)
      refine OkF.eq 2 (Y := fun f => if oc q6.2 x0 11 = true then rk px kx f (d + 6) 101 45 [some (.ref x0), some (.int x1), some (.int x2), some (.int q6.1)] (va_rf (q6.2.2.2.2.1 x0 3) :: [.ref a7]) q6.2 else none) (fun f => rfl) ?_
      refine OkF.grd (fun _ => ?_)
      refine OkF.rf (fun a8 => ?_)
      refine OkF.eq 3 (Y := fun f => if oc q6.2 a7 10 = true then (rk px kx f (d + 5) 102 0 [some (.ref a7), some (.ref a8), some (.int x1), some (.int q6.1), none, none] [] q6.2).bind (fun q => rk px kx f (d + 6) 101 50 [some (.ref x0), some (.int x1), some (.int x2), some (.int q6.1)] (q.1.toList ++ []) q.2) else none) (fun f => rfl) ?_
      refine OkF.grd (fun _ => ?_)
      refine OkF.bind (w1 := wV) (om102 (d + 0) a7 a8 x1 q6.1 q6.2) (fun q9 => ?_)
      refine OkF.eq 2 (Y := fun f => if oc q9 x0 11 = true then rk px kx f (d + 6) 101 54 [some (.ref x0), some (.int x1), some (.int x2), some (.int q6.1)] (va_rf (q9.2.2.2.1 x0 0) :: []) q9 else none) (fun f => rfl) ?_
      refine OkF.grd (fun _ => ?_)
      refine OkF.rf (fun a10 => ?_)
      refine OkF.eq 2 (Y := fun f => if inb x2 (aw q9 3 a10) = true then rk px kx f (d + 6) 101 56 [some (.ref x0), some (.int x1), some (.int x2), some (.int q6.1)] (va_rf (q9.2.2.2.1 a10 x2.toNatClampNeg) :: []) q9 else none) (fun f => rfl) ?_
      refine OkF.grd (fun _ => ?_)
      refine OkF.rf (fun a11 => ?_)
      refine OkF.eq 3 (Y := fun f => if oc q9 a11 8 = true then (rk px kx f (d + 5) 16 0 [some (.ref a11), some (.int (0 : Int32)), some (.int (0 : Int32)), none] [] q9).bind (fun q => rk px kx f (d + 6) 101 61 [some (.ref x0), some (.int x1), some (.int x2), some (.int q6.1)] (q.1.toList ++ []) q.2) else none) (fun f => rfl) ?_
      refine OkF.grd (fun _ => ?_)
      refine OkF.bind (w1 := wV) (om16 (d + 4) a11 (0 : Int32) (0 : Int32) q9) (fun q12 => ?_)
      refine OkF.eq 2 (Y := fun f => if oc q12 x0 11 = true then rk px kx f (d + 6) 101 65 [some (.ref x0), some (.int x1), some (.int x2), some (.int q6.1)] (va_rf (q12.2.2.2.1 x0 7) :: []) q12 else none) (fun f => rfl) ?_
      refine OkF.grd (fun _ => ?_)
      refine OkF.rf (fun a13 => ?_)
      refine OkF.eq 2 (Y := fun f => if oc q12 x0 11 = true then rk px kx f (d + 6) 101 69 [some (.ref x0), some (.int x1), some (.int x2), some (.int q6.1)] (va_rf (q12.2.2.2.1 x0 3) :: [.ref a13]) q12 else none) (fun f => rfl) ?_
      refine OkF.grd (fun _ => ?_)
      refine OkF.rf (fun a14 => ?_)
      refine OkF.eq 3 (Y := fun f => if oc q12 x0 11 = true then rk px kx f (d + 6) 101 74 [some (.ref x0), some (.int x1), some (.int x2), some (.int q6.1)] (va_rf (q12.2.2.2.1 x0 0) :: [.int q6.1, .ref a14, .ref a13]) q12 else none) (fun f => rfl) ?_
      refine OkF.grd (fun _ => ?_)
      refine OkF.rf (fun a15 => ?_)
      refine OkF.eq 2 (Y := fun f => if inb x2 (aw q12 3 a15) = true then rk px kx f (d + 6) 101 76 [some (.ref x0), some (.int x1), some (.int x2), some (.int q6.1)] (va_rf (q12.2.2.2.1 a15 x2.toNatClampNeg) :: [.int q6.1, .ref a14, .ref a13]) q12 else none) (fun f => rfl) ?_
      refine OkF.grd (fun _ => ?_)
      refine OkF.rf (fun a16 => ?_)
      refine OkF.eq 1 (Y := fun f => if oc q12 a13 10 = true then (rk px kx f (d + 5) 107 0 [some (.ref a13), some (.ref a14), some (.int q6.1), some (.ref a16), none, none, none, none] [] q12).bind (fun q => rk px kx f (d + 6) 101 79 [some (.ref x0), some (.int x1), some (.int x2), some (.int q6.1)] (q.1.toList ++ []) q.2) else none) (fun f => rfl) ?_
      refine OkF.grd (fun _ => ?_)
      refine OkF.bind (w1 := wV) (om107 (d + 0) a13 a14 q6.1 a16 q12) (fun q17 => ?_)
      refine OkF.eq 2 (Y := fun f => if oc q17 x0 11 = true then rk px kx f (d + 6) 101 83 [some (.ref x0), some (.int x1), some (.int x2), some (.int q6.1)] (va_rf (q17.2.2.2.1 x0 0) :: []) q17 else none) (fun f => rfl) ?_
      refine OkF.grd (fun _ => ?_)
      refine OkF.rf (fun a18 => ?_)
      refine OkF.eq 2 (Y := fun f => if inb x2 (aw q17 3 a18) = true then rk px kx f (d + 6) 101 85 [some (.ref x0), some (.int x1), some (.int x2), some (.int q6.1)] (va_rf (q17.2.2.2.1 a18 x2.toNatClampNeg) :: []) q17 else none) (fun f => rfl) ?_
      refine OkF.grd (fun _ => ?_)
      refine OkF.rf (fun a19 => ?_)
      refine OkF.eq 1 (Y := fun f => if oc q17 a19 8 = true then rk px kx f (d + 6) 101 88 [some (.ref x0), some (.int x1), some (.int x2), some (.int q6.1)] [.int (q17.2.1 a19 1)] q17 else none) (fun f => rfl) ?_
      refine OkF.grd (fun _ => ?_)
      exact OkF.ret 1 (fun f => rfl)
    · exact OkF.ret 2 (fun f => rfl)
  · exact OkF.ret 2 (fun f => rfl)
-- DoorSold$Country.allDoors()I
def m110 (x0 : Nat) (S : Sx) : Option (Int32 × Sx) :=
  if oc S x0 4 = true then some (((1 : Int32) <<< ((S.2.1 x0 9) &&& 31)) - (1 : Int32), S) else none
set_option maxRecDepth 100000 in
theorem om110 (d : Nat) (x0 : Nat) (S : Sx) : OkF wI (fun f => rk px kx f (d + 0) 110 0 [some (.ref x0)] [] S) (m110 x0 S) := by
  unfold m110
  refine OkF.eq 3 (Y := fun f => if oc S x0 4 = true then rk px kx f (d + 0) 110 5 [some (.ref x0)] [.int (S.2.1 x0 9), .int (1 : Int32)] S else none) (fun f => rfl) ?_
  refine OkF.grd (fun _ => ?_)
  exact OkF.ret 4 (fun f => rfl)
-- DoorSold$Country.costOfSet(I)I
def b111_29 (k4 : Nat → Int32 → Int32 → Int32 → Sx → Option (Int32 × Sx)) (x0 : Nat) (x1 : Int32) (x2 : Int32) (x3 : Int32) (S : Sx) : Option (Int32 × Sx) :=
  k4 x0 x1 x2 (x3 + (1 : Int32)) S
set_option maxRecDepth 100000 in
theorem ob111_29 (d : Nat) (k4 : Nat → Int32 → Int32 → Int32 → Sx → Option (Int32 × Sx)) (hk4 : ∀ (x0 : Nat) (x1 : Int32) (x2 : Int32) (x3 : Int32) (S : Sx), OkF wI (fun f => rk px kx f (d + 3) 111 4 [some (.ref x0), some (.int x1), some (.int x2), some (.int x3)] [] S) (k4 x0 x1 x2 x3 S)) (x0 : Nat) (x1 : Int32) (x2 : Int32) (x3 : Int32) (S : Sx) : OkF wI (fun f => rk px kx f (d + 3) 111 29 [some (.ref x0), some (.int x1), some (.int x2), some (.int x3)] [] S) (b111_29 k4 x0 x1 x2 x3 S) := by
  unfold b111_29
  refine OkF.eq 2 (Y := fun f => rk px kx f (d + 3) 111 4 [some (.ref x0), some (.int x1), some (.int x2), some (.int (x3 + (1 : Int32)))] [] S) (fun f => rfl) ?_
  exact OkF.kl (ls1 := [some (.ref x0), some (.int x1), some (.int x2), some (.int (x3 + (1 : Int32)))]) (fun f => rfl) (hk4 x0 x1 x2 (x3 + (1 : Int32)) S)
def b111_4 (k4 : Nat → Int32 → Int32 → Int32 → Sx → Option (Int32 × Sx)) (x0 : Nat) (x1 : Int32) (x2 : Int32) (x3 : Int32) (S : Sx) : Option (Int32 × Sx) :=
  if oc S x0 4 = true then if (S.2.1 x0 9) ≤ x3 then some (x2, S) else if ((x1 >>> (x3 &&& 31)) &&& (1 : Int32)) = (1 : Int32) then if oc S x0 4 = true then (m45 x0 x3 S).bind fun q1 => b111_29 k4 x0 x1 (x2 + q1.1) x3 q1.2 else none else b111_29 k4 x0 x1 x2 x3 S else none
set_option maxRecDepth 100000 in
theorem ob111_4 (d : Nat) (k4 : Nat → Int32 → Int32 → Int32 → Sx → Option (Int32 × Sx)) (hk4 : ∀ (x0 : Nat) (x1 : Int32) (x2 : Int32) (x3 : Int32) (S : Sx), OkF wI (fun f => rk px kx f (d + 3) 111 4 [some (.ref x0), some (.int x1), some (.int x2), some (.int x3)] [] S) (k4 x0 x1 x2 x3 S)) (x0 : Nat) (x1 : Int32) (x2 : Int32) (x3 : Int32) (S : Sx) : OkF wI (fun f => rk px kx f (d + 3) 111 4 [some (.ref x0), some (.int x1), some (.int x2), some (.int x3)] [] S) (b111_4 k4 x0 x1 x2 x3 S) := by
  unfold b111_4
  refine OkF.eq 3 (Y := fun f => if oc S x0 4 = true then rk px kx f (d + 3) 111 9 [some (.ref x0), some (.int x1), some (.int x2), some (.int x3)] [.int (S.2.1 x0 9), .int x3] S else none) (fun f => rfl) ?_
  refine OkF.grd (fun _ => ?_)
  refine OkF.eq 1 (Y := fun f => if (S.2.1 x0 9) ≤ x3 then rk px kx f (d + 3) 111 35 [some (.ref x0), some (.int x1), some (.int x2), some (.int x3)] [] S else rk px kx f (d + 3) 111 12 [some (.ref x0), some (.int x1), some (.int x2), some (.int x3)] [] S) (fun f => rfl) ?_
  refine OkF.ite (fun _ => ?_) (fun _ => ?_)
  · exact OkF.ret 2 (fun f => rfl)
  · refine OkF.eq 7 (Y := fun f => if ((x1 >>> (x3 &&& 31)) &&& (1 : Int32)) = (1 : Int32) then rk px kx f (d + 3) 111 21 [some (.ref x0), some (.int x1), some (.int x2), some (.int x3)] [] S else rk px kx f (d + 3) 111 29 [some (.ref x0), some (.int x1), some (.int x2), some (.int x3)] [] S) (fun f => rfl) ?_
    refine OkF.ite (fun _ => ?_) (fun _ => ?_)
    · refine OkF.eq 4 (Y := fun f => if oc S x0 4 = true then (rk px kx f (d + 2) 45 0 [some (.ref x0), some (.int x3)] [] S).bind (fun q => rk px kx f (d + 3) 111 27 [some (.ref x0), some (.int x1), some (.int x2), some (.int x3)] (q.1.toList ++ [.int x2]) q.2) else none) (fun f => rfl) ?_
      refine OkF.grd (fun _ => ?_)
      refine OkF.bind (w1 := wI) (om45 (d + 0) x0 x3 S) (fun q1 => ?_)
      refine OkF.eq 2 (Y := fun f => rk px kx f (d + 3) 111 29 [some (.ref x0), some (.int x1), some (.int (x2 + q1.1)), some (.int x3)] [] q1.2) (fun f => rfl) ?_
      exact OkF.kl (ls1 := [some (.ref x0), some (.int x1), some (.int (x2 + q1.1)), some (.int x3)]) (fun f => rfl) (ob111_29 d k4 hk4 x0 x1 (x2 + q1.1) x3 q1.2)
    · exact OkF.kl (ls1 := [some (.ref x0), some (.int x1), some (.int x2), some (.int x3)]) (fun f => rfl) (ob111_29 d k4 hk4 x0 x1 x2 x3 S)
def l111_4 : Nat → Nat → Int32 → Int32 → Int32 → Sx → Option (Int32 × Sx)
  | 0 => fun _ _ _ _ _ => none
  | n + 1 => fun x0 x1 x2 x3 S => b111_4 (l111_4 n) x0 x1 x2 x3 S
set_option maxRecDepth 100000 in
theorem ol111_4 (d : Nat) : ∀ (n : Nat) (x0 : Nat) (x1 : Int32) (x2 : Int32) (x3 : Int32) (S : Sx), OkF wI (fun f => rk px kx f (d + 3) 111 4 [some (.ref x0), some (.int x1), some (.int x2), some (.int x3)] [] S) (l111_4 n x0 x1 x2 x3 S) := by
  intro n
  induction n with
  | zero => intro x0 x1 x2 x3 S; exact OkF.no
  | succ n ih => intro x0 x1 x2 x3 S; exact ob111_4 d (l111_4 n) ih x0 x1 x2 x3 S
def m111 (x0 : Nat) (x1 : Int32) (S : Sx) : Option (Int32 × Sx) :=
  l111_4 1000 x0 x1 (0 : Int32) (0 : Int32) S
set_option maxRecDepth 100000 in
theorem om111 (d : Nat) (x0 : Nat) (x1 : Int32) (S : Sx) : OkF wI (fun f => rk px kx f (d + 3) 111 0 [some (.ref x0), some (.int x1), none, none] [] S) (m111 x0 x1 S) := by
  unfold m111
  refine OkF.eq 4 (Y := fun f => rk px kx f (d + 3) 111 4 [some (.ref x0), some (.int x1), some (.int (0 : Int32)), some (.int (0 : Int32))] [] S) (fun f => rfl) ?_
  exact OkF.kl (ls1 := [some (.ref x0), some (.int x1), some (.int (0 : Int32)), some (.int (0 : Int32))]) (fun f => rfl) (ol111_4 d 1000 x0 x1 (0 : Int32) (0 : Int32) S)
-- DoorSold.cheapest(II)I
def b109_116 (k26 : Nat → Int32 → Int32 → Int32 → Int32 → Int32 → Sx → Option (Int32 × Sx)) (x0 : Nat) (x1 : Int32) (x2 : Int32) (x3 : Int32) (x4 : Int32) (x5 : Int32) (S : Sx) : Option (Int32 × Sx) :=
  k26 x0 x1 x2 x3 x4 (x5 + (1 : Int32)) S
set_option maxRecDepth 100000 in
theorem ob109_116 (d : Nat) (k26 : Nat → Int32 → Int32 → Int32 → Int32 → Int32 → Sx → Option (Int32 × Sx)) (hk26 : ∀ (x0 : Nat) (x1 : Int32) (x2 : Int32) (x3 : Int32) (x4 : Int32) (x5 : Int32) (S : Sx), OkF wI (fun f => rk px kx f (d + 6) 109 26 [some (.ref x0), some (.int x1), some (.int x2), some (.int x3), some (.int x4), some (.int x5), none] [] S) (k26 x0 x1 x2 x3 x4 x5 S)) (x0 : Nat) (x1 : Int32) (x2 : Int32) (x3 : Int32) (x4 : Int32) (x5 : Int32) (S : Sx) : OkF wI (fun f => rk px kx f (d + 6) 109 116 [some (.ref x0), some (.int x1), some (.int x2), some (.int x3), some (.int x4), some (.int x5), none] [] S) (b109_116 k26 x0 x1 x2 x3 x4 x5 S) := by
  unfold b109_116
  refine OkF.eq 2 (Y := fun f => rk px kx f (d + 6) 109 26 [some (.ref x0), some (.int x1), some (.int x2), some (.int x3), some (.int x4), some (.int (x5 + (1 : Int32))), none] [] S) (fun f => rfl) ?_
  exact OkF.kl (ls1 := [some (.ref x0), some (.int x1), some (.int x2), some (.int x3), some (.int x4), some (.int (x5 + (1 : Int32))), none]) (fun f => rfl) (hk26 x0 x1 x2 x3 x4 (x5 + (1 : Int32)) S)
def b109_80 (k26 : Nat → Int32 → Int32 → Int32 → Int32 → Int32 → Sx → Option (Int32 × Sx)) (x0 : Nat) (x1 : Int32) (x2 : Int32) (x3 : Int32) (x4 : Int32) (x5 : Int32) (x6 : Int32) (S : Sx) : Option (Int32 × Sx) :=
  if oc S x0 11 = true then (S.2.2.2.1 x0 7).bind fun a1 => if oc S x0 11 = true then (S.2.2.2.1 x0 3).bind fun a2 => if oc S x0 11 = true then (S.2.2.2.1 x0 3).bind fun a3 => if oc S a3 4 = true then if oc S a1 10 = true then (m99 a1 a2 ((S.2.1 a3 14) ||| x5) x1 S).bind fun q4 => if q4.1 ≤ x2 then b109_116 k26 x0 x1 x2 x6 x5 x5 q4.2 else b109_116 k26 x0 x1 x2 x3 x4 x5 q4.2 else none else none else none else none else none
set_option maxRecDepth 100000 in
theorem ob109_80 (d : Nat) (k26 : Nat → Int32 → Int32 → Int32 → Int32 → Int32 → Sx → Option (Int32 × Sx)) (hk26 : ∀ (x0 : Nat) (x1 : Int32) (x2 : Int32) (x3 : Int32) (x4 : Int32) (x5 : Int32) (S : Sx), OkF wI (fun f => rk px kx f (d + 6) 109 26 [some (.ref x0), some (.int x1), some (.int x2), some (.int x3), some (.int x4), some (.int x5), none] [] S) (k26 x0 x1 x2 x3 x4 x5 S)) (x0 : Nat) (x1 : Int32) (x2 : Int32) (x3 : Int32) (x4 : Int32) (x5 : Int32) (x6 : Int32) (S : Sx) : OkF wI (fun f => rk px kx f (d + 6) 109 80 [some (.ref x0), some (.int x1), some (.int x2), some (.int x3), some (.int x4), some (.int x5), some (.int x6)] [] S) (b109_80 k26 x0 x1 x2 x3 x4 x5 x6 S) := by
  unfold b109_80
  refine OkF.eq 2 (Y := fun f => if oc S x0 11 = true then rk px kx f (d + 6) 109 84 [some (.ref x0), some (.int x1), some (.int x2), some (.int x3), some (.int x4), some (.int x5), some (.int x6)] (va_rf (S.2.2.2.1 x0 7) :: []) S else none) (fun f => rfl) ?_
  refine OkF.grd (fun _ => ?_)
  refine OkF.rf (fun a1 => ?_)
  refine OkF.eq 2 (Y := fun f => if oc S x0 11 = true then rk px kx f (d + 6) 109 88 [some (.ref x0), some (.int x1), some (.int x2), some (.int x3), some (.int x4), some (.int x5), some (.int x6)] (va_rf (S.2.2.2.1 x0 3) :: [.ref a1]) S else none) (fun f => rfl) ?_
  refine OkF.grd (fun _ => ?_)
  refine OkF.rf (fun a2 => ?_)
  refine OkF.eq 2 (Y := fun f => if oc S x0 11 = true then rk px kx f (d + 6) 109 92 [some (.ref x0), some (.int x1), some (.int x2), some (.int x3), some (.int x4), some (.int x5), some (.int x6)] (va_rf (S.2.2.2.1 x0 3) :: [.ref a2, .ref a1]) S else none) (fun f => rfl) ?_
  refine OkF.grd (fun _ => ?_)
  refine OkF.rf (fun a3 => ?_)
  refine OkF.eq 1 (Y := fun f => if oc S a3 4 = true then rk px kx f (d + 6) 109 95 [some (.ref x0), some (.int x1), some (.int x2), some (.int x3), some (.int x4), some (.int x5), some (.int x6)] [.int (S.2.1 a3 14), .ref a2, .ref a1] S else none) (fun f => rfl) ?_
  refine OkF.grd (fun _ => ?_)
  refine OkF.eq 4 (Y := fun f => if oc S a1 10 = true then (rk px kx f (d + 5) 99 0 [some (.ref a1), some (.ref a2), some (.int ((S.2.1 a3 14) ||| x5)), some (.int x1), none] [] S).bind (fun q => rk px kx f (d + 6) 109 102 [some (.ref x0), some (.int x1), some (.int x2), some (.int x3), some (.int x4), some (.int x5), some (.int x6)] (q.1.toList ++ []) q.2) else none) (fun f => rfl) ?_
  refine OkF.grd (fun _ => ?_)
  refine OkF.bind (w1 := wI) (om99 (d + 0) a1 a2 ((S.2.1 a3 14) ||| x5) x1 S) (fun q4 => ?_)
  refine OkF.eq 2 (Y := fun f => if q4.1 ≤ x2 then rk px kx f (d + 6) 109 109 [some (.ref x0), some (.int x1), some (.int x2), some (.int x3), some (.int x4), some (.int x5), some (.int x6)] [] q4.2 else rk px kx f (d + 6) 109 106 [some (.ref x0), some (.int x1), some (.int x2), some (.int x3), some (.int x4), some (.int x5), some (.int x6)] [] q4.2) (fun f => rfl) ?_
  refine OkF.ite (fun _ => ?_) (fun _ => ?_)
  · refine OkF.eq 4 (Y := fun f => rk px kx f (d + 6) 109 116 [some (.ref x0), some (.int x1), some (.int x2), some (.int x6), some (.int x5), some (.int x5), some (.int x6)] [] q4.2) (fun f => rfl) ?_
    exact OkF.kl (ls1 := [some (.ref x0), some (.int x1), some (.int x2), some (.int x6), some (.int x5), some (.int x5), none]) (fun f => rfl) (ob109_116 d k26 hk26 x0 x1 x2 x6 x5 x5 q4.2)
  · refine OkF.eq 1 (Y := fun f => rk px kx f (d + 6) 109 116 [some (.ref x0), some (.int x1), some (.int x2), some (.int x3), some (.int x4), some (.int x5), some (.int x6)] [] q4.2) (fun f => rfl) ?_
    exact OkF.kl (ls1 := [some (.ref x0), some (.int x1), some (.int x2), some (.int x3), some (.int x4), some (.int x5), none]) (fun f => rfl) (ob109_116 d k26 hk26 x0 x1 x2 x3 x4 x5 q4.2)
def b109_26 (k26 : Nat → Int32 → Int32 → Int32 → Int32 → Int32 → Sx → Option (Int32 × Sx)) (x0 : Nat) (x1 : Int32) (x2 : Int32) (x3 : Int32) (x4 : Int32) (x5 : Int32) (S : Sx) : Option (Int32 × Sx) :=
  if oc S x0 11 = true then (S.2.2.2.1 x0 3).bind fun a5 => if oc S a5 4 = true then (m110 a5 S).bind fun q6 => if q6.1 < x5 then if x3 = (-9 : Int32) then some (x3, q6.2) else if oc q6.2 x0 11 = true then lt (sI q6.2 x0 12 x4) fun S7 => some (x3, S7) else none else if oc q6.2 x0 11 = true then (q6.2.2.2.2.1 x0 3).bind fun a8 => if oc q6.2 a8 4 = true then if (x5 &&& (q6.2.2.1 a8 14)) = 0 then if oc q6.2 x0 11 = true then (q6.2.2.2.2.1 x0 3).bind fun a9 => if oc q6.2 a9 4 = true then (m111 a9 x5 q6.2).bind fun q10 => if x3 = (-9 : Int32) then b109_80 k26 x0 x1 x2 x3 x4 x5 q10.1 q10.2 else if q10.1 < x3 then b109_80 k26 x0 x1 x2 x3 x4 x5 q10.1 q10.2 else b109_116 k26 x0 x1 x2 x3 x4 x5 q10.2 else none else none else b109_116 k26 x0 x1 x2 x3 x4 x5 q6.2 else none else none else none else none
set_option maxRecDepth 100000 in
theorem ob109_26 (d : Nat) (k26 : Nat → Int32 → Int32 → Int32 → Int32 → Int32 → Sx → Option (Int32 × Sx)) (hk26 : ∀ (x0 : Nat) (x1 : Int32) (x2 : Int32) (x3 : Int32) (x4 : Int32) (x5 : Int32) (S : Sx), OkF wI (fun f => rk px kx f (d + 6) 109 26 [some (.ref x0), some (.int x1), some (.int x2), some (.int x3), some (.int x4), some (.int x5), none] [] S) (k26 x0 x1 x2 x3 x4 x5 S)) (x0 : Nat) (x1 : Int32) (x2 : Int32) (x3 : Int32) (x4 : Int32) (x5 : Int32) (S : Sx) : OkF wI (fun f => rk px kx f (d + 6) 109 26 [some (.ref x0), some (.int x1), some (.int x2), some (.int x3), some (.int x4), some (.int x5), none] [] S) (b109_26 k26 x0 x1 x2 x3 x4 x5 S) := by
  unfold b109_26
  refine OkF.eq 3 (Y := fun f => if oc S x0 11 = true then rk px kx f (d + 6) 109 32 [some (.ref x0), some (.int x1), some (.int x2), some (.int x3), some (.int x4), some (.int x5), none] (va_rf (S.2.2.2.1 x0 3) :: [.int x5]) S else none) (fun f => rfl) ?_
  refine OkF.grd (fun _ => ?_)
  refine OkF.rf (fun a5 => ?_)
  refine OkF.eq 1 (Y := fun f => if oc S a5 4 = true then (rk px kx f (d + 5) 110 0 [some (.ref a5)] [] S).bind (fun q => rk px kx f (d + 6) 109 35 [some (.ref x0), some (.int x1), some (.int x2), some (.int x3), some (.int x4), some (.int x5), none] (q.1.toList ++ [.int x5]) q.2) else none) (fun f => rfl) ?_
  refine OkF.grd (fun _ => ?_)
  refine OkF.bind (w1 := wI) (om110 (d + 5) a5 S) (fun q6 => ?_)
  refine OkF.eq 1 (Y := fun f => if q6.1 < x5 then rk px kx f (d + 6) 109 122 [some (.ref x0), some (.int x1), some (.int x2), some (.int x3), some (.int x4), some (.int x5), none] [] q6.2 else rk px kx f (d + 6) 109 38 [some (.ref x0), some (.int x1), some (.int x2), some (.int x3), some (.int x4), some (.int x5), none] [] q6.2) (fun f => rfl) ?_
  refine OkF.ite (fun _ => ?_) (fun _ => ?_)
  · refine OkF.eq 3 (Y := fun f => if x3 = (-9 : Int32) then rk px kx f (d + 6) 109 134 [some (.ref x0), some (.int x1), some (.int x2), some (.int x3), some (.int x4), some (.int x5), none] [] q6.2 else rk px kx f (d + 6) 109 128 [some (.ref x0), some (.int x1), some (.int x2), some (.int x3), some (.int x4), some (.int x5), none] [] q6.2) (fun f => rfl) ?_
    refine OkF.ite (fun _ => ?_) (fun _ => ?_)
    · exact OkF.ret 2 (fun f => rfl)
    · refine OkF.eq 3 (Y := fun f => if oc q6.2 x0 11 = true then rk px kx f (d + 6) 109 134 [some (.ref x0), some (.int x1), some (.int x2), some (.int x3), some (.int x4), some (.int x5), none] [] (sI q6.2 x0 12 x4) else none) (fun f => rfl) ?_
      refine OkF.grd (fun _ => ?_)
      refine OkF.nm (fun S7 => ?_)
      exact OkF.ret 2 (fun f => rfl)
  · refine OkF.eq 3 (Y := fun f => if oc q6.2 x0 11 = true then rk px kx f (d + 6) 109 44 [some (.ref x0), some (.int x1), some (.int x2), some (.int x3), some (.int x4), some (.int x5), none] (va_rf (q6.2.2.2.2.1 x0 3) :: [.int x5]) q6.2 else none) (fun f => rfl) ?_
    refine OkF.grd (fun _ => ?_)
    refine OkF.rf (fun a8 => ?_)
    refine OkF.eq 1 (Y := fun f => if oc q6.2 a8 4 = true then rk px kx f (d + 6) 109 47 [some (.ref x0), some (.int x1), some (.int x2), some (.int x3), some (.int x4), some (.int x5), none] [.int (q6.2.2.1 a8 14), .int x5] q6.2 else none) (fun f => rfl) ?_
    refine OkF.grd (fun _ => ?_)
    refine OkF.eq 2 (Y := fun f => if (x5 &&& (q6.2.2.1 a8 14)) = 0 then rk px kx f (d + 6) 109 54 [some (.ref x0), some (.int x1), some (.int x2), some (.int x3), some (.int x4), some (.int x5), none] [] q6.2 else rk px kx f (d + 6) 109 51 [some (.ref x0), some (.int x1), some (.int x2), some (.int x3), some (.int x4), some (.int x5), none] [] q6.2) (fun f => rfl) ?_
    refine OkF.ite (fun _ => ?_) (fun _ => ?_)
    · refine OkF.eq 2 (Y := fun f => if oc q6.2 x0 11 = true then rk px kx f (d + 6) 109 58 [some (.ref x0), some (.int x1), some (.int x2), some (.int x3), some (.int x4), some (.int x5), none] (va_rf (q6.2.2.2.2.1 x0 3) :: []) q6.2 else none) (fun f => rfl) ?_
      refine OkF.grd (fun _ => ?_)
      refine OkF.rf (fun a9 => ?_)
      refine OkF.eq 2 (Y := fun f => if oc q6.2 a9 4 = true then (rk px kx f (d + 5) 111 0 [some (.ref a9), some (.int x5), none, none] [] q6.2).bind (fun q => rk px kx f (d + 6) 109 63 [some (.ref x0), some (.int x1), some (.int x2), some (.int x3), some (.int x4), some (.int x5), none] (q.1.toList ++ []) q.2) else none) (fun f => rfl) ?_
      refine OkF.grd (fun _ => ?_)
      refine OkF.bind (w1 := wI) (om111 (d + 2) a9 x5 q6.2) (fun q10 => ?_)
      refine OkF.eq 4 (Y := fun f => if x3 = (-9 : Int32) then rk px kx f (d + 6) 109 80 [some (.ref x0), some (.int x1), some (.int x2), some (.int x3), some (.int x4), some (.int x5), some (.int q10.1)] [] q10.2 else rk px kx f (d + 6) 109 71 [some (.ref x0), some (.int x1), some (.int x2), some (.int x3), some (.int x4), some (.int x5), some (.int q10.1)] [] q10.2) (fun f => rfl) ?_
      refine OkF.ite (fun _ => ?_) (fun _ => ?_)
      · exact OkF.kl (ls1 := [some (.ref x0), some (.int x1), some (.int x2), some (.int x3), some (.int x4), some (.int x5), some (.int q10.1)]) (fun f => rfl) (ob109_80 d k26 hk26 x0 x1 x2 x3 x4 x5 q10.1 q10.2)
      · refine OkF.eq 3 (Y := fun f => if q10.1 < x3 then rk px kx f (d + 6) 109 80 [some (.ref x0), some (.int x1), some (.int x2), some (.int x3), some (.int x4), some (.int x5), some (.int q10.1)] [] q10.2 else rk px kx f (d + 6) 109 77 [some (.ref x0), some (.int x1), some (.int x2), some (.int x3), some (.int x4), some (.int x5), some (.int q10.1)] [] q10.2) (fun f => rfl) ?_
        refine OkF.ite (fun _ => ?_) (fun _ => ?_)
        · exact OkF.kl (ls1 := [some (.ref x0), some (.int x1), some (.int x2), some (.int x3), some (.int x4), some (.int x5), some (.int q10.1)]) (fun f => rfl) (ob109_80 d k26 hk26 x0 x1 x2 x3 x4 x5 q10.1 q10.2)
        · refine OkF.eq 1 (Y := fun f => rk px kx f (d + 6) 109 116 [some (.ref x0), some (.int x1), some (.int x2), some (.int x3), some (.int x4), some (.int x5), some (.int q10.1)] [] q10.2) (fun f => rfl) ?_
          exact OkF.kl (ls1 := [some (.ref x0), some (.int x1), some (.int x2), some (.int x3), some (.int x4), some (.int x5), none]) (fun f => rfl) (ob109_116 d k26 hk26 x0 x1 x2 x3 x4 x5 q10.2)
    · refine OkF.eq 1 (Y := fun f => rk px kx f (d + 6) 109 116 [some (.ref x0), some (.int x1), some (.int x2), some (.int x3), some (.int x4), some (.int x5), none] [] q6.2) (fun f => rfl) ?_
      exact OkF.kl (ls1 := [some (.ref x0), some (.int x1), some (.int x2), some (.int x3), some (.int x4), some (.int x5), none]) (fun f => rfl) (ob109_116 d k26 hk26 x0 x1 x2 x3 x4 x5 q6.2)
def l109_26 : Nat → Nat → Int32 → Int32 → Int32 → Int32 → Int32 → Sx → Option (Int32 × Sx)
  | 0 => fun _ _ _ _ _ _ _ => none
  | n + 1 => fun x0 x1 x2 x3 x4 x5 S => b109_26 (l109_26 n) x0 x1 x2 x3 x4 x5 S
set_option maxRecDepth 100000 in
theorem ol109_26 (d : Nat) : ∀ (n : Nat) (x0 : Nat) (x1 : Int32) (x2 : Int32) (x3 : Int32) (x4 : Int32) (x5 : Int32) (S : Sx), OkF wI (fun f => rk px kx f (d + 6) 109 26 [some (.ref x0), some (.int x1), some (.int x2), some (.int x3), some (.int x4), some (.int x5), none] [] S) (l109_26 n x0 x1 x2 x3 x4 x5 S) := by
  intro n
  induction n with
  | zero => intro x0 x1 x2 x3 x4 x5 S; exact OkF.no
  | succ n ih => intro x0 x1 x2 x3 x4 x5 S; exact ob109_26 d (l109_26 n) ih x0 x1 x2 x3 x4 x5 S
def m109 (x0 : Nat) (x1 : Int32) (x2 : Int32) (S : Sx) : Option (Int32 × Sx) :=
  if oc S x0 11 = true then (m98 x0 x1 S).bind fun q11 => if q11.1 = 0 then (m90 x2 q11.2).bind fun q12 => if q12.1 = 0 then l109_26 1000 x0 x1 x2 (-9 : Int32) (0 : Int32) (0 : Int32) q12.2 else some ((-1 : Int32), q12.2) else some ((-1 : Int32), q11.2) else none
set_option maxRecDepth 100000 in
theorem om109 (d : Nat) (x0 : Nat) (x1 : Int32) (x2 : Int32) (S : Sx) : OkF wI (fun f => rk px kx f (d + 6) 109 0 [some (.ref x0), some (.int x1), some (.int x2), none, none, none, none] [] S) (m109 x0 x1 x2 S) := by
  unfold m109
  refine OkF.eq 3 (Y := fun f => if oc S x0 11 = true then (rk px kx f (d + 5) 98 0 [some (.ref x0), some (.int x1)] [] S).bind (fun q => rk px kx f (d + 6) 109 5 [some (.ref x0), some (.int x1), some (.int x2), none, none, none, none] (q.1.toList ++ []) q.2) else none) (fun f => rfl) ?_
  refine OkF.grd (fun _ => ?_)
  refine OkF.bind (w1 := wI) (om98 (d + 5) x0 x1 S) (fun q11 => ?_)
  refine OkF.eq 1 (Y := fun f => if q11.1 = 0 then rk px kx f (d + 6) 109 8 [some (.ref x0), some (.int x1), some (.int x2), none, none, none, none] [] q11.2 else rk px kx f (d + 6) 109 15 [some (.ref x0), some (.int x1), some (.int x2), none, none, none, none] [] q11.2) (fun f => rfl) ?_
  refine OkF.ite (fun _ => ?_) (fun _ => ?_)
  · refine OkF.eq 2 (Y := fun f => (rk px kx f (d + 5) 90 0 [some (.int x2)] [] q11.2).bind (fun q => rk px kx f (d + 6) 109 12 [some (.ref x0), some (.int x1), some (.int x2), none, none, none, none] (q.1.toList ++ []) q.2)) (fun f => rfl) ?_
    refine OkF.bind (w1 := wI) (om90 (d + 5) x2 q11.2) (fun q12 => ?_)
    refine OkF.eq 1 (Y := fun f => if q12.1 = 0 then rk px kx f (d + 6) 109 17 [some (.ref x0), some (.int x1), some (.int x2), none, none, none, none] [] q12.2 else rk px kx f (d + 6) 109 15 [some (.ref x0), some (.int x1), some (.int x2), none, none, none, none] [] q12.2) (fun f => rfl) ?_
    refine OkF.ite (fun _ => ?_) (fun _ => ?_)
    · refine OkF.eq 6 (Y := fun f => rk px kx f (d + 6) 109 26 [some (.ref x0), some (.int x1), some (.int x2), some (.int (-9 : Int32)), some (.int (0 : Int32)), some (.int (0 : Int32)), none] [] q12.2) (fun f => rfl) ?_
      exact OkF.kl (ls1 := [some (.ref x0), some (.int x1), some (.int x2), some (.int (-9 : Int32)), some (.int (0 : Int32)), some (.int (0 : Int32)), none]) (fun f => rfl) (ol109_26 d 1000 x0 x1 x2 (-9 : Int32) (0 : Int32) (0 : Int32) q12.2)
    · exact OkF.ret 2 (fun f => rfl)
  · exact OkF.ret 2 (fun f => rfl)
-- DoorSold.shut(II)I
def b112_116 (k26 : Nat → Int32 → Int32 → Int32 → Int32 → Int32 → Sx → Option (Int32 × Sx)) (x0 : Nat) (x1 : Int32) (x2 : Int32) (x3 : Int32) (x4 : Int32) (x5 : Int32) (S : Sx) : Option (Int32 × Sx) :=
  k26 x0 x1 x2 x3 x4 (x5 + (1 : Int32)) S
set_option maxRecDepth 100000 in
theorem ob112_116 (d : Nat) (k26 : Nat → Int32 → Int32 → Int32 → Int32 → Int32 → Sx → Option (Int32 × Sx)) (hk26 : ∀ (x0 : Nat) (x1 : Int32) (x2 : Int32) (x3 : Int32) (x4 : Int32) (x5 : Int32) (S : Sx), OkF wI (fun f => rk px kx f (d + 6) 112 26 [some (.ref x0), some (.int x1), some (.int x2), some (.int x3), some (.int x4), some (.int x5), none] [] S) (k26 x0 x1 x2 x3 x4 x5 S)) (x0 : Nat) (x1 : Int32) (x2 : Int32) (x3 : Int32) (x4 : Int32) (x5 : Int32) (S : Sx) : OkF wI (fun f => rk px kx f (d + 6) 112 116 [some (.ref x0), some (.int x1), some (.int x2), some (.int x3), some (.int x4), some (.int x5), none] [] S) (b112_116 k26 x0 x1 x2 x3 x4 x5 S) := by
  unfold b112_116
  refine OkF.eq 2 (Y := fun f => rk px kx f (d + 6) 112 26 [some (.ref x0), some (.int x1), some (.int x2), some (.int x3), some (.int x4), some (.int (x5 + (1 : Int32))), none] [] S) (fun f => rfl) ?_
  exact OkF.kl (ls1 := [some (.ref x0), some (.int x1), some (.int x2), some (.int x3), some (.int x4), some (.int (x5 + (1 : Int32))), none]) (fun f => rfl) (hk26 x0 x1 x2 x3 x4 (x5 + (1 : Int32)) S)
def b112_78 (k26 : Nat → Int32 → Int32 → Int32 → Int32 → Int32 → Sx → Option (Int32 × Sx)) (x0 : Nat) (x1 : Int32) (x2 : Int32) (x3 : Int32) (x4 : Int32) (x5 : Int32) (x6 : Int32) (S : Sx) : Option (Int32 × Sx) :=
  if oc S x0 11 = true then (S.2.2.2.1 x0 7).bind fun a1 => if oc S x0 11 = true then (S.2.2.2.1 x0 3).bind fun a2 => if oc S x0 11 = true then (S.2.2.2.1 x0 3).bind fun a3 => if oc S a3 4 = true then if oc S a1 10 = true then (m99 a1 a2 ((S.2.1 a3 14) &&& (x5 ^^^ (-1 : Int32))) x1 S).bind fun q4 => if x2 < q4.1 then b112_116 k26 x0 x1 x2 x6 x5 x5 q4.2 else b112_116 k26 x0 x1 x2 x3 x4 x5 q4.2 else none else none else none else none else none
set_option maxRecDepth 100000 in
theorem ob112_78 (d : Nat) (k26 : Nat → Int32 → Int32 → Int32 → Int32 → Int32 → Sx → Option (Int32 × Sx)) (hk26 : ∀ (x0 : Nat) (x1 : Int32) (x2 : Int32) (x3 : Int32) (x4 : Int32) (x5 : Int32) (S : Sx), OkF wI (fun f => rk px kx f (d + 6) 112 26 [some (.ref x0), some (.int x1), some (.int x2), some (.int x3), some (.int x4), some (.int x5), none] [] S) (k26 x0 x1 x2 x3 x4 x5 S)) (x0 : Nat) (x1 : Int32) (x2 : Int32) (x3 : Int32) (x4 : Int32) (x5 : Int32) (x6 : Int32) (S : Sx) : OkF wI (fun f => rk px kx f (d + 6) 112 78 [some (.ref x0), some (.int x1), some (.int x2), some (.int x3), some (.int x4), some (.int x5), some (.int x6)] [] S) (b112_78 k26 x0 x1 x2 x3 x4 x5 x6 S) := by
  unfold b112_78
  refine OkF.eq 2 (Y := fun f => if oc S x0 11 = true then rk px kx f (d + 6) 112 82 [some (.ref x0), some (.int x1), some (.int x2), some (.int x3), some (.int x4), some (.int x5), some (.int x6)] (va_rf (S.2.2.2.1 x0 7) :: []) S else none) (fun f => rfl) ?_
  refine OkF.grd (fun _ => ?_)
  refine OkF.rf (fun a1 => ?_)
  refine OkF.eq 2 (Y := fun f => if oc S x0 11 = true then rk px kx f (d + 6) 112 86 [some (.ref x0), some (.int x1), some (.int x2), some (.int x3), some (.int x4), some (.int x5), some (.int x6)] (va_rf (S.2.2.2.1 x0 3) :: [.ref a1]) S else none) (fun f => rfl) ?_
  refine OkF.grd (fun _ => ?_)
  refine OkF.rf (fun a2 => ?_)
  refine OkF.eq 2 (Y := fun f => if oc S x0 11 = true then rk px kx f (d + 6) 112 90 [some (.ref x0), some (.int x1), some (.int x2), some (.int x3), some (.int x4), some (.int x5), some (.int x6)] (va_rf (S.2.2.2.1 x0 3) :: [.ref a2, .ref a1]) S else none) (fun f => rfl) ?_
  refine OkF.grd (fun _ => ?_)
  refine OkF.rf (fun a3 => ?_)
  refine OkF.eq 1 (Y := fun f => if oc S a3 4 = true then rk px kx f (d + 6) 112 93 [some (.ref x0), some (.int x1), some (.int x2), some (.int x3), some (.int x4), some (.int x5), some (.int x6)] [.int (S.2.1 a3 14), .ref a2, .ref a1] S else none) (fun f => rfl) ?_
  refine OkF.grd (fun _ => ?_)
  refine OkF.eq 6 (Y := fun f => if oc S a1 10 = true then (rk px kx f (d + 5) 99 0 [some (.ref a1), some (.ref a2), some (.int ((S.2.1 a3 14) &&& (x5 ^^^ (-1 : Int32)))), some (.int x1), none] [] S).bind (fun q => rk px kx f (d + 6) 112 102 [some (.ref x0), some (.int x1), some (.int x2), some (.int x3), some (.int x4), some (.int x5), some (.int x6)] (q.1.toList ++ []) q.2) else none) (fun f => rfl) ?_
  refine OkF.grd (fun _ => ?_)
  refine OkF.bind (w1 := wI) (om99 (d + 0) a1 a2 ((S.2.1 a3 14) &&& (x5 ^^^ (-1 : Int32))) x1 S) (fun q4 => ?_)
  refine OkF.eq 2 (Y := fun f => if x2 < q4.1 then rk px kx f (d + 6) 112 109 [some (.ref x0), some (.int x1), some (.int x2), some (.int x3), some (.int x4), some (.int x5), some (.int x6)] [] q4.2 else rk px kx f (d + 6) 112 106 [some (.ref x0), some (.int x1), some (.int x2), some (.int x3), some (.int x4), some (.int x5), some (.int x6)] [] q4.2) (fun f => rfl) ?_
  refine OkF.ite (fun _ => ?_) (fun _ => ?_)
  · refine OkF.eq 4 (Y := fun f => rk px kx f (d + 6) 112 116 [some (.ref x0), some (.int x1), some (.int x2), some (.int x6), some (.int x5), some (.int x5), some (.int x6)] [] q4.2) (fun f => rfl) ?_
    exact OkF.kl (ls1 := [some (.ref x0), some (.int x1), some (.int x2), some (.int x6), some (.int x5), some (.int x5), none]) (fun f => rfl) (ob112_116 d k26 hk26 x0 x1 x2 x6 x5 x5 q4.2)
  · refine OkF.eq 1 (Y := fun f => rk px kx f (d + 6) 112 116 [some (.ref x0), some (.int x1), some (.int x2), some (.int x3), some (.int x4), some (.int x5), some (.int x6)] [] q4.2) (fun f => rfl) ?_
    exact OkF.kl (ls1 := [some (.ref x0), some (.int x1), some (.int x2), some (.int x3), some (.int x4), some (.int x5), none]) (fun f => rfl) (ob112_116 d k26 hk26 x0 x1 x2 x3 x4 x5 q4.2)
def b112_26 (k26 : Nat → Int32 → Int32 → Int32 → Int32 → Int32 → Sx → Option (Int32 × Sx)) (x0 : Nat) (x1 : Int32) (x2 : Int32) (x3 : Int32) (x4 : Int32) (x5 : Int32) (S : Sx) : Option (Int32 × Sx) :=
  if oc S x0 11 = true then (S.2.2.2.1 x0 3).bind fun a5 => if oc S a5 4 = true then (m110 a5 S).bind fun q6 => if q6.1 < x5 then if x3 = (-9 : Int32) then some (x3, q6.2) else if oc q6.2 x0 11 = true then lt (sI q6.2 x0 12 x4) fun S7 => some (x3, S7) else none else if oc q6.2 x0 11 = true then (q6.2.2.2.2.1 x0 3).bind fun a8 => if oc q6.2 a8 4 = true then if (x5 &&& ((q6.2.2.1 a8 14) ^^^ (-1 : Int32))) = 0 then (m100 x5 q6.2).bind fun q9 => if x3 = (-9 : Int32) then b112_78 k26 x0 x1 x2 x3 x4 x5 q9.1 q9.2 else if q9.1 < x3 then b112_78 k26 x0 x1 x2 x3 x4 x5 q9.1 q9.2 else b112_116 k26 x0 x1 x2 x3 x4 x5 q9.2 else b112_116 k26 x0 x1 x2 x3 x4 x5 q6.2 else none else none else none else none
set_option maxRecDepth 100000 in
theorem ob112_26 (d : Nat) (k26 : Nat → Int32 → Int32 → Int32 → Int32 → Int32 → Sx → Option (Int32 × Sx)) (hk26 : ∀ (x0 : Nat) (x1 : Int32) (x2 : Int32) (x3 : Int32) (x4 : Int32) (x5 : Int32) (S : Sx), OkF wI (fun f => rk px kx f (d + 6) 112 26 [some (.ref x0), some (.int x1), some (.int x2), some (.int x3), some (.int x4), some (.int x5), none] [] S) (k26 x0 x1 x2 x3 x4 x5 S)) (x0 : Nat) (x1 : Int32) (x2 : Int32) (x3 : Int32) (x4 : Int32) (x5 : Int32) (S : Sx) : OkF wI (fun f => rk px kx f (d + 6) 112 26 [some (.ref x0), some (.int x1), some (.int x2), some (.int x3), some (.int x4), some (.int x5), none] [] S) (b112_26 k26 x0 x1 x2 x3 x4 x5 S) := by
  unfold b112_26
  refine OkF.eq 3 (Y := fun f => if oc S x0 11 = true then rk px kx f (d + 6) 112 32 [some (.ref x0), some (.int x1), some (.int x2), some (.int x3), some (.int x4), some (.int x5), none] (va_rf (S.2.2.2.1 x0 3) :: [.int x5]) S else none) (fun f => rfl) ?_
  refine OkF.grd (fun _ => ?_)
  refine OkF.rf (fun a5 => ?_)
  refine OkF.eq 1 (Y := fun f => if oc S a5 4 = true then (rk px kx f (d + 5) 110 0 [some (.ref a5)] [] S).bind (fun q => rk px kx f (d + 6) 112 35 [some (.ref x0), some (.int x1), some (.int x2), some (.int x3), some (.int x4), some (.int x5), none] (q.1.toList ++ [.int x5]) q.2) else none) (fun f => rfl) ?_
  refine OkF.grd (fun _ => ?_)
  refine OkF.bind (w1 := wI) (om110 (d + 5) a5 S) (fun q6 => ?_)
  refine OkF.eq 1 (Y := fun f => if q6.1 < x5 then rk px kx f (d + 6) 112 122 [some (.ref x0), some (.int x1), some (.int x2), some (.int x3), some (.int x4), some (.int x5), none] [] q6.2 else rk px kx f (d + 6) 112 38 [some (.ref x0), some (.int x1), some (.int x2), some (.int x3), some (.int x4), some (.int x5), none] [] q6.2) (fun f => rfl) ?_
  refine OkF.ite (fun _ => ?_) (fun _ => ?_)
  · refine OkF.eq 3 (Y := fun f => if x3 = (-9 : Int32) then rk px kx f (d + 6) 112 134 [some (.ref x0), some (.int x1), some (.int x2), some (.int x3), some (.int x4), some (.int x5), none] [] q6.2 else rk px kx f (d + 6) 112 128 [some (.ref x0), some (.int x1), some (.int x2), some (.int x3), some (.int x4), some (.int x5), none] [] q6.2) (fun f => rfl) ?_
    refine OkF.ite (fun _ => ?_) (fun _ => ?_)
    · exact OkF.ret 2 (fun f => rfl)
    · refine OkF.eq 3 (Y := fun f => if oc q6.2 x0 11 = true then rk px kx f (d + 6) 112 134 [some (.ref x0), some (.int x1), some (.int x2), some (.int x3), some (.int x4), some (.int x5), none] [] (sI q6.2 x0 12 x4) else none) (fun f => rfl) ?_
      refine OkF.grd (fun _ => ?_)
      refine OkF.nm (fun S7 => ?_)
      exact OkF.ret 2 (fun f => rfl)
  · refine OkF.eq 3 (Y := fun f => if oc q6.2 x0 11 = true then rk px kx f (d + 6) 112 44 [some (.ref x0), some (.int x1), some (.int x2), some (.int x3), some (.int x4), some (.int x5), none] (va_rf (q6.2.2.2.2.1 x0 3) :: [.int x5]) q6.2 else none) (fun f => rfl) ?_
    refine OkF.grd (fun _ => ?_)
    refine OkF.rf (fun a8 => ?_)
    refine OkF.eq 1 (Y := fun f => if oc q6.2 a8 4 = true then rk px kx f (d + 6) 112 47 [some (.ref x0), some (.int x1), some (.int x2), some (.int x3), some (.int x4), some (.int x5), none] [.int (q6.2.2.1 a8 14), .int x5] q6.2 else none) (fun f => rfl) ?_
    refine OkF.grd (fun _ => ?_)
    refine OkF.eq 4 (Y := fun f => if (x5 &&& ((q6.2.2.1 a8 14) ^^^ (-1 : Int32))) = 0 then rk px kx f (d + 6) 112 56 [some (.ref x0), some (.int x1), some (.int x2), some (.int x3), some (.int x4), some (.int x5), none] [] q6.2 else rk px kx f (d + 6) 112 53 [some (.ref x0), some (.int x1), some (.int x2), some (.int x3), some (.int x4), some (.int x5), none] [] q6.2) (fun f => rfl) ?_
    refine OkF.ite (fun _ => ?_) (fun _ => ?_)
    · refine OkF.eq 2 (Y := fun f => (rk px kx f (d + 5) 100 0 [some (.int x5)] [] q6.2).bind (fun q => rk px kx f (d + 6) 112 61 [some (.ref x0), some (.int x1), some (.int x2), some (.int x3), some (.int x4), some (.int x5), none] (q.1.toList ++ []) q.2)) (fun f => rfl) ?_
      refine OkF.bind (w1 := wI) (om100 (d + 5) x5 q6.2) (fun q9 => ?_)
      refine OkF.eq 4 (Y := fun f => if x3 = (-9 : Int32) then rk px kx f (d + 6) 112 78 [some (.ref x0), some (.int x1), some (.int x2), some (.int x3), some (.int x4), some (.int x5), some (.int q9.1)] [] q9.2 else rk px kx f (d + 6) 112 69 [some (.ref x0), some (.int x1), some (.int x2), some (.int x3), some (.int x4), some (.int x5), some (.int q9.1)] [] q9.2) (fun f => rfl) ?_
      refine OkF.ite (fun _ => ?_) (fun _ => ?_)
      · exact OkF.kl (ls1 := [some (.ref x0), some (.int x1), some (.int x2), some (.int x3), some (.int x4), some (.int x5), some (.int q9.1)]) (fun f => rfl) (ob112_78 d k26 hk26 x0 x1 x2 x3 x4 x5 q9.1 q9.2)
      · refine OkF.eq 3 (Y := fun f => if q9.1 < x3 then rk px kx f (d + 6) 112 78 [some (.ref x0), some (.int x1), some (.int x2), some (.int x3), some (.int x4), some (.int x5), some (.int q9.1)] [] q9.2 else rk px kx f (d + 6) 112 75 [some (.ref x0), some (.int x1), some (.int x2), some (.int x3), some (.int x4), some (.int x5), some (.int q9.1)] [] q9.2) (fun f => rfl) ?_
        refine OkF.ite (fun _ => ?_) (fun _ => ?_)
        · exact OkF.kl (ls1 := [some (.ref x0), some (.int x1), some (.int x2), some (.int x3), some (.int x4), some (.int x5), some (.int q9.1)]) (fun f => rfl) (ob112_78 d k26 hk26 x0 x1 x2 x3 x4 x5 q9.1 q9.2)
        · refine OkF.eq 1 (Y := fun f => rk px kx f (d + 6) 112 116 [some (.ref x0), some (.int x1), some (.int x2), some (.int x3), some (.int x4), some (.int x5), some (.int q9.1)] [] q9.2) (fun f => rfl) ?_
          exact OkF.kl (ls1 := [some (.ref x0), some (.int x1), some (.int x2), some (.int x3), some (.int x4), some (.int x5), none]) (fun f => rfl) (ob112_116 d k26 hk26 x0 x1 x2 x3 x4 x5 q9.2)
    · refine OkF.eq 1 (Y := fun f => rk px kx f (d + 6) 112 116 [some (.ref x0), some (.int x1), some (.int x2), some (.int x3), some (.int x4), some (.int x5), none] [] q6.2) (fun f => rfl) ?_
      exact OkF.kl (ls1 := [some (.ref x0), some (.int x1), some (.int x2), some (.int x3), some (.int x4), some (.int x5), none]) (fun f => rfl) (ob112_116 d k26 hk26 x0 x1 x2 x3 x4 x5 q6.2)
def l112_26 : Nat → Nat → Int32 → Int32 → Int32 → Int32 → Int32 → Sx → Option (Int32 × Sx)
  | 0 => fun _ _ _ _ _ _ _ => none
  | n + 1 => fun x0 x1 x2 x3 x4 x5 S => b112_26 (l112_26 n) x0 x1 x2 x3 x4 x5 S
set_option maxRecDepth 100000 in
theorem ol112_26 (d : Nat) : ∀ (n : Nat) (x0 : Nat) (x1 : Int32) (x2 : Int32) (x3 : Int32) (x4 : Int32) (x5 : Int32) (S : Sx), OkF wI (fun f => rk px kx f (d + 6) 112 26 [some (.ref x0), some (.int x1), some (.int x2), some (.int x3), some (.int x4), some (.int x5), none] [] S) (l112_26 n x0 x1 x2 x3 x4 x5 S) := by
  intro n
  induction n with
  | zero => intro x0 x1 x2 x3 x4 x5 S; exact OkF.no
  | succ n ih => intro x0 x1 x2 x3 x4 x5 S; exact ob112_26 d (l112_26 n) ih x0 x1 x2 x3 x4 x5 S
def m112 (x0 : Nat) (x1 : Int32) (x2 : Int32) (S : Sx) : Option (Int32 × Sx) :=
  if oc S x0 11 = true then (m98 x0 x1 S).bind fun q10 => if q10.1 = 0 then (m90 x2 q10.2).bind fun q11 => if q11.1 = 0 then l112_26 1000 x0 x1 x2 (-9 : Int32) (0 : Int32) (0 : Int32) q11.2 else some ((-1 : Int32), q11.2) else some ((-1 : Int32), q10.2) else none
set_option maxRecDepth 100000 in
theorem om112 (d : Nat) (x0 : Nat) (x1 : Int32) (x2 : Int32) (S : Sx) : OkF wI (fun f => rk px kx f (d + 6) 112 0 [some (.ref x0), some (.int x1), some (.int x2), none, none, none, none] [] S) (m112 x0 x1 x2 S) := by
  unfold m112
  refine OkF.eq 3 (Y := fun f => if oc S x0 11 = true then (rk px kx f (d + 5) 98 0 [some (.ref x0), some (.int x1)] [] S).bind (fun q => rk px kx f (d + 6) 112 5 [some (.ref x0), some (.int x1), some (.int x2), none, none, none, none] (q.1.toList ++ []) q.2) else none) (fun f => rfl) ?_
  refine OkF.grd (fun _ => ?_)
  refine OkF.bind (w1 := wI) (om98 (d + 5) x0 x1 S) (fun q10 => ?_)
  refine OkF.eq 1 (Y := fun f => if q10.1 = 0 then rk px kx f (d + 6) 112 8 [some (.ref x0), some (.int x1), some (.int x2), none, none, none, none] [] q10.2 else rk px kx f (d + 6) 112 15 [some (.ref x0), some (.int x1), some (.int x2), none, none, none, none] [] q10.2) (fun f => rfl) ?_
  refine OkF.ite (fun _ => ?_) (fun _ => ?_)
  · refine OkF.eq 2 (Y := fun f => (rk px kx f (d + 5) 90 0 [some (.int x2)] [] q10.2).bind (fun q => rk px kx f (d + 6) 112 12 [some (.ref x0), some (.int x1), some (.int x2), none, none, none, none] (q.1.toList ++ []) q.2)) (fun f => rfl) ?_
    refine OkF.bind (w1 := wI) (om90 (d + 5) x2 q10.2) (fun q11 => ?_)
    refine OkF.eq 1 (Y := fun f => if q11.1 = 0 then rk px kx f (d + 6) 112 17 [some (.ref x0), some (.int x1), some (.int x2), none, none, none, none] [] q11.2 else rk px kx f (d + 6) 112 15 [some (.ref x0), some (.int x1), some (.int x2), none, none, none, none] [] q11.2) (fun f => rfl) ?_
    refine OkF.ite (fun _ => ?_) (fun _ => ?_)
    · refine OkF.eq 6 (Y := fun f => rk px kx f (d + 6) 112 26 [some (.ref x0), some (.int x1), some (.int x2), some (.int (-9 : Int32)), some (.int (0 : Int32)), some (.int (0 : Int32)), none] [] q11.2) (fun f => rfl) ?_
      exact OkF.kl (ls1 := [some (.ref x0), some (.int x1), some (.int x2), some (.int (-9 : Int32)), some (.int (0 : Int32)), some (.int (0 : Int32)), none]) (fun f => rfl) (ol112_26 d 1000 x0 x1 x2 (-9 : Int32) (0 : Int32) (0 : Int32) q11.2)
    · exact OkF.ret 2 (fun f => rfl)
  · exact OkF.ret 2 (fun f => rfl)
