-- DoorSoldModel.tear(I)I
def m155 (x0 : Nat) (x1 : Int32) (S : Sx) : Option (Int32 × Sx) :=
  (m149 x1 S).bind fun q1 => if q1.1 = 0 then some ((-1 : Int32), q1.2) else if oc q1.2 x0 12 = true then (q1.2.2.2.2.1 x0 0).bind fun a2 => if inb x1 (al q1.2 a2) = true then if 0 ≤ (q1.2.2.1 a2 x1.toNatClampNeg) then if oc q1.2 x0 12 = true then (q1.2.2.2.2.1 x0 0).bind fun a3 => if inb x1 (aw q1.2 1 a3) = true then lt (sI q1.2 a3 x1.toNatClampNeg (-1 : Int32)) fun S4 => some ((1 : Int32), S4) else none else none else if oc q1.2 x0 12 = true then (m151 x0 (1 : Int32) q1.2).bind fun q5 => some (q5.1, q5.2) else none else none else none
set_option maxRecDepth 100000 in
theorem om155 (d : Nat) (x0 : Nat) (x1 : Int32) (S : Sx) : OkF wI (fun f => rk px kx f (d + 2) 155 0 [some (.ref x0), some (.int x1)] [] S) (m155 x0 x1 S) := by
  unfold m155
  refine OkF.eq 2 (Y := fun f => (rk px kx f (d + 1) 149 0 [some (.int x1)] [] S).bind (fun q => rk px kx f (d + 2) 155 4 [some (.ref x0), some (.int x1)] (q.1.toList ++ []) q.2)) (fun f => rfl) ?_
  refine OkF.bind (w1 := wI) (om149 (d + 0) x1 S) (fun q1 => ?_)
  refine OkF.eq 1 (Y := fun f => if q1.1 = 0 then rk px kx f (d + 2) 155 7 [some (.ref x0), some (.int x1)] [] q1.2 else rk px kx f (d + 2) 155 9 [some (.ref x0), some (.int x1)] [] q1.2) (fun f => rfl) ?_
  refine OkF.ite (fun _ => ?_) (fun _ => ?_)
  · exact OkF.ret 2 (fun f => rfl)
  · refine OkF.eq 2 (Y := fun f => if oc q1.2 x0 12 = true then rk px kx f (d + 2) 155 13 [some (.ref x0), some (.int x1)] (va_rf (q1.2.2.2.2.1 x0 0) :: []) q1.2 else none) (fun f => rfl) ?_
    refine OkF.grd (fun _ => ?_)
    refine OkF.rf (fun a2 => ?_)
    refine OkF.eq 2 (Y := fun f => if inb x1 (al q1.2 a2) = true then rk px kx f (d + 2) 155 15 [some (.ref x0), some (.int x1)] [.int (q1.2.2.1 a2 x1.toNatClampNeg)] q1.2 else none) (fun f => rfl) ?_
    refine OkF.grd (fun _ => ?_)
    refine OkF.eq 1 (Y := fun f => if 0 ≤ (q1.2.2.1 a2 x1.toNatClampNeg) then rk px kx f (d + 2) 155 24 [some (.ref x0), some (.int x1)] [] q1.2 else rk px kx f (d + 2) 155 18 [some (.ref x0), some (.int x1)] [] q1.2) (fun f => rfl) ?_
    refine OkF.ite (fun _ => ?_) (fun _ => ?_)
    · refine OkF.eq 2 (Y := fun f => if oc q1.2 x0 12 = true then rk px kx f (d + 2) 155 28 [some (.ref x0), some (.int x1)] (va_rf (q1.2.2.2.2.1 x0 0) :: []) q1.2 else none) (fun f => rfl) ?_
      refine OkF.grd (fun _ => ?_)
      refine OkF.rf (fun a3 => ?_)
      refine OkF.eq 3 (Y := fun f => if inb x1 (aw q1.2 1 a3) = true then rk px kx f (d + 2) 155 31 [some (.ref x0), some (.int x1)] [] (sI q1.2 a3 x1.toNatClampNeg (-1 : Int32)) else none) (fun f => rfl) ?_
      refine OkF.grd (fun _ => ?_)
      refine OkF.nm (fun S4 => ?_)
      exact OkF.ret 2 (fun f => rfl)
    · refine OkF.eq 3 (Y := fun f => if oc q1.2 x0 12 = true then (rk px kx f (d + 1) 151 0 [some (.ref x0), some (.int (1 : Int32))] [] q1.2).bind (fun q => rk px kx f (d + 2) 155 23 [some (.ref x0), some (.int x1)] (q.1.toList ++ []) q.2) else none) (fun f => rfl) ?_
      refine OkF.grd (fun _ => ?_)
      refine OkF.bind (w1 := wI) (om151 (d + 1) x0 (1 : Int32) q1.2) (fun q5 => ?_)
      exact OkF.ret 1 (fun f => rfl)
-- DoorSoldModel.copy(IIIII)I
def b156_45 (x0 : Nat) (S : Sx) : Option (Int32 × Sx) :=
  if oc S x0 12 = true then (m151 x0 (1 : Int32) S).bind fun q1 => some (q1.1, q1.2) else none
set_option maxRecDepth 100000 in
theorem ob156_45 (d : Nat) (x0 : Nat) (S : Sx) : OkF wI (fun f => rk px kx f (d + 2) 156 45 [some (.ref x0), none, none, none, none, none, none, none] [] S) (b156_45 x0 S) := by
  unfold b156_45
  refine OkF.eq 3 (Y := fun f => if oc S x0 12 = true then (rk px kx f (d + 1) 151 0 [some (.ref x0), some (.int (1 : Int32))] [] S).bind (fun q => rk px kx f (d + 2) 156 50 [some (.ref x0), none, none, none, none, none, none, none] (q.1.toList ++ []) q.2) else none) (fun f => rfl) ?_
  refine OkF.grd (fun _ => ?_)
  refine OkF.bind (w1 := wI) (om151 (d + 1) x0 (1 : Int32) S) (fun q1 => ?_)
  exact OkF.ret 1 (fun f => rfl)
def b156_95 (x0 : Nat) (S : Sx) : Option (Int32 × Sx) :=
  if oc S x0 12 = true then (m151 x0 (2 : Int32) S).bind fun q2 => some (q2.1, q2.2) else none
set_option maxRecDepth 100000 in
theorem ob156_95 (d : Nat) (x0 : Nat) (S : Sx) : OkF wI (fun f => rk px kx f (d + 2) 156 95 [some (.ref x0), none, none, none, none, none, none, none] [] S) (b156_95 x0 S) := by
  unfold b156_95
  refine OkF.eq 3 (Y := fun f => if oc S x0 12 = true then (rk px kx f (d + 1) 151 0 [some (.ref x0), some (.int (2 : Int32))] [] S).bind (fun q => rk px kx f (d + 2) 156 100 [some (.ref x0), none, none, none, none, none, none, none] (q.1.toList ++ []) q.2) else none) (fun f => rfl) ?_
  refine OkF.grd (fun _ => ?_)
  refine OkF.bind (w1 := wI) (om151 (d + 1) x0 (2 : Int32) S) (fun q2 => ?_)
  exact OkF.ret 1 (fun f => rfl)
def b156_129 (k104 : Nat → Int32 → Int32 → Int32 → Int32 → Int32 → Int32 → Sx → Option (Int32 × Sx)) (x0 : Nat) (x1 : Int32) (x2 : Int32) (x3 : Int32) (x4 : Int32) (x5 : Int32) (x6 : Int32) (s0 : Int32) (S : Sx) : Option (Int32 × Sx) :=
  if oc S x0 12 = true then (S.2.2.2.1 x0 1).bind fun a3 => if oc S x0 12 = true then (S.2.2.2.1 x0 1).bind fun a4 => if inb ((((40 : Int32) * x1) + x2) + s0) (al S a4) = true then if inb ((((40 : Int32) * x3) + x4) + s0) (aw S 1 a3) = true then lt (sI S a3 ((((40 : Int32) * x3) + x4) + s0).toNatClampNeg (S.2.1 a4 ((((40 : Int32) * x1) + x2) + s0).toNatClampNeg)) fun S5 => k104 x0 x1 x2 x3 x4 x5 (x6 + (1 : Int32)) S5 else none else none else none else none
set_option maxRecDepth 100000 in
theorem ob156_129 (d : Nat) (k104 : Nat → Int32 → Int32 → Int32 → Int32 → Int32 → Int32 → Sx → Option (Int32 × Sx)) (hk104 : ∀ (x0 : Nat) (x1 : Int32) (x2 : Int32) (x3 : Int32) (x4 : Int32) (x5 : Int32) (x6 : Int32) (S : Sx), OkF wI (fun f => rk px kx f (d + 2) 156 104 [some (.ref x0), some (.int x1), some (.int x2), some (.int x3), some (.int x4), some (.int x5), some (.int x6), none] [] S) (k104 x0 x1 x2 x3 x4 x5 x6 S)) (x0 : Nat) (x1 : Int32) (x2 : Int32) (x3 : Int32) (x4 : Int32) (x5 : Int32) (x6 : Int32) (s0 : Int32) (S : Sx) : OkF wI (fun f => rk px kx f (d + 2) 156 129 [some (.ref x0), some (.int x1), some (.int x2), some (.int x3), some (.int x4), some (.int x5), some (.int x6), none] [.int s0] S) (b156_129 k104 x0 x1 x2 x3 x4 x5 x6 s0 S) := by
  unfold b156_129
  refine OkF.eq 3 (Y := fun f => if oc S x0 12 = true then rk px kx f (d + 2) 156 135 [some (.ref x0), some (.int x1), some (.int x2), some (.int x3), some (.int x4), some (.int x5), some (.int x6), some (.int s0)] (va_rf (S.2.2.2.1 x0 1) :: []) S else none) (fun f => rfl) ?_
  refine OkF.grd (fun _ => ?_)
  refine OkF.rf (fun a3 => ?_)
  refine OkF.eq 9 (Y := fun f => if oc S x0 12 = true then rk px kx f (d + 2) 156 149 [some (.ref x0), some (.int x1), some (.int x2), some (.int x3), some (.int x4), some (.int x5), some (.int x6), some (.int s0)] (va_rf (S.2.2.2.1 x0 1) :: [.int ((((40 : Int32) * x3) + x4) + s0), .ref a3]) S else none) (fun f => rfl) ?_
  refine OkF.grd (fun _ => ?_)
  refine OkF.rf (fun a4 => ?_)
  refine OkF.eq 8 (Y := fun f => if inb ((((40 : Int32) * x1) + x2) + s0) (al S a4) = true then rk px kx f (d + 2) 156 159 [some (.ref x0), some (.int x1), some (.int x2), some (.int x3), some (.int x4), some (.int x5), some (.int x6), some (.int s0)] [.int (S.2.1 a4 ((((40 : Int32) * x1) + x2) + s0).toNatClampNeg), .int ((((40 : Int32) * x3) + x4) + s0), .ref a3] S else none) (fun f => rfl) ?_
  refine OkF.grd (fun _ => ?_)
  refine OkF.eq 1 (Y := fun f => if inb ((((40 : Int32) * x3) + x4) + s0) (aw S 1 a3) = true then rk px kx f (d + 2) 156 160 [some (.ref x0), some (.int x1), some (.int x2), some (.int x3), some (.int x4), some (.int x5), some (.int x6), some (.int s0)] [] (sI S a3 ((((40 : Int32) * x3) + x4) + s0).toNatClampNeg (S.2.1 a4 ((((40 : Int32) * x1) + x2) + s0).toNatClampNeg)) else none) (fun f => rfl) ?_
  refine OkF.grd (fun _ => ?_)
  refine OkF.nm (fun S5 => ?_)
  refine OkF.eq 2 (Y := fun f => rk px kx f (d + 2) 156 104 [some (.ref x0), some (.int x1), some (.int x2), some (.int x3), some (.int x4), some (.int x5), some (.int (x6 + (1 : Int32))), some (.int s0)] [] S5) (fun f => rfl) ?_
  exact OkF.kl (ls1 := [some (.ref x0), some (.int x1), some (.int x2), some (.int x3), some (.int x4), some (.int x5), some (.int (x6 + (1 : Int32))), none]) (fun f => rfl) (hk104 x0 x1 x2 x3 x4 x5 (x6 + (1 : Int32)) S5)
def b156_104 (k104 : Nat → Int32 → Int32 → Int32 → Int32 → Int32 → Int32 → Sx → Option (Int32 × Sx)) (x0 : Nat) (x1 : Int32) (x2 : Int32) (x3 : Int32) (x4 : Int32) (x5 : Int32) (x6 : Int32) (S : Sx) : Option (Int32 × Sx) :=
  if x5 ≤ x6 then some ((1 : Int32), S) else if x4 ≤ x2 then b156_129 k104 x0 x1 x2 x3 x4 x5 x6 x6 S else b156_129 k104 x0 x1 x2 x3 x4 x5 x6 ((x5 - (1 : Int32)) - x6) S
set_option maxRecDepth 100000 in
theorem ob156_104 (d : Nat) (k104 : Nat → Int32 → Int32 → Int32 → Int32 → Int32 → Int32 → Sx → Option (Int32 × Sx)) (hk104 : ∀ (x0 : Nat) (x1 : Int32) (x2 : Int32) (x3 : Int32) (x4 : Int32) (x5 : Int32) (x6 : Int32) (S : Sx), OkF wI (fun f => rk px kx f (d + 2) 156 104 [some (.ref x0), some (.int x1), some (.int x2), some (.int x3), some (.int x4), some (.int x5), some (.int x6), none] [] S) (k104 x0 x1 x2 x3 x4 x5 x6 S)) (x0 : Nat) (x1 : Int32) (x2 : Int32) (x3 : Int32) (x4 : Int32) (x5 : Int32) (x6 : Int32) (S : Sx) : OkF wI (fun f => rk px kx f (d + 2) 156 104 [some (.ref x0), some (.int x1), some (.int x2), some (.int x3), some (.int x4), some (.int x5), some (.int x6), none] [] S) (b156_104 k104 x0 x1 x2 x3 x4 x5 x6 S) := by
  unfold b156_104
  refine OkF.eq 3 (Y := fun f => if x5 ≤ x6 then rk px kx f (d + 2) 156 166 [some (.ref x0), some (.int x1), some (.int x2), some (.int x3), some (.int x4), some (.int x5), some (.int x6), none] [] S else rk px kx f (d + 2) 156 111 [some (.ref x0), some (.int x1), some (.int x2), some (.int x3), some (.int x4), some (.int x5), some (.int x6), none] [] S) (fun f => rfl) ?_
  refine OkF.ite (fun _ => ?_) (fun _ => ?_)
  · exact OkF.ret 2 (fun f => rfl)
  · refine OkF.eq 3 (Y := fun f => if x4 ≤ x2 then rk px kx f (d + 2) 156 127 [some (.ref x0), some (.int x1), some (.int x2), some (.int x3), some (.int x4), some (.int x5), some (.int x6), none] [] S else rk px kx f (d + 2) 156 117 [some (.ref x0), some (.int x1), some (.int x2), some (.int x3), some (.int x4), some (.int x5), some (.int x6), none] [] S) (fun f => rfl) ?_
    refine OkF.ite (fun _ => ?_) (fun _ => ?_)
    · refine OkF.eq 1 (Y := fun f => rk px kx f (d + 2) 156 129 [some (.ref x0), some (.int x1), some (.int x2), some (.int x3), some (.int x4), some (.int x5), some (.int x6), none] [.int x6] S) (fun f => rfl) ?_
      exact OkF.kl (ls1 := [some (.ref x0), some (.int x1), some (.int x2), some (.int x3), some (.int x4), some (.int x5), some (.int x6), none]) (fun f => rfl) (ob156_129 d k104 hk104 x0 x1 x2 x3 x4 x5 x6 x6 S)
    · refine OkF.eq 6 (Y := fun f => rk px kx f (d + 2) 156 129 [some (.ref x0), some (.int x1), some (.int x2), some (.int x3), some (.int x4), some (.int x5), some (.int x6), none] [.int ((x5 - (1 : Int32)) - x6)] S) (fun f => rfl) ?_
      exact OkF.kl (ls1 := [some (.ref x0), some (.int x1), some (.int x2), some (.int x3), some (.int x4), some (.int x5), some (.int x6), none]) (fun f => rfl) (ob156_129 d k104 hk104 x0 x1 x2 x3 x4 x5 x6 ((x5 - (1 : Int32)) - x6) S)
def l156_104 : Nat → Nat → Int32 → Int32 → Int32 → Int32 → Int32 → Int32 → Sx → Option (Int32 × Sx)
  | 0 => fun _ _ _ _ _ _ _ _ => none
  | n + 1 => fun x0 x1 x2 x3 x4 x5 x6 S => b156_104 (l156_104 n) x0 x1 x2 x3 x4 x5 x6 S
set_option maxRecDepth 100000 in
theorem ol156_104 (d : Nat) : ∀ (n : Nat) (x0 : Nat) (x1 : Int32) (x2 : Int32) (x3 : Int32) (x4 : Int32) (x5 : Int32) (x6 : Int32) (S : Sx), OkF wI (fun f => rk px kx f (d + 2) 156 104 [some (.ref x0), some (.int x1), some (.int x2), some (.int x3), some (.int x4), some (.int x5), some (.int x6), none] [] S) (l156_104 n x0 x1 x2 x3 x4 x5 x6 S) := by
  intro n
  induction n with
  | zero => intro x0 x1 x2 x3 x4 x5 x6 S; exact OkF.no
  | succ n ih => intro x0 x1 x2 x3 x4 x5 x6 S; exact ob156_104 d (l156_104 n) ih x0 x1 x2 x3 x4 x5 x6 S
def m156 (x0 : Nat) (x1 : Int32) (x2 : Int32) (x3 : Int32) (x4 : Int32) (x5 : Int32) (S : Sx) : Option (Int32 × Sx) :=
  (m149 x1 S).bind fun q6 => if q6.1 = 0 then some ((-1 : Int32), q6.2) else (m149 x3 q6.2).bind fun q7 => if q7.1 = 0 then some ((-1 : Int32), q7.2) else if 0 ≤ x5 then if oc q7.2 x0 12 = true then (q7.2.2.2.2.1 x0 0).bind fun a8 => if inb x1 (al q7.2 a8) = true then if (q7.2.2.1 a8 x1.toNatClampNeg) < 0 then b156_45 x0 q7.2 else if oc q7.2 x0 12 = true then (q7.2.2.2.2.1 x0 0).bind fun a9 => if inb x3 (al q7.2 a9) = true then if 0 ≤ (q7.2.2.1 a9 x3.toNatClampNeg) then if x2 < 0 then b156_95 x0 q7.2 else if x4 < 0 then b156_95 x0 q7.2 else if oc q7.2 x0 12 = true then (q7.2.2.2.2.1 x0 0).bind fun a10 => if inb x1 (al q7.2 a10) = true then if 0 < (lg_cmp (x2.toInt64 + x5.toInt64) ((q7.2.2.1 a10 x1.toNatClampNeg).toInt64)) then b156_95 x0 q7.2 else if oc q7.2 x0 12 = true then (q7.2.2.2.2.1 x0 0).bind fun a11 => if inb x3 (al q7.2 a11) = true then if (lg_cmp (x4.toInt64 + x5.toInt64) ((q7.2.2.1 a11 x3.toNatClampNeg).toInt64)) ≤ 0 then l156_104 1000 x0 x1 x2 x3 x4 x5 (0 : Int32) q7.2 else b156_95 x0 q7.2 else none else none else none else none else b156_45 x0 q7.2 else none else none else none else none else if oc q7.2 x0 12 = true then (m151 x0 (5 : Int32) q7.2).bind fun q12 => some (q12.1, q12.2) else none
set_option maxRecDepth 100000 in
theorem om156 (d : Nat) (x0 : Nat) (x1 : Int32) (x2 : Int32) (x3 : Int32) (x4 : Int32) (x5 : Int32) (S : Sx) : OkF wI (fun f => rk px kx f (d + 2) 156 0 [some (.ref x0), some (.int x1), some (.int x2), some (.int x3), some (.int x4), some (.int x5), none, none] [] S) (m156 x0 x1 x2 x3 x4 x5 S) := by
  unfold m156
  refine OkF.eq 2 (Y := fun f => (rk px kx f (d + 1) 149 0 [some (.int x1)] [] S).bind (fun q => rk px kx f (d + 2) 156 4 [some (.ref x0), some (.int x1), some (.int x2), some (.int x3), some (.int x4), some (.int x5), none, none] (q.1.toList ++ []) q.2)) (fun f => rfl) ?_
  refine OkF.bind (w1 := wI) (om149 (d + 0) x1 S) (fun q6 => ?_)
  refine OkF.eq 1 (Y := fun f => if q6.1 = 0 then rk px kx f (d + 2) 156 14 [some (.ref x0), some (.int x1), some (.int x2), some (.int x3), some (.int x4), some (.int x5), none, none] [] q6.2 else rk px kx f (d + 2) 156 7 [some (.ref x0), some (.int x1), some (.int x2), some (.int x3), some (.int x4), some (.int x5), none, none] [] q6.2) (fun f => rfl) ?_
  refine OkF.ite (fun _ => ?_) (fun _ => ?_)
  · exact OkF.ret 2 (fun f => rfl)
  · refine OkF.eq 2 (Y := fun f => (rk px kx f (d + 1) 149 0 [some (.int x3)] [] q6.2).bind (fun q => rk px kx f (d + 2) 156 11 [some (.ref x0), some (.int x1), some (.int x2), some (.int x3), some (.int x4), some (.int x5), none, none] (q.1.toList ++ []) q.2)) (fun f => rfl) ?_
    refine OkF.bind (w1 := wI) (om149 (d + 0) x3 q6.2) (fun q7 => ?_)
    refine OkF.eq 1 (Y := fun f => if q7.1 = 0 then rk px kx f (d + 2) 156 14 [some (.ref x0), some (.int x1), some (.int x2), some (.int x3), some (.int x4), some (.int x5), none, none] [] q7.2 else rk px kx f (d + 2) 156 16 [some (.ref x0), some (.int x1), some (.int x2), some (.int x3), some (.int x4), some (.int x5), none, none] [] q7.2) (fun f => rfl) ?_
    refine OkF.ite (fun _ => ?_) (fun _ => ?_)
    · exact OkF.ret 2 (fun f => rfl)
    · refine OkF.eq 2 (Y := fun f => if 0 ≤ x5 then rk px kx f (d + 2) 156 27 [some (.ref x0), some (.int x1), some (.int x2), some (.int x3), some (.int x4), some (.int x5), none, none] [] q7.2 else rk px kx f (d + 2) 156 21 [some (.ref x0), some (.int x1), some (.int x2), some (.int x3), some (.int x4), some (.int x5), none, none] [] q7.2) (fun f => rfl) ?_
      refine OkF.ite (fun _ => ?_) (fun _ => ?_)
      · refine OkF.eq 2 (Y := fun f => if oc q7.2 x0 12 = true then rk px kx f (d + 2) 156 31 [some (.ref x0), some (.int x1), some (.int x2), some (.int x3), some (.int x4), some (.int x5), none, none] (va_rf (q7.2.2.2.2.1 x0 0) :: []) q7.2 else none) (fun f => rfl) ?_
        refine OkF.grd (fun _ => ?_)
        refine OkF.rf (fun a8 => ?_)
        refine OkF.eq 2 (Y := fun f => if inb x1 (al q7.2 a8) = true then rk px kx f (d + 2) 156 33 [some (.ref x0), some (.int x1), some (.int x2), some (.int x3), some (.int x4), some (.int x5), none, none] [.int (q7.2.2.1 a8 x1.toNatClampNeg)] q7.2 else none) (fun f => rfl) ?_
        refine OkF.grd (fun _ => ?_)
        refine OkF.eq 1 (Y := fun f => if (q7.2.2.1 a8 x1.toNatClampNeg) < 0 then rk px kx f (d + 2) 156 45 [some (.ref x0), some (.int x1), some (.int x2), some (.int x3), some (.int x4), some (.int x5), none, none] [] q7.2 else rk px kx f (d + 2) 156 36 [some (.ref x0), some (.int x1), some (.int x2), some (.int x3), some (.int x4), some (.int x5), none, none] [] q7.2) (fun f => rfl) ?_
        refine OkF.ite (fun _ => ?_) (fun _ => ?_)
        · exact OkF.kl (ls1 := [some (.ref x0), none, none, none, none, none, none, none]) (fun f => rfl) (ob156_45 d x0 q7.2)
        · refine OkF.eq 2 (Y := fun f => if oc q7.2 x0 12 = true then rk px kx f (d + 2) 156 40 [some (.ref x0), some (.int x1), some (.int x2), some (.int x3), some (.int x4), some (.int x5), none, none] (va_rf (q7.2.2.2.2.1 x0 0) :: []) q7.2 else none) (fun f => rfl) ?_
          refine OkF.grd (fun _ => ?_)
          refine OkF.rf (fun a9 => ?_)
          refine OkF.eq 2 (Y := fun f => if inb x3 (al q7.2 a9) = true then rk px kx f (d + 2) 156 42 [some (.ref x0), some (.int x1), some (.int x2), some (.int x3), some (.int x4), some (.int x5), none, none] [.int (q7.2.2.1 a9 x3.toNatClampNeg)] q7.2 else none) (fun f => rfl) ?_
          refine OkF.grd (fun _ => ?_)
          refine OkF.eq 1 (Y := fun f => if 0 ≤ (q7.2.2.1 a9 x3.toNatClampNeg) then rk px kx f (d + 2) 156 51 [some (.ref x0), some (.int x1), some (.int x2), some (.int x3), some (.int x4), some (.int x5), none, none] [] q7.2 else rk px kx f (d + 2) 156 45 [some (.ref x0), some (.int x1), some (.int x2), some (.int x3), some (.int x4), some (.int x5), none, none] [] q7.2) (fun f => rfl) ?_
          refine OkF.ite (fun _ => ?_) (fun _ => ?_)
          · refine OkF.eq 2 (Y := fun f => if x2 < 0 then rk px kx f (d + 2) 156 95 [some (.ref x0), some (.int x1), some (.int x2), some (.int x3), some (.int x4), some (.int x5), none, none] [] q7.2 else rk px kx f (d + 2) 156 55 [some (.ref x0), some (.int x1), some (.int x2), some (.int x3), some (.int x4), some (.int x5), none, none] [] q7.2) (fun f => rfl) ?_
            refine OkF.ite (fun _ => ?_) (fun _ => ?_)
            · exact OkF.kl (ls1 := [some (.ref x0), none, none, none, none, none, none, none]) (fun f => rfl) (ob156_95 d x0 q7.2)
            · refine OkF.eq 2 (Y := fun f => if x4 < 0 then rk px kx f (d + 2) 156 95 [some (.ref x0), some (.int x1), some (.int x2), some (.int x3), some (.int x4), some (.int x5), none, none] [] q7.2 else rk px kx f (d + 2) 156 60 [some (.ref x0), some (.int x1), some (.int x2), some (.int x3), some (.int x4), some (.int x5), none, none] [] q7.2) (fun f => rfl) ?_
              refine OkF.ite (fun _ => ?_) (fun _ => ?_)
              · exact OkF.kl (ls1 := [some (.ref x0), none, none, none, none, none, none, none]) (fun f => rfl) (ob156_95 d x0 q7.2)
              · refine OkF.eq 7 (Y := fun f => if oc q7.2 x0 12 = true then rk px kx f (d + 2) 156 70 [some (.ref x0), some (.int x1), some (.int x2), some (.int x3), some (.int x4), some (.int x5), none, none] (va_rf (q7.2.2.2.2.1 x0 0) :: [.long (x2.toInt64 + x5.toInt64)]) q7.2 else none) (fun f => rfl) ?_
                refine OkF.grd (fun _ => ?_)
                refine OkF.rf (fun a10 => ?_)
                refine OkF.eq 2 (Y := fun f => if inb x1 (al q7.2 a10) = true then rk px kx f (d + 2) 156 72 [some (.ref x0), some (.int x1), some (.int x2), some (.int x3), some (.int x4), some (.int x5), none, none] [.int (q7.2.2.1 a10 x1.toNatClampNeg), .long (x2.toInt64 + x5.toInt64)] q7.2 else none) (fun f => rfl) ?_
                refine OkF.grd (fun _ => ?_)
                refine OkF.eq 3 (Y := fun f => if 0 < (lg_cmp (x2.toInt64 + x5.toInt64) ((q7.2.2.1 a10 x1.toNatClampNeg).toInt64)) then rk px kx f (d + 2) 156 95 [some (.ref x0), some (.int x1), some (.int x2), some (.int x3), some (.int x4), some (.int x5), none, none] [] q7.2 else rk px kx f (d + 2) 156 77 [some (.ref x0), some (.int x1), some (.int x2), some (.int x3), some (.int x4), some (.int x5), none, none] [] q7.2) (fun f => rfl) ?_
                refine OkF.ite (fun _ => ?_) (fun _ => ?_)
                · exact OkF.kl (ls1 := [some (.ref x0), none, none, none, none, none, none, none]) (fun f => rfl) (ob156_95 d x0 q7.2)
                · refine OkF.eq 7 (Y := fun f => if oc q7.2 x0 12 = true then rk px kx f (d + 2) 156 88 [some (.ref x0), some (.int x1), some (.int x2), some (.int x3), some (.int x4), some (.int x5), none, none] (va_rf (q7.2.2.2.2.1 x0 0) :: [.long (x4.toInt64 + x5.toInt64)]) q7.2 else none) (fun f => rfl) ?_
                  refine OkF.grd (fun _ => ?_)
                  refine OkF.rf (fun a11 => ?_)
                  refine OkF.eq 2 (Y := fun f => if inb x3 (al q7.2 a11) = true then rk px kx f (d + 2) 156 90 [some (.ref x0), some (.int x1), some (.int x2), some (.int x3), some (.int x4), some (.int x5), none, none] [.int (q7.2.2.1 a11 x3.toNatClampNeg), .long (x4.toInt64 + x5.toInt64)] q7.2 else none) (fun f => rfl) ?_
                  refine OkF.grd (fun _ => ?_)
                  refine OkF.eq 3 (Y := fun f => if (lg_cmp (x4.toInt64 + x5.toInt64) ((q7.2.2.1 a11 x3.toNatClampNeg).toInt64)) ≤ 0 then rk px kx f (d + 2) 156 101 [some (.ref x0), some (.int x1), some (.int x2), some (.int x3), some (.int x4), some (.int x5), none, none] [] q7.2 else rk px kx f (d + 2) 156 95 [some (.ref x0), some (.int x1), some (.int x2), some (.int x3), some (.int x4), some (.int x5), none, none] [] q7.2) (fun f => rfl) ?_
                  refine OkF.ite (fun _ => ?_) (fun _ => ?_)
                  · refine OkF.eq 2 (Y := fun f => rk px kx f (d + 2) 156 104 [some (.ref x0), some (.int x1), some (.int x2), some (.int x3), some (.int x4), some (.int x5), some (.int (0 : Int32)), none] [] q7.2) (fun f => rfl) ?_
                    exact OkF.kl (ls1 := [some (.ref x0), some (.int x1), some (.int x2), some (.int x3), some (.int x4), some (.int x5), some (.int (0 : Int32)), none]) (fun f => rfl) (ol156_104 d 1000 x0 x1 x2 x3 x4 x5 (0 : Int32) q7.2)
                  · exact OkF.kl (ls1 := [some (.ref x0), none, none, none, none, none, none, none]) (fun f => rfl) (ob156_95 d x0 q7.2)
          · exact OkF.kl (ls1 := [some (.ref x0), none, none, none, none, none, none, none]) (fun f => rfl) (ob156_45 d x0 q7.2)
      · refine OkF.eq 3 (Y := fun f => if oc q7.2 x0 12 = true then (rk px kx f (d + 1) 151 0 [some (.ref x0), some (.int (5 : Int32))] [] q7.2).bind (fun q => rk px kx f (d + 2) 156 26 [some (.ref x0), some (.int x1), some (.int x2), some (.int x3), some (.int x4), some (.int x5), none, none] (q.1.toList ++ []) q.2) else none) (fun f => rfl) ?_
        refine OkF.grd (fun _ => ?_)
        refine OkF.bind (w1 := wI) (om151 (d + 1) x0 (5 : Int32) q7.2) (fun q12 => ?_)
        exact OkF.ret 1 (fun f => rfl)
-- DoorSoldModel.mean(I)I
def b157_44 (k44 : Nat → Int32 → Int64 → Int32 → Sx → Option (Int32 × Sx)) (x0 : Nat) (x1 : Int32) (x2 : Int64) (x4 : Int32) (S : Sx) : Option (Int32 × Sx) :=
  if oc S x0 12 = true then (S.2.2.2.1 x0 0).bind fun a1 => if inb x1 (al S a1) = true then if (S.2.1 a1 x1.toNatClampNeg) ≤ x4 then if oc S x0 12 = true then (S.2.2.2.1 x0 0).bind fun a2 => if inb x1 (al S a2) = true then if ((S.2.1 a2 x1.toNatClampNeg).toInt64) = 0 then none else if oc S x0 12 = true then (m153 x0 ((x2 / ((S.2.1 a2 x1.toNatClampNeg).toInt64)).toInt32) S).bind fun q3 => some (q3.1, q3.2) else none else none else none else if oc S x0 12 = true then (S.2.2.2.1 x0 1).bind fun a4 => if inb (((40 : Int32) * x1) + x4) (al S a4) = true then k44 x0 x1 (x2 + ((S.2.1 a4 (((40 : Int32) * x1) + x4).toNatClampNeg).toInt64)) (x4 + (1 : Int32)) S else none else none else none else none
set_option maxRecDepth 100000 in
theorem ob157_44 (d : Nat) (k44 : Nat → Int32 → Int64 → Int32 → Sx → Option (Int32 × Sx)) (hk44 : ∀ (x0 : Nat) (x1 : Int32) (x2 : Int64) (x4 : Int32) (S : Sx), OkF wI (fun f => rk px kx f (d + 2) 157 44 [some (.ref x0), some (.int x1), some (.long x2), none, some (.int x4)] [] S) (k44 x0 x1 x2 x4 S)) (x0 : Nat) (x1 : Int32) (x2 : Int64) (x4 : Int32) (S : Sx) : OkF wI (fun f => rk px kx f (d + 2) 157 44 [some (.ref x0), some (.int x1), some (.long x2), none, some (.int x4)] [] S) (b157_44 k44 x0 x1 x2 x4 S) := by
  unfold b157_44
  refine OkF.eq 3 (Y := fun f => if oc S x0 12 = true then rk px kx f (d + 2) 157 50 [some (.ref x0), some (.int x1), some (.long x2), none, some (.int x4)] (va_rf (S.2.2.2.1 x0 0) :: [.int x4]) S else none) (fun f => rfl) ?_
  refine OkF.grd (fun _ => ?_)
  refine OkF.rf (fun a1 => ?_)
  refine OkF.eq 2 (Y := fun f => if inb x1 (al S a1) = true then rk px kx f (d + 2) 157 52 [some (.ref x0), some (.int x1), some (.long x2), none, some (.int x4)] [.int (S.2.1 a1 x1.toNatClampNeg), .int x4] S else none) (fun f => rfl) ?_
  refine OkF.grd (fun _ => ?_)
  refine OkF.eq 1 (Y := fun f => if (S.2.1 a1 x1.toNatClampNeg) ≤ x4 then rk px kx f (d + 2) 157 77 [some (.ref x0), some (.int x1), some (.long x2), none, some (.int x4)] [] S else rk px kx f (d + 2) 157 55 [some (.ref x0), some (.int x1), some (.long x2), none, some (.int x4)] [] S) (fun f => rfl) ?_
  refine OkF.ite (fun _ => ?_) (fun _ => ?_)
  · refine OkF.eq 4 (Y := fun f => if oc S x0 12 = true then rk px kx f (d + 2) 157 83 [some (.ref x0), some (.int x1), some (.long x2), none, some (.int x4)] (va_rf (S.2.2.2.1 x0 0) :: [.long x2, .ref x0]) S else none) (fun f => rfl) ?_
    refine OkF.grd (fun _ => ?_)
    refine OkF.rf (fun a2 => ?_)
    refine OkF.eq 2 (Y := fun f => if inb x1 (al S a2) = true then rk px kx f (d + 2) 157 85 [some (.ref x0), some (.int x1), some (.long x2), none, some (.int x4)] [.int (S.2.1 a2 x1.toNatClampNeg), .long x2, .ref x0] S else none) (fun f => rfl) ?_
    refine OkF.grd (fun _ => ?_)
    refine OkF.eq 2 (Y := fun f => if ((S.2.1 a2 x1.toNatClampNeg).toInt64) = 0 then none else rk px kx f (d + 2) 157 87 [some (.ref x0), some (.int x1), some (.long x2), none, some (.int x4)] [.long (x2 / ((S.2.1 a2 x1.toNatClampNeg).toInt64)), .ref x0] S) (fun f => rfl) ?_
    refine OkF.ngr (fun _ => ?_)
    refine OkF.eq 2 (Y := fun f => if oc S x0 12 = true then (rk px kx f (d + 1) 153 0 [some (.ref x0), some (.int ((x2 / ((S.2.1 a2 x1.toNatClampNeg).toInt64)).toInt32))] [] S).bind (fun q => rk px kx f (d + 2) 157 91 [some (.ref x0), some (.int x1), some (.long x2), none, some (.int x4)] (q.1.toList ++ []) q.2) else none) (fun f => rfl) ?_
    refine OkF.grd (fun _ => ?_)
    refine OkF.bind (w1 := wI) (om153 (d + 1) x0 ((x2 / ((S.2.1 a2 x1.toNatClampNeg).toInt64)).toInt32) S) (fun q3 => ?_)
    exact OkF.ret 1 (fun f => rfl)
  · refine OkF.eq 3 (Y := fun f => if oc S x0 12 = true then rk px kx f (d + 2) 157 60 [some (.ref x0), some (.int x1), some (.long x2), none, some (.int x4)] (va_rf (S.2.2.2.1 x0 1) :: [.long x2]) S else none) (fun f => rfl) ?_
    refine OkF.grd (fun _ => ?_)
    refine OkF.rf (fun a4 => ?_)
    refine OkF.eq 6 (Y := fun f => if inb (((40 : Int32) * x1) + x4) (al S a4) = true then rk px kx f (d + 2) 157 68 [some (.ref x0), some (.int x1), some (.long x2), none, some (.int x4)] [.int (S.2.1 a4 (((40 : Int32) * x1) + x4).toNatClampNeg), .long x2] S else none) (fun f => rfl) ?_
    refine OkF.grd (fun _ => ?_)
    refine OkF.eq 5 (Y := fun f => rk px kx f (d + 2) 157 44 [some (.ref x0), some (.int x1), some (.long (x2 + ((S.2.1 a4 (((40 : Int32) * x1) + x4).toNatClampNeg).toInt64))), none, some (.int (x4 + (1 : Int32)))] [] S) (fun f => rfl) ?_
    exact OkF.kl (ls1 := [some (.ref x0), some (.int x1), some (.long (x2 + ((S.2.1 a4 (((40 : Int32) * x1) + x4).toNatClampNeg).toInt64))), none, some (.int (x4 + (1 : Int32)))]) (fun f => rfl) (hk44 x0 x1 (x2 + ((S.2.1 a4 (((40 : Int32) * x1) + x4).toNatClampNeg).toInt64)) (x4 + (1 : Int32)) S)
def l157_44 : Nat → Nat → Int32 → Int64 → Int32 → Sx → Option (Int32 × Sx)
  | 0 => fun _ _ _ _ _ => none
  | n + 1 => fun x0 x1 x2 x4 S => b157_44 (l157_44 n) x0 x1 x2 x4 S
set_option maxRecDepth 100000 in
theorem ol157_44 (d : Nat) : ∀ (n : Nat) (x0 : Nat) (x1 : Int32) (x2 : Int64) (x4 : Int32) (S : Sx), OkF wI (fun f => rk px kx f (d + 2) 157 44 [some (.ref x0), some (.int x1), some (.long x2), none, some (.int x4)] [] S) (l157_44 n x0 x1 x2 x4 S) := by
  intro n
  induction n with
  | zero => intro x0 x1 x2 x4 S; exact OkF.no
  | succ n ih => intro x0 x1 x2 x4 S; exact ob157_44 d (l157_44 n) ih x0 x1 x2 x4 S
def m157 (x0 : Nat) (x1 : Int32) (S : Sx) : Option (Int32 × Sx) :=
  (m149 x1 S).bind fun q5 => if q5.1 = 0 then some ((-1 : Int32), q5.2) else if oc q5.2 x0 12 = true then (q5.2.2.2.2.1 x0 0).bind fun a6 => if inb x1 (al q5.2 a6) = true then if 0 ≤ (q5.2.2.1 a6 x1.toNatClampNeg) then if oc q5.2 x0 12 = true then (q5.2.2.2.2.1 x0 0).bind fun a7 => if inb x1 (al q5.2 a7) = true then if (q5.2.2.1 a7 x1.toNatClampNeg) = 0 then if oc q5.2 x0 12 = true then (m151 x0 (4 : Int32) q5.2).bind fun q8 => some (q8.1, q8.2) else none else l157_44 1000 x0 x1 (0 : Int64) (0 : Int32) q5.2 else none else none else if oc q5.2 x0 12 = true then (m151 x0 (1 : Int32) q5.2).bind fun q9 => some (q9.1, q9.2) else none else none else none
set_option maxRecDepth 100000 in
theorem om157 (d : Nat) (x0 : Nat) (x1 : Int32) (S : Sx) : OkF wI (fun f => rk px kx f (d + 2) 157 0 [some (.ref x0), some (.int x1), none, none, none] [] S) (m157 x0 x1 S) := by
  unfold m157
  refine OkF.eq 2 (Y := fun f => (rk px kx f (d + 1) 149 0 [some (.int x1)] [] S).bind (fun q => rk px kx f (d + 2) 157 4 [some (.ref x0), some (.int x1), none, none, none] (q.1.toList ++ []) q.2)) (fun f => rfl) ?_
  refine OkF.bind (w1 := wI) (om149 (d + 0) x1 S) (fun q5 => ?_)
  refine OkF.eq 1 (Y := fun f => if q5.1 = 0 then rk px kx f (d + 2) 157 7 [some (.ref x0), some (.int x1), none, none, none] [] q5.2 else rk px kx f (d + 2) 157 9 [some (.ref x0), some (.int x1), none, none, none] [] q5.2) (fun f => rfl) ?_
  refine OkF.ite (fun _ => ?_) (fun _ => ?_)
  · exact OkF.ret 2 (fun f => rfl)
  · refine OkF.eq 2 (Y := fun f => if oc q5.2 x0 12 = true then rk px kx f (d + 2) 157 13 [some (.ref x0), some (.int x1), none, none, none] (va_rf (q5.2.2.2.2.1 x0 0) :: []) q5.2 else none) (fun f => rfl) ?_
    refine OkF.grd (fun _ => ?_)
    refine OkF.rf (fun a6 => ?_)
    refine OkF.eq 2 (Y := fun f => if inb x1 (al q5.2 a6) = true then rk px kx f (d + 2) 157 15 [some (.ref x0), some (.int x1), none, none, none] [.int (q5.2.2.1 a6 x1.toNatClampNeg)] q5.2 else none) (fun f => rfl) ?_
    refine OkF.grd (fun _ => ?_)
    refine OkF.eq 1 (Y := fun f => if 0 ≤ (q5.2.2.1 a6 x1.toNatClampNeg) then rk px kx f (d + 2) 157 24 [some (.ref x0), some (.int x1), none, none, none] [] q5.2 else rk px kx f (d + 2) 157 18 [some (.ref x0), some (.int x1), none, none, none] [] q5.2) (fun f => rfl) ?_
    refine OkF.ite (fun _ => ?_) (fun _ => ?_)
    · refine OkF.eq 2 (Y := fun f => if oc q5.2 x0 12 = true then rk px kx f (d + 2) 157 28 [some (.ref x0), some (.int x1), none, none, none] (va_rf (q5.2.2.2.2.1 x0 0) :: []) q5.2 else none) (fun f => rfl) ?_
      refine OkF.grd (fun _ => ?_)
      refine OkF.rf (fun a7 => ?_)
      refine OkF.eq 2 (Y := fun f => if inb x1 (al q5.2 a7) = true then rk px kx f (d + 2) 157 30 [some (.ref x0), some (.int x1), none, none, none] [.int (q5.2.2.1 a7 x1.toNatClampNeg)] q5.2 else none) (fun f => rfl) ?_
      refine OkF.grd (fun _ => ?_)
      refine OkF.eq 1 (Y := fun f => if (q5.2.2.1 a7 x1.toNatClampNeg) = 0 then rk px kx f (d + 2) 157 33 [some (.ref x0), some (.int x1), none, none, none] [] q5.2 else rk px kx f (d + 2) 157 39 [some (.ref x0), some (.int x1), none, none, none] [] q5.2) (fun f => rfl) ?_
      refine OkF.ite (fun _ => ?_) (fun _ => ?_)
      · refine OkF.eq 3 (Y := fun f => if oc q5.2 x0 12 = true then (rk px kx f (d + 1) 151 0 [some (.ref x0), some (.int (4 : Int32))] [] q5.2).bind (fun q => rk px kx f (d + 2) 157 38 [some (.ref x0), some (.int x1), none, none, none] (q.1.toList ++ []) q.2) else none) (fun f => rfl) ?_
        refine OkF.grd (fun _ => ?_)
        refine OkF.bind (w1 := wI) (om151 (d + 1) x0 (4 : Int32) q5.2) (fun q8 => ?_)
        exact OkF.ret 1 (fun f => rfl)
      · refine OkF.eq 4 (Y := fun f => rk px kx f (d + 2) 157 44 [some (.ref x0), some (.int x1), some (.long (0 : Int64)), none, some (.int (0 : Int32))] [] q5.2) (fun f => rfl) ?_
        exact OkF.kl (ls1 := [some (.ref x0), some (.int x1), some (.long (0 : Int64)), none, some (.int (0 : Int32))]) (fun f => rfl) (ol157_44 d 1000 x0 x1 (0 : Int64) (0 : Int32) q5.2)
    · refine OkF.eq 3 (Y := fun f => if oc q5.2 x0 12 = true then (rk px kx f (d + 1) 151 0 [some (.ref x0), some (.int (1 : Int32))] [] q5.2).bind (fun q => rk px kx f (d + 2) 157 23 [some (.ref x0), some (.int x1), none, none, none] (q.1.toList ++ []) q.2) else none) (fun f => rfl) ?_
      refine OkF.grd (fun _ => ?_)
      refine OkF.bind (w1 := wI) (om151 (d + 1) x0 (1 : Int32) q5.2) (fun q9 => ?_)
      exact OkF.ret 1 (fun f => rfl)
-- DoorSoldModel.isText(I)Z
def m159 (x0 : Int32) (S : Sx) : Option (Int32 × Sx) :=
  (m150 x0.toInt64 (0 : Int64) (3 : Int64) S).bind fun q1 => some (q1.1 &&& 1, q1.2)
set_option maxRecDepth 100000 in
theorem om159 (d : Nat) (x0 : Int32) (S : Sx) : OkF wI (fun f => rk px kx f (d + 1) 159 0 [some (.int x0)] [] S) (m159 x0 S) := by
  unfold m159
  refine OkF.eq 5 (Y := fun f => (rk px kx f (d + 0) 150 0 [some (.long x0.toInt64), none, some (.long (0 : Int64)), none, some (.long (3 : Int64)), none] [] S).bind (fun q => rk px kx f (d + 1) 159 9 [some (.int x0)] (q.1.toList ++ []) q.2)) (fun f => rfl) ?_
  refine OkF.bind (w1 := wI) (om150 (d + 0) x0.toInt64 (0 : Int64) (3 : Int64) S) (fun q1 => ?_)
  exact OkF.ret 1 (fun f => rfl)
-- DoorSoldModel.text(II)I
def b158_34 (k34 : Nat → Int32 → Int32 → Int32 → Sx → Option (Int32 × Sx)) (x0 : Nat) (x1 : Int32) (x2 : Int32) (x3 : Int32) (S : Sx) : Option (Int32 × Sx) :=
  if (60 : Int32) ≤ x3 then some (x2, S) else if oc S x0 12 = true then (S.2.2.2.1 x0 3).bind fun a1 => if inb (((60 : Int32) * x1) + x3) (aw S 1 a1) = true then lt (sI S a1 (((60 : Int32) * x1) + x3).toNatClampNeg (32 : Int32)) fun S2 => k34 x0 x1 x2 (x3 + (1 : Int32)) S2 else none else none
set_option maxRecDepth 100000 in
theorem ob158_34 (d : Nat) (k34 : Nat → Int32 → Int32 → Int32 → Sx → Option (Int32 × Sx)) (hk34 : ∀ (x0 : Nat) (x1 : Int32) (x2 : Int32) (x3 : Int32) (S : Sx), OkF wI (fun f => rk px kx f (d + 2) 158 34 [some (.ref x0), some (.int x1), some (.int x2), some (.int x3)] [] S) (k34 x0 x1 x2 x3 S)) (x0 : Nat) (x1 : Int32) (x2 : Int32) (x3 : Int32) (S : Sx) : OkF wI (fun f => rk px kx f (d + 2) 158 34 [some (.ref x0), some (.int x1), some (.int x2), some (.int x3)] [] S) (b158_34 k34 x0 x1 x2 x3 S) := by
  unfold b158_34
  refine OkF.eq 3 (Y := fun f => if (60 : Int32) ≤ x3 then rk px kx f (d + 2) 158 59 [some (.ref x0), some (.int x1), some (.int x2), some (.int x3)] [] S else rk px kx f (d + 2) 158 40 [some (.ref x0), some (.int x1), some (.int x2), some (.int x3)] [] S) (fun f => rfl) ?_
  refine OkF.ite (fun _ => ?_) (fun _ => ?_)
  · exact OkF.ret 2 (fun f => rfl)
  · refine OkF.eq 2 (Y := fun f => if oc S x0 12 = true then rk px kx f (d + 2) 158 44 [some (.ref x0), some (.int x1), some (.int x2), some (.int x3)] (va_rf (S.2.2.2.1 x0 3) :: []) S else none) (fun f => rfl) ?_
    refine OkF.grd (fun _ => ?_)
    refine OkF.rf (fun a1 => ?_)
    refine OkF.eq 7 (Y := fun f => if inb (((60 : Int32) * x1) + x3) (aw S 1 a1) = true then rk px kx f (d + 2) 158 53 [some (.ref x0), some (.int x1), some (.int x2), some (.int x3)] [] (sI S a1 (((60 : Int32) * x1) + x3).toNatClampNeg (32 : Int32)) else none) (fun f => rfl) ?_
    refine OkF.grd (fun _ => ?_)
    refine OkF.nm (fun S2 => ?_)
    refine OkF.eq 2 (Y := fun f => rk px kx f (d + 2) 158 34 [some (.ref x0), some (.int x1), some (.int x2), some (.int (x3 + (1 : Int32)))] [] S2) (fun f => rfl) ?_
    exact OkF.kl (ls1 := [some (.ref x0), some (.int x1), some (.int x2), some (.int (x3 + (1 : Int32)))]) (fun f => rfl) (hk34 x0 x1 x2 (x3 + (1 : Int32)) S2)
def l158_34 : Nat → Nat → Int32 → Int32 → Int32 → Sx → Option (Int32 × Sx)
  | 0 => fun _ _ _ _ _ => none
  | n + 1 => fun x0 x1 x2 x3 S => b158_34 (l158_34 n) x0 x1 x2 x3 S
set_option maxRecDepth 100000 in
theorem ol158_34 (d : Nat) : ∀ (n : Nat) (x0 : Nat) (x1 : Int32) (x2 : Int32) (x3 : Int32) (S : Sx), OkF wI (fun f => rk px kx f (d + 2) 158 34 [some (.ref x0), some (.int x1), some (.int x2), some (.int x3)] [] S) (l158_34 n x0 x1 x2 x3 S) := by
  intro n
  induction n with
  | zero => intro x0 x1 x2 x3 S; exact OkF.no
  | succ n ih => intro x0 x1 x2 x3 S; exact ob158_34 d (l158_34 n) ih x0 x1 x2 x3 S
def m158 (x0 : Nat) (x1 : Int32) (x2 : Int32) (S : Sx) : Option (Int32 × Sx) :=
  (m159 x1 S).bind fun q3 => if q3.1 = 0 then some ((-1 : Int32), q3.2) else if x2 ≤ (60 : Int32) then if 0 ≤ x2 then if oc q3.2 x0 12 = true then (q3.2.2.2.2.1 x0 2).bind fun a4 => if inb x1 (aw q3.2 1 a4) = true then lt (sI q3.2 a4 x1.toNatClampNeg x2) fun S5 => l158_34 1000 x0 x1 x2 (0 : Int32) S5 else none else none else if oc q3.2 x0 12 = true then (m151 x0 (5 : Int32) q3.2).bind fun q6 => some (q6.1, q6.2) else none else some ((-1 : Int32), q3.2)
set_option maxRecDepth 100000 in
theorem om158 (d : Nat) (x0 : Nat) (x1 : Int32) (x2 : Int32) (S : Sx) : OkF wI (fun f => rk px kx f (d + 2) 158 0 [some (.ref x0), some (.int x1), some (.int x2), none] [] S) (m158 x0 x1 x2 S) := by
  unfold m158
  refine OkF.eq 2 (Y := fun f => (rk px kx f (d + 1) 159 0 [some (.int x1)] [] S).bind (fun q => rk px kx f (d + 2) 158 4 [some (.ref x0), some (.int x1), some (.int x2), none] (q.1.toList ++ []) q.2)) (fun f => rfl) ?_
  refine OkF.bind (w1 := wI) (om159 (d + 0) x1 S) (fun q3 => ?_)
  refine OkF.eq 1 (Y := fun f => if q3.1 = 0 then rk px kx f (d + 2) 158 13 [some (.ref x0), some (.int x1), some (.int x2), none] [] q3.2 else rk px kx f (d + 2) 158 7 [some (.ref x0), some (.int x1), some (.int x2), none] [] q3.2) (fun f => rfl) ?_
  refine OkF.ite (fun _ => ?_) (fun _ => ?_)
  · exact OkF.ret 2 (fun f => rfl)
  · refine OkF.eq 3 (Y := fun f => if x2 ≤ (60 : Int32) then rk px kx f (d + 2) 158 15 [some (.ref x0), some (.int x1), some (.int x2), none] [] q3.2 else rk px kx f (d + 2) 158 13 [some (.ref x0), some (.int x1), some (.int x2), none] [] q3.2) (fun f => rfl) ?_
    refine OkF.ite (fun _ => ?_) (fun _ => ?_)
    · refine OkF.eq 2 (Y := fun f => if 0 ≤ x2 then rk px kx f (d + 2) 158 25 [some (.ref x0), some (.int x1), some (.int x2), none] [] q3.2 else rk px kx f (d + 2) 158 19 [some (.ref x0), some (.int x1), some (.int x2), none] [] q3.2) (fun f => rfl) ?_
      refine OkF.ite (fun _ => ?_) (fun _ => ?_)
      · refine OkF.eq 2 (Y := fun f => if oc q3.2 x0 12 = true then rk px kx f (d + 2) 158 29 [some (.ref x0), some (.int x1), some (.int x2), none] (va_rf (q3.2.2.2.2.1 x0 2) :: []) q3.2 else none) (fun f => rfl) ?_
        refine OkF.grd (fun _ => ?_)
        refine OkF.rf (fun a4 => ?_)
        refine OkF.eq 3 (Y := fun f => if inb x1 (aw q3.2 1 a4) = true then rk px kx f (d + 2) 158 32 [some (.ref x0), some (.int x1), some (.int x2), none] [] (sI q3.2 a4 x1.toNatClampNeg x2) else none) (fun f => rfl) ?_
        refine OkF.grd (fun _ => ?_)
        refine OkF.nm (fun S5 => ?_)
        refine OkF.eq 2 (Y := fun f => rk px kx f (d + 2) 158 34 [some (.ref x0), some (.int x1), some (.int x2), some (.int (0 : Int32))] [] S5) (fun f => rfl) ?_
        exact OkF.kl (ls1 := [some (.ref x0), some (.int x1), some (.int x2), some (.int (0 : Int32))]) (fun f => rfl) (ol158_34 d 1000 x0 x1 x2 (0 : Int32) S5)
      · refine OkF.eq 3 (Y := fun f => if oc q3.2 x0 12 = true then (rk px kx f (d + 1) 151 0 [some (.ref x0), some (.int (5 : Int32))] [] q3.2).bind (fun q => rk px kx f (d + 2) 158 24 [some (.ref x0), some (.int x1), some (.int x2), none] (q.1.toList ++ []) q.2) else none) (fun f => rfl) ?_
        refine OkF.grd (fun _ => ?_)
        refine OkF.bind (w1 := wI) (om151 (d + 1) x0 (5 : Int32) q3.2) (fun q6 => ?_)
        exact OkF.ret 1 (fun f => rfl)
    · exact OkF.ret 2 (fun f => rfl)
-- DoorSoldModel.put(III)I
def m160 (x0 : Nat) (x1 : Int32) (x2 : Int32) (x3 : Int32) (S : Sx) : Option (Int32 × Sx) :=
  (m159 x1 S).bind fun q1 => if q1.1 = 0 then some ((-1 : Int32), q1.2) else if oc q1.2 x0 12 = true then (q1.2.2.2.2.1 x0 2).bind fun a2 => if inb x1 (al q1.2 a2) = true then if 0 ≤ (q1.2.2.1 a2 x1.toNatClampNeg) then if oc q1.2 x0 12 = true then (q1.2.2.2.2.1 x0 2).bind fun a3 => if inb x1 (al q1.2 a3) = true then (m150 x2.toInt64 (0 : Int64) (((q1.2.2.1 a3 x1.toNatClampNeg) - (1 : Int32)).toInt64) q1.2).bind fun q4 => if q4.1 = 0 then if oc q4.2 x0 12 = true then (m151 x0 (2 : Int32) q4.2).bind fun q5 => some (q5.1, q5.2) else none else if oc q4.2 x0 12 = true then (q4.2.2.2.2.1 x0 3).bind fun a6 => if inb (((60 : Int32) * x1) + x2) (al q4.2 a6) = true then if oc q4.2 x0 12 = true then (q4.2.2.2.2.1 x0 3).bind fun a7 => if inb (((60 : Int32) * x1) + x2) (aw q4.2 1 a7) = true then lt (sI q4.2 a7 (((60 : Int32) * x1) + x2).toNatClampNeg x3.toInt8.toInt32) fun S8 => some ((q4.2.2.1 a6 (((60 : Int32) * x1) + x2).toNatClampNeg) + (1000 : Int32), S8) else none else none else none else none else none else none else if oc q1.2 x0 12 = true then (m151 x0 (1 : Int32) q1.2).bind fun q9 => some (q9.1, q9.2) else none else none else none
set_option maxRecDepth 100000 in
theorem om160 (d : Nat) (x0 : Nat) (x1 : Int32) (x2 : Int32) (x3 : Int32) (S : Sx) : OkF wI (fun f => rk px kx f (d + 2) 160 0 [some (.ref x0), some (.int x1), some (.int x2), some (.int x3), none] [] S) (m160 x0 x1 x2 x3 S) := by
  unfold m160
  refine OkF.eq 2 (Y := fun f => (rk px kx f (d + 1) 159 0 [some (.int x1)] [] S).bind (fun q => rk px kx f (d + 2) 160 4 [some (.ref x0), some (.int x1), some (.int x2), some (.int x3), none] (q.1.toList ++ []) q.2)) (fun f => rfl) ?_
  refine OkF.bind (w1 := wI) (om159 (d + 0) x1 S) (fun q1 => ?_)
  refine OkF.eq 1 (Y := fun f => if q1.1 = 0 then rk px kx f (d + 2) 160 7 [some (.ref x0), some (.int x1), some (.int x2), some (.int x3), none] [] q1.2 else rk px kx f (d + 2) 160 9 [some (.ref x0), some (.int x1), some (.int x2), some (.int x3), none] [] q1.2) (fun f => rfl) ?_
  refine OkF.ite (fun _ => ?_) (fun _ => ?_)
  · exact OkF.ret 2 (fun f => rfl)
  · refine OkF.eq 2 (Y := fun f => if oc q1.2 x0 12 = true then rk px kx f (d + 2) 160 13 [some (.ref x0), some (.int x1), some (.int x2), some (.int x3), none] (va_rf (q1.2.2.2.2.1 x0 2) :: []) q1.2 else none) (fun f => rfl) ?_
    refine OkF.grd (fun _ => ?_)
    refine OkF.rf (fun a2 => ?_)
    refine OkF.eq 2 (Y := fun f => if inb x1 (al q1.2 a2) = true then rk px kx f (d + 2) 160 15 [some (.ref x0), some (.int x1), some (.int x2), some (.int x3), none] [.int (q1.2.2.1 a2 x1.toNatClampNeg)] q1.2 else none) (fun f => rfl) ?_
    refine OkF.grd (fun _ => ?_)
    refine OkF.eq 1 (Y := fun f => if 0 ≤ (q1.2.2.1 a2 x1.toNatClampNeg) then rk px kx f (d + 2) 160 24 [some (.ref x0), some (.int x1), some (.int x2), some (.int x3), none] [] q1.2 else rk px kx f (d + 2) 160 18 [some (.ref x0), some (.int x1), some (.int x2), some (.int x3), none] [] q1.2) (fun f => rfl) ?_
    refine OkF.ite (fun _ => ?_) (fun _ => ?_)
    · refine OkF.eq 5 (Y := fun f => if oc q1.2 x0 12 = true then rk px kx f (d + 2) 160 31 [some (.ref x0), some (.int x1), some (.int x2), some (.int x3), none] (va_rf (q1.2.2.2.2.1 x0 2) :: [.long (0 : Int64), .long x2.toInt64]) q1.2 else none) (fun f => rfl) ?_
      refine OkF.grd (fun _ => ?_)
      refine OkF.rf (fun a3 => ?_)
      refine OkF.eq 2 (Y := fun f => if inb x1 (al q1.2 a3) = true then rk px kx f (d + 2) 160 33 [some (.ref x0), some (.int x1), some (.int x2), some (.int x3), none] [.int (q1.2.2.1 a3 x1.toNatClampNeg), .long (0 : Int64), .long x2.toInt64] q1.2 else none) (fun f => rfl) ?_
      refine OkF.grd (fun _ => ?_)
      refine OkF.eq 4 (Y := fun f => (rk px kx f (d + 1) 150 0 [some (.long x2.toInt64), none, some (.long (0 : Int64)), none, some (.long (((q1.2.2.1 a3 x1.toNatClampNeg) - (1 : Int32)).toInt64)), none] [] q1.2).bind (fun q => rk px kx f (d + 2) 160 39 [some (.ref x0), some (.int x1), some (.int x2), some (.int x3), none] (q.1.toList ++ []) q.2)) (fun f => rfl) ?_
      refine OkF.bind (w1 := wI) (om150 (d + 1) x2.toInt64 (0 : Int64) (((q1.2.2.1 a3 x1.toNatClampNeg) - (1 : Int32)).toInt64) q1.2) (fun q4 => ?_)
      refine OkF.eq 1 (Y := fun f => if q4.1 = 0 then rk px kx f (d + 2) 160 42 [some (.ref x0), some (.int x1), some (.int x2), some (.int x3), none] [] q4.2 else rk px kx f (d + 2) 160 48 [some (.ref x0), some (.int x1), some (.int x2), some (.int x3), none] [] q4.2) (fun f => rfl) ?_
      refine OkF.ite (fun _ => ?_) (fun _ => ?_)
      · refine OkF.eq 3 (Y := fun f => if oc q4.2 x0 12 = true then (rk px kx f (d + 1) 151 0 [some (.ref x0), some (.int (2 : Int32))] [] q4.2).bind (fun q => rk px kx f (d + 2) 160 47 [some (.ref x0), some (.int x1), some (.int x2), some (.int x3), none] (q.1.toList ++ []) q.2) else none) (fun f => rfl) ?_
        refine OkF.grd (fun _ => ?_)
        refine OkF.bind (w1 := wI) (om151 (d + 1) x0 (2 : Int32) q4.2) (fun q5 => ?_)
        exact OkF.ret 1 (fun f => rfl)
      · refine OkF.eq 2 (Y := fun f => if oc q4.2 x0 12 = true then rk px kx f (d + 2) 160 52 [some (.ref x0), some (.int x1), some (.int x2), some (.int x3), none] (va_rf (q4.2.2.2.2.1 x0 3) :: []) q4.2 else none) (fun f => rfl) ?_
        refine OkF.grd (fun _ => ?_)
        refine OkF.rf (fun a6 => ?_)
        refine OkF.eq 6 (Y := fun f => if inb (((60 : Int32) * x1) + x2) (al q4.2 a6) = true then rk px kx f (d + 2) 160 59 [some (.ref x0), some (.int x1), some (.int x2), some (.int x3), none] [.int (q4.2.2.1 a6 (((60 : Int32) * x1) + x2).toNatClampNeg)] q4.2 else none) (fun f => rfl) ?_
        refine OkF.grd (fun _ => ?_)
        refine OkF.eq 3 (Y := fun f => if oc q4.2 x0 12 = true then rk px kx f (d + 2) 160 65 [some (.ref x0), some (.int x1), some (.int x2), some (.int x3), some (.int (q4.2.2.1 a6 (((60 : Int32) * x1) + x2).toNatClampNeg))] (va_rf (q4.2.2.2.2.1 x0 3) :: []) q4.2 else none) (fun f => rfl) ?_
        refine OkF.grd (fun _ => ?_)
        refine OkF.rf (fun a7 => ?_)
        refine OkF.eq 8 (Y := fun f => if inb (((60 : Int32) * x1) + x2) (aw q4.2 1 a7) = true then rk px kx f (d + 2) 160 74 [some (.ref x0), some (.int x1), some (.int x2), some (.int x3), some (.int (q4.2.2.1 a6 (((60 : Int32) * x1) + x2).toNatClampNeg))] [] (sI q4.2 a7 (((60 : Int32) * x1) + x2).toNatClampNeg x3.toInt8.toInt32) else none) (fun f => rfl) ?_
        refine OkF.grd (fun _ => ?_)
        refine OkF.nm (fun S8 => ?_)
        exact OkF.ret 4 (fun f => rfl)
    · refine OkF.eq 3 (Y := fun f => if oc q1.2 x0 12 = true then (rk px kx f (d + 1) 151 0 [some (.ref x0), some (.int (1 : Int32))] [] q1.2).bind (fun q => rk px kx f (d + 2) 160 23 [some (.ref x0), some (.int x1), some (.int x2), some (.int x3), none] (q.1.toList ++ []) q.2) else none) (fun f => rfl) ?_
      refine OkF.grd (fun _ => ?_)
      refine OkF.bind (w1 := wI) (om151 (d + 1) x0 (1 : Int32) q1.2) (fun q9 => ?_)
      exact OkF.ret 1 (fun f => rfl)
-- DoorSoldModel.byteAt(I)I
def m164 (x0 : Nat) (x1 : Int32) (S : Sx) : Option (Int32 × Sx) :=
  if oc S x0 12 = true then if oc S x0 12 = true then (S.2.2.2.1 x0 2).bind fun a1 => if inb x1 (al S a1) = true then if (S.2.1 a1 x1.toNatClampNeg) ≤ (S.2.1 x0 18) then some ((-1000 : Int32), S) else if oc S x0 12 = true then (S.2.2.2.1 x0 3).bind fun a2 => if oc S x0 12 = true then if inb (((60 : Int32) * x1) + (S.2.1 x0 18)) (al S a2) = true then some (S.2.1 a2 (((60 : Int32) * x1) + (S.2.1 x0 18)).toNatClampNeg, S) else none else none else none else none else none else none
set_option maxRecDepth 100000 in
theorem om164 (d : Nat) (x0 : Nat) (x1 : Int32) (S : Sx) : OkF wI (fun f => rk px kx f (d + 0) 164 0 [some (.ref x0), some (.int x1)] [] S) (m164 x0 x1 S) := by
  unfold m164
  refine OkF.eq 2 (Y := fun f => if oc S x0 12 = true then rk px kx f (d + 0) 164 4 [some (.ref x0), some (.int x1)] [.int (S.2.1 x0 18)] S else none) (fun f => rfl) ?_
  refine OkF.grd (fun _ => ?_)
  refine OkF.eq 2 (Y := fun f => if oc S x0 12 = true then rk px kx f (d + 0) 164 8 [some (.ref x0), some (.int x1)] (va_rf (S.2.2.2.1 x0 2) :: [.int (S.2.1 x0 18)]) S else none) (fun f => rfl) ?_
  refine OkF.grd (fun _ => ?_)
  refine OkF.rf (fun a1 => ?_)
  refine OkF.eq 2 (Y := fun f => if inb x1 (al S a1) = true then rk px kx f (d + 0) 164 10 [some (.ref x0), some (.int x1)] [.int (S.2.1 a1 x1.toNatClampNeg), .int (S.2.1 x0 18)] S else none) (fun f => rfl) ?_
  refine OkF.grd (fun _ => ?_)
  refine OkF.eq 1 (Y := fun f => if (S.2.1 a1 x1.toNatClampNeg) ≤ (S.2.1 x0 18) then rk px kx f (d + 0) 164 30 [some (.ref x0), some (.int x1)] [] S else rk px kx f (d + 0) 164 13 [some (.ref x0), some (.int x1)] [] S) (fun f => rfl) ?_
  refine OkF.ite (fun _ => ?_) (fun _ => ?_)
  · exact OkF.ret 2 (fun f => rfl)
  · refine OkF.eq 2 (Y := fun f => if oc S x0 12 = true then rk px kx f (d + 0) 164 17 [some (.ref x0), some (.int x1)] (va_rf (S.2.2.2.1 x0 3) :: []) S else none) (fun f => rfl) ?_
    refine OkF.grd (fun _ => ?_)
    refine OkF.rf (fun a2 => ?_)
    refine OkF.eq 5 (Y := fun f => if oc S x0 12 = true then rk px kx f (d + 0) 164 25 [some (.ref x0), some (.int x1)] [.int (S.2.1 x0 18), .int ((60 : Int32) * x1), .ref a2] S else none) (fun f => rfl) ?_
    refine OkF.grd (fun _ => ?_)
    refine OkF.eq 2 (Y := fun f => if inb (((60 : Int32) * x1) + (S.2.1 x0 18)) (al S a2) = true then rk px kx f (d + 0) 164 27 [some (.ref x0), some (.int x1)] [.int (S.2.1 a2 (((60 : Int32) * x1) + (S.2.1 x0 18)).toNatClampNeg)] S else none) (fun f => rfl) ?_
    refine OkF.grd (fun _ => ?_)
    exact OkF.ret 2 (fun f => rfl)
-- DoorSoldModel.blanks(I)V
def b163_0 (k0 : Nat → Int32 → Sx → Option (Sx)) (x0 : Nat) (x1 : Int32) (S : Sx) : Option (Sx) :=
  if oc S x0 12 = true then (m164 x0 x1 S).bind fun q1 => if q1.1 = (32 : Int32) then if oc q1.2 x0 12 = true then if oc q1.2 x0 12 = true then lt (sI q1.2 x0 18 ((q1.2.2.1 x0 18) + (1 : Int32))) fun S2 => k0 x0 x1 S2 else none else none else some q1.2 else none
set_option maxRecDepth 100000 in
theorem ob163_0 (d : Nat) (k0 : Nat → Int32 → Sx → Option (Sx)) (hk0 : ∀ (x0 : Nat) (x1 : Int32) (S : Sx), OkF wV (fun f => rk px kx f (d + 1) 163 0 [some (.ref x0), some (.int x1)] [] S) (k0 x0 x1 S)) (x0 : Nat) (x1 : Int32) (S : Sx) : OkF wV (fun f => rk px kx f (d + 1) 163 0 [some (.ref x0), some (.int x1)] [] S) (b163_0 k0 x0 x1 S) := by
  unfold b163_0
  refine OkF.eq 3 (Y := fun f => if oc S x0 12 = true then (rk px kx f (d + 0) 164 0 [some (.ref x0), some (.int x1)] [] S).bind (fun q => rk px kx f (d + 1) 163 5 [some (.ref x0), some (.int x1)] (q.1.toList ++ []) q.2) else none) (fun f => rfl) ?_
  refine OkF.grd (fun _ => ?_)
  refine OkF.bind (w1 := wI) (om164 (d + 0) x0 x1 S) (fun q1 => ?_)
  refine OkF.eq 2 (Y := fun f => if q1.1 = (32 : Int32) then rk px kx f (d + 1) 163 10 [some (.ref x0), some (.int x1)] [] q1.2 else rk px kx f (d + 1) 163 23 [some (.ref x0), some (.int x1)] [] q1.2) (fun f => rfl) ?_
  refine OkF.ite (fun _ => ?_) (fun _ => ?_)
  · refine OkF.eq 3 (Y := fun f => if oc q1.2 x0 12 = true then rk px kx f (d + 1) 163 15 [some (.ref x0), some (.int x1)] [.int (q1.2.2.1 x0 18), .ref x0] q1.2 else none) (fun f => rfl) ?_
    refine OkF.grd (fun _ => ?_)
    refine OkF.eq 3 (Y := fun f => if oc q1.2 x0 12 = true then rk px kx f (d + 1) 163 20 [some (.ref x0), some (.int x1)] [] (sI q1.2 x0 18 ((q1.2.2.1 x0 18) + (1 : Int32))) else none) (fun f => rfl) ?_
    refine OkF.grd (fun _ => ?_)
    refine OkF.nm (fun S2 => ?_)
    refine OkF.eq 1 (Y := fun f => rk px kx f (d + 1) 163 0 [some (.ref x0), some (.int x1)] [] S2) (fun f => rfl) ?_
    exact OkF.kl (ls1 := [some (.ref x0), some (.int x1)]) (fun f => rfl) (hk0 x0 x1 S2)
  · exact OkF.ret 1 (fun f => rfl)
def l163_0 : Nat → Nat → Int32 → Sx → Option (Sx)
  | 0 => fun _ _ _ => none
  | n + 1 => fun x0 x1 S => b163_0 (l163_0 n) x0 x1 S
set_option maxRecDepth 100000 in
theorem ol163_0 (d : Nat) : ∀ (n : Nat) (x0 : Nat) (x1 : Int32) (S : Sx), OkF wV (fun f => rk px kx f (d + 1) 163 0 [some (.ref x0), some (.int x1)] [] S) (l163_0 n x0 x1 S) := by
  intro n
  induction n with
  | zero => intro x0 x1 S; exact OkF.no
  | succ n ih => intro x0 x1 S; exact ob163_0 d (l163_0 n) ih x0 x1 S
def m163 (x0 : Nat) (x1 : Int32) (S : Sx) : Option (Sx) :=
  l163_0 1000 x0 x1 S
set_option maxRecDepth 100000 in
theorem om163 (d : Nat) (x0 : Nat) (x1 : Int32) (S : Sx) : OkF wV (fun f => rk px kx f (d + 1) 163 0 [some (.ref x0), some (.int x1)] [] S) (m163 x0 x1 S) := by
  unfold m163
  exact OkF.kl (ls1 := [some (.ref x0), some (.int x1)]) (fun f => rfl) (ol163_0 d 1000 x0 x1 S)
-- DoorSoldModel.takes(III)Z
def m166 (x0 : Nat) (x1 : Int32) (x2 : Int32) (x3 : Int32) (S : Sx) : Option (Int32 × Sx) :=
  if oc S x0 12 = true then (m164 x0 x1 S).bind fun q1 => if oc q1.2 x0 12 = true then lt (sI q1.2 x0 23 (q1.1 - (48 : Int32))) fun S2 => if oc S2 x0 12 = true then (m150 ((S2.2.1 x0 23).toInt64) x2.toInt64 x3.toInt64 S2).bind fun q3 => if q3.1 = 0 then some ((0 : Int32), q3.2) else if oc q3.2 x0 12 = true then if oc q3.2 x0 12 = true then lt (sI q3.2 x0 18 ((q3.2.2.1 x0 18) + (1 : Int32))) fun S4 => some ((1 : Int32), S4) else none else none else none else none else none
set_option maxRecDepth 100000 in
theorem om166 (d : Nat) (x0 : Nat) (x1 : Int32) (x2 : Int32) (x3 : Int32) (S : Sx) : OkF wI (fun f => rk px kx f (d + 1) 166 0 [some (.ref x0), some (.int x1), some (.int x2), some (.int x3)] [] S) (m166 x0 x1 x2 x3 S) := by
  unfold m166
  refine OkF.eq 4 (Y := fun f => if oc S x0 12 = true then (rk px kx f (d + 0) 164 0 [some (.ref x0), some (.int x1)] [] S).bind (fun q => rk px kx f (d + 1) 166 6 [some (.ref x0), some (.int x1), some (.int x2), some (.int x3)] (q.1.toList ++ [.ref x0]) q.2) else none) (fun f => rfl) ?_
  refine OkF.grd (fun _ => ?_)
  refine OkF.bind (w1 := wI) (om164 (d + 0) x0 x1 S) (fun q1 => ?_)
  refine OkF.eq 3 (Y := fun f => if oc q1.2 x0 12 = true then rk px kx f (d + 1) 166 12 [some (.ref x0), some (.int x1), some (.int x2), some (.int x3)] [] (sI q1.2 x0 23 (q1.1 - (48 : Int32))) else none) (fun f => rfl) ?_
  refine OkF.grd (fun _ => ?_)
  refine OkF.nm (fun S2 => ?_)
  refine OkF.eq 2 (Y := fun f => if oc S2 x0 12 = true then rk px kx f (d + 1) 166 16 [some (.ref x0), some (.int x1), some (.int x2), some (.int x3)] [.int (S2.2.1 x0 23)] S2 else none) (fun f => rfl) ?_
  refine OkF.grd (fun _ => ?_)
  refine OkF.eq 6 (Y := fun f => (rk px kx f (d + 0) 150 0 [some (.long ((S2.2.1 x0 23).toInt64)), none, some (.long x2.toInt64), none, some (.long x3.toInt64), none] [] S2).bind (fun q => rk px kx f (d + 1) 166 24 [some (.ref x0), some (.int x1), some (.int x2), some (.int x3)] (q.1.toList ++ []) q.2)) (fun f => rfl) ?_
  refine OkF.bind (w1 := wI) (om150 (d + 0) ((S2.2.1 x0 23).toInt64) x2.toInt64 x3.toInt64 S2) (fun q3 => ?_)
  refine OkF.eq 1 (Y := fun f => if q3.1 = 0 then rk px kx f (d + 1) 166 27 [some (.ref x0), some (.int x1), some (.int x2), some (.int x3)] [] q3.2 else rk px kx f (d + 1) 166 29 [some (.ref x0), some (.int x1), some (.int x2), some (.int x3)] [] q3.2) (fun f => rfl) ?_
  refine OkF.ite (fun _ => ?_) (fun _ => ?_)
  · exact OkF.ret 2 (fun f => rfl)
  · refine OkF.eq 3 (Y := fun f => if oc q3.2 x0 12 = true then rk px kx f (d + 1) 166 34 [some (.ref x0), some (.int x1), some (.int x2), some (.int x3)] [.int (q3.2.2.1 x0 18), .ref x0] q3.2 else none) (fun f => rfl) ?_
    refine OkF.grd (fun _ => ?_)
    refine OkF.eq 3 (Y := fun f => if oc q3.2 x0 12 = true then rk px kx f (d + 1) 166 39 [some (.ref x0), some (.int x1), some (.int x2), some (.int x3)] [] (sI q3.2 x0 18 ((q3.2.2.1 x0 18) + (1 : Int32))) else none) (fun f => rfl) ?_
    refine OkF.grd (fun _ => ?_)
    refine OkF.nm (fun S4 => ?_)
    exact OkF.ret 2 (fun f => rfl)
-- DoorSoldModel.readsFirst(I)Z
def m165 (x0 : Nat) (x1 : Int32) (S : Sx) : Option (Int32 × Sx) :=
  if oc S x0 12 = true then (m164 x0 x1 S).bind fun q1 => if q1.1 = (110 : Int32) then if oc q1.2 x0 12 = true then if oc q1.2 x0 12 = true then lt (sI q1.2 x0 18 ((q1.2.2.1 x0 18) + (1 : Int32))) fun S2 => if oc S2 x0 12 = true then (m166 x0 x1 (2 : Int32) (7 : Int32) S2).bind fun q3 => if q3.1 = 0 then some ((0 : Int32), q3.2) else if oc q3.2 x0 12 = true then if oc q3.2 x0 12 = true then lt (sI q3.2 x0 19 (q3.2.2.1 x0 23)) fun S4 => if oc S4 x0 12 = true then (m166 x0 x1 (0 : Int32) (9 : Int32) S4).bind fun q5 => if q5.1 = 0 then some ((0 : Int32), q5.2) else if oc q5.2 x0 12 = true then if oc q5.2 x0 12 = true then lt (sI q5.2 x0 21 ((10 : Int32) * (q5.2.2.1 x0 23))) fun S6 => if oc S6 x0 12 = true then (m166 x0 x1 (0 : Int32) (9 : Int32) S6).bind fun q7 => if q7.1 = 0 then some ((0 : Int32), q7.2) else if oc q7.2 x0 12 = true then if oc q7.2 x0 12 = true then if oc q7.2 x0 12 = true then lt (sI q7.2 x0 21 ((q7.2.2.1 x0 21) + (q7.2.2.1 x0 23))) fun S8 => some ((1 : Int32), S8) else none else none else none else none else none else none else none else none else none else none else none else none else some ((0 : Int32), q1.2) else none
set_option maxRecDepth 100000 in
theorem om165 (d : Nat) (x0 : Nat) (x1 : Int32) (S : Sx) : OkF wI (fun f => rk px kx f (d + 2) 165 0 [some (.ref x0), some (.int x1)] [] S) (m165 x0 x1 S) := by
  unfold m165
  refine OkF.eq 3 (Y := fun f => if oc S x0 12 = true then (rk px kx f (d + 1) 164 0 [some (.ref x0), some (.int x1)] [] S).bind (fun q => rk px kx f (d + 2) 165 5 [some (.ref x0), some (.int x1)] (q.1.toList ++ []) q.2) else none) (fun f => rfl) ?_
  refine OkF.grd (fun _ => ?_)
  refine OkF.bind (w1 := wI) (om164 (d + 1) x0 x1 S) (fun q1 => ?_)
  refine OkF.eq 2 (Y := fun f => if q1.1 = (110 : Int32) then rk px kx f (d + 2) 165 12 [some (.ref x0), some (.int x1)] [] q1.2 else rk px kx f (d + 2) 165 10 [some (.ref x0), some (.int x1)] [] q1.2) (fun f => rfl) ?_
  refine OkF.ite (fun _ => ?_) (fun _ => ?_)
  · refine OkF.eq 3 (Y := fun f => if oc q1.2 x0 12 = true then rk px kx f (d + 2) 165 17 [some (.ref x0), some (.int x1)] [.int (q1.2.2.1 x0 18), .ref x0] q1.2 else none) (fun f => rfl) ?_
    refine OkF.grd (fun _ => ?_)
    refine OkF.eq 3 (Y := fun f => if oc q1.2 x0 12 = true then rk px kx f (d + 2) 165 22 [some (.ref x0), some (.int x1)] [] (sI q1.2 x0 18 ((q1.2.2.1 x0 18) + (1 : Int32))) else none) (fun f => rfl) ?_
    refine OkF.grd (fun _ => ?_)
    refine OkF.nm (fun S2 => ?_)
    refine OkF.eq 5 (Y := fun f => if oc S2 x0 12 = true then (rk px kx f (d + 1) 166 0 [some (.ref x0), some (.int x1), some (.int (2 : Int32)), some (.int (7 : Int32))] [] S2).bind (fun q => rk px kx f (d + 2) 165 30 [some (.ref x0), some (.int x1)] (q.1.toList ++ []) q.2) else none) (fun f => rfl) ?_
    refine OkF.grd (fun _ => ?_)
    refine OkF.bind (w1 := wI) (om166 (d + 0) x0 x1 (2 : Int32) (7 : Int32) S2) (fun q3 => ?_)
    refine OkF.eq 1 (Y := fun f => if q3.1 = 0 then rk px kx f (d + 2) 165 33 [some (.ref x0), some (.int x1)] [] q3.2 else rk px kx f (d + 2) 165 35 [some (.ref x0), some (.int x1)] [] q3.2) (fun f => rfl) ?_
    refine OkF.ite (fun _ => ?_) (fun _ => ?_)
    · exact OkF.ret 2 (fun f => rfl)
    · refine OkF.eq 3 (Y := fun f => if oc q3.2 x0 12 = true then rk px kx f (d + 2) 165 40 [some (.ref x0), some (.int x1)] [.int (q3.2.2.1 x0 23), .ref x0] q3.2 else none) (fun f => rfl) ?_
      refine OkF.grd (fun _ => ?_)
      refine OkF.eq 1 (Y := fun f => if oc q3.2 x0 12 = true then rk px kx f (d + 2) 165 43 [some (.ref x0), some (.int x1)] [] (sI q3.2 x0 19 (q3.2.2.1 x0 23)) else none) (fun f => rfl) ?_
      refine OkF.grd (fun _ => ?_)
      refine OkF.nm (fun S4 => ?_)
      refine OkF.eq 5 (Y := fun f => if oc S4 x0 12 = true then (rk px kx f (d + 1) 166 0 [some (.ref x0), some (.int x1), some (.int (0 : Int32)), some (.int (9 : Int32))] [] S4).bind (fun q => rk px kx f (d + 2) 165 51 [some (.ref x0), some (.int x1)] (q.1.toList ++ []) q.2) else none) (fun f => rfl) ?_
      refine OkF.grd (fun _ => ?_)
      refine OkF.bind (w1 := wI) (om166 (d + 0) x0 x1 (0 : Int32) (9 : Int32) S4) (fun q5 => ?_)
      refine OkF.eq 1 (Y := fun f => if q5.1 = 0 then rk px kx f (d + 2) 165 54 [some (.ref x0), some (.int x1)] [] q5.2 else rk px kx f (d + 2) 165 56 [some (.ref x0), some (.int x1)] [] q5.2) (fun f => rfl) ?_
      refine OkF.ite (fun _ => ?_) (fun _ => ?_)
      · exact OkF.ret 2 (fun f => rfl)
      · refine OkF.eq 4 (Y := fun f => if oc q5.2 x0 12 = true then rk px kx f (d + 2) 165 63 [some (.ref x0), some (.int x1)] [.int (q5.2.2.1 x0 23), .int (10 : Int32), .ref x0] q5.2 else none) (fun f => rfl) ?_
        refine OkF.grd (fun _ => ?_)
        refine OkF.eq 2 (Y := fun f => if oc q5.2 x0 12 = true then rk px kx f (d + 2) 165 67 [some (.ref x0), some (.int x1)] [] (sI q5.2 x0 21 ((10 : Int32) * (q5.2.2.1 x0 23))) else none) (fun f => rfl) ?_
        refine OkF.grd (fun _ => ?_)
        refine OkF.nm (fun S6 => ?_)
        refine OkF.eq 5 (Y := fun f => if oc S6 x0 12 = true then (rk px kx f (d + 1) 166 0 [some (.ref x0), some (.int x1), some (.int (0 : Int32)), some (.int (9 : Int32))] [] S6).bind (fun q => rk px kx f (d + 2) 165 75 [some (.ref x0), some (.int x1)] (q.1.toList ++ []) q.2) else none) (fun f => rfl) ?_
        refine OkF.grd (fun _ => ?_)
        refine OkF.bind (w1 := wI) (om166 (d + 0) x0 x1 (0 : Int32) (9 : Int32) S6) (fun q7 => ?_)
        refine OkF.eq 1 (Y := fun f => if q7.1 = 0 then rk px kx f (d + 2) 165 78 [some (.ref x0), some (.int x1)] [] q7.2 else rk px kx f (d + 2) 165 80 [some (.ref x0), some (.int x1)] [] q7.2) (fun f => rfl) ?_
        refine OkF.ite (fun _ => ?_) (fun _ => ?_)
        · exact OkF.ret 2 (fun f => rfl)
        · refine OkF.eq 3 (Y := fun f => if oc q7.2 x0 12 = true then rk px kx f (d + 2) 165 85 [some (.ref x0), some (.int x1)] [.int (q7.2.2.1 x0 21), .ref x0] q7.2 else none) (fun f => rfl) ?_
          refine OkF.grd (fun _ => ?_)
          refine OkF.eq 2 (Y := fun f => if oc q7.2 x0 12 = true then rk px kx f (d + 2) 165 89 [some (.ref x0), some (.int x1)] [.int (q7.2.2.1 x0 23), .int (q7.2.2.1 x0 21), .ref x0] q7.2 else none) (fun f => rfl) ?_
          refine OkF.grd (fun _ => ?_)
          refine OkF.eq 2 (Y := fun f => if oc q7.2 x0 12 = true then rk px kx f (d + 2) 165 93 [some (.ref x0), some (.int x1)] [] (sI q7.2 x0 21 ((q7.2.2.1 x0 21) + (q7.2.2.1 x0 23))) else none) (fun f => rfl) ?_
          refine OkF.grd (fun _ => ?_)
          refine OkF.nm (fun S8 => ?_)
          exact OkF.ret 2 (fun f => rfl)
  · exact OkF.ret 2 (fun f => rfl)
