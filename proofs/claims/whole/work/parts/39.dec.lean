-- DoorSold$Country.areFaceToFace(II)Z
def m121 (x0 : Nat) (x1 : Int32) (x2 : Int32) (S : Sx) : Option (Int32 × Sx) :=
  if oc S x0 4 = true then (m70 x0 x1 S).bind fun q1 => if oc q1.2 x0 4 = true then if oc q1.2 x0 4 = true then (m51 x0 x2 (q1.2.2.1 x0 13) q1.2).bind fun q2 => if q1.1 = q2.1 then if oc q2.2 x0 4 = true then (m70 x0 x2 q2.2).bind fun q3 => if oc q3.2 x0 4 = true then if oc q3.2 x0 4 = true then (m51 x0 x1 (q3.2.2.1 x0 13) q3.2).bind fun q4 => if q3.1 = q4.1 then some ((1 : Int32), q4.2) else some ((0 : Int32), q4.2) else none else none else none else some ((0 : Int32), q2.2) else none else none else none
set_option maxRecDepth 100000 in
theorem om121 (d : Nat) (x0 : Nat) (x1 : Int32) (x2 : Int32) (S : Sx) : OkF wI (fun f => rk px kx f (d + 3) 121 0 [some (.ref x0), some (.int x1), some (.int x2)] [] S) (m121 x0 x1 x2 S) := by
  unfold m121
  refine OkF.eq 3 (Y := fun f => if oc S x0 4 = true then (rk px kx f (d + 2) 70 0 [some (.ref x0), some (.int x1)] [] S).bind (fun q => rk px kx f (d + 3) 121 5 [some (.ref x0), some (.int x1), some (.int x2)] (q.1.toList ++ []) q.2) else none) (fun f => rfl) ?_
  refine OkF.grd (fun _ => ?_)
  refine OkF.bind (w1 := wI) (om70 (d + 1) x0 x1 S) (fun q1 => ?_)
  refine OkF.eq 4 (Y := fun f => if oc q1.2 x0 4 = true then rk px kx f (d + 3) 121 11 [some (.ref x0), some (.int x1), some (.int x2)] [.int (q1.2.2.1 x0 13), .int x2, .ref x0, .int q1.1] q1.2 else none) (fun f => rfl) ?_
  refine OkF.grd (fun _ => ?_)
  refine OkF.eq 1 (Y := fun f => if oc q1.2 x0 4 = true then (rk px kx f (d + 2) 51 0 [some (.ref x0), some (.int x2), some (.int (q1.2.2.1 x0 13))] [] q1.2).bind (fun q => rk px kx f (d + 3) 121 14 [some (.ref x0), some (.int x1), some (.int x2)] (q.1.toList ++ [.int q1.1]) q.2) else none) (fun f => rfl) ?_
  refine OkF.grd (fun _ => ?_)
  refine OkF.bind (w1 := wI) (om51 (d + 0) x0 x2 (q1.2.2.1 x0 13) q1.2) (fun q2 => ?_)
  refine OkF.eq 1 (Y := fun f => if q1.1 = q2.1 then rk px kx f (d + 3) 121 17 [some (.ref x0), some (.int x1), some (.int x2)] [] q2.2 else rk px kx f (d + 3) 121 38 [some (.ref x0), some (.int x1), some (.int x2)] [] q2.2) (fun f => rfl) ?_
  refine OkF.ite (fun _ => ?_) (fun _ => ?_)
  · refine OkF.eq 3 (Y := fun f => if oc q2.2 x0 4 = true then (rk px kx f (d + 2) 70 0 [some (.ref x0), some (.int x2)] [] q2.2).bind (fun q => rk px kx f (d + 3) 121 22 [some (.ref x0), some (.int x1), some (.int x2)] (q.1.toList ++ []) q.2) else none) (fun f => rfl) ?_
    refine OkF.grd (fun _ => ?_)
    refine OkF.bind (w1 := wI) (om70 (d + 1) x0 x2 q2.2) (fun q3 => ?_)
    refine OkF.eq 4 (Y := fun f => if oc q3.2 x0 4 = true then rk px kx f (d + 3) 121 28 [some (.ref x0), some (.int x1), some (.int x2)] [.int (q3.2.2.1 x0 13), .int x1, .ref x0, .int q3.1] q3.2 else none) (fun f => rfl) ?_
    refine OkF.grd (fun _ => ?_)
    refine OkF.eq 1 (Y := fun f => if oc q3.2 x0 4 = true then (rk px kx f (d + 2) 51 0 [some (.ref x0), some (.int x1), some (.int (q3.2.2.1 x0 13))] [] q3.2).bind (fun q => rk px kx f (d + 3) 121 31 [some (.ref x0), some (.int x1), some (.int x2)] (q.1.toList ++ [.int q3.1]) q.2) else none) (fun f => rfl) ?_
    refine OkF.grd (fun _ => ?_)
    refine OkF.bind (w1 := wI) (om51 (d + 0) x0 x1 (q3.2.2.1 x0 13) q3.2) (fun q4 => ?_)
    refine OkF.eq 1 (Y := fun f => if q3.1 = q4.1 then rk px kx f (d + 3) 121 34 [some (.ref x0), some (.int x1), some (.int x2)] [] q4.2 else rk px kx f (d + 3) 121 38 [some (.ref x0), some (.int x1), some (.int x2)] [] q4.2) (fun f => rfl) ?_
    refine OkF.ite (fun _ => ?_) (fun _ => ?_)
    · exact OkF.ret 3 (fun f => rfl)
    · exact OkF.ret 2 (fun f => rfl)
  · exact OkF.ret 2 (fun f => rfl)
-- DoorSold.faces()I
def b120_79 (k20 : Nat → Int32 → Int32 → Int32 → Sx → Option (Int32 × Sx)) (k36 : Nat → Int32 → Int32 → Int32 → Int32 → Sx → Option (Int32 × Sx)) (x0 : Nat) (x1 : Int32) (x2 : Int32) (x3 : Int32) (x4 : Int32) (S : Sx) : Option (Int32 × Sx) :=
  k36 x0 x1 x2 x3 (x4 + (1 : Int32)) S
set_option maxRecDepth 100000 in
theorem ob120_79 (d : Nat) (k20 : Nat → Int32 → Int32 → Int32 → Sx → Option (Int32 × Sx)) (hk20 : ∀ (x0 : Nat) (x1 : Int32) (x2 : Int32) (x3 : Int32) (S : Sx), OkF wI (fun f => rk px kx f (d + 4) 120 20 [some (.ref x0), some (.int x1), some (.int x2), some (.int x3), none] [] S) (k20 x0 x1 x2 x3 S)) (k36 : Nat → Int32 → Int32 → Int32 → Int32 → Sx → Option (Int32 × Sx)) (hk36 : ∀ (x0 : Nat) (x1 : Int32) (x2 : Int32) (x3 : Int32) (x4 : Int32) (S : Sx), OkF wI (fun f => rk px kx f (d + 4) 120 36 [some (.ref x0), some (.int x1), some (.int x2), some (.int x3), some (.int x4)] [] S) (k36 x0 x1 x2 x3 x4 S)) (x0 : Nat) (x1 : Int32) (x2 : Int32) (x3 : Int32) (x4 : Int32) (S : Sx) : OkF wI (fun f => rk px kx f (d + 4) 120 79 [some (.ref x0), some (.int x1), some (.int x2), some (.int x3), some (.int x4)] [] S) (b120_79 k20 k36 x0 x1 x2 x3 x4 S) := by
  unfold b120_79
  refine OkF.eq 2 (Y := fun f => rk px kx f (d + 4) 120 36 [some (.ref x0), some (.int x1), some (.int x2), some (.int x3), some (.int (x4 + (1 : Int32)))] [] S) (fun f => rfl) ?_
  exact OkF.kl (ls1 := [some (.ref x0), some (.int x1), some (.int x2), some (.int x3), some (.int (x4 + (1 : Int32)))]) (fun f => rfl) (hk36 x0 x1 x2 x3 (x4 + (1 : Int32)) S)
def b120_76 (k20 : Nat → Int32 → Int32 → Int32 → Sx → Option (Int32 × Sx)) (k36 : Nat → Int32 → Int32 → Int32 → Int32 → Sx → Option (Int32 × Sx)) (x0 : Nat) (x1 : Int32) (x2 : Int32) (x3 : Int32) (x4 : Int32) (S : Sx) : Option (Int32 × Sx) :=
  b120_79 k20 k36 x0 (x1 + (1 : Int32)) x2 x3 x4 S
set_option maxRecDepth 100000 in
theorem ob120_76 (d : Nat) (k20 : Nat → Int32 → Int32 → Int32 → Sx → Option (Int32 × Sx)) (hk20 : ∀ (x0 : Nat) (x1 : Int32) (x2 : Int32) (x3 : Int32) (S : Sx), OkF wI (fun f => rk px kx f (d + 4) 120 20 [some (.ref x0), some (.int x1), some (.int x2), some (.int x3), none] [] S) (k20 x0 x1 x2 x3 S)) (k36 : Nat → Int32 → Int32 → Int32 → Int32 → Sx → Option (Int32 × Sx)) (hk36 : ∀ (x0 : Nat) (x1 : Int32) (x2 : Int32) (x3 : Int32) (x4 : Int32) (S : Sx), OkF wI (fun f => rk px kx f (d + 4) 120 36 [some (.ref x0), some (.int x1), some (.int x2), some (.int x3), some (.int x4)] [] S) (k36 x0 x1 x2 x3 x4 S)) (x0 : Nat) (x1 : Int32) (x2 : Int32) (x3 : Int32) (x4 : Int32) (S : Sx) : OkF wI (fun f => rk px kx f (d + 4) 120 76 [some (.ref x0), some (.int x1), some (.int x2), some (.int x3), some (.int x4)] [] S) (b120_76 k20 k36 x0 x1 x2 x3 x4 S) := by
  unfold b120_76
  refine OkF.eq 1 (Y := fun f => rk px kx f (d + 4) 120 79 [some (.ref x0), some (.int (x1 + (1 : Int32))), some (.int x2), some (.int x3), some (.int x4)] [] S) (fun f => rfl) ?_
  exact OkF.kl (ls1 := [some (.ref x0), some (.int (x1 + (1 : Int32))), some (.int x2), some (.int x3), some (.int x4)]) (fun f => rfl) (ob120_79 d k20 hk20 k36 hk36 x0 (x1 + (1 : Int32)) x2 x3 x4 S)
def b120_36 (k20 : Nat → Int32 → Int32 → Int32 → Sx → Option (Int32 × Sx)) (k36 : Nat → Int32 → Int32 → Int32 → Int32 → Sx → Option (Int32 × Sx)) (x0 : Nat) (x1 : Int32) (x2 : Int32) (x3 : Int32) (x4 : Int32) (S : Sx) : Option (Int32 × Sx) :=
  if oc S x0 11 = true then (S.2.2.2.1 x0 3).bind fun a1 => if oc S a1 4 = true then if (S.2.1 a1 9) ≤ x4 then k20 x0 x1 x2 (x3 + (1 : Int32)) S else if oc S x0 11 = true then (S.2.2.2.1 x0 3).bind fun a2 => if oc S a2 4 = true then (m121 a2 x3 x4 S).bind fun q3 => if q3.1 = 0 then b120_79 k20 k36 x0 x1 x2 x3 x4 q3.2 else if x1 = 0 then b120_76 k20 k36 x0 x1 (((10 : Int32) * x3) + x4) x3 x4 q3.2 else b120_76 k20 k36 x0 x1 x2 x3 x4 q3.2 else none else none else none else none
set_option maxRecDepth 100000 in
theorem ob120_36 (d : Nat) (k20 : Nat → Int32 → Int32 → Int32 → Sx → Option (Int32 × Sx)) (hk20 : ∀ (x0 : Nat) (x1 : Int32) (x2 : Int32) (x3 : Int32) (S : Sx), OkF wI (fun f => rk px kx f (d + 4) 120 20 [some (.ref x0), some (.int x1), some (.int x2), some (.int x3), none] [] S) (k20 x0 x1 x2 x3 S)) (k36 : Nat → Int32 → Int32 → Int32 → Int32 → Sx → Option (Int32 × Sx)) (hk36 : ∀ (x0 : Nat) (x1 : Int32) (x2 : Int32) (x3 : Int32) (x4 : Int32) (S : Sx), OkF wI (fun f => rk px kx f (d + 4) 120 36 [some (.ref x0), some (.int x1), some (.int x2), some (.int x3), some (.int x4)] [] S) (k36 x0 x1 x2 x3 x4 S)) (x0 : Nat) (x1 : Int32) (x2 : Int32) (x3 : Int32) (x4 : Int32) (S : Sx) : OkF wI (fun f => rk px kx f (d + 4) 120 36 [some (.ref x0), some (.int x1), some (.int x2), some (.int x3), some (.int x4)] [] S) (b120_36 k20 k36 x0 x1 x2 x3 x4 S) := by
  unfold b120_36
  refine OkF.eq 3 (Y := fun f => if oc S x0 11 = true then rk px kx f (d + 4) 120 42 [some (.ref x0), some (.int x1), some (.int x2), some (.int x3), some (.int x4)] (va_rf (S.2.2.2.1 x0 3) :: [.int x4]) S else none) (fun f => rfl) ?_
  refine OkF.grd (fun _ => ?_)
  refine OkF.rf (fun a1 => ?_)
  refine OkF.eq 1 (Y := fun f => if oc S a1 4 = true then rk px kx f (d + 4) 120 45 [some (.ref x0), some (.int x1), some (.int x2), some (.int x3), some (.int x4)] [.int (S.2.1 a1 9), .int x4] S else none) (fun f => rfl) ?_
  refine OkF.grd (fun _ => ?_)
  refine OkF.eq 1 (Y := fun f => if (S.2.1 a1 9) ≤ x4 then rk px kx f (d + 4) 120 85 [some (.ref x0), some (.int x1), some (.int x2), some (.int x3), some (.int x4)] [] S else rk px kx f (d + 4) 120 48 [some (.ref x0), some (.int x1), some (.int x2), some (.int x3), some (.int x4)] [] S) (fun f => rfl) ?_
  refine OkF.ite (fun _ => ?_) (fun _ => ?_)
  · refine OkF.eq 2 (Y := fun f => rk px kx f (d + 4) 120 20 [some (.ref x0), some (.int x1), some (.int x2), some (.int (x3 + (1 : Int32))), some (.int x4)] [] S) (fun f => rfl) ?_
    exact OkF.kl (ls1 := [some (.ref x0), some (.int x1), some (.int x2), some (.int (x3 + (1 : Int32))), none]) (fun f => rfl) (hk20 x0 x1 x2 (x3 + (1 : Int32)) S)
  · refine OkF.eq 2 (Y := fun f => if oc S x0 11 = true then rk px kx f (d + 4) 120 52 [some (.ref x0), some (.int x1), some (.int x2), some (.int x3), some (.int x4)] (va_rf (S.2.2.2.1 x0 3) :: []) S else none) (fun f => rfl) ?_
    refine OkF.grd (fun _ => ?_)
    refine OkF.rf (fun a2 => ?_)
    refine OkF.eq 3 (Y := fun f => if oc S a2 4 = true then (rk px kx f (d + 3) 121 0 [some (.ref a2), some (.int x3), some (.int x4)] [] S).bind (fun q => rk px kx f (d + 4) 120 58 [some (.ref x0), some (.int x1), some (.int x2), some (.int x3), some (.int x4)] (q.1.toList ++ []) q.2) else none) (fun f => rfl) ?_
    refine OkF.grd (fun _ => ?_)
    refine OkF.bind (w1 := wI) (om121 (d + 0) a2 x3 x4 S) (fun q3 => ?_)
    refine OkF.eq 1 (Y := fun f => if q3.1 = 0 then rk px kx f (d + 4) 120 61 [some (.ref x0), some (.int x1), some (.int x2), some (.int x3), some (.int x4)] [] q3.2 else rk px kx f (d + 4) 120 64 [some (.ref x0), some (.int x1), some (.int x2), some (.int x3), some (.int x4)] [] q3.2) (fun f => rfl) ?_
    refine OkF.ite (fun _ => ?_) (fun _ => ?_)
    · refine OkF.eq 1 (Y := fun f => rk px kx f (d + 4) 120 79 [some (.ref x0), some (.int x1), some (.int x2), some (.int x3), some (.int x4)] [] q3.2) (fun f => rfl) ?_
      exact OkF.kl (ls1 := [some (.ref x0), some (.int x1), some (.int x2), some (.int x3), some (.int x4)]) (fun f => rfl) (ob120_79 d k20 hk20 k36 hk36 x0 x1 x2 x3 x4 q3.2)
    · refine OkF.eq 2 (Y := fun f => if x1 = 0 then rk px kx f (d + 4) 120 68 [some (.ref x0), some (.int x1), some (.int x2), some (.int x3), some (.int x4)] [] q3.2 else rk px kx f (d + 4) 120 76 [some (.ref x0), some (.int x1), some (.int x2), some (.int x3), some (.int x4)] [] q3.2) (fun f => rfl) ?_
      refine OkF.ite (fun _ => ?_) (fun _ => ?_)
      · refine OkF.eq 6 (Y := fun f => rk px kx f (d + 4) 120 76 [some (.ref x0), some (.int x1), some (.int (((10 : Int32) * x3) + x4)), some (.int x3), some (.int x4)] [] q3.2) (fun f => rfl) ?_
        exact OkF.kl (ls1 := [some (.ref x0), some (.int x1), some (.int (((10 : Int32) * x3) + x4)), some (.int x3), some (.int x4)]) (fun f => rfl) (ob120_76 d k20 hk20 k36 hk36 x0 x1 (((10 : Int32) * x3) + x4) x3 x4 q3.2)
      · exact OkF.kl (ls1 := [some (.ref x0), some (.int x1), some (.int x2), some (.int x3), some (.int x4)]) (fun f => rfl) (ob120_76 d k20 hk20 k36 hk36 x0 x1 x2 x3 x4 q3.2)
def l120_36 (k20 : Nat → Int32 → Int32 → Int32 → Sx → Option (Int32 × Sx)) : Nat → Nat → Int32 → Int32 → Int32 → Int32 → Sx → Option (Int32 × Sx)
  | 0 => fun _ _ _ _ _ _ => none
  | n + 1 => fun x0 x1 x2 x3 x4 S => b120_36 k20 (l120_36 k20 n) x0 x1 x2 x3 x4 S
set_option maxRecDepth 100000 in
theorem ol120_36 (d : Nat) (k20 : Nat → Int32 → Int32 → Int32 → Sx → Option (Int32 × Sx)) (hk20 : ∀ (x0 : Nat) (x1 : Int32) (x2 : Int32) (x3 : Int32) (S : Sx), OkF wI (fun f => rk px kx f (d + 4) 120 20 [some (.ref x0), some (.int x1), some (.int x2), some (.int x3), none] [] S) (k20 x0 x1 x2 x3 S)) : ∀ (n : Nat) (x0 : Nat) (x1 : Int32) (x2 : Int32) (x3 : Int32) (x4 : Int32) (S : Sx), OkF wI (fun f => rk px kx f (d + 4) 120 36 [some (.ref x0), some (.int x1), some (.int x2), some (.int x3), some (.int x4)] [] S) (l120_36 k20 n x0 x1 x2 x3 x4 S) := by
  intro n
  induction n with
  | zero => intro x0 x1 x2 x3 x4 S; exact OkF.no
  | succ n ih => intro x0 x1 x2 x3 x4 S; exact ob120_36 d k20 hk20 (l120_36 k20 n) ih x0 x1 x2 x3 x4 S
def b120_20 (k20 : Nat → Int32 → Int32 → Int32 → Sx → Option (Int32 × Sx)) (x0 : Nat) (x1 : Int32) (x2 : Int32) (x3 : Int32) (S : Sx) : Option (Int32 × Sx) :=
  if oc S x0 11 = true then (S.2.2.2.1 x0 3).bind fun a4 => if oc S a4 4 = true then if (S.2.1 a4 9) ≤ x3 then if oc S x0 11 = true then lt (sI S x0 12 x2) fun S5 => some (x1, S5) else none else l120_36 k20 1000 x0 x1 x2 x3 (x3 + (1 : Int32)) S else none else none
set_option maxRecDepth 100000 in
theorem ob120_20 (d : Nat) (k20 : Nat → Int32 → Int32 → Int32 → Sx → Option (Int32 × Sx)) (hk20 : ∀ (x0 : Nat) (x1 : Int32) (x2 : Int32) (x3 : Int32) (S : Sx), OkF wI (fun f => rk px kx f (d + 4) 120 20 [some (.ref x0), some (.int x1), some (.int x2), some (.int x3), none] [] S) (k20 x0 x1 x2 x3 S)) (x0 : Nat) (x1 : Int32) (x2 : Int32) (x3 : Int32) (S : Sx) : OkF wI (fun f => rk px kx f (d + 4) 120 20 [some (.ref x0), some (.int x1), some (.int x2), some (.int x3), none] [] S) (b120_20 k20 x0 x1 x2 x3 S) := by
  unfold b120_20
  refine OkF.eq 3 (Y := fun f => if oc S x0 11 = true then rk px kx f (d + 4) 120 25 [some (.ref x0), some (.int x1), some (.int x2), some (.int x3), none] (va_rf (S.2.2.2.1 x0 3) :: [.int x3]) S else none) (fun f => rfl) ?_
  refine OkF.grd (fun _ => ?_)
  refine OkF.rf (fun a4 => ?_)
  refine OkF.eq 1 (Y := fun f => if oc S a4 4 = true then rk px kx f (d + 4) 120 28 [some (.ref x0), some (.int x1), some (.int x2), some (.int x3), none] [.int (S.2.1 a4 9), .int x3] S else none) (fun f => rfl) ?_
  refine OkF.grd (fun _ => ?_)
  refine OkF.eq 1 (Y := fun f => if (S.2.1 a4 9) ≤ x3 then rk px kx f (d + 4) 120 91 [some (.ref x0), some (.int x1), some (.int x2), some (.int x3), none] [] S else rk px kx f (d + 4) 120 31 [some (.ref x0), some (.int x1), some (.int x2), some (.int x3), none] [] S) (fun f => rfl) ?_
  refine OkF.ite (fun _ => ?_) (fun _ => ?_)
  · refine OkF.eq 3 (Y := fun f => if oc S x0 11 = true then rk px kx f (d + 4) 120 96 [some (.ref x0), some (.int x1), some (.int x2), some (.int x3), none] [] (sI S x0 12 x2) else none) (fun f => rfl) ?_
    refine OkF.grd (fun _ => ?_)
    refine OkF.nm (fun S5 => ?_)
    exact OkF.ret 2 (fun f => rfl)
  · refine OkF.eq 4 (Y := fun f => rk px kx f (d + 4) 120 36 [some (.ref x0), some (.int x1), some (.int x2), some (.int x3), some (.int (x3 + (1 : Int32)))] [] S) (fun f => rfl) ?_
    exact OkF.kl (ls1 := [some (.ref x0), some (.int x1), some (.int x2), some (.int x3), some (.int (x3 + (1 : Int32)))]) (fun f => rfl) (ol120_36 d k20 hk20 1000 x0 x1 x2 x3 (x3 + (1 : Int32)) S)
def l120_20 : Nat → Nat → Int32 → Int32 → Int32 → Sx → Option (Int32 × Sx)
  | 0 => fun _ _ _ _ _ => none
  | n + 1 => fun x0 x1 x2 x3 S => b120_20 (l120_20 n) x0 x1 x2 x3 S
set_option maxRecDepth 100000 in
theorem ol120_20 (d : Nat) : ∀ (n : Nat) (x0 : Nat) (x1 : Int32) (x2 : Int32) (x3 : Int32) (S : Sx), OkF wI (fun f => rk px kx f (d + 4) 120 20 [some (.ref x0), some (.int x1), some (.int x2), some (.int x3), none] [] S) (l120_20 n x0 x1 x2 x3 S) := by
  intro n
  induction n with
  | zero => intro x0 x1 x2 x3 S; exact OkF.no
  | succ n ih => intro x0 x1 x2 x3 S; exact ob120_20 d (l120_20 n) ih x0 x1 x2 x3 S
def m120 (x0 : Nat) (S : Sx) : Option (Int32 × Sx) :=
  if oc S x0 11 = true then (S.2.2.2.1 x0 3).bind fun a6 => if oc S a6 4 = true then if (S.2.1 a6 9) = 0 then some ((-4 : Int32), S) else l120_20 1000 x0 (0 : Int32) (-9 : Int32) (0 : Int32) S else none else none
set_option maxRecDepth 100000 in
theorem om120 (d : Nat) (x0 : Nat) (S : Sx) : OkF wI (fun f => rk px kx f (d + 4) 120 0 [some (.ref x0), none, none, none, none] [] S) (m120 x0 S) := by
  unfold m120
  refine OkF.eq 2 (Y := fun f => if oc S x0 11 = true then rk px kx f (d + 4) 120 4 [some (.ref x0), none, none, none, none] (va_rf (S.2.2.2.1 x0 3) :: []) S else none) (fun f => rfl) ?_
  refine OkF.grd (fun _ => ?_)
  refine OkF.rf (fun a6 => ?_)
  refine OkF.eq 1 (Y := fun f => if oc S a6 4 = true then rk px kx f (d + 4) 120 7 [some (.ref x0), none, none, none, none] [.int (S.2.1 a6 9)] S else none) (fun f => rfl) ?_
  refine OkF.grd (fun _ => ?_)
  refine OkF.eq 1 (Y := fun f => if (S.2.1 a6 9) = 0 then rk px kx f (d + 4) 120 10 [some (.ref x0), none, none, none, none] [] S else rk px kx f (d + 4) 120 13 [some (.ref x0), none, none, none, none] [] S) (fun f => rfl) ?_
  refine OkF.ite (fun _ => ?_) (fun _ => ?_)
  · exact OkF.ret 2 (fun f => rfl)
  · refine OkF.eq 6 (Y := fun f => rk px kx f (d + 4) 120 20 [some (.ref x0), some (.int (0 : Int32)), some (.int (-9 : Int32)), some (.int (0 : Int32)), none] [] S) (fun f => rfl) ?_
    exact OkF.kl (ls1 := [some (.ref x0), some (.int (0 : Int32)), some (.int (-9 : Int32)), some (.int (0 : Int32)), none]) (fun f => rfl) (ol120_20 d 1000 x0 (0 : Int32) (-9 : Int32) (0 : Int32) S)
-- DoorSold$Chase.findMoves(LDoorSold$Country;)V
def b124_37 (k37 : Nat → Nat → Int32 → Sx → Option (Sx)) (x0 : Nat) (x1 : Nat) (x2 : Int32) (S : Sx) : Option (Sx) :=
  if oc S x1 4 = true then if (S.2.1 x1 9) ≤ x2 then some S else if oc S x0 3 = true then (S.2.2.2.1 x0 0).bind fun a1 => if oc S x1 4 = true then if oc S x1 4 = true then (m51 x1 x2 (S.2.1 x1 13) S).bind fun q2 => if inb q2.1 (al q2.2 a1) = true then if oc q2.2 x1 4 = true then (m70 x1 x2 q2.2).bind fun q3 => if inb q2.1 (aw q3.2 1 a1) = true then lt (sI q3.2 a1 q2.1.toNatClampNeg ((q2.2.2.1 a1 q2.1.toNatClampNeg) ||| ((1 : Int32) <<< (q3.1 &&& 31)))) fun S4 => k37 x0 x1 (x2 + (1 : Int32)) S4 else none else none else none else none else none else none else none
set_option maxRecDepth 100000 in
theorem ob124_37 (d : Nat) (k37 : Nat → Nat → Int32 → Sx → Option (Sx)) (hk37 : ∀ (x0 : Nat) (x1 : Nat) (x2 : Int32) (S : Sx), OkF wV (fun f => rk px kx f (d + 3) 124 37 [some (.ref x0), some (.ref x1), some (.int x2)] [] S) (k37 x0 x1 x2 S)) (x0 : Nat) (x1 : Nat) (x2 : Int32) (S : Sx) : OkF wV (fun f => rk px kx f (d + 3) 124 37 [some (.ref x0), some (.ref x1), some (.int x2)] [] S) (b124_37 k37 x0 x1 x2 S) := by
  unfold b124_37
  refine OkF.eq 3 (Y := fun f => if oc S x1 4 = true then rk px kx f (d + 3) 124 42 [some (.ref x0), some (.ref x1), some (.int x2)] [.int (S.2.1 x1 9), .int x2] S else none) (fun f => rfl) ?_
  refine OkF.grd (fun _ => ?_)
  refine OkF.eq 1 (Y := fun f => if (S.2.1 x1 9) ≤ x2 then rk px kx f (d + 3) 124 75 [some (.ref x0), some (.ref x1), some (.int x2)] [] S else rk px kx f (d + 3) 124 45 [some (.ref x0), some (.ref x1), some (.int x2)] [] S) (fun f => rfl) ?_
  refine OkF.ite (fun _ => ?_) (fun _ => ?_)
  · exact OkF.ret 1 (fun f => rfl)
  · refine OkF.eq 2 (Y := fun f => if oc S x0 3 = true then rk px kx f (d + 3) 124 49 [some (.ref x0), some (.ref x1), some (.int x2)] (va_rf (S.2.2.2.1 x0 0) :: []) S else none) (fun f => rfl) ?_
    refine OkF.grd (fun _ => ?_)
    refine OkF.rf (fun a1 => ?_)
    refine OkF.eq 4 (Y := fun f => if oc S x1 4 = true then rk px kx f (d + 3) 124 55 [some (.ref x0), some (.ref x1), some (.int x2)] [.int (S.2.1 x1 13), .int x2, .ref x1, .ref a1] S else none) (fun f => rfl) ?_
    refine OkF.grd (fun _ => ?_)
    refine OkF.eq 1 (Y := fun f => if oc S x1 4 = true then (rk px kx f (d + 2) 51 0 [some (.ref x1), some (.int x2), some (.int (S.2.1 x1 13))] [] S).bind (fun q => rk px kx f (d + 3) 124 58 [some (.ref x0), some (.ref x1), some (.int x2)] (q.1.toList ++ [.ref a1]) q.2) else none) (fun f => rfl) ?_
    refine OkF.grd (fun _ => ?_)
    refine OkF.bind (w1 := wI) (om51 (d + 0) x1 x2 (S.2.1 x1 13) S) (fun q2 => ?_)
    refine OkF.eq 2 (Y := fun f => if inb q2.1 (al q2.2 a1) = true then rk px kx f (d + 3) 124 60 [some (.ref x0), some (.ref x1), some (.int x2)] [.int (q2.2.2.1 a1 q2.1.toNatClampNeg), .int q2.1, .ref a1] q2.2 else none) (fun f => rfl) ?_
    refine OkF.grd (fun _ => ?_)
    refine OkF.eq 4 (Y := fun f => if oc q2.2 x1 4 = true then (rk px kx f (d + 2) 70 0 [some (.ref x1), some (.int x2)] [] q2.2).bind (fun q => rk px kx f (d + 3) 124 66 [some (.ref x0), some (.ref x1), some (.int x2)] (q.1.toList ++ [.int (1 : Int32), .int (q2.2.2.1 a1 q2.1.toNatClampNeg), .int q2.1, .ref a1]) q.2) else none) (fun f => rfl) ?_
    refine OkF.grd (fun _ => ?_)
    refine OkF.bind (w1 := wI) (om70 (d + 1) x1 x2 q2.2) (fun q3 => ?_)
    refine OkF.eq 3 (Y := fun f => if inb q2.1 (aw q3.2 1 a1) = true then rk px kx f (d + 3) 124 69 [some (.ref x0), some (.ref x1), some (.int x2)] [] (sI q3.2 a1 q2.1.toNatClampNeg ((q2.2.2.1 a1 q2.1.toNatClampNeg) ||| ((1 : Int32) <<< (q3.1 &&& 31)))) else none) (fun f => rfl) ?_
    refine OkF.grd (fun _ => ?_)
    refine OkF.nm (fun S4 => ?_)
    refine OkF.eq 2 (Y := fun f => rk px kx f (d + 3) 124 37 [some (.ref x0), some (.ref x1), some (.int (x2 + (1 : Int32)))] [] S4) (fun f => rfl) ?_
    exact OkF.kl (ls1 := [some (.ref x0), some (.ref x1), some (.int (x2 + (1 : Int32)))]) (fun f => rfl) (hk37 x0 x1 (x2 + (1 : Int32)) S4)
def l124_37 : Nat → Nat → Nat → Int32 → Sx → Option (Sx)
  | 0 => fun _ _ _ _ => none
  | n + 1 => fun x0 x1 x2 S => b124_37 (l124_37 n) x0 x1 x2 S
set_option maxRecDepth 100000 in
theorem ol124_37 (d : Nat) : ∀ (n : Nat) (x0 : Nat) (x1 : Nat) (x2 : Int32) (S : Sx), OkF wV (fun f => rk px kx f (d + 3) 124 37 [some (.ref x0), some (.ref x1), some (.int x2)] [] S) (l124_37 n x0 x1 x2 S) := by
  intro n
  induction n with
  | zero => intro x0 x1 x2 S; exact OkF.no
  | succ n ih => intro x0 x1 x2 S; exact ob124_37 d (l124_37 n) ih x0 x1 x2 S
def b124_2 (k2 : Nat → Nat → Int32 → Sx → Option (Sx)) (x0 : Nat) (x1 : Nat) (x2 : Int32) (S : Sx) : Option (Sx) :=
  if oc S x1 4 = true then if (S.2.1 x1 8) ≤ x2 then l124_37 1000 x0 x1 (0 : Int32) S else if oc S x0 3 = true then (S.2.2.2.1 x0 0).bind fun a5 => if oc S x1 4 = true then (m55 x1 (x2 + (1 : Int32)) S).bind fun q6 => if inb x2 (aw q6.2 1 a5) = true then lt (sI q6.2 a5 x2.toNatClampNeg (((1 : Int32) <<< (x2 &&& 31)) ||| ((1 : Int32) <<< (q6.1 &&& 31)))) fun S7 => k2 x0 x1 (x2 + (1 : Int32)) S7 else none else none else none else none
set_option maxRecDepth 100000 in
theorem ob124_2 (d : Nat) (k2 : Nat → Nat → Int32 → Sx → Option (Sx)) (hk2 : ∀ (x0 : Nat) (x1 : Nat) (x2 : Int32) (S : Sx), OkF wV (fun f => rk px kx f (d + 3) 124 2 [some (.ref x0), some (.ref x1), some (.int x2)] [] S) (k2 x0 x1 x2 S)) (x0 : Nat) (x1 : Nat) (x2 : Int32) (S : Sx) : OkF wV (fun f => rk px kx f (d + 3) 124 2 [some (.ref x0), some (.ref x1), some (.int x2)] [] S) (b124_2 k2 x0 x1 x2 S) := by
  unfold b124_2
  refine OkF.eq 3 (Y := fun f => if oc S x1 4 = true then rk px kx f (d + 3) 124 7 [some (.ref x0), some (.ref x1), some (.int x2)] [.int (S.2.1 x1 8), .int x2] S else none) (fun f => rfl) ?_
  refine OkF.grd (fun _ => ?_)
  refine OkF.eq 1 (Y := fun f => if (S.2.1 x1 8) ≤ x2 then rk px kx f (d + 3) 124 35 [some (.ref x0), some (.ref x1), some (.int x2)] [] S else rk px kx f (d + 3) 124 10 [some (.ref x0), some (.ref x1), some (.int x2)] [] S) (fun f => rfl) ?_
  refine OkF.ite (fun _ => ?_) (fun _ => ?_)
  · refine OkF.eq 2 (Y := fun f => rk px kx f (d + 3) 124 37 [some (.ref x0), some (.ref x1), some (.int (0 : Int32))] [] S) (fun f => rfl) ?_
    exact OkF.kl (ls1 := [some (.ref x0), some (.ref x1), some (.int (0 : Int32))]) (fun f => rfl) (ol124_37 d 1000 x0 x1 (0 : Int32) S)
  · refine OkF.eq 2 (Y := fun f => if oc S x0 3 = true then rk px kx f (d + 3) 124 14 [some (.ref x0), some (.ref x1), some (.int x2)] (va_rf (S.2.2.2.1 x0 0) :: []) S else none) (fun f => rfl) ?_
    refine OkF.grd (fun _ => ?_)
    refine OkF.rf (fun a5 => ?_)
    refine OkF.eq 10 (Y := fun f => if oc S x1 4 = true then (rk px kx f (d + 2) 55 0 [some (.ref x1), some (.int (x2 + (1 : Int32)))] [] S).bind (fun q => rk px kx f (d + 3) 124 26 [some (.ref x0), some (.ref x1), some (.int x2)] (q.1.toList ++ [.int (1 : Int32), .int ((1 : Int32) <<< (x2 &&& 31)), .int x2, .ref a5]) q.2) else none) (fun f => rfl) ?_
    refine OkF.grd (fun _ => ?_)
    refine OkF.bind (w1 := wI) (om55 (d + 1) x1 (x2 + (1 : Int32)) S) (fun q6 => ?_)
    refine OkF.eq 3 (Y := fun f => if inb x2 (aw q6.2 1 a5) = true then rk px kx f (d + 3) 124 29 [some (.ref x0), some (.ref x1), some (.int x2)] [] (sI q6.2 a5 x2.toNatClampNeg (((1 : Int32) <<< (x2 &&& 31)) ||| ((1 : Int32) <<< (q6.1 &&& 31)))) else none) (fun f => rfl) ?_
    refine OkF.grd (fun _ => ?_)
    refine OkF.nm (fun S7 => ?_)
    refine OkF.eq 2 (Y := fun f => rk px kx f (d + 3) 124 2 [some (.ref x0), some (.ref x1), some (.int (x2 + (1 : Int32)))] [] S7) (fun f => rfl) ?_
    exact OkF.kl (ls1 := [some (.ref x0), some (.ref x1), some (.int (x2 + (1 : Int32)))]) (fun f => rfl) (hk2 x0 x1 (x2 + (1 : Int32)) S7)
def l124_2 : Nat → Nat → Nat → Int32 → Sx → Option (Sx)
  | 0 => fun _ _ _ _ => none
  | n + 1 => fun x0 x1 x2 S => b124_2 (l124_2 n) x0 x1 x2 S
set_option maxRecDepth 100000 in
theorem ol124_2 (d : Nat) : ∀ (n : Nat) (x0 : Nat) (x1 : Nat) (x2 : Int32) (S : Sx), OkF wV (fun f => rk px kx f (d + 3) 124 2 [some (.ref x0), some (.ref x1), some (.int x2)] [] S) (l124_2 n x0 x1 x2 S) := by
  intro n
  induction n with
  | zero => intro x0 x1 x2 S; exact OkF.no
  | succ n ih => intro x0 x1 x2 S; exact ob124_2 d (l124_2 n) ih x0 x1 x2 S
def m124 (x0 : Nat) (x1 : Nat) (S : Sx) : Option (Sx) :=
  l124_2 1000 x0 x1 (0 : Int32) S
set_option maxRecDepth 100000 in
theorem om124 (d : Nat) (x0 : Nat) (x1 : Nat) (S : Sx) : OkF wV (fun f => rk px kx f (d + 3) 124 0 [some (.ref x0), some (.ref x1), none] [] S) (m124 x0 x1 S) := by
  unfold m124
  refine OkF.eq 2 (Y := fun f => rk px kx f (d + 3) 124 2 [some (.ref x0), some (.ref x1), some (.int (0 : Int32))] [] S) (fun f => rfl) ?_
  exact OkF.kl (ls1 := [some (.ref x0), some (.ref x1), some (.int (0 : Int32))]) (fun f => rfl) (ol124_2 d 1000 x0 x1 (0 : Int32) S)
-- DoorSold$Chase.latest(LDoorSold$Country;II)I
def b126_49 (k6 : Nat → Nat → Int32 → Int32 → Int32 → Int32 → Sx → Option (Int32 × Sx)) (x0 : Nat) (x1 : Nat) (x2 : Int32) (x3 : Int32) (x4 : Int32) (x5 : Int32) (S : Sx) : Option (Int32 × Sx) :=
  k6 x0 x1 x2 x3 x4 (x5 + (1 : Int32)) S
set_option maxRecDepth 100000 in
theorem ob126_49 (d : Nat) (k6 : Nat → Nat → Int32 → Int32 → Int32 → Int32 → Sx → Option (Int32 × Sx)) (hk6 : ∀ (x0 : Nat) (x1 : Nat) (x2 : Int32) (x3 : Int32) (x4 : Int32) (x5 : Int32) (S : Sx), OkF wI (fun f => rk px kx f (d + 1) 126 6 [some (.ref x0), some (.ref x1), some (.int x2), some (.int x3), some (.int x4), some (.int x5)] [] S) (k6 x0 x1 x2 x3 x4 x5 S)) (x0 : Nat) (x1 : Nat) (x2 : Int32) (x3 : Int32) (x4 : Int32) (x5 : Int32) (S : Sx) : OkF wI (fun f => rk px kx f (d + 1) 126 49 [some (.ref x0), some (.ref x1), some (.int x2), some (.int x3), some (.int x4), some (.int x5)] [] S) (b126_49 k6 x0 x1 x2 x3 x4 x5 S) := by
  unfold b126_49
  refine OkF.eq 2 (Y := fun f => rk px kx f (d + 1) 126 6 [some (.ref x0), some (.ref x1), some (.int x2), some (.int x3), some (.int x4), some (.int (x5 + (1 : Int32)))] [] S) (fun f => rfl) ?_
  exact OkF.kl (ls1 := [some (.ref x0), some (.ref x1), some (.int x2), some (.int x3), some (.int x4), some (.int (x5 + (1 : Int32)))]) (fun f => rfl) (hk6 x0 x1 x2 x3 x4 (x5 + (1 : Int32)) S)
def b126_6 (k6 : Nat → Nat → Int32 → Int32 → Int32 → Int32 → Sx → Option (Int32 × Sx)) (x0 : Nat) (x1 : Nat) (x2 : Int32) (x3 : Int32) (x4 : Int32) (x5 : Int32) (S : Sx) : Option (Int32 × Sx) :=
  if oc S x1 4 = true then if (S.2.1 x1 8) ≤ x5 then some (x4, S) else if oc S x0 3 = true then (S.2.2.2.1 x0 0).bind fun a1 => if inb x2 (al S a1) = true then if (((S.2.1 a1 x2.toNatClampNeg) >>> (x5 &&& 31)) &&& (1 : Int32)) = (1 : Int32) then if oc S x0 3 = true then (S.2.2.2.1 x0 2).bind fun a2 => if inb (((7 : Int32) * x5) + x3) (al S a2) = true then (m12 x4 (S.2.1 a2 (((7 : Int32) * x5) + x3).toNatClampNeg) S).bind fun q3 => b126_49 k6 x0 x1 x2 x3 q3.1 x5 q3.2 else none else none else b126_49 k6 x0 x1 x2 x3 x4 x5 S else none else none else none
set_option maxRecDepth 100000 in
theorem ob126_6 (d : Nat) (k6 : Nat → Nat → Int32 → Int32 → Int32 → Int32 → Sx → Option (Int32 × Sx)) (hk6 : ∀ (x0 : Nat) (x1 : Nat) (x2 : Int32) (x3 : Int32) (x4 : Int32) (x5 : Int32) (S : Sx), OkF wI (fun f => rk px kx f (d + 1) 126 6 [some (.ref x0), some (.ref x1), some (.int x2), some (.int x3), some (.int x4), some (.int x5)] [] S) (k6 x0 x1 x2 x3 x4 x5 S)) (x0 : Nat) (x1 : Nat) (x2 : Int32) (x3 : Int32) (x4 : Int32) (x5 : Int32) (S : Sx) : OkF wI (fun f => rk px kx f (d + 1) 126 6 [some (.ref x0), some (.ref x1), some (.int x2), some (.int x3), some (.int x4), some (.int x5)] [] S) (b126_6 k6 x0 x1 x2 x3 x4 x5 S) := by
  unfold b126_6
  refine OkF.eq 3 (Y := fun f => if oc S x1 4 = true then rk px kx f (d + 1) 126 12 [some (.ref x0), some (.ref x1), some (.int x2), some (.int x3), some (.int x4), some (.int x5)] [.int (S.2.1 x1 8), .int x5] S else none) (fun f => rfl) ?_
  refine OkF.grd (fun _ => ?_)
  refine OkF.eq 1 (Y := fun f => if (S.2.1 x1 8) ≤ x5 then rk px kx f (d + 1) 126 55 [some (.ref x0), some (.ref x1), some (.int x2), some (.int x3), some (.int x4), some (.int x5)] [] S else rk px kx f (d + 1) 126 15 [some (.ref x0), some (.ref x1), some (.int x2), some (.int x3), some (.int x4), some (.int x5)] [] S) (fun f => rfl) ?_
  refine OkF.ite (fun _ => ?_) (fun _ => ?_)
  · exact OkF.ret 2 (fun f => rfl)
  · refine OkF.eq 2 (Y := fun f => if oc S x0 3 = true then rk px kx f (d + 1) 126 19 [some (.ref x0), some (.ref x1), some (.int x2), some (.int x3), some (.int x4), some (.int x5)] (va_rf (S.2.2.2.1 x0 0) :: []) S else none) (fun f => rfl) ?_
    refine OkF.grd (fun _ => ?_)
    refine OkF.rf (fun a1 => ?_)
    refine OkF.eq 2 (Y := fun f => if inb x2 (al S a1) = true then rk px kx f (d + 1) 126 21 [some (.ref x0), some (.ref x1), some (.int x2), some (.int x3), some (.int x4), some (.int x5)] [.int (S.2.1 a1 x2.toNatClampNeg)] S else none) (fun f => rfl) ?_
    refine OkF.grd (fun _ => ?_)
    refine OkF.eq 6 (Y := fun f => if (((S.2.1 a1 x2.toNatClampNeg) >>> (x5 &&& 31)) &&& (1 : Int32)) = (1 : Int32) then rk px kx f (d + 1) 126 30 [some (.ref x0), some (.ref x1), some (.int x2), some (.int x3), some (.int x4), some (.int x5)] [] S else rk px kx f (d + 1) 126 49 [some (.ref x0), some (.ref x1), some (.int x2), some (.int x3), some (.int x4), some (.int x5)] [] S) (fun f => rfl) ?_
    refine OkF.ite (fun _ => ?_) (fun _ => ?_)
    · refine OkF.eq 3 (Y := fun f => if oc S x0 3 = true then rk px kx f (d + 1) 126 36 [some (.ref x0), some (.ref x1), some (.int x2), some (.int x3), some (.int x4), some (.int x5)] (va_rf (S.2.2.2.1 x0 2) :: [.int x4]) S else none) (fun f => rfl) ?_
      refine OkF.grd (fun _ => ?_)
      refine OkF.rf (fun a2 => ?_)
      refine OkF.eq 6 (Y := fun f => if inb (((7 : Int32) * x5) + x3) (al S a2) = true then rk px kx f (d + 1) 126 44 [some (.ref x0), some (.ref x1), some (.int x2), some (.int x3), some (.int x4), some (.int x5)] [.int (S.2.1 a2 (((7 : Int32) * x5) + x3).toNatClampNeg), .int x4] S else none) (fun f => rfl) ?_
      refine OkF.grd (fun _ => ?_)
      refine OkF.eq 1 (Y := fun f => (rk px kx f (d + 0) 12 0 [some (.int x4), some (.int (S.2.1 a2 (((7 : Int32) * x5) + x3).toNatClampNeg))] [] S).bind (fun q => rk px kx f (d + 1) 126 47 [some (.ref x0), some (.ref x1), some (.int x2), some (.int x3), some (.int x4), some (.int x5)] (q.1.toList ++ []) q.2)) (fun f => rfl) ?_
      refine OkF.bind (w1 := wI) (om12 (d + 0) x4 (S.2.1 a2 (((7 : Int32) * x5) + x3).toNatClampNeg) S) (fun q3 => ?_)
      refine OkF.eq 1 (Y := fun f => rk px kx f (d + 1) 126 49 [some (.ref x0), some (.ref x1), some (.int x2), some (.int x3), some (.int q3.1), some (.int x5)] [] q3.2) (fun f => rfl) ?_
      exact OkF.kl (ls1 := [some (.ref x0), some (.ref x1), some (.int x2), some (.int x3), some (.int q3.1), some (.int x5)]) (fun f => rfl) (ob126_49 d k6 hk6 x0 x1 x2 x3 q3.1 x5 q3.2)
    · exact OkF.kl (ls1 := [some (.ref x0), some (.ref x1), some (.int x2), some (.int x3), some (.int x4), some (.int x5)]) (fun f => rfl) (ob126_49 d k6 hk6 x0 x1 x2 x3 x4 x5 S)
def l126_6 : Nat → Nat → Nat → Int32 → Int32 → Int32 → Int32 → Sx → Option (Int32 × Sx)
  | 0 => fun _ _ _ _ _ _ _ => none
  | n + 1 => fun x0 x1 x2 x3 x4 x5 S => b126_6 (l126_6 n) x0 x1 x2 x3 x4 x5 S
set_option maxRecDepth 100000 in
theorem ol126_6 (d : Nat) : ∀ (n : Nat) (x0 : Nat) (x1 : Nat) (x2 : Int32) (x3 : Int32) (x4 : Int32) (x5 : Int32) (S : Sx), OkF wI (fun f => rk px kx f (d + 1) 126 6 [some (.ref x0), some (.ref x1), some (.int x2), some (.int x3), some (.int x4), some (.int x5)] [] S) (l126_6 n x0 x1 x2 x3 x4 x5 S) := by
  intro n
  induction n with
  | zero => intro x0 x1 x2 x3 x4 x5 S; exact OkF.no
  | succ n ih => intro x0 x1 x2 x3 x4 x5 S; exact ob126_6 d (l126_6 n) ih x0 x1 x2 x3 x4 x5 S
def m126 (x0 : Nat) (x1 : Nat) (x2 : Int32) (x3 : Int32) (S : Sx) : Option (Int32 × Sx) :=
  l126_6 1000 x0 x1 x2 x3 (0 : Int32) (0 : Int32) S
set_option maxRecDepth 100000 in
theorem om126 (d : Nat) (x0 : Nat) (x1 : Nat) (x2 : Int32) (x3 : Int32) (S : Sx) : OkF wI (fun f => rk px kx f (d + 1) 126 0 [some (.ref x0), some (.ref x1), some (.int x2), some (.int x3), none, none] [] S) (m126 x0 x1 x2 x3 S) := by
  unfold m126
  refine OkF.eq 4 (Y := fun f => rk px kx f (d + 1) 126 6 [some (.ref x0), some (.ref x1), some (.int x2), some (.int x3), some (.int (0 : Int32)), some (.int (0 : Int32))] [] S) (fun f => rfl) ?_
  exact OkF.kl (ls1 := [some (.ref x0), some (.ref x1), some (.int x2), some (.int x3), some (.int (0 : Int32)), some (.int (0 : Int32))]) (fun f => rfl) (ol126_6 d 1000 x0 x1 x2 x3 (0 : Int32) (0 : Int32) S)
-- DoorSold$Chase.earliest(LDoorSold$Country;II)I
def b127_50 (k7 : Nat → Nat → Int32 → Int32 → Int32 → Int32 → Sx → Option (Int32 × Sx)) (x0 : Nat) (x1 : Nat) (x2 : Int32) (x3 : Int32) (x4 : Int32) (x5 : Int32) (S : Sx) : Option (Int32 × Sx) :=
  k7 x0 x1 x2 x3 x4 (x5 + (1 : Int32)) S
set_option maxRecDepth 100000 in
theorem ob127_50 (d : Nat) (k7 : Nat → Nat → Int32 → Int32 → Int32 → Int32 → Sx → Option (Int32 × Sx)) (hk7 : ∀ (x0 : Nat) (x1 : Nat) (x2 : Int32) (x3 : Int32) (x4 : Int32) (x5 : Int32) (S : Sx), OkF wI (fun f => rk px kx f (d + 1) 127 7 [some (.ref x0), some (.ref x1), some (.int x2), some (.int x3), some (.int x4), some (.int x5)] [] S) (k7 x0 x1 x2 x3 x4 x5 S)) (x0 : Nat) (x1 : Nat) (x2 : Int32) (x3 : Int32) (x4 : Int32) (x5 : Int32) (S : Sx) : OkF wI (fun f => rk px kx f (d + 1) 127 50 [some (.ref x0), some (.ref x1), some (.int x2), some (.int x3), some (.int x4), some (.int x5)] [] S) (b127_50 k7 x0 x1 x2 x3 x4 x5 S) := by
  unfold b127_50
  refine OkF.eq 2 (Y := fun f => rk px kx f (d + 1) 127 7 [some (.ref x0), some (.ref x1), some (.int x2), some (.int x3), some (.int x4), some (.int (x5 + (1 : Int32)))] [] S) (fun f => rfl) ?_
  exact OkF.kl (ls1 := [some (.ref x0), some (.ref x1), some (.int x2), some (.int x3), some (.int x4), some (.int (x5 + (1 : Int32)))]) (fun f => rfl) (hk7 x0 x1 x2 x3 x4 (x5 + (1 : Int32)) S)
def b127_7 (k7 : Nat → Nat → Int32 → Int32 → Int32 → Int32 → Sx → Option (Int32 × Sx)) (x0 : Nat) (x1 : Nat) (x2 : Int32) (x3 : Int32) (x4 : Int32) (x5 : Int32) (S : Sx) : Option (Int32 × Sx) :=
  if oc S x1 4 = true then if (S.2.1 x1 8) ≤ x5 then some (x4, S) else if oc S x0 3 = true then (S.2.2.2.1 x0 0).bind fun a1 => if inb x3 (al S a1) = true then if (((S.2.1 a1 x3.toNatClampNeg) >>> (x5 &&& 31)) &&& (1 : Int32)) = (1 : Int32) then if oc S x0 3 = true then (S.2.2.2.1 x0 2).bind fun a2 => if inb (((7 : Int32) * x2) + x5) (al S a2) = true then (m17 x4 (S.2.1 a2 (((7 : Int32) * x2) + x5).toNatClampNeg) S).bind fun q3 => b127_50 k7 x0 x1 x2 x3 q3.1 x5 q3.2 else none else none else b127_50 k7 x0 x1 x2 x3 x4 x5 S else none else none else none
set_option maxRecDepth 100000 in
theorem ob127_7 (d : Nat) (k7 : Nat → Nat → Int32 → Int32 → Int32 → Int32 → Sx → Option (Int32 × Sx)) (hk7 : ∀ (x0 : Nat) (x1 : Nat) (x2 : Int32) (x3 : Int32) (x4 : Int32) (x5 : Int32) (S : Sx), OkF wI (fun f => rk px kx f (d + 1) 127 7 [some (.ref x0), some (.ref x1), some (.int x2), some (.int x3), some (.int x4), some (.int x5)] [] S) (k7 x0 x1 x2 x3 x4 x5 S)) (x0 : Nat) (x1 : Nat) (x2 : Int32) (x3 : Int32) (x4 : Int32) (x5 : Int32) (S : Sx) : OkF wI (fun f => rk px kx f (d + 1) 127 7 [some (.ref x0), some (.ref x1), some (.int x2), some (.int x3), some (.int x4), some (.int x5)] [] S) (b127_7 k7 x0 x1 x2 x3 x4 x5 S) := by
  unfold b127_7
  refine OkF.eq 3 (Y := fun f => if oc S x1 4 = true then rk px kx f (d + 1) 127 13 [some (.ref x0), some (.ref x1), some (.int x2), some (.int x3), some (.int x4), some (.int x5)] [.int (S.2.1 x1 8), .int x5] S else none) (fun f => rfl) ?_
  refine OkF.grd (fun _ => ?_)
  refine OkF.eq 1 (Y := fun f => if (S.2.1 x1 8) ≤ x5 then rk px kx f (d + 1) 127 56 [some (.ref x0), some (.ref x1), some (.int x2), some (.int x3), some (.int x4), some (.int x5)] [] S else rk px kx f (d + 1) 127 16 [some (.ref x0), some (.ref x1), some (.int x2), some (.int x3), some (.int x4), some (.int x5)] [] S) (fun f => rfl) ?_
  refine OkF.ite (fun _ => ?_) (fun _ => ?_)
  · exact OkF.ret 2 (fun f => rfl)
  · refine OkF.eq 2 (Y := fun f => if oc S x0 3 = true then rk px kx f (d + 1) 127 20 [some (.ref x0), some (.ref x1), some (.int x2), some (.int x3), some (.int x4), some (.int x5)] (va_rf (S.2.2.2.1 x0 0) :: []) S else none) (fun f => rfl) ?_
    refine OkF.grd (fun _ => ?_)
    refine OkF.rf (fun a1 => ?_)
    refine OkF.eq 2 (Y := fun f => if inb x3 (al S a1) = true then rk px kx f (d + 1) 127 22 [some (.ref x0), some (.ref x1), some (.int x2), some (.int x3), some (.int x4), some (.int x5)] [.int (S.2.1 a1 x3.toNatClampNeg)] S else none) (fun f => rfl) ?_
    refine OkF.grd (fun _ => ?_)
    refine OkF.eq 6 (Y := fun f => if (((S.2.1 a1 x3.toNatClampNeg) >>> (x5 &&& 31)) &&& (1 : Int32)) = (1 : Int32) then rk px kx f (d + 1) 127 31 [some (.ref x0), some (.ref x1), some (.int x2), some (.int x3), some (.int x4), some (.int x5)] [] S else rk px kx f (d + 1) 127 50 [some (.ref x0), some (.ref x1), some (.int x2), some (.int x3), some (.int x4), some (.int x5)] [] S) (fun f => rfl) ?_
    refine OkF.ite (fun _ => ?_) (fun _ => ?_)
    · refine OkF.eq 3 (Y := fun f => if oc S x0 3 = true then rk px kx f (d + 1) 127 37 [some (.ref x0), some (.ref x1), some (.int x2), some (.int x3), some (.int x4), some (.int x5)] (va_rf (S.2.2.2.1 x0 2) :: [.int x4]) S else none) (fun f => rfl) ?_
      refine OkF.grd (fun _ => ?_)
      refine OkF.rf (fun a2 => ?_)
      refine OkF.eq 6 (Y := fun f => if inb (((7 : Int32) * x2) + x5) (al S a2) = true then rk px kx f (d + 1) 127 45 [some (.ref x0), some (.ref x1), some (.int x2), some (.int x3), some (.int x4), some (.int x5)] [.int (S.2.1 a2 (((7 : Int32) * x2) + x5).toNatClampNeg), .int x4] S else none) (fun f => rfl) ?_
      refine OkF.grd (fun _ => ?_)
      refine OkF.eq 1 (Y := fun f => (rk px kx f (d + 0) 17 0 [some (.int x4), some (.int (S.2.1 a2 (((7 : Int32) * x2) + x5).toNatClampNeg))] [] S).bind (fun q => rk px kx f (d + 1) 127 48 [some (.ref x0), some (.ref x1), some (.int x2), some (.int x3), some (.int x4), some (.int x5)] (q.1.toList ++ []) q.2)) (fun f => rfl) ?_
      refine OkF.bind (w1 := wI) (om17 (d + 0) x4 (S.2.1 a2 (((7 : Int32) * x2) + x5).toNatClampNeg) S) (fun q3 => ?_)
      refine OkF.eq 1 (Y := fun f => rk px kx f (d + 1) 127 50 [some (.ref x0), some (.ref x1), some (.int x2), some (.int x3), some (.int q3.1), some (.int x5)] [] q3.2) (fun f => rfl) ?_
      exact OkF.kl (ls1 := [some (.ref x0), some (.ref x1), some (.int x2), some (.int x3), some (.int q3.1), some (.int x5)]) (fun f => rfl) (ob127_50 d k7 hk7 x0 x1 x2 x3 q3.1 x5 q3.2)
    · exact OkF.kl (ls1 := [some (.ref x0), some (.ref x1), some (.int x2), some (.int x3), some (.int x4), some (.int x5)]) (fun f => rfl) (ob127_50 d k7 hk7 x0 x1 x2 x3 x4 x5 S)
def l127_7 : Nat → Nat → Nat → Int32 → Int32 → Int32 → Int32 → Sx → Option (Int32 × Sx)
  | 0 => fun _ _ _ _ _ _ _ => none
  | n + 1 => fun x0 x1 x2 x3 x4 x5 S => b127_7 (l127_7 n) x0 x1 x2 x3 x4 x5 S
set_option maxRecDepth 100000 in
theorem ol127_7 (d : Nat) : ∀ (n : Nat) (x0 : Nat) (x1 : Nat) (x2 : Int32) (x3 : Int32) (x4 : Int32) (x5 : Int32) (S : Sx), OkF wI (fun f => rk px kx f (d + 1) 127 7 [some (.ref x0), some (.ref x1), some (.int x2), some (.int x3), some (.int x4), some (.int x5)] [] S) (l127_7 n x0 x1 x2 x3 x4 x5 S) := by
  intro n
  induction n with
  | zero => intro x0 x1 x2 x3 x4 x5 S; exact OkF.no
  | succ n ih => intro x0 x1 x2 x3 x4 x5 S; exact ob127_7 d (l127_7 n) ih x0 x1 x2 x3 x4 x5 S
def m127 (x0 : Nat) (x1 : Nat) (x2 : Int32) (x3 : Int32) (S : Sx) : Option (Int32 × Sx) :=
  l127_7 1000 x0 x1 x2 x3 (99 : Int32) (0 : Int32) S
set_option maxRecDepth 100000 in
theorem om127 (d : Nat) (x0 : Nat) (x1 : Nat) (x2 : Int32) (x3 : Int32) (S : Sx) : OkF wI (fun f => rk px kx f (d + 1) 127 0 [some (.ref x0), some (.ref x1), some (.int x2), some (.int x3), none, none] [] S) (m127 x0 x1 x2 x3 S) := by
  unfold m127
  refine OkF.eq 4 (Y := fun f => rk px kx f (d + 1) 127 7 [some (.ref x0), some (.ref x1), some (.int x2), some (.int x3), some (.int (99 : Int32)), some (.int (0 : Int32))] [] S) (fun f => rfl) ?_
  exact OkF.kl (ls1 := [some (.ref x0), some (.ref x1), some (.int x2), some (.int x3), some (.int (99 : Int32)), some (.int (0 : Int32))]) (fun f => rfl) (ol127_7 d 1000 x0 x1 x2 x3 (99 : Int32) (0 : Int32) S)
-- DoorSold$Chase.weighTurn(LDoorSold$Country;Z)V
def b125_77 (k2 : Nat → Nat → Int32 → Int32 → Sx → Option (Sx)) (k13 : Nat → Nat → Int32 → Int32 → Int32 → Sx → Option (Sx)) (x0 : Nat) (x1 : Nat) (x2 : Int32) (x3 : Int32) (x4 : Int32) (S : Sx) : Option (Sx) :=
  k13 x0 x1 x2 x3 (x4 + (1 : Int32)) S
set_option maxRecDepth 100000 in
theorem ob125_77 (d : Nat) (k2 : Nat → Nat → Int32 → Int32 → Sx → Option (Sx)) (hk2 : ∀ (x0 : Nat) (x1 : Nat) (x2 : Int32) (x3 : Int32) (S : Sx), OkF wV (fun f => rk px kx f (d + 2) 125 2 [some (.ref x0), some (.ref x1), some (.int x2), some (.int x3), none, none] [] S) (k2 x0 x1 x2 x3 S)) (k13 : Nat → Nat → Int32 → Int32 → Int32 → Sx → Option (Sx)) (hk13 : ∀ (x0 : Nat) (x1 : Nat) (x2 : Int32) (x3 : Int32) (x4 : Int32) (S : Sx), OkF wV (fun f => rk px kx f (d + 2) 125 13 [some (.ref x0), some (.ref x1), some (.int x2), some (.int x3), some (.int x4), none] [] S) (k13 x0 x1 x2 x3 x4 S)) (x0 : Nat) (x1 : Nat) (x2 : Int32) (x3 : Int32) (x4 : Int32) (S : Sx) : OkF wV (fun f => rk px kx f (d + 2) 125 77 [some (.ref x0), some (.ref x1), some (.int x2), some (.int x3), some (.int x4), none] [] S) (b125_77 k2 k13 x0 x1 x2 x3 x4 S) := by
  unfold b125_77
  refine OkF.eq 2 (Y := fun f => rk px kx f (d + 2) 125 13 [some (.ref x0), some (.ref x1), some (.int x2), some (.int x3), some (.int (x4 + (1 : Int32))), none] [] S) (fun f => rfl) ?_
  exact OkF.kl (ls1 := [some (.ref x0), some (.ref x1), some (.int x2), some (.int x3), some (.int (x4 + (1 : Int32))), none]) (fun f => rfl) (hk13 x0 x1 x2 x3 (x4 + (1 : Int32)) S)
def b125_55 (k2 : Nat → Nat → Int32 → Int32 → Sx → Option (Sx)) (k13 : Nat → Nat → Int32 → Int32 → Int32 → Sx → Option (Sx)) (x0 : Nat) (x1 : Nat) (x2 : Int32) (x3 : Int32) (x4 : Int32) (s0 : Int32) (s1 : Int32) (S : Sx) : Option (Sx) :=
  if oc S x0 3 = true then (S.2.2.2.1 x0 1).bind fun a1 => (m17 (99 : Int32) (s0 + s1) S).bind fun q2 => if inb (((7 : Int32) * x3) + x4) (aw q2.2 1 a1) = true then lt (sI q2.2 a1 (((7 : Int32) * x3) + x4).toNatClampNeg q2.1) fun S3 => b125_77 k2 k13 x0 x1 x2 x3 x4 S3 else none else none
set_option maxRecDepth 100000 in
theorem ob125_55 (d : Nat) (k2 : Nat → Nat → Int32 → Int32 → Sx → Option (Sx)) (hk2 : ∀ (x0 : Nat) (x1 : Nat) (x2 : Int32) (x3 : Int32) (S : Sx), OkF wV (fun f => rk px kx f (d + 2) 125 2 [some (.ref x0), some (.ref x1), some (.int x2), some (.int x3), none, none] [] S) (k2 x0 x1 x2 x3 S)) (k13 : Nat → Nat → Int32 → Int32 → Int32 → Sx → Option (Sx)) (hk13 : ∀ (x0 : Nat) (x1 : Nat) (x2 : Int32) (x3 : Int32) (x4 : Int32) (S : Sx), OkF wV (fun f => rk px kx f (d + 2) 125 13 [some (.ref x0), some (.ref x1), some (.int x2), some (.int x3), some (.int x4), none] [] S) (k13 x0 x1 x2 x3 x4 S)) (x0 : Nat) (x1 : Nat) (x2 : Int32) (x3 : Int32) (x4 : Int32) (s0 : Int32) (s1 : Int32) (S : Sx) : OkF wV (fun f => rk px kx f (d + 2) 125 55 [some (.ref x0), some (.ref x1), some (.int x2), some (.int x3), some (.int x4), none] [.int s1, .int s0] S) (b125_55 k2 k13 x0 x1 x2 x3 x4 s0 s1 S) := by
  unfold b125_55
  refine OkF.eq 4 (Y := fun f => if oc S x0 3 = true then rk px kx f (d + 2) 125 62 [some (.ref x0), some (.ref x1), some (.int x2), some (.int x3), some (.int x4), some (.int (s0 + s1))] (va_rf (S.2.2.2.1 x0 1) :: []) S else none) (fun f => rfl) ?_
  refine OkF.grd (fun _ => ?_)
  refine OkF.rf (fun a1 => ?_)
  refine OkF.eq 8 (Y := fun f => (rk px kx f (d + 1) 17 0 [some (.int (99 : Int32)), some (.int (s0 + s1))] [] S).bind (fun q => rk px kx f (d + 2) 125 76 [some (.ref x0), some (.ref x1), some (.int x2), some (.int x3), some (.int x4), some (.int (s0 + s1))] (q.1.toList ++ [.int (((7 : Int32) * x3) + x4), .ref a1]) q.2)) (fun f => rfl) ?_
  refine OkF.bind (w1 := wI) (om17 (d + 1) (99 : Int32) (s0 + s1) S) (fun q2 => ?_)
  refine OkF.eq 1 (Y := fun f => if inb (((7 : Int32) * x3) + x4) (aw q2.2 1 a1) = true then rk px kx f (d + 2) 125 77 [some (.ref x0), some (.ref x1), some (.int x2), some (.int x3), some (.int x4), some (.int (s0 + s1))] [] (sI q2.2 a1 (((7 : Int32) * x3) + x4).toNatClampNeg q2.1) else none) (fun f => rfl) ?_
  refine OkF.grd (fun _ => ?_)
  refine OkF.nm (fun S3 => ?_)
  exact OkF.kl (ls1 := [some (.ref x0), some (.ref x1), some (.int x2), some (.int x3), some (.int x4), none]) (fun f => rfl) (ob125_77 d k2 hk2 k13 hk13 x0 x1 x2 x3 x4 S3)
def b125_13 (k2 : Nat → Nat → Int32 → Int32 → Sx → Option (Sx)) (k13 : Nat → Nat → Int32 → Int32 → Int32 → Sx → Option (Sx)) (x0 : Nat) (x1 : Nat) (x2 : Int32) (x3 : Int32) (x4 : Int32) (S : Sx) : Option (Sx) :=
  if oc S x1 4 = true then if (S.2.1 x1 8) ≤ x4 then k2 x0 x1 x2 (x3 + (1 : Int32)) S else if x3 = x4 then b125_77 k2 k13 x0 x1 x2 x3 x4 S else if x2 = 0 then if oc S x0 3 = true then (m127 x0 x1 x3 x4 S).bind fun q4 => b125_55 k2 k13 x0 x1 x2 x3 x4 (1 : Int32) q4.1 q4.2 else none else if oc S x0 3 = true then (m126 x0 x1 x3 x4 S).bind fun q5 => b125_55 k2 k13 x0 x1 x2 x3 x4 (1 : Int32) q5.1 q5.2 else none else none
set_option maxRecDepth 100000 in
theorem ob125_13 (d : Nat) (k2 : Nat → Nat → Int32 → Int32 → Sx → Option (Sx)) (hk2 : ∀ (x0 : Nat) (x1 : Nat) (x2 : Int32) (x3 : Int32) (S : Sx), OkF wV (fun f => rk px kx f (d + 2) 125 2 [some (.ref x0), some (.ref x1), some (.int x2), some (.int x3), none, none] [] S) (k2 x0 x1 x2 x3 S)) (k13 : Nat → Nat → Int32 → Int32 → Int32 → Sx → Option (Sx)) (hk13 : ∀ (x0 : Nat) (x1 : Nat) (x2 : Int32) (x3 : Int32) (x4 : Int32) (S : Sx), OkF wV (fun f => rk px kx f (d + 2) 125 13 [some (.ref x0), some (.ref x1), some (.int x2), some (.int x3), some (.int x4), none] [] S) (k13 x0 x1 x2 x3 x4 S)) (x0 : Nat) (x1 : Nat) (x2 : Int32) (x3 : Int32) (x4 : Int32) (S : Sx) : OkF wV (fun f => rk px kx f (d + 2) 125 13 [some (.ref x0), some (.ref x1), some (.int x2), some (.int x3), some (.int x4), none] [] S) (b125_13 k2 k13 x0 x1 x2 x3 x4 S) := by
  unfold b125_13
  refine OkF.eq 3 (Y := fun f => if oc S x1 4 = true then rk px kx f (d + 2) 125 19 [some (.ref x0), some (.ref x1), some (.int x2), some (.int x3), some (.int x4), none] [.int (S.2.1 x1 8), .int x4] S else none) (fun f => rfl) ?_
  refine OkF.grd (fun _ => ?_)
  refine OkF.eq 1 (Y := fun f => if (S.2.1 x1 8) ≤ x4 then rk px kx f (d + 2) 125 83 [some (.ref x0), some (.ref x1), some (.int x2), some (.int x3), some (.int x4), none] [] S else rk px kx f (d + 2) 125 22 [some (.ref x0), some (.ref x1), some (.int x2), some (.int x3), some (.int x4), none] [] S) (fun f => rfl) ?_
  refine OkF.ite (fun _ => ?_) (fun _ => ?_)
  · refine OkF.eq 2 (Y := fun f => rk px kx f (d + 2) 125 2 [some (.ref x0), some (.ref x1), some (.int x2), some (.int (x3 + (1 : Int32))), some (.int x4), none] [] S) (fun f => rfl) ?_
    exact OkF.kl (ls1 := [some (.ref x0), some (.ref x1), some (.int x2), some (.int (x3 + (1 : Int32))), none, none]) (fun f => rfl) (hk2 x0 x1 x2 (x3 + (1 : Int32)) S)
  · refine OkF.eq 3 (Y := fun f => if x3 = x4 then rk px kx f (d + 2) 125 28 [some (.ref x0), some (.ref x1), some (.int x2), some (.int x3), some (.int x4), none] [] S else rk px kx f (d + 2) 125 31 [some (.ref x0), some (.ref x1), some (.int x2), some (.int x3), some (.int x4), none] [] S) (fun f => rfl) ?_
    refine OkF.ite (fun _ => ?_) (fun _ => ?_)
    · refine OkF.eq 1 (Y := fun f => rk px kx f (d + 2) 125 77 [some (.ref x0), some (.ref x1), some (.int x2), some (.int x3), some (.int x4), none] [] S) (fun f => rfl) ?_
      exact OkF.kl (ls1 := [some (.ref x0), some (.ref x1), some (.int x2), some (.int x3), some (.int x4), none]) (fun f => rfl) (ob125_77 d k2 hk2 k13 hk13 x0 x1 x2 x3 x4 S)
    · refine OkF.eq 3 (Y := fun f => if x2 = 0 then rk px kx f (d + 2) 125 47 [some (.ref x0), some (.ref x1), some (.int x2), some (.int x3), some (.int x4), none] [.int (1 : Int32)] S else rk px kx f (d + 2) 125 36 [some (.ref x0), some (.ref x1), some (.int x2), some (.int x3), some (.int x4), none] [.int (1 : Int32)] S) (fun f => rfl) ?_
      refine OkF.ite (fun _ => ?_) (fun _ => ?_)
      · refine OkF.eq 5 (Y := fun f => if oc S x0 3 = true then (rk px kx f (d + 1) 127 0 [some (.ref x0), some (.ref x1), some (.int x3), some (.int x4), none, none] [] S).bind (fun q => rk px kx f (d + 2) 125 55 [some (.ref x0), some (.ref x1), some (.int x2), some (.int x3), some (.int x4), none] (q.1.toList ++ [.int (1 : Int32)]) q.2) else none) (fun f => rfl) ?_
        refine OkF.grd (fun _ => ?_)
        refine OkF.bind (w1 := wI) (om127 (d + 0) x0 x1 x3 x4 S) (fun q4 => ?_)
        exact OkF.kl (ls1 := [some (.ref x0), some (.ref x1), some (.int x2), some (.int x3), some (.int x4), none]) (fun f => rfl) (ob125_55 d k2 hk2 k13 hk13 x0 x1 x2 x3 x4 (1 : Int32) q4.1 q4.2)
      · refine OkF.eq 5 (Y := fun f => if oc S x0 3 = true then (rk px kx f (d + 1) 126 0 [some (.ref x0), some (.ref x1), some (.int x3), some (.int x4), none, none] [] S).bind (fun q => rk px kx f (d + 2) 125 44 [some (.ref x0), some (.ref x1), some (.int x2), some (.int x3), some (.int x4), none] (q.1.toList ++ [.int (1 : Int32)]) q.2) else none) (fun f => rfl) ?_
        refine OkF.grd (fun _ => ?_)
        refine OkF.bind (w1 := wI) (om126 (d + 0) x0 x1 x3 x4 S) (fun q5 => ?_)
        refine OkF.eq 1 (Y := fun f => rk px kx f (d + 2) 125 55 [some (.ref x0), some (.ref x1), some (.int x2), some (.int x3), some (.int x4), none] [.int q5.1, .int (1 : Int32)] q5.2) (fun f => rfl) ?_
        exact OkF.kl (ls1 := [some (.ref x0), some (.ref x1), some (.int x2), some (.int x3), some (.int x4), none]) (fun f => rfl) (ob125_55 d k2 hk2 k13 hk13 x0 x1 x2 x3 x4 (1 : Int32) q5.1 q5.2)
def l125_13 (k2 : Nat → Nat → Int32 → Int32 → Sx → Option (Sx)) : Nat → Nat → Nat → Int32 → Int32 → Int32 → Sx → Option (Sx)
  | 0 => fun _ _ _ _ _ _ => none
  | n + 1 => fun x0 x1 x2 x3 x4 S => b125_13 k2 (l125_13 k2 n) x0 x1 x2 x3 x4 S
set_option maxRecDepth 100000 in
theorem ol125_13 (d : Nat) (k2 : Nat → Nat → Int32 → Int32 → Sx → Option (Sx)) (hk2 : ∀ (x0 : Nat) (x1 : Nat) (x2 : Int32) (x3 : Int32) (S : Sx), OkF wV (fun f => rk px kx f (d + 2) 125 2 [some (.ref x0), some (.ref x1), some (.int x2), some (.int x3), none, none] [] S) (k2 x0 x1 x2 x3 S)) : ∀ (n : Nat) (x0 : Nat) (x1 : Nat) (x2 : Int32) (x3 : Int32) (x4 : Int32) (S : Sx), OkF wV (fun f => rk px kx f (d + 2) 125 13 [some (.ref x0), some (.ref x1), some (.int x2), some (.int x3), some (.int x4), none] [] S) (l125_13 k2 n x0 x1 x2 x3 x4 S) := by
  intro n
  induction n with
  | zero => intro x0 x1 x2 x3 x4 S; exact OkF.no
  | succ n ih => intro x0 x1 x2 x3 x4 S; exact ob125_13 d k2 hk2 (l125_13 k2 n) ih x0 x1 x2 x3 x4 S
def b125_2 (k2 : Nat → Nat → Int32 → Int32 → Sx → Option (Sx)) (x0 : Nat) (x1 : Nat) (x2 : Int32) (x3 : Int32) (S : Sx) : Option (Sx) :=
  if oc S x1 4 = true then if (S.2.1 x1 8) ≤ x3 then some S else l125_13 k2 1000 x0 x1 x2 x3 (0 : Int32) S else none
set_option maxRecDepth 100000 in
theorem ob125_2 (d : Nat) (k2 : Nat → Nat → Int32 → Int32 → Sx → Option (Sx)) (hk2 : ∀ (x0 : Nat) (x1 : Nat) (x2 : Int32) (x3 : Int32) (S : Sx), OkF wV (fun f => rk px kx f (d + 2) 125 2 [some (.ref x0), some (.ref x1), some (.int x2), some (.int x3), none, none] [] S) (k2 x0 x1 x2 x3 S)) (x0 : Nat) (x1 : Nat) (x2 : Int32) (x3 : Int32) (S : Sx) : OkF wV (fun f => rk px kx f (d + 2) 125 2 [some (.ref x0), some (.ref x1), some (.int x2), some (.int x3), none, none] [] S) (b125_2 k2 x0 x1 x2 x3 S) := by
  unfold b125_2
  refine OkF.eq 3 (Y := fun f => if oc S x1 4 = true then rk px kx f (d + 2) 125 7 [some (.ref x0), some (.ref x1), some (.int x2), some (.int x3), none, none] [.int (S.2.1 x1 8), .int x3] S else none) (fun f => rfl) ?_
  refine OkF.grd (fun _ => ?_)
  refine OkF.eq 1 (Y := fun f => if (S.2.1 x1 8) ≤ x3 then rk px kx f (d + 2) 125 89 [some (.ref x0), some (.ref x1), some (.int x2), some (.int x3), none, none] [] S else rk px kx f (d + 2) 125 10 [some (.ref x0), some (.ref x1), some (.int x2), some (.int x3), none, none] [] S) (fun f => rfl) ?_
  refine OkF.ite (fun _ => ?_) (fun _ => ?_)
  · exact OkF.ret 1 (fun f => rfl)
  · refine OkF.eq 2 (Y := fun f => rk px kx f (d + 2) 125 13 [some (.ref x0), some (.ref x1), some (.int x2), some (.int x3), some (.int (0 : Int32)), none] [] S) (fun f => rfl) ?_
    exact OkF.kl (ls1 := [some (.ref x0), some (.ref x1), some (.int x2), some (.int x3), some (.int (0 : Int32)), none]) (fun f => rfl) (ol125_13 d k2 hk2 1000 x0 x1 x2 x3 (0 : Int32) S)
def l125_2 : Nat → Nat → Nat → Int32 → Int32 → Sx → Option (Sx)
  | 0 => fun _ _ _ _ _ => none
  | n + 1 => fun x0 x1 x2 x3 S => b125_2 (l125_2 n) x0 x1 x2 x3 S
set_option maxRecDepth 100000 in
theorem ol125_2 (d : Nat) : ∀ (n : Nat) (x0 : Nat) (x1 : Nat) (x2 : Int32) (x3 : Int32) (S : Sx), OkF wV (fun f => rk px kx f (d + 2) 125 2 [some (.ref x0), some (.ref x1), some (.int x2), some (.int x3), none, none] [] S) (l125_2 n x0 x1 x2 x3 S) := by
  intro n
  induction n with
  | zero => intro x0 x1 x2 x3 S; exact OkF.no
  | succ n ih => intro x0 x1 x2 x3 S; exact ob125_2 d (l125_2 n) ih x0 x1 x2 x3 S
def m125 (x0 : Nat) (x1 : Nat) (x2 : Int32) (S : Sx) : Option (Sx) :=
  l125_2 1000 x0 x1 x2 (0 : Int32) S
set_option maxRecDepth 100000 in
theorem om125 (d : Nat) (x0 : Nat) (x1 : Nat) (x2 : Int32) (S : Sx) : OkF wV (fun f => rk px kx f (d + 2) 125 0 [some (.ref x0), some (.ref x1), some (.int x2), none, none, none] [] S) (m125 x0 x1 x2 S) := by
  unfold m125
  refine OkF.eq 2 (Y := fun f => rk px kx f (d + 2) 125 2 [some (.ref x0), some (.ref x1), some (.int x2), some (.int (0 : Int32)), none, none] [] S) (fun f => rfl) ?_
  exact OkF.kl (ls1 := [some (.ref x0), some (.ref x1), some (.int x2), some (.int (0 : Int32)), none, none]) (fun f => rfl) (ol125_2 d 1000 x0 x1 x2 (0 : Int32) S)
-- DoorSold$Chase.turnsTillHad(LDoorSold$Country;III)I
def b123_54 (k8 : Nat → Nat → Int32 → Int32 → Int32 → Int32 → Sx → Option (Int32 × Sx)) (k20 : Nat → Nat → Int32 → Int32 → Int32 → Int32 → Int32 → Sx → Option (Int32 × Sx)) (x0 : Nat) (x1 : Nat) (x2 : Int32) (x3 : Int32) (x4 : Int32) (x5 : Int32) (x6 : Int32) (s0 : Nat) (s1 : Int32) (s2 : Int32) (S : Sx) : Option (Int32 × Sx) :=
  if inb s1 (aw S 1 s0) = true then lt (sI S s0 s1.toNatClampNeg s2) fun S1 => k20 x0 x1 x2 x3 x4 x5 (x6 + (1 : Int32)) S1 else none
set_option maxRecDepth 100000 in
theorem ob123_54 (d : Nat) (k8 : Nat → Nat → Int32 → Int32 → Int32 → Int32 → Sx → Option (Int32 × Sx)) (hk8 : ∀ (x0 : Nat) (x1 : Nat) (x2 : Int32) (x3 : Int32) (x4 : Int32) (x5 : Int32) (S : Sx), OkF wI (fun f => rk px kx f (d + 4) 123 8 [some (.ref x0), some (.ref x1), some (.int x2), some (.int x3), some (.int x4), some (.int x5), none] [] S) (k8 x0 x1 x2 x3 x4 x5 S)) (k20 : Nat → Nat → Int32 → Int32 → Int32 → Int32 → Int32 → Sx → Option (Int32 × Sx)) (hk20 : ∀ (x0 : Nat) (x1 : Nat) (x2 : Int32) (x3 : Int32) (x4 : Int32) (x5 : Int32) (x6 : Int32) (S : Sx), OkF wI (fun f => rk px kx f (d + 4) 123 20 [some (.ref x0), some (.ref x1), some (.int x2), some (.int x3), some (.int x4), some (.int x5), some (.int x6)] [] S) (k20 x0 x1 x2 x3 x4 x5 x6 S)) (x0 : Nat) (x1 : Nat) (x2 : Int32) (x3 : Int32) (x4 : Int32) (x5 : Int32) (x6 : Int32) (s0 : Nat) (s1 : Int32) (s2 : Int32) (S : Sx) : OkF wI (fun f => rk px kx f (d + 4) 123 54 [some (.ref x0), some (.ref x1), some (.int x2), some (.int x3), some (.int x4), some (.int x5), some (.int x6)] [.int s2, .int s1, .ref s0] S) (b123_54 k8 k20 x0 x1 x2 x3 x4 x5 x6 s0 s1 s2 S) := by
  unfold b123_54
  refine OkF.eq 1 (Y := fun f => if inb s1 (aw S 1 s0) = true then rk px kx f (d + 4) 123 55 [some (.ref x0), some (.ref x1), some (.int x2), some (.int x3), some (.int x4), some (.int x5), some (.int x6)] [] (sI S s0 s1.toNatClampNeg s2) else none) (fun f => rfl) ?_
  refine OkF.grd (fun _ => ?_)
  refine OkF.nm (fun S1 => ?_)
  refine OkF.eq 2 (Y := fun f => rk px kx f (d + 4) 123 20 [some (.ref x0), some (.ref x1), some (.int x2), some (.int x3), some (.int x4), some (.int x5), some (.int (x6 + (1 : Int32)))] [] S1) (fun f => rfl) ?_
  exact OkF.kl (ls1 := [some (.ref x0), some (.ref x1), some (.int x2), some (.int x3), some (.int x4), some (.int x5), some (.int (x6 + (1 : Int32)))]) (fun f => rfl) (hk20 x0 x1 x2 x3 x4 x5 (x6 + (1 : Int32)) S1)
def b123_20 (k8 : Nat → Nat → Int32 → Int32 → Int32 → Int32 → Sx → Option (Int32 × Sx)) (k20 : Nat → Nat → Int32 → Int32 → Int32 → Int32 → Int32 → Sx → Option (Int32 × Sx)) (x0 : Nat) (x1 : Nat) (x2 : Int32) (x3 : Int32) (x4 : Int32) (x5 : Int32) (x6 : Int32) (S : Sx) : Option (Int32 × Sx) :=
  if oc S x1 4 = true then if (S.2.1 x1 8) ≤ x6 then k8 x0 x1 x2 x3 x4 (x5 + (1 : Int32)) S else if oc S x0 3 = true then (S.2.2.2.1 x0 1).bind fun a2 => if x5 = x6 then b123_54 k8 k20 x0 x1 x2 x3 x4 x5 x6 a2 (((7 : Int32) * x5) + x6) (0 : Int32) S else b123_54 k8 k20 x0 x1 x2 x3 x4 x5 x6 a2 (((7 : Int32) * x5) + x6) (99 : Int32) S else none else none
set_option maxRecDepth 100000 in
theorem ob123_20 (d : Nat) (k8 : Nat → Nat → Int32 → Int32 → Int32 → Int32 → Sx → Option (Int32 × Sx)) (hk8 : ∀ (x0 : Nat) (x1 : Nat) (x2 : Int32) (x3 : Int32) (x4 : Int32) (x5 : Int32) (S : Sx), OkF wI (fun f => rk px kx f (d + 4) 123 8 [some (.ref x0), some (.ref x1), some (.int x2), some (.int x3), some (.int x4), some (.int x5), none] [] S) (k8 x0 x1 x2 x3 x4 x5 S)) (k20 : Nat → Nat → Int32 → Int32 → Int32 → Int32 → Int32 → Sx → Option (Int32 × Sx)) (hk20 : ∀ (x0 : Nat) (x1 : Nat) (x2 : Int32) (x3 : Int32) (x4 : Int32) (x5 : Int32) (x6 : Int32) (S : Sx), OkF wI (fun f => rk px kx f (d + 4) 123 20 [some (.ref x0), some (.ref x1), some (.int x2), some (.int x3), some (.int x4), some (.int x5), some (.int x6)] [] S) (k20 x0 x1 x2 x3 x4 x5 x6 S)) (x0 : Nat) (x1 : Nat) (x2 : Int32) (x3 : Int32) (x4 : Int32) (x5 : Int32) (x6 : Int32) (S : Sx) : OkF wI (fun f => rk px kx f (d + 4) 123 20 [some (.ref x0), some (.ref x1), some (.int x2), some (.int x3), some (.int x4), some (.int x5), some (.int x6)] [] S) (b123_20 k8 k20 x0 x1 x2 x3 x4 x5 x6 S) := by
  unfold b123_20
  refine OkF.eq 3 (Y := fun f => if oc S x1 4 = true then rk px kx f (d + 4) 123 26 [some (.ref x0), some (.ref x1), some (.int x2), some (.int x3), some (.int x4), some (.int x5), some (.int x6)] [.int (S.2.1 x1 8), .int x6] S else none) (fun f => rfl) ?_
  refine OkF.grd (fun _ => ?_)
  refine OkF.eq 1 (Y := fun f => if (S.2.1 x1 8) ≤ x6 then rk px kx f (d + 4) 123 61 [some (.ref x0), some (.ref x1), some (.int x2), some (.int x3), some (.int x4), some (.int x5), some (.int x6)] [] S else rk px kx f (d + 4) 123 29 [some (.ref x0), some (.ref x1), some (.int x2), some (.int x3), some (.int x4), some (.int x5), some (.int x6)] [] S) (fun f => rfl) ?_
  refine OkF.ite (fun _ => ?_) (fun _ => ?_)
  · refine OkF.eq 2 (Y := fun f => rk px kx f (d + 4) 123 8 [some (.ref x0), some (.ref x1), some (.int x2), some (.int x3), some (.int x4), some (.int (x5 + (1 : Int32))), some (.int x6)] [] S) (fun f => rfl) ?_
    exact OkF.kl (ls1 := [some (.ref x0), some (.ref x1), some (.int x2), some (.int x3), some (.int x4), some (.int (x5 + (1 : Int32))), none]) (fun f => rfl) (hk8 x0 x1 x2 x3 x4 (x5 + (1 : Int32)) S)
  · refine OkF.eq 2 (Y := fun f => if oc S x0 3 = true then rk px kx f (d + 4) 123 33 [some (.ref x0), some (.ref x1), some (.int x2), some (.int x3), some (.int x4), some (.int x5), some (.int x6)] (va_rf (S.2.2.2.1 x0 1) :: []) S else none) (fun f => rfl) ?_
    refine OkF.grd (fun _ => ?_)
    refine OkF.rf (fun a2 => ?_)
    refine OkF.eq 8 (Y := fun f => if x5 = x6 then rk px kx f (d + 4) 123 48 [some (.ref x0), some (.ref x1), some (.int x2), some (.int x3), some (.int x4), some (.int x5), some (.int x6)] [.int (((7 : Int32) * x5) + x6), .ref a2] S else rk px kx f (d + 4) 123 52 [some (.ref x0), some (.ref x1), some (.int x2), some (.int x3), some (.int x4), some (.int x5), some (.int x6)] [.int (((7 : Int32) * x5) + x6), .ref a2] S) (fun f => rfl) ?_
    refine OkF.ite (fun _ => ?_) (fun _ => ?_)
    · refine OkF.eq 2 (Y := fun f => rk px kx f (d + 4) 123 54 [some (.ref x0), some (.ref x1), some (.int x2), some (.int x3), some (.int x4), some (.int x5), some (.int x6)] [.int (0 : Int32), .int (((7 : Int32) * x5) + x6), .ref a2] S) (fun f => rfl) ?_
      exact OkF.kl (ls1 := [some (.ref x0), some (.ref x1), some (.int x2), some (.int x3), some (.int x4), some (.int x5), some (.int x6)]) (fun f => rfl) (ob123_54 d k8 hk8 k20 hk20 x0 x1 x2 x3 x4 x5 x6 a2 (((7 : Int32) * x5) + x6) (0 : Int32) S)
    · refine OkF.eq 1 (Y := fun f => rk px kx f (d + 4) 123 54 [some (.ref x0), some (.ref x1), some (.int x2), some (.int x3), some (.int x4), some (.int x5), some (.int x6)] [.int (99 : Int32), .int (((7 : Int32) * x5) + x6), .ref a2] S) (fun f => rfl) ?_
      exact OkF.kl (ls1 := [some (.ref x0), some (.ref x1), some (.int x2), some (.int x3), some (.int x4), some (.int x5), some (.int x6)]) (fun f => rfl) (ob123_54 d k8 hk8 k20 hk20 x0 x1 x2 x3 x4 x5 x6 a2 (((7 : Int32) * x5) + x6) (99 : Int32) S)
def l123_20 (k8 : Nat → Nat → Int32 → Int32 → Int32 → Int32 → Sx → Option (Int32 × Sx)) : Nat → Nat → Nat → Int32 → Int32 → Int32 → Int32 → Int32 → Sx → Option (Int32 × Sx)
  | 0 => fun _ _ _ _ _ _ _ _ => none
  | n + 1 => fun x0 x1 x2 x3 x4 x5 x6 S => b123_20 k8 (l123_20 k8 n) x0 x1 x2 x3 x4 x5 x6 S
set_option maxRecDepth 100000 in
theorem ol123_20 (d : Nat) (k8 : Nat → Nat → Int32 → Int32 → Int32 → Int32 → Sx → Option (Int32 × Sx)) (hk8 : ∀ (x0 : Nat) (x1 : Nat) (x2 : Int32) (x3 : Int32) (x4 : Int32) (x5 : Int32) (S : Sx), OkF wI (fun f => rk px kx f (d + 4) 123 8 [some (.ref x0), some (.ref x1), some (.int x2), some (.int x3), some (.int x4), some (.int x5), none] [] S) (k8 x0 x1 x2 x3 x4 x5 S)) : ∀ (n : Nat) (x0 : Nat) (x1 : Nat) (x2 : Int32) (x3 : Int32) (x4 : Int32) (x5 : Int32) (x6 : Int32) (S : Sx), OkF wI (fun f => rk px kx f (d + 4) 123 20 [some (.ref x0), some (.ref x1), some (.int x2), some (.int x3), some (.int x4), some (.int x5), some (.int x6)] [] S) (l123_20 k8 n x0 x1 x2 x3 x4 x5 x6 S) := by
  intro n
  induction n with
  | zero => intro x0 x1 x2 x3 x4 x5 x6 S; exact OkF.no
  | succ n ih => intro x0 x1 x2 x3 x4 x5 x6 S; exact ob123_20 d k8 hk8 (l123_20 k8 n) ih x0 x1 x2 x3 x4 x5 x6 S
def b123_110 (k73 : Nat → Nat → Int32 → Int32 → Int32 → Sx → Option (Int32 × Sx)) (x0 : Nat) (x1 : Nat) (x2 : Int32) (x3 : Int32) (x5 : Int32) (s0 : Nat) (s1 : Nat) (s2 : Int32) (S : Sx) : Option (Int32 × Sx) :=
  if oc S s0 3 = true then (m125 s0 s1 s2 S).bind fun q3 => k73 x0 x1 x2 x3 (x5 + (-1 : Int32)) q3 else none
set_option maxRecDepth 100000 in
theorem ob123_110 (d : Nat) (k73 : Nat → Nat → Int32 → Int32 → Int32 → Sx → Option (Int32 × Sx)) (hk73 : ∀ (x0 : Nat) (x1 : Nat) (x2 : Int32) (x3 : Int32) (x5 : Int32) (S : Sx), OkF wI (fun f => rk px kx f (d + 4) 123 73 [some (.ref x0), some (.ref x1), some (.int x2), some (.int x3), none, some (.int x5), none] [] S) (k73 x0 x1 x2 x3 x5 S)) (x0 : Nat) (x1 : Nat) (x2 : Int32) (x3 : Int32) (x5 : Int32) (s0 : Nat) (s1 : Nat) (s2 : Int32) (S : Sx) : OkF wI (fun f => rk px kx f (d + 4) 123 110 [some (.ref x0), some (.ref x1), some (.int x2), some (.int x3), none, some (.int x5), none] [.int s2, .ref s1, .ref s0] S) (b123_110 k73 x0 x1 x2 x3 x5 s0 s1 s2 S) := by
  unfold b123_110
  refine OkF.eq 1 (Y := fun f => if oc S s0 3 = true then (rk px kx f (d + 3) 125 0 [some (.ref s0), some (.ref s1), some (.int s2), none, none, none] [] S).bind (fun q => rk px kx f (d + 4) 123 113 [some (.ref x0), some (.ref x1), some (.int x2), some (.int x3), none, some (.int x5), none] (q.1.toList ++ []) q.2) else none) (fun f => rfl) ?_
  refine OkF.grd (fun _ => ?_)
  refine OkF.bind (w1 := wV) (om125 (d + 1) s0 s1 s2 S) (fun q3 => ?_)
  refine OkF.eq 1 (Y := fun f => rk px kx f (d + 4) 123 116 [some (.ref x0), some (.ref x1), some (.int x2), some (.int x3), none, some (.int (x5 + (-1 : Int32))), none] [] q3) (fun f => Eq.trans (b := stp px (rk px kx f) (d + 4) 123 (113, .iinc 5 (-1), 116, 5, (-1), 0, []) [some (.ref x0), some (.ref x1), some (.int x2), some (.int x3), none, some (.int x5), none] [] q3) rfl rfl) ?_
  refine OkF.eq 1 (Y := fun f => rk px kx f (d + 4) 123 73 [some (.ref x0), some (.ref x1), some (.int x2), some (.int x3), none, some (.int (x5 + (-1 : Int32))), none] [] q3) (fun f => rfl) ?_
  exact OkF.kl (ls1 := [some (.ref x0), some (.ref x1), some (.int x2), some (.int x3), none, some (.int (x5 + (-1 : Int32))), none]) (fun f => rfl) (hk73 x0 x1 x2 x3 (x5 + (-1 : Int32)) q3)
def b123_73 (k73 : Nat → Nat → Int32 → Int32 → Int32 → Sx → Option (Int32 × Sx)) (x0 : Nat) (x1 : Nat) (x2 : Int32) (x3 : Int32) (x5 : Int32) (S : Sx) : Option (Int32 × Sx) :=
  if x5 < 0 then if oc S x0 3 = true then (S.2.2.2.1 x0 1).bind fun a4 => if inb (((7 : Int32) * x2) + x3) (al S a4) = true then if (S.2.1 a4 (((7 : Int32) * x2) + x3).toNatClampNeg) < (99 : Int32) then some (S.2.1 a4 (((7 : Int32) * x2) + x3).toNatClampNeg, S) else some ((-9 : Int32), S) else none else none else if oc S x0 3 = true then (S.2.2.2.1 x0 1).bind fun a5 => if oc S x0 3 = true then (S.2.2.2.1 x0 2).bind fun a6 => if oc S x0 3 = true then (S.2.2.2.1 x0 1).bind fun a7 => if (Nat.beq a7 1000 || isa S 1 a7) = true then if cpk S a5 a6 (0 : Int32) (0 : Int32) (Int32.ofNat (al S a7)) = true then lt (cpS S a5 (0 : Int32).toNatClampNeg a6 (0 : Int32).toNatClampNeg (Int32.ofNat (al S a7)).toNatClampNeg) fun S8 => if (2 : Int32) = 0 then none else if (x5 - x5 / (2 : Int32) * (2 : Int32)) = 0 then b123_110 k73 x0 x1 x2 x3 x5 x0 x1 (1 : Int32) S8 else b123_110 k73 x0 x1 x2 x3 x5 x0 x1 (0 : Int32) S8 else none else none else none else none else none
set_option maxRecDepth 100000 in
theorem ob123_73 (d : Nat) (k73 : Nat → Nat → Int32 → Int32 → Int32 → Sx → Option (Int32 × Sx)) (hk73 : ∀ (x0 : Nat) (x1 : Nat) (x2 : Int32) (x3 : Int32) (x5 : Int32) (S : Sx), OkF wI (fun f => rk px kx f (d + 4) 123 73 [some (.ref x0), some (.ref x1), some (.int x2), some (.int x3), none, some (.int x5), none] [] S) (k73 x0 x1 x2 x3 x5 S)) (x0 : Nat) (x1 : Nat) (x2 : Int32) (x3 : Int32) (x5 : Int32) (S : Sx) : OkF wI (fun f => rk px kx f (d + 4) 123 73 [some (.ref x0), some (.ref x1), some (.int x2), some (.int x3), none, some (.int x5), none] [] S) (b123_73 k73 x0 x1 x2 x3 x5 S) := by
  unfold b123_73
  refine OkF.eq 2 (Y := fun f => if x5 < 0 then rk px kx f (d + 4) 123 119 [some (.ref x0), some (.ref x1), some (.int x2), some (.int x3), none, some (.int x5), none] [] S else rk px kx f (d + 4) 123 78 [some (.ref x0), some (.ref x1), some (.int x2), some (.int x3), none, some (.int x5), none] [] S) (fun f => rfl) ?_
  refine OkF.ite (fun _ => ?_) (fun _ => ?_)
  · refine OkF.eq 2 (Y := fun f => if oc S x0 3 = true then rk px kx f (d + 4) 123 123 [some (.ref x0), some (.ref x1), some (.int x2), some (.int x3), none, some (.int x5), none] (va_rf (S.2.2.2.1 x0 1) :: []) S else none) (fun f => rfl) ?_
    refine OkF.grd (fun _ => ?_)
    refine OkF.rf (fun a4 => ?_)
    refine OkF.eq 6 (Y := fun f => if inb (((7 : Int32) * x2) + x3) (al S a4) = true then rk px kx f (d + 4) 123 130 [some (.ref x0), some (.ref x1), some (.int x2), some (.int x3), none, some (.int x5), none] [.int (S.2.1 a4 (((7 : Int32) * x2) + x3).toNatClampNeg)] S else none) (fun f => rfl) ?_
    refine OkF.grd (fun _ => ?_)
    refine OkF.eq 4 (Y := fun f => if (S.2.1 a4 (((7 : Int32) * x2) + x3).toNatClampNeg) < (99 : Int32) then rk px kx f (d + 4) 123 144 [some (.ref x0), some (.ref x1), some (.int x2), some (.int x3), none, some (.int (S.2.1 a4 (((7 : Int32) * x2) + x3).toNatClampNeg)), none] [] S else rk px kx f (d + 4) 123 139 [some (.ref x0), some (.ref x1), some (.int x2), some (.int x3), none, some (.int (S.2.1 a4 (((7 : Int32) * x2) + x3).toNatClampNeg)), none] [] S) (fun f => rfl) ?_
    refine OkF.ite (fun _ => ?_) (fun _ => ?_)
    · exact OkF.ret 2 (fun f => rfl)
    · exact OkF.ret 3 (fun f => rfl)
  · refine OkF.eq 2 (Y := fun f => if oc S x0 3 = true then rk px kx f (d + 4) 123 82 [some (.ref x0), some (.ref x1), some (.int x2), some (.int x3), none, some (.int x5), none] (va_rf (S.2.2.2.1 x0 1) :: []) S else none) (fun f => rfl) ?_
    refine OkF.grd (fun _ => ?_)
    refine OkF.rf (fun a5 => ?_)
    refine OkF.eq 3 (Y := fun f => if oc S x0 3 = true then rk px kx f (d + 4) 123 87 [some (.ref x0), some (.ref x1), some (.int x2), some (.int x3), none, some (.int x5), none] (va_rf (S.2.2.2.1 x0 2) :: [.int (0 : Int32), .ref a5]) S else none) (fun f => rfl) ?_
    refine OkF.grd (fun _ => ?_)
    refine OkF.rf (fun a6 => ?_)
    refine OkF.eq 3 (Y := fun f => if oc S x0 3 = true then rk px kx f (d + 4) 123 92 [some (.ref x0), some (.ref x1), some (.int x2), some (.int x3), none, some (.int x5), none] (va_rf (S.2.2.2.1 x0 1) :: [.int (0 : Int32), .ref a6, .int (0 : Int32), .ref a5]) S else none) (fun f => rfl) ?_
    refine OkF.grd (fun _ => ?_)
    refine OkF.rf (fun a7 => ?_)
    refine OkF.eq 1 (Y := fun f => if (Nat.beq a7 1000 || isa S 1 a7) = true then rk px kx f (d + 4) 123 93 [some (.ref x0), some (.ref x1), some (.int x2), some (.int x3), none, some (.int x5), none] [.int (Int32.ofNat (al S a7)), .int (0 : Int32), .ref a6, .int (0 : Int32), .ref a5] S else none) (fun f => rfl) ?_
    refine OkF.grd (fun _ => ?_)
    refine OkF.eq 1 (Y := fun f => if cpk S a5 a6 (0 : Int32) (0 : Int32) (Int32.ofNat (al S a7)) = true then rk px kx f (d + 4) 123 96 [some (.ref x0), some (.ref x1), some (.int x2), some (.int x3), none, some (.int x5), none] [] (cpS S a5 (0 : Int32).toNatClampNeg a6 (0 : Int32).toNatClampNeg (Int32.ofNat (al S a7)).toNatClampNeg) else none) (fun f => rfl) ?_
    refine OkF.grd (fun _ => ?_)
    refine OkF.nm (fun S8 => ?_)
    refine OkF.eq 5 (Y := fun f => if (2 : Int32) = 0 then none else rk px kx f (d + 4) 123 102 [some (.ref x0), some (.ref x1), some (.int x2), some (.int x3), none, some (.int x5), none] [.int (x5 - x5 / (2 : Int32) * (2 : Int32)), .ref x1, .ref x0] S8) (fun f => rfl) ?_
    refine OkF.ngr (fun _ => ?_)
    refine OkF.eq 1 (Y := fun f => if (x5 - x5 / (2 : Int32) * (2 : Int32)) = 0 then rk px kx f (d + 4) 123 105 [some (.ref x0), some (.ref x1), some (.int x2), some (.int x3), none, some (.int x5), none] [.ref x1, .ref x0] S8 else rk px kx f (d + 4) 123 109 [some (.ref x0), some (.ref x1), some (.int x2), some (.int x3), none, some (.int x5), none] [.ref x1, .ref x0] S8) (fun f => rfl) ?_
    refine OkF.ite (fun _ => ?_) (fun _ => ?_)
    · refine OkF.eq 2 (Y := fun f => rk px kx f (d + 4) 123 110 [some (.ref x0), some (.ref x1), some (.int x2), some (.int x3), none, some (.int x5), none] [.int (1 : Int32), .ref x1, .ref x0] S8) (fun f => rfl) ?_
      exact OkF.kl (ls1 := [some (.ref x0), some (.ref x1), some (.int x2), some (.int x3), none, some (.int x5), none]) (fun f => rfl) (ob123_110 d k73 hk73 x0 x1 x2 x3 x5 x0 x1 (1 : Int32) S8)
    · refine OkF.eq 1 (Y := fun f => rk px kx f (d + 4) 123 110 [some (.ref x0), some (.ref x1), some (.int x2), some (.int x3), none, some (.int x5), none] [.int (0 : Int32), .ref x1, .ref x0] S8) (fun f => rfl) ?_
      exact OkF.kl (ls1 := [some (.ref x0), some (.ref x1), some (.int x2), some (.int x3), none, some (.int x5), none]) (fun f => rfl) (ob123_110 d k73 hk73 x0 x1 x2 x3 x5 x0 x1 (0 : Int32) S8)
def l123_73 : Nat → Nat → Nat → Int32 → Int32 → Int32 → Sx → Option (Int32 × Sx)
  | 0 => fun _ _ _ _ _ _ => none
  | n + 1 => fun x0 x1 x2 x3 x5 S => b123_73 (l123_73 n) x0 x1 x2 x3 x5 S
set_option maxRecDepth 100000 in
theorem ol123_73 (d : Nat) : ∀ (n : Nat) (x0 : Nat) (x1 : Nat) (x2 : Int32) (x3 : Int32) (x5 : Int32) (S : Sx), OkF wI (fun f => rk px kx f (d + 4) 123 73 [some (.ref x0), some (.ref x1), some (.int x2), some (.int x3), none, some (.int x5), none] [] S) (l123_73 n x0 x1 x2 x3 x5 S) := by
  intro n
  induction n with
  | zero => intro x0 x1 x2 x3 x5 S; exact OkF.no
  | succ n ih => intro x0 x1 x2 x3 x5 S; exact ob123_73 d (l123_73 n) ih x0 x1 x2 x3 x5 S
def b123_8 (k8 : Nat → Nat → Int32 → Int32 → Int32 → Int32 → Sx → Option (Int32 × Sx)) (x0 : Nat) (x1 : Nat) (x2 : Int32) (x3 : Int32) (x4 : Int32) (x5 : Int32) (S : Sx) : Option (Int32 × Sx) :=
  if oc S x1 4 = true then if (S.2.1 x1 8) ≤ x5 then l123_73 1000 x0 x1 x2 x3 (x4 - (1 : Int32)) S else l123_20 k8 1000 x0 x1 x2 x3 x4 x5 (0 : Int32) S else none
set_option maxRecDepth 100000 in
theorem ob123_8 (d : Nat) (k8 : Nat → Nat → Int32 → Int32 → Int32 → Int32 → Sx → Option (Int32 × Sx)) (hk8 : ∀ (x0 : Nat) (x1 : Nat) (x2 : Int32) (x3 : Int32) (x4 : Int32) (x5 : Int32) (S : Sx), OkF wI (fun f => rk px kx f (d + 4) 123 8 [some (.ref x0), some (.ref x1), some (.int x2), some (.int x3), some (.int x4), some (.int x5), none] [] S) (k8 x0 x1 x2 x3 x4 x5 S)) (x0 : Nat) (x1 : Nat) (x2 : Int32) (x3 : Int32) (x4 : Int32) (x5 : Int32) (S : Sx) : OkF wI (fun f => rk px kx f (d + 4) 123 8 [some (.ref x0), some (.ref x1), some (.int x2), some (.int x3), some (.int x4), some (.int x5), none] [] S) (b123_8 k8 x0 x1 x2 x3 x4 x5 S) := by
  unfold b123_8
  refine OkF.eq 3 (Y := fun f => if oc S x1 4 = true then rk px kx f (d + 4) 123 14 [some (.ref x0), some (.ref x1), some (.int x2), some (.int x3), some (.int x4), some (.int x5), none] [.int (S.2.1 x1 8), .int x5] S else none) (fun f => rfl) ?_
  refine OkF.grd (fun _ => ?_)
  refine OkF.eq 1 (Y := fun f => if (S.2.1 x1 8) ≤ x5 then rk px kx f (d + 4) 123 67 [some (.ref x0), some (.ref x1), some (.int x2), some (.int x3), some (.int x4), some (.int x5), none] [] S else rk px kx f (d + 4) 123 17 [some (.ref x0), some (.ref x1), some (.int x2), some (.int x3), some (.int x4), some (.int x5), none] [] S) (fun f => rfl) ?_
  refine OkF.ite (fun _ => ?_) (fun _ => ?_)
  · refine OkF.eq 4 (Y := fun f => rk px kx f (d + 4) 123 73 [some (.ref x0), some (.ref x1), some (.int x2), some (.int x3), some (.int x4), some (.int (x4 - (1 : Int32))), none] [] S) (fun f => rfl) ?_
    exact OkF.kl (ls1 := [some (.ref x0), some (.ref x1), some (.int x2), some (.int x3), none, some (.int (x4 - (1 : Int32))), none]) (fun f => rfl) (ol123_73 d 1000 x0 x1 x2 x3 (x4 - (1 : Int32)) S)
  · refine OkF.eq 2 (Y := fun f => rk px kx f (d + 4) 123 20 [some (.ref x0), some (.ref x1), some (.int x2), some (.int x3), some (.int x4), some (.int x5), some (.int (0 : Int32))] [] S) (fun f => rfl) ?_
    exact OkF.kl (ls1 := [some (.ref x0), some (.ref x1), some (.int x2), some (.int x3), some (.int x4), some (.int x5), some (.int (0 : Int32))]) (fun f => rfl) (ol123_20 d k8 hk8 1000 x0 x1 x2 x3 x4 x5 (0 : Int32) S)
def l123_8 : Nat → Nat → Nat → Int32 → Int32 → Int32 → Int32 → Sx → Option (Int32 × Sx)
  | 0 => fun _ _ _ _ _ _ _ => none
  | n + 1 => fun x0 x1 x2 x3 x4 x5 S => b123_8 (l123_8 n) x0 x1 x2 x3 x4 x5 S
set_option maxRecDepth 100000 in
theorem ol123_8 (d : Nat) : ∀ (n : Nat) (x0 : Nat) (x1 : Nat) (x2 : Int32) (x3 : Int32) (x4 : Int32) (x5 : Int32) (S : Sx), OkF wI (fun f => rk px kx f (d + 4) 123 8 [some (.ref x0), some (.ref x1), some (.int x2), some (.int x3), some (.int x4), some (.int x5), none] [] S) (l123_8 n x0 x1 x2 x3 x4 x5 S) := by
  intro n
  induction n with
  | zero => intro x0 x1 x2 x3 x4 x5 S; exact OkF.no
  | succ n ih => intro x0 x1 x2 x3 x4 x5 S; exact ob123_8 d (l123_8 n) ih x0 x1 x2 x3 x4 x5 S
def m123 (x0 : Nat) (x1 : Nat) (x2 : Int32) (x3 : Int32) (x4 : Int32) (S : Sx) : Option (Int32 × Sx) :=
  if oc S x0 3 = true then (m124 x0 x1 S).bind fun q9 => l123_8 1000 x0 x1 x2 x3 x4 (0 : Int32) q9 else none
set_option maxRecDepth 100000 in
theorem om123 (d : Nat) (x0 : Nat) (x1 : Nat) (x2 : Int32) (x3 : Int32) (x4 : Int32) (S : Sx) : OkF wI (fun f => rk px kx f (d + 4) 123 0 [some (.ref x0), some (.ref x1), some (.int x2), some (.int x3), some (.int x4), none, none] [] S) (m123 x0 x1 x2 x3 x4 S) := by
  unfold m123
  refine OkF.eq 3 (Y := fun f => if oc S x0 3 = true then (rk px kx f (d + 3) 124 0 [some (.ref x0), some (.ref x1), none] [] S).bind (fun q => rk px kx f (d + 4) 123 5 [some (.ref x0), some (.ref x1), some (.int x2), some (.int x3), some (.int x4), none, none] (q.1.toList ++ []) q.2) else none) (fun f => rfl) ?_
  refine OkF.grd (fun _ => ?_)
  refine OkF.bind (w1 := wV) (om124 (d + 0) x0 x1 S) (fun q9 => ?_)
  refine OkF.eq 2 (Y := fun f => rk px kx f (d + 4) 123 8 [some (.ref x0), some (.ref x1), some (.int x2), some (.int x3), some (.int x4), some (.int (0 : Int32)), none] [] q9) (fun f => rfl) ?_
  exact OkF.kl (ls1 := [some (.ref x0), some (.ref x1), some (.int x2), some (.int x3), some (.int x4), some (.int (0 : Int32)), none]) (fun f => rfl) (ol123_8 d 1000 x0 x1 x2 x3 x4 (0 : Int32) q9)
-- DoorSold.chase(III)I
def m122 (x0 : Nat) (x1 : Int32) (x2 : Int32) (x3 : Int32) (S : Sx) : Option (Int32 × Sx) :=
  if oc S x0 11 = true then (S.2.2.2.1 x0 3).bind fun a1 => if oc S a1 4 = true then if (S.2.1 a1 9) = 0 then some ((-4 : Int32), S) else if oc S x0 11 = true then (m98 x0 x1 S).bind fun q2 => if q2.1 = 0 then if oc q2.2 x0 11 = true then (m98 x0 x2 q2.2).bind fun q3 => if q3.1 = 0 then if x3 < 0 then some ((-1 : Int32), q3.2) else if x3 ≤ (6 : Int32) then if oc q3.2 x0 11 = true then (q3.2.2.2.2.1 x0 8).bind fun a4 => if oc q3.2 x0 11 = true then (q3.2.2.2.2.1 x0 3).bind fun a5 => if oc q3.2 a4 3 = true then (m123 a4 a5 x1 x2 x3 q3.2).bind fun q6 => some (q6.1, q6.2) else none else none else none else some ((-1 : Int32), q3.2) else some ((-1 : Int32), q3.2) else none else some ((-1 : Int32), q2.2) else none else none else none
set_option maxRecDepth 100000 in
theorem om122 (d : Nat) (x0 : Nat) (x1 : Int32) (x2 : Int32) (x3 : Int32) (S : Sx) : OkF wI (fun f => rk px kx f (d + 5) 122 0 [some (.ref x0), some (.int x1), some (.int x2), some (.int x3)] [] S) (m122 x0 x1 x2 x3 S) := by
  unfold m122
  refine OkF.eq 2 (Y := fun f => if oc S x0 11 = true then rk px kx f (d + 5) 122 4 [some (.ref x0), some (.int x1), some (.int x2), some (.int x3)] (va_rf (S.2.2.2.1 x0 3) :: []) S else none) (fun f => rfl) ?_
  refine OkF.grd (fun _ => ?_)
  refine OkF.rf (fun a1 => ?_)
  refine OkF.eq 1 (Y := fun f => if oc S a1 4 = true then rk px kx f (d + 5) 122 7 [some (.ref x0), some (.int x1), some (.int x2), some (.int x3)] [.int (S.2.1 a1 9)] S else none) (fun f => rfl) ?_
  refine OkF.grd (fun _ => ?_)
  refine OkF.eq 1 (Y := fun f => if (S.2.1 a1 9) = 0 then rk px kx f (d + 5) 122 10 [some (.ref x0), some (.int x1), some (.int x2), some (.int x3)] [] S else rk px kx f (d + 5) 122 13 [some (.ref x0), some (.int x1), some (.int x2), some (.int x3)] [] S) (fun f => rfl) ?_
  refine OkF.ite (fun _ => ?_) (fun _ => ?_)
  · exact OkF.ret 2 (fun f => rfl)
  · refine OkF.eq 3 (Y := fun f => if oc S x0 11 = true then (rk px kx f (d + 4) 98 0 [some (.ref x0), some (.int x1)] [] S).bind (fun q => rk px kx f (d + 5) 122 18 [some (.ref x0), some (.int x1), some (.int x2), some (.int x3)] (q.1.toList ++ []) q.2) else none) (fun f => rfl) ?_
    refine OkF.grd (fun _ => ?_)
    refine OkF.bind (w1 := wI) (om98 (d + 4) x0 x1 S) (fun q2 => ?_)
    refine OkF.eq 1 (Y := fun f => if q2.1 = 0 then rk px kx f (d + 5) 122 21 [some (.ref x0), some (.int x1), some (.int x2), some (.int x3)] [] q2.2 else rk px kx f (d + 5) 122 39 [some (.ref x0), some (.int x1), some (.int x2), some (.int x3)] [] q2.2) (fun f => rfl) ?_
    refine OkF.ite (fun _ => ?_) (fun _ => ?_)
    · refine OkF.eq 3 (Y := fun f => if oc q2.2 x0 11 = true then (rk px kx f (d + 4) 98 0 [some (.ref x0), some (.int x2)] [] q2.2).bind (fun q => rk px kx f (d + 5) 122 26 [some (.ref x0), some (.int x1), some (.int x2), some (.int x3)] (q.1.toList ++ []) q.2) else none) (fun f => rfl) ?_
      refine OkF.grd (fun _ => ?_)
      refine OkF.bind (w1 := wI) (om98 (d + 4) x0 x2 q2.2) (fun q3 => ?_)
      refine OkF.eq 1 (Y := fun f => if q3.1 = 0 then rk px kx f (d + 5) 122 29 [some (.ref x0), some (.int x1), some (.int x2), some (.int x3)] [] q3.2 else rk px kx f (d + 5) 122 39 [some (.ref x0), some (.int x1), some (.int x2), some (.int x3)] [] q3.2) (fun f => rfl) ?_
      refine OkF.ite (fun _ => ?_) (fun _ => ?_)
      · refine OkF.eq 2 (Y := fun f => if x3 < 0 then rk px kx f (d + 5) 122 39 [some (.ref x0), some (.int x1), some (.int x2), some (.int x3)] [] q3.2 else rk px kx f (d + 5) 122 33 [some (.ref x0), some (.int x1), some (.int x2), some (.int x3)] [] q3.2) (fun f => rfl) ?_
        refine OkF.ite (fun _ => ?_) (fun _ => ?_)
        · exact OkF.ret 2 (fun f => rfl)
        · refine OkF.eq 3 (Y := fun f => if x3 ≤ (6 : Int32) then rk px kx f (d + 5) 122 41 [some (.ref x0), some (.int x1), some (.int x2), some (.int x3)] [] q3.2 else rk px kx f (d + 5) 122 39 [some (.ref x0), some (.int x1), some (.int x2), some (.int x3)] [] q3.2) (fun f => rfl) ?_
          refine OkF.ite (fun _ => ?_) (fun _ => ?_)
          · refine OkF.eq 2 (Y := fun f => if oc q3.2 x0 11 = true then rk px kx f (d + 5) 122 45 [some (.ref x0), some (.int x1), some (.int x2), some (.int x3)] (va_rf (q3.2.2.2.2.1 x0 8) :: []) q3.2 else none) (fun f => rfl) ?_
            refine OkF.grd (fun _ => ?_)
            refine OkF.rf (fun a4 => ?_)
            refine OkF.eq 2 (Y := fun f => if oc q3.2 x0 11 = true then rk px kx f (d + 5) 122 49 [some (.ref x0), some (.int x1), some (.int x2), some (.int x3)] (va_rf (q3.2.2.2.2.1 x0 3) :: [.ref a4]) q3.2 else none) (fun f => rfl) ?_
            refine OkF.grd (fun _ => ?_)
            refine OkF.rf (fun a5 => ?_)
            refine OkF.eq 4 (Y := fun f => if oc q3.2 a4 3 = true then (rk px kx f (d + 4) 123 0 [some (.ref a4), some (.ref a5), some (.int x1), some (.int x2), some (.int x3), none, none] [] q3.2).bind (fun q => rk px kx f (d + 5) 122 55 [some (.ref x0), some (.int x1), some (.int x2), some (.int x3)] (q.1.toList ++ []) q.2) else none) (fun f => rfl) ?_
            refine OkF.grd (fun _ => ?_)
            refine OkF.bind (w1 := wI) (om123 (d + 0) a4 a5 x1 x2 x3 q3.2) (fun q6 => ?_)
            exact OkF.ret 1 (fun f => rfl)
          · exact OkF.ret 2 (fun f => rfl)
      · exact OkF.ret 2 (fun f => rfl)
    · exact OkF.ret 2 (fun f => rfl)
-- DoorSold.noChance(I)Z
def m129 (x0 : Int32) (S : Sx) : Option (Int32 × Sx) :=
  if x0 < 0 then some ((1 : Int32), S) else if x0 ≤ (12 : Int32) then some ((0 : Int32), S) else some ((1 : Int32), S)
set_option maxRecDepth 100000 in
theorem om129 (d : Nat) (x0 : Int32) (S : Sx) : OkF wI (fun f => rk px kx f (d + 0) 129 0 [some (.int x0)] [] S) (m129 x0 S) := by
  unfold m129
  refine OkF.eq 2 (Y := fun f => if x0 < 0 then rk px kx f (d + 0) 129 10 [some (.int x0)] [] S else rk px kx f (d + 0) 129 4 [some (.int x0)] [] S) (fun f => rfl) ?_
  refine OkF.ite (fun _ => ?_) (fun _ => ?_)
  · exact OkF.ret 3 (fun f => rfl)
  · refine OkF.eq 3 (Y := fun f => if x0 ≤ (12 : Int32) then rk px kx f (d + 0) 129 14 [some (.int x0)] [] S else rk px kx f (d + 0) 129 10 [some (.int x0)] [] S) (fun f => rfl) ?_
    refine OkF.ite (fun _ => ?_) (fun _ => ?_)
    · exact OkF.ret 2 (fun f => rfl)
    · exact OkF.ret 3 (fun f => rfl)
-- DoorSold.casesWith(II)J
def b130_52 (k5 : Nat → Int32 → Int32 → Int64 → Int32 → Sx → Option (Int64 × Sx)) (x0 : Nat) (x1 : Int32) (x2 : Int32) (x3 : Int64) (x5 : Int32) (S : Sx) : Option (Int64 × Sx) :=
  k5 x0 x1 x2 x3 (x5 + (1 : Int32)) S
set_option maxRecDepth 100000 in
theorem ob130_52 (d : Nat) (k5 : Nat → Int32 → Int32 → Int64 → Int32 → Sx → Option (Int64 × Sx)) (hk5 : ∀ (x0 : Nat) (x1 : Int32) (x2 : Int32) (x3 : Int64) (x5 : Int32) (S : Sx), OkF wL (fun f => rk px kx f (d + 1) 130 5 [some (.ref x0), some (.int x1), some (.int x2), some (.long x3), none, some (.int x5)] [] S) (k5 x0 x1 x2 x3 x5 S)) (x0 : Nat) (x1 : Int32) (x2 : Int32) (x3 : Int64) (x5 : Int32) (S : Sx) : OkF wL (fun f => rk px kx f (d + 1) 130 52 [some (.ref x0), some (.int x1), some (.int x2), some (.long x3), none, some (.int x5)] [] S) (b130_52 k5 x0 x1 x2 x3 x5 S) := by
  unfold b130_52
  refine OkF.eq 2 (Y := fun f => rk px kx f (d + 1) 130 5 [some (.ref x0), some (.int x1), some (.int x2), some (.long x3), none, some (.int (x5 + (1 : Int32)))] [] S) (fun f => rfl) ?_
  exact OkF.kl (ls1 := [some (.ref x0), some (.int x1), some (.int x2), some (.long x3), none, some (.int (x5 + (1 : Int32)))]) (fun f => rfl) (hk5 x0 x1 x2 x3 (x5 + (1 : Int32)) S)
def b130_50 (k5 : Nat → Int32 → Int32 → Int64 → Int32 → Sx → Option (Int64 × Sx)) (x0 : Nat) (x1 : Int32) (x2 : Int32) (x5 : Int32) (s0 : Int64) (s1 : Int64) (S : Sx) : Option (Int64 × Sx) :=
  b130_52 k5 x0 x1 x2 (s0 * s1) x5 S
set_option maxRecDepth 100000 in
theorem ob130_50 (d : Nat) (k5 : Nat → Int32 → Int32 → Int64 → Int32 → Sx → Option (Int64 × Sx)) (hk5 : ∀ (x0 : Nat) (x1 : Int32) (x2 : Int32) (x3 : Int64) (x5 : Int32) (S : Sx), OkF wL (fun f => rk px kx f (d + 1) 130 5 [some (.ref x0), some (.int x1), some (.int x2), some (.long x3), none, some (.int x5)] [] S) (k5 x0 x1 x2 x3 x5 S)) (x0 : Nat) (x1 : Int32) (x2 : Int32) (x5 : Int32) (s0 : Int64) (s1 : Int64) (S : Sx) : OkF wL (fun f => rk px kx f (d + 1) 130 50 [some (.ref x0), some (.int x1), some (.int x2), none, none, some (.int x5)] [.long s1, .long s0] S) (b130_50 k5 x0 x1 x2 x5 s0 s1 S) := by
  unfold b130_50
  refine OkF.eq 2 (Y := fun f => rk px kx f (d + 1) 130 52 [some (.ref x0), some (.int x1), some (.int x2), some (.long (s0 * s1)), none, some (.int x5)] [] S) (fun f => rfl) ?_
  exact OkF.kl (ls1 := [some (.ref x0), some (.int x1), some (.int x2), some (.long (s0 * s1)), none, some (.int x5)]) (fun f => rfl) (ob130_52 d k5 hk5 x0 x1 x2 (s0 * s1) x5 S)
def b130_5 (k5 : Nat → Int32 → Int32 → Int64 → Int32 → Sx → Option (Int64 × Sx)) (x0 : Nat) (x1 : Int32) (x2 : Int32) (x3 : Int64) (x5 : Int32) (S : Sx) : Option (Int64 × Sx) :=
  if oc S x0 11 = true then (S.2.2.2.1 x0 3).bind fun a1 => if oc S a1 4 = true then if (S.2.1 a1 9) ≤ x5 then some (x3, S) else if oc S x0 11 = true then (S.2.2.2.1 x0 3).bind fun a2 => if oc S a2 4 = true then (m66 a2 x5 S).bind fun q3 => if q3.1 = 0 then b130_52 k5 x0 x1 x2 x3 x5 q3.2 else if ((x1 >>> (x5 &&& 31)) &&& (1 : Int32)) = (1 : Int32) then b130_50 k5 x0 x1 x2 x5 x3 (((12 : Int32) - x2).toInt64) q3.2 else b130_50 k5 x0 x1 x2 x5 x3 x2.toInt64 q3.2 else none else none else none else none
set_option maxRecDepth 100000 in
theorem ob130_5 (d : Nat) (k5 : Nat → Int32 → Int32 → Int64 → Int32 → Sx → Option (Int64 × Sx)) (hk5 : ∀ (x0 : Nat) (x1 : Int32) (x2 : Int32) (x3 : Int64) (x5 : Int32) (S : Sx), OkF wL (fun f => rk px kx f (d + 1) 130 5 [some (.ref x0), some (.int x1), some (.int x2), some (.long x3), none, some (.int x5)] [] S) (k5 x0 x1 x2 x3 x5 S)) (x0 : Nat) (x1 : Int32) (x2 : Int32) (x3 : Int64) (x5 : Int32) (S : Sx) : OkF wL (fun f => rk px kx f (d + 1) 130 5 [some (.ref x0), some (.int x1), some (.int x2), some (.long x3), none, some (.int x5)] [] S) (b130_5 k5 x0 x1 x2 x3 x5 S) := by
  unfold b130_5
  refine OkF.eq 3 (Y := fun f => if oc S x0 11 = true then rk px kx f (d + 1) 130 11 [some (.ref x0), some (.int x1), some (.int x2), some (.long x3), none, some (.int x5)] (va_rf (S.2.2.2.1 x0 3) :: [.int x5]) S else none) (fun f => rfl) ?_
  refine OkF.grd (fun _ => ?_)
  refine OkF.rf (fun a1 => ?_)
  refine OkF.eq 1 (Y := fun f => if oc S a1 4 = true then rk px kx f (d + 1) 130 14 [some (.ref x0), some (.int x1), some (.int x2), some (.long x3), none, some (.int x5)] [.int (S.2.1 a1 9), .int x5] S else none) (fun f => rfl) ?_
  refine OkF.grd (fun _ => ?_)
  refine OkF.eq 1 (Y := fun f => if (S.2.1 a1 9) ≤ x5 then rk px kx f (d + 1) 130 58 [some (.ref x0), some (.int x1), some (.int x2), some (.long x3), none, some (.int x5)] [] S else rk px kx f (d + 1) 130 17 [some (.ref x0), some (.int x1), some (.int x2), some (.long x3), none, some (.int x5)] [] S) (fun f => rfl) ?_
  refine OkF.ite (fun _ => ?_) (fun _ => ?_)
  · exact OkF.ret 2 (fun f => rfl)
  · refine OkF.eq 2 (Y := fun f => if oc S x0 11 = true then rk px kx f (d + 1) 130 21 [some (.ref x0), some (.int x1), some (.int x2), some (.long x3), none, some (.int x5)] (va_rf (S.2.2.2.1 x0 3) :: []) S else none) (fun f => rfl) ?_
    refine OkF.grd (fun _ => ?_)
    refine OkF.rf (fun a2 => ?_)
    refine OkF.eq 2 (Y := fun f => if oc S a2 4 = true then (rk px kx f (d + 0) 66 0 [some (.ref a2), some (.int x5)] [] S).bind (fun q => rk px kx f (d + 1) 130 26 [some (.ref x0), some (.int x1), some (.int x2), some (.long x3), none, some (.int x5)] (q.1.toList ++ []) q.2) else none) (fun f => rfl) ?_
    refine OkF.grd (fun _ => ?_)
    refine OkF.bind (w1 := wI) (om66 (d + 0) a2 x5 S) (fun q3 => ?_)
    refine OkF.eq 1 (Y := fun f => if q3.1 = 0 then rk px kx f (d + 1) 130 52 [some (.ref x0), some (.int x1), some (.int x2), some (.long x3), none, some (.int x5)] [] q3.2 else rk px kx f (d + 1) 130 29 [some (.ref x0), some (.int x1), some (.int x2), some (.long x3), none, some (.int x5)] [] q3.2) (fun f => rfl) ?_
    refine OkF.ite (fun _ => ?_) (fun _ => ?_)
    · exact OkF.kl (ls1 := [some (.ref x0), some (.int x1), some (.int x2), some (.long x3), none, some (.int x5)]) (fun f => rfl) (ob130_52 d k5 hk5 x0 x1 x2 x3 x5 q3.2)
    · refine OkF.eq 8 (Y := fun f => if ((x1 >>> (x5 &&& 31)) &&& (1 : Int32)) = (1 : Int32) then rk px kx f (d + 1) 130 40 [some (.ref x0), some (.int x1), some (.int x2), some (.long x3), none, some (.int x5)] [.long x3] q3.2 else rk px kx f (d + 1) 130 48 [some (.ref x0), some (.int x1), some (.int x2), some (.long x3), none, some (.int x5)] [.long x3] q3.2) (fun f => rfl) ?_
      refine OkF.ite (fun _ => ?_) (fun _ => ?_)
      · refine OkF.eq 5 (Y := fun f => rk px kx f (d + 1) 130 50 [some (.ref x0), some (.int x1), some (.int x2), some (.long x3), none, some (.int x5)] [.long (((12 : Int32) - x2).toInt64), .long x3] q3.2) (fun f => rfl) ?_
        exact OkF.kl (ls1 := [some (.ref x0), some (.int x1), some (.int x2), none, none, some (.int x5)]) (fun f => rfl) (ob130_50 d k5 hk5 x0 x1 x2 x5 x3 (((12 : Int32) - x2).toInt64) q3.2)
      · refine OkF.eq 2 (Y := fun f => rk px kx f (d + 1) 130 50 [some (.ref x0), some (.int x1), some (.int x2), some (.long x3), none, some (.int x5)] [.long x2.toInt64, .long x3] q3.2) (fun f => rfl) ?_
        exact OkF.kl (ls1 := [some (.ref x0), some (.int x1), some (.int x2), none, none, some (.int x5)]) (fun f => rfl) (ob130_50 d k5 hk5 x0 x1 x2 x5 x3 x2.toInt64 q3.2)
def l130_5 : Nat → Nat → Int32 → Int32 → Int64 → Int32 → Sx → Option (Int64 × Sx)
  | 0 => fun _ _ _ _ _ _ => none
  | n + 1 => fun x0 x1 x2 x3 x5 S => b130_5 (l130_5 n) x0 x1 x2 x3 x5 S
set_option maxRecDepth 100000 in
theorem ol130_5 (d : Nat) : ∀ (n : Nat) (x0 : Nat) (x1 : Int32) (x2 : Int32) (x3 : Int64) (x5 : Int32) (S : Sx), OkF wL (fun f => rk px kx f (d + 1) 130 5 [some (.ref x0), some (.int x1), some (.int x2), some (.long x3), none, some (.int x5)] [] S) (l130_5 n x0 x1 x2 x3 x5 S) := by
  intro n
  induction n with
  | zero => intro x0 x1 x2 x3 x5 S; exact OkF.no
  | succ n ih => intro x0 x1 x2 x3 x5 S; exact ob130_5 d (l130_5 n) ih x0 x1 x2 x3 x5 S
def m130 (x0 : Nat) (x1 : Int32) (x2 : Int32) (S : Sx) : Option (Int64 × Sx) :=
  l130_5 1000 x0 x1 x2 (1 : Int64) (0 : Int32) S
set_option maxRecDepth 100000 in
theorem om130 (d : Nat) (x0 : Nat) (x1 : Int32) (x2 : Int32) (S : Sx) : OkF wL (fun f => rk px kx f (d + 1) 130 0 [some (.ref x0), some (.int x1), some (.int x2), none, none, none] [] S) (m130 x0 x1 x2 S) := by
  unfold m130
  refine OkF.eq 4 (Y := fun f => rk px kx f (d + 1) 130 5 [some (.ref x0), some (.int x1), some (.int x2), some (.long (1 : Int64)), none, some (.int (0 : Int32))] [] S) (fun f => rfl) ?_
  exact OkF.kl (ls1 := [some (.ref x0), some (.int x1), some (.int x2), some (.long (1 : Int64)), none, some (.int (0 : Int32))]) (fun f => rfl) (ol130_5 d 1000 x0 x1 x2 (1 : Int64) (0 : Int32) S)
