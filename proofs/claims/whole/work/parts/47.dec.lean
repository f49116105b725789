-- DoorSoldModel.costs(I)I
def b214_30 (k4 : Nat → Int32 → Int32 → Int32 → Sx → Option (Int32 × Sx)) (x0 : Nat) (x1 : Int32) (x3 : Int32) (s0 : Int32) (s1 : Int32) (S : Sx) : Option (Int32 × Sx) :=
  k4 x0 x1 (s0 + s1) (x3 + (1 : Int32)) S
set_option maxRecDepth 100000 in
theorem ob214_30 (d : Nat) (k4 : Nat → Int32 → Int32 → Int32 → Sx → Option (Int32 × Sx)) (hk4 : ∀ (x0 : Nat) (x1 : Int32) (x2 : Int32) (x3 : Int32) (S : Sx), OkF wI (fun f => rk px kx f (d + 1) 214 4 [some (.ref x0), some (.int x1), some (.int x2), some (.int x3)] [] S) (k4 x0 x1 x2 x3 S)) (x0 : Nat) (x1 : Int32) (x3 : Int32) (s0 : Int32) (s1 : Int32) (S : Sx) : OkF wI (fun f => rk px kx f (d + 1) 214 30 [some (.ref x0), some (.int x1), none, some (.int x3)] [.int s1, .int s0] S) (b214_30 k4 x0 x1 x3 s0 s1 S) := by
  unfold b214_30
  refine OkF.eq 4 (Y := fun f => rk px kx f (d + 1) 214 4 [some (.ref x0), some (.int x1), some (.int (s0 + s1)), some (.int (x3 + (1 : Int32)))] [] S) (fun f => rfl) ?_
  exact OkF.kl (ls1 := [some (.ref x0), some (.int x1), some (.int (s0 + s1)), some (.int (x3 + (1 : Int32)))]) (fun f => rfl) (hk4 x0 x1 (s0 + s1) (x3 + (1 : Int32)) S)
def b214_4 (k4 : Nat → Int32 → Int32 → Int32 → Sx → Option (Int32 × Sx)) (x0 : Nat) (x1 : Int32) (x2 : Int32) (x3 : Int32) (S : Sx) : Option (Int32 × Sx) :=
  if oc S x0 12 = true then if (S.2.1 x0 4) ≤ x3 then some (x2, S) else (m180 x1 x3 S).bind fun q1 => if q1.1 = 0 then b214_30 k4 x0 x1 x3 x2 (0 : Int32) q1.2 else if oc q1.2 x0 12 = true then (m173 x0 x3 q1.2).bind fun q2 => b214_30 k4 x0 x1 x3 x2 q2.1 q2.2 else none else none
set_option maxRecDepth 100000 in
theorem ob214_4 (d : Nat) (k4 : Nat → Int32 → Int32 → Int32 → Sx → Option (Int32 × Sx)) (hk4 : ∀ (x0 : Nat) (x1 : Int32) (x2 : Int32) (x3 : Int32) (S : Sx), OkF wI (fun f => rk px kx f (d + 1) 214 4 [some (.ref x0), some (.int x1), some (.int x2), some (.int x3)] [] S) (k4 x0 x1 x2 x3 S)) (x0 : Nat) (x1 : Int32) (x2 : Int32) (x3 : Int32) (S : Sx) : OkF wI (fun f => rk px kx f (d + 1) 214 4 [some (.ref x0), some (.int x1), some (.int x2), some (.int x3)] [] S) (b214_4 k4 x0 x1 x2 x3 S) := by
  unfold b214_4
  refine OkF.eq 3 (Y := fun f => if oc S x0 12 = true then rk px kx f (d + 1) 214 9 [some (.ref x0), some (.int x1), some (.int x2), some (.int x3)] [.int (S.2.1 x0 4), .int x3] S else none) (fun f => rfl) ?_
  refine OkF.grd (fun _ => ?_)
  refine OkF.eq 1 (Y := fun f => if (S.2.1 x0 4) ≤ x3 then rk px kx f (d + 1) 214 38 [some (.ref x0), some (.int x1), some (.int x2), some (.int x3)] [] S else rk px kx f (d + 1) 214 12 [some (.ref x0), some (.int x1), some (.int x2), some (.int x3)] [] S) (fun f => rfl) ?_
  refine OkF.ite (fun _ => ?_) (fun _ => ?_)
  · exact OkF.ret 2 (fun f => rfl)
  · refine OkF.eq 4 (Y := fun f => (rk px kx f (d + 0) 180 0 [some (.int x1), some (.int x3)] [] S).bind (fun q => rk px kx f (d + 1) 214 18 [some (.ref x0), some (.int x1), some (.int x2), some (.int x3)] (q.1.toList ++ [.int x2]) q.2)) (fun f => rfl) ?_
    refine OkF.bind (w1 := wI) (om180 (d + 0) x1 x3 S) (fun q1 => ?_)
    refine OkF.eq 1 (Y := fun f => if q1.1 = 0 then rk px kx f (d + 1) 214 29 [some (.ref x0), some (.int x1), some (.int x2), some (.int x3)] [.int x2] q1.2 else rk px kx f (d + 1) 214 21 [some (.ref x0), some (.int x1), some (.int x2), some (.int x3)] [.int x2] q1.2) (fun f => rfl) ?_
    refine OkF.ite (fun _ => ?_) (fun _ => ?_)
    · refine OkF.eq 1 (Y := fun f => rk px kx f (d + 1) 214 30 [some (.ref x0), some (.int x1), some (.int x2), some (.int x3)] [.int (0 : Int32), .int x2] q1.2) (fun f => rfl) ?_
      exact OkF.kl (ls1 := [some (.ref x0), some (.int x1), none, some (.int x3)]) (fun f => rfl) (ob214_30 d k4 hk4 x0 x1 x3 x2 (0 : Int32) q1.2)
    · refine OkF.eq 3 (Y := fun f => if oc q1.2 x0 12 = true then (rk px kx f (d + 0) 173 0 [some (.ref x0), some (.int x3)] [] q1.2).bind (fun q => rk px kx f (d + 1) 214 26 [some (.ref x0), some (.int x1), some (.int x2), some (.int x3)] (q.1.toList ++ [.int x2]) q.2) else none) (fun f => rfl) ?_
      refine OkF.grd (fun _ => ?_)
      refine OkF.bind (w1 := wI) (om173 (d + 0) x0 x3 q1.2) (fun q2 => ?_)
      refine OkF.eq 1 (Y := fun f => rk px kx f (d + 1) 214 30 [some (.ref x0), some (.int x1), some (.int x2), some (.int x3)] [.int q2.1, .int x2] q2.2) (fun f => rfl) ?_
      exact OkF.kl (ls1 := [some (.ref x0), some (.int x1), none, some (.int x3)]) (fun f => rfl) (ob214_30 d k4 hk4 x0 x1 x3 x2 q2.1 q2.2)
def l214_4 : Nat → Nat → Int32 → Int32 → Int32 → Sx → Option (Int32 × Sx)
  | 0 => fun _ _ _ _ _ => none
  | n + 1 => fun x0 x1 x2 x3 S => b214_4 (l214_4 n) x0 x1 x2 x3 S
set_option maxRecDepth 100000 in
theorem ol214_4 (d : Nat) : ∀ (n : Nat) (x0 : Nat) (x1 : Int32) (x2 : Int32) (x3 : Int32) (S : Sx), OkF wI (fun f => rk px kx f (d + 1) 214 4 [some (.ref x0), some (.int x1), some (.int x2), some (.int x3)] [] S) (l214_4 n x0 x1 x2 x3 S) := by
  intro n
  induction n with
  | zero => intro x0 x1 x2 x3 S; exact OkF.no
  | succ n ih => intro x0 x1 x2 x3 S; exact ob214_4 d (l214_4 n) ih x0 x1 x2 x3 S
def m214 (x0 : Nat) (x1 : Int32) (S : Sx) : Option (Int32 × Sx) :=
  l214_4 1000 x0 x1 (0 : Int32) (0 : Int32) S
set_option maxRecDepth 100000 in
theorem om214 (d : Nat) (x0 : Nat) (x1 : Int32) (S : Sx) : OkF wI (fun f => rk px kx f (d + 1) 214 0 [some (.ref x0), some (.int x1), none, none] [] S) (m214 x0 x1 S) := by
  unfold m214
  refine OkF.eq 4 (Y := fun f => rk px kx f (d + 1) 214 4 [some (.ref x0), some (.int x1), some (.int (0 : Int32)), some (.int (0 : Int32))] [] S) (fun f => rfl) ?_
  exact OkF.kl (ls1 := [some (.ref x0), some (.int x1), some (.int (0 : Int32)), some (.int (0 : Int32))]) (fun f => rfl) (ol214_4 d 1000 x0 x1 (0 : Int32) (0 : Int32) S)
-- DoorSoldModel.cheapest(II)I
def b213_107 (k28 : Nat → Int32 → Int32 → Int32 → Int32 → Sx → Option (Int32 × Sx)) (x0 : Nat) (x1 : Int32) (x2 : Int32) (x4 : Int32) (s0 : Int32) (S : Sx) : Option (Int32 × Sx) :=
  k28 x0 x1 x2 s0 (x4 + (1 : Int32)) S
set_option maxRecDepth 100000 in
theorem ob213_107 (d : Nat) (k28 : Nat → Int32 → Int32 → Int32 → Int32 → Sx → Option (Int32 × Sx)) (hk28 : ∀ (x0 : Nat) (x1 : Int32) (x2 : Int32) (x3 : Int32) (x4 : Int32) (S : Sx), OkF wI (fun f => rk px kx f (d + 6) 213 28 [some (.ref x0), some (.int x1), some (.int x2), some (.int x3), some (.int x4), none] [] S) (k28 x0 x1 x2 x3 x4 S)) (x0 : Nat) (x1 : Int32) (x2 : Int32) (x4 : Int32) (s0 : Int32) (S : Sx) : OkF wI (fun f => rk px kx f (d + 6) 213 107 [some (.ref x0), some (.int x1), some (.int x2), none, some (.int x4), none] [.int s0] S) (b213_107 k28 x0 x1 x2 x4 s0 S) := by
  unfold b213_107
  refine OkF.eq 3 (Y := fun f => rk px kx f (d + 6) 213 28 [some (.ref x0), some (.int x1), some (.int x2), some (.int s0), some (.int (x4 + (1 : Int32))), none] [] S) (fun f => rfl) ?_
  exact OkF.kl (ls1 := [some (.ref x0), some (.int x1), some (.int x2), some (.int s0), some (.int (x4 + (1 : Int32))), none]) (fun f => rfl) (hk28 x0 x1 x2 s0 (x4 + (1 : Int32)) S)
def b213_106 (k28 : Nat → Int32 → Int32 → Int32 → Int32 → Sx → Option (Int32 × Sx)) (x0 : Nat) (x1 : Int32) (x2 : Int32) (x3 : Int32) (x4 : Int32) (S : Sx) : Option (Int32 × Sx) :=
  b213_107 k28 x0 x1 x2 x4 x3 S
set_option maxRecDepth 100000 in
theorem ob213_106 (d : Nat) (k28 : Nat → Int32 → Int32 → Int32 → Int32 → Sx → Option (Int32 × Sx)) (hk28 : ∀ (x0 : Nat) (x1 : Int32) (x2 : Int32) (x3 : Int32) (x4 : Int32) (S : Sx), OkF wI (fun f => rk px kx f (d + 6) 213 28 [some (.ref x0), some (.int x1), some (.int x2), some (.int x3), some (.int x4), none] [] S) (k28 x0 x1 x2 x3 x4 S)) (x0 : Nat) (x1 : Int32) (x2 : Int32) (x3 : Int32) (x4 : Int32) (S : Sx) : OkF wI (fun f => rk px kx f (d + 6) 213 106 [some (.ref x0), some (.int x1), some (.int x2), some (.int x3), some (.int x4), none] [] S) (b213_106 k28 x0 x1 x2 x3 x4 S) := by
  unfold b213_106
  refine OkF.eq 1 (Y := fun f => rk px kx f (d + 6) 213 107 [some (.ref x0), some (.int x1), some (.int x2), some (.int x3), some (.int x4), none] [.int x3] S) (fun f => rfl) ?_
  exact OkF.kl (ls1 := [some (.ref x0), some (.int x1), some (.int x2), none, some (.int x4), none]) (fun f => rfl) (ob213_107 d k28 hk28 x0 x1 x2 x4 x3 S)
def b213_76 (k28 : Nat → Int32 → Int32 → Int32 → Int32 → Sx → Option (Int32 × Sx)) (x0 : Nat) (x1 : Int32) (x2 : Int32) (x3 : Int32) (x4 : Int32) (s0 : Int32) (S : Sx) : Option (Int32 × Sx) :=
  if s0 = 0 then b213_106 k28 x0 x1 x2 x3 x4 S else if oc S x0 12 = true then (S.2.2.2.1 x0 8).bind fun a1 => if inb (3 : Int32) (al S a1) = true then if oc S x0 12 = true then (m209 x0 x1 ((S.2.1 a1 (3 : Int32).toNatClampNeg) ||| x4) S).bind fun q2 => if x2 < q2.1 then b213_106 k28 x0 x1 x2 x3 x4 q2.2 else b213_107 k28 x0 x1 x2 x4 x4 q2.2 else none else none else none
set_option maxRecDepth 100000 in
theorem ob213_76 (d : Nat) (k28 : Nat → Int32 → Int32 → Int32 → Int32 → Sx → Option (Int32 × Sx)) (hk28 : ∀ (x0 : Nat) (x1 : Int32) (x2 : Int32) (x3 : Int32) (x4 : Int32) (S : Sx), OkF wI (fun f => rk px kx f (d + 6) 213 28 [some (.ref x0), some (.int x1), some (.int x2), some (.int x3), some (.int x4), none] [] S) (k28 x0 x1 x2 x3 x4 S)) (x0 : Nat) (x1 : Int32) (x2 : Int32) (x3 : Int32) (x4 : Int32) (s0 : Int32) (S : Sx) : OkF wI (fun f => rk px kx f (d + 6) 213 76 [some (.ref x0), some (.int x1), some (.int x2), some (.int x3), some (.int x4), none] [.int s0] S) (b213_76 k28 x0 x1 x2 x3 x4 s0 S) := by
  unfold b213_76
  refine OkF.eq 3 (Y := fun f => if s0 = 0 then rk px kx f (d + 6) 213 106 [some (.ref x0), some (.int x1), some (.int x2), some (.int x3), some (.int x4), some (.int s0)] [] S else rk px kx f (d + 6) 213 83 [some (.ref x0), some (.int x1), some (.int x2), some (.int x3), some (.int x4), some (.int s0)] [] S) (fun f => rfl) ?_
  refine OkF.ite (fun _ => ?_) (fun _ => ?_)
  · exact OkF.kl (ls1 := [some (.ref x0), some (.int x1), some (.int x2), some (.int x3), some (.int x4), none]) (fun f => rfl) (ob213_106 d k28 hk28 x0 x1 x2 x3 x4 S)
  · refine OkF.eq 4 (Y := fun f => if oc S x0 12 = true then rk px kx f (d + 6) 213 89 [some (.ref x0), some (.int x1), some (.int x2), some (.int x3), some (.int x4), some (.int s0)] (va_rf (S.2.2.2.1 x0 8) :: [.int x1, .ref x0]) S else none) (fun f => rfl) ?_
    refine OkF.grd (fun _ => ?_)
    refine OkF.rf (fun a1 => ?_)
    refine OkF.eq 2 (Y := fun f => if inb (3 : Int32) (al S a1) = true then rk px kx f (d + 6) 213 91 [some (.ref x0), some (.int x1), some (.int x2), some (.int x3), some (.int x4), some (.int s0)] [.int (S.2.1 a1 (3 : Int32).toNatClampNeg), .int x1, .ref x0] S else none) (fun f => rfl) ?_
    refine OkF.grd (fun _ => ?_)
    refine OkF.eq 3 (Y := fun f => if oc S x0 12 = true then (rk px kx f (d + 5) 209 0 [some (.ref x0), some (.int x1), some (.int ((S.2.1 a1 (3 : Int32).toNatClampNeg) ||| x4)), none] [] S).bind (fun q => rk px kx f (d + 6) 213 97 [some (.ref x0), some (.int x1), some (.int x2), some (.int x3), some (.int x4), some (.int s0)] (q.1.toList ++ []) q.2) else none) (fun f => rfl) ?_
    refine OkF.grd (fun _ => ?_)
    refine OkF.bind (w1 := wI) (om209 (d + 0) x0 x1 ((S.2.1 a1 (3 : Int32).toNatClampNeg) ||| x4) S) (fun q2 => ?_)
    refine OkF.eq 2 (Y := fun f => if x2 < q2.1 then rk px kx f (d + 6) 213 106 [some (.ref x0), some (.int x1), some (.int x2), some (.int x3), some (.int x4), some (.int s0)] [] q2.2 else rk px kx f (d + 6) 213 101 [some (.ref x0), some (.int x1), some (.int x2), some (.int x3), some (.int x4), some (.int s0)] [] q2.2) (fun f => rfl) ?_
    refine OkF.ite (fun _ => ?_) (fun _ => ?_)
    · exact OkF.kl (ls1 := [some (.ref x0), some (.int x1), some (.int x2), some (.int x3), some (.int x4), none]) (fun f => rfl) (ob213_106 d k28 hk28 x0 x1 x2 x3 x4 q2.2)
    · refine OkF.eq 2 (Y := fun f => rk px kx f (d + 6) 213 107 [some (.ref x0), some (.int x1), some (.int x2), some (.int x3), some (.int x4), some (.int s0)] [.int x4] q2.2) (fun f => rfl) ?_
      exact OkF.kl (ls1 := [some (.ref x0), some (.int x1), some (.int x2), none, some (.int x4), none]) (fun f => rfl) (ob213_107 d k28 hk28 x0 x1 x2 x4 x4 q2.2)
def b213_71 (k28 : Nat → Int32 → Int32 → Int32 → Int32 → Sx → Option (Int32 × Sx)) (x0 : Nat) (x1 : Int32) (x2 : Int32) (x3 : Int32) (x4 : Int32) (S : Sx) : Option (Int32 × Sx) :=
  b213_76 k28 x0 x1 x2 x3 x4 (1 : Int32) S
set_option maxRecDepth 100000 in
theorem ob213_71 (d : Nat) (k28 : Nat → Int32 → Int32 → Int32 → Int32 → Sx → Option (Int32 × Sx)) (hk28 : ∀ (x0 : Nat) (x1 : Int32) (x2 : Int32) (x3 : Int32) (x4 : Int32) (S : Sx), OkF wI (fun f => rk px kx f (d + 6) 213 28 [some (.ref x0), some (.int x1), some (.int x2), some (.int x3), some (.int x4), none] [] S) (k28 x0 x1 x2 x3 x4 S)) (x0 : Nat) (x1 : Int32) (x2 : Int32) (x3 : Int32) (x4 : Int32) (S : Sx) : OkF wI (fun f => rk px kx f (d + 6) 213 71 [some (.ref x0), some (.int x1), some (.int x2), some (.int x3), some (.int x4), none] [] S) (b213_71 k28 x0 x1 x2 x3 x4 S) := by
  unfold b213_71
  refine OkF.eq 2 (Y := fun f => rk px kx f (d + 6) 213 76 [some (.ref x0), some (.int x1), some (.int x2), some (.int x3), some (.int x4), none] [.int (1 : Int32)] S) (fun f => rfl) ?_
  exact OkF.kl (ls1 := [some (.ref x0), some (.int x1), some (.int x2), some (.int x3), some (.int x4), none]) (fun f => rfl) (ob213_76 d k28 hk28 x0 x1 x2 x3 x4 (1 : Int32) S)
def b213_75 (k28 : Nat → Int32 → Int32 → Int32 → Int32 → Sx → Option (Int32 × Sx)) (x0 : Nat) (x1 : Int32) (x2 : Int32) (x3 : Int32) (x4 : Int32) (S : Sx) : Option (Int32 × Sx) :=
  b213_76 k28 x0 x1 x2 x3 x4 (0 : Int32) S
set_option maxRecDepth 100000 in
theorem ob213_75 (d : Nat) (k28 : Nat → Int32 → Int32 → Int32 → Int32 → Sx → Option (Int32 × Sx)) (hk28 : ∀ (x0 : Nat) (x1 : Int32) (x2 : Int32) (x3 : Int32) (x4 : Int32) (S : Sx), OkF wI (fun f => rk px kx f (d + 6) 213 28 [some (.ref x0), some (.int x1), some (.int x2), some (.int x3), some (.int x4), none] [] S) (k28 x0 x1 x2 x3 x4 S)) (x0 : Nat) (x1 : Int32) (x2 : Int32) (x3 : Int32) (x4 : Int32) (S : Sx) : OkF wI (fun f => rk px kx f (d + 6) 213 75 [some (.ref x0), some (.int x1), some (.int x2), some (.int x3), some (.int x4), none] [] S) (b213_75 k28 x0 x1 x2 x3 x4 S) := by
  unfold b213_75
  refine OkF.eq 1 (Y := fun f => rk px kx f (d + 6) 213 76 [some (.ref x0), some (.int x1), some (.int x2), some (.int x3), some (.int x4), none] [.int (0 : Int32)] S) (fun f => rfl) ?_
  exact OkF.kl (ls1 := [some (.ref x0), some (.int x1), some (.int x2), some (.int x3), some (.int x4), none]) (fun f => rfl) (ob213_76 d k28 hk28 x0 x1 x2 x3 x4 (0 : Int32) S)
def b213_28 (k28 : Nat → Int32 → Int32 → Int32 → Int32 → Sx → Option (Int32 × Sx)) (x0 : Nat) (x1 : Int32) (x2 : Int32) (x3 : Int32) (x4 : Int32) (S : Sx) : Option (Int32 × Sx) :=
  if oc S x0 12 = true then if ((1 : Int32) <<< ((S.2.1 x0 4) &&& 31)) ≤ x4 then if x3 = (-9 : Int32) then some ((-9 : Int32), S) else if oc S x0 12 = true then (m214 x0 x3 S).bind fun q3 => if oc q3.2 x0 12 = true then (m211 x0 q3.1 x3 q3.2).bind fun q4 => some (q4.1, q4.2) else none else none else if oc S x0 12 = true then (S.2.2.2.1 x0 8).bind fun a5 => if inb (3 : Int32) (al S a5) = true then if (x4 &&& (S.2.1 a5 (3 : Int32).toNatClampNeg)) = 0 then if x3 = (-9 : Int32) then b213_71 k28 x0 x1 x2 x3 x4 S else if oc S x0 12 = true then (m214 x0 x4 S).bind fun q6 => if oc q6.2 x0 12 = true then (m214 x0 x3 q6.2).bind fun q7 => if q7.1 ≤ q6.1 then b213_75 k28 x0 x1 x2 x3 x4 q7.2 else b213_71 k28 x0 x1 x2 x3 x4 q7.2 else none else none else b213_75 k28 x0 x1 x2 x3 x4 S else none else none else none
set_option maxRecDepth 100000 in
theorem ob213_28 (d : Nat) (k28 : Nat → Int32 → Int32 → Int32 → Int32 → Sx → Option (Int32 × Sx)) (hk28 : ∀ (x0 : Nat) (x1 : Int32) (x2 : Int32) (x3 : Int32) (x4 : Int32) (S : Sx), OkF wI (fun f => rk px kx f (d + 6) 213 28 [some (.ref x0), some (.int x1), some (.int x2), some (.int x3), some (.int x4), none] [] S) (k28 x0 x1 x2 x3 x4 S)) (x0 : Nat) (x1 : Int32) (x2 : Int32) (x3 : Int32) (x4 : Int32) (S : Sx) : OkF wI (fun f => rk px kx f (d + 6) 213 28 [some (.ref x0), some (.int x1), some (.int x2), some (.int x3), some (.int x4), none] [] S) (b213_28 k28 x0 x1 x2 x3 x4 S) := by
  unfold b213_28
  refine OkF.eq 4 (Y := fun f => if oc S x0 12 = true then rk px kx f (d + 6) 213 35 [some (.ref x0), some (.int x1), some (.int x2), some (.int x3), some (.int x4), none] [.int (S.2.1 x0 4), .int (1 : Int32), .int x4] S else none) (fun f => rfl) ?_
  refine OkF.grd (fun _ => ?_)
  refine OkF.eq 2 (Y := fun f => if ((1 : Int32) <<< ((S.2.1 x0 4) &&& 31)) ≤ x4 then rk px kx f (d + 6) 213 114 [some (.ref x0), some (.int x1), some (.int x2), some (.int x3), some (.int x4), none] [] S else rk px kx f (d + 6) 213 39 [some (.ref x0), some (.int x1), some (.int x2), some (.int x3), some (.int x4), none] [] S) (fun f => rfl) ?_
  refine OkF.ite (fun _ => ?_) (fun _ => ?_)
  · refine OkF.eq 3 (Y := fun f => if x3 = (-9 : Int32) then rk px kx f (d + 6) 213 120 [some (.ref x0), some (.int x1), some (.int x2), some (.int x3), some (.int x4), none] [] S else rk px kx f (d + 6) 213 125 [some (.ref x0), some (.int x1), some (.int x2), some (.int x3), some (.int x4), none] [] S) (fun f => rfl) ?_
    refine OkF.ite (fun _ => ?_) (fun _ => ?_)
    · exact OkF.ret 3 (fun f => rfl)
    · refine OkF.eq 4 (Y := fun f => if oc S x0 12 = true then (rk px kx f (d + 5) 214 0 [some (.ref x0), some (.int x3), none, none] [] S).bind (fun q => rk px kx f (d + 6) 213 131 [some (.ref x0), some (.int x1), some (.int x2), some (.int x3), some (.int x4), none] (q.1.toList ++ [.ref x0]) q.2) else none) (fun f => rfl) ?_
      refine OkF.grd (fun _ => ?_)
      refine OkF.bind (w1 := wI) (om214 (d + 4) x0 x3 S) (fun q3 => ?_)
      refine OkF.eq 2 (Y := fun f => if oc q3.2 x0 12 = true then (rk px kx f (d + 5) 211 0 [some (.ref x0), some (.int q3.1), some (.int x3)] [] q3.2).bind (fun q => rk px kx f (d + 6) 213 135 [some (.ref x0), some (.int x1), some (.int x2), some (.int x3), some (.int x4), none] (q.1.toList ++ []) q.2) else none) (fun f => rfl) ?_
      refine OkF.grd (fun _ => ?_)
      refine OkF.bind (w1 := wI) (om211 (d + 5) x0 q3.1 x3 q3.2) (fun q4 => ?_)
      exact OkF.ret 1 (fun f => rfl)
  · refine OkF.eq 3 (Y := fun f => if oc S x0 12 = true then rk px kx f (d + 6) 213 45 [some (.ref x0), some (.int x1), some (.int x2), some (.int x3), some (.int x4), none] (va_rf (S.2.2.2.1 x0 8) :: [.int x4]) S else none) (fun f => rfl) ?_
    refine OkF.grd (fun _ => ?_)
    refine OkF.rf (fun a5 => ?_)
    refine OkF.eq 2 (Y := fun f => if inb (3 : Int32) (al S a5) = true then rk px kx f (d + 6) 213 47 [some (.ref x0), some (.int x1), some (.int x2), some (.int x3), some (.int x4), none] [.int (S.2.1 a5 (3 : Int32).toNatClampNeg), .int x4] S else none) (fun f => rfl) ?_
    refine OkF.grd (fun _ => ?_)
    refine OkF.eq 2 (Y := fun f => if (x4 &&& (S.2.1 a5 (3 : Int32).toNatClampNeg)) = 0 then rk px kx f (d + 6) 213 51 [some (.ref x0), some (.int x1), some (.int x2), some (.int x3), some (.int x4), none] [] S else rk px kx f (d + 6) 213 75 [some (.ref x0), some (.int x1), some (.int x2), some (.int x3), some (.int x4), none] [] S) (fun f => rfl) ?_
    refine OkF.ite (fun _ => ?_) (fun _ => ?_)
    · refine OkF.eq 3 (Y := fun f => if x3 = (-9 : Int32) then rk px kx f (d + 6) 213 71 [some (.ref x0), some (.int x1), some (.int x2), some (.int x3), some (.int x4), none] [] S else rk px kx f (d + 6) 213 57 [some (.ref x0), some (.int x1), some (.int x2), some (.int x3), some (.int x4), none] [] S) (fun f => rfl) ?_
      refine OkF.ite (fun _ => ?_) (fun _ => ?_)
      · exact OkF.kl (ls1 := [some (.ref x0), some (.int x1), some (.int x2), some (.int x3), some (.int x4), none]) (fun f => rfl) (ob213_71 d k28 hk28 x0 x1 x2 x3 x4 S)
      · refine OkF.eq 3 (Y := fun f => if oc S x0 12 = true then (rk px kx f (d + 5) 214 0 [some (.ref x0), some (.int x4), none, none] [] S).bind (fun q => rk px kx f (d + 6) 213 63 [some (.ref x0), some (.int x1), some (.int x2), some (.int x3), some (.int x4), none] (q.1.toList ++ []) q.2) else none) (fun f => rfl) ?_
        refine OkF.grd (fun _ => ?_)
        refine OkF.bind (w1 := wI) (om214 (d + 4) x0 x4 S) (fun q6 => ?_)
        refine OkF.eq 3 (Y := fun f => if oc q6.2 x0 12 = true then (rk px kx f (d + 5) 214 0 [some (.ref x0), some (.int x3), none, none] [] q6.2).bind (fun q => rk px kx f (d + 6) 213 68 [some (.ref x0), some (.int x1), some (.int x2), some (.int x3), some (.int x4), none] (q.1.toList ++ [.int q6.1]) q.2) else none) (fun f => rfl) ?_
        refine OkF.grd (fun _ => ?_)
        refine OkF.bind (w1 := wI) (om214 (d + 4) x0 x3 q6.2) (fun q7 => ?_)
        refine OkF.eq 1 (Y := fun f => if q7.1 ≤ q6.1 then rk px kx f (d + 6) 213 75 [some (.ref x0), some (.int x1), some (.int x2), some (.int x3), some (.int x4), none] [] q7.2 else rk px kx f (d + 6) 213 71 [some (.ref x0), some (.int x1), some (.int x2), some (.int x3), some (.int x4), none] [] q7.2) (fun f => rfl) ?_
        refine OkF.ite (fun _ => ?_) (fun _ => ?_)
        · exact OkF.kl (ls1 := [some (.ref x0), some (.int x1), some (.int x2), some (.int x3), some (.int x4), none]) (fun f => rfl) (ob213_75 d k28 hk28 x0 x1 x2 x3 x4 q7.2)
        · exact OkF.kl (ls1 := [some (.ref x0), some (.int x1), some (.int x2), some (.int x3), some (.int x4), none]) (fun f => rfl) (ob213_71 d k28 hk28 x0 x1 x2 x3 x4 q7.2)
    · exact OkF.kl (ls1 := [some (.ref x0), some (.int x1), some (.int x2), some (.int x3), some (.int x4), none]) (fun f => rfl) (ob213_75 d k28 hk28 x0 x1 x2 x3 x4 S)
def l213_28 : Nat → Nat → Int32 → Int32 → Int32 → Int32 → Sx → Option (Int32 × Sx)
  | 0 => fun _ _ _ _ _ _ => none
  | n + 1 => fun x0 x1 x2 x3 x4 S => b213_28 (l213_28 n) x0 x1 x2 x3 x4 S
set_option maxRecDepth 100000 in
theorem ol213_28 (d : Nat) : ∀ (n : Nat) (x0 : Nat) (x1 : Int32) (x2 : Int32) (x3 : Int32) (x4 : Int32) (S : Sx), OkF wI (fun f => rk px kx f (d + 6) 213 28 [some (.ref x0), some (.int x1), some (.int x2), some (.int x3), some (.int x4), none] [] S) (l213_28 n x0 x1 x2 x3 x4 S) := by
  intro n
  induction n with
  | zero => intro x0 x1 x2 x3 x4 S; exact OkF.no
  | succ n ih => intro x0 x1 x2 x3 x4 S; exact ob213_28 d (l213_28 n) ih x0 x1 x2 x3 x4 S
def m213 (x0 : Nat) (x1 : Int32) (x2 : Int32) (S : Sx) : Option (Int32 × Sx) :=
  if oc S x0 12 = true then (m208 x0 x1 S).bind fun q8 => if q8.1 = 0 then some ((-1 : Int32), q8.2) else (m150 x2.toInt64 (0 : Int64) (30 : Int64) q8.2).bind fun q9 => if q9.1 = 0 then some ((-1 : Int32), q9.2) else l213_28 1000 x0 x1 x2 (-9 : Int32) (0 : Int32) q9.2 else none
set_option maxRecDepth 100000 in
theorem om213 (d : Nat) (x0 : Nat) (x1 : Int32) (x2 : Int32) (S : Sx) : OkF wI (fun f => rk px kx f (d + 6) 213 0 [some (.ref x0), some (.int x1), some (.int x2), none, none, none] [] S) (m213 x0 x1 x2 S) := by
  unfold m213
  refine OkF.eq 3 (Y := fun f => if oc S x0 12 = true then (rk px kx f (d + 5) 208 0 [some (.ref x0), some (.int x1)] [] S).bind (fun q => rk px kx f (d + 6) 213 5 [some (.ref x0), some (.int x1), some (.int x2), none, none, none] (q.1.toList ++ []) q.2) else none) (fun f => rfl) ?_
  refine OkF.grd (fun _ => ?_)
  refine OkF.bind (w1 := wI) (om208 (d + 4) x0 x1 S) (fun q8 => ?_)
  refine OkF.eq 1 (Y := fun f => if q8.1 = 0 then rk px kx f (d + 6) 213 20 [some (.ref x0), some (.int x1), some (.int x2), none, none, none] [] q8.2 else rk px kx f (d + 6) 213 8 [some (.ref x0), some (.int x1), some (.int x2), none, none, none] [] q8.2) (fun f => rfl) ?_
  refine OkF.ite (fun _ => ?_) (fun _ => ?_)
  · exact OkF.ret 2 (fun f => rfl)
  · refine OkF.eq 5 (Y := fun f => (rk px kx f (d + 5) 150 0 [some (.long x2.toInt64), none, some (.long (0 : Int64)), none, some (.long (30 : Int64)), none] [] q8.2).bind (fun q => rk px kx f (d + 6) 213 17 [some (.ref x0), some (.int x1), some (.int x2), none, none, none] (q.1.toList ++ []) q.2)) (fun f => rfl) ?_
    refine OkF.bind (w1 := wI) (om150 (d + 5) x2.toInt64 (0 : Int64) (30 : Int64) q8.2) (fun q9 => ?_)
    refine OkF.eq 1 (Y := fun f => if q9.1 = 0 then rk px kx f (d + 6) 213 20 [some (.ref x0), some (.int x1), some (.int x2), none, none, none] [] q9.2 else rk px kx f (d + 6) 213 22 [some (.ref x0), some (.int x1), some (.int x2), none, none, none] [] q9.2) (fun f => rfl) ?_
    refine OkF.ite (fun _ => ?_) (fun _ => ?_)
    · exact OkF.ret 2 (fun f => rfl)
    · refine OkF.eq 4 (Y := fun f => rk px kx f (d + 6) 213 28 [some (.ref x0), some (.int x1), some (.int x2), some (.int (-9 : Int32)), some (.int (0 : Int32)), none] [] q9.2) (fun f => rfl) ?_
      exact OkF.kl (ls1 := [some (.ref x0), some (.int x1), some (.int x2), some (.int (-9 : Int32)), some (.int (0 : Int32)), none]) (fun f => rfl) (ol213_28 d 1000 x0 x1 x2 (-9 : Int32) (0 : Int32) q9.2)
-- DoorSoldModel.shut(II)I
def b215_109 (k28 : Nat → Int32 → Int32 → Int32 → Int32 → Sx → Option (Int32 × Sx)) (x0 : Nat) (x1 : Int32) (x2 : Int32) (x4 : Int32) (s0 : Int32) (S : Sx) : Option (Int32 × Sx) :=
  k28 x0 x1 x2 s0 (x4 + (1 : Int32)) S
set_option maxRecDepth 100000 in
theorem ob215_109 (d : Nat) (k28 : Nat → Int32 → Int32 → Int32 → Int32 → Sx → Option (Int32 × Sx)) (hk28 : ∀ (x0 : Nat) (x1 : Int32) (x2 : Int32) (x3 : Int32) (x4 : Int32) (S : Sx), OkF wI (fun f => rk px kx f (d + 6) 215 28 [some (.ref x0), some (.int x1), some (.int x2), some (.int x3), some (.int x4), none] [] S) (k28 x0 x1 x2 x3 x4 S)) (x0 : Nat) (x1 : Int32) (x2 : Int32) (x4 : Int32) (s0 : Int32) (S : Sx) : OkF wI (fun f => rk px kx f (d + 6) 215 109 [some (.ref x0), some (.int x1), some (.int x2), none, some (.int x4), none] [.int s0] S) (b215_109 k28 x0 x1 x2 x4 s0 S) := by
  unfold b215_109
  refine OkF.eq 3 (Y := fun f => rk px kx f (d + 6) 215 28 [some (.ref x0), some (.int x1), some (.int x2), some (.int s0), some (.int (x4 + (1 : Int32))), none] [] S) (fun f => rfl) ?_
  exact OkF.kl (ls1 := [some (.ref x0), some (.int x1), some (.int x2), some (.int s0), some (.int (x4 + (1 : Int32))), none]) (fun f => rfl) (hk28 x0 x1 x2 s0 (x4 + (1 : Int32)) S)
def b215_108 (k28 : Nat → Int32 → Int32 → Int32 → Int32 → Sx → Option (Int32 × Sx)) (x0 : Nat) (x1 : Int32) (x2 : Int32) (x3 : Int32) (x4 : Int32) (S : Sx) : Option (Int32 × Sx) :=
  b215_109 k28 x0 x1 x2 x4 x3 S
set_option maxRecDepth 100000 in
theorem ob215_108 (d : Nat) (k28 : Nat → Int32 → Int32 → Int32 → Int32 → Sx → Option (Int32 × Sx)) (hk28 : ∀ (x0 : Nat) (x1 : Int32) (x2 : Int32) (x3 : Int32) (x4 : Int32) (S : Sx), OkF wI (fun f => rk px kx f (d + 6) 215 28 [some (.ref x0), some (.int x1), some (.int x2), some (.int x3), some (.int x4), none] [] S) (k28 x0 x1 x2 x3 x4 S)) (x0 : Nat) (x1 : Int32) (x2 : Int32) (x3 : Int32) (x4 : Int32) (S : Sx) : OkF wI (fun f => rk px kx f (d + 6) 215 108 [some (.ref x0), some (.int x1), some (.int x2), some (.int x3), some (.int x4), none] [] S) (b215_108 k28 x0 x1 x2 x3 x4 S) := by
  unfold b215_108
  refine OkF.eq 1 (Y := fun f => rk px kx f (d + 6) 215 109 [some (.ref x0), some (.int x1), some (.int x2), some (.int x3), some (.int x4), none] [.int x3] S) (fun f => rfl) ?_
  exact OkF.kl (ls1 := [some (.ref x0), some (.int x1), some (.int x2), none, some (.int x4), none]) (fun f => rfl) (ob215_109 d k28 hk28 x0 x1 x2 x4 x3 S)
def b215_76 (k28 : Nat → Int32 → Int32 → Int32 → Int32 → Sx → Option (Int32 × Sx)) (x0 : Nat) (x1 : Int32) (x2 : Int32) (x3 : Int32) (x4 : Int32) (s0 : Int32) (S : Sx) : Option (Int32 × Sx) :=
  if s0 = 0 then b215_108 k28 x0 x1 x2 x3 x4 S else if oc S x0 12 = true then (S.2.2.2.1 x0 8).bind fun a1 => if inb (3 : Int32) (al S a1) = true then if oc S x0 12 = true then (m209 x0 x1 ((S.2.1 a1 (3 : Int32).toNatClampNeg) &&& (x4 ^^^ (-1 : Int32))) S).bind fun q2 => if q2.1 ≤ x2 then b215_108 k28 x0 x1 x2 x3 x4 q2.2 else b215_109 k28 x0 x1 x2 x4 x4 q2.2 else none else none else none
set_option maxRecDepth 100000 in
theorem ob215_76 (d : Nat) (k28 : Nat → Int32 → Int32 → Int32 → Int32 → Sx → Option (Int32 × Sx)) (hk28 : ∀ (x0 : Nat) (x1 : Int32) (x2 : Int32) (x3 : Int32) (x4 : Int32) (S : Sx), OkF wI (fun f => rk px kx f (d + 6) 215 28 [some (.ref x0), some (.int x1), some (.int x2), some (.int x3), some (.int x4), none] [] S) (k28 x0 x1 x2 x3 x4 S)) (x0 : Nat) (x1 : Int32) (x2 : Int32) (x3 : Int32) (x4 : Int32) (s0 : Int32) (S : Sx) : OkF wI (fun f => rk px kx f (d + 6) 215 76 [some (.ref x0), some (.int x1), some (.int x2), some (.int x3), some (.int x4), none] [.int s0] S) (b215_76 k28 x0 x1 x2 x3 x4 s0 S) := by
  unfold b215_76
  refine OkF.eq 3 (Y := fun f => if s0 = 0 then rk px kx f (d + 6) 215 108 [some (.ref x0), some (.int x1), some (.int x2), some (.int x3), some (.int x4), some (.int s0)] [] S else rk px kx f (d + 6) 215 83 [some (.ref x0), some (.int x1), some (.int x2), some (.int x3), some (.int x4), some (.int s0)] [] S) (fun f => rfl) ?_
  refine OkF.ite (fun _ => ?_) (fun _ => ?_)
  · exact OkF.kl (ls1 := [some (.ref x0), some (.int x1), some (.int x2), some (.int x3), some (.int x4), none]) (fun f => rfl) (ob215_108 d k28 hk28 x0 x1 x2 x3 x4 S)
  · refine OkF.eq 4 (Y := fun f => if oc S x0 12 = true then rk px kx f (d + 6) 215 89 [some (.ref x0), some (.int x1), some (.int x2), some (.int x3), some (.int x4), some (.int s0)] (va_rf (S.2.2.2.1 x0 8) :: [.int x1, .ref x0]) S else none) (fun f => rfl) ?_
    refine OkF.grd (fun _ => ?_)
    refine OkF.rf (fun a1 => ?_)
    refine OkF.eq 2 (Y := fun f => if inb (3 : Int32) (al S a1) = true then rk px kx f (d + 6) 215 91 [some (.ref x0), some (.int x1), some (.int x2), some (.int x3), some (.int x4), some (.int s0)] [.int (S.2.1 a1 (3 : Int32).toNatClampNeg), .int x1, .ref x0] S else none) (fun f => rfl) ?_
    refine OkF.grd (fun _ => ?_)
    refine OkF.eq 5 (Y := fun f => if oc S x0 12 = true then (rk px kx f (d + 5) 209 0 [some (.ref x0), some (.int x1), some (.int ((S.2.1 a1 (3 : Int32).toNatClampNeg) &&& (x4 ^^^ (-1 : Int32)))), none] [] S).bind (fun q => rk px kx f (d + 6) 215 99 [some (.ref x0), some (.int x1), some (.int x2), some (.int x3), some (.int x4), some (.int s0)] (q.1.toList ++ []) q.2) else none) (fun f => rfl) ?_
    refine OkF.grd (fun _ => ?_)
    refine OkF.bind (w1 := wI) (om209 (d + 0) x0 x1 ((S.2.1 a1 (3 : Int32).toNatClampNeg) &&& (x4 ^^^ (-1 : Int32))) S) (fun q2 => ?_)
    refine OkF.eq 2 (Y := fun f => if q2.1 ≤ x2 then rk px kx f (d + 6) 215 108 [some (.ref x0), some (.int x1), some (.int x2), some (.int x3), some (.int x4), some (.int s0)] [] q2.2 else rk px kx f (d + 6) 215 103 [some (.ref x0), some (.int x1), some (.int x2), some (.int x3), some (.int x4), some (.int s0)] [] q2.2) (fun f => rfl) ?_
    refine OkF.ite (fun _ => ?_) (fun _ => ?_)
    · exact OkF.kl (ls1 := [some (.ref x0), some (.int x1), some (.int x2), some (.int x3), some (.int x4), none]) (fun f => rfl) (ob215_108 d k28 hk28 x0 x1 x2 x3 x4 q2.2)
    · refine OkF.eq 2 (Y := fun f => rk px kx f (d + 6) 215 109 [some (.ref x0), some (.int x1), some (.int x2), some (.int x3), some (.int x4), some (.int s0)] [.int x4] q2.2) (fun f => rfl) ?_
      exact OkF.kl (ls1 := [some (.ref x0), some (.int x1), some (.int x2), none, some (.int x4), none]) (fun f => rfl) (ob215_109 d k28 hk28 x0 x1 x2 x4 x4 q2.2)
def b215_71 (k28 : Nat → Int32 → Int32 → Int32 → Int32 → Sx → Option (Int32 × Sx)) (x0 : Nat) (x1 : Int32) (x2 : Int32) (x3 : Int32) (x4 : Int32) (S : Sx) : Option (Int32 × Sx) :=
  b215_76 k28 x0 x1 x2 x3 x4 (1 : Int32) S
set_option maxRecDepth 100000 in
theorem ob215_71 (d : Nat) (k28 : Nat → Int32 → Int32 → Int32 → Int32 → Sx → Option (Int32 × Sx)) (hk28 : ∀ (x0 : Nat) (x1 : Int32) (x2 : Int32) (x3 : Int32) (x4 : Int32) (S : Sx), OkF wI (fun f => rk px kx f (d + 6) 215 28 [some (.ref x0), some (.int x1), some (.int x2), some (.int x3), some (.int x4), none] [] S) (k28 x0 x1 x2 x3 x4 S)) (x0 : Nat) (x1 : Int32) (x2 : Int32) (x3 : Int32) (x4 : Int32) (S : Sx) : OkF wI (fun f => rk px kx f (d + 6) 215 71 [some (.ref x0), some (.int x1), some (.int x2), some (.int x3), some (.int x4), none] [] S) (b215_71 k28 x0 x1 x2 x3 x4 S) := by
  unfold b215_71
  refine OkF.eq 2 (Y := fun f => rk px kx f (d + 6) 215 76 [some (.ref x0), some (.int x1), some (.int x2), some (.int x3), some (.int x4), none] [.int (1 : Int32)] S) (fun f => rfl) ?_
  exact OkF.kl (ls1 := [some (.ref x0), some (.int x1), some (.int x2), some (.int x3), some (.int x4), none]) (fun f => rfl) (ob215_76 d k28 hk28 x0 x1 x2 x3 x4 (1 : Int32) S)
def b215_75 (k28 : Nat → Int32 → Int32 → Int32 → Int32 → Sx → Option (Int32 × Sx)) (x0 : Nat) (x1 : Int32) (x2 : Int32) (x3 : Int32) (x4 : Int32) (S : Sx) : Option (Int32 × Sx) :=
  b215_76 k28 x0 x1 x2 x3 x4 (0 : Int32) S
set_option maxRecDepth 100000 in
theorem ob215_75 (d : Nat) (k28 : Nat → Int32 → Int32 → Int32 → Int32 → Sx → Option (Int32 × Sx)) (hk28 : ∀ (x0 : Nat) (x1 : Int32) (x2 : Int32) (x3 : Int32) (x4 : Int32) (S : Sx), OkF wI (fun f => rk px kx f (d + 6) 215 28 [some (.ref x0), some (.int x1), some (.int x2), some (.int x3), some (.int x4), none] [] S) (k28 x0 x1 x2 x3 x4 S)) (x0 : Nat) (x1 : Int32) (x2 : Int32) (x3 : Int32) (x4 : Int32) (S : Sx) : OkF wI (fun f => rk px kx f (d + 6) 215 75 [some (.ref x0), some (.int x1), some (.int x2), some (.int x3), some (.int x4), none] [] S) (b215_75 k28 x0 x1 x2 x3 x4 S) := by
  unfold b215_75
  refine OkF.eq 1 (Y := fun f => rk px kx f (d + 6) 215 76 [some (.ref x0), some (.int x1), some (.int x2), some (.int x3), some (.int x4), none] [.int (0 : Int32)] S) (fun f => rfl) ?_
  exact OkF.kl (ls1 := [some (.ref x0), some (.int x1), some (.int x2), some (.int x3), some (.int x4), none]) (fun f => rfl) (ob215_76 d k28 hk28 x0 x1 x2 x3 x4 (0 : Int32) S)
def b215_28 (k28 : Nat → Int32 → Int32 → Int32 → Int32 → Sx → Option (Int32 × Sx)) (x0 : Nat) (x1 : Int32) (x2 : Int32) (x3 : Int32) (x4 : Int32) (S : Sx) : Option (Int32 × Sx) :=
  if oc S x0 12 = true then if ((1 : Int32) <<< ((S.2.1 x0 4) &&& 31)) ≤ x4 then if x3 = (-9 : Int32) then some ((-9 : Int32), S) else (m210 x3 S).bind fun q3 => if oc q3.2 x0 12 = true then (m211 x0 q3.1 x3 q3.2).bind fun q4 => some (q4.1, q4.2) else none else if oc S x0 12 = true then (S.2.2.2.1 x0 8).bind fun a5 => if inb (3 : Int32) (al S a5) = true then if (x4 &&& ((S.2.1 a5 (3 : Int32).toNatClampNeg) ^^^ (-1 : Int32))) = 0 then if x3 = (-9 : Int32) then b215_71 k28 x0 x1 x2 x3 x4 S else (m210 x4 S).bind fun q6 => (m210 x3 q6.2).bind fun q7 => if q7.1 ≤ q6.1 then b215_75 k28 x0 x1 x2 x3 x4 q7.2 else b215_71 k28 x0 x1 x2 x3 x4 q7.2 else b215_75 k28 x0 x1 x2 x3 x4 S else none else none else none
set_option maxRecDepth 100000 in
theorem ob215_28 (d : Nat) (k28 : Nat → Int32 → Int32 → Int32 → Int32 → Sx → Option (Int32 × Sx)) (hk28 : ∀ (x0 : Nat) (x1 : Int32) (x2 : Int32) (x3 : Int32) (x4 : Int32) (S : Sx), OkF wI (fun f => rk px kx f (d + 6) 215 28 [some (.ref x0), some (.int x1), some (.int x2), some (.int x3), some (.int x4), none] [] S) (k28 x0 x1 x2 x3 x4 S)) (x0 : Nat) (x1 : Int32) (x2 : Int32) (x3 : Int32) (x4 : Int32) (S : Sx) : OkF wI (fun f => rk px kx f (d + 6) 215 28 [some (.ref x0), some (.int x1), some (.int x2), some (.int x3), some (.int x4), none] [] S) (b215_28 k28 x0 x1 x2 x3 x4 S) := by
  unfold b215_28
  refine OkF.eq 4 (Y := fun f => if oc S x0 12 = true then rk px kx f (d + 6) 215 35 [some (.ref x0), some (.int x1), some (.int x2), some (.int x3), some (.int x4), none] [.int (S.2.1 x0 4), .int (1 : Int32), .int x4] S else none) (fun f => rfl) ?_
  refine OkF.grd (fun _ => ?_)
  refine OkF.eq 2 (Y := fun f => if ((1 : Int32) <<< ((S.2.1 x0 4) &&& 31)) ≤ x4 then rk px kx f (d + 6) 215 116 [some (.ref x0), some (.int x1), some (.int x2), some (.int x3), some (.int x4), none] [] S else rk px kx f (d + 6) 215 39 [some (.ref x0), some (.int x1), some (.int x2), some (.int x3), some (.int x4), none] [] S) (fun f => rfl) ?_
  refine OkF.ite (fun _ => ?_) (fun _ => ?_)
  · refine OkF.eq 3 (Y := fun f => if x3 = (-9 : Int32) then rk px kx f (d + 6) 215 122 [some (.ref x0), some (.int x1), some (.int x2), some (.int x3), some (.int x4), none] [] S else rk px kx f (d + 6) 215 127 [some (.ref x0), some (.int x1), some (.int x2), some (.int x3), some (.int x4), none] [] S) (fun f => rfl) ?_
    refine OkF.ite (fun _ => ?_) (fun _ => ?_)
    · exact OkF.ret 3 (fun f => rfl)
    · refine OkF.eq 3 (Y := fun f => (rk px kx f (d + 5) 210 0 [some (.int x3), none, none] [] S).bind (fun q => rk px kx f (d + 6) 215 132 [some (.ref x0), some (.int x1), some (.int x2), some (.int x3), some (.int x4), none] (q.1.toList ++ [.ref x0]) q.2)) (fun f => rfl) ?_
      refine OkF.bind (w1 := wI) (om210 (d + 5) x3 S) (fun q3 => ?_)
      refine OkF.eq 2 (Y := fun f => if oc q3.2 x0 12 = true then (rk px kx f (d + 5) 211 0 [some (.ref x0), some (.int q3.1), some (.int x3)] [] q3.2).bind (fun q => rk px kx f (d + 6) 215 136 [some (.ref x0), some (.int x1), some (.int x2), some (.int x3), some (.int x4), none] (q.1.toList ++ []) q.2) else none) (fun f => rfl) ?_
      refine OkF.grd (fun _ => ?_)
      refine OkF.bind (w1 := wI) (om211 (d + 5) x0 q3.1 x3 q3.2) (fun q4 => ?_)
      exact OkF.ret 1 (fun f => rfl)
  · refine OkF.eq 3 (Y := fun f => if oc S x0 12 = true then rk px kx f (d + 6) 215 45 [some (.ref x0), some (.int x1), some (.int x2), some (.int x3), some (.int x4), none] (va_rf (S.2.2.2.1 x0 8) :: [.int x4]) S else none) (fun f => rfl) ?_
    refine OkF.grd (fun _ => ?_)
    refine OkF.rf (fun a5 => ?_)
    refine OkF.eq 2 (Y := fun f => if inb (3 : Int32) (al S a5) = true then rk px kx f (d + 6) 215 47 [some (.ref x0), some (.int x1), some (.int x2), some (.int x3), some (.int x4), none] [.int (S.2.1 a5 (3 : Int32).toNatClampNeg), .int x4] S else none) (fun f => rfl) ?_
    refine OkF.grd (fun _ => ?_)
    refine OkF.eq 4 (Y := fun f => if (x4 &&& ((S.2.1 a5 (3 : Int32).toNatClampNeg) ^^^ (-1 : Int32))) = 0 then rk px kx f (d + 6) 215 53 [some (.ref x0), some (.int x1), some (.int x2), some (.int x3), some (.int x4), none] [] S else rk px kx f (d + 6) 215 75 [some (.ref x0), some (.int x1), some (.int x2), some (.int x3), some (.int x4), none] [] S) (fun f => rfl) ?_
    refine OkF.ite (fun _ => ?_) (fun _ => ?_)
    · refine OkF.eq 3 (Y := fun f => if x3 = (-9 : Int32) then rk px kx f (d + 6) 215 71 [some (.ref x0), some (.int x1), some (.int x2), some (.int x3), some (.int x4), none] [] S else rk px kx f (d + 6) 215 59 [some (.ref x0), some (.int x1), some (.int x2), some (.int x3), some (.int x4), none] [] S) (fun f => rfl) ?_
      refine OkF.ite (fun _ => ?_) (fun _ => ?_)
      · exact OkF.kl (ls1 := [some (.ref x0), some (.int x1), some (.int x2), some (.int x3), some (.int x4), none]) (fun f => rfl) (ob215_71 d k28 hk28 x0 x1 x2 x3 x4 S)
      · refine OkF.eq 2 (Y := fun f => (rk px kx f (d + 5) 210 0 [some (.int x4), none, none] [] S).bind (fun q => rk px kx f (d + 6) 215 64 [some (.ref x0), some (.int x1), some (.int x2), some (.int x3), some (.int x4), none] (q.1.toList ++ []) q.2)) (fun f => rfl) ?_
        refine OkF.bind (w1 := wI) (om210 (d + 5) x4 S) (fun q6 => ?_)
        refine OkF.eq 2 (Y := fun f => (rk px kx f (d + 5) 210 0 [some (.int x3), none, none] [] q6.2).bind (fun q => rk px kx f (d + 6) 215 68 [some (.ref x0), some (.int x1), some (.int x2), some (.int x3), some (.int x4), none] (q.1.toList ++ [.int q6.1]) q.2)) (fun f => rfl) ?_
        refine OkF.bind (w1 := wI) (om210 (d + 5) x3 q6.2) (fun q7 => ?_)
        refine OkF.eq 1 (Y := fun f => if q7.1 ≤ q6.1 then rk px kx f (d + 6) 215 75 [some (.ref x0), some (.int x1), some (.int x2), some (.int x3), some (.int x4), none] [] q7.2 else rk px kx f (d + 6) 215 71 [some (.ref x0), some (.int x1), some (.int x2), some (.int x3), some (.int x4), none] [] q7.2) (fun f => rfl) ?_
        refine OkF.ite (fun _ => ?_) (fun _ => ?_)
        · exact OkF.kl (ls1 := [some (.ref x0), some (.int x1), some (.int x2), some (.int x3), some (.int x4), none]) (fun f => rfl) (ob215_75 d k28 hk28 x0 x1 x2 x3 x4 q7.2)
        · exact OkF.kl (ls1 := [some (.ref x0), some (.int x1), some (.int x2), some (.int x3), some (.int x4), none]) (fun f => rfl) (ob215_71 d k28 hk28 x0 x1 x2 x3 x4 q7.2)
    · exact OkF.kl (ls1 := [some (.ref x0), some (.int x1), some (.int x2), some (.int x3), some (.int x4), none]) (fun f => rfl) (ob215_75 d k28 hk28 x0 x1 x2 x3 x4 S)
def l215_28 : Nat → Nat → Int32 → Int32 → Int32 → Int32 → Sx → Option (Int32 × Sx)
  | 0 => fun _ _ _ _ _ _ => none
  | n + 1 => fun x0 x1 x2 x3 x4 S => b215_28 (l215_28 n) x0 x1 x2 x3 x4 S
set_option maxRecDepth 100000 in
theorem ol215_28 (d : Nat) : ∀ (n : Nat) (x0 : Nat) (x1 : Int32) (x2 : Int32) (x3 : Int32) (x4 : Int32) (S : Sx), OkF wI (fun f => rk px kx f (d + 6) 215 28 [some (.ref x0), some (.int x1), some (.int x2), some (.int x3), some (.int x4), none] [] S) (l215_28 n x0 x1 x2 x3 x4 S) := by
  intro n
  induction n with
  | zero => intro x0 x1 x2 x3 x4 S; exact OkF.no
  | succ n ih => intro x0 x1 x2 x3 x4 S; exact ob215_28 d (l215_28 n) ih x0 x1 x2 x3 x4 S
def m215 (x0 : Nat) (x1 : Int32) (x2 : Int32) (S : Sx) : Option (Int32 × Sx) :=
  if oc S x0 12 = true then (m208 x0 x1 S).bind fun q8 => if q8.1 = 0 then some ((-1 : Int32), q8.2) else (m150 x2.toInt64 (0 : Int64) (30 : Int64) q8.2).bind fun q9 => if q9.1 = 0 then some ((-1 : Int32), q9.2) else l215_28 1000 x0 x1 x2 (-9 : Int32) (0 : Int32) q9.2 else none
set_option maxRecDepth 100000 in
theorem om215 (d : Nat) (x0 : Nat) (x1 : Int32) (x2 : Int32) (S : Sx) : OkF wI (fun f => rk px kx f (d + 6) 215 0 [some (.ref x0), some (.int x1), some (.int x2), none, none, none] [] S) (m215 x0 x1 x2 S) := by
  unfold m215
  refine OkF.eq 3 (Y := fun f => if oc S x0 12 = true then (rk px kx f (d + 5) 208 0 [some (.ref x0), some (.int x1)] [] S).bind (fun q => rk px kx f (d + 6) 215 5 [some (.ref x0), some (.int x1), some (.int x2), none, none, none] (q.1.toList ++ []) q.2) else none) (fun f => rfl) ?_
  refine OkF.grd (fun _ => ?_)
  refine OkF.bind (w1 := wI) (om208 (d + 4) x0 x1 S) (fun q8 => ?_)
  refine OkF.eq 1 (Y := fun f => if q8.1 = 0 then rk px kx f (d + 6) 215 20 [some (.ref x0), some (.int x1), some (.int x2), none, none, none] [] q8.2 else rk px kx f (d + 6) 215 8 [some (.ref x0), some (.int x1), some (.int x2), none, none, none] [] q8.2) (fun f => rfl) ?_
  refine OkF.ite (fun _ => ?_) (fun _ => ?_)
  · exact OkF.ret 2 (fun f => rfl)
  · refine OkF.eq 5 (Y := fun f => (rk px kx f (d + 5) 150 0 [some (.long x2.toInt64), none, some (.long (0 : Int64)), none, some (.long (30 : Int64)), none] [] q8.2).bind (fun q => rk px kx f (d + 6) 215 17 [some (.ref x0), some (.int x1), some (.int x2), none, none, none] (q.1.toList ++ []) q.2)) (fun f => rfl) ?_
    refine OkF.bind (w1 := wI) (om150 (d + 5) x2.toInt64 (0 : Int64) (30 : Int64) q8.2) (fun q9 => ?_)
    refine OkF.eq 1 (Y := fun f => if q9.1 = 0 then rk px kx f (d + 6) 215 20 [some (.ref x0), some (.int x1), some (.int x2), none, none, none] [] q9.2 else rk px kx f (d + 6) 215 22 [some (.ref x0), some (.int x1), some (.int x2), none, none, none] [] q9.2) (fun f => rfl) ?_
    refine OkF.ite (fun _ => ?_) (fun _ => ?_)
    · exact OkF.ret 2 (fun f => rfl)
    · refine OkF.eq 4 (Y := fun f => rk px kx f (d + 6) 215 28 [some (.ref x0), some (.int x1), some (.int x2), some (.int (-9 : Int32)), some (.int (0 : Int32)), none] [] q9.2) (fun f => rfl) ?_
      exact OkF.kl (ls1 := [some (.ref x0), some (.int x1), some (.int x2), some (.int (-9 : Int32)), some (.int (0 : Int32)), none]) (fun f => rfl) (ol215_28 d 1000 x0 x1 x2 (-9 : Int32) (0 : Int32) q9.2)
-- DoorSoldModel.worth(II)I
def m216 (x0 : Nat) (x1 : Int32) (x2 : Int32) (S : Sx) : Option (Int32 × Sx) :=
  if oc S x0 12 = true then (m171 x0 x1 S).bind fun q1 => if q1.1 = 0 then some ((-1 : Int32), q1.2) else if oc q1.2 x0 12 = true then (m208 x0 x2 q1.2).bind fun q2 => if q2.1 = 0 then some ((-1 : Int32), q2.2) else if oc q2.2 x0 12 = true then (q2.2.2.2.2.1 x0 8).bind fun a3 => if inb (3 : Int32) (al q2.2 a3) = true then if oc q2.2 x0 12 = true then (m209 x0 x2 ((q2.2.2.1 a3 (3 : Int32).toNatClampNeg) &&& (((1 : Int32) <<< (x1 &&& 31)) ^^^ (-1 : Int32))) q2.2).bind fun q4 => if oc q4.2 x0 12 = true then (q4.2.2.2.2.1 x0 8).bind fun a5 => if inb (3 : Int32) (al q4.2 a5) = true then if oc q4.2 x0 12 = true then (m209 x0 x2 ((q4.2.2.1 a5 (3 : Int32).toNatClampNeg) ||| ((1 : Int32) <<< (x1 &&& 31))) q4.2).bind fun q6 => some (q4.1 - q6.1, q6.2) else none else none else none else none else none else none else none else none
set_option maxRecDepth 100000 in
theorem om216 (d : Nat) (x0 : Nat) (x1 : Int32) (x2 : Int32) (S : Sx) : OkF wI (fun f => rk px kx f (d + 6) 216 0 [some (.ref x0), some (.int x1), some (.int x2)] [] S) (m216 x0 x1 x2 S) := by
  unfold m216
  refine OkF.eq 3 (Y := fun f => if oc S x0 12 = true then (rk px kx f (d + 5) 171 0 [some (.ref x0), some (.int x1)] [] S).bind (fun q => rk px kx f (d + 6) 216 5 [some (.ref x0), some (.int x1), some (.int x2)] (q.1.toList ++ []) q.2) else none) (fun f => rfl) ?_
  refine OkF.grd (fun _ => ?_)
  refine OkF.bind (w1 := wI) (om171 (d + 4) x0 x1 S) (fun q1 => ?_)
  refine OkF.eq 1 (Y := fun f => if q1.1 = 0 then rk px kx f (d + 6) 216 16 [some (.ref x0), some (.int x1), some (.int x2)] [] q1.2 else rk px kx f (d + 6) 216 8 [some (.ref x0), some (.int x1), some (.int x2)] [] q1.2) (fun f => rfl) ?_
  refine OkF.ite (fun _ => ?_) (fun _ => ?_)
  · exact OkF.ret 2 (fun f => rfl)
  · refine OkF.eq 3 (Y := fun f => if oc q1.2 x0 12 = true then (rk px kx f (d + 5) 208 0 [some (.ref x0), some (.int x2)] [] q1.2).bind (fun q => rk px kx f (d + 6) 216 13 [some (.ref x0), some (.int x1), some (.int x2)] (q.1.toList ++ []) q.2) else none) (fun f => rfl) ?_
    refine OkF.grd (fun _ => ?_)
    refine OkF.bind (w1 := wI) (om208 (d + 4) x0 x2 q1.2) (fun q2 => ?_)
    refine OkF.eq 1 (Y := fun f => if q2.1 = 0 then rk px kx f (d + 6) 216 16 [some (.ref x0), some (.int x1), some (.int x2)] [] q2.2 else rk px kx f (d + 6) 216 18 [some (.ref x0), some (.int x1), some (.int x2)] [] q2.2) (fun f => rfl) ?_
    refine OkF.ite (fun _ => ?_) (fun _ => ?_)
    · exact OkF.ret 2 (fun f => rfl)
    · refine OkF.eq 4 (Y := fun f => if oc q2.2 x0 12 = true then rk px kx f (d + 6) 216 24 [some (.ref x0), some (.int x1), some (.int x2)] (va_rf (q2.2.2.2.2.1 x0 8) :: [.int x2, .ref x0]) q2.2 else none) (fun f => rfl) ?_
      refine OkF.grd (fun _ => ?_)
      refine OkF.rf (fun a3 => ?_)
      refine OkF.eq 2 (Y := fun f => if inb (3 : Int32) (al q2.2 a3) = true then rk px kx f (d + 6) 216 26 [some (.ref x0), some (.int x1), some (.int x2)] [.int (q2.2.2.1 a3 (3 : Int32).toNatClampNeg), .int x2, .ref x0] q2.2 else none) (fun f => rfl) ?_
      refine OkF.grd (fun _ => ?_)
      refine OkF.eq 7 (Y := fun f => if oc q2.2 x0 12 = true then (rk px kx f (d + 5) 209 0 [some (.ref x0), some (.int x2), some (.int ((q2.2.2.1 a3 (3 : Int32).toNatClampNeg) &&& (((1 : Int32) <<< (x1 &&& 31)) ^^^ (-1 : Int32)))), none] [] q2.2).bind (fun q => rk px kx f (d + 6) 216 35 [some (.ref x0), some (.int x1), some (.int x2)] (q.1.toList ++ []) q.2) else none) (fun f => rfl) ?_
      refine OkF.grd (fun _ => ?_)
      refine OkF.bind (w1 := wI) (om209 (d + 0) x0 x2 ((q2.2.2.1 a3 (3 : Int32).toNatClampNeg) &&& (((1 : Int32) <<< (x1 &&& 31)) ^^^ (-1 : Int32))) q2.2) (fun q4 => ?_)
      refine OkF.eq 4 (Y := fun f => if oc q4.2 x0 12 = true then rk px kx f (d + 6) 216 41 [some (.ref x0), some (.int x1), some (.int x2)] (va_rf (q4.2.2.2.2.1 x0 8) :: [.int x2, .ref x0, .int q4.1]) q4.2 else none) (fun f => rfl) ?_
      refine OkF.grd (fun _ => ?_)
      refine OkF.rf (fun a5 => ?_)
      refine OkF.eq 2 (Y := fun f => if inb (3 : Int32) (al q4.2 a5) = true then rk px kx f (d + 6) 216 43 [some (.ref x0), some (.int x1), some (.int x2)] [.int (q4.2.2.1 a5 (3 : Int32).toNatClampNeg), .int x2, .ref x0, .int q4.1] q4.2 else none) (fun f => rfl) ?_
      refine OkF.grd (fun _ => ?_)
      refine OkF.eq 5 (Y := fun f => if oc q4.2 x0 12 = true then (rk px kx f (d + 5) 209 0 [some (.ref x0), some (.int x2), some (.int ((q4.2.2.1 a5 (3 : Int32).toNatClampNeg) ||| ((1 : Int32) <<< (x1 &&& 31)))), none] [] q4.2).bind (fun q => rk px kx f (d + 6) 216 50 [some (.ref x0), some (.int x1), some (.int x2)] (q.1.toList ++ [.int q4.1]) q.2) else none) (fun f => rfl) ?_
      refine OkF.grd (fun _ => ?_)
      refine OkF.bind (w1 := wI) (om209 (d + 0) x0 x2 ((q4.2.2.1 a5 (3 : Int32).toNatClampNeg) ||| ((1 : Int32) <<< (x1 &&& 31))) q4.2) (fun q6 => ?_)
      exact OkF.ret 2 (fun f => rfl)
-- DoorSoldModel.wrongTriples(I)I
def b218_105 (k28 : Nat → Int32 → Int32 → Int32 → Sx → Option (Int32 × Sx)) (x0 : Nat) (x1 : Int32) (x3 : Int32) (s0 : Int32) (S : Sx) : Option (Int32 × Sx) :=
  k28 x0 x1 s0 (x3 + (3 : Int32)) S
set_option maxRecDepth 100000 in
theorem ob218_105 (d : Nat) (k28 : Nat → Int32 → Int32 → Int32 → Sx → Option (Int32 × Sx)) (hk28 : ∀ (x0 : Nat) (x1 : Int32) (x2 : Int32) (x3 : Int32) (S : Sx), OkF wI (fun f => rk px kx f (d + 2) 218 28 [some (.ref x0), some (.int x1), some (.int x2), some (.int x3), none] [] S) (k28 x0 x1 x2 x3 S)) (x0 : Nat) (x1 : Int32) (x3 : Int32) (s0 : Int32) (S : Sx) : OkF wI (fun f => rk px kx f (d + 2) 218 105 [some (.ref x0), some (.int x1), none, some (.int x3), none] [.int s0] S) (b218_105 k28 x0 x1 x3 s0 S) := by
  unfold b218_105
  refine OkF.eq 3 (Y := fun f => rk px kx f (d + 2) 218 28 [some (.ref x0), some (.int x1), some (.int s0), some (.int (x3 + (3 : Int32))), none] [] S) (fun f => rfl) ?_
  exact OkF.kl (ls1 := [some (.ref x0), some (.int x1), some (.int s0), some (.int (x3 + (3 : Int32))), none]) (fun f => rfl) (hk28 x0 x1 s0 (x3 + (3 : Int32)) S)
def b218_104 (k28 : Nat → Int32 → Int32 → Int32 → Sx → Option (Int32 × Sx)) (x0 : Nat) (x1 : Int32) (x3 : Int32) (S : Sx) : Option (Int32 × Sx) :=
  b218_105 k28 x0 x1 x3 (0 : Int32) S
set_option maxRecDepth 100000 in
theorem ob218_104 (d : Nat) (k28 : Nat → Int32 → Int32 → Int32 → Sx → Option (Int32 × Sx)) (hk28 : ∀ (x0 : Nat) (x1 : Int32) (x2 : Int32) (x3 : Int32) (S : Sx), OkF wI (fun f => rk px kx f (d + 2) 218 28 [some (.ref x0), some (.int x1), some (.int x2), some (.int x3), none] [] S) (k28 x0 x1 x2 x3 S)) (x0 : Nat) (x1 : Int32) (x3 : Int32) (S : Sx) : OkF wI (fun f => rk px kx f (d + 2) 218 104 [some (.ref x0), some (.int x1), none, some (.int x3), none] [] S) (b218_104 k28 x0 x1 x3 S) := by
  unfold b218_104
  refine OkF.eq 1 (Y := fun f => rk px kx f (d + 2) 218 105 [some (.ref x0), some (.int x1), none, some (.int x3), none] [.int (0 : Int32)] S) (fun f => rfl) ?_
  exact OkF.kl (ls1 := [some (.ref x0), some (.int x1), none, some (.int x3), none]) (fun f => rfl) (ob218_105 d k28 hk28 x0 x1 x3 (0 : Int32) S)
def b218_28 (k28 : Nat → Int32 → Int32 → Int32 → Sx → Option (Int32 × Sx)) (x0 : Nat) (x1 : Int32) (x2 : Int32) (x3 : Int32) (S : Sx) : Option (Int32 × Sx) :=
  if oc S x0 12 = true then (S.2.2.2.1 x0 0).bind fun a1 => if inb x1 (al S a1) = true then if (S.2.1 a1 x1.toNatClampNeg) ≤ x3 then if x2 = 0 then some ((3 : Int32), S) else some ((0 : Int32), S) else if x2 = 0 then b218_104 k28 x0 x1 x3 S else if oc S x0 12 = true then (S.2.2.2.1 x0 1).bind fun a2 => if inb (((40 : Int32) * x1) + x3) (al S a2) = true then (m150 ((S.2.1 a2 (((40 : Int32) * x1) + x3).toNatClampNeg).toInt64) (0 : Int64) (99 : Int64) S).bind fun q3 => if q3.1 = 0 then b218_104 k28 x0 x1 x3 q3.2 else if oc q3.2 x0 12 = true then (q3.2.2.2.2.1 x0 1).bind fun a4 => if inb ((((40 : Int32) * x1) + x3) + (1 : Int32)) (al q3.2 a4) = true then if oc q3.2 x0 12 = true then (m208 x0 (q3.2.2.1 a4 ((((40 : Int32) * x1) + x3) + (1 : Int32)).toNatClampNeg) q3.2).bind fun q5 => if q5.1 = 0 then b218_104 k28 x0 x1 x3 q5.2 else if oc q5.2 x0 12 = true then (q5.2.2.2.2.1 x0 1).bind fun a6 => if inb ((((40 : Int32) * x1) + x3) + (2 : Int32)) (al q5.2 a6) = true then if oc q5.2 x0 12 = true then (m208 x0 (q5.2.2.1 a6 ((((40 : Int32) * x1) + x3) + (2 : Int32)).toNatClampNeg) q5.2).bind fun q7 => if q7.1 = 0 then b218_104 k28 x0 x1 x3 q7.2 else b218_105 k28 x0 x1 x3 (1 : Int32) q7.2 else none else none else none else none else none else none else none else none else none else none
set_option maxRecDepth 100000 in
theorem ob218_28 (d : Nat) (k28 : Nat → Int32 → Int32 → Int32 → Sx → Option (Int32 × Sx)) (hk28 : ∀ (x0 : Nat) (x1 : Int32) (x2 : Int32) (x3 : Int32) (S : Sx), OkF wI (fun f => rk px kx f (d + 2) 218 28 [some (.ref x0), some (.int x1), some (.int x2), some (.int x3), none] [] S) (k28 x0 x1 x2 x3 S)) (x0 : Nat) (x1 : Int32) (x2 : Int32) (x3 : Int32) (S : Sx) : OkF wI (fun f => rk px kx f (d + 2) 218 28 [some (.ref x0), some (.int x1), some (.int x2), some (.int x3), none] [] S) (b218_28 k28 x0 x1 x2 x3 S) := by
  unfold b218_28
  refine OkF.eq 3 (Y := fun f => if oc S x0 12 = true then rk px kx f (d + 2) 218 33 [some (.ref x0), some (.int x1), some (.int x2), some (.int x3), none] (va_rf (S.2.2.2.1 x0 0) :: [.int x3]) S else none) (fun f => rfl) ?_
  refine OkF.grd (fun _ => ?_)
  refine OkF.rf (fun a1 => ?_)
  refine OkF.eq 2 (Y := fun f => if inb x1 (al S a1) = true then rk px kx f (d + 2) 218 35 [some (.ref x0), some (.int x1), some (.int x2), some (.int x3), none] [.int (S.2.1 a1 x1.toNatClampNeg), .int x3] S else none) (fun f => rfl) ?_
  refine OkF.grd (fun _ => ?_)
  refine OkF.eq 1 (Y := fun f => if (S.2.1 a1 x1.toNatClampNeg) ≤ x3 then rk px kx f (d + 2) 218 112 [some (.ref x0), some (.int x1), some (.int x2), some (.int x3), none] [] S else rk px kx f (d + 2) 218 38 [some (.ref x0), some (.int x1), some (.int x2), some (.int x3), none] [] S) (fun f => rfl) ?_
  refine OkF.ite (fun _ => ?_) (fun _ => ?_)
  · refine OkF.eq 2 (Y := fun f => if x2 = 0 then rk px kx f (d + 2) 218 120 [some (.ref x0), some (.int x1), some (.int x2), some (.int x3), none] [] S else rk px kx f (d + 2) 218 116 [some (.ref x0), some (.int x1), some (.int x2), some (.int x3), none] [] S) (fun f => rfl) ?_
    refine OkF.ite (fun _ => ?_) (fun _ => ?_)
    · exact OkF.ret 2 (fun f => rfl)
    · exact OkF.ret 3 (fun f => rfl)
  · refine OkF.eq 8 (Y := fun f => if x2 = 0 then rk px kx f (d + 2) 218 104 [some (.ref x0), some (.int x1), some (.int x2), some (.int x3), some (.int (((40 : Int32) * x1) + x3))] [] S else rk px kx f (d + 2) 218 50 [some (.ref x0), some (.int x1), some (.int x2), some (.int x3), some (.int (((40 : Int32) * x1) + x3))] [] S) (fun f => rfl) ?_
    refine OkF.ite (fun _ => ?_) (fun _ => ?_)
    · exact OkF.kl (ls1 := [some (.ref x0), some (.int x1), none, some (.int x3), none]) (fun f => rfl) (ob218_104 d k28 hk28 x0 x1 x3 S)
    · refine OkF.eq 2 (Y := fun f => if oc S x0 12 = true then rk px kx f (d + 2) 218 54 [some (.ref x0), some (.int x1), some (.int x2), some (.int x3), some (.int (((40 : Int32) * x1) + x3))] (va_rf (S.2.2.2.1 x0 1) :: []) S else none) (fun f => rfl) ?_
      refine OkF.grd (fun _ => ?_)
      refine OkF.rf (fun a2 => ?_)
      refine OkF.eq 2 (Y := fun f => if inb (((40 : Int32) * x1) + x3) (al S a2) = true then rk px kx f (d + 2) 218 57 [some (.ref x0), some (.int x1), some (.int x2), some (.int x3), some (.int (((40 : Int32) * x1) + x3))] [.int (S.2.1 a2 (((40 : Int32) * x1) + x3).toNatClampNeg)] S else none) (fun f => rfl) ?_
      refine OkF.grd (fun _ => ?_)
      refine OkF.eq 4 (Y := fun f => (rk px kx f (d + 1) 150 0 [some (.long ((S.2.1 a2 (((40 : Int32) * x1) + x3).toNatClampNeg).toInt64)), none, some (.long (0 : Int64)), none, some (.long (99 : Int64)), none] [] S).bind (fun q => rk px kx f (d + 2) 218 65 [some (.ref x0), some (.int x1), some (.int x2), some (.int x3), some (.int (((40 : Int32) * x1) + x3))] (q.1.toList ++ []) q.2)) (fun f => rfl) ?_
      refine OkF.bind (w1 := wI) (om150 (d + 1) ((S.2.1 a2 (((40 : Int32) * x1) + x3).toNatClampNeg).toInt64) (0 : Int64) (99 : Int64) S) (fun q3 => ?_)
      refine OkF.eq 1 (Y := fun f => if q3.1 = 0 then rk px kx f (d + 2) 218 104 [some (.ref x0), some (.int x1), some (.int x2), some (.int x3), some (.int (((40 : Int32) * x1) + x3))] [] q3.2 else rk px kx f (d + 2) 218 68 [some (.ref x0), some (.int x1), some (.int x2), some (.int x3), some (.int (((40 : Int32) * x1) + x3))] [] q3.2) (fun f => rfl) ?_
      refine OkF.ite (fun _ => ?_) (fun _ => ?_)
      · exact OkF.kl (ls1 := [some (.ref x0), some (.int x1), none, some (.int x3), none]) (fun f => rfl) (ob218_104 d k28 hk28 x0 x1 x3 q3.2)
      · refine OkF.eq 3 (Y := fun f => if oc q3.2 x0 12 = true then rk px kx f (d + 2) 218 73 [some (.ref x0), some (.int x1), some (.int x2), some (.int x3), some (.int (((40 : Int32) * x1) + x3))] (va_rf (q3.2.2.2.2.1 x0 1) :: [.ref x0]) q3.2 else none) (fun f => rfl) ?_
        refine OkF.grd (fun _ => ?_)
        refine OkF.rf (fun a4 => ?_)
        refine OkF.eq 4 (Y := fun f => if inb ((((40 : Int32) * x1) + x3) + (1 : Int32)) (al q3.2 a4) = true then rk px kx f (d + 2) 218 78 [some (.ref x0), some (.int x1), some (.int x2), some (.int x3), some (.int (((40 : Int32) * x1) + x3))] [.int (q3.2.2.1 a4 ((((40 : Int32) * x1) + x3) + (1 : Int32)).toNatClampNeg), .ref x0] q3.2 else none) (fun f => rfl) ?_
        refine OkF.grd (fun _ => ?_)
        refine OkF.eq 1 (Y := fun f => if oc q3.2 x0 12 = true then (rk px kx f (d + 1) 208 0 [some (.ref x0), some (.int (q3.2.2.1 a4 ((((40 : Int32) * x1) + x3) + (1 : Int32)).toNatClampNeg))] [] q3.2).bind (fun q => rk px kx f (d + 2) 218 81 [some (.ref x0), some (.int x1), some (.int x2), some (.int x3), some (.int (((40 : Int32) * x1) + x3))] (q.1.toList ++ []) q.2) else none) (fun f => rfl) ?_
        refine OkF.grd (fun _ => ?_)
        refine OkF.bind (w1 := wI) (om208 (d + 0) x0 (q3.2.2.1 a4 ((((40 : Int32) * x1) + x3) + (1 : Int32)).toNatClampNeg) q3.2) (fun q5 => ?_)
        refine OkF.eq 1 (Y := fun f => if q5.1 = 0 then rk px kx f (d + 2) 218 104 [some (.ref x0), some (.int x1), some (.int x2), some (.int x3), some (.int (((40 : Int32) * x1) + x3))] [] q5.2 else rk px kx f (d + 2) 218 84 [some (.ref x0), some (.int x1), some (.int x2), some (.int x3), some (.int (((40 : Int32) * x1) + x3))] [] q5.2) (fun f => rfl) ?_
        refine OkF.ite (fun _ => ?_) (fun _ => ?_)
        · exact OkF.kl (ls1 := [some (.ref x0), some (.int x1), none, some (.int x3), none]) (fun f => rfl) (ob218_104 d k28 hk28 x0 x1 x3 q5.2)
        · refine OkF.eq 3 (Y := fun f => if oc q5.2 x0 12 = true then rk px kx f (d + 2) 218 89 [some (.ref x0), some (.int x1), some (.int x2), some (.int x3), some (.int (((40 : Int32) * x1) + x3))] (va_rf (q5.2.2.2.2.1 x0 1) :: [.ref x0]) q5.2 else none) (fun f => rfl) ?_
          refine OkF.grd (fun _ => ?_)
          refine OkF.rf (fun a6 => ?_)
          refine OkF.eq 4 (Y := fun f => if inb ((((40 : Int32) * x1) + x3) + (2 : Int32)) (al q5.2 a6) = true then rk px kx f (d + 2) 218 94 [some (.ref x0), some (.int x1), some (.int x2), some (.int x3), some (.int (((40 : Int32) * x1) + x3))] [.int (q5.2.2.1 a6 ((((40 : Int32) * x1) + x3) + (2 : Int32)).toNatClampNeg), .ref x0] q5.2 else none) (fun f => rfl) ?_
          refine OkF.grd (fun _ => ?_)
          refine OkF.eq 1 (Y := fun f => if oc q5.2 x0 12 = true then (rk px kx f (d + 1) 208 0 [some (.ref x0), some (.int (q5.2.2.1 a6 ((((40 : Int32) * x1) + x3) + (2 : Int32)).toNatClampNeg))] [] q5.2).bind (fun q => rk px kx f (d + 2) 218 97 [some (.ref x0), some (.int x1), some (.int x2), some (.int x3), some (.int (((40 : Int32) * x1) + x3))] (q.1.toList ++ []) q.2) else none) (fun f => rfl) ?_
          refine OkF.grd (fun _ => ?_)
          refine OkF.bind (w1 := wI) (om208 (d + 0) x0 (q5.2.2.1 a6 ((((40 : Int32) * x1) + x3) + (2 : Int32)).toNatClampNeg) q5.2) (fun q7 => ?_)
          refine OkF.eq 1 (Y := fun f => if q7.1 = 0 then rk px kx f (d + 2) 218 104 [some (.ref x0), some (.int x1), some (.int x2), some (.int x3), some (.int (((40 : Int32) * x1) + x3))] [] q7.2 else rk px kx f (d + 2) 218 100 [some (.ref x0), some (.int x1), some (.int x2), some (.int x3), some (.int (((40 : Int32) * x1) + x3))] [] q7.2) (fun f => rfl) ?_
          refine OkF.ite (fun _ => ?_) (fun _ => ?_)
          · exact OkF.kl (ls1 := [some (.ref x0), some (.int x1), none, some (.int x3), none]) (fun f => rfl) (ob218_104 d k28 hk28 x0 x1 x3 q7.2)
          · refine OkF.eq 2 (Y := fun f => rk px kx f (d + 2) 218 105 [some (.ref x0), some (.int x1), some (.int x2), some (.int x3), some (.int (((40 : Int32) * x1) + x3))] [.int (1 : Int32)] q7.2) (fun f => rfl) ?_
            exact OkF.kl (ls1 := [some (.ref x0), some (.int x1), none, some (.int x3), none]) (fun f => rfl) (ob218_105 d k28 hk28 x0 x1 x3 (1 : Int32) q7.2)
def l218_28 : Nat → Nat → Int32 → Int32 → Int32 → Sx → Option (Int32 × Sx)
  | 0 => fun _ _ _ _ _ => none
  | n + 1 => fun x0 x1 x2 x3 S => b218_28 (l218_28 n) x0 x1 x2 x3 S
set_option maxRecDepth 100000 in
theorem ol218_28 (d : Nat) : ∀ (n : Nat) (x0 : Nat) (x1 : Int32) (x2 : Int32) (x3 : Int32) (S : Sx), OkF wI (fun f => rk px kx f (d + 2) 218 28 [some (.ref x0), some (.int x1), some (.int x2), some (.int x3), none] [] S) (l218_28 n x0 x1 x2 x3 S) := by
  intro n
  induction n with
  | zero => intro x0 x1 x2 x3 S; exact OkF.no
  | succ n ih => intro x0 x1 x2 x3 S; exact ob218_28 d (l218_28 n) ih x0 x1 x2 x3 S
def m218 (x0 : Nat) (x1 : Int32) (S : Sx) : Option (Int32 × Sx) :=
  if oc S x0 12 = true then (S.2.2.2.1 x0 0).bind fun a8 => if inb x1 (al S a8) = true then if 0 ≤ (S.2.1 a8 x1.toNatClampNeg) then if oc S x0 12 = true then (S.2.2.2.1 x0 0).bind fun a9 => if inb x1 (al S a9) = true then if (3 : Int32) = 0 then none else if ((S.2.1 a9 x1.toNatClampNeg) - (S.2.1 a9 x1.toNatClampNeg) / (3 : Int32) * (3 : Int32)) = 0 then l218_28 1000 x0 x1 (1 : Int32) (0 : Int32) S else some ((5 : Int32), S) else none else none else some ((1 : Int32), S) else none else none
set_option maxRecDepth 100000 in
theorem om218 (d : Nat) (x0 : Nat) (x1 : Int32) (S : Sx) : OkF wI (fun f => rk px kx f (d + 2) 218 0 [some (.ref x0), some (.int x1), none, none, none] [] S) (m218 x0 x1 S) := by
  unfold m218
  refine OkF.eq 2 (Y := fun f => if oc S x0 12 = true then rk px kx f (d + 2) 218 4 [some (.ref x0), some (.int x1), none, none, none] (va_rf (S.2.2.2.1 x0 0) :: []) S else none) (fun f => rfl) ?_
  refine OkF.grd (fun _ => ?_)
  refine OkF.rf (fun a8 => ?_)
  refine OkF.eq 2 (Y := fun f => if inb x1 (al S a8) = true then rk px kx f (d + 2) 218 6 [some (.ref x0), some (.int x1), none, none, none] [.int (S.2.1 a8 x1.toNatClampNeg)] S else none) (fun f => rfl) ?_
  refine OkF.grd (fun _ => ?_)
  refine OkF.eq 1 (Y := fun f => if 0 ≤ (S.2.1 a8 x1.toNatClampNeg) then rk px kx f (d + 2) 218 11 [some (.ref x0), some (.int x1), none, none, none] [] S else rk px kx f (d + 2) 218 9 [some (.ref x0), some (.int x1), none, none, none] [] S) (fun f => rfl) ?_
  refine OkF.ite (fun _ => ?_) (fun _ => ?_)
  · refine OkF.eq 2 (Y := fun f => if oc S x0 12 = true then rk px kx f (d + 2) 218 15 [some (.ref x0), some (.int x1), none, none, none] (va_rf (S.2.2.2.1 x0 0) :: []) S else none) (fun f => rfl) ?_
    refine OkF.grd (fun _ => ?_)
    refine OkF.rf (fun a9 => ?_)
    refine OkF.eq 2 (Y := fun f => if inb x1 (al S a9) = true then rk px kx f (d + 2) 218 17 [some (.ref x0), some (.int x1), none, none, none] [.int (S.2.1 a9 x1.toNatClampNeg)] S else none) (fun f => rfl) ?_
    refine OkF.grd (fun _ => ?_)
    refine OkF.eq 2 (Y := fun f => if (3 : Int32) = 0 then none else rk px kx f (d + 2) 218 19 [some (.ref x0), some (.int x1), none, none, none] [.int ((S.2.1 a9 x1.toNatClampNeg) - (S.2.1 a9 x1.toNatClampNeg) / (3 : Int32) * (3 : Int32))] S) (fun f => rfl) ?_
    refine OkF.ngr (fun _ => ?_)
    refine OkF.eq 1 (Y := fun f => if ((S.2.1 a9 x1.toNatClampNeg) - (S.2.1 a9 x1.toNatClampNeg) / (3 : Int32) * (3 : Int32)) = 0 then rk px kx f (d + 2) 218 24 [some (.ref x0), some (.int x1), none, none, none] [] S else rk px kx f (d + 2) 218 22 [some (.ref x0), some (.int x1), none, none, none] [] S) (fun f => rfl) ?_
    refine OkF.ite (fun _ => ?_) (fun _ => ?_)
    · refine OkF.eq 4 (Y := fun f => rk px kx f (d + 2) 218 28 [some (.ref x0), some (.int x1), some (.int (1 : Int32)), some (.int (0 : Int32)), none] [] S) (fun f => rfl) ?_
      exact OkF.kl (ls1 := [some (.ref x0), some (.int x1), some (.int (1 : Int32)), some (.int (0 : Int32)), none]) (fun f => rfl) (ol218_28 d 1000 x0 x1 (1 : Int32) (0 : Int32) S)
    · exact OkF.ret 2 (fun f => rfl)
  · exact OkF.ret 2 (fun f => rfl)
-- DoorSoldModel.isSo(IIII)Z
def b219_96 (k6 : Nat → Int32 → Int32 → Int32 → Int32 → Int32 → Int32 → Sx → Option (Int32 × Sx)) (x0 : Nat) (x1 : Int32) (x2 : Int32) (x3 : Int32) (x4 : Int32) (x6 : Int32) (s0 : Int32) (S : Sx) : Option (Int32 × Sx) :=
  k6 x0 x1 x2 x3 x4 s0 (x6 + (3 : Int32)) S
set_option maxRecDepth 100000 in
theorem ob219_96 (d : Nat) (k6 : Nat → Int32 → Int32 → Int32 → Int32 → Int32 → Int32 → Sx → Option (Int32 × Sx)) (hk6 : ∀ (x0 : Nat) (x1 : Int32) (x2 : Int32) (x3 : Int32) (x4 : Int32) (x5 : Int32) (x6 : Int32) (S : Sx), OkF wI (fun f => rk px kx f (d + 2) 219 6 [some (.ref x0), some (.int x1), some (.int x2), some (.int x3), some (.int x4), some (.int x5), some (.int x6), none] [] S) (k6 x0 x1 x2 x3 x4 x5 x6 S)) (x0 : Nat) (x1 : Int32) (x2 : Int32) (x3 : Int32) (x4 : Int32) (x6 : Int32) (s0 : Int32) (S : Sx) : OkF wI (fun f => rk px kx f (d + 2) 219 96 [some (.ref x0), some (.int x1), some (.int x2), some (.int x3), some (.int x4), none, some (.int x6), none] [.int s0] S) (b219_96 k6 x0 x1 x2 x3 x4 x6 s0 S) := by
  unfold b219_96
  refine OkF.eq 3 (Y := fun f => rk px kx f (d + 2) 219 6 [some (.ref x0), some (.int x1), some (.int x2), some (.int x3), some (.int x4), some (.int s0), some (.int (x6 + (3 : Int32))), none] [] S) (fun f => rfl) ?_
  exact OkF.kl (ls1 := [some (.ref x0), some (.int x1), some (.int x2), some (.int x3), some (.int x4), some (.int s0), some (.int (x6 + (3 : Int32))), none]) (fun f => rfl) (hk6 x0 x1 x2 x3 x4 s0 (x6 + (3 : Int32)) S)
def b219_95 (k6 : Nat → Int32 → Int32 → Int32 → Int32 → Int32 → Int32 → Sx → Option (Int32 × Sx)) (x0 : Nat) (x1 : Int32) (x2 : Int32) (x3 : Int32) (x4 : Int32) (x6 : Int32) (S : Sx) : Option (Int32 × Sx) :=
  b219_96 k6 x0 x1 x2 x3 x4 x6 (0 : Int32) S
set_option maxRecDepth 100000 in
theorem ob219_95 (d : Nat) (k6 : Nat → Int32 → Int32 → Int32 → Int32 → Int32 → Int32 → Sx → Option (Int32 × Sx)) (hk6 : ∀ (x0 : Nat) (x1 : Int32) (x2 : Int32) (x3 : Int32) (x4 : Int32) (x5 : Int32) (x6 : Int32) (S : Sx), OkF wI (fun f => rk px kx f (d + 2) 219 6 [some (.ref x0), some (.int x1), some (.int x2), some (.int x3), some (.int x4), some (.int x5), some (.int x6), none] [] S) (k6 x0 x1 x2 x3 x4 x5 x6 S)) (x0 : Nat) (x1 : Int32) (x2 : Int32) (x3 : Int32) (x4 : Int32) (x6 : Int32) (S : Sx) : OkF wI (fun f => rk px kx f (d + 2) 219 95 [some (.ref x0), some (.int x1), some (.int x2), some (.int x3), some (.int x4), none, some (.int x6), none] [] S) (b219_95 k6 x0 x1 x2 x3 x4 x6 S) := by
  unfold b219_95
  refine OkF.eq 1 (Y := fun f => rk px kx f (d + 2) 219 96 [some (.ref x0), some (.int x1), some (.int x2), some (.int x3), some (.int x4), none, some (.int x6), none] [.int (0 : Int32)] S) (fun f => rfl) ?_
  exact OkF.kl (ls1 := [some (.ref x0), some (.int x1), some (.int x2), some (.int x3), some (.int x4), none, some (.int x6), none]) (fun f => rfl) (ob219_96 d k6 hk6 x0 x1 x2 x3 x4 x6 (0 : Int32) S)
def b219_6 (k6 : Nat → Int32 → Int32 → Int32 → Int32 → Int32 → Int32 → Sx → Option (Int32 × Sx)) (x0 : Nat) (x1 : Int32) (x2 : Int32) (x3 : Int32) (x4 : Int32) (x5 : Int32) (x6 : Int32) (S : Sx) : Option (Int32 × Sx) :=
  if oc S x0 12 = true then (S.2.2.2.1 x0 0).bind fun a1 => if inb x1 (al S a1) = true then if (S.2.1 a1 x1.toNatClampNeg) ≤ x6 then some (x5 &&& 1, S) else if x5 = 0 then b219_95 k6 x0 x1 x2 x3 x4 x6 S else if oc S x0 12 = true then (S.2.2.2.1 x0 1).bind fun a2 => if inb (((40 : Int32) * x1) + x6) (al S a2) = true then (m177 x2 (S.2.1 a2 (((40 : Int32) * x1) + x6).toNatClampNeg) S).bind fun q3 => if q3.1 = 0 then b219_95 k6 x0 x1 x2 x3 x4 x6 q3.2 else if oc q3.2 x0 12 = true then (q3.2.2.2.2.1 x0 1).bind fun a4 => if inb (((40 : Int32) * x1) + x6) (al q3.2 a4) = true then if oc q3.2 x0 12 = true then (m175 x0 x2 x3 x4 (q3.2.2.1 a4 (((40 : Int32) * x1) + x6).toNatClampNeg) q3.2).bind fun q5 => if oc q5.2 x0 12 = true then (q5.2.2.2.2.1 x0 1).bind fun a6 => if inb ((((40 : Int32) * x1) + x6) + (1 : Int32)) (al q5.2 a6) = true then if q5.1 = (q5.2.2.1 a6 ((((40 : Int32) * x1) + x6) + (1 : Int32)).toNatClampNeg) then (m185 x2 x3 x4 q5.2).bind fun q7 => if oc q7.2 x0 12 = true then (q7.2.2.2.2.1 x0 1).bind fun a8 => if inb ((((40 : Int32) * x1) + x6) + (2 : Int32)) (al q7.2 a8) = true then if q7.1 = (q7.2.2.1 a8 ((((40 : Int32) * x1) + x6) + (2 : Int32)).toNatClampNeg) then b219_96 k6 x0 x1 x2 x3 x4 x6 (1 : Int32) q7.2 else b219_95 k6 x0 x1 x2 x3 x4 x6 q7.2 else none else none else b219_95 k6 x0 x1 x2 x3 x4 x6 q5.2 else none else none else none else none else none else none else none else none else none
set_option maxRecDepth 100000 in
theorem ob219_6 (d : Nat) (k6 : Nat → Int32 → Int32 → Int32 → Int32 → Int32 → Int32 → Sx → Option (Int32 × Sx)) (hk6 : ∀ (x0 : Nat) (x1 : Int32) (x2 : Int32) (x3 : Int32) (x4 : Int32) (x5 : Int32) (x6 : Int32) (S : Sx), OkF wI (fun f => rk px kx f (d + 2) 219 6 [some (.ref x0), some (.int x1), some (.int x2), some (.int x3), some (.int x4), some (.int x5), some (.int x6), none] [] S) (k6 x0 x1 x2 x3 x4 x5 x6 S)) (x0 : Nat) (x1 : Int32) (x2 : Int32) (x3 : Int32) (x4 : Int32) (x5 : Int32) (x6 : Int32) (S : Sx) : OkF wI (fun f => rk px kx f (d + 2) 219 6 [some (.ref x0), some (.int x1), some (.int x2), some (.int x3), some (.int x4), some (.int x5), some (.int x6), none] [] S) (b219_6 k6 x0 x1 x2 x3 x4 x5 x6 S) := by
  unfold b219_6
  refine OkF.eq 3 (Y := fun f => if oc S x0 12 = true then rk px kx f (d + 2) 219 12 [some (.ref x0), some (.int x1), some (.int x2), some (.int x3), some (.int x4), some (.int x5), some (.int x6), none] (va_rf (S.2.2.2.1 x0 0) :: [.int x6]) S else none) (fun f => rfl) ?_
  refine OkF.grd (fun _ => ?_)
  refine OkF.rf (fun a1 => ?_)
  refine OkF.eq 2 (Y := fun f => if inb x1 (al S a1) = true then rk px kx f (d + 2) 219 14 [some (.ref x0), some (.int x1), some (.int x2), some (.int x3), some (.int x4), some (.int x5), some (.int x6), none] [.int (S.2.1 a1 x1.toNatClampNeg), .int x6] S else none) (fun f => rfl) ?_
  refine OkF.grd (fun _ => ?_)
  refine OkF.eq 1 (Y := fun f => if (S.2.1 a1 x1.toNatClampNeg) ≤ x6 then rk px kx f (d + 2) 219 104 [some (.ref x0), some (.int x1), some (.int x2), some (.int x3), some (.int x4), some (.int x5), some (.int x6), none] [] S else rk px kx f (d + 2) 219 17 [some (.ref x0), some (.int x1), some (.int x2), some (.int x3), some (.int x4), some (.int x5), some (.int x6), none] [] S) (fun f => rfl) ?_
  refine OkF.ite (fun _ => ?_) (fun _ => ?_)
  · exact OkF.ret 2 (fun f => rfl)
  · refine OkF.eq 8 (Y := fun f => if x5 = 0 then rk px kx f (d + 2) 219 95 [some (.ref x0), some (.int x1), some (.int x2), some (.int x3), some (.int x4), some (.int x5), some (.int x6), some (.int (((40 : Int32) * x1) + x6))] [] S else rk px kx f (d + 2) 219 31 [some (.ref x0), some (.int x1), some (.int x2), some (.int x3), some (.int x4), some (.int x5), some (.int x6), some (.int (((40 : Int32) * x1) + x6))] [] S) (fun f => rfl) ?_
    refine OkF.ite (fun _ => ?_) (fun _ => ?_)
    · exact OkF.kl (ls1 := [some (.ref x0), some (.int x1), some (.int x2), some (.int x3), some (.int x4), none, some (.int x6), none]) (fun f => rfl) (ob219_95 d k6 hk6 x0 x1 x2 x3 x4 x6 S)
    · refine OkF.eq 3 (Y := fun f => if oc S x0 12 = true then rk px kx f (d + 2) 219 36 [some (.ref x0), some (.int x1), some (.int x2), some (.int x3), some (.int x4), some (.int x5), some (.int x6), some (.int (((40 : Int32) * x1) + x6))] (va_rf (S.2.2.2.1 x0 1) :: [.int x2]) S else none) (fun f => rfl) ?_
      refine OkF.grd (fun _ => ?_)
      refine OkF.rf (fun a2 => ?_)
      refine OkF.eq 2 (Y := fun f => if inb (((40 : Int32) * x1) + x6) (al S a2) = true then rk px kx f (d + 2) 219 39 [some (.ref x0), some (.int x1), some (.int x2), some (.int x3), some (.int x4), some (.int x5), some (.int x6), some (.int (((40 : Int32) * x1) + x6))] [.int (S.2.1 a2 (((40 : Int32) * x1) + x6).toNatClampNeg), .int x2] S else none) (fun f => rfl) ?_
      refine OkF.grd (fun _ => ?_)
      refine OkF.eq 1 (Y := fun f => (rk px kx f (d + 1) 177 0 [some (.int x2), some (.int (S.2.1 a2 (((40 : Int32) * x1) + x6).toNatClampNeg))] [] S).bind (fun q => rk px kx f (d + 2) 219 42 [some (.ref x0), some (.int x1), some (.int x2), some (.int x3), some (.int x4), some (.int x5), some (.int x6), some (.int (((40 : Int32) * x1) + x6))] (q.1.toList ++ []) q.2)) (fun f => rfl) ?_
      refine OkF.bind (w1 := wI) (om177 (d + 0) x2 (S.2.1 a2 (((40 : Int32) * x1) + x6).toNatClampNeg) S) (fun q3 => ?_)
      refine OkF.eq 1 (Y := fun f => if q3.1 = 0 then rk px kx f (d + 2) 219 95 [some (.ref x0), some (.int x1), some (.int x2), some (.int x3), some (.int x4), some (.int x5), some (.int x6), some (.int (((40 : Int32) * x1) + x6))] [] q3.2 else rk px kx f (d + 2) 219 45 [some (.ref x0), some (.int x1), some (.int x2), some (.int x3), some (.int x4), some (.int x5), some (.int x6), some (.int (((40 : Int32) * x1) + x6))] [] q3.2) (fun f => rfl) ?_
      refine OkF.ite (fun _ => ?_) (fun _ => ?_)
      · exact OkF.kl (ls1 := [some (.ref x0), some (.int x1), some (.int x2), some (.int x3), some (.int x4), none, some (.int x6), none]) (fun f => rfl) (ob219_95 d k6 hk6 x0 x1 x2 x3 x4 x6 q3.2)
      · refine OkF.eq 6 (Y := fun f => if oc q3.2 x0 12 = true then rk px kx f (d + 2) 219 54 [some (.ref x0), some (.int x1), some (.int x2), some (.int x3), some (.int x4), some (.int x5), some (.int x6), some (.int (((40 : Int32) * x1) + x6))] (va_rf (q3.2.2.2.2.1 x0 1) :: [.int x4, .int x3, .int x2, .ref x0]) q3.2 else none) (fun f => rfl) ?_
        refine OkF.grd (fun _ => ?_)
        refine OkF.rf (fun a4 => ?_)
        refine OkF.eq 2 (Y := fun f => if inb (((40 : Int32) * x1) + x6) (al q3.2 a4) = true then rk px kx f (d + 2) 219 57 [some (.ref x0), some (.int x1), some (.int x2), some (.int x3), some (.int x4), some (.int x5), some (.int x6), some (.int (((40 : Int32) * x1) + x6))] [.int (q3.2.2.1 a4 (((40 : Int32) * x1) + x6).toNatClampNeg), .int x4, .int x3, .int x2, .ref x0] q3.2 else none) (fun f => rfl) ?_
        refine OkF.grd (fun _ => ?_)
        refine OkF.eq 1 (Y := fun f => if oc q3.2 x0 12 = true then (rk px kx f (d + 1) 175 0 [some (.ref x0), some (.int x2), some (.int x3), some (.int x4), some (.int (q3.2.2.1 a4 (((40 : Int32) * x1) + x6).toNatClampNeg))] [] q3.2).bind (fun q => rk px kx f (d + 2) 219 60 [some (.ref x0), some (.int x1), some (.int x2), some (.int x3), some (.int x4), some (.int x5), some (.int x6), some (.int (((40 : Int32) * x1) + x6))] (q.1.toList ++ []) q.2) else none) (fun f => rfl) ?_
        refine OkF.grd (fun _ => ?_)
        refine OkF.bind (w1 := wI) (om175 (d + 0) x0 x2 x3 x4 (q3.2.2.1 a4 (((40 : Int32) * x1) + x6).toNatClampNeg) q3.2) (fun q5 => ?_)
        refine OkF.eq 2 (Y := fun f => if oc q5.2 x0 12 = true then rk px kx f (d + 2) 219 64 [some (.ref x0), some (.int x1), some (.int x2), some (.int x3), some (.int x4), some (.int x5), some (.int x6), some (.int (((40 : Int32) * x1) + x6))] (va_rf (q5.2.2.2.2.1 x0 1) :: [.int q5.1]) q5.2 else none) (fun f => rfl) ?_
        refine OkF.grd (fun _ => ?_)
        refine OkF.rf (fun a6 => ?_)
        refine OkF.eq 4 (Y := fun f => if inb ((((40 : Int32) * x1) + x6) + (1 : Int32)) (al q5.2 a6) = true then rk px kx f (d + 2) 219 69 [some (.ref x0), some (.int x1), some (.int x2), some (.int x3), some (.int x4), some (.int x5), some (.int x6), some (.int (((40 : Int32) * x1) + x6))] [.int (q5.2.2.1 a6 ((((40 : Int32) * x1) + x6) + (1 : Int32)).toNatClampNeg), .int q5.1] q5.2 else none) (fun f => rfl) ?_
        refine OkF.grd (fun _ => ?_)
        refine OkF.eq 1 (Y := fun f => if q5.1 = (q5.2.2.1 a6 ((((40 : Int32) * x1) + x6) + (1 : Int32)).toNatClampNeg) then rk px kx f (d + 2) 219 72 [some (.ref x0), some (.int x1), some (.int x2), some (.int x3), some (.int x4), some (.int x5), some (.int x6), some (.int (((40 : Int32) * x1) + x6))] [] q5.2 else rk px kx f (d + 2) 219 95 [some (.ref x0), some (.int x1), some (.int x2), some (.int x3), some (.int x4), some (.int x5), some (.int x6), some (.int (((40 : Int32) * x1) + x6))] [] q5.2) (fun f => rfl) ?_
        refine OkF.ite (fun _ => ?_) (fun _ => ?_)
        · refine OkF.eq 4 (Y := fun f => (rk px kx f (d + 1) 185 0 [some (.int x2), some (.int x3), some (.int x4)] [] q5.2).bind (fun q => rk px kx f (d + 2) 219 79 [some (.ref x0), some (.int x1), some (.int x2), some (.int x3), some (.int x4), some (.int x5), some (.int x6), some (.int (((40 : Int32) * x1) + x6))] (q.1.toList ++ []) q.2)) (fun f => rfl) ?_
          refine OkF.bind (w1 := wI) (om185 (d + 0) x2 x3 x4 q5.2) (fun q7 => ?_)
          refine OkF.eq 2 (Y := fun f => if oc q7.2 x0 12 = true then rk px kx f (d + 2) 219 83 [some (.ref x0), some (.int x1), some (.int x2), some (.int x3), some (.int x4), some (.int x5), some (.int x6), some (.int (((40 : Int32) * x1) + x6))] (va_rf (q7.2.2.2.2.1 x0 1) :: [.int q7.1]) q7.2 else none) (fun f => rfl) ?_
          refine OkF.grd (fun _ => ?_)
          refine OkF.rf (fun a8 => ?_)
          refine OkF.eq 4 (Y := fun f => if inb ((((40 : Int32) * x1) + x6) + (2 : Int32)) (al q7.2 a8) = true then rk px kx f (d + 2) 219 88 [some (.ref x0), some (.int x1), some (.int x2), some (.int x3), some (.int x4), some (.int x5), some (.int x6), some (.int (((40 : Int32) * x1) + x6))] [.int (q7.2.2.1 a8 ((((40 : Int32) * x1) + x6) + (2 : Int32)).toNatClampNeg), .int q7.1] q7.2 else none) (fun f => rfl) ?_
          refine OkF.grd (fun _ => ?_)
          refine OkF.eq 1 (Y := fun f => if q7.1 = (q7.2.2.1 a8 ((((40 : Int32) * x1) + x6) + (2 : Int32)).toNatClampNeg) then rk px kx f (d + 2) 219 91 [some (.ref x0), some (.int x1), some (.int x2), some (.int x3), some (.int x4), some (.int x5), some (.int x6), some (.int (((40 : Int32) * x1) + x6))] [] q7.2 else rk px kx f (d + 2) 219 95 [some (.ref x0), some (.int x1), some (.int x2), some (.int x3), some (.int x4), some (.int x5), some (.int x6), some (.int (((40 : Int32) * x1) + x6))] [] q7.2) (fun f => rfl) ?_
          refine OkF.ite (fun _ => ?_) (fun _ => ?_)
          · refine OkF.eq 2 (Y := fun f => rk px kx f (d + 2) 219 96 [some (.ref x0), some (.int x1), some (.int x2), some (.int x3), some (.int x4), some (.int x5), some (.int x6), some (.int (((40 : Int32) * x1) + x6))] [.int (1 : Int32)] q7.2) (fun f => rfl) ?_
            exact OkF.kl (ls1 := [some (.ref x0), some (.int x1), some (.int x2), some (.int x3), some (.int x4), none, some (.int x6), none]) (fun f => rfl) (ob219_96 d k6 hk6 x0 x1 x2 x3 x4 x6 (1 : Int32) q7.2)
          · exact OkF.kl (ls1 := [some (.ref x0), some (.int x1), some (.int x2), some (.int x3), some (.int x4), none, some (.int x6), none]) (fun f => rfl) (ob219_95 d k6 hk6 x0 x1 x2 x3 x4 x6 q7.2)
        · exact OkF.kl (ls1 := [some (.ref x0), some (.int x1), some (.int x2), some (.int x3), some (.int x4), none, some (.int x6), none]) (fun f => rfl) (ob219_95 d k6 hk6 x0 x1 x2 x3 x4 x6 q5.2)
def l219_6 : Nat → Nat → Int32 → Int32 → Int32 → Int32 → Int32 → Int32 → Sx → Option (Int32 × Sx)
  | 0 => fun _ _ _ _ _ _ _ _ => none
  | n + 1 => fun x0 x1 x2 x3 x4 x5 x6 S => b219_6 (l219_6 n) x0 x1 x2 x3 x4 x5 x6 S
set_option maxRecDepth 100000 in
theorem ol219_6 (d : Nat) : ∀ (n : Nat) (x0 : Nat) (x1 : Int32) (x2 : Int32) (x3 : Int32) (x4 : Int32) (x5 : Int32) (x6 : Int32) (S : Sx), OkF wI (fun f => rk px kx f (d + 2) 219 6 [some (.ref x0), some (.int x1), some (.int x2), some (.int x3), some (.int x4), some (.int x5), some (.int x6), none] [] S) (l219_6 n x0 x1 x2 x3 x4 x5 x6 S) := by
  intro n
  induction n with
  | zero => intro x0 x1 x2 x3 x4 x5 x6 S; exact OkF.no
  | succ n ih => intro x0 x1 x2 x3 x4 x5 x6 S; exact ob219_6 d (l219_6 n) ih x0 x1 x2 x3 x4 x5 x6 S
def m219 (x0 : Nat) (x1 : Int32) (x2 : Int32) (x3 : Int32) (x4 : Int32) (S : Sx) : Option (Int32 × Sx) :=
  l219_6 1000 x0 x1 x2 x3 x4 (1 : Int32) (0 : Int32) S
set_option maxRecDepth 100000 in
theorem om219 (d : Nat) (x0 : Nat) (x1 : Int32) (x2 : Int32) (x3 : Int32) (x4 : Int32) (S : Sx) : OkF wI (fun f => rk px kx f (d + 2) 219 0 [some (.ref x0), some (.int x1), some (.int x2), some (.int x3), some (.int x4), none, none, none] [] S) (m219 x0 x1 x2 x3 x4 S) := by
  unfold m219
  refine OkF.eq 4 (Y := fun f => rk px kx f (d + 2) 219 6 [some (.ref x0), some (.int x1), some (.int x2), some (.int x3), some (.int x4), some (.int (1 : Int32)), some (.int (0 : Int32)), none] [] S) (fun f => rfl) ?_
  exact OkF.kl (ls1 := [some (.ref x0), some (.int x1), some (.int x2), some (.int x3), some (.int x4), some (.int (1 : Int32)), some (.int (0 : Int32)), none]) (fun f => rfl) (ol219_6 d 1000 x0 x1 x2 x3 x4 (1 : Int32) (0 : Int32) S)
-- DoorSoldModel.fits(II)I
def b217_123 (k42 : Nat → Int32 → Int32 → Int32 → Int32 → Int32 → Sx → Option (Int32 × Sx)) (x0 : Nat) (x1 : Int32) (x2 : Int32) (x4 : Int32) (x6 : Int32) (s0 : Int32) (s1 : Int32) (S : Sx) : Option (Int32 × Sx) :=
  k42 x0 x1 x2 x4 (s0 ||| s1) (x6 + (1 : Int32)) S
set_option maxRecDepth 100000 in
theorem ob217_123 (d : Nat) (k42 : Nat → Int32 → Int32 → Int32 → Int32 → Int32 → Sx → Option (Int32 × Sx)) (hk42 : ∀ (x0 : Nat) (x1 : Int32) (x2 : Int32) (x4 : Int32) (x5 : Int32) (x6 : Int32) (S : Sx), OkF wI (fun f => rk px kx f (d + 3) 217 42 [some (.ref x0), some (.int x1), some (.int x2), none, some (.int x4), some (.int x5), some (.int x6)] [] S) (k42 x0 x1 x2 x4 x5 x6 S)) (x0 : Nat) (x1 : Int32) (x2 : Int32) (x4 : Int32) (x6 : Int32) (s0 : Int32) (s1 : Int32) (S : Sx) : OkF wI (fun f => rk px kx f (d + 3) 217 123 [some (.ref x0), some (.int x1), some (.int x2), none, some (.int x4), none, some (.int x6)] [.int s1, .int s0] S) (b217_123 k42 x0 x1 x2 x4 x6 s0 s1 S) := by
  unfold b217_123
  refine OkF.eq 4 (Y := fun f => rk px kx f (d + 3) 217 42 [some (.ref x0), some (.int x1), some (.int x2), none, some (.int x4), some (.int (s0 ||| s1)), some (.int (x6 + (1 : Int32)))] [] S) (fun f => rfl) ?_
  exact OkF.kl (ls1 := [some (.ref x0), some (.int x1), some (.int x2), none, some (.int x4), some (.int (s0 ||| s1)), some (.int (x6 + (1 : Int32)))]) (fun f => rfl) (hk42 x0 x1 x2 x4 (s0 ||| s1) (x6 + (1 : Int32)) S)
def b217_86 (k42 : Nat → Int32 → Int32 → Int32 → Int32 → Int32 → Sx → Option (Int32 × Sx)) (x0 : Nat) (x1 : Int32) (x2 : Int32) (x5 : Int32) (x6 : Int32) (s0 : Int32) (s1 : Int32) (S : Sx) : Option (Int32 × Sx) :=
  if oc S x0 12 = true then (S.2.2.2.1 x0 6).bind fun a1 => if inb x1 (al S a1) = true then if oc S x0 12 = true then (S.2.2.2.1 x0 8).bind fun a2 => if inb ((4 : Int32) + x1) (al S a2) = true then if oc S x0 12 = true then (m219 x0 x2 (S.2.1 a1 x1.toNatClampNeg) (S.2.1 a2 ((4 : Int32) + x1).toNatClampNeg) x6 S).bind fun q3 => if q3.1 = 0 then b217_123 k42 x0 x1 x2 (s0 ||| s1) x6 x5 (0 : Int32) q3.2 else b217_123 k42 x0 x1 x2 (s0 ||| s1) x6 x5 ((1 : Int32) <<< (x6 &&& 31)) q3.2 else none else none else none else none else none
set_option maxRecDepth 100000 in
theorem ob217_86 (d : Nat) (k42 : Nat → Int32 → Int32 → Int32 → Int32 → Int32 → Sx → Option (Int32 × Sx)) (hk42 : ∀ (x0 : Nat) (x1 : Int32) (x2 : Int32) (x4 : Int32) (x5 : Int32) (x6 : Int32) (S : Sx), OkF wI (fun f => rk px kx f (d + 3) 217 42 [some (.ref x0), some (.int x1), some (.int x2), none, some (.int x4), some (.int x5), some (.int x6)] [] S) (k42 x0 x1 x2 x4 x5 x6 S)) (x0 : Nat) (x1 : Int32) (x2 : Int32) (x5 : Int32) (x6 : Int32) (s0 : Int32) (s1 : Int32) (S : Sx) : OkF wI (fun f => rk px kx f (d + 3) 217 86 [some (.ref x0), some (.int x1), some (.int x2), none, none, some (.int x5), some (.int x6)] [.int s1, .int s0] S) (b217_86 k42 x0 x1 x2 x5 x6 s0 s1 S) := by
  unfold b217_86
  refine OkF.eq 7 (Y := fun f => if oc S x0 12 = true then rk px kx f (d + 3) 217 97 [some (.ref x0), some (.int x1), some (.int x2), none, some (.int (s0 ||| s1)), some (.int x5), some (.int x6)] (va_rf (S.2.2.2.1 x0 6) :: [.int x2, .ref x0, .int x5]) S else none) (fun f => rfl) ?_
  refine OkF.grd (fun _ => ?_)
  refine OkF.rf (fun a1 => ?_)
  refine OkF.eq 2 (Y := fun f => if inb x1 (al S a1) = true then rk px kx f (d + 3) 217 99 [some (.ref x0), some (.int x1), some (.int x2), none, some (.int (s0 ||| s1)), some (.int x5), some (.int x6)] [.int (S.2.1 a1 x1.toNatClampNeg), .int x2, .ref x0, .int x5] S else none) (fun f => rfl) ?_
  refine OkF.grd (fun _ => ?_)
  refine OkF.eq 2 (Y := fun f => if oc S x0 12 = true then rk px kx f (d + 3) 217 103 [some (.ref x0), some (.int x1), some (.int x2), none, some (.int (s0 ||| s1)), some (.int x5), some (.int x6)] (va_rf (S.2.2.2.1 x0 8) :: [.int (S.2.1 a1 x1.toNatClampNeg), .int x2, .ref x0, .int x5]) S else none) (fun f => rfl) ?_
  refine OkF.grd (fun _ => ?_)
  refine OkF.rf (fun a2 => ?_)
  refine OkF.eq 4 (Y := fun f => if inb ((4 : Int32) + x1) (al S a2) = true then rk px kx f (d + 3) 217 107 [some (.ref x0), some (.int x1), some (.int x2), none, some (.int (s0 ||| s1)), some (.int x5), some (.int x6)] [.int (S.2.1 a2 ((4 : Int32) + x1).toNatClampNeg), .int (S.2.1 a1 x1.toNatClampNeg), .int x2, .ref x0, .int x5] S else none) (fun f => rfl) ?_
  refine OkF.grd (fun _ => ?_)
  refine OkF.eq 2 (Y := fun f => if oc S x0 12 = true then (rk px kx f (d + 2) 219 0 [some (.ref x0), some (.int x2), some (.int (S.2.1 a1 x1.toNatClampNeg)), some (.int (S.2.1 a2 ((4 : Int32) + x1).toNatClampNeg)), some (.int x6), none, none, none] [] S).bind (fun q => rk px kx f (d + 3) 217 112 [some (.ref x0), some (.int x1), some (.int x2), none, some (.int (s0 ||| s1)), some (.int x5), some (.int x6)] (q.1.toList ++ [.int x5]) q.2) else none) (fun f => rfl) ?_
  refine OkF.grd (fun _ => ?_)
  refine OkF.bind (w1 := wI) (om219 (d + 0) x0 x2 (S.2.1 a1 x1.toNatClampNeg) (S.2.1 a2 ((4 : Int32) + x1).toNatClampNeg) x6 S) (fun q3 => ?_)
  refine OkF.eq 1 (Y := fun f => if q3.1 = 0 then rk px kx f (d + 3) 217 122 [some (.ref x0), some (.int x1), some (.int x2), none, some (.int (s0 ||| s1)), some (.int x5), some (.int x6)] [.int x5] q3.2 else rk px kx f (d + 3) 217 115 [some (.ref x0), some (.int x1), some (.int x2), none, some (.int (s0 ||| s1)), some (.int x5), some (.int x6)] [.int x5] q3.2) (fun f => rfl) ?_
  refine OkF.ite (fun _ => ?_) (fun _ => ?_)
  · refine OkF.eq 1 (Y := fun f => rk px kx f (d + 3) 217 123 [some (.ref x0), some (.int x1), some (.int x2), none, some (.int (s0 ||| s1)), some (.int x5), some (.int x6)] [.int (0 : Int32), .int x5] q3.2) (fun f => rfl) ?_
    exact OkF.kl (ls1 := [some (.ref x0), some (.int x1), some (.int x2), none, some (.int (s0 ||| s1)), none, some (.int x6)]) (fun f => rfl) (ob217_123 d k42 hk42 x0 x1 x2 (s0 ||| s1) x6 x5 (0 : Int32) q3.2)
  · refine OkF.eq 4 (Y := fun f => rk px kx f (d + 3) 217 123 [some (.ref x0), some (.int x1), some (.int x2), none, some (.int (s0 ||| s1)), some (.int x5), some (.int x6)] [.int ((1 : Int32) <<< (x6 &&& 31)), .int x5] q3.2) (fun f => rfl) ?_
    exact OkF.kl (ls1 := [some (.ref x0), some (.int x1), some (.int x2), none, some (.int (s0 ||| s1)), none, some (.int x6)]) (fun f => rfl) (ob217_123 d k42 hk42 x0 x1 x2 (s0 ||| s1) x6 x5 ((1 : Int32) <<< (x6 &&& 31)) q3.2)
def b217_42 (k42 : Nat → Int32 → Int32 → Int32 → Int32 → Int32 → Sx → Option (Int32 × Sx)) (x0 : Nat) (x1 : Int32) (x2 : Int32) (x4 : Int32) (x5 : Int32) (x6 : Int32) (S : Sx) : Option (Int32 × Sx) :=
  if oc S x0 12 = true then if (S.2.1 x0 5) ≤ x6 then if oc S x0 12 = true then (m211 x0 x4 x5 S).bind fun q4 => some (q4.1, q4.2) else none else if oc S x0 12 = true then (S.2.2.2.1 x0 6).bind fun a5 => if inb x1 (al S a5) = true then if oc S x0 12 = true then (S.2.2.2.1 x0 8).bind fun a6 => if inb ((10 : Int32) + x1) (al S a6) = true then if oc S x0 12 = true then (m219 x0 x2 (S.2.1 a5 x1.toNatClampNeg) x6 (S.2.1 a6 ((10 : Int32) + x1).toNatClampNeg) S).bind fun q7 => if q7.1 = 0 then b217_86 k42 x0 x1 x2 x5 x6 x4 (0 : Int32) q7.2 else b217_86 k42 x0 x1 x2 x5 x6 x4 ((1 : Int32) <<< (x6 &&& 31)) q7.2 else none else none else none else none else none else none
set_option maxRecDepth 100000 in
theorem ob217_42 (d : Nat) (k42 : Nat → Int32 → Int32 → Int32 → Int32 → Int32 → Sx → Option (Int32 × Sx)) (hk42 : ∀ (x0 : Nat) (x1 : Int32) (x2 : Int32) (x4 : Int32) (x5 : Int32) (x6 : Int32) (S : Sx), OkF wI (fun f => rk px kx f (d + 3) 217 42 [some (.ref x0), some (.int x1), some (.int x2), none, some (.int x4), some (.int x5), some (.int x6)] [] S) (k42 x0 x1 x2 x4 x5 x6 S)) (x0 : Nat) (x1 : Int32) (x2 : Int32) (x4 : Int32) (x5 : Int32) (x6 : Int32) (S : Sx) : OkF wI (fun f => rk px kx f (d + 3) 217 42 [some (.ref x0), some (.int x1), some (.int x2), none, some (.int x4), some (.int x5), some (.int x6)] [] S) (b217_42 k42 x0 x1 x2 x4 x5 x6 S) := by
  unfold b217_42
  refine OkF.eq 3 (Y := fun f => if oc S x0 12 = true then rk px kx f (d + 3) 217 48 [some (.ref x0), some (.int x1), some (.int x2), none, some (.int x4), some (.int x5), some (.int x6)] [.int (S.2.1 x0 5), .int x6] S else none) (fun f => rfl) ?_
  refine OkF.grd (fun _ => ?_)
  refine OkF.eq 1 (Y := fun f => if (S.2.1 x0 5) ≤ x6 then rk px kx f (d + 3) 217 132 [some (.ref x0), some (.int x1), some (.int x2), none, some (.int x4), some (.int x5), some (.int x6)] [] S else rk px kx f (d + 3) 217 51 [some (.ref x0), some (.int x1), some (.int x2), none, some (.int x4), some (.int x5), some (.int x6)] [] S) (fun f => rfl) ?_
  refine OkF.ite (fun _ => ?_) (fun _ => ?_)
  · refine OkF.eq 4 (Y := fun f => if oc S x0 12 = true then (rk px kx f (d + 2) 211 0 [some (.ref x0), some (.int x4), some (.int x5)] [] S).bind (fun q => rk px kx f (d + 3) 217 140 [some (.ref x0), some (.int x1), some (.int x2), none, some (.int x4), some (.int x5), some (.int x6)] (q.1.toList ++ []) q.2) else none) (fun f => rfl) ?_
    refine OkF.grd (fun _ => ?_)
    refine OkF.bind (w1 := wI) (om211 (d + 2) x0 x4 x5 S) (fun q4 => ?_)
    exact OkF.ret 1 (fun f => rfl)
  · refine OkF.eq 5 (Y := fun f => if oc S x0 12 = true then rk px kx f (d + 3) 217 59 [some (.ref x0), some (.int x1), some (.int x2), none, some (.int x4), some (.int x5), some (.int x6)] (va_rf (S.2.2.2.1 x0 6) :: [.int x2, .ref x0, .int x4]) S else none) (fun f => rfl) ?_
    refine OkF.grd (fun _ => ?_)
    refine OkF.rf (fun a5 => ?_)
    refine OkF.eq 2 (Y := fun f => if inb x1 (al S a5) = true then rk px kx f (d + 3) 217 61 [some (.ref x0), some (.int x1), some (.int x2), none, some (.int x4), some (.int x5), some (.int x6)] [.int (S.2.1 a5 x1.toNatClampNeg), .int x2, .ref x0, .int x4] S else none) (fun f => rfl) ?_
    refine OkF.grd (fun _ => ?_)
    refine OkF.eq 3 (Y := fun f => if oc S x0 12 = true then rk px kx f (d + 3) 217 67 [some (.ref x0), some (.int x1), some (.int x2), none, some (.int x4), some (.int x5), some (.int x6)] (va_rf (S.2.2.2.1 x0 8) :: [.int x6, .int (S.2.1 a5 x1.toNatClampNeg), .int x2, .ref x0, .int x4]) S else none) (fun f => rfl) ?_
    refine OkF.grd (fun _ => ?_)
    refine OkF.rf (fun a6 => ?_)
    refine OkF.eq 4 (Y := fun f => if inb ((10 : Int32) + x1) (al S a6) = true then rk px kx f (d + 3) 217 72 [some (.ref x0), some (.int x1), some (.int x2), none, some (.int x4), some (.int x5), some (.int x6)] [.int (S.2.1 a6 ((10 : Int32) + x1).toNatClampNeg), .int x6, .int (S.2.1 a5 x1.toNatClampNeg), .int x2, .ref x0, .int x4] S else none) (fun f => rfl) ?_
    refine OkF.grd (fun _ => ?_)
    refine OkF.eq 1 (Y := fun f => if oc S x0 12 = true then (rk px kx f (d + 2) 219 0 [some (.ref x0), some (.int x2), some (.int (S.2.1 a5 x1.toNatClampNeg)), some (.int x6), some (.int (S.2.1 a6 ((10 : Int32) + x1).toNatClampNeg)), none, none, none] [] S).bind (fun q => rk px kx f (d + 3) 217 75 [some (.ref x0), some (.int x1), some (.int x2), none, some (.int x4), some (.int x5), some (.int x6)] (q.1.toList ++ [.int x4]) q.2) else none) (fun f => rfl) ?_
    refine OkF.grd (fun _ => ?_)
    refine OkF.bind (w1 := wI) (om219 (d + 0) x0 x2 (S.2.1 a5 x1.toNatClampNeg) x6 (S.2.1 a6 ((10 : Int32) + x1).toNatClampNeg) S) (fun q7 => ?_)
    refine OkF.eq 1 (Y := fun f => if q7.1 = 0 then rk px kx f (d + 3) 217 85 [some (.ref x0), some (.int x1), some (.int x2), none, some (.int x4), some (.int x5), some (.int x6)] [.int x4] q7.2 else rk px kx f (d + 3) 217 78 [some (.ref x0), some (.int x1), some (.int x2), none, some (.int x4), some (.int x5), some (.int x6)] [.int x4] q7.2) (fun f => rfl) ?_
    refine OkF.ite (fun _ => ?_) (fun _ => ?_)
    · refine OkF.eq 1 (Y := fun f => rk px kx f (d + 3) 217 86 [some (.ref x0), some (.int x1), some (.int x2), none, some (.int x4), some (.int x5), some (.int x6)] [.int (0 : Int32), .int x4] q7.2) (fun f => rfl) ?_
      exact OkF.kl (ls1 := [some (.ref x0), some (.int x1), some (.int x2), none, none, some (.int x5), some (.int x6)]) (fun f => rfl) (ob217_86 d k42 hk42 x0 x1 x2 x5 x6 x4 (0 : Int32) q7.2)
    · refine OkF.eq 4 (Y := fun f => rk px kx f (d + 3) 217 86 [some (.ref x0), some (.int x1), some (.int x2), none, some (.int x4), some (.int x5), some (.int x6)] [.int ((1 : Int32) <<< (x6 &&& 31)), .int x4] q7.2) (fun f => rfl) ?_
      exact OkF.kl (ls1 := [some (.ref x0), some (.int x1), some (.int x2), none, none, some (.int x5), some (.int x6)]) (fun f => rfl) (ob217_86 d k42 hk42 x0 x1 x2 x5 x6 x4 ((1 : Int32) <<< (x6 &&& 31)) q7.2)
def l217_42 : Nat → Nat → Int32 → Int32 → Int32 → Int32 → Int32 → Sx → Option (Int32 × Sx)
  | 0 => fun _ _ _ _ _ _ _ => none
  | n + 1 => fun x0 x1 x2 x4 x5 x6 S => b217_42 (l217_42 n) x0 x1 x2 x4 x5 x6 S
set_option maxRecDepth 100000 in
theorem ol217_42 (d : Nat) : ∀ (n : Nat) (x0 : Nat) (x1 : Int32) (x2 : Int32) (x4 : Int32) (x5 : Int32) (x6 : Int32) (S : Sx), OkF wI (fun f => rk px kx f (d + 3) 217 42 [some (.ref x0), some (.int x1), some (.int x2), none, some (.int x4), some (.int x5), some (.int x6)] [] S) (l217_42 n x0 x1 x2 x4 x5 x6 S) := by
  intro n
  induction n with
  | zero => intro x0 x1 x2 x4 x5 x6 S; exact OkF.no
  | succ n ih => intro x0 x1 x2 x4 x5 x6 S; exact ob217_42 d (l217_42 n) ih x0 x1 x2 x4 x5 x6 S
def m217 (x0 : Nat) (x1 : Int32) (x2 : Int32) (S : Sx) : Option (Int32 × Sx) :=
  if oc S x0 12 = true then (m171 x0 x1 S).bind fun q8 => if q8.1 = 0 then some ((-1 : Int32), q8.2) else (m149 x2 q8.2).bind fun q9 => if q9.1 = 0 then some ((-1 : Int32), q9.2) else if oc q9.2 x0 12 = true then (m218 x0 x2 q9.2).bind fun q10 => if q10.1 = 0 then l217_42 1000 x0 x1 x2 (0 : Int32) (0 : Int32) (0 : Int32) q10.2 else if oc q10.2 x0 12 = true then (m151 x0 q10.1 q10.2).bind fun q11 => some (q11.1, q11.2) else none else none else none
set_option maxRecDepth 100000 in
theorem om217 (d : Nat) (x0 : Nat) (x1 : Int32) (x2 : Int32) (S : Sx) : OkF wI (fun f => rk px kx f (d + 3) 217 0 [some (.ref x0), some (.int x1), some (.int x2), none, none, none, none] [] S) (m217 x0 x1 x2 S) := by
  unfold m217
  refine OkF.eq 3 (Y := fun f => if oc S x0 12 = true then (rk px kx f (d + 2) 171 0 [some (.ref x0), some (.int x1)] [] S).bind (fun q => rk px kx f (d + 3) 217 5 [some (.ref x0), some (.int x1), some (.int x2), none, none, none, none] (q.1.toList ++ []) q.2) else none) (fun f => rfl) ?_
  refine OkF.grd (fun _ => ?_)
  refine OkF.bind (w1 := wI) (om171 (d + 1) x0 x1 S) (fun q8 => ?_)
  refine OkF.eq 1 (Y := fun f => if q8.1 = 0 then rk px kx f (d + 3) 217 15 [some (.ref x0), some (.int x1), some (.int x2), none, none, none, none] [] q8.2 else rk px kx f (d + 3) 217 8 [some (.ref x0), some (.int x1), some (.int x2), none, none, none, none] [] q8.2) (fun f => rfl) ?_
  refine OkF.ite (fun _ => ?_) (fun _ => ?_)
  · exact OkF.ret 2 (fun f => rfl)
  · refine OkF.eq 2 (Y := fun f => (rk px kx f (d + 2) 149 0 [some (.int x2)] [] q8.2).bind (fun q => rk px kx f (d + 3) 217 12 [some (.ref x0), some (.int x1), some (.int x2), none, none, none, none] (q.1.toList ++ []) q.2)) (fun f => rfl) ?_
    refine OkF.bind (w1 := wI) (om149 (d + 1) x2 q8.2) (fun q9 => ?_)
    refine OkF.eq 1 (Y := fun f => if q9.1 = 0 then rk px kx f (d + 3) 217 15 [some (.ref x0), some (.int x1), some (.int x2), none, none, none, none] [] q9.2 else rk px kx f (d + 3) 217 17 [some (.ref x0), some (.int x1), some (.int x2), none, none, none, none] [] q9.2) (fun f => rfl) ?_
    refine OkF.ite (fun _ => ?_) (fun _ => ?_)
    · exact OkF.ret 2 (fun f => rfl)
    · refine OkF.eq 3 (Y := fun f => if oc q9.2 x0 12 = true then (rk px kx f (d + 2) 218 0 [some (.ref x0), some (.int x2), none, none, none] [] q9.2).bind (fun q => rk px kx f (d + 3) 217 22 [some (.ref x0), some (.int x1), some (.int x2), none, none, none, none] (q.1.toList ++ []) q.2) else none) (fun f => rfl) ?_
      refine OkF.grd (fun _ => ?_)
      refine OkF.bind (w1 := wI) (om218 (d + 0) x0 x2 q9.2) (fun q10 => ?_)
      refine OkF.eq 3 (Y := fun f => if q10.1 = 0 then rk px kx f (d + 3) 217 33 [some (.ref x0), some (.int x1), some (.int x2), some (.int q10.1), none, none, none] [] q10.2 else rk px kx f (d + 3) 217 27 [some (.ref x0), some (.int x1), some (.int x2), some (.int q10.1), none, none, none] [] q10.2) (fun f => rfl) ?_
      refine OkF.ite (fun _ => ?_) (fun _ => ?_)
      · refine OkF.eq 6 (Y := fun f => rk px kx f (d + 3) 217 42 [some (.ref x0), some (.int x1), some (.int x2), some (.int q10.1), some (.int (0 : Int32)), some (.int (0 : Int32)), some (.int (0 : Int32))] [] q10.2) (fun f => rfl) ?_
        exact OkF.kl (ls1 := [some (.ref x0), some (.int x1), some (.int x2), none, some (.int (0 : Int32)), some (.int (0 : Int32)), some (.int (0 : Int32))]) (fun f => rfl) (ol217_42 d 1000 x0 x1 x2 (0 : Int32) (0 : Int32) (0 : Int32) q10.2)
      · refine OkF.eq 3 (Y := fun f => if oc q10.2 x0 12 = true then (rk px kx f (d + 2) 151 0 [some (.ref x0), some (.int q10.1)] [] q10.2).bind (fun q => rk px kx f (d + 3) 217 32 [some (.ref x0), some (.int x1), some (.int x2), some (.int q10.1), none, none, none] (q.1.toList ++ []) q.2) else none) (fun f => rfl) ?_
        refine OkF.grd (fun _ => ?_)
        refine OkF.bind (w1 := wI) (om151 (d + 2) x0 q10.1 q10.2) (fun q11 => ?_)
        exact OkF.ret 1 (fun f => rfl)
