-- DoorSold.allCases()J
def b131_32 (k4 : Nat → Int64 → Int32 → Sx → Option (Int64 × Sx)) (x0 : Nat) (x1 : Int64) (x3 : Int32) (S : Sx) : Option (Int64 × Sx) :=
  k4 x0 x1 (x3 + (1 : Int32)) S
set_option maxRecDepth 100000 in
theorem ob131_32 (d : Nat) (k4 : Nat → Int64 → Int32 → Sx → Option (Int64 × Sx)) (hk4 : ∀ (x0 : Nat) (x1 : Int64) (x3 : Int32) (S : Sx), OkF wL (fun f => rk px kx f (d + 1) 131 4 [some (.ref x0), some (.long x1), none, some (.int x3)] [] S) (k4 x0 x1 x3 S)) (x0 : Nat) (x1 : Int64) (x3 : Int32) (S : Sx) : OkF wL (fun f => rk px kx f (d + 1) 131 32 [some (.ref x0), some (.long x1), none, some (.int x3)] [] S) (b131_32 k4 x0 x1 x3 S) := by
  unfold b131_32
  refine OkF.eq 2 (Y := fun f => rk px kx f (d + 1) 131 4 [some (.ref x0), some (.long x1), none, some (.int (x3 + (1 : Int32)))] [] S) (fun f => rfl) ?_
  exact OkF.kl (ls1 := [some (.ref x0), some (.long x1), none, some (.int (x3 + (1 : Int32)))]) (fun f => rfl) (hk4 x0 x1 (x3 + (1 : Int32)) S)
def b131_4 (k4 : Nat → Int64 → Int32 → Sx → Option (Int64 × Sx)) (x0 : Nat) (x1 : Int64) (x3 : Int32) (S : Sx) : Option (Int64 × Sx) :=
  if oc S x0 11 = true then (S.2.2.2.1 x0 3).bind fun a1 => if oc S a1 4 = true then if (S.2.1 a1 9) ≤ x3 then some (x1, S) else if oc S x0 11 = true then (S.2.2.2.1 x0 3).bind fun a2 => if oc S a2 4 = true then (m66 a2 x3 S).bind fun q3 => if q3.1 = 0 then b131_32 k4 x0 x1 x3 q3.2 else b131_32 k4 x0 (x1 * (12 : Int64)) x3 q3.2 else none else none else none else none
set_option maxRecDepth 100000 in
theorem ob131_4 (d : Nat) (k4 : Nat → Int64 → Int32 → Sx → Option (Int64 × Sx)) (hk4 : ∀ (x0 : Nat) (x1 : Int64) (x3 : Int32) (S : Sx), OkF wL (fun f => rk px kx f (d + 1) 131 4 [some (.ref x0), some (.long x1), none, some (.int x3)] [] S) (k4 x0 x1 x3 S)) (x0 : Nat) (x1 : Int64) (x3 : Int32) (S : Sx) : OkF wL (fun f => rk px kx f (d + 1) 131 4 [some (.ref x0), some (.long x1), none, some (.int x3)] [] S) (b131_4 k4 x0 x1 x3 S) := by
  unfold b131_4
  refine OkF.eq 3 (Y := fun f => if oc S x0 11 = true then rk px kx f (d + 1) 131 9 [some (.ref x0), some (.long x1), none, some (.int x3)] (va_rf (S.2.2.2.1 x0 3) :: [.int x3]) S else none) (fun f => rfl) ?_
  refine OkF.grd (fun _ => ?_)
  refine OkF.rf (fun a1 => ?_)
  refine OkF.eq 1 (Y := fun f => if oc S a1 4 = true then rk px kx f (d + 1) 131 12 [some (.ref x0), some (.long x1), none, some (.int x3)] [.int (S.2.1 a1 9), .int x3] S else none) (fun f => rfl) ?_
  refine OkF.grd (fun _ => ?_)
  refine OkF.eq 1 (Y := fun f => if (S.2.1 a1 9) ≤ x3 then rk px kx f (d + 1) 131 38 [some (.ref x0), some (.long x1), none, some (.int x3)] [] S else rk px kx f (d + 1) 131 15 [some (.ref x0), some (.long x1), none, some (.int x3)] [] S) (fun f => rfl) ?_
  refine OkF.ite (fun _ => ?_) (fun _ => ?_)
  · exact OkF.ret 2 (fun f => rfl)
  · refine OkF.eq 2 (Y := fun f => if oc S x0 11 = true then rk px kx f (d + 1) 131 19 [some (.ref x0), some (.long x1), none, some (.int x3)] (va_rf (S.2.2.2.1 x0 3) :: []) S else none) (fun f => rfl) ?_
    refine OkF.grd (fun _ => ?_)
    refine OkF.rf (fun a2 => ?_)
    refine OkF.eq 2 (Y := fun f => if oc S a2 4 = true then (rk px kx f (d + 0) 66 0 [some (.ref a2), some (.int x3)] [] S).bind (fun q => rk px kx f (d + 1) 131 23 [some (.ref x0), some (.long x1), none, some (.int x3)] (q.1.toList ++ []) q.2) else none) (fun f => rfl) ?_
    refine OkF.grd (fun _ => ?_)
    refine OkF.bind (w1 := wI) (om66 (d + 0) a2 x3 S) (fun q3 => ?_)
    refine OkF.eq 1 (Y := fun f => if q3.1 = 0 then rk px kx f (d + 1) 131 32 [some (.ref x0), some (.long x1), none, some (.int x3)] [] q3.2 else rk px kx f (d + 1) 131 26 [some (.ref x0), some (.long x1), none, some (.int x3)] [] q3.2) (fun f => rfl) ?_
    refine OkF.ite (fun _ => ?_) (fun _ => ?_)
    · exact OkF.kl (ls1 := [some (.ref x0), some (.long x1), none, some (.int x3)]) (fun f => rfl) (ob131_32 d k4 hk4 x0 x1 x3 q3.2)
    · refine OkF.eq 4 (Y := fun f => rk px kx f (d + 1) 131 32 [some (.ref x0), some (.long (x1 * (12 : Int64))), none, some (.int x3)] [] q3.2) (fun f => rfl) ?_
      exact OkF.kl (ls1 := [some (.ref x0), some (.long (x1 * (12 : Int64))), none, some (.int x3)]) (fun f => rfl) (ob131_32 d k4 hk4 x0 (x1 * (12 : Int64)) x3 q3.2)
def l131_4 : Nat → Nat → Int64 → Int32 → Sx → Option (Int64 × Sx)
  | 0 => fun _ _ _ _ => none
  | n + 1 => fun x0 x1 x3 S => b131_4 (l131_4 n) x0 x1 x3 S
set_option maxRecDepth 100000 in
theorem ol131_4 (d : Nat) : ∀ (n : Nat) (x0 : Nat) (x1 : Int64) (x3 : Int32) (S : Sx), OkF wL (fun f => rk px kx f (d + 1) 131 4 [some (.ref x0), some (.long x1), none, some (.int x3)] [] S) (l131_4 n x0 x1 x3 S) := by
  intro n
  induction n with
  | zero => intro x0 x1 x3 S; exact OkF.no
  | succ n ih => intro x0 x1 x3 S; exact ob131_4 d (l131_4 n) ih x0 x1 x3 S
def m131 (x0 : Nat) (S : Sx) : Option (Int64 × Sx) :=
  l131_4 1000 x0 (1 : Int64) (0 : Int32) S
set_option maxRecDepth 100000 in
theorem om131 (d : Nat) (x0 : Nat) (S : Sx) : OkF wL (fun f => rk px kx f (d + 1) 131 0 [some (.ref x0), none, none, none] [] S) (m131 x0 S) := by
  unfold m131
  refine OkF.eq 4 (Y := fun f => rk px kx f (d + 1) 131 4 [some (.ref x0), some (.long (1 : Int64)), none, some (.int (0 : Int32))] [] S) (fun f => rfl) ?_
  exact OkF.kl (ls1 := [some (.ref x0), some (.long (1 : Int64)), none, some (.int (0 : Int32))]) (fun f => rfl) (ol131_4 d 1000 x0 (1 : Int64) (0 : Int32) S)
-- DoorSold.tellFraction(JJ)V
def b132_55 (x0 : Nat) (x1 : Int64) (x3 : Int64) (x5 : Int64) (S : Sx) : Option (Sx) :=
  if x5 = 0 then none else if oc S x0 11 = true then lt (sL S x0 13 (x1 / x5)) fun S1 => if x5 = 0 then none else if oc S1 x0 11 = true then lt (sL S1 x0 14 (x3 / x5)) fun S2 => some S2 else none else none
set_option maxRecDepth 100000 in
theorem ob132_55 (d : Nat) (x0 : Nat) (x1 : Int64) (x3 : Int64) (x5 : Int64) (S : Sx) : OkF wV (fun f => rk px kx f (d + 0) 132 55 [some (.ref x0), some (.long x1), none, some (.long x3), none, some (.long x5), none, none, none, none, none, none] [] S) (b132_55 x0 x1 x3 x5 S) := by
  unfold b132_55
  refine OkF.eq 4 (Y := fun f => if x5 = 0 then none else rk px kx f (d + 0) 132 60 [some (.ref x0), some (.long x1), none, some (.long x3), none, some (.long x5), none, none, none, none, none, none] [.long (x1 / x5), .ref x0] S) (fun f => rfl) ?_
  refine OkF.ngr (fun _ => ?_)
  refine OkF.eq 1 (Y := fun f => if oc S x0 11 = true then rk px kx f (d + 0) 132 63 [some (.ref x0), some (.long x1), none, some (.long x3), none, some (.long x5), none, none, none, none, none, none] [] (sL S x0 13 (x1 / x5)) else none) (fun f => rfl) ?_
  refine OkF.grd (fun _ => ?_)
  refine OkF.nm (fun S1 => ?_)
  refine OkF.eq 4 (Y := fun f => if x5 = 0 then none else rk px kx f (d + 0) 132 68 [some (.ref x0), some (.long x1), none, some (.long x3), none, some (.long x5), none, none, none, none, none, none] [.long (x3 / x5), .ref x0] S1) (fun f => rfl) ?_
  refine OkF.ngr (fun _ => ?_)
  refine OkF.eq 1 (Y := fun f => if oc S1 x0 11 = true then rk px kx f (d + 0) 132 71 [some (.ref x0), some (.long x1), none, some (.long x3), none, some (.long x5), none, none, none, none, none, none] [] (sL S1 x0 14 (x3 / x5)) else none) (fun f => rfl) ?_
  refine OkF.grd (fun _ => ?_)
  refine OkF.nm (fun S2 => ?_)
  exact OkF.ret 1 (fun f => rfl)
def b132_45 (x0 : Nat) (x1 : Int64) (x3 : Int64) (x5 : Int64) (S : Sx) : Option (Sx) :=
  if 0 ≤ (lg_cmp x5 (1 : Int64)) then b132_55 x0 x1 x3 x5 S else b132_55 x0 x1 x3 (1 : Int64) S
set_option maxRecDepth 100000 in
theorem ob132_45 (d : Nat) (x0 : Nat) (x1 : Int64) (x3 : Int64) (x5 : Int64) (S : Sx) : OkF wV (fun f => rk px kx f (d + 0) 132 45 [some (.ref x0), some (.long x1), none, some (.long x3), none, some (.long x5), none, none, none, none, none, none] [] S) (b132_45 x0 x1 x3 x5 S) := by
  unfold b132_45
  refine OkF.eq 4 (Y := fun f => if 0 ≤ (lg_cmp x5 (1 : Int64)) then rk px kx f (d + 0) 132 55 [some (.ref x0), some (.long x1), none, some (.long x3), none, some (.long x5), none, none, none, none, none, none] [] S else rk px kx f (d + 0) 132 52 [some (.ref x0), some (.long x1), none, some (.long x3), none, some (.long x5), none, none, none, none, none, none] [] S) (fun f => rfl) ?_
  refine OkF.ite (fun _ => ?_) (fun _ => ?_)
  · exact OkF.kl (ls1 := [some (.ref x0), some (.long x1), none, some (.long x3), none, some (.long x5), none, none, none, none, none, none]) (fun f => rfl) (ob132_55 d x0 x1 x3 x5 S)
  · refine OkF.eq 2 (Y := fun f => rk px kx f (d + 0) 132 55 [some (.ref x0), some (.long x1), none, some (.long x3), none, some (.long (1 : Int64)), none, none, none, none, none, none] [] S) (fun f => rfl) ?_
    exact OkF.kl (ls1 := [some (.ref x0), some (.long x1), none, some (.long x3), none, some (.long (1 : Int64)), none, none, none, none, none, none]) (fun f => rfl) (ob132_55 d x0 x1 x3 (1 : Int64) S)
def b132_9 (k9 : Nat → Int64 → Int64 → Int64 → Int64 → Int32 → Sx → Option (Sx)) (x0 : Nat) (x1 : Int64) (x3 : Int64) (x5 : Int64) (x7 : Int64) (x9 : Int32) (S : Sx) : Option (Sx) :=
  if (128 : Int32) ≤ x9 then b132_45 x0 x1 x3 x5 S else if (lg_cmp x7 (0 : Int64)) = 0 then b132_45 x0 x1 x3 x5 S else if x7 = 0 then none else k9 x0 x1 x3 x7 (x5 - x5 / x7 * x7) (x9 + (1 : Int32)) S
set_option maxRecDepth 100000 in
theorem ob132_9 (d : Nat) (k9 : Nat → Int64 → Int64 → Int64 → Int64 → Int32 → Sx → Option (Sx)) (hk9 : ∀ (x0 : Nat) (x1 : Int64) (x3 : Int64) (x5 : Int64) (x7 : Int64) (x9 : Int32) (S : Sx), OkF wV (fun f => rk px kx f (d + 0) 132 9 [some (.ref x0), some (.long x1), none, some (.long x3), none, some (.long x5), none, some (.long x7), none, some (.int x9), none, none] [] S) (k9 x0 x1 x3 x5 x7 x9 S)) (x0 : Nat) (x1 : Int64) (x3 : Int64) (x5 : Int64) (x7 : Int64) (x9 : Int32) (S : Sx) : OkF wV (fun f => rk px kx f (d + 0) 132 9 [some (.ref x0), some (.long x1), none, some (.long x3), none, some (.long x5), none, some (.long x7), none, some (.int x9), none, none] [] S) (b132_9 k9 x0 x1 x3 x5 x7 x9 S) := by
  unfold b132_9
  refine OkF.eq 3 (Y := fun f => if (128 : Int32) ≤ x9 then rk px kx f (d + 0) 132 45 [some (.ref x0), some (.long x1), none, some (.long x3), none, some (.long x5), none, some (.long x7), none, some (.int x9), none, none] [] S else rk px kx f (d + 0) 132 17 [some (.ref x0), some (.long x1), none, some (.long x3), none, some (.long x5), none, some (.long x7), none, some (.int x9), none, none] [] S) (fun f => rfl) ?_
  refine OkF.ite (fun _ => ?_) (fun _ => ?_)
  · exact OkF.kl (ls1 := [some (.ref x0), some (.long x1), none, some (.long x3), none, some (.long x5), none, none, none, none, none, none]) (fun f => rfl) (ob132_45 d x0 x1 x3 x5 S)
  · refine OkF.eq 4 (Y := fun f => if (lg_cmp x7 (0 : Int64)) = 0 then rk px kx f (d + 0) 132 45 [some (.ref x0), some (.long x1), none, some (.long x3), none, some (.long x5), none, some (.long x7), none, some (.int x9), none, none] [] S else rk px kx f (d + 0) 132 24 [some (.ref x0), some (.long x1), none, some (.long x3), none, some (.long x5), none, some (.long x7), none, some (.int x9), none, none] [] S) (fun f => rfl) ?_
    refine OkF.ite (fun _ => ?_) (fun _ => ?_)
    · exact OkF.kl (ls1 := [some (.ref x0), some (.long x1), none, some (.long x3), none, some (.long x5), none, none, none, none, none, none]) (fun f => rfl) (ob132_45 d x0 x1 x3 x5 S)
    · refine OkF.eq 3 (Y := fun f => if x7 = 0 then none else rk px kx f (d + 0) 132 29 [some (.ref x0), some (.long x1), none, some (.long x3), none, some (.long x5), none, some (.long x7), none, some (.int x9), none, none] [.long (x5 - x5 / x7 * x7)] S) (fun f => rfl) ?_
      refine OkF.ngr (fun _ => ?_)
      refine OkF.eq 7 (Y := fun f => rk px kx f (d + 0) 132 9 [some (.ref x0), some (.long x1), none, some (.long x3), none, some (.long x7), none, some (.long (x5 - x5 / x7 * x7)), none, some (.int (x9 + (1 : Int32))), some (.long (x5 - x5 / x7 * x7)), none] [] S) (fun f => rfl) ?_
      exact OkF.kl (ls1 := [some (.ref x0), some (.long x1), none, some (.long x3), none, some (.long x7), none, some (.long (x5 - x5 / x7 * x7)), none, some (.int (x9 + (1 : Int32))), none, none]) (fun f => rfl) (hk9 x0 x1 x3 x7 (x5 - x5 / x7 * x7) (x9 + (1 : Int32)) S)
def l132_9 : Nat → Nat → Int64 → Int64 → Int64 → Int64 → Int32 → Sx → Option (Sx)
  | 0 => fun _ _ _ _ _ _ _ => none
  | n + 1 => fun x0 x1 x3 x5 x7 x9 S => b132_9 (l132_9 n) x0 x1 x3 x5 x7 x9 S
set_option maxRecDepth 100000 in
theorem ol132_9 (d : Nat) : ∀ (n : Nat) (x0 : Nat) (x1 : Int64) (x3 : Int64) (x5 : Int64) (x7 : Int64) (x9 : Int32) (S : Sx), OkF wV (fun f => rk px kx f (d + 0) 132 9 [some (.ref x0), some (.long x1), none, some (.long x3), none, some (.long x5), none, some (.long x7), none, some (.int x9), none, none] [] S) (l132_9 n x0 x1 x3 x5 x7 x9 S) := by
  intro n
  induction n with
  | zero => intro x0 x1 x3 x5 x7 x9 S; exact OkF.no
  | succ n ih => intro x0 x1 x3 x5 x7 x9 S; exact ob132_9 d (l132_9 n) ih x0 x1 x3 x5 x7 x9 S
def m132 (x0 : Nat) (x1 : Int64) (x3 : Int64) (S : Sx) : Option (Sx) :=
  l132_9 1000 x0 x1 x3 x3 x1 (0 : Int32) S
set_option maxRecDepth 100000 in
theorem om132 (d : Nat) (x0 : Nat) (x1 : Int64) (x3 : Int64) (S : Sx) : OkF wV (fun f => rk px kx f (d + 0) 132 0 [some (.ref x0), some (.long x1), none, some (.long x3), none, none, none, none, none, none, none, none] [] S) (m132 x0 x1 x3 S) := by
  unfold m132
  refine OkF.eq 6 (Y := fun f => rk px kx f (d + 0) 132 9 [some (.ref x0), some (.long x1), none, some (.long x3), none, some (.long x3), none, some (.long x1), none, some (.int (0 : Int32)), none, none] [] S) (fun f => rfl) ?_
  exact OkF.kl (ls1 := [some (.ref x0), some (.long x1), none, some (.long x3), none, some (.long x3), none, some (.long x1), none, some (.int (0 : Int32)), none, none]) (fun f => rfl) (ol132_9 d 1000 x0 x1 x3 x3 x1 (0 : Int32) S)
-- DoorSold.odds(III)I
def b128_90 (k30 : Nat → Int32 → Int32 → Int32 → Int64 → Int32 → Sx → Option (Int32 × Sx)) (x0 : Nat) (x1 : Int32) (x2 : Int32) (x3 : Int32) (x4 : Int64) (x6 : Int32) (S : Sx) : Option (Int32 × Sx) :=
  k30 x0 x1 x2 x3 x4 (x6 + (1 : Int32)) S
set_option maxRecDepth 100000 in
theorem ob128_90 (d : Nat) (k30 : Nat → Int32 → Int32 → Int32 → Int64 → Int32 → Sx → Option (Int32 × Sx)) (hk30 : ∀ (x0 : Nat) (x1 : Int32) (x2 : Int32) (x3 : Int32) (x4 : Int64) (x6 : Int32) (S : Sx), OkF wI (fun f => rk px kx f (d + 6) 128 30 [some (.ref x0), some (.int x1), some (.int x2), some (.int x3), some (.long x4), none, some (.int x6)] [] S) (k30 x0 x1 x2 x3 x4 x6 S)) (x0 : Nat) (x1 : Int32) (x2 : Int32) (x3 : Int32) (x4 : Int64) (x6 : Int32) (S : Sx) : OkF wI (fun f => rk px kx f (d + 6) 128 90 [some (.ref x0), some (.int x1), some (.int x2), some (.int x3), some (.long x4), none, some (.int x6)] [] S) (b128_90 k30 x0 x1 x2 x3 x4 x6 S) := by
  unfold b128_90
  refine OkF.eq 2 (Y := fun f => rk px kx f (d + 6) 128 30 [some (.ref x0), some (.int x1), some (.int x2), some (.int x3), some (.long x4), none, some (.int (x6 + (1 : Int32)))] [] S) (fun f => rfl) ?_
  exact OkF.kl (ls1 := [some (.ref x0), some (.int x1), some (.int x2), some (.int x3), some (.long x4), none, some (.int (x6 + (1 : Int32)))]) (fun f => rfl) (hk30 x0 x1 x2 x3 x4 (x6 + (1 : Int32)) S)
def b128_30 (k30 : Nat → Int32 → Int32 → Int32 → Int64 → Int32 → Sx → Option (Int32 × Sx)) (x0 : Nat) (x1 : Int32) (x2 : Int32) (x3 : Int32) (x4 : Int64) (x6 : Int32) (S : Sx) : Option (Int32 × Sx) :=
  if oc S x0 11 = true then (S.2.2.2.1 x0 3).bind fun a1 => if oc S a1 4 = true then (m110 a1 S).bind fun q2 => if q2.1 < x6 then if oc q2.2 x0 11 = true then (m131 x0 q2.2).bind fun q3 => if oc q3.2 x0 11 = true then (m132 x0 x4 q3.1 q3.2).bind fun q4 => some ((1 : Int32), q4) else none else none else if oc q2.2 x0 11 = true then (q2.2.2.2.2.1 x0 3).bind fun a5 => if oc q2.2 a5 4 = true then if (x6 &&& ((q2.2.2.1 a5 14) ^^^ (-1 : Int32))) = 0 then if oc q2.2 x0 11 = true then (q2.2.2.2.2.1 x0 7).bind fun a6 => if oc q2.2 x0 11 = true then (q2.2.2.2.2.1 x0 3).bind fun a7 => if oc q2.2 a6 10 = true then (m99 a6 a7 x6 x1 q2.2).bind fun q8 => if x2 < q8.1 then b128_90 k30 x0 x1 x2 x3 x4 x6 q8.2 else if oc q8.2 x0 11 = true then (m130 x0 x6 x3 q8.2).bind fun q9 => b128_90 k30 x0 x1 x2 x3 (x4 + q9.1) x6 q9.2 else none else none else none else none else b128_90 k30 x0 x1 x2 x3 x4 x6 q2.2 else none else none else none else none
set_option maxRecDepth 100000 in
theorem ob128_30 (d : Nat) (k30 : Nat → Int32 → Int32 → Int32 → Int64 → Int32 → Sx → Option (Int32 × Sx)) (hk30 : ∀ (x0 : Nat) (x1 : Int32) (x2 : Int32) (x3 : Int32) (x4 : Int64) (x6 : Int32) (S : Sx), OkF wI (fun f => rk px kx f (d + 6) 128 30 [some (.ref x0), some (.int x1), some (.int x2), some (.int x3), some (.long x4), none, some (.int x6)] [] S) (k30 x0 x1 x2 x3 x4 x6 S)) (x0 : Nat) (x1 : Int32) (x2 : Int32) (x3 : Int32) (x4 : Int64) (x6 : Int32) (S : Sx) : OkF wI (fun f => rk px kx f (d + 6) 128 30 [some (.ref x0), some (.int x1), some (.int x2), some (.int x3), some (.long x4), none, some (.int x6)] [] S) (b128_30 k30 x0 x1 x2 x3 x4 x6 S) := by
  unfold b128_30
  refine OkF.eq 3 (Y := fun f => if oc S x0 11 = true then rk px kx f (d + 6) 128 36 [some (.ref x0), some (.int x1), some (.int x2), some (.int x3), some (.long x4), none, some (.int x6)] (va_rf (S.2.2.2.1 x0 3) :: [.int x6]) S else none) (fun f => rfl) ?_
  refine OkF.grd (fun _ => ?_)
  refine OkF.rf (fun a1 => ?_)
  refine OkF.eq 1 (Y := fun f => if oc S a1 4 = true then (rk px kx f (d + 5) 110 0 [some (.ref a1)] [] S).bind (fun q => rk px kx f (d + 6) 128 39 [some (.ref x0), some (.int x1), some (.int x2), some (.int x3), some (.long x4), none, some (.int x6)] (q.1.toList ++ [.int x6]) q.2) else none) (fun f => rfl) ?_
  refine OkF.grd (fun _ => ?_)
  refine OkF.bind (w1 := wI) (om110 (d + 5) a1 S) (fun q2 => ?_)
  refine OkF.eq 1 (Y := fun f => if q2.1 < x6 then rk px kx f (d + 6) 128 96 [some (.ref x0), some (.int x1), some (.int x2), some (.int x3), some (.long x4), none, some (.int x6)] [] q2.2 else rk px kx f (d + 6) 128 42 [some (.ref x0), some (.int x1), some (.int x2), some (.int x3), some (.long x4), none, some (.int x6)] [] q2.2) (fun f => rfl) ?_
  refine OkF.ite (fun _ => ?_) (fun _ => ?_)
  · refine OkF.eq 4 (Y := fun f => if oc q2.2 x0 11 = true then (rk px kx f (d + 5) 131 0 [some (.ref x0), none, none, none] [] q2.2).bind (fun q => rk px kx f (d + 6) 128 103 [some (.ref x0), some (.int x1), some (.int x2), some (.int x3), some (.long x4), none, some (.int x6)] (q.1.toList ++ [.long x4, .ref x0]) q.2) else none) (fun f => rfl) ?_
    refine OkF.grd (fun _ => ?_)
    refine OkF.bind (w1 := wL) (om131 (d + 4) x0 q2.2) (fun q3 => ?_)
    refine OkF.eq 1 (Y := fun f => if oc q3.2 x0 11 = true then (rk px kx f (d + 5) 132 0 [some (.ref x0), some (.long x4), none, some (.long q3.1), none, none, none, none, none, none, none, none] [] q3.2).bind (fun q => rk px kx f (d + 6) 128 106 [some (.ref x0), some (.int x1), some (.int x2), some (.int x3), some (.long x4), none, some (.int x6)] (q.1.toList ++ []) q.2) else none) (fun f => rfl) ?_
    refine OkF.grd (fun _ => ?_)
    refine OkF.bind (w1 := wV) (om132 (d + 5) x0 x4 q3.1 q3.2) (fun q4 => ?_)
    exact OkF.ret 2 (fun f => rfl)
  · refine OkF.eq 3 (Y := fun f => if oc q2.2 x0 11 = true then rk px kx f (d + 6) 128 48 [some (.ref x0), some (.int x1), some (.int x2), some (.int x3), some (.long x4), none, some (.int x6)] (va_rf (q2.2.2.2.2.1 x0 3) :: [.int x6]) q2.2 else none) (fun f => rfl) ?_
    refine OkF.grd (fun _ => ?_)
    refine OkF.rf (fun a5 => ?_)
    refine OkF.eq 1 (Y := fun f => if oc q2.2 a5 4 = true then rk px kx f (d + 6) 128 51 [some (.ref x0), some (.int x1), some (.int x2), some (.int x3), some (.long x4), none, some (.int x6)] [.int (q2.2.2.1 a5 14), .int x6] q2.2 else none) (fun f => rfl) ?_
    refine OkF.grd (fun _ => ?_)
    refine OkF.eq 4 (Y := fun f => if (x6 &&& ((q2.2.2.1 a5 14) ^^^ (-1 : Int32))) = 0 then rk px kx f (d + 6) 128 60 [some (.ref x0), some (.int x1), some (.int x2), some (.int x3), some (.long x4), none, some (.int x6)] [] q2.2 else rk px kx f (d + 6) 128 57 [some (.ref x0), some (.int x1), some (.int x2), some (.int x3), some (.long x4), none, some (.int x6)] [] q2.2) (fun f => rfl) ?_
    refine OkF.ite (fun _ => ?_) (fun _ => ?_)
    · refine OkF.eq 2 (Y := fun f => if oc q2.2 x0 11 = true then rk px kx f (d + 6) 128 64 [some (.ref x0), some (.int x1), some (.int x2), some (.int x3), some (.long x4), none, some (.int x6)] (va_rf (q2.2.2.2.2.1 x0 7) :: []) q2.2 else none) (fun f => rfl) ?_
      refine OkF.grd (fun _ => ?_)
      refine OkF.rf (fun a6 => ?_)
      refine OkF.eq 2 (Y := fun f => if oc q2.2 x0 11 = true then rk px kx f (d + 6) 128 68 [some (.ref x0), some (.int x1), some (.int x2), some (.int x3), some (.long x4), none, some (.int x6)] (va_rf (q2.2.2.2.2.1 x0 3) :: [.ref a6]) q2.2 else none) (fun f => rfl) ?_
      refine OkF.grd (fun _ => ?_)
      refine OkF.rf (fun a7 => ?_)
      refine OkF.eq 3 (Y := fun f => if oc q2.2 a6 10 = true then (rk px kx f (d + 5) 99 0 [some (.ref a6), some (.ref a7), some (.int x6), some (.int x1), none] [] q2.2).bind (fun q => rk px kx f (d + 6) 128 74 [some (.ref x0), some (.int x1), some (.int x2), some (.int x3), some (.long x4), none, some (.int x6)] (q.1.toList ++ []) q.2) else none) (fun f => rfl) ?_
      refine OkF.grd (fun _ => ?_)
      refine OkF.bind (w1 := wI) (om99 (d + 0) a6 a7 x6 x1 q2.2) (fun q8 => ?_)
      refine OkF.eq 2 (Y := fun f => if x2 < q8.1 then rk px kx f (d + 6) 128 90 [some (.ref x0), some (.int x1), some (.int x2), some (.int x3), some (.long x4), none, some (.int x6)] [] q8.2 else rk px kx f (d + 6) 128 78 [some (.ref x0), some (.int x1), some (.int x2), some (.int x3), some (.long x4), none, some (.int x6)] [] q8.2) (fun f => rfl) ?_
      refine OkF.ite (fun _ => ?_) (fun _ => ?_)
      · exact OkF.kl (ls1 := [some (.ref x0), some (.int x1), some (.int x2), some (.int x3), some (.long x4), none, some (.int x6)]) (fun f => rfl) (ob128_90 d k30 hk30 x0 x1 x2 x3 x4 x6 q8.2)
      · refine OkF.eq 5 (Y := fun f => if oc q8.2 x0 11 = true then (rk px kx f (d + 5) 130 0 [some (.ref x0), some (.int x6), some (.int x3), none, none, none] [] q8.2).bind (fun q => rk px kx f (d + 6) 128 87 [some (.ref x0), some (.int x1), some (.int x2), some (.int x3), some (.long x4), none, some (.int x6)] (q.1.toList ++ [.long x4]) q.2) else none) (fun f => rfl) ?_
        refine OkF.grd (fun _ => ?_)
        refine OkF.bind (w1 := wL) (om130 (d + 4) x0 x6 x3 q8.2) (fun q9 => ?_)
        refine OkF.eq 2 (Y := fun f => rk px kx f (d + 6) 128 90 [some (.ref x0), some (.int x1), some (.int x2), some (.int x3), some (.long (x4 + q9.1)), none, some (.int x6)] [] q9.2) (fun f => rfl) ?_
        exact OkF.kl (ls1 := [some (.ref x0), some (.int x1), some (.int x2), some (.int x3), some (.long (x4 + q9.1)), none, some (.int x6)]) (fun f => rfl) (ob128_90 d k30 hk30 x0 x1 x2 x3 (x4 + q9.1) x6 q9.2)
    · refine OkF.eq 1 (Y := fun f => rk px kx f (d + 6) 128 90 [some (.ref x0), some (.int x1), some (.int x2), some (.int x3), some (.long x4), none, some (.int x6)] [] q2.2) (fun f => rfl) ?_
      exact OkF.kl (ls1 := [some (.ref x0), some (.int x1), some (.int x2), some (.int x3), some (.long x4), none, some (.int x6)]) (fun f => rfl) (ob128_90 d k30 hk30 x0 x1 x2 x3 x4 x6 q2.2)
def l128_30 : Nat → Nat → Int32 → Int32 → Int32 → Int64 → Int32 → Sx → Option (Int32 × Sx)
  | 0 => fun _ _ _ _ _ _ _ => none
  | n + 1 => fun x0 x1 x2 x3 x4 x6 S => b128_30 (l128_30 n) x0 x1 x2 x3 x4 x6 S
set_option maxRecDepth 100000 in
theorem ol128_30 (d : Nat) : ∀ (n : Nat) (x0 : Nat) (x1 : Int32) (x2 : Int32) (x3 : Int32) (x4 : Int64) (x6 : Int32) (S : Sx), OkF wI (fun f => rk px kx f (d + 6) 128 30 [some (.ref x0), some (.int x1), some (.int x2), some (.int x3), some (.long x4), none, some (.int x6)] [] S) (l128_30 n x0 x1 x2 x3 x4 x6 S) := by
  intro n
  induction n with
  | zero => intro x0 x1 x2 x3 x4 x6 S; exact OkF.no
  | succ n ih => intro x0 x1 x2 x3 x4 x6 S; exact ob128_30 d (l128_30 n) ih x0 x1 x2 x3 x4 x6 S
def m128 (x0 : Nat) (x1 : Int32) (x2 : Int32) (x3 : Int32) (S : Sx) : Option (Int32 × Sx) :=
  if oc S x0 11 = true then (m98 x0 x1 S).bind fun q10 => if q10.1 = 0 then (m90 x2 q10.2).bind fun q11 => if q11.1 = 0 then (m129 x3 q11.2).bind fun q12 => if q12.1 = 0 then l128_30 1000 x0 x1 x2 x3 (0 : Int64) (0 : Int32) q12.2 else some ((-1 : Int32), q12.2) else some ((-1 : Int32), q11.2) else some ((-1 : Int32), q10.2) else none
set_option maxRecDepth 100000 in
theorem om128 (d : Nat) (x0 : Nat) (x1 : Int32) (x2 : Int32) (x3 : Int32) (S : Sx) : OkF wI (fun f => rk px kx f (d + 6) 128 0 [some (.ref x0), some (.int x1), some (.int x2), some (.int x3), none, none, none] [] S) (m128 x0 x1 x2 x3 S) := by
  unfold m128
  refine OkF.eq 3 (Y := fun f => if oc S x0 11 = true then (rk px kx f (d + 5) 98 0 [some (.ref x0), some (.int x1)] [] S).bind (fun q => rk px kx f (d + 6) 128 5 [some (.ref x0), some (.int x1), some (.int x2), some (.int x3), none, none, none] (q.1.toList ++ []) q.2) else none) (fun f => rfl) ?_
  refine OkF.grd (fun _ => ?_)
  refine OkF.bind (w1 := wI) (om98 (d + 5) x0 x1 S) (fun q10 => ?_)
  refine OkF.eq 1 (Y := fun f => if q10.1 = 0 then rk px kx f (d + 6) 128 8 [some (.ref x0), some (.int x1), some (.int x2), some (.int x3), none, none, none] [] q10.2 else rk px kx f (d + 6) 128 22 [some (.ref x0), some (.int x1), some (.int x2), some (.int x3), none, none, none] [] q10.2) (fun f => rfl) ?_
  refine OkF.ite (fun _ => ?_) (fun _ => ?_)
  · refine OkF.eq 2 (Y := fun f => (rk px kx f (d + 5) 90 0 [some (.int x2)] [] q10.2).bind (fun q => rk px kx f (d + 6) 128 12 [some (.ref x0), some (.int x1), some (.int x2), some (.int x3), none, none, none] (q.1.toList ++ []) q.2)) (fun f => rfl) ?_
    refine OkF.bind (w1 := wI) (om90 (d + 5) x2 q10.2) (fun q11 => ?_)
    refine OkF.eq 1 (Y := fun f => if q11.1 = 0 then rk px kx f (d + 6) 128 15 [some (.ref x0), some (.int x1), some (.int x2), some (.int x3), none, none, none] [] q11.2 else rk px kx f (d + 6) 128 22 [some (.ref x0), some (.int x1), some (.int x2), some (.int x3), none, none, none] [] q11.2) (fun f => rfl) ?_
    refine OkF.ite (fun _ => ?_) (fun _ => ?_)
    · refine OkF.eq 2 (Y := fun f => (rk px kx f (d + 5) 129 0 [some (.int x3)] [] q11.2).bind (fun q => rk px kx f (d + 6) 128 19 [some (.ref x0), some (.int x1), some (.int x2), some (.int x3), none, none, none] (q.1.toList ++ []) q.2)) (fun f => rfl) ?_
      refine OkF.bind (w1 := wI) (om129 (d + 5) x3 q11.2) (fun q12 => ?_)
      refine OkF.eq 1 (Y := fun f => if q12.1 = 0 then rk px kx f (d + 6) 128 24 [some (.ref x0), some (.int x1), some (.int x2), some (.int x3), none, none, none] [] q12.2 else rk px kx f (d + 6) 128 22 [some (.ref x0), some (.int x1), some (.int x2), some (.int x3), none, none, none] [] q12.2) (fun f => rfl) ?_
      refine OkF.ite (fun _ => ?_) (fun _ => ?_)
      · refine OkF.eq 4 (Y := fun f => rk px kx f (d + 6) 128 30 [some (.ref x0), some (.int x1), some (.int x2), some (.int x3), some (.long (0 : Int64)), none, some (.int (0 : Int32))] [] q12.2) (fun f => rfl) ?_
        exact OkF.kl (ls1 := [some (.ref x0), some (.int x1), some (.int x2), some (.int x3), some (.long (0 : Int64)), none, some (.int (0 : Int32))]) (fun f => rfl) (ol128_30 d 1000 x0 x1 x2 x3 (0 : Int64) (0 : Int32) q12.2)
      · exact OkF.ret 2 (fun f => rfl)
    · exact OkF.ret 2 (fun f => rfl)
  · exact OkF.ret 2 (fun f => rfl)
-- DoorSold.mid(II)I
def b133_78 (k22 : Nat → Int32 → Int32 → Int64 → Int32 → Sx → Option (Int32 × Sx)) (x0 : Nat) (x1 : Int32) (x2 : Int32) (x3 : Int64) (x5 : Int32) (S : Sx) : Option (Int32 × Sx) :=
  k22 x0 x1 x2 x3 (x5 + (1 : Int32)) S
set_option maxRecDepth 100000 in
theorem ob133_78 (d : Nat) (k22 : Nat → Int32 → Int32 → Int64 → Int32 → Sx → Option (Int32 × Sx)) (hk22 : ∀ (x0 : Nat) (x1 : Int32) (x2 : Int32) (x3 : Int64) (x5 : Int32) (S : Sx), OkF wI (fun f => rk px kx f (d + 6) 133 22 [some (.ref x0), some (.int x1), some (.int x2), some (.long x3), none, some (.int x5)] [] S) (k22 x0 x1 x2 x3 x5 S)) (x0 : Nat) (x1 : Int32) (x2 : Int32) (x3 : Int64) (x5 : Int32) (S : Sx) : OkF wI (fun f => rk px kx f (d + 6) 133 78 [some (.ref x0), some (.int x1), some (.int x2), some (.long x3), none, some (.int x5)] [] S) (b133_78 k22 x0 x1 x2 x3 x5 S) := by
  unfold b133_78
  refine OkF.eq 2 (Y := fun f => rk px kx f (d + 6) 133 22 [some (.ref x0), some (.int x1), some (.int x2), some (.long x3), none, some (.int (x5 + (1 : Int32)))] [] S) (fun f => rfl) ?_
  exact OkF.kl (ls1 := [some (.ref x0), some (.int x1), some (.int x2), some (.long x3), none, some (.int (x5 + (1 : Int32)))]) (fun f => rfl) (hk22 x0 x1 x2 x3 (x5 + (1 : Int32)) S)
def b133_22 (k22 : Nat → Int32 → Int32 → Int64 → Int32 → Sx → Option (Int32 × Sx)) (x0 : Nat) (x1 : Int32) (x2 : Int32) (x3 : Int64) (x5 : Int32) (S : Sx) : Option (Int32 × Sx) :=
  if oc S x0 11 = true then (S.2.2.2.1 x0 3).bind fun a1 => if oc S a1 4 = true then (m110 a1 S).bind fun q2 => if q2.1 < x5 then if oc q2.2 x0 11 = true then (m131 x0 q2.2).bind fun q3 => if oc q3.2 x0 11 = true then (m132 x0 x3 q3.1 q3.2).bind fun q4 => some ((1 : Int32), q4) else none else none else if oc q2.2 x0 11 = true then (q2.2.2.2.2.1 x0 3).bind fun a5 => if oc q2.2 a5 4 = true then if (x5 &&& ((q2.2.2.1 a5 14) ^^^ (-1 : Int32))) = 0 then if oc q2.2 x0 11 = true then (m130 x0 x5 x2 q2.2).bind fun q6 => if oc q6.2 x0 11 = true then (q6.2.2.2.2.1 x0 7).bind fun a7 => if oc q6.2 x0 11 = true then (q6.2.2.2.2.1 x0 3).bind fun a8 => if oc q6.2 a7 10 = true then (m99 a7 a8 x5 x1 q6.2).bind fun q9 => b133_78 k22 x0 x1 x2 (x3 + (q6.1 * q9.1.toInt64)) x5 q9.2 else none else none else none else none else b133_78 k22 x0 x1 x2 x3 x5 q2.2 else none else none else none else none
set_option maxRecDepth 100000 in
theorem ob133_22 (d : Nat) (k22 : Nat → Int32 → Int32 → Int64 → Int32 → Sx → Option (Int32 × Sx)) (hk22 : ∀ (x0 : Nat) (x1 : Int32) (x2 : Int32) (x3 : Int64) (x5 : Int32) (S : Sx), OkF wI (fun f => rk px kx f (d + 6) 133 22 [some (.ref x0), some (.int x1), some (.int x2), some (.long x3), none, some (.int x5)] [] S) (k22 x0 x1 x2 x3 x5 S)) (x0 : Nat) (x1 : Int32) (x2 : Int32) (x3 : Int64) (x5 : Int32) (S : Sx) : OkF wI (fun f => rk px kx f (d + 6) 133 22 [some (.ref x0), some (.int x1), some (.int x2), some (.long x3), none, some (.int x5)] [] S) (b133_22 k22 x0 x1 x2 x3 x5 S) := by
  unfold b133_22
  refine OkF.eq 3 (Y := fun f => if oc S x0 11 = true then rk px kx f (d + 6) 133 28 [some (.ref x0), some (.int x1), some (.int x2), some (.long x3), none, some (.int x5)] (va_rf (S.2.2.2.1 x0 3) :: [.int x5]) S else none) (fun f => rfl) ?_
  refine OkF.grd (fun _ => ?_)
  refine OkF.rf (fun a1 => ?_)
  refine OkF.eq 1 (Y := fun f => if oc S a1 4 = true then (rk px kx f (d + 5) 110 0 [some (.ref a1)] [] S).bind (fun q => rk px kx f (d + 6) 133 31 [some (.ref x0), some (.int x1), some (.int x2), some (.long x3), none, some (.int x5)] (q.1.toList ++ [.int x5]) q.2) else none) (fun f => rfl) ?_
  refine OkF.grd (fun _ => ?_)
  refine OkF.bind (w1 := wI) (om110 (d + 5) a1 S) (fun q2 => ?_)
  refine OkF.eq 1 (Y := fun f => if q2.1 < x5 then rk px kx f (d + 6) 133 84 [some (.ref x0), some (.int x1), some (.int x2), some (.long x3), none, some (.int x5)] [] q2.2 else rk px kx f (d + 6) 133 34 [some (.ref x0), some (.int x1), some (.int x2), some (.long x3), none, some (.int x5)] [] q2.2) (fun f => rfl) ?_
  refine OkF.ite (fun _ => ?_) (fun _ => ?_)
  · refine OkF.eq 4 (Y := fun f => if oc q2.2 x0 11 = true then (rk px kx f (d + 5) 131 0 [some (.ref x0), none, none, none] [] q2.2).bind (fun q => rk px kx f (d + 6) 133 90 [some (.ref x0), some (.int x1), some (.int x2), some (.long x3), none, some (.int x5)] (q.1.toList ++ [.long x3, .ref x0]) q.2) else none) (fun f => rfl) ?_
    refine OkF.grd (fun _ => ?_)
    refine OkF.bind (w1 := wL) (om131 (d + 4) x0 q2.2) (fun q3 => ?_)
    refine OkF.eq 1 (Y := fun f => if oc q3.2 x0 11 = true then (rk px kx f (d + 5) 132 0 [some (.ref x0), some (.long x3), none, some (.long q3.1), none, none, none, none, none, none, none, none] [] q3.2).bind (fun q => rk px kx f (d + 6) 133 93 [some (.ref x0), some (.int x1), some (.int x2), some (.long x3), none, some (.int x5)] (q.1.toList ++ []) q.2) else none) (fun f => rfl) ?_
    refine OkF.grd (fun _ => ?_)
    refine OkF.bind (w1 := wV) (om132 (d + 5) x0 x3 q3.1 q3.2) (fun q4 => ?_)
    exact OkF.ret 2 (fun f => rfl)
  · refine OkF.eq 3 (Y := fun f => if oc q2.2 x0 11 = true then rk px kx f (d + 6) 133 40 [some (.ref x0), some (.int x1), some (.int x2), some (.long x3), none, some (.int x5)] (va_rf (q2.2.2.2.2.1 x0 3) :: [.int x5]) q2.2 else none) (fun f => rfl) ?_
    refine OkF.grd (fun _ => ?_)
    refine OkF.rf (fun a5 => ?_)
    refine OkF.eq 1 (Y := fun f => if oc q2.2 a5 4 = true then rk px kx f (d + 6) 133 43 [some (.ref x0), some (.int x1), some (.int x2), some (.long x3), none, some (.int x5)] [.int (q2.2.2.1 a5 14), .int x5] q2.2 else none) (fun f => rfl) ?_
    refine OkF.grd (fun _ => ?_)
    refine OkF.eq 4 (Y := fun f => if (x5 &&& ((q2.2.2.1 a5 14) ^^^ (-1 : Int32))) = 0 then rk px kx f (d + 6) 133 52 [some (.ref x0), some (.int x1), some (.int x2), some (.long x3), none, some (.int x5)] [] q2.2 else rk px kx f (d + 6) 133 49 [some (.ref x0), some (.int x1), some (.int x2), some (.long x3), none, some (.int x5)] [] q2.2) (fun f => rfl) ?_
    refine OkF.ite (fun _ => ?_) (fun _ => ?_)
    · refine OkF.eq 5 (Y := fun f => if oc q2.2 x0 11 = true then (rk px kx f (d + 5) 130 0 [some (.ref x0), some (.int x5), some (.int x2), none, none, none] [] q2.2).bind (fun q => rk px kx f (d + 6) 133 60 [some (.ref x0), some (.int x1), some (.int x2), some (.long x3), none, some (.int x5)] (q.1.toList ++ [.long x3]) q.2) else none) (fun f => rfl) ?_
      refine OkF.grd (fun _ => ?_)
      refine OkF.bind (w1 := wL) (om130 (d + 4) x0 x5 x2 q2.2) (fun q6 => ?_)
      refine OkF.eq 2 (Y := fun f => if oc q6.2 x0 11 = true then rk px kx f (d + 6) 133 64 [some (.ref x0), some (.int x1), some (.int x2), some (.long x3), none, some (.int x5)] (va_rf (q6.2.2.2.2.1 x0 7) :: [.long q6.1, .long x3]) q6.2 else none) (fun f => rfl) ?_
      refine OkF.grd (fun _ => ?_)
      refine OkF.rf (fun a7 => ?_)
      refine OkF.eq 2 (Y := fun f => if oc q6.2 x0 11 = true then rk px kx f (d + 6) 133 68 [some (.ref x0), some (.int x1), some (.int x2), some (.long x3), none, some (.int x5)] (va_rf (q6.2.2.2.2.1 x0 3) :: [.ref a7, .long q6.1, .long x3]) q6.2 else none) (fun f => rfl) ?_
      refine OkF.grd (fun _ => ?_)
      refine OkF.rf (fun a8 => ?_)
      refine OkF.eq 3 (Y := fun f => if oc q6.2 a7 10 = true then (rk px kx f (d + 5) 99 0 [some (.ref a7), some (.ref a8), some (.int x5), some (.int x1), none] [] q6.2).bind (fun q => rk px kx f (d + 6) 133 74 [some (.ref x0), some (.int x1), some (.int x2), some (.long x3), none, some (.int x5)] (q.1.toList ++ [.long q6.1, .long x3]) q.2) else none) (fun f => rfl) ?_
      refine OkF.grd (fun _ => ?_)
      refine OkF.bind (w1 := wI) (om99 (d + 0) a7 a8 x5 x1 q6.2) (fun q9 => ?_)
      refine OkF.eq 4 (Y := fun f => rk px kx f (d + 6) 133 78 [some (.ref x0), some (.int x1), some (.int x2), some (.long (x3 + (q6.1 * q9.1.toInt64))), none, some (.int x5)] [] q9.2) (fun f => rfl) ?_
      exact OkF.kl (ls1 := [some (.ref x0), some (.int x1), some (.int x2), some (.long (x3 + (q6.1 * q9.1.toInt64))), none, some (.int x5)]) (fun f => rfl) (ob133_78 d k22 hk22 x0 x1 x2 (x3 + (q6.1 * q9.1.toInt64)) x5 q9.2)
    · refine OkF.eq 1 (Y := fun f => rk px kx f (d + 6) 133 78 [some (.ref x0), some (.int x1), some (.int x2), some (.long x3), none, some (.int x5)] [] q2.2) (fun f => rfl) ?_
      exact OkF.kl (ls1 := [some (.ref x0), some (.int x1), some (.int x2), some (.long x3), none, some (.int x5)]) (fun f => rfl) (ob133_78 d k22 hk22 x0 x1 x2 x3 x5 q2.2)
def l133_22 : Nat → Nat → Int32 → Int32 → Int64 → Int32 → Sx → Option (Int32 × Sx)
  | 0 => fun _ _ _ _ _ _ => none
  | n + 1 => fun x0 x1 x2 x3 x5 S => b133_22 (l133_22 n) x0 x1 x2 x3 x5 S
set_option maxRecDepth 100000 in
theorem ol133_22 (d : Nat) : ∀ (n : Nat) (x0 : Nat) (x1 : Int32) (x2 : Int32) (x3 : Int64) (x5 : Int32) (S : Sx), OkF wI (fun f => rk px kx f (d + 6) 133 22 [some (.ref x0), some (.int x1), some (.int x2), some (.long x3), none, some (.int x5)] [] S) (l133_22 n x0 x1 x2 x3 x5 S) := by
  intro n
  induction n with
  | zero => intro x0 x1 x2 x3 x5 S; exact OkF.no
  | succ n ih => intro x0 x1 x2 x3 x5 S; exact ob133_22 d (l133_22 n) ih x0 x1 x2 x3 x5 S
def m133 (x0 : Nat) (x1 : Int32) (x2 : Int32) (S : Sx) : Option (Int32 × Sx) :=
  if oc S x0 11 = true then (m98 x0 x1 S).bind fun q10 => if q10.1 = 0 then (m129 x2 q10.2).bind fun q11 => if q11.1 = 0 then l133_22 1000 x0 x1 x2 (0 : Int64) (0 : Int32) q11.2 else some ((-1 : Int32), q11.2) else some ((-1 : Int32), q10.2) else none
set_option maxRecDepth 100000 in
theorem om133 (d : Nat) (x0 : Nat) (x1 : Int32) (x2 : Int32) (S : Sx) : OkF wI (fun f => rk px kx f (d + 6) 133 0 [some (.ref x0), some (.int x1), some (.int x2), none, none, none] [] S) (m133 x0 x1 x2 S) := by
  unfold m133
  refine OkF.eq 3 (Y := fun f => if oc S x0 11 = true then (rk px kx f (d + 5) 98 0 [some (.ref x0), some (.int x1)] [] S).bind (fun q => rk px kx f (d + 6) 133 5 [some (.ref x0), some (.int x1), some (.int x2), none, none, none] (q.1.toList ++ []) q.2) else none) (fun f => rfl) ?_
  refine OkF.grd (fun _ => ?_)
  refine OkF.bind (w1 := wI) (om98 (d + 5) x0 x1 S) (fun q10 => ?_)
  refine OkF.eq 1 (Y := fun f => if q10.1 = 0 then rk px kx f (d + 6) 133 8 [some (.ref x0), some (.int x1), some (.int x2), none, none, none] [] q10.2 else rk px kx f (d + 6) 133 15 [some (.ref x0), some (.int x1), some (.int x2), none, none, none] [] q10.2) (fun f => rfl) ?_
  refine OkF.ite (fun _ => ?_) (fun _ => ?_)
  · refine OkF.eq 2 (Y := fun f => (rk px kx f (d + 5) 129 0 [some (.int x2)] [] q10.2).bind (fun q => rk px kx f (d + 6) 133 12 [some (.ref x0), some (.int x1), some (.int x2), none, none, none] (q.1.toList ++ []) q.2)) (fun f => rfl) ?_
    refine OkF.bind (w1 := wI) (om129 (d + 5) x2 q10.2) (fun q11 => ?_)
    refine OkF.eq 1 (Y := fun f => if q11.1 = 0 then rk px kx f (d + 6) 133 17 [some (.ref x0), some (.int x1), some (.int x2), none, none, none] [] q11.2 else rk px kx f (d + 6) 133 15 [some (.ref x0), some (.int x1), some (.int x2), none, none, none] [] q11.2) (fun f => rfl) ?_
    refine OkF.ite (fun _ => ?_) (fun _ => ?_)
    · refine OkF.eq 4 (Y := fun f => rk px kx f (d + 6) 133 22 [some (.ref x0), some (.int x1), some (.int x2), some (.long (0 : Int64)), none, some (.int (0 : Int32))] [] q11.2) (fun f => rfl) ?_
      exact OkF.kl (ls1 := [some (.ref x0), some (.int x1), some (.int x2), some (.long (0 : Int64)), none, some (.int (0 : Int32))]) (fun f => rfl) (ol133_22 d 1000 x0 x1 x2 (0 : Int64) (0 : Int32) q11.2)
    · exact OkF.ret 2 (fun f => rfl)
  · exact OkF.ret 2 (fun f => rfl)
-- DoorSold.stepByLot(J)I
def m135 (x0 : Nat) (x1 : Int64) (S : Sx) : Option (Int32 × Sx) :=
  if (8 : Int64) = 0 then none else if oc S x0 11 = true then (S.2.2.2.1 x0 3).bind fun a1 => if oc S a1 4 = true then (m12 (1 : Int32) (S.2.1 a1 9) S).bind fun q2 => if q2.1.toInt64 = 0 then none else if oc q2.2 x0 11 = true then (q2.2.2.2.2.1 x0 3).bind fun a3 => if oc q2.2 a3 4 = true then (m80 a3 (((x1 / (8 : Int64)) - (x1 / (8 : Int64)) / q2.1.toInt64 * q2.1.toInt64).toInt32) q2.2).bind fun q4 => if q4.1 = 0 then if (3 : Int64) = 0 then none else if (lg_cmp (x1 - x1 / (3 : Int64) * (3 : Int64)) (0 : Int64)) = 0 then some ((6 : Int32), q4.2) else some ((7 : Int32), q4.2) else some (((x1 / (8 : Int64)) - (x1 / (8 : Int64)) / q2.1.toInt64 * q2.1.toInt64).toInt32, q4.2) else none else none else none else none
set_option maxRecDepth 100000 in
theorem om135 (d : Nat) (x0 : Nat) (x1 : Int64) (S : Sx) : OkF wI (fun f => rk px kx f (d + 4) 135 0 [some (.ref x0), some (.long x1), none, none] [] S) (m135 x0 x1 S) := by
  unfold m135
  refine OkF.eq 3 (Y := fun f => if (8 : Int64) = 0 then none else rk px kx f (d + 4) 135 5 [some (.ref x0), some (.long x1), none, none] [.long (x1 / (8 : Int64))] S) (fun f => rfl) ?_
  refine OkF.ngr (fun _ => ?_)
  refine OkF.eq 3 (Y := fun f => if oc S x0 11 = true then rk px kx f (d + 4) 135 10 [some (.ref x0), some (.long x1), none, none] (va_rf (S.2.2.2.1 x0 3) :: [.int (1 : Int32), .long (x1 / (8 : Int64))]) S else none) (fun f => rfl) ?_
  refine OkF.grd (fun _ => ?_)
  refine OkF.rf (fun a1 => ?_)
  refine OkF.eq 1 (Y := fun f => if oc S a1 4 = true then rk px kx f (d + 4) 135 13 [some (.ref x0), some (.long x1), none, none] [.int (S.2.1 a1 9), .int (1 : Int32), .long (x1 / (8 : Int64))] S else none) (fun f => rfl) ?_
  refine OkF.grd (fun _ => ?_)
  refine OkF.eq 1 (Y := fun f => (rk px kx f (d + 3) 12 0 [some (.int (1 : Int32)), some (.int (S.2.1 a1 9))] [] S).bind (fun q => rk px kx f (d + 4) 135 16 [some (.ref x0), some (.long x1), none, none] (q.1.toList ++ [.long (x1 / (8 : Int64))]) q.2)) (fun f => rfl) ?_
  refine OkF.bind (w1 := wI) (om12 (d + 3) (1 : Int32) (S.2.1 a1 9) S) (fun q2 => ?_)
  refine OkF.eq 2 (Y := fun f => if q2.1.toInt64 = 0 then none else rk px kx f (d + 4) 135 18 [some (.ref x0), some (.long x1), none, none] [.long ((x1 / (8 : Int64)) - (x1 / (8 : Int64)) / q2.1.toInt64 * q2.1.toInt64)] q2.2) (fun f => rfl) ?_
  refine OkF.ngr (fun _ => ?_)
  refine OkF.eq 4 (Y := fun f => if oc q2.2 x0 11 = true then rk px kx f (d + 4) 135 24 [some (.ref x0), some (.long x1), none, some (.int (((x1 / (8 : Int64)) - (x1 / (8 : Int64)) / q2.1.toInt64 * q2.1.toInt64).toInt32))] (va_rf (q2.2.2.2.2.1 x0 3) :: []) q2.2 else none) (fun f => rfl) ?_
  refine OkF.grd (fun _ => ?_)
  refine OkF.rf (fun a3 => ?_)
  refine OkF.eq 2 (Y := fun f => if oc q2.2 a3 4 = true then (rk px kx f (d + 3) 80 0 [some (.ref a3), some (.int (((x1 / (8 : Int64)) - (x1 / (8 : Int64)) / q2.1.toInt64 * q2.1.toInt64).toInt32))] [] q2.2).bind (fun q => rk px kx f (d + 4) 135 28 [some (.ref x0), some (.long x1), none, some (.int (((x1 / (8 : Int64)) - (x1 / (8 : Int64)) / q2.1.toInt64 * q2.1.toInt64).toInt32))] (q.1.toList ++ []) q.2) else none) (fun f => rfl) ?_
  refine OkF.grd (fun _ => ?_)
  refine OkF.bind (w1 := wI) (om80 (d + 0) a3 (((x1 / (8 : Int64)) - (x1 / (8 : Int64)) / q2.1.toInt64 * q2.1.toInt64).toInt32) q2.2) (fun q4 => ?_)
  refine OkF.eq 1 (Y := fun f => if q4.1 = 0 then rk px kx f (d + 4) 135 33 [some (.ref x0), some (.long x1), none, some (.int (((x1 / (8 : Int64)) - (x1 / (8 : Int64)) / q2.1.toInt64 * q2.1.toInt64).toInt32))] [] q4.2 else rk px kx f (d + 4) 135 31 [some (.ref x0), some (.long x1), none, some (.int (((x1 / (8 : Int64)) - (x1 / (8 : Int64)) / q2.1.toInt64 * q2.1.toInt64).toInt32))] [] q4.2) (fun f => rfl) ?_
  refine OkF.ite (fun _ => ?_) (fun _ => ?_)
  · refine OkF.eq 3 (Y := fun f => if (3 : Int64) = 0 then none else rk px kx f (d + 4) 135 38 [some (.ref x0), some (.long x1), none, some (.int (((x1 / (8 : Int64)) - (x1 / (8 : Int64)) / q2.1.toInt64 * q2.1.toInt64).toInt32))] [.long (x1 - x1 / (3 : Int64) * (3 : Int64))] q4.2) (fun f => rfl) ?_
    refine OkF.ngr (fun _ => ?_)
    refine OkF.eq 3 (Y := fun f => if (lg_cmp (x1 - x1 / (3 : Int64) * (3 : Int64)) (0 : Int64)) = 0 then rk px kx f (d + 4) 135 43 [some (.ref x0), some (.long x1), none, some (.int (((x1 / (8 : Int64)) - (x1 / (8 : Int64)) / q2.1.toInt64 * q2.1.toInt64).toInt32))] [] q4.2 else rk px kx f (d + 4) 135 48 [some (.ref x0), some (.long x1), none, some (.int (((x1 / (8 : Int64)) - (x1 / (8 : Int64)) / q2.1.toInt64 * q2.1.toInt64).toInt32))] [] q4.2) (fun f => rfl) ?_
    refine OkF.ite (fun _ => ?_) (fun _ => ?_)
    · exact OkF.ret 3 (fun f => rfl)
    · exact OkF.ret 2 (fun f => rfl)
  · exact OkF.ret 2 (fun f => rfl)
-- DoorSold.lots(II)I
def b134_60 (k60 : Nat → Int32 → Int64 → Int32 → Sx → Option (Int32 × Sx)) (x0 : Nat) (x1 : Int32) (x3 : Int64) (x5 : Int32) (S : Sx) : Option (Int32 × Sx) :=
  if x1 ≤ x5 then if oc S x0 11 = true then (S.2.2.2.1 x0 3).bind fun a1 => if oc S a1 4 = true then some (S.2.1 a1 12, S) else none else none else if (2147483647 : Int64) = 0 then none else if oc S x0 11 = true then (S.2.2.2.1 x0 3).bind fun a2 => if oc S x0 11 = true then (m135 x0 ((x3 * (48271 : Int64)) - (x3 * (48271 : Int64)) / (2147483647 : Int64) * (2147483647 : Int64)) S).bind fun q3 => if oc q3.2 a2 4 = true then (m75 a2 q3.1 q3.2).bind fun q4 => k60 x0 x1 ((x3 * (48271 : Int64)) - (x3 * (48271 : Int64)) / (2147483647 : Int64) * (2147483647 : Int64)) (x5 + (1 : Int32)) q4 else none else none else none
set_option maxRecDepth 100000 in
theorem ob134_60 (d : Nat) (k60 : Nat → Int32 → Int64 → Int32 → Sx → Option (Int32 × Sx)) (hk60 : ∀ (x0 : Nat) (x1 : Int32) (x3 : Int64) (x5 : Int32) (S : Sx), OkF wI (fun f => rk px kx f (d + 5) 134 60 [some (.ref x0), some (.int x1), none, some (.long x3), none, some (.int x5)] [] S) (k60 x0 x1 x3 x5 S)) (x0 : Nat) (x1 : Int32) (x3 : Int64) (x5 : Int32) (S : Sx) : OkF wI (fun f => rk px kx f (d + 5) 134 60 [some (.ref x0), some (.int x1), none, some (.long x3), none, some (.int x5)] [] S) (b134_60 k60 x0 x1 x3 x5 S) := by
  unfold b134_60
  refine OkF.eq 3 (Y := fun f => if x1 ≤ x5 then rk px kx f (d + 5) 134 94 [some (.ref x0), some (.int x1), none, some (.long x3), none, some (.int x5)] [] S else rk px kx f (d + 5) 134 66 [some (.ref x0), some (.int x1), none, some (.long x3), none, some (.int x5)] [] S) (fun f => rfl) ?_
  refine OkF.ite (fun _ => ?_) (fun _ => ?_)
  · refine OkF.eq 2 (Y := fun f => if oc S x0 11 = true then rk px kx f (d + 5) 134 98 [some (.ref x0), some (.int x1), none, some (.long x3), none, some (.int x5)] (va_rf (S.2.2.2.1 x0 3) :: []) S else none) (fun f => rfl) ?_
    refine OkF.grd (fun _ => ?_)
    refine OkF.rf (fun a1 => ?_)
    refine OkF.eq 1 (Y := fun f => if oc S a1 4 = true then rk px kx f (d + 5) 134 101 [some (.ref x0), some (.int x1), none, some (.long x3), none, some (.int x5)] [.int (S.2.1 a1 12)] S else none) (fun f => rfl) ?_
    refine OkF.grd (fun _ => ?_)
    exact OkF.ret 1 (fun f => rfl)
  · refine OkF.eq 5 (Y := fun f => if (2147483647 : Int64) = 0 then none else rk px kx f (d + 5) 134 75 [some (.ref x0), some (.int x1), none, some (.long x3), none, some (.int x5)] [.long ((x3 * (48271 : Int64)) - (x3 * (48271 : Int64)) / (2147483647 : Int64) * (2147483647 : Int64))] S) (fun f => rfl) ?_
    refine OkF.ngr (fun _ => ?_)
    refine OkF.eq 3 (Y := fun f => if oc S x0 11 = true then rk px kx f (d + 5) 134 80 [some (.ref x0), some (.int x1), none, some (.long ((x3 * (48271 : Int64)) - (x3 * (48271 : Int64)) / (2147483647 : Int64) * (2147483647 : Int64))), none, some (.int x5)] (va_rf (S.2.2.2.1 x0 3) :: []) S else none) (fun f => rfl) ?_
    refine OkF.grd (fun _ => ?_)
    refine OkF.rf (fun a2 => ?_)
    refine OkF.eq 3 (Y := fun f => if oc S x0 11 = true then (rk px kx f (d + 4) 135 0 [some (.ref x0), some (.long ((x3 * (48271 : Int64)) - (x3 * (48271 : Int64)) / (2147483647 : Int64) * (2147483647 : Int64))), none, none] [] S).bind (fun q => rk px kx f (d + 5) 134 85 [some (.ref x0), some (.int x1), none, some (.long ((x3 * (48271 : Int64)) - (x3 * (48271 : Int64)) / (2147483647 : Int64) * (2147483647 : Int64))), none, some (.int x5)] (q.1.toList ++ [.ref a2]) q.2) else none) (fun f => rfl) ?_
    refine OkF.grd (fun _ => ?_)
    refine OkF.bind (w1 := wI) (om135 (d + 0) x0 ((x3 * (48271 : Int64)) - (x3 * (48271 : Int64)) / (2147483647 : Int64) * (2147483647 : Int64)) S) (fun q3 => ?_)
    refine OkF.eq 1 (Y := fun f => if oc q3.2 a2 4 = true then (rk px kx f (d + 4) 75 0 [some (.ref a2), some (.int q3.1)] [] q3.2).bind (fun q => rk px kx f (d + 5) 134 88 [some (.ref x0), some (.int x1), none, some (.long ((x3 * (48271 : Int64)) - (x3 * (48271 : Int64)) / (2147483647 : Int64) * (2147483647 : Int64))), none, some (.int x5)] (q.1.toList ++ []) q.2) else none) (fun f => rfl) ?_
    refine OkF.grd (fun _ => ?_)
    refine OkF.bind (w1 := wV) (om75 (d + 0) a2 q3.1 q3.2) (fun q4 => ?_)
    refine OkF.eq 2 (Y := fun f => rk px kx f (d + 5) 134 60 [some (.ref x0), some (.int x1), none, some (.long ((x3 * (48271 : Int64)) - (x3 * (48271 : Int64)) / (2147483647 : Int64) * (2147483647 : Int64))), none, some (.int (x5 + (1 : Int32)))] [] q4) (fun f => rfl) ?_
    exact OkF.kl (ls1 := [some (.ref x0), some (.int x1), none, some (.long ((x3 * (48271 : Int64)) - (x3 * (48271 : Int64)) / (2147483647 : Int64) * (2147483647 : Int64))), none, some (.int (x5 + (1 : Int32)))]) (fun f => rfl) (hk60 x0 x1 ((x3 * (48271 : Int64)) - (x3 * (48271 : Int64)) / (2147483647 : Int64) * (2147483647 : Int64)) (x5 + (1 : Int32)) q4)
def l134_60 : Nat → Nat → Int32 → Int64 → Int32 → Sx → Option (Int32 × Sx)
  | 0 => fun _ _ _ _ _ => none
  | n + 1 => fun x0 x1 x3 x5 S => b134_60 (l134_60 n) x0 x1 x3 x5 S
set_option maxRecDepth 100000 in
theorem ol134_60 (d : Nat) : ∀ (n : Nat) (x0 : Nat) (x1 : Int32) (x3 : Int64) (x5 : Int32) (S : Sx), OkF wI (fun f => rk px kx f (d + 5) 134 60 [some (.ref x0), some (.int x1), none, some (.long x3), none, some (.int x5)] [] S) (l134_60 n x0 x1 x3 x5 S) := by
  intro n
  induction n with
  | zero => intro x0 x1 x3 x5 S; exact OkF.no
  | succ n ih => intro x0 x1 x3 x5 S; exact ob134_60 d (l134_60 n) ih x0 x1 x3 x5 S
def m134 (x0 : Nat) (x1 : Int32) (x2 : Int32) (S : Sx) : Option (Int32 × Sx) :=
  if x1 < (1 : Int32) then some ((-1 : Int32), S) else if (20 : Int32) < x1 then some ((-1 : Int32), S) else if x2 < (1 : Int32) then some ((-1 : Int32), S) else if (lg_cmp x2.toInt64 (2147483647 : Int64)) < 0 then if oc S x0 11 = true then (S.2.2.2.1 x0 3).bind fun a5 => if oc S a5 4 = true then if (S.2.1 a5 9) = 0 then some ((-4 : Int32), S) else if oc S x0 11 = true then (S.2.2.2.1 x0 3).bind fun a6 => if oc S a6 4 = true then (m74 a6 x1 S).bind fun q7 => if q7.1 = 0 then some ((-2 : Int32), q7.2) else l134_60 1000 x0 x1 x2.toInt64 (0 : Int32) q7.2 else none else none else none else none else some ((-1 : Int32), S)
set_option maxRecDepth 100000 in
theorem om134 (d : Nat) (x0 : Nat) (x1 : Int32) (x2 : Int32) (S : Sx) : OkF wI (fun f => rk px kx f (d + 5) 134 0 [some (.ref x0), some (.int x1), some (.int x2), none, none, none] [] S) (m134 x0 x1 x2 S) := by
  unfold m134
  refine OkF.eq 3 (Y := fun f => if x1 < (1 : Int32) then rk px kx f (d + 5) 134 25 [some (.ref x0), some (.int x1), some (.int x2), none, none, none] [] S else rk px kx f (d + 5) 134 5 [some (.ref x0), some (.int x1), some (.int x2), none, none, none] [] S) (fun f => rfl) ?_
  refine OkF.ite (fun _ => ?_) (fun _ => ?_)
  · exact OkF.ret 2 (fun f => rfl)
  · refine OkF.eq 3 (Y := fun f => if (20 : Int32) < x1 then rk px kx f (d + 5) 134 25 [some (.ref x0), some (.int x1), some (.int x2), none, none, none] [] S else rk px kx f (d + 5) 134 11 [some (.ref x0), some (.int x1), some (.int x2), none, none, none] [] S) (fun f => rfl) ?_
    refine OkF.ite (fun _ => ?_) (fun _ => ?_)
    · exact OkF.ret 2 (fun f => rfl)
    · refine OkF.eq 3 (Y := fun f => if x2 < (1 : Int32) then rk px kx f (d + 5) 134 25 [some (.ref x0), some (.int x1), some (.int x2), none, none, none] [] S else rk px kx f (d + 5) 134 16 [some (.ref x0), some (.int x1), some (.int x2), none, none, none] [] S) (fun f => rfl) ?_
      refine OkF.ite (fun _ => ?_) (fun _ => ?_)
      · exact OkF.ret 2 (fun f => rfl)
      · refine OkF.eq 5 (Y := fun f => if (lg_cmp x2.toInt64 (2147483647 : Int64)) < 0 then rk px kx f (d + 5) 134 27 [some (.ref x0), some (.int x1), some (.int x2), none, none, none] [] S else rk px kx f (d + 5) 134 25 [some (.ref x0), some (.int x1), some (.int x2), none, none, none] [] S) (fun f => rfl) ?_
        refine OkF.ite (fun _ => ?_) (fun _ => ?_)
        · refine OkF.eq 2 (Y := fun f => if oc S x0 11 = true then rk px kx f (d + 5) 134 31 [some (.ref x0), some (.int x1), some (.int x2), none, none, none] (va_rf (S.2.2.2.1 x0 3) :: []) S else none) (fun f => rfl) ?_
          refine OkF.grd (fun _ => ?_)
          refine OkF.rf (fun a5 => ?_)
          refine OkF.eq 1 (Y := fun f => if oc S a5 4 = true then rk px kx f (d + 5) 134 34 [some (.ref x0), some (.int x1), some (.int x2), none, none, none] [.int (S.2.1 a5 9)] S else none) (fun f => rfl) ?_
          refine OkF.grd (fun _ => ?_)
          refine OkF.eq 1 (Y := fun f => if (S.2.1 a5 9) = 0 then rk px kx f (d + 5) 134 37 [some (.ref x0), some (.int x1), some (.int x2), none, none, none] [] S else rk px kx f (d + 5) 134 40 [some (.ref x0), some (.int x1), some (.int x2), none, none, none] [] S) (fun f => rfl) ?_
          refine OkF.ite (fun _ => ?_) (fun _ => ?_)
          · exact OkF.ret 2 (fun f => rfl)
          · refine OkF.eq 2 (Y := fun f => if oc S x0 11 = true then rk px kx f (d + 5) 134 44 [some (.ref x0), some (.int x1), some (.int x2), none, none, none] (va_rf (S.2.2.2.1 x0 3) :: []) S else none) (fun f => rfl) ?_
            refine OkF.grd (fun _ => ?_)
            refine OkF.rf (fun a6 => ?_)
            refine OkF.eq 2 (Y := fun f => if oc S a6 4 = true then (rk px kx f (d + 4) 74 0 [some (.ref a6), some (.int x1)] [] S).bind (fun q => rk px kx f (d + 5) 134 48 [some (.ref x0), some (.int x1), some (.int x2), none, none, none] (q.1.toList ++ []) q.2) else none) (fun f => rfl) ?_
            refine OkF.grd (fun _ => ?_)
            refine OkF.bind (w1 := wI) (om74 (d + 4) a6 x1 S) (fun q7 => ?_)
            refine OkF.eq 1 (Y := fun f => if q7.1 = 0 then rk px kx f (d + 5) 134 51 [some (.ref x0), some (.int x1), some (.int x2), none, none, none] [] q7.2 else rk px kx f (d + 5) 134 54 [some (.ref x0), some (.int x1), some (.int x2), none, none, none] [] q7.2) (fun f => rfl) ?_
            refine OkF.ite (fun _ => ?_) (fun _ => ?_)
            · exact OkF.ret 2 (fun f => rfl)
            · refine OkF.eq 5 (Y := fun f => rk px kx f (d + 5) 134 60 [some (.ref x0), some (.int x1), some (.int x2), some (.long x2.toInt64), none, some (.int (0 : Int32))] [] q7.2) (fun f => rfl) ?_
              exact OkF.kl (ls1 := [some (.ref x0), some (.int x1), none, some (.long x2.toInt64), none, some (.int (0 : Int32))]) (fun f => rfl) (ol134_60 d 1000 x0 x1 x2.toInt64 (0 : Int32) q7.2)
        · exact OkF.ret 2 (fun f => rfl)
-- DoorSold.asked()I
def m136 (x0 : Nat) (S : Sx) : Option (Int32 × Sx) :=
  if oc S x0 11 = true then some (S.2.1 x0 12, S) else none
set_option maxRecDepth 100000 in
theorem om136 (d : Nat) (x0 : Nat) (S : Sx) : OkF wI (fun f => rk px kx f (d + 0) 136 0 [some (.ref x0)] [] S) (m136 x0 S) := by
  unfold m136
  refine OkF.eq 2 (Y := fun f => if oc S x0 11 = true then rk px kx f (d + 0) 136 4 [some (.ref x0)] [.int (S.2.1 x0 12)] S else none) (fun f => rfl) ?_
  refine OkF.grd (fun _ => ?_)
  exact OkF.ret 1 (fun f => rfl)
-- DoorSold.upper()J
def m137 (x0 : Nat) (S : Sx) : Option (Int64 × Sx) :=
  if oc S x0 11 = true then some (S.2.2.1 x0 13, S) else none
set_option maxRecDepth 100000 in
theorem om137 (d : Nat) (x0 : Nat) (S : Sx) : OkF wL (fun f => rk px kx f (d + 0) 137 0 [some (.ref x0)] [] S) (m137 x0 S) := by
  unfold m137
  refine OkF.eq 2 (Y := fun f => if oc S x0 11 = true then rk px kx f (d + 0) 137 4 [some (.ref x0)] [.long (S.2.2.1 x0 13)] S else none) (fun f => rfl) ?_
  refine OkF.grd (fun _ => ?_)
  exact OkF.ret 1 (fun f => rfl)
-- DoorSold.lower()J
def m138 (x0 : Nat) (S : Sx) : Option (Int64 × Sx) :=
  if oc S x0 11 = true then some (S.2.2.1 x0 14, S) else none
set_option maxRecDepth 100000 in
theorem om138 (d : Nat) (x0 : Nat) (S : Sx) : OkF wL (fun f => rk px kx f (d + 0) 138 0 [some (.ref x0)] [] S) (m138 x0 S) := by
  unfold m138
  refine OkF.eq 2 (Y := fun f => if oc S x0 11 = true then rk px kx f (d + 0) 138 4 [some (.ref x0)] [.long (S.2.2.1 x0 14)] S else none) (fun f => rfl) ?_
  refine OkF.grd (fun _ => ?_)
  exact OkF.ret 1 (fun f => rfl)
-- DoorSold.doorsOf(I)I
def b140_30 (k4 : Nat → Int32 → Int32 → Int32 → Sx → Option (Int32 × Sx)) (x0 : Nat) (x1 : Int32) (x2 : Int32) (x3 : Int32) (S : Sx) : Option (Int32 × Sx) :=
  k4 x0 x1 x2 (x3 + (1 : Int32)) S
set_option maxRecDepth 100000 in
theorem ob140_30 (d : Nat) (k4 : Nat → Int32 → Int32 → Int32 → Sx → Option (Int32 × Sx)) (hk4 : ∀ (x0 : Nat) (x1 : Int32) (x2 : Int32) (x3 : Int32) (S : Sx), OkF wI (fun f => rk px kx f (d + 2) 140 4 [some (.ref x0), some (.int x1), some (.int x2), some (.int x3)] [] S) (k4 x0 x1 x2 x3 S)) (x0 : Nat) (x1 : Int32) (x2 : Int32) (x3 : Int32) (S : Sx) : OkF wI (fun f => rk px kx f (d + 2) 140 30 [some (.ref x0), some (.int x1), some (.int x2), some (.int x3)] [] S) (b140_30 k4 x0 x1 x2 x3 S) := by
  unfold b140_30
  refine OkF.eq 2 (Y := fun f => rk px kx f (d + 2) 140 4 [some (.ref x0), some (.int x1), some (.int x2), some (.int (x3 + (1 : Int32)))] [] S) (fun f => rfl) ?_
  exact OkF.kl (ls1 := [some (.ref x0), some (.int x1), some (.int x2), some (.int (x3 + (1 : Int32)))]) (fun f => rfl) (hk4 x0 x1 x2 (x3 + (1 : Int32)) S)
def b140_4 (k4 : Nat → Int32 → Int32 → Int32 → Sx → Option (Int32 × Sx)) (x0 : Nat) (x1 : Int32) (x2 : Int32) (x3 : Int32) (S : Sx) : Option (Int32 × Sx) :=
  if oc S x0 11 = true then (S.2.2.2.1 x0 3).bind fun a1 => if oc S a1 4 = true then if (S.2.1 a1 9) ≤ x3 then some (x2, S) else if oc S x0 11 = true then (S.2.2.2.1 x0 3).bind fun a2 => if oc S a2 4 = true then (m68 a2 x3 x1 S).bind fun q3 => if q3.1 = 0 then b140_30 k4 x0 x1 x2 x3 q3.2 else b140_30 k4 x0 x1 (x2 + (1 : Int32)) x3 q3.2 else none else none else none else none
set_option maxRecDepth 100000 in
theorem ob140_4 (d : Nat) (k4 : Nat → Int32 → Int32 → Int32 → Sx → Option (Int32 × Sx)) (hk4 : ∀ (x0 : Nat) (x1 : Int32) (x2 : Int32) (x3 : Int32) (S : Sx), OkF wI (fun f => rk px kx f (d + 2) 140 4 [some (.ref x0), some (.int x1), some (.int x2), some (.int x3)] [] S) (k4 x0 x1 x2 x3 S)) (x0 : Nat) (x1 : Int32) (x2 : Int32) (x3 : Int32) (S : Sx) : OkF wI (fun f => rk px kx f (d + 2) 140 4 [some (.ref x0), some (.int x1), some (.int x2), some (.int x3)] [] S) (b140_4 k4 x0 x1 x2 x3 S) := by
  unfold b140_4
  refine OkF.eq 3 (Y := fun f => if oc S x0 11 = true then rk px kx f (d + 2) 140 9 [some (.ref x0), some (.int x1), some (.int x2), some (.int x3)] (va_rf (S.2.2.2.1 x0 3) :: [.int x3]) S else none) (fun f => rfl) ?_
  refine OkF.grd (fun _ => ?_)
  refine OkF.rf (fun a1 => ?_)
  refine OkF.eq 1 (Y := fun f => if oc S a1 4 = true then rk px kx f (d + 2) 140 12 [some (.ref x0), some (.int x1), some (.int x2), some (.int x3)] [.int (S.2.1 a1 9), .int x3] S else none) (fun f => rfl) ?_
  refine OkF.grd (fun _ => ?_)
  refine OkF.eq 1 (Y := fun f => if (S.2.1 a1 9) ≤ x3 then rk px kx f (d + 2) 140 36 [some (.ref x0), some (.int x1), some (.int x2), some (.int x3)] [] S else rk px kx f (d + 2) 140 15 [some (.ref x0), some (.int x1), some (.int x2), some (.int x3)] [] S) (fun f => rfl) ?_
  refine OkF.ite (fun _ => ?_) (fun _ => ?_)
  · exact OkF.ret 2 (fun f => rfl)
  · refine OkF.eq 2 (Y := fun f => if oc S x0 11 = true then rk px kx f (d + 2) 140 19 [some (.ref x0), some (.int x1), some (.int x2), some (.int x3)] (va_rf (S.2.2.2.1 x0 3) :: []) S else none) (fun f => rfl) ?_
    refine OkF.grd (fun _ => ?_)
    refine OkF.rf (fun a2 => ?_)
    refine OkF.eq 3 (Y := fun f => if oc S a2 4 = true then (rk px kx f (d + 1) 68 0 [some (.ref a2), some (.int x3), some (.int x1), none] [] S).bind (fun q => rk px kx f (d + 2) 140 24 [some (.ref x0), some (.int x1), some (.int x2), some (.int x3)] (q.1.toList ++ []) q.2) else none) (fun f => rfl) ?_
    refine OkF.grd (fun _ => ?_)
    refine OkF.bind (w1 := wI) (om68 (d + 0) a2 x3 x1 S) (fun q3 => ?_)
    refine OkF.eq 1 (Y := fun f => if q3.1 = 0 then rk px kx f (d + 2) 140 30 [some (.ref x0), some (.int x1), some (.int x2), some (.int x3)] [] q3.2 else rk px kx f (d + 2) 140 27 [some (.ref x0), some (.int x1), some (.int x2), some (.int x3)] [] q3.2) (fun f => rfl) ?_
    refine OkF.ite (fun _ => ?_) (fun _ => ?_)
    · exact OkF.kl (ls1 := [some (.ref x0), some (.int x1), some (.int x2), some (.int x3)]) (fun f => rfl) (ob140_30 d k4 hk4 x0 x1 x2 x3 q3.2)
    · refine OkF.eq 1 (Y := fun f => rk px kx f (d + 2) 140 30 [some (.ref x0), some (.int x1), some (.int (x2 + (1 : Int32))), some (.int x3)] [] q3.2) (fun f => rfl) ?_
      exact OkF.kl (ls1 := [some (.ref x0), some (.int x1), some (.int (x2 + (1 : Int32))), some (.int x3)]) (fun f => rfl) (ob140_30 d k4 hk4 x0 x1 (x2 + (1 : Int32)) x3 q3.2)
def l140_4 : Nat → Nat → Int32 → Int32 → Int32 → Sx → Option (Int32 × Sx)
  | 0 => fun _ _ _ _ _ => none
  | n + 1 => fun x0 x1 x2 x3 S => b140_4 (l140_4 n) x0 x1 x2 x3 S
set_option maxRecDepth 100000 in
theorem ol140_4 (d : Nat) : ∀ (n : Nat) (x0 : Nat) (x1 : Int32) (x2 : Int32) (x3 : Int32) (S : Sx), OkF wI (fun f => rk px kx f (d + 2) 140 4 [some (.ref x0), some (.int x1), some (.int x2), some (.int x3)] [] S) (l140_4 n x0 x1 x2 x3 S) := by
  intro n
  induction n with
  | zero => intro x0 x1 x2 x3 S; exact OkF.no
  | succ n ih => intro x0 x1 x2 x3 S; exact ob140_4 d (l140_4 n) ih x0 x1 x2 x3 S
def m140 (x0 : Nat) (x1 : Int32) (S : Sx) : Option (Int32 × Sx) :=
  l140_4 1000 x0 x1 (0 : Int32) (0 : Int32) S
set_option maxRecDepth 100000 in
theorem om140 (d : Nat) (x0 : Nat) (x1 : Int32) (S : Sx) : OkF wI (fun f => rk px kx f (d + 2) 140 0 [some (.ref x0), some (.int x1), none, none] [] S) (m140 x0 x1 S) := by
  unfold m140
  refine OkF.eq 4 (Y := fun f => rk px kx f (d + 2) 140 4 [some (.ref x0), some (.int x1), some (.int (0 : Int32)), some (.int (0 : Int32))] [] S) (fun f => rfl) ?_
  exact OkF.kl (ls1 := [some (.ref x0), some (.int x1), some (.int (0 : Int32)), some (.int (0 : Int32))]) (fun f => rfl) (ol140_4 d 1000 x0 x1 (0 : Int32) (0 : Int32) S)
-- DoorSold.howManyThere([LDoorSold$Row;)I
def b141_22 (k4 : Nat → Int32 → Int32 → Sx → Option (Int32 × Sx)) (x0 : Nat) (x1 : Int32) (x2 : Int32) (S : Sx) : Option (Int32 × Sx) :=
  k4 x0 x1 (x2 + (1 : Int32)) S
set_option maxRecDepth 100000 in
theorem ob141_22 (d : Nat) (k4 : Nat → Int32 → Int32 → Sx → Option (Int32 × Sx)) (hk4 : ∀ (x0 : Nat) (x1 : Int32) (x2 : Int32) (S : Sx), OkF wI (fun f => rk px kx f (d + 1) 141 4 [some (.ref x0), some (.int x1), some (.int x2)] [] S) (k4 x0 x1 x2 S)) (x0 : Nat) (x1 : Int32) (x2 : Int32) (S : Sx) : OkF wI (fun f => rk px kx f (d + 1) 141 22 [some (.ref x0), some (.int x1), some (.int x2)] [] S) (b141_22 k4 x0 x1 x2 S) := by
  unfold b141_22
  refine OkF.eq 2 (Y := fun f => rk px kx f (d + 1) 141 4 [some (.ref x0), some (.int x1), some (.int (x2 + (1 : Int32)))] [] S) (fun f => rfl) ?_
  exact OkF.kl (ls1 := [some (.ref x0), some (.int x1), some (.int (x2 + (1 : Int32)))]) (fun f => rfl) (hk4 x0 x1 (x2 + (1 : Int32)) S)
def b141_4 (k4 : Nat → Int32 → Int32 → Sx → Option (Int32 × Sx)) (x0 : Nat) (x1 : Int32) (x2 : Int32) (S : Sx) : Option (Int32 × Sx) :=
  if isa S 3 x0 = true then if (Int32.ofNat (aw S 3 x0)) ≤ x2 then some (x1, S) else if inb x2 (aw S 3 x0) = true then (S.2.2.2.1 x0 x2.toNatClampNeg).bind fun a1 => if oc S a1 8 = true then (m20 a1 S).bind fun q2 => if q2.1 = 0 then b141_22 k4 x0 (x1 + (1 : Int32)) x2 q2.2 else b141_22 k4 x0 x1 x2 q2.2 else none else none else none
set_option maxRecDepth 100000 in
theorem ob141_4 (d : Nat) (k4 : Nat → Int32 → Int32 → Sx → Option (Int32 × Sx)) (hk4 : ∀ (x0 : Nat) (x1 : Int32) (x2 : Int32) (S : Sx), OkF wI (fun f => rk px kx f (d + 1) 141 4 [some (.ref x0), some (.int x1), some (.int x2)] [] S) (k4 x0 x1 x2 S)) (x0 : Nat) (x1 : Int32) (x2 : Int32) (S : Sx) : OkF wI (fun f => rk px kx f (d + 1) 141 4 [some (.ref x0), some (.int x1), some (.int x2)] [] S) (b141_4 k4 x0 x1 x2 S) := by
  unfold b141_4
  refine OkF.eq 3 (Y := fun f => if isa S 3 x0 = true then rk px kx f (d + 1) 141 7 [some (.ref x0), some (.int x1), some (.int x2)] [.int (Int32.ofNat (aw S 3 x0)), .int x2] S else none) (fun f => rfl) ?_
  refine OkF.grd (fun _ => ?_)
  refine OkF.eq 1 (Y := fun f => if (Int32.ofNat (aw S 3 x0)) ≤ x2 then rk px kx f (d + 1) 141 28 [some (.ref x0), some (.int x1), some (.int x2)] [] S else rk px kx f (d + 1) 141 10 [some (.ref x0), some (.int x1), some (.int x2)] [] S) (fun f => rfl) ?_
  refine OkF.ite (fun _ => ?_) (fun _ => ?_)
  · exact OkF.ret 2 (fun f => rfl)
  · refine OkF.eq 3 (Y := fun f => if inb x2 (aw S 3 x0) = true then rk px kx f (d + 1) 141 13 [some (.ref x0), some (.int x1), some (.int x2)] (va_rf (S.2.2.2.1 x0 x2.toNatClampNeg) :: []) S else none) (fun f => rfl) ?_
    refine OkF.grd (fun _ => ?_)
    refine OkF.rf (fun a1 => ?_)
    refine OkF.eq 1 (Y := fun f => if oc S a1 8 = true then (rk px kx f (d + 0) 20 0 [some (.ref a1)] [] S).bind (fun q => rk px kx f (d + 1) 141 16 [some (.ref x0), some (.int x1), some (.int x2)] (q.1.toList ++ []) q.2) else none) (fun f => rfl) ?_
    refine OkF.grd (fun _ => ?_)
    refine OkF.bind (w1 := wI) (om20 (d + 0) a1 S) (fun q2 => ?_)
    refine OkF.eq 1 (Y := fun f => if q2.1 = 0 then rk px kx f (d + 1) 141 19 [some (.ref x0), some (.int x1), some (.int x2)] [] q2.2 else rk px kx f (d + 1) 141 22 [some (.ref x0), some (.int x1), some (.int x2)] [] q2.2) (fun f => rfl) ?_
    refine OkF.ite (fun _ => ?_) (fun _ => ?_)
    · refine OkF.eq 1 (Y := fun f => rk px kx f (d + 1) 141 22 [some (.ref x0), some (.int (x1 + (1 : Int32))), some (.int x2)] [] q2.2) (fun f => rfl) ?_
      exact OkF.kl (ls1 := [some (.ref x0), some (.int (x1 + (1 : Int32))), some (.int x2)]) (fun f => rfl) (ob141_22 d k4 hk4 x0 (x1 + (1 : Int32)) x2 q2.2)
    · exact OkF.kl (ls1 := [some (.ref x0), some (.int x1), some (.int x2)]) (fun f => rfl) (ob141_22 d k4 hk4 x0 x1 x2 q2.2)
def l141_4 : Nat → Nat → Int32 → Int32 → Sx → Option (Int32 × Sx)
  | 0 => fun _ _ _ _ => none
  | n + 1 => fun x0 x1 x2 S => b141_4 (l141_4 n) x0 x1 x2 S
set_option maxRecDepth 100000 in
theorem ol141_4 (d : Nat) : ∀ (n : Nat) (x0 : Nat) (x1 : Int32) (x2 : Int32) (S : Sx), OkF wI (fun f => rk px kx f (d + 1) 141 4 [some (.ref x0), some (.int x1), some (.int x2)] [] S) (l141_4 n x0 x1 x2 S) := by
  intro n
  induction n with
  | zero => intro x0 x1 x2 S; exact OkF.no
  | succ n ih => intro x0 x1 x2 S; exact ob141_4 d (l141_4 n) ih x0 x1 x2 S
def m141 (x0 : Nat) (S : Sx) : Option (Int32 × Sx) :=
  l141_4 1000 x0 (0 : Int32) (0 : Int32) S
set_option maxRecDepth 100000 in
theorem om141 (d : Nat) (x0 : Nat) (S : Sx) : OkF wI (fun f => rk px kx f (d + 1) 141 0 [some (.ref x0), none, none] [] S) (m141 x0 S) := by
  unfold m141
  refine OkF.eq 4 (Y := fun f => rk px kx f (d + 1) 141 4 [some (.ref x0), some (.int (0 : Int32)), some (.int (0 : Int32))] [] S) (fun f => rfl) ?_
  exact OkF.kl (ls1 := [some (.ref x0), some (.int (0 : Int32)), some (.int (0 : Int32))]) (fun f => rfl) (ol141_4 d 1000 x0 (0 : Int32) (0 : Int32) S)
-- DoorSold.keptCountries()I
def b142_24 (k4 : Nat → Int32 → Int32 → Sx → Option (Int32 × Sx)) (x0 : Nat) (x1 : Int32) (x2 : Int32) (S : Sx) : Option (Int32 × Sx) :=
  k4 x0 x1 (x2 + (1 : Int32)) S
set_option maxRecDepth 100000 in
theorem ob142_24 (d : Nat) (k4 : Nat → Int32 → Int32 → Sx → Option (Int32 × Sx)) (hk4 : ∀ (x0 : Nat) (x1 : Int32) (x2 : Int32) (S : Sx), OkF wI (fun f => rk px kx f (d + 0) 142 4 [some (.ref x0), some (.int x1), some (.int x2)] [] S) (k4 x0 x1 x2 S)) (x0 : Nat) (x1 : Int32) (x2 : Int32) (S : Sx) : OkF wI (fun f => rk px kx f (d + 0) 142 24 [some (.ref x0), some (.int x1), some (.int x2)] [] S) (b142_24 k4 x0 x1 x2 S) := by
  unfold b142_24
  refine OkF.eq 2 (Y := fun f => rk px kx f (d + 0) 142 4 [some (.ref x0), some (.int x1), some (.int (x2 + (1 : Int32)))] [] S) (fun f => rfl) ?_
  exact OkF.kl (ls1 := [some (.ref x0), some (.int x1), some (.int (x2 + (1 : Int32)))]) (fun f => rfl) (hk4 x0 x1 (x2 + (1 : Int32)) S)
def b142_4 (k4 : Nat → Int32 → Int32 → Sx → Option (Int32 × Sx)) (x0 : Nat) (x1 : Int32) (x2 : Int32) (S : Sx) : Option (Int32 × Sx) :=
  if (3 : Int32) ≤ x2 then some (x1, S) else if oc S x0 11 = true then (S.2.2.2.1 x0 5).bind fun a1 => if inb x2 (aw S 5 a1) = true then (S.2.2.2.1 a1 x2.toNatClampNeg).bind fun a2 => if oc S a2 4 = true then if (S.2.1 a2 9) = 0 then b142_24 k4 x0 x1 x2 S else b142_24 k4 x0 (x1 + (1 : Int32)) x2 S else none else none else none
set_option maxRecDepth 100000 in
theorem ob142_4 (d : Nat) (k4 : Nat → Int32 → Int32 → Sx → Option (Int32 × Sx)) (hk4 : ∀ (x0 : Nat) (x1 : Int32) (x2 : Int32) (S : Sx), OkF wI (fun f => rk px kx f (d + 0) 142 4 [some (.ref x0), some (.int x1), some (.int x2)] [] S) (k4 x0 x1 x2 S)) (x0 : Nat) (x1 : Int32) (x2 : Int32) (S : Sx) : OkF wI (fun f => rk px kx f (d + 0) 142 4 [some (.ref x0), some (.int x1), some (.int x2)] [] S) (b142_4 k4 x0 x1 x2 S) := by
  unfold b142_4
  refine OkF.eq 3 (Y := fun f => if (3 : Int32) ≤ x2 then rk px kx f (d + 0) 142 30 [some (.ref x0), some (.int x1), some (.int x2)] [] S else rk px kx f (d + 0) 142 9 [some (.ref x0), some (.int x1), some (.int x2)] [] S) (fun f => rfl) ?_
  refine OkF.ite (fun _ => ?_) (fun _ => ?_)
  · exact OkF.ret 2 (fun f => rfl)
  · refine OkF.eq 2 (Y := fun f => if oc S x0 11 = true then rk px kx f (d + 0) 142 13 [some (.ref x0), some (.int x1), some (.int x2)] (va_rf (S.2.2.2.1 x0 5) :: []) S else none) (fun f => rfl) ?_
    refine OkF.grd (fun _ => ?_)
    refine OkF.rf (fun a1 => ?_)
    refine OkF.eq 2 (Y := fun f => if inb x2 (aw S 5 a1) = true then rk px kx f (d + 0) 142 15 [some (.ref x0), some (.int x1), some (.int x2)] (va_rf (S.2.2.2.1 a1 x2.toNatClampNeg) :: []) S else none) (fun f => rfl) ?_
    refine OkF.grd (fun _ => ?_)
    refine OkF.rf (fun a2 => ?_)
    refine OkF.eq 1 (Y := fun f => if oc S a2 4 = true then rk px kx f (d + 0) 142 18 [some (.ref x0), some (.int x1), some (.int x2)] [.int (S.2.1 a2 9)] S else none) (fun f => rfl) ?_
    refine OkF.grd (fun _ => ?_)
    refine OkF.eq 1 (Y := fun f => if (S.2.1 a2 9) = 0 then rk px kx f (d + 0) 142 24 [some (.ref x0), some (.int x1), some (.int x2)] [] S else rk px kx f (d + 0) 142 21 [some (.ref x0), some (.int x1), some (.int x2)] [] S) (fun f => rfl) ?_
    refine OkF.ite (fun _ => ?_) (fun _ => ?_)
    · exact OkF.kl (ls1 := [some (.ref x0), some (.int x1), some (.int x2)]) (fun f => rfl) (ob142_24 d k4 hk4 x0 x1 x2 S)
    · refine OkF.eq 1 (Y := fun f => rk px kx f (d + 0) 142 24 [some (.ref x0), some (.int (x1 + (1 : Int32))), some (.int x2)] [] S) (fun f => rfl) ?_
      exact OkF.kl (ls1 := [some (.ref x0), some (.int (x1 + (1 : Int32))), some (.int x2)]) (fun f => rfl) (ob142_24 d k4 hk4 x0 (x1 + (1 : Int32)) x2 S)
def l142_4 : Nat → Nat → Int32 → Int32 → Sx → Option (Int32 × Sx)
  | 0 => fun _ _ _ _ => none
  | n + 1 => fun x0 x1 x2 S => b142_4 (l142_4 n) x0 x1 x2 S
set_option maxRecDepth 100000 in
theorem ol142_4 (d : Nat) : ∀ (n : Nat) (x0 : Nat) (x1 : Int32) (x2 : Int32) (S : Sx), OkF wI (fun f => rk px kx f (d + 0) 142 4 [some (.ref x0), some (.int x1), some (.int x2)] [] S) (l142_4 n x0 x1 x2 S) := by
  intro n
  induction n with
  | zero => intro x0 x1 x2 S; exact OkF.no
  | succ n ih => intro x0 x1 x2 S; exact ob142_4 d (l142_4 n) ih x0 x1 x2 S
def m142 (x0 : Nat) (S : Sx) : Option (Int32 × Sx) :=
  l142_4 1000 x0 (0 : Int32) (0 : Int32) S
set_option maxRecDepth 100000 in
theorem om142 (d : Nat) (x0 : Nat) (S : Sx) : OkF wI (fun f => rk px kx f (d + 0) 142 0 [some (.ref x0), none, none] [] S) (m142 x0 S) := by
  unfold m142
  refine OkF.eq 4 (Y := fun f => rk px kx f (d + 0) 142 4 [some (.ref x0), some (.int (0 : Int32)), some (.int (0 : Int32))] [] S) (fun f => rfl) ?_
  exact OkF.kl (ls1 := [some (.ref x0), some (.int (0 : Int32)), some (.int (0 : Int32))]) (fun f => rfl) (ol142_4 d 1000 x0 (0 : Int32) (0 : Int32) S)
-- DoorSold.count(I)I
def m139 (x0 : Nat) (x1 : Int32) (S : Sx) : Option (Int32 × Sx) :=
  if x1 = (0 : Int32) then (if oc S x0 11 = true then (S.2.2.2.1 x0 3).bind fun a1 => if oc S a1 4 = true then some (S.2.1 a1 9, S) else none else none) else if x1 = (1 : Int32) then (if oc S x0 11 = true then (S.2.2.2.1 x0 3).bind fun a2 => if oc S a2 4 = true then some (S.2.1 a2 8, S) else none else none) else if x1 = (2 : Int32) then (if oc S x0 11 = true then (S.2.2.2.1 x0 3).bind fun a3 => if oc S a3 4 = true then some (S.2.1 a3 12, S) else none else none) else if x1 = (3 : Int32) then (if oc S x0 11 = true then (S.2.2.2.1 x0 3).bind fun a4 => if oc S a4 4 = true then some (S.2.1 a4 13, S) else none else none) else if x1 = (4 : Int32) then (if oc S x0 11 = true then (S.2.2.2.1 x0 3).bind fun a5 => if oc S a5 4 = true then some (S.2.1 a5 11, S) else none else none) else if x1 = (5 : Int32) then (if oc S x0 11 = true then (S.2.2.2.1 x0 3).bind fun a6 => if oc S a6 4 = true then some (S.2.1 a6 15, S) else none else none) else if x1 = (6 : Int32) then (if oc S x0 11 = true then (S.2.2.2.1 x0 3).bind fun a7 => if oc S a7 4 = true then some (S.2.1 a7 14, S) else none else none) else if x1 = (7 : Int32) then (if oc S x0 11 = true then (m140 x0 (1 : Int32) S).bind fun q8 => some (q8.1, q8.2) else none) else if x1 = (8 : Int32) then (if oc S x0 11 = true then (S.2.2.2.1 x0 0).bind fun a9 => (m141 a9 S).bind fun q10 => some (q10.1, q10.2) else none) else if x1 = (9 : Int32) then (if oc S x0 11 = true then (S.2.2.2.1 x0 1).bind fun a11 => (m141 a11 S).bind fun q12 => some (q12.1, q12.2) else none) else if x1 = (10 : Int32) then (if oc S x0 11 = true then (m142 x0 S).bind fun q13 => some (q13.1, q13.2) else none) else some ((-1 : Int32), S)
set_option maxRecDepth 100000 in
theorem om139 (d : Nat) (x0 : Nat) (x1 : Int32) (S : Sx) : OkF wI (fun f => rk px kx f (d + 3) 139 0 [some (.ref x0), some (.int x1)] [] S) (m139 x0 x1 S) := by
  unfold m139
  refine OkF.eq 2 (Y := fun f => if x1 = (0 : Int32) then rk px kx f (d + 3) 139 60 [some (.ref x0), some (.int x1)] [] S else if x1 = (1 : Int32) then rk px kx f (d + 3) 139 68 [some (.ref x0), some (.int x1)] [] S else if x1 = (2 : Int32) then rk px kx f (d + 3) 139 76 [some (.ref x0), some (.int x1)] [] S else if x1 = (3 : Int32) then rk px kx f (d + 3) 139 84 [some (.ref x0), some (.int x1)] [] S else if x1 = (4 : Int32) then rk px kx f (d + 3) 139 92 [some (.ref x0), some (.int x1)] [] S else if x1 = (5 : Int32) then rk px kx f (d + 3) 139 100 [some (.ref x0), some (.int x1)] [] S else if x1 = (6 : Int32) then rk px kx f (d + 3) 139 108 [some (.ref x0), some (.int x1)] [] S else if x1 = (7 : Int32) then rk px kx f (d + 3) 139 116 [some (.ref x0), some (.int x1)] [] S else if x1 = (8 : Int32) then rk px kx f (d + 3) 139 122 [some (.ref x0), some (.int x1)] [] S else if x1 = (9 : Int32) then rk px kx f (d + 3) 139 130 [some (.ref x0), some (.int x1)] [] S else if x1 = (10 : Int32) then rk px kx f (d + 3) 139 138 [some (.ref x0), some (.int x1)] [] S else rk px kx f (d + 3) 139 143 [some (.ref x0), some (.int x1)] [] S) (fun f => rfl) ?_
  refine OkF.ite (fun _ => ?_) (fun _ => ?_)
  · refine OkF.eq 2 (Y := fun f => if oc S x0 11 = true then rk px kx f (d + 3) 139 64 [some (.ref x0), some (.int x1)] (va_rf (S.2.2.2.1 x0 3) :: []) S else none) (fun f => rfl) ?_
    refine OkF.grd (fun _ => ?_)
    refine OkF.rf (fun a1 => ?_)
    refine OkF.eq 1 (Y := fun f => if oc S a1 4 = true then rk px kx f (d + 3) 139 67 [some (.ref x0), some (.int x1)] [.int (S.2.1 a1 9)] S else none) (fun f => rfl) ?_
    refine OkF.grd (fun _ => ?_)
    exact OkF.ret 1 (fun f => rfl)
  refine OkF.ite (fun _ => ?_) (fun _ => ?_)
  · refine OkF.eq 2 (Y := fun f => if oc S x0 11 = true then rk px kx f (d + 3) 139 72 [some (.ref x0), some (.int x1)] (va_rf (S.2.2.2.1 x0 3) :: []) S else none) (fun f => rfl) ?_
    refine OkF.grd (fun _ => ?_)
    refine OkF.rf (fun a2 => ?_)
    refine OkF.eq 1 (Y := fun f => if oc S a2 4 = true then rk px kx f (d + 3) 139 75 [some (.ref x0), some (.int x1)] [.int (S.2.1 a2 8)] S else none) (fun f => rfl) ?_
    refine OkF.grd (fun _ => ?_)
    exact OkF.ret 1 (fun f => rfl)
  refine OkF.ite (fun _ => ?_) (fun _ => ?_)
  · refine OkF.eq 2 (Y := fun f => if oc S x0 11 = true then rk px kx f (d + 3) 139 80 [some (.ref x0), some (.int x1)] (va_rf (S.2.2.2.1 x0 3) :: []) S else none) (fun f => rfl) ?_
    refine OkF.grd (fun _ => ?_)
    refine OkF.rf (fun a3 => ?_)
    refine OkF.eq 1 (Y := fun f => if oc S a3 4 = true then rk px kx f (d + 3) 139 83 [some (.ref x0), some (.int x1)] [.int (S.2.1 a3 12)] S else none) (fun f => rfl) ?_
    refine OkF.grd (fun _ => ?_)
    exact OkF.ret 1 (fun f => rfl)
  refine OkF.ite (fun _ => ?_) (fun _ => ?_)
  · refine OkF.eq 2 (Y := fun f => if oc S x0 11 = true then rk px kx f (d + 3) 139 88 [some (.ref x0), some (.int x1)] (va_rf (S.2.2.2.1 x0 3) :: []) S else none) (fun f => rfl) ?_
    refine OkF.grd (fun _ => ?_)
    refine OkF.rf (fun a4 => ?_)
    refine OkF.eq 1 (Y := fun f => if oc S a4 4 = true then rk px kx f (d + 3) 139 91 [some (.ref x0), some (.int x1)] [.int (S.2.1 a4 13)] S else none) (fun f => rfl) ?_
    refine OkF.grd (fun _ => ?_)
    exact OkF.ret 1 (fun f => rfl)
  refine OkF.ite (fun _ => ?_) (fun _ => ?_)
  · refine OkF.eq 2 (Y := fun f => if oc S x0 11 = true then rk px kx f (d + 3) 139 96 [some (.ref x0), some (.int x1)] (va_rf (S.2.2.2.1 x0 3) :: []) S else none) (fun f => rfl) ?_
    refine OkF.grd (fun _ => ?_)
    refine OkF.rf (fun a5 => ?_)
    refine OkF.eq 1 (Y := fun f => if oc S a5 4 = true then rk px kx f (d + 3) 139 99 [some (.ref x0), some (.int x1)] [.int (S.2.1 a5 11)] S else none) (fun f => rfl) ?_
    refine OkF.grd (fun _ => ?_)
    exact OkF.ret 1 (fun f => rfl)
  refine OkF.ite (fun _ => ?_) (fun _ => ?_)
  · refine OkF.eq 2 (Y := fun f => if oc S x0 11 = true then rk px kx f (d + 3) 139 104 [some (.ref x0), some (.int x1)] (va_rf (S.2.2.2.1 x0 3) :: []) S else none) (fun f => rfl) ?_
    refine OkF.grd (fun _ => ?_)
    refine OkF.rf (fun a6 => ?_)
    refine OkF.eq 1 (Y := fun f => if oc S a6 4 = true then rk px kx f (d + 3) 139 107 [some (.ref x0), some (.int x1)] [.int (S.2.1 a6 15)] S else none) (fun f => rfl) ?_
    refine OkF.grd (fun _ => ?_)
    exact OkF.ret 1 (fun f => rfl)
  refine OkF.ite (fun _ => ?_) (fun _ => ?_)
  · refine OkF.eq 2 (Y := fun f => if oc S x0 11 = true then rk px kx f (d + 3) 139 112 [some (.ref x0), some (.int x1)] (va_rf (S.2.2.2.1 x0 3) :: []) S else none) (fun f => rfl) ?_
    refine OkF.grd (fun _ => ?_)
    refine OkF.rf (fun a7 => ?_)
    refine OkF.eq 1 (Y := fun f => if oc S a7 4 = true then rk px kx f (d + 3) 139 115 [some (.ref x0), some (.int x1)] [.int (S.2.1 a7 14)] S else none) (fun f => rfl) ?_
    refine OkF.grd (fun _ => ?_)
    exact OkF.ret 1 (fun f => rfl)
  refine OkF.ite (fun _ => ?_) (fun _ => ?_)
  · refine OkF.eq 3 (Y := fun f => if oc S x0 11 = true then (rk px kx f (d + 2) 140 0 [some (.ref x0), some (.int (1 : Int32)), none, none] [] S).bind (fun q => rk px kx f (d + 3) 139 121 [some (.ref x0), some (.int x1)] (q.1.toList ++ []) q.2) else none) (fun f => rfl) ?_
    refine OkF.grd (fun _ => ?_)
    refine OkF.bind (w1 := wI) (om140 (d + 0) x0 (1 : Int32) S) (fun q8 => ?_)
    exact OkF.ret 1 (fun f => rfl)
  refine OkF.ite (fun _ => ?_) (fun _ => ?_)
  · refine OkF.eq 2 (Y := fun f => if oc S x0 11 = true then rk px kx f (d + 3) 139 126 [some (.ref x0), some (.int x1)] (va_rf (S.2.2.2.1 x0 0) :: []) S else none) (fun f => rfl) ?_
    refine OkF.grd (fun _ => ?_)
    refine OkF.rf (fun a9 => ?_)
    refine OkF.eq 1 (Y := fun f => (rk px kx f (d + 2) 141 0 [some (.ref a9), none, none] [] S).bind (fun q => rk px kx f (d + 3) 139 129 [some (.ref x0), some (.int x1)] (q.1.toList ++ []) q.2)) (fun f => rfl) ?_
    refine OkF.bind (w1 := wI) (om141 (d + 1) a9 S) (fun q10 => ?_)
    exact OkF.ret 1 (fun f => rfl)
  refine OkF.ite (fun _ => ?_) (fun _ => ?_)
  · refine OkF.eq 2 (Y := fun f => if oc S x0 11 = true then rk px kx f (d + 3) 139 134 [some (.ref x0), some (.int x1)] (va_rf (S.2.2.2.1 x0 1) :: []) S else none) (fun f => rfl) ?_
    refine OkF.grd (fun _ => ?_)
    refine OkF.rf (fun a11 => ?_)
    refine OkF.eq 1 (Y := fun f => (rk px kx f (d + 2) 141 0 [some (.ref a11), none, none] [] S).bind (fun q => rk px kx f (d + 3) 139 137 [some (.ref x0), some (.int x1)] (q.1.toList ++ []) q.2)) (fun f => rfl) ?_
    refine OkF.bind (w1 := wI) (om141 (d + 1) a11 S) (fun q12 => ?_)
    exact OkF.ret 1 (fun f => rfl)
  refine OkF.ite (fun _ => ?_) (fun _ => ?_)
  · refine OkF.eq 2 (Y := fun f => if oc S x0 11 = true then (rk px kx f (d + 2) 142 0 [some (.ref x0), none, none] [] S).bind (fun q => rk px kx f (d + 3) 139 142 [some (.ref x0), some (.int x1)] (q.1.toList ++ []) q.2) else none) (fun f => rfl) ?_
    refine OkF.grd (fun _ => ?_)
    refine OkF.bind (w1 := wI) (om142 (d + 2) x0 S) (fun q13 => ?_)
    exact OkF.ret 1 (fun f => rfl)
  exact OkF.ret 2 (fun f => rfl)
-- DoorSold.finding()I
def m143 (x0 : Nat) (S : Sx) : Option (Int32 × Sx) :=
  if oc S x0 11 = true then some (S.2.1 x0 11, S) else none
set_option maxRecDepth 100000 in
theorem om143 (d : Nat) (x0 : Nat) (S : Sx) : OkF wI (fun f => rk px kx f (d + 0) 143 0 [some (.ref x0)] [] S) (m143 x0 S) := by
  unfold m143
  refine OkF.eq 2 (Y := fun f => if oc S x0 11 = true then rk px kx f (d + 0) 143 4 [some (.ref x0)] [.int (S.2.1 x0 11)] S else none) (fun f => rfl) ?_
  refine OkF.grd (fun _ => ?_)
  exact OkF.ret 1 (fun f => rfl)
-- DoorSold.findings(I)I
def m144 (x0 : Nat) (x1 : Int32) (S : Sx) : Option (Int32 × Sx) :=
  if x1 < (1 : Int32) then some ((-1 : Int32), S) else if x1 ≤ (5 : Int32) then if oc S x0 11 = true then (S.2.2.2.1 x0 10).bind fun a1 => if inb x1 (al S a1) = true then some (S.2.1 a1 x1.toNatClampNeg, S) else none else none else some ((-1 : Int32), S)
set_option maxRecDepth 100000 in
theorem om144 (d : Nat) (x0 : Nat) (x1 : Int32) (S : Sx) : OkF wI (fun f => rk px kx f (d + 0) 144 0 [some (.ref x0), some (.int x1)] [] S) (m144 x0 x1 S) := by
  unfold m144
  refine OkF.eq 3 (Y := fun f => if x1 < (1 : Int32) then rk px kx f (d + 0) 144 10 [some (.ref x0), some (.int x1)] [] S else rk px kx f (d + 0) 144 5 [some (.ref x0), some (.int x1)] [] S) (fun f => rfl) ?_
  refine OkF.ite (fun _ => ?_) (fun _ => ?_)
  · exact OkF.ret 2 (fun f => rfl)
  · refine OkF.eq 3 (Y := fun f => if x1 ≤ (5 : Int32) then rk px kx f (d + 0) 144 12 [some (.ref x0), some (.int x1)] [] S else rk px kx f (d + 0) 144 10 [some (.ref x0), some (.int x1)] [] S) (fun f => rfl) ?_
    refine OkF.ite (fun _ => ?_) (fun _ => ?_)
    · refine OkF.eq 2 (Y := fun f => if oc S x0 11 = true then rk px kx f (d + 0) 144 16 [some (.ref x0), some (.int x1)] (va_rf (S.2.2.2.1 x0 10) :: []) S else none) (fun f => rfl) ?_
      refine OkF.grd (fun _ => ?_)
      refine OkF.rf (fun a1 => ?_)
      refine OkF.eq 2 (Y := fun f => if inb x1 (al S a1) = true then rk px kx f (d + 0) 144 18 [some (.ref x0), some (.int x1)] [.int (S.2.1 a1 x1.toNatClampNeg)] S else none) (fun f => rfl) ?_
      refine OkF.grd (fun _ => ?_)
      exact OkF.ret 1 (fun f => rfl)
    · exact OkF.ret 2 (fun f => rfl)
