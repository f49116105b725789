-- DoorSoldModel.fraction(JJ)I
def b228_6 (k6 : Nat → Int64 → Int64 → Int64 → Int64 → Sx → Option (Int32 × Sx)) (x0 : Nat) (x1 : Int64) (x3 : Int64) (x5 : Int64) (x7 : Int64) (S : Sx) : Option (Int32 × Sx) :=
  if (lg_cmp x7 (0 : Int64)) = 0 then if x5 = 0 then none else if oc S x0 12 = true then lt (sL S x0 14 (x1 / x5)) fun S1 => if x5 = 0 then none else if oc S1 x0 12 = true then lt (sL S1 x0 15 (x3 / x5)) fun S2 => some ((1 : Int32), S2) else none else none else if x7 = 0 then none else k6 x0 x1 x3 x7 (x5 - x5 / x7 * x7) S
set_option maxRecDepth 100000 in
theorem ob228_6 (d : Nat) (k6 : Nat → Int64 → Int64 → Int64 → Int64 → Sx → Option (Int32 × Sx)) (hk6 : ∀ (x0 : Nat) (x1 : Int64) (x3 : Int64) (x5 : Int64) (x7 : Int64) (S : Sx), OkF wI (fun f => rk px kx f (d + 0) 228 6 [some (.ref x0), some (.long x1), none, some (.long x3), none, some (.long x5), none, some (.long x7), none, none, none] [] S) (k6 x0 x1 x3 x5 x7 S)) (x0 : Nat) (x1 : Int64) (x3 : Int64) (x5 : Int64) (x7 : Int64) (S : Sx) : OkF wI (fun f => rk px kx f (d + 0) 228 6 [some (.ref x0), some (.long x1), none, some (.long x3), none, some (.long x5), none, some (.long x7), none, none, none] [] S) (b228_6 k6 x0 x1 x3 x5 x7 S) := by
  unfold b228_6
  refine OkF.eq 4 (Y := fun f => if (lg_cmp x7 (0 : Int64)) = 0 then rk px kx f (d + 0) 228 31 [some (.ref x0), some (.long x1), none, some (.long x3), none, some (.long x5), none, some (.long x7), none, none, none] [] S else rk px kx f (d + 0) 228 13 [some (.ref x0), some (.long x1), none, some (.long x3), none, some (.long x5), none, some (.long x7), none, none, none] [] S) (fun f => rfl) ?_
  refine OkF.ite (fun _ => ?_) (fun _ => ?_)
  · refine OkF.eq 4 (Y := fun f => if x5 = 0 then none else rk px kx f (d + 0) 228 36 [some (.ref x0), some (.long x1), none, some (.long x3), none, some (.long x5), none, some (.long x7), none, none, none] [.long (x1 / x5), .ref x0] S) (fun f => rfl) ?_
    refine OkF.ngr (fun _ => ?_)
    refine OkF.eq 1 (Y := fun f => if oc S x0 12 = true then rk px kx f (d + 0) 228 39 [some (.ref x0), some (.long x1), none, some (.long x3), none, some (.long x5), none, some (.long x7), none, none, none] [] (sL S x0 14 (x1 / x5)) else none) (fun f => rfl) ?_
    refine OkF.grd (fun _ => ?_)
    refine OkF.nm (fun S1 => ?_)
    refine OkF.eq 4 (Y := fun f => if x5 = 0 then none else rk px kx f (d + 0) 228 44 [some (.ref x0), some (.long x1), none, some (.long x3), none, some (.long x5), none, some (.long x7), none, none, none] [.long (x3 / x5), .ref x0] S1) (fun f => rfl) ?_
    refine OkF.ngr (fun _ => ?_)
    refine OkF.eq 1 (Y := fun f => if oc S1 x0 12 = true then rk px kx f (d + 0) 228 47 [some (.ref x0), some (.long x1), none, some (.long x3), none, some (.long x5), none, some (.long x7), none, none, none] [] (sL S1 x0 15 (x3 / x5)) else none) (fun f => rfl) ?_
    refine OkF.grd (fun _ => ?_)
    refine OkF.nm (fun S2 => ?_)
    exact OkF.ret 2 (fun f => rfl)
  · refine OkF.eq 3 (Y := fun f => if x7 = 0 then none else rk px kx f (d + 0) 228 18 [some (.ref x0), some (.long x1), none, some (.long x3), none, some (.long x5), none, some (.long x7), none, none, none] [.long (x5 - x5 / x7 * x7)] S) (fun f => rfl) ?_
    refine OkF.ngr (fun _ => ?_)
    refine OkF.eq 6 (Y := fun f => rk px kx f (d + 0) 228 6 [some (.ref x0), some (.long x1), none, some (.long x3), none, some (.long x7), none, some (.long (x5 - x5 / x7 * x7)), none, some (.long (x5 - x5 / x7 * x7)), none] [] S) (fun f => rfl) ?_
    exact OkF.kl (ls1 := [some (.ref x0), some (.long x1), none, some (.long x3), none, some (.long x7), none, some (.long (x5 - x5 / x7 * x7)), none, none, none]) (fun f => rfl) (hk6 x0 x1 x3 x7 (x5 - x5 / x7 * x7) S)
def l228_6 : Nat → Nat → Int64 → Int64 → Int64 → Int64 → Sx → Option (Int32 × Sx)
  | 0 => fun _ _ _ _ _ _ => none
  | n + 1 => fun x0 x1 x3 x5 x7 S => b228_6 (l228_6 n) x0 x1 x3 x5 x7 S
set_option maxRecDepth 100000 in
theorem ol228_6 (d : Nat) : ∀ (n : Nat) (x0 : Nat) (x1 : Int64) (x3 : Int64) (x5 : Int64) (x7 : Int64) (S : Sx), OkF wI (fun f => rk px kx f (d + 0) 228 6 [some (.ref x0), some (.long x1), none, some (.long x3), none, some (.long x5), none, some (.long x7), none, none, none] [] S) (l228_6 n x0 x1 x3 x5 x7 S) := by
  intro n
  induction n with
  | zero => intro x0 x1 x3 x5 x7 S; exact OkF.no
  | succ n ih => intro x0 x1 x3 x5 x7 S; exact ob228_6 d (l228_6 n) ih x0 x1 x3 x5 x7 S
def m228 (x0 : Nat) (x1 : Int64) (x3 : Int64) (S : Sx) : Option (Int32 × Sx) :=
  l228_6 1000 x0 x1 x3 x1 x3 S
set_option maxRecDepth 100000 in
theorem om228 (d : Nat) (x0 : Nat) (x1 : Int64) (x3 : Int64) (S : Sx) : OkF wI (fun f => rk px kx f (d + 0) 228 0 [some (.ref x0), some (.long x1), none, some (.long x3), none, none, none, none, none, none, none] [] S) (m228 x0 x1 x3 S) := by
  unfold m228
  refine OkF.eq 4 (Y := fun f => rk px kx f (d + 0) 228 6 [some (.ref x0), some (.long x1), none, some (.long x3), none, some (.long x1), none, some (.long x3), none, none, none] [] S) (fun f => rfl) ?_
  exact OkF.kl (ls1 := [some (.ref x0), some (.long x1), none, some (.long x3), none, some (.long x1), none, some (.long x3), none, none, none]) (fun f => rfl) (ol228_6 d 1000 x0 x1 x3 x1 x3 S)
-- DoorSoldModel.weighed(III)I
def b227_115 (k43 : Nat → Int32 → Int32 → Int32 → Int32 → Int64 → Int64 → Int32 → Sx → Option (Int32 × Sx)) (k70 : Nat → Int32 → Int32 → Int32 → Int32 → Int64 → Int64 → Int32 → Int64 → Int32 → Sx → Option (Int32 × Sx)) (x0 : Nat) (x1 : Int32) (x2 : Int32) (x3 : Int32) (x4 : Int32) (x5 : Int64) (x7 : Int64) (x9 : Int32) (x12 : Int32) (s0 : Int64) (s1 : Int64) (S : Sx) : Option (Int32 × Sx) :=
  k70 x0 x1 x2 x3 x4 x5 x7 x9 (s0 * s1) (x12 + (1 : Int32)) S
set_option maxRecDepth 100000 in
theorem ob227_115 (d : Nat) (k43 : Nat → Int32 → Int32 → Int32 → Int32 → Int64 → Int64 → Int32 → Sx → Option (Int32 × Sx)) (hk43 : ∀ (x0 : Nat) (x1 : Int32) (x2 : Int32) (x3 : Int32) (x4 : Int32) (x5 : Int64) (x7 : Int64) (x9 : Int32) (S : Sx), OkF wI (fun f => rk px kx f (d + 6) 227 43 [some (.ref x0), some (.int x1), some (.int x2), some (.int x3), some (.int x4), some (.long x5), none, some (.long x7), none, some (.int x9), none, none, none] [] S) (k43 x0 x1 x2 x3 x4 x5 x7 x9 S)) (k70 : Nat → Int32 → Int32 → Int32 → Int32 → Int64 → Int64 → Int32 → Int64 → Int32 → Sx → Option (Int32 × Sx)) (hk70 : ∀ (x0 : Nat) (x1 : Int32) (x2 : Int32) (x3 : Int32) (x4 : Int32) (x5 : Int64) (x7 : Int64) (x9 : Int32) (x10 : Int64) (x12 : Int32) (S : Sx), OkF wI (fun f => rk px kx f (d + 6) 227 70 [some (.ref x0), some (.int x1), some (.int x2), some (.int x3), some (.int x4), some (.long x5), none, some (.long x7), none, some (.int x9), some (.long x10), none, some (.int x12)] [] S) (k70 x0 x1 x2 x3 x4 x5 x7 x9 x10 x12 S)) (x0 : Nat) (x1 : Int32) (x2 : Int32) (x3 : Int32) (x4 : Int32) (x5 : Int64) (x7 : Int64) (x9 : Int32) (x12 : Int32) (s0 : Int64) (s1 : Int64) (S : Sx) : OkF wI (fun f => rk px kx f (d + 6) 227 115 [some (.ref x0), some (.int x1), some (.int x2), some (.int x3), some (.int x4), some (.long x5), none, some (.long x7), none, some (.int x9), none, none, some (.int x12)] [.long s1, .long s0] S) (b227_115 k43 k70 x0 x1 x2 x3 x4 x5 x7 x9 x12 s0 s1 S) := by
  unfold b227_115
  refine OkF.eq 4 (Y := fun f => rk px kx f (d + 6) 227 70 [some (.ref x0), some (.int x1), some (.int x2), some (.int x3), some (.int x4), some (.long x5), none, some (.long x7), none, some (.int x9), some (.long (s0 * s1)), none, some (.int (x12 + (1 : Int32)))] [] S) (fun f => rfl) ?_
  exact OkF.kl (ls1 := [some (.ref x0), some (.int x1), some (.int x2), some (.int x3), some (.int x4), some (.long x5), none, some (.long x7), none, some (.int x9), some (.long (s0 * s1)), none, some (.int (x12 + (1 : Int32)))]) (fun f => rfl) (hk70 x0 x1 x2 x3 x4 x5 x7 x9 (s0 * s1) (x12 + (1 : Int32)) S)
def b227_162 (k43 : Nat → Int32 → Int32 → Int32 → Int32 → Int64 → Int64 → Int32 → Sx → Option (Int32 × Sx)) (x0 : Nat) (x1 : Int32) (x2 : Int32) (x3 : Int32) (x4 : Int32) (x5 : Int64) (x7 : Int64) (x9 : Int32) (S : Sx) : Option (Int32 × Sx) :=
  k43 x0 x1 x2 x3 x4 x5 x7 (x9 + (1 : Int32)) S
set_option maxRecDepth 100000 in
theorem ob227_162 (d : Nat) (k43 : Nat → Int32 → Int32 → Int32 → Int32 → Int64 → Int64 → Int32 → Sx → Option (Int32 × Sx)) (hk43 : ∀ (x0 : Nat) (x1 : Int32) (x2 : Int32) (x3 : Int32) (x4 : Int32) (x5 : Int64) (x7 : Int64) (x9 : Int32) (S : Sx), OkF wI (fun f => rk px kx f (d + 6) 227 43 [some (.ref x0), some (.int x1), some (.int x2), some (.int x3), some (.int x4), some (.long x5), none, some (.long x7), none, some (.int x9), none, none, none] [] S) (k43 x0 x1 x2 x3 x4 x5 x7 x9 S)) (x0 : Nat) (x1 : Int32) (x2 : Int32) (x3 : Int32) (x4 : Int32) (x5 : Int64) (x7 : Int64) (x9 : Int32) (S : Sx) : OkF wI (fun f => rk px kx f (d + 6) 227 162 [some (.ref x0), some (.int x1), some (.int x2), some (.int x3), some (.int x4), some (.long x5), none, some (.long x7), none, some (.int x9), none, none, none] [] S) (b227_162 k43 x0 x1 x2 x3 x4 x5 x7 x9 S) := by
  unfold b227_162
  refine OkF.eq 2 (Y := fun f => rk px kx f (d + 6) 227 43 [some (.ref x0), some (.int x1), some (.int x2), some (.int x3), some (.int x4), some (.long x5), none, some (.long x7), none, some (.int (x9 + (1 : Int32))), none, none, none] [] S) (fun f => rfl) ?_
  exact OkF.kl (ls1 := [some (.ref x0), some (.int x1), some (.int x2), some (.int x3), some (.int x4), some (.long x5), none, some (.long x7), none, some (.int (x9 + (1 : Int32))), none, none, none]) (fun f => rfl) (hk43 x0 x1 x2 x3 x4 x5 x7 (x9 + (1 : Int32)) S)
def b227_157 (k43 : Nat → Int32 → Int32 → Int32 → Int32 → Int64 → Int64 → Int32 → Sx → Option (Int32 × Sx)) (x0 : Nat) (x1 : Int32) (x2 : Int32) (x3 : Int32) (x4 : Int32) (x7 : Int64) (x9 : Int32) (s0 : Int64) (s1 : Int64) (s2 : Int32) (S : Sx) : Option (Int32 × Sx) :=
  b227_162 k43 x0 x1 x2 x3 x4 (s0 + (s1 * s2.toInt64)) x7 x9 S
set_option maxRecDepth 100000 in
theorem ob227_157 (d : Nat) (k43 : Nat → Int32 → Int32 → Int32 → Int32 → Int64 → Int64 → Int32 → Sx → Option (Int32 × Sx)) (hk43 : ∀ (x0 : Nat) (x1 : Int32) (x2 : Int32) (x3 : Int32) (x4 : Int32) (x5 : Int64) (x7 : Int64) (x9 : Int32) (S : Sx), OkF wI (fun f => rk px kx f (d + 6) 227 43 [some (.ref x0), some (.int x1), some (.int x2), some (.int x3), some (.int x4), some (.long x5), none, some (.long x7), none, some (.int x9), none, none, none] [] S) (k43 x0 x1 x2 x3 x4 x5 x7 x9 S)) (x0 : Nat) (x1 : Int32) (x2 : Int32) (x3 : Int32) (x4 : Int32) (x7 : Int64) (x9 : Int32) (s0 : Int64) (s1 : Int64) (s2 : Int32) (S : Sx) : OkF wI (fun f => rk px kx f (d + 6) 227 157 [some (.ref x0), some (.int x1), some (.int x2), some (.int x3), some (.int x4), none, none, some (.long x7), none, some (.int x9), none, none, none] [.int s2, .long s1, .long s0] S) (b227_157 k43 x0 x1 x2 x3 x4 x7 x9 s0 s1 s2 S) := by
  unfold b227_157
  refine OkF.eq 4 (Y := fun f => rk px kx f (d + 6) 227 162 [some (.ref x0), some (.int x1), some (.int x2), some (.int x3), some (.int x4), some (.long (s0 + (s1 * s2.toInt64))), none, some (.long x7), none, some (.int x9), none, none, none] [] S) (fun f => rfl) ?_
  exact OkF.kl (ls1 := [some (.ref x0), some (.int x1), some (.int x2), some (.int x3), some (.int x4), some (.long (s0 + (s1 * s2.toInt64))), none, some (.long x7), none, some (.int x9), none, none, none]) (fun f => rfl) (ob227_162 d k43 hk43 x0 x1 x2 x3 x4 (s0 + (s1 * s2.toInt64)) x7 x9 S)
def b227_70 (k43 : Nat → Int32 → Int32 → Int32 → Int32 → Int64 → Int64 → Int32 → Sx → Option (Int32 × Sx)) (k70 : Nat → Int32 → Int32 → Int32 → Int32 → Int64 → Int64 → Int32 → Int64 → Int32 → Sx → Option (Int32 × Sx)) (x0 : Nat) (x1 : Int32) (x2 : Int32) (x3 : Int32) (x4 : Int32) (x5 : Int64) (x7 : Int64) (x9 : Int32) (x10 : Int64) (x12 : Int32) (S : Sx) : Option (Int32 × Sx) :=
  if oc S x0 12 = true then if (S.2.1 x0 4) ≤ x12 then if oc S x0 12 = true then (m209 x0 x1 x9 S).bind fun q1 => if 0 ≤ x2 then if x2 < q1.1 then b227_157 k43 x0 x1 x2 x3 x4 x7 x9 x5 x10 (0 : Int32) q1.2 else b227_157 k43 x0 x1 x2 x3 x4 x7 x9 x5 x10 (1 : Int32) q1.2 else b227_157 k43 x0 x1 x2 x3 x4 x7 x9 x5 x10 q1.1 q1.2 else none else (m180 x4 x12 S).bind fun q2 => if q2.1 = 0 then b227_115 k43 k70 x0 x1 x2 x3 x4 x5 x7 x9 x12 x10 (1 : Int64) q2.2 else (m180 x9 x12 q2.2).bind fun q3 => if q3.1 = 0 then b227_115 k43 k70 x0 x1 x2 x3 x4 x5 x7 x9 x12 x10 x3.toInt64 q3.2 else b227_115 k43 k70 x0 x1 x2 x3 x4 x5 x7 x9 x12 x10 (((12 : Int32) - x3).toInt64) q3.2 else none
set_option maxRecDepth 100000 in
theorem ob227_70 (d : Nat) (k43 : Nat → Int32 → Int32 → Int32 → Int32 → Int64 → Int64 → Int32 → Sx → Option (Int32 × Sx)) (hk43 : ∀ (x0 : Nat) (x1 : Int32) (x2 : Int32) (x3 : Int32) (x4 : Int32) (x5 : Int64) (x7 : Int64) (x9 : Int32) (S : Sx), OkF wI (fun f => rk px kx f (d + 6) 227 43 [some (.ref x0), some (.int x1), some (.int x2), some (.int x3), some (.int x4), some (.long x5), none, some (.long x7), none, some (.int x9), none, none, none] [] S) (k43 x0 x1 x2 x3 x4 x5 x7 x9 S)) (k70 : Nat → Int32 → Int32 → Int32 → Int32 → Int64 → Int64 → Int32 → Int64 → Int32 → Sx → Option (Int32 × Sx)) (hk70 : ∀ (x0 : Nat) (x1 : Int32) (x2 : Int32) (x3 : Int32) (x4 : Int32) (x5 : Int64) (x7 : Int64) (x9 : Int32) (x10 : Int64) (x12 : Int32) (S : Sx), OkF wI (fun f => rk px kx f (d + 6) 227 70 [some (.ref x0), some (.int x1), some (.int x2), some (.int x3), some (.int x4), some (.long x5), none, some (.long x7), none, some (.int x9), some (.long x10), none, some (.int x12)] [] S) (k70 x0 x1 x2 x3 x4 x5 x7 x9 x10 x12 S)) (x0 : Nat) (x1 : Int32) (x2 : Int32) (x3 : Int32) (x4 : Int32) (x5 : Int64) (x7 : Int64) (x9 : Int32) (x10 : Int64) (x12 : Int32) (S : Sx) : OkF wI (fun f => rk px kx f (d + 6) 227 70 [some (.ref x0), some (.int x1), some (.int x2), some (.int x3), some (.int x4), some (.long x5), none, some (.long x7), none, some (.int x9), some (.long x10), none, some (.int x12)] [] S) (b227_70 k43 k70 x0 x1 x2 x3 x4 x5 x7 x9 x10 x12 S) := by
  unfold b227_70
  refine OkF.eq 3 (Y := fun f => if oc S x0 12 = true then rk px kx f (d + 6) 227 76 [some (.ref x0), some (.int x1), some (.int x2), some (.int x3), some (.int x4), some (.long x5), none, some (.long x7), none, some (.int x9), some (.long x10), none, some (.int x12)] [.int (S.2.1 x0 4), .int x12] S else none) (fun f => rfl) ?_
  refine OkF.grd (fun _ => ?_)
  refine OkF.eq 1 (Y := fun f => if (S.2.1 x0 4) ≤ x12 then rk px kx f (d + 6) 227 124 [some (.ref x0), some (.int x1), some (.int x2), some (.int x3), some (.int x4), some (.long x5), none, some (.long x7), none, some (.int x9), some (.long x10), none, some (.int x12)] [] S else rk px kx f (d + 6) 227 79 [some (.ref x0), some (.int x1), some (.int x2), some (.int x3), some (.int x4), some (.long x5), none, some (.long x7), none, some (.int x9), some (.long x10), none, some (.int x12)] [] S) (fun f => rfl) ?_
  refine OkF.ite (fun _ => ?_) (fun _ => ?_)
  · refine OkF.eq 4 (Y := fun f => if oc S x0 12 = true then (rk px kx f (d + 5) 209 0 [some (.ref x0), some (.int x1), some (.int x9), none] [] S).bind (fun q => rk px kx f (d + 6) 227 131 [some (.ref x0), some (.int x1), some (.int x2), some (.int x3), some (.int x4), some (.long x5), none, some (.long x7), none, some (.int x9), some (.long x10), none, some (.int x12)] (q.1.toList ++ []) q.2) else none) (fun f => rfl) ?_
    refine OkF.grd (fun _ => ?_)
    refine OkF.bind (w1 := wI) (om209 (d + 0) x0 x1 x9 S) (fun q1 => ?_)
    refine OkF.eq 5 (Y := fun f => if 0 ≤ x2 then rk px kx f (d + 6) 227 146 [some (.ref x0), some (.int x1), some (.int x2), some (.int x3), some (.int x4), some (.long x5), none, some (.long x7), none, some (.int x9), some (.long x10), none, some (.int q1.1)] [.long x10, .long x5] q1.2 else rk px kx f (d + 6) 227 141 [some (.ref x0), some (.int x1), some (.int x2), some (.int x3), some (.int x4), some (.long x5), none, some (.long x7), none, some (.int x9), some (.long x10), none, some (.int q1.1)] [.long x10, .long x5] q1.2) (fun f => rfl) ?_
    refine OkF.ite (fun _ => ?_) (fun _ => ?_)
    · refine OkF.eq 3 (Y := fun f => if x2 < q1.1 then rk px kx f (d + 6) 227 156 [some (.ref x0), some (.int x1), some (.int x2), some (.int x3), some (.int x4), some (.long x5), none, some (.long x7), none, some (.int x9), some (.long x10), none, some (.int q1.1)] [.long x10, .long x5] q1.2 else rk px kx f (d + 6) 227 152 [some (.ref x0), some (.int x1), some (.int x2), some (.int x3), some (.int x4), some (.long x5), none, some (.long x7), none, some (.int x9), some (.long x10), none, some (.int q1.1)] [.long x10, .long x5] q1.2) (fun f => rfl) ?_
      refine OkF.ite (fun _ => ?_) (fun _ => ?_)
      · refine OkF.eq 1 (Y := fun f => rk px kx f (d + 6) 227 157 [some (.ref x0), some (.int x1), some (.int x2), some (.int x3), some (.int x4), some (.long x5), none, some (.long x7), none, some (.int x9), some (.long x10), none, some (.int q1.1)] [.int (0 : Int32), .long x10, .long x5] q1.2) (fun f => rfl) ?_
        exact OkF.kl (ls1 := [some (.ref x0), some (.int x1), some (.int x2), some (.int x3), some (.int x4), none, none, some (.long x7), none, some (.int x9), none, none, none]) (fun f => rfl) (ob227_157 d k43 hk43 x0 x1 x2 x3 x4 x7 x9 x5 x10 (0 : Int32) q1.2)
      · refine OkF.eq 2 (Y := fun f => rk px kx f (d + 6) 227 157 [some (.ref x0), some (.int x1), some (.int x2), some (.int x3), some (.int x4), some (.long x5), none, some (.long x7), none, some (.int x9), some (.long x10), none, some (.int q1.1)] [.int (1 : Int32), .long x10, .long x5] q1.2) (fun f => rfl) ?_
        exact OkF.kl (ls1 := [some (.ref x0), some (.int x1), some (.int x2), some (.int x3), some (.int x4), none, none, some (.long x7), none, some (.int x9), none, none, none]) (fun f => rfl) (ob227_157 d k43 hk43 x0 x1 x2 x3 x4 x7 x9 x5 x10 (1 : Int32) q1.2)
    · refine OkF.eq 2 (Y := fun f => rk px kx f (d + 6) 227 157 [some (.ref x0), some (.int x1), some (.int x2), some (.int x3), some (.int x4), some (.long x5), none, some (.long x7), none, some (.int x9), some (.long x10), none, some (.int q1.1)] [.int q1.1, .long x10, .long x5] q1.2) (fun f => rfl) ?_
      exact OkF.kl (ls1 := [some (.ref x0), some (.int x1), some (.int x2), some (.int x3), some (.int x4), none, none, some (.long x7), none, some (.int x9), none, none, none]) (fun f => rfl) (ob227_157 d k43 hk43 x0 x1 x2 x3 x4 x7 x9 x5 x10 q1.1 q1.2)
  · refine OkF.eq 4 (Y := fun f => (rk px kx f (d + 5) 180 0 [some (.int x4), some (.int x12)] [] S).bind (fun q => rk px kx f (d + 6) 227 88 [some (.ref x0), some (.int x1), some (.int x2), some (.int x3), some (.int x4), some (.long x5), none, some (.long x7), none, some (.int x9), some (.long x10), none, some (.int x12)] (q.1.toList ++ [.long x10]) q.2)) (fun f => rfl) ?_
    refine OkF.bind (w1 := wI) (om180 (d + 5) x4 x12 S) (fun q2 => ?_)
    refine OkF.eq 1 (Y := fun f => if q2.1 = 0 then rk px kx f (d + 6) 227 91 [some (.ref x0), some (.int x1), some (.int x2), some (.int x3), some (.int x4), some (.long x5), none, some (.long x7), none, some (.int x9), some (.long x10), none, some (.int x12)] [.long x10] q2.2 else rk px kx f (d + 6) 227 95 [some (.ref x0), some (.int x1), some (.int x2), some (.int x3), some (.int x4), some (.long x5), none, some (.long x7), none, some (.int x9), some (.long x10), none, some (.int x12)] [.long x10] q2.2) (fun f => rfl) ?_
    refine OkF.ite (fun _ => ?_) (fun _ => ?_)
    · refine OkF.eq 2 (Y := fun f => rk px kx f (d + 6) 227 115 [some (.ref x0), some (.int x1), some (.int x2), some (.int x3), some (.int x4), some (.long x5), none, some (.long x7), none, some (.int x9), some (.long x10), none, some (.int x12)] [.long (1 : Int64), .long x10] q2.2) (fun f => rfl) ?_
      exact OkF.kl (ls1 := [some (.ref x0), some (.int x1), some (.int x2), some (.int x3), some (.int x4), some (.long x5), none, some (.long x7), none, some (.int x9), none, none, some (.int x12)]) (fun f => rfl) (ob227_115 d k43 hk43 k70 hk70 x0 x1 x2 x3 x4 x5 x7 x9 x12 x10 (1 : Int64) q2.2)
    · refine OkF.eq 3 (Y := fun f => (rk px kx f (d + 5) 180 0 [some (.int x9), some (.int x12)] [] q2.2).bind (fun q => rk px kx f (d + 6) 227 102 [some (.ref x0), some (.int x1), some (.int x2), some (.int x3), some (.int x4), some (.long x5), none, some (.long x7), none, some (.int x9), some (.long x10), none, some (.int x12)] (q.1.toList ++ [.long x10]) q.2)) (fun f => rfl) ?_
      refine OkF.bind (w1 := wI) (om180 (d + 5) x9 x12 q2.2) (fun q3 => ?_)
      refine OkF.eq 1 (Y := fun f => if q3.1 = 0 then rk px kx f (d + 6) 227 113 [some (.ref x0), some (.int x1), some (.int x2), some (.int x3), some (.int x4), some (.long x5), none, some (.long x7), none, some (.int x9), some (.long x10), none, some (.int x12)] [.long x10] q3.2 else rk px kx f (d + 6) 227 105 [some (.ref x0), some (.int x1), some (.int x2), some (.int x3), some (.int x4), some (.long x5), none, some (.long x7), none, some (.int x9), some (.long x10), none, some (.int x12)] [.long x10] q3.2) (fun f => rfl) ?_
      refine OkF.ite (fun _ => ?_) (fun _ => ?_)
      · refine OkF.eq 2 (Y := fun f => rk px kx f (d + 6) 227 115 [some (.ref x0), some (.int x1), some (.int x2), some (.int x3), some (.int x4), some (.long x5), none, some (.long x7), none, some (.int x9), some (.long x10), none, some (.int x12)] [.long x3.toInt64, .long x10] q3.2) (fun f => rfl) ?_
        exact OkF.kl (ls1 := [some (.ref x0), some (.int x1), some (.int x2), some (.int x3), some (.int x4), some (.long x5), none, some (.long x7), none, some (.int x9), none, none, some (.int x12)]) (fun f => rfl) (ob227_115 d k43 hk43 k70 hk70 x0 x1 x2 x3 x4 x5 x7 x9 x12 x10 x3.toInt64 q3.2)
      · refine OkF.eq 5 (Y := fun f => rk px kx f (d + 6) 227 115 [some (.ref x0), some (.int x1), some (.int x2), some (.int x3), some (.int x4), some (.long x5), none, some (.long x7), none, some (.int x9), some (.long x10), none, some (.int x12)] [.long (((12 : Int32) - x3).toInt64), .long x10] q3.2) (fun f => rfl) ?_
        exact OkF.kl (ls1 := [some (.ref x0), some (.int x1), some (.int x2), some (.int x3), some (.int x4), some (.long x5), none, some (.long x7), none, some (.int x9), none, none, some (.int x12)]) (fun f => rfl) (ob227_115 d k43 hk43 k70 hk70 x0 x1 x2 x3 x4 x5 x7 x9 x12 x10 (((12 : Int32) - x3).toInt64) q3.2)
def l227_70 (k43 : Nat → Int32 → Int32 → Int32 → Int32 → Int64 → Int64 → Int32 → Sx → Option (Int32 × Sx)) : Nat → Nat → Int32 → Int32 → Int32 → Int32 → Int64 → Int64 → Int32 → Int64 → Int32 → Sx → Option (Int32 × Sx)
  | 0 => fun _ _ _ _ _ _ _ _ _ _ _ => none
  | n + 1 => fun x0 x1 x2 x3 x4 x5 x7 x9 x10 x12 S => b227_70 k43 (l227_70 k43 n) x0 x1 x2 x3 x4 x5 x7 x9 x10 x12 S
set_option maxRecDepth 100000 in
theorem ol227_70 (d : Nat) (k43 : Nat → Int32 → Int32 → Int32 → Int32 → Int64 → Int64 → Int32 → Sx → Option (Int32 × Sx)) (hk43 : ∀ (x0 : Nat) (x1 : Int32) (x2 : Int32) (x3 : Int32) (x4 : Int32) (x5 : Int64) (x7 : Int64) (x9 : Int32) (S : Sx), OkF wI (fun f => rk px kx f (d + 6) 227 43 [some (.ref x0), some (.int x1), some (.int x2), some (.int x3), some (.int x4), some (.long x5), none, some (.long x7), none, some (.int x9), none, none, none] [] S) (k43 x0 x1 x2 x3 x4 x5 x7 x9 S)) : ∀ (n : Nat) (x0 : Nat) (x1 : Int32) (x2 : Int32) (x3 : Int32) (x4 : Int32) (x5 : Int64) (x7 : Int64) (x9 : Int32) (x10 : Int64) (x12 : Int32) (S : Sx), OkF wI (fun f => rk px kx f (d + 6) 227 70 [some (.ref x0), some (.int x1), some (.int x2), some (.int x3), some (.int x4), some (.long x5), none, some (.long x7), none, some (.int x9), some (.long x10), none, some (.int x12)] [] S) (l227_70 k43 n x0 x1 x2 x3 x4 x5 x7 x9 x10 x12 S) := by
  intro n
  induction n with
  | zero => intro x0 x1 x2 x3 x4 x5 x7 x9 x10 x12 S; exact OkF.no
  | succ n ih => intro x0 x1 x2 x3 x4 x5 x7 x9 x10 x12 S; exact ob227_70 d k43 hk43 (l227_70 k43 n) ih x0 x1 x2 x3 x4 x5 x7 x9 x10 x12 S
def b227_43 (k43 : Nat → Int32 → Int32 → Int32 → Int32 → Int64 → Int64 → Int32 → Sx → Option (Int32 × Sx)) (x0 : Nat) (x1 : Int32) (x2 : Int32) (x3 : Int32) (x4 : Int32) (x5 : Int64) (x7 : Int64) (x9 : Int32) (S : Sx) : Option (Int32 × Sx) :=
  if oc S x0 12 = true then if ((1 : Int32) <<< ((S.2.1 x0 4) &&& 31)) ≤ x9 then if oc S x0 12 = true then (m228 x0 x5 x7 S).bind fun q4 => some (q4.1, q4.2) else none else if (x9 &&& (x4 ^^^ (-1 : Int32))) = 0 then l227_70 k43 1000 x0 x1 x2 x3 x4 x5 x7 x9 (1 : Int64) (0 : Int32) S else b227_162 k43 x0 x1 x2 x3 x4 x5 x7 x9 S else none
set_option maxRecDepth 100000 in
theorem ob227_43 (d : Nat) (k43 : Nat → Int32 → Int32 → Int32 → Int32 → Int64 → Int64 → Int32 → Sx → Option (Int32 × Sx)) (hk43 : ∀ (x0 : Nat) (x1 : Int32) (x2 : Int32) (x3 : Int32) (x4 : Int32) (x5 : Int64) (x7 : Int64) (x9 : Int32) (S : Sx), OkF wI (fun f => rk px kx f (d + 6) 227 43 [some (.ref x0), some (.int x1), some (.int x2), some (.int x3), some (.int x4), some (.long x5), none, some (.long x7), none, some (.int x9), none, none, none] [] S) (k43 x0 x1 x2 x3 x4 x5 x7 x9 S)) (x0 : Nat) (x1 : Int32) (x2 : Int32) (x3 : Int32) (x4 : Int32) (x5 : Int64) (x7 : Int64) (x9 : Int32) (S : Sx) : OkF wI (fun f => rk px kx f (d + 6) 227 43 [some (.ref x0), some (.int x1), some (.int x2), some (.int x3), some (.int x4), some (.long x5), none, some (.long x7), none, some (.int x9), none, none, none] [] S) (b227_43 k43 x0 x1 x2 x3 x4 x5 x7 x9 S) := by
  unfold b227_43
  refine OkF.eq 4 (Y := fun f => if oc S x0 12 = true then rk px kx f (d + 6) 227 50 [some (.ref x0), some (.int x1), some (.int x2), some (.int x3), some (.int x4), some (.long x5), none, some (.long x7), none, some (.int x9), none, none, none] [.int (S.2.1 x0 4), .int (1 : Int32), .int x9] S else none) (fun f => rfl) ?_
  refine OkF.grd (fun _ => ?_)
  refine OkF.eq 2 (Y := fun f => if ((1 : Int32) <<< ((S.2.1 x0 4) &&& 31)) ≤ x9 then rk px kx f (d + 6) 227 168 [some (.ref x0), some (.int x1), some (.int x2), some (.int x3), some (.int x4), some (.long x5), none, some (.long x7), none, some (.int x9), none, none, none] [] S else rk px kx f (d + 6) 227 54 [some (.ref x0), some (.int x1), some (.int x2), some (.int x3), some (.int x4), some (.long x5), none, some (.long x7), none, some (.int x9), none, none, none] [] S) (fun f => rfl) ?_
  refine OkF.ite (fun _ => ?_) (fun _ => ?_)
  · refine OkF.eq 4 (Y := fun f => if oc S x0 12 = true then (rk px kx f (d + 5) 228 0 [some (.ref x0), some (.long x5), none, some (.long x7), none, none, none, none, none, none, none] [] S).bind (fun q => rk px kx f (d + 6) 227 176 [some (.ref x0), some (.int x1), some (.int x2), some (.int x3), some (.int x4), some (.long x5), none, some (.long x7), none, some (.int x9), none, none, none] (q.1.toList ++ []) q.2) else none) (fun f => rfl) ?_
    refine OkF.grd (fun _ => ?_)
    refine OkF.bind (w1 := wI) (om228 (d + 5) x0 x5 x7 S) (fun q4 => ?_)
    exact OkF.ret 1 (fun f => rfl)
  · refine OkF.eq 6 (Y := fun f => if (x9 &&& (x4 ^^^ (-1 : Int32))) = 0 then rk px kx f (d + 6) 227 64 [some (.ref x0), some (.int x1), some (.int x2), some (.int x3), some (.int x4), some (.long x5), none, some (.long x7), none, some (.int x9), none, none, none] [] S else rk px kx f (d + 6) 227 162 [some (.ref x0), some (.int x1), some (.int x2), some (.int x3), some (.int x4), some (.long x5), none, some (.long x7), none, some (.int x9), none, none, none] [] S) (fun f => rfl) ?_
    refine OkF.ite (fun _ => ?_) (fun _ => ?_)
    · refine OkF.eq 4 (Y := fun f => rk px kx f (d + 6) 227 70 [some (.ref x0), some (.int x1), some (.int x2), some (.int x3), some (.int x4), some (.long x5), none, some (.long x7), none, some (.int x9), some (.long (1 : Int64)), none, some (.int (0 : Int32))] [] S) (fun f => rfl) ?_
      exact OkF.kl (ls1 := [some (.ref x0), some (.int x1), some (.int x2), some (.int x3), some (.int x4), some (.long x5), none, some (.long x7), none, some (.int x9), some (.long (1 : Int64)), none, some (.int (0 : Int32))]) (fun f => rfl) (ol227_70 d k43 hk43 1000 x0 x1 x2 x3 x4 x5 x7 x9 (1 : Int64) (0 : Int32) S)
    · exact OkF.kl (ls1 := [some (.ref x0), some (.int x1), some (.int x2), some (.int x3), some (.int x4), some (.long x5), none, some (.long x7), none, some (.int x9), none, none, none]) (fun f => rfl) (ob227_162 d k43 hk43 x0 x1 x2 x3 x4 x5 x7 x9 S)
def l227_43 : Nat → Nat → Int32 → Int32 → Int32 → Int32 → Int64 → Int64 → Int32 → Sx → Option (Int32 × Sx)
  | 0 => fun _ _ _ _ _ _ _ _ _ => none
  | n + 1 => fun x0 x1 x2 x3 x4 x5 x7 x9 S => b227_43 (l227_43 n) x0 x1 x2 x3 x4 x5 x7 x9 S
set_option maxRecDepth 100000 in
theorem ol227_43 (d : Nat) : ∀ (n : Nat) (x0 : Nat) (x1 : Int32) (x2 : Int32) (x3 : Int32) (x4 : Int32) (x5 : Int64) (x7 : Int64) (x9 : Int32) (S : Sx), OkF wI (fun f => rk px kx f (d + 6) 227 43 [some (.ref x0), some (.int x1), some (.int x2), some (.int x3), some (.int x4), some (.long x5), none, some (.long x7), none, some (.int x9), none, none, none] [] S) (l227_43 n x0 x1 x2 x3 x4 x5 x7 x9 S) := by
  intro n
  induction n with
  | zero => intro x0 x1 x2 x3 x4 x5 x7 x9 S; exact OkF.no
  | succ n ih => intro x0 x1 x2 x3 x4 x5 x7 x9 S; exact ob227_43 d (l227_43 n) ih x0 x1 x2 x3 x4 x5 x7 x9 S
def b227_21 (k21 : Nat → Int32 → Int32 → Int32 → Int32 → Int64 → Int64 → Int32 → Sx → Option (Int32 × Sx)) (x0 : Nat) (x1 : Int32) (x2 : Int32) (x3 : Int32) (x4 : Int32) (x5 : Int64) (x7 : Int64) (x9 : Int32) (S : Sx) : Option (Int32 × Sx) :=
  if x9 ≤ 0 then l227_43 1000 x0 x1 x2 x3 x4 x5 x7 (0 : Int32) S else k21 x0 x1 x2 x3 x4 x5 (x7 * (12 : Int64)) (x9 + (-1 : Int32)) S
set_option maxRecDepth 100000 in
theorem ob227_21 (d : Nat) (k21 : Nat → Int32 → Int32 → Int32 → Int32 → Int64 → Int64 → Int32 → Sx → Option (Int32 × Sx)) (hk21 : ∀ (x0 : Nat) (x1 : Int32) (x2 : Int32) (x3 : Int32) (x4 : Int32) (x5 : Int64) (x7 : Int64) (x9 : Int32) (S : Sx), OkF wI (fun f => rk px kx f (d + 6) 227 21 [some (.ref x0), some (.int x1), some (.int x2), some (.int x3), some (.int x4), some (.long x5), none, some (.long x7), none, some (.int x9), none, none, none] [] S) (k21 x0 x1 x2 x3 x4 x5 x7 x9 S)) (x0 : Nat) (x1 : Int32) (x2 : Int32) (x3 : Int32) (x4 : Int32) (x5 : Int64) (x7 : Int64) (x9 : Int32) (S : Sx) : OkF wI (fun f => rk px kx f (d + 6) 227 21 [some (.ref x0), some (.int x1), some (.int x2), some (.int x3), some (.int x4), some (.long x5), none, some (.long x7), none, some (.int x9), none, none, none] [] S) (b227_21 k21 x0 x1 x2 x3 x4 x5 x7 x9 S) := by
  unfold b227_21
  refine OkF.eq 2 (Y := fun f => if x9 ≤ 0 then rk px kx f (d + 6) 227 40 [some (.ref x0), some (.int x1), some (.int x2), some (.int x3), some (.int x4), some (.long x5), none, some (.long x7), none, some (.int x9), none, none, none] [] S else rk px kx f (d + 6) 227 26 [some (.ref x0), some (.int x1), some (.int x2), some (.int x3), some (.int x4), some (.long x5), none, some (.long x7), none, some (.int x9), none, none, none] [] S) (fun f => rfl) ?_
  refine OkF.ite (fun _ => ?_) (fun _ => ?_)
  · refine OkF.eq 2 (Y := fun f => rk px kx f (d + 6) 227 43 [some (.ref x0), some (.int x1), some (.int x2), some (.int x3), some (.int x4), some (.long x5), none, some (.long x7), none, some (.int (0 : Int32)), none, none, none] [] S) (fun f => rfl) ?_
    exact OkF.kl (ls1 := [some (.ref x0), some (.int x1), some (.int x2), some (.int x3), some (.int x4), some (.long x5), none, some (.long x7), none, some (.int (0 : Int32)), none, none, none]) (fun f => rfl) (ol227_43 d 1000 x0 x1 x2 x3 x4 x5 x7 (0 : Int32) S)
  · refine OkF.eq 4 (Y := fun f => rk px kx f (d + 6) 227 34 [some (.ref x0), some (.int x1), some (.int x2), some (.int x3), some (.int x4), some (.long x5), none, some (.long (x7 * (12 : Int64))), none, some (.int x9), none, none, none] [] S) (fun f => rfl) ?_
    refine OkF.eq 1 (Y := fun f => rk px kx f (d + 6) 227 37 [some (.ref x0), some (.int x1), some (.int x2), some (.int x3), some (.int x4), some (.long x5), none, some (.long (x7 * (12 : Int64))), none, some (.int (x9 + (-1 : Int32))), none, none, none] [] S) (fun f => Eq.trans (b := stp px (rk px kx f) (d + 6) 227 (34, .iinc 9 (-1), 37, 9, (-1), 0, []) [some (.ref x0), some (.int x1), some (.int x2), some (.int x3), some (.int x4), some (.long x5), none, some (.long (x7 * (12 : Int64))), none, some (.int x9), none, none, none] [] S) rfl rfl) ?_
    refine OkF.eq 1 (Y := fun f => rk px kx f (d + 6) 227 21 [some (.ref x0), some (.int x1), some (.int x2), some (.int x3), some (.int x4), some (.long x5), none, some (.long (x7 * (12 : Int64))), none, some (.int (x9 + (-1 : Int32))), none, none, none] [] S) (fun f => rfl) ?_
    exact OkF.kl (ls1 := [some (.ref x0), some (.int x1), some (.int x2), some (.int x3), some (.int x4), some (.long x5), none, some (.long (x7 * (12 : Int64))), none, some (.int (x9 + (-1 : Int32))), none, none, none]) (fun f => rfl) (hk21 x0 x1 x2 x3 x4 x5 (x7 * (12 : Int64)) (x9 + (-1 : Int32)) S)
def l227_21 : Nat → Nat → Int32 → Int32 → Int32 → Int32 → Int64 → Int64 → Int32 → Sx → Option (Int32 × Sx)
  | 0 => fun _ _ _ _ _ _ _ _ _ => none
  | n + 1 => fun x0 x1 x2 x3 x4 x5 x7 x9 S => b227_21 (l227_21 n) x0 x1 x2 x3 x4 x5 x7 x9 S
set_option maxRecDepth 100000 in
theorem ol227_21 (d : Nat) : ∀ (n : Nat) (x0 : Nat) (x1 : Int32) (x2 : Int32) (x3 : Int32) (x4 : Int32) (x5 : Int64) (x7 : Int64) (x9 : Int32) (S : Sx), OkF wI (fun f => rk px kx f (d + 6) 227 21 [some (.ref x0), some (.int x1), some (.int x2), some (.int x3), some (.int x4), some (.long x5), none, some (.long x7), none, some (.int x9), none, none, none] [] S) (l227_21 n x0 x1 x2 x3 x4 x5 x7 x9 S) := by
  intro n
  induction n with
  | zero => intro x0 x1 x2 x3 x4 x5 x7 x9 S; exact OkF.no
  | succ n ih => intro x0 x1 x2 x3 x4 x5 x7 x9 S; exact ob227_21 d (l227_21 n) ih x0 x1 x2 x3 x4 x5 x7 x9 S
def m227 (x0 : Nat) (x1 : Int32) (x2 : Int32) (x3 : Int32) (S : Sx) : Option (Int32 × Sx) :=
  if oc S x0 12 = true then (S.2.2.2.1 x0 8).bind fun a5 => if inb (3 : Int32) (al S a5) = true then (m210 (S.2.1 a5 (3 : Int32).toNatClampNeg) S).bind fun q6 => l227_21 1000 x0 x1 x2 x3 (S.2.1 a5 (3 : Int32).toNatClampNeg) (0 : Int64) (1 : Int64) q6.1 q6.2 else none else none
set_option maxRecDepth 100000 in
theorem om227 (d : Nat) (x0 : Nat) (x1 : Int32) (x2 : Int32) (x3 : Int32) (S : Sx) : OkF wI (fun f => rk px kx f (d + 6) 227 0 [some (.ref x0), some (.int x1), some (.int x2), some (.int x3), none, none, none, none, none, none, none, none, none] [] S) (m227 x0 x1 x2 x3 S) := by
  unfold m227
  refine OkF.eq 2 (Y := fun f => if oc S x0 12 = true then rk px kx f (d + 6) 227 4 [some (.ref x0), some (.int x1), some (.int x2), some (.int x3), none, none, none, none, none, none, none, none, none] (va_rf (S.2.2.2.1 x0 8) :: []) S else none) (fun f => rfl) ?_
  refine OkF.grd (fun _ => ?_)
  refine OkF.rf (fun a5 => ?_)
  refine OkF.eq 2 (Y := fun f => if inb (3 : Int32) (al S a5) = true then rk px kx f (d + 6) 227 6 [some (.ref x0), some (.int x1), some (.int x2), some (.int x3), none, none, none, none, none, none, none, none, none] [.int (S.2.1 a5 (3 : Int32).toNatClampNeg)] S else none) (fun f => rfl) ?_
  refine OkF.grd (fun _ => ?_)
  refine OkF.eq 7 (Y := fun f => (rk px kx f (d + 5) 210 0 [some (.int (S.2.1 a5 (3 : Int32).toNatClampNeg)), none, none] [] S).bind (fun q => rk px kx f (d + 6) 227 19 [some (.ref x0), some (.int x1), some (.int x2), some (.int x3), some (.int (S.2.1 a5 (3 : Int32).toNatClampNeg)), some (.long (0 : Int64)), none, some (.long (1 : Int64)), none, none, none, none, none] (q.1.toList ++ []) q.2)) (fun f => rfl) ?_
  refine OkF.bind (w1 := wI) (om210 (d + 5) (S.2.1 a5 (3 : Int32).toNatClampNeg) S) (fun q6 => ?_)
  refine OkF.eq 1 (Y := fun f => rk px kx f (d + 6) 227 21 [some (.ref x0), some (.int x1), some (.int x2), some (.int x3), some (.int (S.2.1 a5 (3 : Int32).toNatClampNeg)), some (.long (0 : Int64)), none, some (.long (1 : Int64)), none, some (.int q6.1), none, none, none] [] q6.2) (fun f => rfl) ?_
  exact OkF.kl (ls1 := [some (.ref x0), some (.int x1), some (.int x2), some (.int x3), some (.int (S.2.1 a5 (3 : Int32).toNatClampNeg)), some (.long (0 : Int64)), none, some (.long (1 : Int64)), none, some (.int q6.1), none, none, none]) (fun f => rfl) (ol227_21 d 1000 x0 x1 x2 x3 (S.2.1 a5 (3 : Int32).toNatClampNeg) (0 : Int64) (1 : Int64) q6.1 q6.2)
-- DoorSoldModel.odds(III)I
def m226 (x0 : Nat) (x1 : Int32) (x2 : Int32) (x3 : Int32) (S : Sx) : Option (Int32 × Sx) :=
  if oc S x0 12 = true then (m208 x0 x1 S).bind fun q1 => if q1.1 = 0 then some ((-1 : Int32), q1.2) else (m150 x2.toInt64 (0 : Int64) (30 : Int64) q1.2).bind fun q2 => if q2.1 = 0 then some ((-1 : Int32), q2.2) else (m150 x3.toInt64 (0 : Int64) (12 : Int64) q2.2).bind fun q3 => if q3.1 = 0 then some ((-1 : Int32), q3.2) else if oc q3.2 x0 12 = true then (m227 x0 x1 x2 x3 q3.2).bind fun q4 => some (q4.1, q4.2) else none else none
set_option maxRecDepth 100000 in
theorem om226 (d : Nat) (x0 : Nat) (x1 : Int32) (x2 : Int32) (x3 : Int32) (S : Sx) : OkF wI (fun f => rk px kx f (d + 7) 226 0 [some (.ref x0), some (.int x1), some (.int x2), some (.int x3)] [] S) (m226 x0 x1 x2 x3 S) := by
  unfold m226
  refine OkF.eq 3 (Y := fun f => if oc S x0 12 = true then (rk px kx f (d + 6) 208 0 [some (.ref x0), some (.int x1)] [] S).bind (fun q => rk px kx f (d + 7) 226 5 [some (.ref x0), some (.int x1), some (.int x2), some (.int x3)] (q.1.toList ++ []) q.2) else none) (fun f => rfl) ?_
  refine OkF.grd (fun _ => ?_)
  refine OkF.bind (w1 := wI) (om208 (d + 5) x0 x1 S) (fun q1 => ?_)
  refine OkF.eq 1 (Y := fun f => if q1.1 = 0 then rk px kx f (d + 7) 226 42 [some (.ref x0), some (.int x1), some (.int x2), some (.int x3)] [] q1.2 else rk px kx f (d + 7) 226 8 [some (.ref x0), some (.int x1), some (.int x2), some (.int x3)] [] q1.2) (fun f => rfl) ?_
  refine OkF.ite (fun _ => ?_) (fun _ => ?_)
  · exact OkF.ret 2 (fun f => rfl)
  · refine OkF.eq 5 (Y := fun f => (rk px kx f (d + 6) 150 0 [some (.long x2.toInt64), none, some (.long (0 : Int64)), none, some (.long (30 : Int64)), none] [] q1.2).bind (fun q => rk px kx f (d + 7) 226 17 [some (.ref x0), some (.int x1), some (.int x2), some (.int x3)] (q.1.toList ++ []) q.2)) (fun f => rfl) ?_
    refine OkF.bind (w1 := wI) (om150 (d + 6) x2.toInt64 (0 : Int64) (30 : Int64) q1.2) (fun q2 => ?_)
    refine OkF.eq 1 (Y := fun f => if q2.1 = 0 then rk px kx f (d + 7) 226 42 [some (.ref x0), some (.int x1), some (.int x2), some (.int x3)] [] q2.2 else rk px kx f (d + 7) 226 20 [some (.ref x0), some (.int x1), some (.int x2), some (.int x3)] [] q2.2) (fun f => rfl) ?_
    refine OkF.ite (fun _ => ?_) (fun _ => ?_)
    · exact OkF.ret 2 (fun f => rfl)
    · refine OkF.eq 5 (Y := fun f => (rk px kx f (d + 6) 150 0 [some (.long x3.toInt64), none, some (.long (0 : Int64)), none, some (.long (12 : Int64)), none] [] q2.2).bind (fun q => rk px kx f (d + 7) 226 29 [some (.ref x0), some (.int x1), some (.int x2), some (.int x3)] (q.1.toList ++ []) q.2)) (fun f => rfl) ?_
      refine OkF.bind (w1 := wI) (om150 (d + 6) x3.toInt64 (0 : Int64) (12 : Int64) q2.2) (fun q3 => ?_)
      refine OkF.eq 1 (Y := fun f => if q3.1 = 0 then rk px kx f (d + 7) 226 42 [some (.ref x0), some (.int x1), some (.int x2), some (.int x3)] [] q3.2 else rk px kx f (d + 7) 226 32 [some (.ref x0), some (.int x1), some (.int x2), some (.int x3)] [] q3.2) (fun f => rfl) ?_
      refine OkF.ite (fun _ => ?_) (fun _ => ?_)
      · exact OkF.ret 2 (fun f => rfl)
      · refine OkF.eq 5 (Y := fun f => if oc q3.2 x0 12 = true then (rk px kx f (d + 6) 227 0 [some (.ref x0), some (.int x1), some (.int x2), some (.int x3), none, none, none, none, none, none, none, none, none] [] q3.2).bind (fun q => rk px kx f (d + 7) 226 39 [some (.ref x0), some (.int x1), some (.int x2), some (.int x3)] (q.1.toList ++ []) q.2) else none) (fun f => rfl) ?_
        refine OkF.grd (fun _ => ?_)
        refine OkF.bind (w1 := wI) (om227 (d + 0) x0 x1 x2 x3 q3.2) (fun q4 => ?_)
        exact OkF.ret 2 (fun f => rfl)
-- DoorSoldModel.mid(II)I
def m229 (x0 : Nat) (x1 : Int32) (x2 : Int32) (S : Sx) : Option (Int32 × Sx) :=
  if oc S x0 12 = true then (m208 x0 x1 S).bind fun q1 => if q1.1 = 0 then some ((-1 : Int32), q1.2) else (m150 x2.toInt64 (0 : Int64) (12 : Int64) q1.2).bind fun q2 => if q2.1 = 0 then some ((-1 : Int32), q2.2) else if oc q2.2 x0 12 = true then (m227 x0 x1 (-1 : Int32) x2 q2.2).bind fun q3 => some (q3.1, q3.2) else none else none
set_option maxRecDepth 100000 in
theorem om229 (d : Nat) (x0 : Nat) (x1 : Int32) (x2 : Int32) (S : Sx) : OkF wI (fun f => rk px kx f (d + 7) 229 0 [some (.ref x0), some (.int x1), some (.int x2)] [] S) (m229 x0 x1 x2 S) := by
  unfold m229
  refine OkF.eq 3 (Y := fun f => if oc S x0 12 = true then (rk px kx f (d + 6) 208 0 [some (.ref x0), some (.int x1)] [] S).bind (fun q => rk px kx f (d + 7) 229 5 [some (.ref x0), some (.int x1), some (.int x2)] (q.1.toList ++ []) q.2) else none) (fun f => rfl) ?_
  refine OkF.grd (fun _ => ?_)
  refine OkF.bind (w1 := wI) (om208 (d + 5) x0 x1 S) (fun q1 => ?_)
  refine OkF.eq 1 (Y := fun f => if q1.1 = 0 then rk px kx f (d + 7) 229 30 [some (.ref x0), some (.int x1), some (.int x2)] [] q1.2 else rk px kx f (d + 7) 229 8 [some (.ref x0), some (.int x1), some (.int x2)] [] q1.2) (fun f => rfl) ?_
  refine OkF.ite (fun _ => ?_) (fun _ => ?_)
  · exact OkF.ret 2 (fun f => rfl)
  · refine OkF.eq 5 (Y := fun f => (rk px kx f (d + 6) 150 0 [some (.long x2.toInt64), none, some (.long (0 : Int64)), none, some (.long (12 : Int64)), none] [] q1.2).bind (fun q => rk px kx f (d + 7) 229 17 [some (.ref x0), some (.int x1), some (.int x2)] (q.1.toList ++ []) q.2)) (fun f => rfl) ?_
    refine OkF.bind (w1 := wI) (om150 (d + 6) x2.toInt64 (0 : Int64) (12 : Int64) q1.2) (fun q2 => ?_)
    refine OkF.eq 1 (Y := fun f => if q2.1 = 0 then rk px kx f (d + 7) 229 30 [some (.ref x0), some (.int x1), some (.int x2)] [] q2.2 else rk px kx f (d + 7) 229 20 [some (.ref x0), some (.int x1), some (.int x2)] [] q2.2) (fun f => rfl) ?_
    refine OkF.ite (fun _ => ?_) (fun _ => ?_)
    · exact OkF.ret 2 (fun f => rfl)
    · refine OkF.eq 5 (Y := fun f => if oc q2.2 x0 12 = true then (rk px kx f (d + 6) 227 0 [some (.ref x0), some (.int x1), some (.int (-1 : Int32)), some (.int x2), none, none, none, none, none, none, none, none, none] [] q2.2).bind (fun q => rk px kx f (d + 7) 229 27 [some (.ref x0), some (.int x1), some (.int x2)] (q.1.toList ++ []) q.2) else none) (fun f => rfl) ?_
      refine OkF.grd (fun _ => ?_)
      refine OkF.bind (w1 := wI) (om227 (d + 0) x0 x1 (-1 : Int32) x2 q2.2) (fun q3 => ?_)
      exact OkF.ret 2 (fun f => rfl)
-- DoorSoldModel.lots(II)I
def b230_125 (k56 : Nat → Int32 → Int64 → Int32 → Sx → Option (Int32 × Sx)) (x0 : Nat) (x1 : Int32) (x3 : Int64) (x5 : Int32) (S : Sx) : Option (Int32 × Sx) :=
  k56 x0 x1 x3 (x5 + (1 : Int32)) S
set_option maxRecDepth 100000 in
theorem ob230_125 (d : Nat) (k56 : Nat → Int32 → Int64 → Int32 → Sx → Option (Int32 × Sx)) (hk56 : ∀ (x0 : Nat) (x1 : Int32) (x3 : Int64) (x5 : Int32) (S : Sx), OkF wI (fun f => rk px kx f (d + 4) 230 56 [some (.ref x0), some (.int x1), none, some (.long x3), none, some (.int x5), none] [] S) (k56 x0 x1 x3 x5 S)) (x0 : Nat) (x1 : Int32) (x3 : Int64) (x5 : Int32) (S : Sx) : OkF wI (fun f => rk px kx f (d + 4) 230 125 [some (.ref x0), some (.int x1), none, some (.long x3), none, some (.int x5), none] [] S) (b230_125 k56 x0 x1 x3 x5 S) := by
  unfold b230_125
  refine OkF.eq 2 (Y := fun f => rk px kx f (d + 4) 230 56 [some (.ref x0), some (.int x1), none, some (.long x3), none, some (.int (x5 + (1 : Int32))), none] [] S) (fun f => rfl) ?_
  exact OkF.kl (ls1 := [some (.ref x0), some (.int x1), none, some (.long x3), none, some (.int (x5 + (1 : Int32))), none]) (fun f => rfl) (hk56 x0 x1 x3 (x5 + (1 : Int32)) S)
def b230_56 (k56 : Nat → Int32 → Int64 → Int32 → Sx → Option (Int32 × Sx)) (x0 : Nat) (x1 : Int32) (x3 : Int64) (x5 : Int32) (S : Sx) : Option (Int32 × Sx) :=
  if x1 ≤ x5 then if oc S x0 12 = true then (S.2.2.2.1 x0 8).bind fun a1 => if inb (0 : Int32) (al S a1) = true then some (S.2.1 a1 (0 : Int32).toNatClampNeg, S) else none else none else if (2147483647 : Int64) = 0 then none else if (8 : Int64) = 0 then none else if oc S x0 12 = true then if ((S.2.1 x0 4).toInt64) = 0 then none else if oc S x0 12 = true then (m195 x0 ((((((48271 : Int64) * x3) - ((48271 : Int64) * x3) / (2147483647 : Int64) * (2147483647 : Int64)) / (8 : Int64)) - ((((48271 : Int64) * x3) - ((48271 : Int64) * x3) / (2147483647 : Int64) * (2147483647 : Int64)) / (8 : Int64)) / ((S.2.1 x0 4).toInt64) * ((S.2.1 x0 4).toInt64)).toInt32) S).bind fun q2 => if q2.1 = 0 then if (3 : Int64) = 0 then none else if (lg_cmp ((((48271 : Int64) * x3) - ((48271 : Int64) * x3) / (2147483647 : Int64) * (2147483647 : Int64)) - (((48271 : Int64) * x3) - ((48271 : Int64) * x3) / (2147483647 : Int64) * (2147483647 : Int64)) / (3 : Int64) * (3 : Int64)) (0 : Int64)) = 0 then if oc q2.2 x0 12 = true then (m189 x0 q2.2).bind fun q3 => b230_125 k56 x0 x1 (((48271 : Int64) * x3) - ((48271 : Int64) * x3) / (2147483647 : Int64) * (2147483647 : Int64)) x5 q3 else none else if oc q2.2 x0 12 = true then (m193 x0 q2.2).bind fun q4 => b230_125 k56 x0 x1 (((48271 : Int64) * x3) - ((48271 : Int64) * x3) / (2147483647 : Int64) * (2147483647 : Int64)) x5 q4 else none else if oc q2.2 x0 12 = true then (m196 x0 ((((((48271 : Int64) * x3) - ((48271 : Int64) * x3) / (2147483647 : Int64) * (2147483647 : Int64)) / (8 : Int64)) - ((((48271 : Int64) * x3) - ((48271 : Int64) * x3) / (2147483647 : Int64) * (2147483647 : Int64)) / (8 : Int64)) / ((S.2.1 x0 4).toInt64) * ((S.2.1 x0 4).toInt64)).toInt32) q2.2).bind fun q5 => b230_125 k56 x0 x1 (((48271 : Int64) * x3) - ((48271 : Int64) * x3) / (2147483647 : Int64) * (2147483647 : Int64)) x5 q5 else none else none else none
set_option maxRecDepth 100000 in
theorem ob230_56 (d : Nat) (k56 : Nat → Int32 → Int64 → Int32 → Sx → Option (Int32 × Sx)) (hk56 : ∀ (x0 : Nat) (x1 : Int32) (x3 : Int64) (x5 : Int32) (S : Sx), OkF wI (fun f => rk px kx f (d + 4) 230 56 [some (.ref x0), some (.int x1), none, some (.long x3), none, some (.int x5), none] [] S) (k56 x0 x1 x3 x5 S)) (x0 : Nat) (x1 : Int32) (x3 : Int64) (x5 : Int32) (S : Sx) : OkF wI (fun f => rk px kx f (d + 4) 230 56 [some (.ref x0), some (.int x1), none, some (.long x3), none, some (.int x5), none] [] S) (b230_56 k56 x0 x1 x3 x5 S) := by
  unfold b230_56
  refine OkF.eq 3 (Y := fun f => if x1 ≤ x5 then rk px kx f (d + 4) 230 131 [some (.ref x0), some (.int x1), none, some (.long x3), none, some (.int x5), none] [] S else rk px kx f (d + 4) 230 62 [some (.ref x0), some (.int x1), none, some (.long x3), none, some (.int x5), none] [] S) (fun f => rfl) ?_
  refine OkF.ite (fun _ => ?_) (fun _ => ?_)
  · refine OkF.eq 2 (Y := fun f => if oc S x0 12 = true then rk px kx f (d + 4) 230 135 [some (.ref x0), some (.int x1), none, some (.long x3), none, some (.int x5), none] (va_rf (S.2.2.2.1 x0 8) :: []) S else none) (fun f => rfl) ?_
    refine OkF.grd (fun _ => ?_)
    refine OkF.rf (fun a1 => ?_)
    refine OkF.eq 2 (Y := fun f => if inb (0 : Int32) (al S a1) = true then rk px kx f (d + 4) 230 137 [some (.ref x0), some (.int x1), none, some (.long x3), none, some (.int x5), none] [.int (S.2.1 a1 (0 : Int32).toNatClampNeg)] S else none) (fun f => rfl) ?_
    refine OkF.grd (fun _ => ?_)
    exact OkF.ret 1 (fun f => rfl)
  · refine OkF.eq 5 (Y := fun f => if (2147483647 : Int64) = 0 then none else rk px kx f (d + 4) 230 71 [some (.ref x0), some (.int x1), none, some (.long x3), none, some (.int x5), none] [.long (((48271 : Int64) * x3) - ((48271 : Int64) * x3) / (2147483647 : Int64) * (2147483647 : Int64))] S) (fun f => rfl) ?_
    refine OkF.ngr (fun _ => ?_)
    refine OkF.eq 4 (Y := fun f => if (8 : Int64) = 0 then none else rk px kx f (d + 4) 230 77 [some (.ref x0), some (.int x1), none, some (.long (((48271 : Int64) * x3) - ((48271 : Int64) * x3) / (2147483647 : Int64) * (2147483647 : Int64))), none, some (.int x5), none] [.long ((((48271 : Int64) * x3) - ((48271 : Int64) * x3) / (2147483647 : Int64) * (2147483647 : Int64)) / (8 : Int64))] S) (fun f => rfl) ?_
    refine OkF.ngr (fun _ => ?_)
    refine OkF.eq 2 (Y := fun f => if oc S x0 12 = true then rk px kx f (d + 4) 230 81 [some (.ref x0), some (.int x1), none, some (.long (((48271 : Int64) * x3) - ((48271 : Int64) * x3) / (2147483647 : Int64) * (2147483647 : Int64))), none, some (.int x5), none] [.int (S.2.1 x0 4), .long ((((48271 : Int64) * x3) - ((48271 : Int64) * x3) / (2147483647 : Int64) * (2147483647 : Int64)) / (8 : Int64))] S else none) (fun f => rfl) ?_
    refine OkF.grd (fun _ => ?_)
    refine OkF.eq 2 (Y := fun f => if ((S.2.1 x0 4).toInt64) = 0 then none else rk px kx f (d + 4) 230 83 [some (.ref x0), some (.int x1), none, some (.long (((48271 : Int64) * x3) - ((48271 : Int64) * x3) / (2147483647 : Int64) * (2147483647 : Int64))), none, some (.int x5), none] [.long (((((48271 : Int64) * x3) - ((48271 : Int64) * x3) / (2147483647 : Int64) * (2147483647 : Int64)) / (8 : Int64)) - ((((48271 : Int64) * x3) - ((48271 : Int64) * x3) / (2147483647 : Int64) * (2147483647 : Int64)) / (8 : Int64)) / ((S.2.1 x0 4).toInt64) * ((S.2.1 x0 4).toInt64))] S) (fun f => rfl) ?_
    refine OkF.ngr (fun _ => ?_)
    refine OkF.eq 5 (Y := fun f => if oc S x0 12 = true then (rk px kx f (d + 3) 195 0 [some (.ref x0), some (.int ((((((48271 : Int64) * x3) - ((48271 : Int64) * x3) / (2147483647 : Int64) * (2147483647 : Int64)) / (8 : Int64)) - ((((48271 : Int64) * x3) - ((48271 : Int64) * x3) / (2147483647 : Int64) * (2147483647 : Int64)) / (8 : Int64)) / ((S.2.1 x0 4).toInt64) * ((S.2.1 x0 4).toInt64)).toInt32))] [] S).bind (fun q => rk px kx f (d + 4) 230 92 [some (.ref x0), some (.int x1), none, some (.long (((48271 : Int64) * x3) - ((48271 : Int64) * x3) / (2147483647 : Int64) * (2147483647 : Int64))), none, some (.int x5), some (.int ((((((48271 : Int64) * x3) - ((48271 : Int64) * x3) / (2147483647 : Int64) * (2147483647 : Int64)) / (8 : Int64)) - ((((48271 : Int64) * x3) - ((48271 : Int64) * x3) / (2147483647 : Int64) * (2147483647 : Int64)) / (8 : Int64)) / ((S.2.1 x0 4).toInt64) * ((S.2.1 x0 4).toInt64)).toInt32))] (q.1.toList ++ []) q.2) else none) (fun f => rfl) ?_
    refine OkF.grd (fun _ => ?_)
    refine OkF.bind (w1 := wI) (om195 (d + 0) x0 ((((((48271 : Int64) * x3) - ((48271 : Int64) * x3) / (2147483647 : Int64) * (2147483647 : Int64)) / (8 : Int64)) - ((((48271 : Int64) * x3) - ((48271 : Int64) * x3) / (2147483647 : Int64) * (2147483647 : Int64)) / (8 : Int64)) / ((S.2.1 x0 4).toInt64) * ((S.2.1 x0 4).toInt64)).toInt32) S) (fun q2 => ?_)
    refine OkF.eq 1 (Y := fun f => if q2.1 = 0 then rk px kx f (d + 4) 230 104 [some (.ref x0), some (.int x1), none, some (.long (((48271 : Int64) * x3) - ((48271 : Int64) * x3) / (2147483647 : Int64) * (2147483647 : Int64))), none, some (.int x5), some (.int ((((((48271 : Int64) * x3) - ((48271 : Int64) * x3) / (2147483647 : Int64) * (2147483647 : Int64)) / (8 : Int64)) - ((((48271 : Int64) * x3) - ((48271 : Int64) * x3) / (2147483647 : Int64) * (2147483647 : Int64)) / (8 : Int64)) / ((S.2.1 x0 4).toInt64) * ((S.2.1 x0 4).toInt64)).toInt32))] [] q2.2 else rk px kx f (d + 4) 230 95 [some (.ref x0), some (.int x1), none, some (.long (((48271 : Int64) * x3) - ((48271 : Int64) * x3) / (2147483647 : Int64) * (2147483647 : Int64))), none, some (.int x5), some (.int ((((((48271 : Int64) * x3) - ((48271 : Int64) * x3) / (2147483647 : Int64) * (2147483647 : Int64)) / (8 : Int64)) - ((((48271 : Int64) * x3) - ((48271 : Int64) * x3) / (2147483647 : Int64) * (2147483647 : Int64)) / (8 : Int64)) / ((S.2.1 x0 4).toInt64) * ((S.2.1 x0 4).toInt64)).toInt32))] [] q2.2) (fun f => rfl) ?_
    refine OkF.ite (fun _ => ?_) (fun _ => ?_)
    · refine OkF.eq 3 (Y := fun f => if (3 : Int64) = 0 then none else rk px kx f (d + 4) 230 109 [some (.ref x0), some (.int x1), none, some (.long (((48271 : Int64) * x3) - ((48271 : Int64) * x3) / (2147483647 : Int64) * (2147483647 : Int64))), none, some (.int x5), some (.int ((((((48271 : Int64) * x3) - ((48271 : Int64) * x3) / (2147483647 : Int64) * (2147483647 : Int64)) / (8 : Int64)) - ((((48271 : Int64) * x3) - ((48271 : Int64) * x3) / (2147483647 : Int64) * (2147483647 : Int64)) / (8 : Int64)) / ((S.2.1 x0 4).toInt64) * ((S.2.1 x0 4).toInt64)).toInt32))] [.long ((((48271 : Int64) * x3) - ((48271 : Int64) * x3) / (2147483647 : Int64) * (2147483647 : Int64)) - (((48271 : Int64) * x3) - ((48271 : Int64) * x3) / (2147483647 : Int64) * (2147483647 : Int64)) / (3 : Int64) * (3 : Int64))] q2.2) (fun f => rfl) ?_
      refine OkF.ngr (fun _ => ?_)
      refine OkF.eq 3 (Y := fun f => if (lg_cmp ((((48271 : Int64) * x3) - ((48271 : Int64) * x3) / (2147483647 : Int64) * (2147483647 : Int64)) - (((48271 : Int64) * x3) - ((48271 : Int64) * x3) / (2147483647 : Int64) * (2147483647 : Int64)) / (3 : Int64) * (3 : Int64)) (0 : Int64)) = 0 then rk px kx f (d + 4) 230 114 [some (.ref x0), some (.int x1), none, some (.long (((48271 : Int64) * x3) - ((48271 : Int64) * x3) / (2147483647 : Int64) * (2147483647 : Int64))), none, some (.int x5), some (.int ((((((48271 : Int64) * x3) - ((48271 : Int64) * x3) / (2147483647 : Int64) * (2147483647 : Int64)) / (8 : Int64)) - ((((48271 : Int64) * x3) - ((48271 : Int64) * x3) / (2147483647 : Int64) * (2147483647 : Int64)) / (8 : Int64)) / ((S.2.1 x0 4).toInt64) * ((S.2.1 x0 4).toInt64)).toInt32))] [] q2.2 else rk px kx f (d + 4) 230 121 [some (.ref x0), some (.int x1), none, some (.long (((48271 : Int64) * x3) - ((48271 : Int64) * x3) / (2147483647 : Int64) * (2147483647 : Int64))), none, some (.int x5), some (.int ((((((48271 : Int64) * x3) - ((48271 : Int64) * x3) / (2147483647 : Int64) * (2147483647 : Int64)) / (8 : Int64)) - ((((48271 : Int64) * x3) - ((48271 : Int64) * x3) / (2147483647 : Int64) * (2147483647 : Int64)) / (8 : Int64)) / ((S.2.1 x0 4).toInt64) * ((S.2.1 x0 4).toInt64)).toInt32))] [] q2.2) (fun f => rfl) ?_
      refine OkF.ite (fun _ => ?_) (fun _ => ?_)
      · refine OkF.eq 2 (Y := fun f => if oc q2.2 x0 12 = true then (rk px kx f (d + 3) 189 0 [some (.ref x0)] [] q2.2).bind (fun q => rk px kx f (d + 4) 230 118 [some (.ref x0), some (.int x1), none, some (.long (((48271 : Int64) * x3) - ((48271 : Int64) * x3) / (2147483647 : Int64) * (2147483647 : Int64))), none, some (.int x5), some (.int ((((((48271 : Int64) * x3) - ((48271 : Int64) * x3) / (2147483647 : Int64) * (2147483647 : Int64)) / (8 : Int64)) - ((((48271 : Int64) * x3) - ((48271 : Int64) * x3) / (2147483647 : Int64) * (2147483647 : Int64)) / (8 : Int64)) / ((S.2.1 x0 4).toInt64) * ((S.2.1 x0 4).toInt64)).toInt32))] (q.1.toList ++ []) q.2) else none) (fun f => rfl) ?_
        refine OkF.grd (fun _ => ?_)
        refine OkF.bind (w1 := wV) (om189 (d + 1) x0 q2.2) (fun q3 => ?_)
        refine OkF.eq 1 (Y := fun f => rk px kx f (d + 4) 230 125 [some (.ref x0), some (.int x1), none, some (.long (((48271 : Int64) * x3) - ((48271 : Int64) * x3) / (2147483647 : Int64) * (2147483647 : Int64))), none, some (.int x5), some (.int ((((((48271 : Int64) * x3) - ((48271 : Int64) * x3) / (2147483647 : Int64) * (2147483647 : Int64)) / (8 : Int64)) - ((((48271 : Int64) * x3) - ((48271 : Int64) * x3) / (2147483647 : Int64) * (2147483647 : Int64)) / (8 : Int64)) / ((S.2.1 x0 4).toInt64) * ((S.2.1 x0 4).toInt64)).toInt32))] [] q3) (fun f => rfl) ?_
        exact OkF.kl (ls1 := [some (.ref x0), some (.int x1), none, some (.long (((48271 : Int64) * x3) - ((48271 : Int64) * x3) / (2147483647 : Int64) * (2147483647 : Int64))), none, some (.int x5), none]) (fun f => rfl) (ob230_125 d k56 hk56 x0 x1 (((48271 : Int64) * x3) - ((48271 : Int64) * x3) / (2147483647 : Int64) * (2147483647 : Int64)) x5 q3)
      · refine OkF.eq 2 (Y := fun f => if oc q2.2 x0 12 = true then (rk px kx f (d + 3) 193 0 [some (.ref x0)] [] q2.2).bind (fun q => rk px kx f (d + 4) 230 125 [some (.ref x0), some (.int x1), none, some (.long (((48271 : Int64) * x3) - ((48271 : Int64) * x3) / (2147483647 : Int64) * (2147483647 : Int64))), none, some (.int x5), some (.int ((((((48271 : Int64) * x3) - ((48271 : Int64) * x3) / (2147483647 : Int64) * (2147483647 : Int64)) / (8 : Int64)) - ((((48271 : Int64) * x3) - ((48271 : Int64) * x3) / (2147483647 : Int64) * (2147483647 : Int64)) / (8 : Int64)) / ((S.2.1 x0 4).toInt64) * ((S.2.1 x0 4).toInt64)).toInt32))] (q.1.toList ++ []) q.2) else none) (fun f => rfl) ?_
        refine OkF.grd (fun _ => ?_)
        refine OkF.bind (w1 := wV) (om193 (d + 1) x0 q2.2) (fun q4 => ?_)
        exact OkF.kl (ls1 := [some (.ref x0), some (.int x1), none, some (.long (((48271 : Int64) * x3) - ((48271 : Int64) * x3) / (2147483647 : Int64) * (2147483647 : Int64))), none, some (.int x5), none]) (fun f => rfl) (ob230_125 d k56 hk56 x0 x1 (((48271 : Int64) * x3) - ((48271 : Int64) * x3) / (2147483647 : Int64) * (2147483647 : Int64)) x5 q4)
    · refine OkF.eq 3 (Y := fun f => if oc q2.2 x0 12 = true then (rk px kx f (d + 3) 196 0 [some (.ref x0), some (.int ((((((48271 : Int64) * x3) - ((48271 : Int64) * x3) / (2147483647 : Int64) * (2147483647 : Int64)) / (8 : Int64)) - ((((48271 : Int64) * x3) - ((48271 : Int64) * x3) / (2147483647 : Int64) * (2147483647 : Int64)) / (8 : Int64)) / ((S.2.1 x0 4).toInt64) * ((S.2.1 x0 4).toInt64)).toInt32))] [] q2.2).bind (fun q => rk px kx f (d + 4) 230 101 [some (.ref x0), some (.int x1), none, some (.long (((48271 : Int64) * x3) - ((48271 : Int64) * x3) / (2147483647 : Int64) * (2147483647 : Int64))), none, some (.int x5), some (.int ((((((48271 : Int64) * x3) - ((48271 : Int64) * x3) / (2147483647 : Int64) * (2147483647 : Int64)) / (8 : Int64)) - ((((48271 : Int64) * x3) - ((48271 : Int64) * x3) / (2147483647 : Int64) * (2147483647 : Int64)) / (8 : Int64)) / ((S.2.1 x0 4).toInt64) * ((S.2.1 x0 4).toInt64)).toInt32))] (q.1.toList ++ []) q.2) else none) (fun f => rfl) ?_
      refine OkF.grd (fun _ => ?_)
      refine OkF.bind (w1 := wV) (om196 (d + 0) x0 ((((((48271 : Int64) * x3) - ((48271 : Int64) * x3) / (2147483647 : Int64) * (2147483647 : Int64)) / (8 : Int64)) - ((((48271 : Int64) * x3) - ((48271 : Int64) * x3) / (2147483647 : Int64) * (2147483647 : Int64)) / (8 : Int64)) / ((S.2.1 x0 4).toInt64) * ((S.2.1 x0 4).toInt64)).toInt32) q2.2) (fun q5 => ?_)
      refine OkF.eq 1 (Y := fun f => rk px kx f (d + 4) 230 125 [some (.ref x0), some (.int x1), none, some (.long (((48271 : Int64) * x3) - ((48271 : Int64) * x3) / (2147483647 : Int64) * (2147483647 : Int64))), none, some (.int x5), some (.int ((((((48271 : Int64) * x3) - ((48271 : Int64) * x3) / (2147483647 : Int64) * (2147483647 : Int64)) / (8 : Int64)) - ((((48271 : Int64) * x3) - ((48271 : Int64) * x3) / (2147483647 : Int64) * (2147483647 : Int64)) / (8 : Int64)) / ((S.2.1 x0 4).toInt64) * ((S.2.1 x0 4).toInt64)).toInt32))] [] q5) (fun f => rfl) ?_
      exact OkF.kl (ls1 := [some (.ref x0), some (.int x1), none, some (.long (((48271 : Int64) * x3) - ((48271 : Int64) * x3) / (2147483647 : Int64) * (2147483647 : Int64))), none, some (.int x5), none]) (fun f => rfl) (ob230_125 d k56 hk56 x0 x1 (((48271 : Int64) * x3) - ((48271 : Int64) * x3) / (2147483647 : Int64) * (2147483647 : Int64)) x5 q5)
def l230_56 : Nat → Nat → Int32 → Int64 → Int32 → Sx → Option (Int32 × Sx)
  | 0 => fun _ _ _ _ _ => none
  | n + 1 => fun x0 x1 x3 x5 S => b230_56 (l230_56 n) x0 x1 x3 x5 S
set_option maxRecDepth 100000 in
theorem ol230_56 (d : Nat) : ∀ (n : Nat) (x0 : Nat) (x1 : Int32) (x3 : Int64) (x5 : Int32) (S : Sx), OkF wI (fun f => rk px kx f (d + 4) 230 56 [some (.ref x0), some (.int x1), none, some (.long x3), none, some (.int x5), none] [] S) (l230_56 n x0 x1 x3 x5 S) := by
  intro n
  induction n with
  | zero => intro x0 x1 x3 x5 S; exact OkF.no
  | succ n ih => intro x0 x1 x3 x5 S; exact ob230_56 d (l230_56 n) ih x0 x1 x3 x5 S
def m230 (x0 : Nat) (x1 : Int32) (x2 : Int32) (S : Sx) : Option (Int32 × Sx) :=
  (m150 x1.toInt64 (1 : Int64) (20 : Int64) S).bind fun q6 => if q6.1 = 0 then some ((-1 : Int32), q6.2) else (m150 x2.toInt64 (1 : Int64) (2147483646 : Int64) q6.2).bind fun q7 => if q7.1 = 0 then some ((-1 : Int32), q7.2) else if oc q7.2 x0 12 = true then if (q7.2.2.1 x0 4) = 0 then some ((-4 : Int32), q7.2) else if oc q7.2 x0 12 = true then if ((q7.2.2.1 x0 9) + x1) ≤ (40 : Int32) then l230_56 1000 x0 x1 x2.toInt64 (0 : Int32) q7.2 else some ((-2 : Int32), q7.2) else none else none
set_option maxRecDepth 100000 in
theorem om230 (d : Nat) (x0 : Nat) (x1 : Int32) (x2 : Int32) (S : Sx) : OkF wI (fun f => rk px kx f (d + 4) 230 0 [some (.ref x0), some (.int x1), some (.int x2), none, none, none, none] [] S) (m230 x0 x1 x2 S) := by
  unfold m230
  refine OkF.eq 5 (Y := fun f => (rk px kx f (d + 3) 150 0 [some (.long x1.toInt64), none, some (.long (1 : Int64)), none, some (.long (20 : Int64)), none] [] S).bind (fun q => rk px kx f (d + 4) 230 9 [some (.ref x0), some (.int x1), some (.int x2), none, none, none, none] (q.1.toList ++ []) q.2)) (fun f => rfl) ?_
  refine OkF.bind (w1 := wI) (om150 (d + 3) x1.toInt64 (1 : Int64) (20 : Int64) S) (fun q6 => ?_)
  refine OkF.eq 1 (Y := fun f => if q6.1 = 0 then rk px kx f (d + 4) 230 24 [some (.ref x0), some (.int x1), some (.int x2), none, none, none, none] [] q6.2 else rk px kx f (d + 4) 230 12 [some (.ref x0), some (.int x1), some (.int x2), none, none, none, none] [] q6.2) (fun f => rfl) ?_
  refine OkF.ite (fun _ => ?_) (fun _ => ?_)
  · exact OkF.ret 2 (fun f => rfl)
  · refine OkF.eq 5 (Y := fun f => (rk px kx f (d + 3) 150 0 [some (.long x2.toInt64), none, some (.long (1 : Int64)), none, some (.long (2147483646 : Int64)), none] [] q6.2).bind (fun q => rk px kx f (d + 4) 230 21 [some (.ref x0), some (.int x1), some (.int x2), none, none, none, none] (q.1.toList ++ []) q.2)) (fun f => rfl) ?_
    refine OkF.bind (w1 := wI) (om150 (d + 3) x2.toInt64 (1 : Int64) (2147483646 : Int64) q6.2) (fun q7 => ?_)
    refine OkF.eq 1 (Y := fun f => if q7.1 = 0 then rk px kx f (d + 4) 230 24 [some (.ref x0), some (.int x1), some (.int x2), none, none, none, none] [] q7.2 else rk px kx f (d + 4) 230 26 [some (.ref x0), some (.int x1), some (.int x2), none, none, none, none] [] q7.2) (fun f => rfl) ?_
    refine OkF.ite (fun _ => ?_) (fun _ => ?_)
    · exact OkF.ret 2 (fun f => rfl)
    · refine OkF.eq 2 (Y := fun f => if oc q7.2 x0 12 = true then rk px kx f (d + 4) 230 30 [some (.ref x0), some (.int x1), some (.int x2), none, none, none, none] [.int (q7.2.2.1 x0 4)] q7.2 else none) (fun f => rfl) ?_
      refine OkF.grd (fun _ => ?_)
      refine OkF.eq 1 (Y := fun f => if (q7.2.2.1 x0 4) = 0 then rk px kx f (d + 4) 230 33 [some (.ref x0), some (.int x1), some (.int x2), none, none, none, none] [] q7.2 else rk px kx f (d + 4) 230 36 [some (.ref x0), some (.int x1), some (.int x2), none, none, none, none] [] q7.2) (fun f => rfl) ?_
      refine OkF.ite (fun _ => ?_) (fun _ => ?_)
      · exact OkF.ret 2 (fun f => rfl)
      · refine OkF.eq 2 (Y := fun f => if oc q7.2 x0 12 = true then rk px kx f (d + 4) 230 40 [some (.ref x0), some (.int x1), some (.int x2), none, none, none, none] [.int (q7.2.2.1 x0 9)] q7.2 else none) (fun f => rfl) ?_
        refine OkF.grd (fun _ => ?_)
        refine OkF.eq 4 (Y := fun f => if ((q7.2.2.1 x0 9) + x1) ≤ (40 : Int32) then rk px kx f (d + 4) 230 50 [some (.ref x0), some (.int x1), some (.int x2), none, none, none, none] [] q7.2 else rk px kx f (d + 4) 230 47 [some (.ref x0), some (.int x1), some (.int x2), none, none, none, none] [] q7.2) (fun f => rfl) ?_
        refine OkF.ite (fun _ => ?_) (fun _ => ?_)
        · refine OkF.eq 5 (Y := fun f => rk px kx f (d + 4) 230 56 [some (.ref x0), some (.int x1), some (.int x2), some (.long x2.toInt64), none, some (.int (0 : Int32)), none] [] q7.2) (fun f => rfl) ?_
          exact OkF.kl (ls1 := [some (.ref x0), some (.int x1), none, some (.long x2.toInt64), none, some (.int (0 : Int32)), none]) (fun f => rfl) (ol230_56 d 1000 x0 x1 x2.toInt64 (0 : Int32) q7.2)
        · exact OkF.ret 2 (fun f => rfl)
-- DoorSoldModel.asked()I
def m231 (x0 : Nat) (S : Sx) : Option (Int32 × Sx) :=
  if oc S x0 12 = true then some (S.2.1 x0 13, S) else none
set_option maxRecDepth 100000 in
theorem om231 (d : Nat) (x0 : Nat) (S : Sx) : OkF wI (fun f => rk px kx f (d + 0) 231 0 [some (.ref x0)] [] S) (m231 x0 S) := by
  unfold m231
  refine OkF.eq 2 (Y := fun f => if oc S x0 12 = true then rk px kx f (d + 0) 231 4 [some (.ref x0)] [.int (S.2.1 x0 13)] S else none) (fun f => rfl) ?_
  refine OkF.grd (fun _ => ?_)
  exact OkF.ret 1 (fun f => rfl)
-- DoorSoldModel.upper()J
def m232 (x0 : Nat) (S : Sx) : Option (Int64 × Sx) :=
  if oc S x0 12 = true then some (S.2.2.1 x0 14, S) else none
set_option maxRecDepth 100000 in
theorem om232 (d : Nat) (x0 : Nat) (S : Sx) : OkF wL (fun f => rk px kx f (d + 0) 232 0 [some (.ref x0)] [] S) (m232 x0 S) := by
  unfold m232
  refine OkF.eq 2 (Y := fun f => if oc S x0 12 = true then rk px kx f (d + 0) 232 4 [some (.ref x0)] [.long (S.2.2.1 x0 14)] S else none) (fun f => rfl) ?_
  refine OkF.grd (fun _ => ?_)
  exact OkF.ret 1 (fun f => rfl)
-- DoorSoldModel.lower()J
def m233 (x0 : Nat) (S : Sx) : Option (Int64 × Sx) :=
  if oc S x0 12 = true then some (S.2.2.1 x0 15, S) else none
set_option maxRecDepth 100000 in
theorem om233 (d : Nat) (x0 : Nat) (S : Sx) : OkF wL (fun f => rk px kx f (d + 0) 233 0 [some (.ref x0)] [] S) (m233 x0 S) := by
  unfold m233
  refine OkF.eq 2 (Y := fun f => if oc S x0 12 = true then rk px kx f (d + 0) 233 4 [some (.ref x0)] [.long (S.2.2.1 x0 15)] S else none) (fun f => rfl) ?_
  refine OkF.grd (fun _ => ?_)
  exact OkF.ret 1 (fun f => rfl)
-- DoorSoldModel.counted(I)I
def b235_36 (k4 : Nat → Int32 → Int32 → Int32 → Sx → Option (Int32 × Sx)) (x0 : Nat) (x1 : Int32) (x3 : Int32) (s0 : Int32) (s1 : Int32) (S : Sx) : Option (Int32 × Sx) :=
  k4 x0 x1 (s0 + s1) (x3 + (1 : Int32)) S
set_option maxRecDepth 100000 in
theorem ob235_36 (d : Nat) (k4 : Nat → Int32 → Int32 → Int32 → Sx → Option (Int32 × Sx)) (hk4 : ∀ (x0 : Nat) (x1 : Int32) (x2 : Int32) (x3 : Int32) (S : Sx), OkF wI (fun f => rk px kx f (d + 1) 235 4 [some (.ref x0), some (.int x1), some (.int x2), some (.int x3)] [] S) (k4 x0 x1 x2 x3 S)) (x0 : Nat) (x1 : Int32) (x3 : Int32) (s0 : Int32) (s1 : Int32) (S : Sx) : OkF wI (fun f => rk px kx f (d + 1) 235 36 [some (.ref x0), some (.int x1), none, some (.int x3)] [.int s1, .int s0] S) (b235_36 k4 x0 x1 x3 s0 s1 S) := by
  unfold b235_36
  refine OkF.eq 4 (Y := fun f => rk px kx f (d + 1) 235 4 [some (.ref x0), some (.int x1), some (.int (s0 + s1)), some (.int (x3 + (1 : Int32)))] [] S) (fun f => rfl) ?_
  exact OkF.kl (ls1 := [some (.ref x0), some (.int x1), some (.int (s0 + s1)), some (.int (x3 + (1 : Int32)))]) (fun f => rfl) (hk4 x0 x1 (s0 + s1) (x3 + (1 : Int32)) S)
def b235_73 (k46 : Nat → Int32 → Int32 → Int32 → Sx → Option (Int32 × Sx)) (x0 : Nat) (x1 : Int32) (x3 : Int32) (s0 : Int32) (s1 : Int32) (S : Sx) : Option (Int32 × Sx) :=
  k46 x0 x1 (s0 + s1) (x3 + (1 : Int32)) S
set_option maxRecDepth 100000 in
theorem ob235_73 (d : Nat) (k46 : Nat → Int32 → Int32 → Int32 → Sx → Option (Int32 × Sx)) (hk46 : ∀ (x0 : Nat) (x1 : Int32) (x2 : Int32) (x3 : Int32) (S : Sx), OkF wI (fun f => rk px kx f (d + 1) 235 46 [some (.ref x0), some (.int x1), some (.int x2), some (.int x3)] [] S) (k46 x0 x1 x2 x3 S)) (x0 : Nat) (x1 : Int32) (x3 : Int32) (s0 : Int32) (s1 : Int32) (S : Sx) : OkF wI (fun f => rk px kx f (d + 1) 235 73 [some (.ref x0), some (.int x1), none, some (.int x3)] [.int s1, .int s0] S) (b235_73 k46 x0 x1 x3 s0 s1 S) := by
  unfold b235_73
  refine OkF.eq 4 (Y := fun f => rk px kx f (d + 1) 235 46 [some (.ref x0), some (.int x1), some (.int (s0 + s1)), some (.int (x3 + (1 : Int32)))] [] S) (fun f => rfl) ?_
  exact OkF.kl (ls1 := [some (.ref x0), some (.int x1), some (.int (s0 + s1)), some (.int (x3 + (1 : Int32)))]) (fun f => rfl) (hk46 x0 x1 (s0 + s1) (x3 + (1 : Int32)) S)
def b235_109 (k83 : Nat → Int32 → Int32 → Int32 → Sx → Option (Int32 × Sx)) (x0 : Nat) (x1 : Int32) (x3 : Int32) (s0 : Int32) (s1 : Int32) (S : Sx) : Option (Int32 × Sx) :=
  k83 x0 x1 (s0 + s1) (x3 + (1 : Int32)) S
set_option maxRecDepth 100000 in
theorem ob235_109 (d : Nat) (k83 : Nat → Int32 → Int32 → Int32 → Sx → Option (Int32 × Sx)) (hk83 : ∀ (x0 : Nat) (x1 : Int32) (x2 : Int32) (x3 : Int32) (S : Sx), OkF wI (fun f => rk px kx f (d + 1) 235 83 [some (.ref x0), some (.int x1), some (.int x2), some (.int x3)] [] S) (k83 x0 x1 x2 x3 S)) (x0 : Nat) (x1 : Int32) (x3 : Int32) (s0 : Int32) (s1 : Int32) (S : Sx) : OkF wI (fun f => rk px kx f (d + 1) 235 109 [some (.ref x0), some (.int x1), none, some (.int x3)] [.int s1, .int s0] S) (b235_109 k83 x0 x1 x3 s0 s1 S) := by
  unfold b235_109
  refine OkF.eq 4 (Y := fun f => rk px kx f (d + 1) 235 83 [some (.ref x0), some (.int x1), some (.int (s0 + s1)), some (.int (x3 + (1 : Int32)))] [] S) (fun f => rfl) ?_
  exact OkF.kl (ls1 := [some (.ref x0), some (.int x1), some (.int (s0 + s1)), some (.int (x3 + (1 : Int32)))]) (fun f => rfl) (hk83 x0 x1 (s0 + s1) (x3 + (1 : Int32)) S)
def b235_145 (k119 : Nat → Int32 → Int32 → Int32 → Sx → Option (Int32 × Sx)) (x0 : Nat) (x1 : Int32) (x3 : Int32) (s0 : Int32) (s1 : Int32) (S : Sx) : Option (Int32 × Sx) :=
  k119 x0 x1 (s0 + s1) (x3 + (1 : Int32)) S
set_option maxRecDepth 100000 in
theorem ob235_145 (d : Nat) (k119 : Nat → Int32 → Int32 → Int32 → Sx → Option (Int32 × Sx)) (hk119 : ∀ (x0 : Nat) (x1 : Int32) (x2 : Int32) (x3 : Int32) (S : Sx), OkF wI (fun f => rk px kx f (d + 1) 235 119 [some (.ref x0), some (.int x1), some (.int x2), some (.int x3)] [] S) (k119 x0 x1 x2 x3 S)) (x0 : Nat) (x1 : Int32) (x3 : Int32) (s0 : Int32) (s1 : Int32) (S : Sx) : OkF wI (fun f => rk px kx f (d + 1) 235 145 [some (.ref x0), some (.int x1), none, some (.int x3)] [.int s1, .int s0] S) (b235_145 k119 x0 x1 x3 s0 s1 S) := by
  unfold b235_145
  refine OkF.eq 4 (Y := fun f => rk px kx f (d + 1) 235 119 [some (.ref x0), some (.int x1), some (.int (s0 + s1)), some (.int (x3 + (1 : Int32)))] [] S) (fun f => rfl) ?_
  exact OkF.kl (ls1 := [some (.ref x0), some (.int x1), some (.int (s0 + s1)), some (.int (x3 + (1 : Int32)))]) (fun f => rfl) (hk119 x0 x1 (s0 + s1) (x3 + (1 : Int32)) S)
def b235_153 (x0 : Nat) (x1 : Int32) (x2 : Int32) (S : Sx) : Option (Int32 × Sx) :=
  if x1 = (0 : Int32) then (if oc S x0 12 = true then some (S.2.1 x0 4, S) else none) else if x1 = (1 : Int32) then (if oc S x0 12 = true then some (S.2.1 x0 5, S) else none) else if x1 = (2 : Int32) then (if oc S x0 12 = true then (S.2.2.2.1 x0 8).bind fun a1 => if inb (x1 - (2 : Int32)) (al S a1) = true then some (S.2.1 a1 (x1 - (2 : Int32)).toNatClampNeg, S) else none else none) else if x1 = (3 : Int32) then (if oc S x0 12 = true then (S.2.2.2.1 x0 8).bind fun a2 => if inb (x1 - (2 : Int32)) (al S a2) = true then some (S.2.1 a2 (x1 - (2 : Int32)).toNatClampNeg, S) else none else none) else if x1 = (4 : Int32) then (if oc S x0 12 = true then (S.2.2.2.1 x0 8).bind fun a3 => if inb (x1 - (2 : Int32)) (al S a3) = true then some (S.2.1 a3 (x1 - (2 : Int32)).toNatClampNeg, S) else none else none) else if x1 = (5 : Int32) then (if oc S x0 12 = true then some (S.2.1 x0 9, S) else none) else if x1 = (6 : Int32) then (if oc S x0 12 = true then (S.2.2.2.1 x0 8).bind fun a4 => if inb (3 : Int32) (al S a4) = true then some (S.2.1 a4 (3 : Int32).toNatClampNeg, S) else none else none) else some (x2, S)
set_option maxRecDepth 100000 in
theorem ob235_153 (d : Nat) (x0 : Nat) (x1 : Int32) (x2 : Int32) (S : Sx) : OkF wI (fun f => rk px kx f (d + 1) 235 153 [some (.ref x0), some (.int x1), some (.int x2), none] [] S) (b235_153 x0 x1 x2 S) := by
  unfold b235_153
  refine OkF.eq 2 (Y := fun f => if x1 = (0 : Int32) then rk px kx f (d + 1) 235 196 [some (.ref x0), some (.int x1), some (.int x2), none] [] S else if x1 = (1 : Int32) then rk px kx f (d + 1) 235 201 [some (.ref x0), some (.int x1), some (.int x2), none] [] S else if x1 = (2 : Int32) then rk px kx f (d + 1) 235 206 [some (.ref x0), some (.int x1), some (.int x2), none] [] S else if x1 = (3 : Int32) then rk px kx f (d + 1) 235 206 [some (.ref x0), some (.int x1), some (.int x2), none] [] S else if x1 = (4 : Int32) then rk px kx f (d + 1) 235 206 [some (.ref x0), some (.int x1), some (.int x2), none] [] S else if x1 = (5 : Int32) then rk px kx f (d + 1) 235 215 [some (.ref x0), some (.int x1), some (.int x2), none] [] S else if x1 = (6 : Int32) then rk px kx f (d + 1) 235 220 [some (.ref x0), some (.int x1), some (.int x2), none] [] S else rk px kx f (d + 1) 235 227 [some (.ref x0), some (.int x1), some (.int x2), none] [] S) (fun f => rfl) ?_
  refine OkF.ite (fun _ => ?_) (fun _ => ?_)
  · refine OkF.eq 2 (Y := fun f => if oc S x0 12 = true then rk px kx f (d + 1) 235 200 [some (.ref x0), some (.int x1), some (.int x2), none] [.int (S.2.1 x0 4)] S else none) (fun f => rfl) ?_
    refine OkF.grd (fun _ => ?_)
    exact OkF.ret 1 (fun f => rfl)
  refine OkF.ite (fun _ => ?_) (fun _ => ?_)
  · refine OkF.eq 2 (Y := fun f => if oc S x0 12 = true then rk px kx f (d + 1) 235 205 [some (.ref x0), some (.int x1), some (.int x2), none] [.int (S.2.1 x0 5)] S else none) (fun f => rfl) ?_
    refine OkF.grd (fun _ => ?_)
    exact OkF.ret 1 (fun f => rfl)
  refine OkF.ite (fun _ => ?_) (fun _ => ?_)
  · refine OkF.eq 2 (Y := fun f => if oc S x0 12 = true then rk px kx f (d + 1) 235 210 [some (.ref x0), some (.int x1), some (.int x2), none] (va_rf (S.2.2.2.1 x0 8) :: []) S else none) (fun f => rfl) ?_
    refine OkF.grd (fun _ => ?_)
    refine OkF.rf (fun a1 => ?_)
    refine OkF.eq 4 (Y := fun f => if inb (x1 - (2 : Int32)) (al S a1) = true then rk px kx f (d + 1) 235 214 [some (.ref x0), some (.int x1), some (.int x2), none] [.int (S.2.1 a1 (x1 - (2 : Int32)).toNatClampNeg)] S else none) (fun f => rfl) ?_
    refine OkF.grd (fun _ => ?_)
    exact OkF.ret 1 (fun f => rfl)
  refine OkF.ite (fun _ => ?_) (fun _ => ?_)
  · refine OkF.eq 2 (Y := fun f => if oc S x0 12 = true then rk px kx f (d + 1) 235 210 [some (.ref x0), some (.int x1), some (.int x2), none] (va_rf (S.2.2.2.1 x0 8) :: []) S else none) (fun f => rfl) ?_
    refine OkF.grd (fun _ => ?_)
    refine OkF.rf (fun a2 => ?_)
    refine OkF.eq 4 (Y := fun f => if inb (x1 - (2 : Int32)) (al S a2) = true then rk px kx f (d + 1) 235 214 [some (.ref x0), some (.int x1), some (.int x2), none] [.int (S.2.1 a2 (x1 - (2 : Int32)).toNatClampNeg)] S else none) (fun f => rfl) ?_
    refine OkF.grd (fun _ => ?_)
    exact OkF.ret 1 (fun f => rfl)
  refine OkF.ite (fun _ => ?_) (fun _ => ?_)
  · refine OkF.eq 2 (Y := fun f => if oc S x0 12 = true then rk px kx f (d + 1) 235 210 [some (.ref x0), some (.int x1), some (.int x2), none] (va_rf (S.2.2.2.1 x0 8) :: []) S else none) (fun f => rfl) ?_
    refine OkF.grd (fun _ => ?_)
    refine OkF.rf (fun a3 => ?_)
    refine OkF.eq 4 (Y := fun f => if inb (x1 - (2 : Int32)) (al S a3) = true then rk px kx f (d + 1) 235 214 [some (.ref x0), some (.int x1), some (.int x2), none] [.int (S.2.1 a3 (x1 - (2 : Int32)).toNatClampNeg)] S else none) (fun f => rfl) ?_
    refine OkF.grd (fun _ => ?_)
    exact OkF.ret 1 (fun f => rfl)
  refine OkF.ite (fun _ => ?_) (fun _ => ?_)
  · refine OkF.eq 2 (Y := fun f => if oc S x0 12 = true then rk px kx f (d + 1) 235 219 [some (.ref x0), some (.int x1), some (.int x2), none] [.int (S.2.1 x0 9)] S else none) (fun f => rfl) ?_
    refine OkF.grd (fun _ => ?_)
    exact OkF.ret 1 (fun f => rfl)
  refine OkF.ite (fun _ => ?_) (fun _ => ?_)
  · refine OkF.eq 2 (Y := fun f => if oc S x0 12 = true then rk px kx f (d + 1) 235 224 [some (.ref x0), some (.int x1), some (.int x2), none] (va_rf (S.2.2.2.1 x0 8) :: []) S else none) (fun f => rfl) ?_
    refine OkF.grd (fun _ => ?_)
    refine OkF.rf (fun a4 => ?_)
    refine OkF.eq 2 (Y := fun f => if inb (3 : Int32) (al S a4) = true then rk px kx f (d + 1) 235 226 [some (.ref x0), some (.int x1), some (.int x2), none] [.int (S.2.1 a4 (3 : Int32).toNatClampNeg)] S else none) (fun f => rfl) ?_
    refine OkF.grd (fun _ => ?_)
    exact OkF.ret 1 (fun f => rfl)
  exact OkF.ret 2 (fun f => rfl)
def b235_119 (k119 : Nat → Int32 → Int32 → Int32 → Sx → Option (Int32 × Sx)) (x0 : Nat) (x1 : Int32) (x2 : Int32) (x3 : Int32) (S : Sx) : Option (Int32 × Sx) :=
  if (3 : Int32) ≤ x3 then b235_153 x0 x1 x2 S else if x1 = (10 : Int32) then if oc S x0 12 = true then (S.2.2.2.1 x0 12).bind fun a5 => if inb x3 (aw S 2 a5) = true then if (S.2.1 a5 x3.toNatClampNeg) = 0 then b235_145 k119 x0 x1 x3 x2 (0 : Int32) S else b235_145 k119 x0 x1 x3 x2 (1 : Int32) S else none else none else b235_153 x0 x1 x2 S
set_option maxRecDepth 100000 in
theorem ob235_119 (d : Nat) (k119 : Nat → Int32 → Int32 → Int32 → Sx → Option (Int32 × Sx)) (hk119 : ∀ (x0 : Nat) (x1 : Int32) (x2 : Int32) (x3 : Int32) (S : Sx), OkF wI (fun f => rk px kx f (d + 1) 235 119 [some (.ref x0), some (.int x1), some (.int x2), some (.int x3)] [] S) (k119 x0 x1 x2 x3 S)) (x0 : Nat) (x1 : Int32) (x2 : Int32) (x3 : Int32) (S : Sx) : OkF wI (fun f => rk px kx f (d + 1) 235 119 [some (.ref x0), some (.int x1), some (.int x2), some (.int x3)] [] S) (b235_119 k119 x0 x1 x2 x3 S) := by
  unfold b235_119
  refine OkF.eq 3 (Y := fun f => if (3 : Int32) ≤ x3 then rk px kx f (d + 1) 235 153 [some (.ref x0), some (.int x1), some (.int x2), some (.int x3)] [] S else rk px kx f (d + 1) 235 124 [some (.ref x0), some (.int x1), some (.int x2), some (.int x3)] [] S) (fun f => rfl) ?_
  refine OkF.ite (fun _ => ?_) (fun _ => ?_)
  · exact OkF.kl (ls1 := [some (.ref x0), some (.int x1), some (.int x2), none]) (fun f => rfl) (ob235_153 d x0 x1 x2 S)
  · refine OkF.eq 3 (Y := fun f => if x1 = (10 : Int32) then rk px kx f (d + 1) 235 130 [some (.ref x0), some (.int x1), some (.int x2), some (.int x3)] [] S else rk px kx f (d + 1) 235 153 [some (.ref x0), some (.int x1), some (.int x2), some (.int x3)] [] S) (fun f => rfl) ?_
    refine OkF.ite (fun _ => ?_) (fun _ => ?_)
    · refine OkF.eq 3 (Y := fun f => if oc S x0 12 = true then rk px kx f (d + 1) 235 135 [some (.ref x0), some (.int x1), some (.int x2), some (.int x3)] (va_rf (S.2.2.2.1 x0 12) :: [.int x2]) S else none) (fun f => rfl) ?_
      refine OkF.grd (fun _ => ?_)
      refine OkF.rf (fun a5 => ?_)
      refine OkF.eq 2 (Y := fun f => if inb x3 (aw S 2 a5) = true then rk px kx f (d + 1) 235 137 [some (.ref x0), some (.int x1), some (.int x2), some (.int x3)] [.int (S.2.1 a5 x3.toNatClampNeg), .int x2] S else none) (fun f => rfl) ?_
      refine OkF.grd (fun _ => ?_)
      refine OkF.eq 1 (Y := fun f => if (S.2.1 a5 x3.toNatClampNeg) = 0 then rk px kx f (d + 1) 235 144 [some (.ref x0), some (.int x1), some (.int x2), some (.int x3)] [.int x2] S else rk px kx f (d + 1) 235 140 [some (.ref x0), some (.int x1), some (.int x2), some (.int x3)] [.int x2] S) (fun f => rfl) ?_
      refine OkF.ite (fun _ => ?_) (fun _ => ?_)
      · refine OkF.eq 1 (Y := fun f => rk px kx f (d + 1) 235 145 [some (.ref x0), some (.int x1), some (.int x2), some (.int x3)] [.int (0 : Int32), .int x2] S) (fun f => rfl) ?_
        exact OkF.kl (ls1 := [some (.ref x0), some (.int x1), none, some (.int x3)]) (fun f => rfl) (ob235_145 d k119 hk119 x0 x1 x3 x2 (0 : Int32) S)
      · refine OkF.eq 2 (Y := fun f => rk px kx f (d + 1) 235 145 [some (.ref x0), some (.int x1), some (.int x2), some (.int x3)] [.int (1 : Int32), .int x2] S) (fun f => rfl) ?_
        exact OkF.kl (ls1 := [some (.ref x0), some (.int x1), none, some (.int x3)]) (fun f => rfl) (ob235_145 d k119 hk119 x0 x1 x3 x2 (1 : Int32) S)
    · exact OkF.kl (ls1 := [some (.ref x0), some (.int x1), some (.int x2), none]) (fun f => rfl) (ob235_153 d x0 x1 x2 S)
def l235_119 : Nat → Nat → Int32 → Int32 → Int32 → Sx → Option (Int32 × Sx)
  | 0 => fun _ _ _ _ _ => none
  | n + 1 => fun x0 x1 x2 x3 S => b235_119 (l235_119 n) x0 x1 x2 x3 S
set_option maxRecDepth 100000 in
theorem ol235_119 (d : Nat) : ∀ (n : Nat) (x0 : Nat) (x1 : Int32) (x2 : Int32) (x3 : Int32) (S : Sx), OkF wI (fun f => rk px kx f (d + 1) 235 119 [some (.ref x0), some (.int x1), some (.int x2), some (.int x3)] [] S) (l235_119 n x0 x1 x2 x3 S) := by
  intro n
  induction n with
  | zero => intro x0 x1 x2 x3 S; exact OkF.no
  | succ n ih => intro x0 x1 x2 x3 S; exact ob235_119 d (l235_119 n) ih x0 x1 x2 x3 S
def b235_117 (x0 : Nat) (x1 : Int32) (x2 : Int32) (S : Sx) : Option (Int32 × Sx) :=
  l235_119 1000 x0 x1 x2 (0 : Int32) S
set_option maxRecDepth 100000 in
theorem ob235_117 (d : Nat) (x0 : Nat) (x1 : Int32) (x2 : Int32) (S : Sx) : OkF wI (fun f => rk px kx f (d + 1) 235 117 [some (.ref x0), some (.int x1), some (.int x2), none] [] S) (b235_117 x0 x1 x2 S) := by
  unfold b235_117
  refine OkF.eq 2 (Y := fun f => rk px kx f (d + 1) 235 119 [some (.ref x0), some (.int x1), some (.int x2), some (.int (0 : Int32))] [] S) (fun f => rfl) ?_
  exact OkF.kl (ls1 := [some (.ref x0), some (.int x1), some (.int x2), some (.int (0 : Int32))]) (fun f => rfl) (ol235_119 d 1000 x0 x1 x2 (0 : Int32) S)
def b235_83 (k83 : Nat → Int32 → Int32 → Int32 → Sx → Option (Int32 × Sx)) (x0 : Nat) (x1 : Int32) (x2 : Int32) (x3 : Int32) (S : Sx) : Option (Int32 × Sx) :=
  if (4 : Int32) ≤ x3 then b235_117 x0 x1 x2 S else if x1 = (9 : Int32) then if oc S x0 12 = true then (S.2.2.2.1 x0 2).bind fun a6 => if inb x3 (al S a6) = true then if 0 ≤ (S.2.1 a6 x3.toNatClampNeg) then b235_109 k83 x0 x1 x3 x2 (1 : Int32) S else b235_109 k83 x0 x1 x3 x2 (0 : Int32) S else none else none else b235_117 x0 x1 x2 S
set_option maxRecDepth 100000 in
theorem ob235_83 (d : Nat) (k83 : Nat → Int32 → Int32 → Int32 → Sx → Option (Int32 × Sx)) (hk83 : ∀ (x0 : Nat) (x1 : Int32) (x2 : Int32) (x3 : Int32) (S : Sx), OkF wI (fun f => rk px kx f (d + 1) 235 83 [some (.ref x0), some (.int x1), some (.int x2), some (.int x3)] [] S) (k83 x0 x1 x2 x3 S)) (x0 : Nat) (x1 : Int32) (x2 : Int32) (x3 : Int32) (S : Sx) : OkF wI (fun f => rk px kx f (d + 1) 235 83 [some (.ref x0), some (.int x1), some (.int x2), some (.int x3)] [] S) (b235_83 k83 x0 x1 x2 x3 S) := by
  unfold b235_83
  refine OkF.eq 3 (Y := fun f => if (4 : Int32) ≤ x3 then rk px kx f (d + 1) 235 117 [some (.ref x0), some (.int x1), some (.int x2), some (.int x3)] [] S else rk px kx f (d + 1) 235 88 [some (.ref x0), some (.int x1), some (.int x2), some (.int x3)] [] S) (fun f => rfl) ?_
  refine OkF.ite (fun _ => ?_) (fun _ => ?_)
  · exact OkF.kl (ls1 := [some (.ref x0), some (.int x1), some (.int x2), none]) (fun f => rfl) (ob235_117 d x0 x1 x2 S)
  · refine OkF.eq 3 (Y := fun f => if x1 = (9 : Int32) then rk px kx f (d + 1) 235 94 [some (.ref x0), some (.int x1), some (.int x2), some (.int x3)] [] S else rk px kx f (d + 1) 235 117 [some (.ref x0), some (.int x1), some (.int x2), some (.int x3)] [] S) (fun f => rfl) ?_
    refine OkF.ite (fun _ => ?_) (fun _ => ?_)
    · refine OkF.eq 3 (Y := fun f => if oc S x0 12 = true then rk px kx f (d + 1) 235 99 [some (.ref x0), some (.int x1), some (.int x2), some (.int x3)] (va_rf (S.2.2.2.1 x0 2) :: [.int x2]) S else none) (fun f => rfl) ?_
      refine OkF.grd (fun _ => ?_)
      refine OkF.rf (fun a6 => ?_)
      refine OkF.eq 2 (Y := fun f => if inb x3 (al S a6) = true then rk px kx f (d + 1) 235 101 [some (.ref x0), some (.int x1), some (.int x2), some (.int x3)] [.int (S.2.1 a6 x3.toNatClampNeg), .int x2] S else none) (fun f => rfl) ?_
      refine OkF.grd (fun _ => ?_)
      refine OkF.eq 1 (Y := fun f => if 0 ≤ (S.2.1 a6 x3.toNatClampNeg) then rk px kx f (d + 1) 235 108 [some (.ref x0), some (.int x1), some (.int x2), some (.int x3)] [.int x2] S else rk px kx f (d + 1) 235 104 [some (.ref x0), some (.int x1), some (.int x2), some (.int x3)] [.int x2] S) (fun f => rfl) ?_
      refine OkF.ite (fun _ => ?_) (fun _ => ?_)
      · refine OkF.eq 1 (Y := fun f => rk px kx f (d + 1) 235 109 [some (.ref x0), some (.int x1), some (.int x2), some (.int x3)] [.int (1 : Int32), .int x2] S) (fun f => rfl) ?_
        exact OkF.kl (ls1 := [some (.ref x0), some (.int x1), none, some (.int x3)]) (fun f => rfl) (ob235_109 d k83 hk83 x0 x1 x3 x2 (1 : Int32) S)
      · refine OkF.eq 2 (Y := fun f => rk px kx f (d + 1) 235 109 [some (.ref x0), some (.int x1), some (.int x2), some (.int x3)] [.int (0 : Int32), .int x2] S) (fun f => rfl) ?_
        exact OkF.kl (ls1 := [some (.ref x0), some (.int x1), none, some (.int x3)]) (fun f => rfl) (ob235_109 d k83 hk83 x0 x1 x3 x2 (0 : Int32) S)
    · exact OkF.kl (ls1 := [some (.ref x0), some (.int x1), some (.int x2), none]) (fun f => rfl) (ob235_117 d x0 x1 x2 S)
def l235_83 : Nat → Nat → Int32 → Int32 → Int32 → Sx → Option (Int32 × Sx)
  | 0 => fun _ _ _ _ _ => none
  | n + 1 => fun x0 x1 x2 x3 S => b235_83 (l235_83 n) x0 x1 x2 x3 S
set_option maxRecDepth 100000 in
theorem ol235_83 (d : Nat) : ∀ (n : Nat) (x0 : Nat) (x1 : Int32) (x2 : Int32) (x3 : Int32) (S : Sx), OkF wI (fun f => rk px kx f (d + 1) 235 83 [some (.ref x0), some (.int x1), some (.int x2), some (.int x3)] [] S) (l235_83 n x0 x1 x2 x3 S) := by
  intro n
  induction n with
  | zero => intro x0 x1 x2 x3 S; exact OkF.no
  | succ n ih => intro x0 x1 x2 x3 S; exact ob235_83 d (l235_83 n) ih x0 x1 x2 x3 S
def b235_81 (x0 : Nat) (x1 : Int32) (x2 : Int32) (S : Sx) : Option (Int32 × Sx) :=
  l235_83 1000 x0 x1 x2 (0 : Int32) S
set_option maxRecDepth 100000 in
theorem ob235_81 (d : Nat) (x0 : Nat) (x1 : Int32) (x2 : Int32) (S : Sx) : OkF wI (fun f => rk px kx f (d + 1) 235 81 [some (.ref x0), some (.int x1), some (.int x2), none] [] S) (b235_81 x0 x1 x2 S) := by
  unfold b235_81
  refine OkF.eq 2 (Y := fun f => rk px kx f (d + 1) 235 83 [some (.ref x0), some (.int x1), some (.int x2), some (.int (0 : Int32))] [] S) (fun f => rfl) ?_
  exact OkF.kl (ls1 := [some (.ref x0), some (.int x1), some (.int x2), some (.int (0 : Int32))]) (fun f => rfl) (ol235_83 d 1000 x0 x1 x2 (0 : Int32) S)
def b235_46 (k46 : Nat → Int32 → Int32 → Int32 → Sx → Option (Int32 × Sx)) (x0 : Nat) (x1 : Int32) (x2 : Int32) (x3 : Int32) (S : Sx) : Option (Int32 × Sx) :=
  if (6 : Int32) ≤ x3 then b235_81 x0 x1 x2 S else if x1 = (8 : Int32) then if oc S x0 12 = true then (S.2.2.2.1 x0 0).bind fun a7 => if inb x3 (al S a7) = true then if 0 ≤ (S.2.1 a7 x3.toNatClampNeg) then b235_73 k46 x0 x1 x3 x2 (1 : Int32) S else b235_73 k46 x0 x1 x3 x2 (0 : Int32) S else none else none else b235_81 x0 x1 x2 S
set_option maxRecDepth 100000 in
theorem ob235_46 (d : Nat) (k46 : Nat → Int32 → Int32 → Int32 → Sx → Option (Int32 × Sx)) (hk46 : ∀ (x0 : Nat) (x1 : Int32) (x2 : Int32) (x3 : Int32) (S : Sx), OkF wI (fun f => rk px kx f (d + 1) 235 46 [some (.ref x0), some (.int x1), some (.int x2), some (.int x3)] [] S) (k46 x0 x1 x2 x3 S)) (x0 : Nat) (x1 : Int32) (x2 : Int32) (x3 : Int32) (S : Sx) : OkF wI (fun f => rk px kx f (d + 1) 235 46 [some (.ref x0), some (.int x1), some (.int x2), some (.int x3)] [] S) (b235_46 k46 x0 x1 x2 x3 S) := by
  unfold b235_46
  refine OkF.eq 3 (Y := fun f => if (6 : Int32) ≤ x3 then rk px kx f (d + 1) 235 81 [some (.ref x0), some (.int x1), some (.int x2), some (.int x3)] [] S else rk px kx f (d + 1) 235 52 [some (.ref x0), some (.int x1), some (.int x2), some (.int x3)] [] S) (fun f => rfl) ?_
  refine OkF.ite (fun _ => ?_) (fun _ => ?_)
  · exact OkF.kl (ls1 := [some (.ref x0), some (.int x1), some (.int x2), none]) (fun f => rfl) (ob235_81 d x0 x1 x2 S)
  · refine OkF.eq 3 (Y := fun f => if x1 = (8 : Int32) then rk px kx f (d + 1) 235 58 [some (.ref x0), some (.int x1), some (.int x2), some (.int x3)] [] S else rk px kx f (d + 1) 235 81 [some (.ref x0), some (.int x1), some (.int x2), some (.int x3)] [] S) (fun f => rfl) ?_
    refine OkF.ite (fun _ => ?_) (fun _ => ?_)
    · refine OkF.eq 3 (Y := fun f => if oc S x0 12 = true then rk px kx f (d + 1) 235 63 [some (.ref x0), some (.int x1), some (.int x2), some (.int x3)] (va_rf (S.2.2.2.1 x0 0) :: [.int x2]) S else none) (fun f => rfl) ?_
      refine OkF.grd (fun _ => ?_)
      refine OkF.rf (fun a7 => ?_)
      refine OkF.eq 2 (Y := fun f => if inb x3 (al S a7) = true then rk px kx f (d + 1) 235 65 [some (.ref x0), some (.int x1), some (.int x2), some (.int x3)] [.int (S.2.1 a7 x3.toNatClampNeg), .int x2] S else none) (fun f => rfl) ?_
      refine OkF.grd (fun _ => ?_)
      refine OkF.eq 1 (Y := fun f => if 0 ≤ (S.2.1 a7 x3.toNatClampNeg) then rk px kx f (d + 1) 235 72 [some (.ref x0), some (.int x1), some (.int x2), some (.int x3)] [.int x2] S else rk px kx f (d + 1) 235 68 [some (.ref x0), some (.int x1), some (.int x2), some (.int x3)] [.int x2] S) (fun f => rfl) ?_
      refine OkF.ite (fun _ => ?_) (fun _ => ?_)
      · refine OkF.eq 1 (Y := fun f => rk px kx f (d + 1) 235 73 [some (.ref x0), some (.int x1), some (.int x2), some (.int x3)] [.int (1 : Int32), .int x2] S) (fun f => rfl) ?_
        exact OkF.kl (ls1 := [some (.ref x0), some (.int x1), none, some (.int x3)]) (fun f => rfl) (ob235_73 d k46 hk46 x0 x1 x3 x2 (1 : Int32) S)
      · refine OkF.eq 2 (Y := fun f => rk px kx f (d + 1) 235 73 [some (.ref x0), some (.int x1), some (.int x2), some (.int x3)] [.int (0 : Int32), .int x2] S) (fun f => rfl) ?_
        exact OkF.kl (ls1 := [some (.ref x0), some (.int x1), none, some (.int x3)]) (fun f => rfl) (ob235_73 d k46 hk46 x0 x1 x3 x2 (0 : Int32) S)
    · exact OkF.kl (ls1 := [some (.ref x0), some (.int x1), some (.int x2), none]) (fun f => rfl) (ob235_81 d x0 x1 x2 S)
def l235_46 : Nat → Nat → Int32 → Int32 → Int32 → Sx → Option (Int32 × Sx)
  | 0 => fun _ _ _ _ _ => none
  | n + 1 => fun x0 x1 x2 x3 S => b235_46 (l235_46 n) x0 x1 x2 x3 S
set_option maxRecDepth 100000 in
theorem ol235_46 (d : Nat) : ∀ (n : Nat) (x0 : Nat) (x1 : Int32) (x2 : Int32) (x3 : Int32) (S : Sx), OkF wI (fun f => rk px kx f (d + 1) 235 46 [some (.ref x0), some (.int x1), some (.int x2), some (.int x3)] [] S) (l235_46 n x0 x1 x2 x3 S) := by
  intro n
  induction n with
  | zero => intro x0 x1 x2 x3 S; exact OkF.no
  | succ n ih => intro x0 x1 x2 x3 S; exact ob235_46 d (l235_46 n) ih x0 x1 x2 x3 S
def b235_44 (x0 : Nat) (x1 : Int32) (x2 : Int32) (S : Sx) : Option (Int32 × Sx) :=
  l235_46 1000 x0 x1 x2 (0 : Int32) S
set_option maxRecDepth 100000 in
theorem ob235_44 (d : Nat) (x0 : Nat) (x1 : Int32) (x2 : Int32) (S : Sx) : OkF wI (fun f => rk px kx f (d + 1) 235 44 [some (.ref x0), some (.int x1), some (.int x2), none] [] S) (b235_44 x0 x1 x2 S) := by
  unfold b235_44
  refine OkF.eq 2 (Y := fun f => rk px kx f (d + 1) 235 46 [some (.ref x0), some (.int x1), some (.int x2), some (.int (0 : Int32))] [] S) (fun f => rfl) ?_
  exact OkF.kl (ls1 := [some (.ref x0), some (.int x1), some (.int x2), some (.int (0 : Int32))]) (fun f => rfl) (ol235_46 d 1000 x0 x1 x2 (0 : Int32) S)
def b235_4 (k4 : Nat → Int32 → Int32 → Int32 → Sx → Option (Int32 × Sx)) (x0 : Nat) (x1 : Int32) (x2 : Int32) (x3 : Int32) (S : Sx) : Option (Int32 × Sx) :=
  if oc S x0 12 = true then if (S.2.1 x0 4) ≤ x3 then b235_44 x0 x1 x2 S else if x1 = (7 : Int32) then if oc S x0 12 = true then (S.2.2.2.1 x0 6).bind fun a8 => if inb x3 (al S a8) = true then (m178 (S.2.1 a8 x3.toNatClampNeg) S).bind fun q9 => if q9.1 = 0 then b235_36 k4 x0 x1 x3 x2 (0 : Int32) q9.2 else b235_36 k4 x0 x1 x3 x2 (1 : Int32) q9.2 else none else none else b235_44 x0 x1 x2 S else none
set_option maxRecDepth 100000 in
theorem ob235_4 (d : Nat) (k4 : Nat → Int32 → Int32 → Int32 → Sx → Option (Int32 × Sx)) (hk4 : ∀ (x0 : Nat) (x1 : Int32) (x2 : Int32) (x3 : Int32) (S : Sx), OkF wI (fun f => rk px kx f (d + 1) 235 4 [some (.ref x0), some (.int x1), some (.int x2), some (.int x3)] [] S) (k4 x0 x1 x2 x3 S)) (x0 : Nat) (x1 : Int32) (x2 : Int32) (x3 : Int32) (S : Sx) : OkF wI (fun f => rk px kx f (d + 1) 235 4 [some (.ref x0), some (.int x1), some (.int x2), some (.int x3)] [] S) (b235_4 k4 x0 x1 x2 x3 S) := by
  unfold b235_4
  refine OkF.eq 3 (Y := fun f => if oc S x0 12 = true then rk px kx f (d + 1) 235 9 [some (.ref x0), some (.int x1), some (.int x2), some (.int x3)] [.int (S.2.1 x0 4), .int x3] S else none) (fun f => rfl) ?_
  refine OkF.grd (fun _ => ?_)
  refine OkF.eq 1 (Y := fun f => if (S.2.1 x0 4) ≤ x3 then rk px kx f (d + 1) 235 44 [some (.ref x0), some (.int x1), some (.int x2), some (.int x3)] [] S else rk px kx f (d + 1) 235 12 [some (.ref x0), some (.int x1), some (.int x2), some (.int x3)] [] S) (fun f => rfl) ?_
  refine OkF.ite (fun _ => ?_) (fun _ => ?_)
  · exact OkF.kl (ls1 := [some (.ref x0), some (.int x1), some (.int x2), none]) (fun f => rfl) (ob235_44 d x0 x1 x2 S)
  · refine OkF.eq 3 (Y := fun f => if x1 = (7 : Int32) then rk px kx f (d + 1) 235 18 [some (.ref x0), some (.int x1), some (.int x2), some (.int x3)] [] S else rk px kx f (d + 1) 235 44 [some (.ref x0), some (.int x1), some (.int x2), some (.int x3)] [] S) (fun f => rfl) ?_
    refine OkF.ite (fun _ => ?_) (fun _ => ?_)
    · refine OkF.eq 3 (Y := fun f => if oc S x0 12 = true then rk px kx f (d + 1) 235 23 [some (.ref x0), some (.int x1), some (.int x2), some (.int x3)] (va_rf (S.2.2.2.1 x0 6) :: [.int x2]) S else none) (fun f => rfl) ?_
      refine OkF.grd (fun _ => ?_)
      refine OkF.rf (fun a8 => ?_)
      refine OkF.eq 2 (Y := fun f => if inb x3 (al S a8) = true then rk px kx f (d + 1) 235 25 [some (.ref x0), some (.int x1), some (.int x2), some (.int x3)] [.int (S.2.1 a8 x3.toNatClampNeg), .int x2] S else none) (fun f => rfl) ?_
      refine OkF.grd (fun _ => ?_)
      refine OkF.eq 1 (Y := fun f => (rk px kx f (d + 0) 178 0 [some (.int (S.2.1 a8 x3.toNatClampNeg))] [] S).bind (fun q => rk px kx f (d + 1) 235 28 [some (.ref x0), some (.int x1), some (.int x2), some (.int x3)] (q.1.toList ++ [.int x2]) q.2)) (fun f => rfl) ?_
      refine OkF.bind (w1 := wI) (om178 (d + 0) (S.2.1 a8 x3.toNatClampNeg) S) (fun q9 => ?_)
      refine OkF.eq 1 (Y := fun f => if q9.1 = 0 then rk px kx f (d + 1) 235 35 [some (.ref x0), some (.int x1), some (.int x2), some (.int x3)] [.int x2] q9.2 else rk px kx f (d + 1) 235 31 [some (.ref x0), some (.int x1), some (.int x2), some (.int x3)] [.int x2] q9.2) (fun f => rfl) ?_
      refine OkF.ite (fun _ => ?_) (fun _ => ?_)
      · refine OkF.eq 1 (Y := fun f => rk px kx f (d + 1) 235 36 [some (.ref x0), some (.int x1), some (.int x2), some (.int x3)] [.int (0 : Int32), .int x2] q9.2) (fun f => rfl) ?_
        exact OkF.kl (ls1 := [some (.ref x0), some (.int x1), none, some (.int x3)]) (fun f => rfl) (ob235_36 d k4 hk4 x0 x1 x3 x2 (0 : Int32) q9.2)
      · refine OkF.eq 2 (Y := fun f => rk px kx f (d + 1) 235 36 [some (.ref x0), some (.int x1), some (.int x2), some (.int x3)] [.int (1 : Int32), .int x2] q9.2) (fun f => rfl) ?_
        exact OkF.kl (ls1 := [some (.ref x0), some (.int x1), none, some (.int x3)]) (fun f => rfl) (ob235_36 d k4 hk4 x0 x1 x3 x2 (1 : Int32) q9.2)
    · exact OkF.kl (ls1 := [some (.ref x0), some (.int x1), some (.int x2), none]) (fun f => rfl) (ob235_44 d x0 x1 x2 S)
def l235_4 : Nat → Nat → Int32 → Int32 → Int32 → Sx → Option (Int32 × Sx)
  | 0 => fun _ _ _ _ _ => none
  | n + 1 => fun x0 x1 x2 x3 S => b235_4 (l235_4 n) x0 x1 x2 x3 S
set_option maxRecDepth 100000 in
theorem ol235_4 (d : Nat) : ∀ (n : Nat) (x0 : Nat) (x1 : Int32) (x2 : Int32) (x3 : Int32) (S : Sx), OkF wI (fun f => rk px kx f (d + 1) 235 4 [some (.ref x0), some (.int x1), some (.int x2), some (.int x3)] [] S) (l235_4 n x0 x1 x2 x3 S) := by
  intro n
  induction n with
  | zero => intro x0 x1 x2 x3 S; exact OkF.no
  | succ n ih => intro x0 x1 x2 x3 S; exact ob235_4 d (l235_4 n) ih x0 x1 x2 x3 S
def m235 (x0 : Nat) (x1 : Int32) (S : Sx) : Option (Int32 × Sx) :=
  l235_4 1000 x0 x1 (0 : Int32) (0 : Int32) S
set_option maxRecDepth 100000 in
theorem om235 (d : Nat) (x0 : Nat) (x1 : Int32) (S : Sx) : OkF wI (fun f => rk px kx f (d + 1) 235 0 [some (.ref x0), some (.int x1), none, none] [] S) (m235 x0 x1 S) := by
  unfold m235
  refine OkF.eq 4 (Y := fun f => rk px kx f (d + 1) 235 4 [some (.ref x0), some (.int x1), some (.int (0 : Int32)), some (.int (0 : Int32))] [] S) (fun f => rfl) ?_
  exact OkF.kl (ls1 := [some (.ref x0), some (.int x1), some (.int (0 : Int32)), some (.int (0 : Int32))]) (fun f => rfl) (ol235_4 d 1000 x0 x1 (0 : Int32) (0 : Int32) S)
-- DoorSoldModel.count(I)I
def m234 (x0 : Nat) (x1 : Int32) (S : Sx) : Option (Int32 × Sx) :=
  (m150 x1.toInt64 (0 : Int64) (10 : Int64) S).bind fun q1 => if q1.1 = 0 then some ((-1 : Int32), q1.2) else if oc q1.2 x0 12 = true then (m235 x0 x1 q1.2).bind fun q2 => some (q2.1, q2.2) else none
set_option maxRecDepth 100000 in
theorem om234 (d : Nat) (x0 : Nat) (x1 : Int32) (S : Sx) : OkF wI (fun f => rk px kx f (d + 2) 234 0 [some (.ref x0), some (.int x1)] [] S) (m234 x0 x1 S) := by
  unfold m234
  refine OkF.eq 5 (Y := fun f => (rk px kx f (d + 1) 150 0 [some (.long x1.toInt64), none, some (.long (0 : Int64)), none, some (.long (10 : Int64)), none] [] S).bind (fun q => rk px kx f (d + 2) 234 9 [some (.ref x0), some (.int x1)] (q.1.toList ++ []) q.2)) (fun f => rfl) ?_
  refine OkF.bind (w1 := wI) (om150 (d + 1) x1.toInt64 (0 : Int64) (10 : Int64) S) (fun q1 => ?_)
  refine OkF.eq 1 (Y := fun f => if q1.1 = 0 then rk px kx f (d + 2) 234 20 [some (.ref x0), some (.int x1)] [] q1.2 else rk px kx f (d + 2) 234 12 [some (.ref x0), some (.int x1)] [] q1.2) (fun f => rfl) ?_
  refine OkF.ite (fun _ => ?_) (fun _ => ?_)
  · exact OkF.ret 2 (fun f => rfl)
  · refine OkF.eq 3 (Y := fun f => if oc q1.2 x0 12 = true then (rk px kx f (d + 1) 235 0 [some (.ref x0), some (.int x1), none, none] [] q1.2).bind (fun q => rk px kx f (d + 2) 234 17 [some (.ref x0), some (.int x1)] (q.1.toList ++ []) q.2) else none) (fun f => rfl) ?_
    refine OkF.grd (fun _ => ?_)
    refine OkF.bind (w1 := wI) (om235 (d + 0) x0 x1 q1.2) (fun q2 => ?_)
    exact OkF.ret 2 (fun f => rfl)
-- DoorSoldModel.finding()I
def m236 (x0 : Nat) (S : Sx) : Option (Int32 × Sx) :=
  if oc S x0 12 = true then some (S.2.1 x0 16, S) else none
set_option maxRecDepth 100000 in
theorem om236 (d : Nat) (x0 : Nat) (S : Sx) : OkF wI (fun f => rk px kx f (d + 0) 236 0 [some (.ref x0)] [] S) (m236 x0 S) := by
  unfold m236
  refine OkF.eq 2 (Y := fun f => if oc S x0 12 = true then rk px kx f (d + 0) 236 4 [some (.ref x0)] [.int (S.2.1 x0 16)] S else none) (fun f => rfl) ?_
  refine OkF.grd (fun _ => ?_)
  exact OkF.ret 1 (fun f => rfl)
-- DoorSoldModel.findings(I)I
def m237 (x0 : Nat) (x1 : Int32) (S : Sx) : Option (Int32 × Sx) :=
  (m150 x1.toInt64 (1 : Int64) (5 : Int64) S).bind fun q1 => if q1.1 = 0 then some ((-1 : Int32), q1.2) else if oc q1.2 x0 12 = true then (q1.2.2.2.2.1 x0 17).bind fun a2 => if inb x1 (al q1.2 a2) = true then some (q1.2.2.1 a2 x1.toNatClampNeg, q1.2) else none else none
set_option maxRecDepth 100000 in
theorem om237 (d : Nat) (x0 : Nat) (x1 : Int32) (S : Sx) : OkF wI (fun f => rk px kx f (d + 1) 237 0 [some (.ref x0), some (.int x1)] [] S) (m237 x0 x1 S) := by
  unfold m237
  refine OkF.eq 5 (Y := fun f => (rk px kx f (d + 0) 150 0 [some (.long x1.toInt64), none, some (.long (1 : Int64)), none, some (.long (5 : Int64)), none] [] S).bind (fun q => rk px kx f (d + 1) 237 9 [some (.ref x0), some (.int x1)] (q.1.toList ++ []) q.2)) (fun f => rfl) ?_
  refine OkF.bind (w1 := wI) (om150 (d + 0) x1.toInt64 (1 : Int64) (5 : Int64) S) (fun q1 => ?_)
  refine OkF.eq 1 (Y := fun f => if q1.1 = 0 then rk px kx f (d + 1) 237 21 [some (.ref x0), some (.int x1)] [] q1.2 else rk px kx f (d + 1) 237 12 [some (.ref x0), some (.int x1)] [] q1.2) (fun f => rfl) ?_
  refine OkF.ite (fun _ => ?_) (fun _ => ?_)
  · exact OkF.ret 2 (fun f => rfl)
  · refine OkF.eq 2 (Y := fun f => if oc q1.2 x0 12 = true then rk px kx f (d + 1) 237 16 [some (.ref x0), some (.int x1)] (va_rf (q1.2.2.2.2.1 x0 17) :: []) q1.2 else none) (fun f => rfl) ?_
    refine OkF.grd (fun _ => ?_)
    refine OkF.rf (fun a2 => ?_)
    refine OkF.eq 2 (Y := fun f => if inb x1 (al q1.2 a2) = true then rk px kx f (d + 1) 237 18 [some (.ref x0), some (.int x1)] [.int (q1.2.2.1 a2 x1.toNatClampNeg)] q1.2 else none) (fun f => rfl) ?_
    refine OkF.grd (fun _ => ?_)
    exact OkF.ret 2 (fun f => rfl)
