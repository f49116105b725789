-- DoorSold$Row.digestOnto(J)J
def b146_15 (k15 : Nat → Int64 → Int32 → Sx → Option (Int64 × Sx)) (x0 : Nat) (x3 : Int64) (x5 : Int32) (S : Sx) : Option (Int64 × Sx) :=
  if oc S x0 8 = true then if (S.2.1 x0 1) ≤ x5 then some (x3, S) else if oc S x0 8 = true then (S.2.2.2.1 x0 0).bind fun a1 => if inb x5 (al S a1) = true then k15 x0 (((31 : Int64) * x3) + ((S.2.1 a1 x5.toNatClampNeg).toInt64)) (x5 + (1 : Int32)) S else none else none else none
set_option maxRecDepth 100000 in
theorem ob146_15 (d : Nat) (k15 : Nat → Int64 → Int32 → Sx → Option (Int64 × Sx)) (hk15 : ∀ (x0 : Nat) (x3 : Int64) (x5 : Int32) (S : Sx), OkF wL (fun f => rk px kx f (d + 0) 146 15 [some (.ref x0), none, none, some (.long x3), none, some (.int x5)] [] S) (k15 x0 x3 x5 S)) (x0 : Nat) (x3 : Int64) (x5 : Int32) (S : Sx) : OkF wL (fun f => rk px kx f (d + 0) 146 15 [some (.ref x0), none, none, some (.long x3), none, some (.int x5)] [] S) (b146_15 k15 x0 x3 x5 S) := by
  unfold b146_15
  refine OkF.eq 3 (Y := fun f => if oc S x0 8 = true then rk px kx f (d + 0) 146 21 [some (.ref x0), none, none, some (.long x3), none, some (.int x5)] [.int (S.2.1 x0 1), .int x5] S else none) (fun f => rfl) ?_
  refine OkF.grd (fun _ => ?_)
  refine OkF.eq 1 (Y := fun f => if (S.2.1 x0 1) ≤ x5 then rk px kx f (d + 0) 146 45 [some (.ref x0), none, none, some (.long x3), none, some (.int x5)] [] S else rk px kx f (d + 0) 146 24 [some (.ref x0), none, none, some (.long x3), none, some (.int x5)] [] S) (fun f => rfl) ?_
  refine OkF.ite (fun _ => ?_) (fun _ => ?_)
  · exact OkF.ret 2 (fun f => rfl)
  · refine OkF.eq 5 (Y := fun f => if oc S x0 8 = true then rk px kx f (d + 0) 146 33 [some (.ref x0), none, none, some (.long x3), none, some (.int x5)] (va_rf (S.2.2.2.1 x0 0) :: [.long ((31 : Int64) * x3)]) S else none) (fun f => rfl) ?_
    refine OkF.grd (fun _ => ?_)
    refine OkF.rf (fun a1 => ?_)
    refine OkF.eq 2 (Y := fun f => if inb x5 (al S a1) = true then rk px kx f (d + 0) 146 36 [some (.ref x0), none, none, some (.long x3), none, some (.int x5)] [.int (S.2.1 a1 x5.toNatClampNeg), .long ((31 : Int64) * x3)] S else none) (fun f => rfl) ?_
    refine OkF.grd (fun _ => ?_)
    refine OkF.eq 5 (Y := fun f => rk px kx f (d + 0) 146 15 [some (.ref x0), none, none, some (.long (((31 : Int64) * x3) + ((S.2.1 a1 x5.toNatClampNeg).toInt64))), none, some (.int (x5 + (1 : Int32)))] [] S) (fun f => rfl) ?_
    exact OkF.kl (ls1 := [some (.ref x0), none, none, some (.long (((31 : Int64) * x3) + ((S.2.1 a1 x5.toNatClampNeg).toInt64))), none, some (.int (x5 + (1 : Int32)))]) (fun f => rfl) (hk15 x0 (((31 : Int64) * x3) + ((S.2.1 a1 x5.toNatClampNeg).toInt64)) (x5 + (1 : Int32)) S)
def l146_15 : Nat → Nat → Int64 → Int32 → Sx → Option (Int64 × Sx)
  | 0 => fun _ _ _ _ => none
  | n + 1 => fun x0 x3 x5 S => b146_15 (l146_15 n) x0 x3 x5 S
set_option maxRecDepth 100000 in
theorem ol146_15 (d : Nat) : ∀ (n : Nat) (x0 : Nat) (x3 : Int64) (x5 : Int32) (S : Sx), OkF wL (fun f => rk px kx f (d + 0) 146 15 [some (.ref x0), none, none, some (.long x3), none, some (.int x5)] [] S) (l146_15 n x0 x3 x5 S) := by
  intro n
  induction n with
  | zero => intro x0 x3 x5 S; exact OkF.no
  | succ n ih => intro x0 x3 x5 S; exact ob146_15 d (l146_15 n) ih x0 x3 x5 S
def m146 (x0 : Nat) (x1 : Int64) (S : Sx) : Option (Int64 × Sx) :=
  if oc S x0 8 = true then l146_15 1000 x0 (((31 : Int64) * x1) + ((S.2.1 x0 1).toInt64)) (0 : Int32) S else none
set_option maxRecDepth 100000 in
theorem om146 (d : Nat) (x0 : Nat) (x1 : Int64) (S : Sx) : OkF wL (fun f => rk px kx f (d + 0) 146 0 [some (.ref x0), some (.long x1), none, none, none, none] [] S) (m146 x0 x1 S) := by
  unfold m146
  refine OkF.eq 5 (Y := fun f => if oc S x0 8 = true then rk px kx f (d + 0) 146 9 [some (.ref x0), some (.long x1), none, none, none, none] [.int (S.2.1 x0 1), .long ((31 : Int64) * x1)] S else none) (fun f => rfl) ?_
  refine OkF.grd (fun _ => ?_)
  refine OkF.eq 5 (Y := fun f => rk px kx f (d + 0) 146 15 [some (.ref x0), some (.long x1), none, some (.long (((31 : Int64) * x1) + ((S.2.1 x0 1).toInt64))), none, some (.int (0 : Int32))] [] S) (fun f => rfl) ?_
  exact OkF.kl (ls1 := [some (.ref x0), none, none, some (.long (((31 : Int64) * x1) + ((S.2.1 x0 1).toInt64))), none, some (.int (0 : Int32))]) (fun f => rfl) (ol146_15 d 1000 x0 (((31 : Int64) * x1) + ((S.2.1 x0 1).toInt64)) (0 : Int32) S)
-- DoorSold.digest()J
def b145_47 (k33 : Nat → Int64 → Int32 → Sx → Option (Int64 × Sx)) (k47 : Nat → Int64 → Int32 → Int32 → Sx → Option (Int64 × Sx)) (x0 : Nat) (x1 : Int64) (x3 : Int32) (x4 : Int32) (S : Sx) : Option (Int64 × Sx) :=
  if (8 : Int32) ≤ x4 then k33 x0 x1 (x3 + (1 : Int32)) S else if oc S x0 11 = true then (m44 x0 x3 x4 S).bind fun q1 => k47 x0 (((31 : Int64) * x1) + q1.1.toInt64) x3 (x4 + (1 : Int32)) q1.2 else none
set_option maxRecDepth 100000 in
theorem ob145_47 (d : Nat) (k33 : Nat → Int64 → Int32 → Sx → Option (Int64 × Sx)) (hk33 : ∀ (x0 : Nat) (x1 : Int64) (x3 : Int32) (S : Sx), OkF wL (fun f => rk px kx f (d + 4) 145 33 [some (.ref x0), some (.long x1), none, some (.int x3), none] [] S) (k33 x0 x1 x3 S)) (k47 : Nat → Int64 → Int32 → Int32 → Sx → Option (Int64 × Sx)) (hk47 : ∀ (x0 : Nat) (x1 : Int64) (x3 : Int32) (x4 : Int32) (S : Sx), OkF wL (fun f => rk px kx f (d + 4) 145 47 [some (.ref x0), some (.long x1), none, some (.int x3), some (.int x4)] [] S) (k47 x0 x1 x3 x4 S)) (x0 : Nat) (x1 : Int64) (x3 : Int32) (x4 : Int32) (S : Sx) : OkF wL (fun f => rk px kx f (d + 4) 145 47 [some (.ref x0), some (.long x1), none, some (.int x3), some (.int x4)] [] S) (b145_47 k33 k47 x0 x1 x3 x4 S) := by
  unfold b145_47
  refine OkF.eq 3 (Y := fun f => if (8 : Int32) ≤ x4 then rk px kx f (d + 4) 145 75 [some (.ref x0), some (.long x1), none, some (.int x3), some (.int x4)] [] S else rk px kx f (d + 4) 145 54 [some (.ref x0), some (.long x1), none, some (.int x3), some (.int x4)] [] S) (fun f => rfl) ?_
  refine OkF.ite (fun _ => ?_) (fun _ => ?_)
  · refine OkF.eq 2 (Y := fun f => rk px kx f (d + 4) 145 33 [some (.ref x0), some (.long x1), none, some (.int (x3 + (1 : Int32))), some (.int x4)] [] S) (fun f => rfl) ?_
    exact OkF.kl (ls1 := [some (.ref x0), some (.long x1), none, some (.int (x3 + (1 : Int32))), none]) (fun f => rfl) (hk33 x0 x1 (x3 + (1 : Int32)) S)
  · refine OkF.eq 7 (Y := fun f => if oc S x0 11 = true then (rk px kx f (d + 3) 44 0 [some (.ref x0), some (.int x3), some (.int x4)] [] S).bind (fun q => rk px kx f (d + 4) 145 66 [some (.ref x0), some (.long x1), none, some (.int x3), some (.int x4)] (q.1.toList ++ [.long ((31 : Int64) * x1)]) q.2) else none) (fun f => rfl) ?_
    refine OkF.grd (fun _ => ?_)
    refine OkF.bind (w1 := wI) (om44 (d + 0) x0 x3 x4 S) (fun q1 => ?_)
    refine OkF.eq 5 (Y := fun f => rk px kx f (d + 4) 145 47 [some (.ref x0), some (.long (((31 : Int64) * x1) + q1.1.toInt64)), none, some (.int x3), some (.int (x4 + (1 : Int32)))] [] q1.2) (fun f => rfl) ?_
    exact OkF.kl (ls1 := [some (.ref x0), some (.long (((31 : Int64) * x1) + q1.1.toInt64)), none, some (.int x3), some (.int (x4 + (1 : Int32)))]) (fun f => rfl) (hk47 x0 (((31 : Int64) * x1) + q1.1.toInt64) x3 (x4 + (1 : Int32)) q1.2)
def l145_47 (k33 : Nat → Int64 → Int32 → Sx → Option (Int64 × Sx)) : Nat → Nat → Int64 → Int32 → Int32 → Sx → Option (Int64 × Sx)
  | 0 => fun _ _ _ _ _ => none
  | n + 1 => fun x0 x1 x3 x4 S => b145_47 k33 (l145_47 k33 n) x0 x1 x3 x4 S
set_option maxRecDepth 100000 in
theorem ol145_47 (d : Nat) (k33 : Nat → Int64 → Int32 → Sx → Option (Int64 × Sx)) (hk33 : ∀ (x0 : Nat) (x1 : Int64) (x3 : Int32) (S : Sx), OkF wL (fun f => rk px kx f (d + 4) 145 33 [some (.ref x0), some (.long x1), none, some (.int x3), none] [] S) (k33 x0 x1 x3 S)) : ∀ (n : Nat) (x0 : Nat) (x1 : Int64) (x3 : Int32) (x4 : Int32) (S : Sx), OkF wL (fun f => rk px kx f (d + 4) 145 47 [some (.ref x0), some (.long x1), none, some (.int x3), some (.int x4)] [] S) (l145_47 k33 n x0 x1 x3 x4 S) := by
  intro n
  induction n with
  | zero => intro x0 x1 x3 x4 S; exact OkF.no
  | succ n ih => intro x0 x1 x3 x4 S; exact ob145_47 d k33 hk33 (l145_47 k33 n) ih x0 x1 x3 x4 S
def b145_118 (k83 : Nat → Int64 → Int32 → Sx → Option (Int64 × Sx)) (x0 : Nat) (x3 : Int32) (s0 : Int64) (s1 : Int32) (S : Sx) : Option (Int64 × Sx) :=
  k83 x0 (s0 + s1.toInt64) (x3 + (1 : Int32)) S
set_option maxRecDepth 100000 in
theorem ob145_118 (d : Nat) (k83 : Nat → Int64 → Int32 → Sx → Option (Int64 × Sx)) (hk83 : ∀ (x0 : Nat) (x1 : Int64) (x3 : Int32) (S : Sx), OkF wL (fun f => rk px kx f (d + 4) 145 83 [some (.ref x0), some (.long x1), none, some (.int x3), none] [] S) (k83 x0 x1 x3 S)) (x0 : Nat) (x3 : Int32) (s0 : Int64) (s1 : Int32) (S : Sx) : OkF wL (fun f => rk px kx f (d + 4) 145 118 [some (.ref x0), none, none, some (.int x3), none] [.int s1, .long s0] S) (b145_118 k83 x0 x3 s0 s1 S) := by
  unfold b145_118
  refine OkF.eq 5 (Y := fun f => rk px kx f (d + 4) 145 83 [some (.ref x0), some (.long (s0 + s1.toInt64)), none, some (.int (x3 + (1 : Int32))), none] [] S) (fun f => rfl) ?_
  exact OkF.kl (ls1 := [some (.ref x0), some (.long (s0 + s1.toInt64)), none, some (.int (x3 + (1 : Int32))), none]) (fun f => rfl) (hk83 x0 (s0 + s1.toInt64) (x3 + (1 : Int32)) S)
def b145_154 (k154 : Nat → Int64 → Int32 → Sx → Option (Int64 × Sx)) (x0 : Nat) (x1 : Int64) (x3 : Int32) (S : Sx) : Option (Int64 × Sx) :=
  if (4 : Int32) ≤ x3 then some (x1, S) else if oc S x0 11 = true then (S.2.2.2.1 x0 1).bind fun a2 => if inb x3 (aw S 3 a2) = true then (S.2.2.2.1 a2 x3.toNatClampNeg).bind fun a3 => if oc S a3 8 = true then (m146 a3 x1 S).bind fun q4 => k154 x0 q4.1 (x3 + (1 : Int32)) q4.2 else none else none else none
set_option maxRecDepth 100000 in
theorem ob145_154 (d : Nat) (k154 : Nat → Int64 → Int32 → Sx → Option (Int64 × Sx)) (hk154 : ∀ (x0 : Nat) (x1 : Int64) (x3 : Int32) (S : Sx), OkF wL (fun f => rk px kx f (d + 4) 145 154 [some (.ref x0), some (.long x1), none, some (.int x3), none] [] S) (k154 x0 x1 x3 S)) (x0 : Nat) (x1 : Int64) (x3 : Int32) (S : Sx) : OkF wL (fun f => rk px kx f (d + 4) 145 154 [some (.ref x0), some (.long x1), none, some (.int x3), none] [] S) (b145_154 k154 x0 x1 x3 S) := by
  unfold b145_154
  refine OkF.eq 3 (Y := fun f => if (4 : Int32) ≤ x3 then rk px kx f (d + 4) 145 176 [some (.ref x0), some (.long x1), none, some (.int x3), none] [] S else rk px kx f (d + 4) 145 159 [some (.ref x0), some (.long x1), none, some (.int x3), none] [] S) (fun f => rfl) ?_
  refine OkF.ite (fun _ => ?_) (fun _ => ?_)
  · exact OkF.ret 2 (fun f => rfl)
  · refine OkF.eq 2 (Y := fun f => if oc S x0 11 = true then rk px kx f (d + 4) 145 163 [some (.ref x0), some (.long x1), none, some (.int x3), none] (va_rf (S.2.2.2.1 x0 1) :: []) S else none) (fun f => rfl) ?_
    refine OkF.grd (fun _ => ?_)
    refine OkF.rf (fun a2 => ?_)
    refine OkF.eq 2 (Y := fun f => if inb x3 (aw S 3 a2) = true then rk px kx f (d + 4) 145 165 [some (.ref x0), some (.long x1), none, some (.int x3), none] (va_rf (S.2.2.2.1 a2 x3.toNatClampNeg) :: []) S else none) (fun f => rfl) ?_
    refine OkF.grd (fun _ => ?_)
    refine OkF.rf (fun a3 => ?_)
    refine OkF.eq 2 (Y := fun f => if oc S a3 8 = true then (rk px kx f (d + 3) 146 0 [some (.ref a3), some (.long x1), none, none, none, none] [] S).bind (fun q => rk px kx f (d + 4) 145 169 [some (.ref x0), some (.long x1), none, some (.int x3), none] (q.1.toList ++ []) q.2) else none) (fun f => rfl) ?_
    refine OkF.grd (fun _ => ?_)
    refine OkF.bind (w1 := wL) (om146 (d + 3) a3 x1 S) (fun q4 => ?_)
    refine OkF.eq 3 (Y := fun f => rk px kx f (d + 4) 145 154 [some (.ref x0), some (.long q4.1), none, some (.int (x3 + (1 : Int32))), none] [] q4.2) (fun f => rfl) ?_
    exact OkF.kl (ls1 := [some (.ref x0), some (.long q4.1), none, some (.int (x3 + (1 : Int32))), none]) (fun f => rfl) (hk154 x0 q4.1 (x3 + (1 : Int32)) q4.2)
def l145_154 : Nat → Nat → Int64 → Int32 → Sx → Option (Int64 × Sx)
  | 0 => fun _ _ _ _ => none
  | n + 1 => fun x0 x1 x3 S => b145_154 (l145_154 n) x0 x1 x3 S
set_option maxRecDepth 100000 in
theorem ol145_154 (d : Nat) : ∀ (n : Nat) (x0 : Nat) (x1 : Int64) (x3 : Int32) (S : Sx), OkF wL (fun f => rk px kx f (d + 4) 145 154 [some (.ref x0), some (.long x1), none, some (.int x3), none] [] S) (l145_154 n x0 x1 x3 S) := by
  intro n
  induction n with
  | zero => intro x0 x1 x3 S; exact OkF.no
  | succ n ih => intro x0 x1 x3 S; exact ob145_154 d (l145_154 n) ih x0 x1 x3 S
def b145_129 (k129 : Nat → Int64 → Int32 → Sx → Option (Int64 × Sx)) (x0 : Nat) (x1 : Int64) (x3 : Int32) (S : Sx) : Option (Int64 × Sx) :=
  if (6 : Int32) ≤ x3 then l145_154 1000 x0 x1 (0 : Int32) S else if oc S x0 11 = true then (S.2.2.2.1 x0 0).bind fun a5 => if inb x3 (aw S 3 a5) = true then (S.2.2.2.1 a5 x3.toNatClampNeg).bind fun a6 => if oc S a6 8 = true then (m146 a6 x1 S).bind fun q7 => k129 x0 q7.1 (x3 + (1 : Int32)) q7.2 else none else none else none
set_option maxRecDepth 100000 in
theorem ob145_129 (d : Nat) (k129 : Nat → Int64 → Int32 → Sx → Option (Int64 × Sx)) (hk129 : ∀ (x0 : Nat) (x1 : Int64) (x3 : Int32) (S : Sx), OkF wL (fun f => rk px kx f (d + 4) 145 129 [some (.ref x0), some (.long x1), none, some (.int x3), none] [] S) (k129 x0 x1 x3 S)) (x0 : Nat) (x1 : Int64) (x3 : Int32) (S : Sx) : OkF wL (fun f => rk px kx f (d + 4) 145 129 [some (.ref x0), some (.long x1), none, some (.int x3), none] [] S) (b145_129 k129 x0 x1 x3 S) := by
  unfold b145_129
  refine OkF.eq 3 (Y := fun f => if (6 : Int32) ≤ x3 then rk px kx f (d + 4) 145 152 [some (.ref x0), some (.long x1), none, some (.int x3), none] [] S else rk px kx f (d + 4) 145 135 [some (.ref x0), some (.long x1), none, some (.int x3), none] [] S) (fun f => rfl) ?_
  refine OkF.ite (fun _ => ?_) (fun _ => ?_)
  · refine OkF.eq 2 (Y := fun f => rk px kx f (d + 4) 145 154 [some (.ref x0), some (.long x1), none, some (.int (0 : Int32)), none] [] S) (fun f => rfl) ?_
    exact OkF.kl (ls1 := [some (.ref x0), some (.long x1), none, some (.int (0 : Int32)), none]) (fun f => rfl) (ol145_154 d 1000 x0 x1 (0 : Int32) S)
  · refine OkF.eq 2 (Y := fun f => if oc S x0 11 = true then rk px kx f (d + 4) 145 139 [some (.ref x0), some (.long x1), none, some (.int x3), none] (va_rf (S.2.2.2.1 x0 0) :: []) S else none) (fun f => rfl) ?_
    refine OkF.grd (fun _ => ?_)
    refine OkF.rf (fun a5 => ?_)
    refine OkF.eq 2 (Y := fun f => if inb x3 (aw S 3 a5) = true then rk px kx f (d + 4) 145 141 [some (.ref x0), some (.long x1), none, some (.int x3), none] (va_rf (S.2.2.2.1 a5 x3.toNatClampNeg) :: []) S else none) (fun f => rfl) ?_
    refine OkF.grd (fun _ => ?_)
    refine OkF.rf (fun a6 => ?_)
    refine OkF.eq 2 (Y := fun f => if oc S a6 8 = true then (rk px kx f (d + 3) 146 0 [some (.ref a6), some (.long x1), none, none, none, none] [] S).bind (fun q => rk px kx f (d + 4) 145 145 [some (.ref x0), some (.long x1), none, some (.int x3), none] (q.1.toList ++ []) q.2) else none) (fun f => rfl) ?_
    refine OkF.grd (fun _ => ?_)
    refine OkF.bind (w1 := wL) (om146 (d + 3) a6 x1 S) (fun q7 => ?_)
    refine OkF.eq 3 (Y := fun f => rk px kx f (d + 4) 145 129 [some (.ref x0), some (.long q7.1), none, some (.int (x3 + (1 : Int32))), none] [] q7.2) (fun f => rfl) ?_
    exact OkF.kl (ls1 := [some (.ref x0), some (.long q7.1), none, some (.int (x3 + (1 : Int32))), none]) (fun f => rfl) (hk129 x0 q7.1 (x3 + (1 : Int32)) q7.2)
def l145_129 : Nat → Nat → Int64 → Int32 → Sx → Option (Int64 × Sx)
  | 0 => fun _ _ _ _ => none
  | n + 1 => fun x0 x1 x3 S => b145_129 (l145_129 n) x0 x1 x3 S
set_option maxRecDepth 100000 in
theorem ol145_129 (d : Nat) : ∀ (n : Nat) (x0 : Nat) (x1 : Int64) (x3 : Int32) (S : Sx), OkF wL (fun f => rk px kx f (d + 4) 145 129 [some (.ref x0), some (.long x1), none, some (.int x3), none] [] S) (l145_129 n x0 x1 x3 S) := by
  intro n
  induction n with
  | zero => intro x0 x1 x3 S; exact OkF.no
  | succ n ih => intro x0 x1 x3 S; exact ob145_129 d (l145_129 n) ih x0 x1 x3 S
def b145_83 (k83 : Nat → Int64 → Int32 → Sx → Option (Int64 × Sx)) (x0 : Nat) (x1 : Int64) (x3 : Int32) (S : Sx) : Option (Int64 × Sx) :=
  if (3 : Int32) ≤ x3 then l145_129 1000 x0 x1 (0 : Int32) S else if oc S x0 11 = true then (S.2.2.2.1 x0 5).bind fun a8 => if inb x3 (aw S 5 a8) = true then (S.2.2.2.1 a8 x3.toNatClampNeg).bind fun a9 => if oc S a9 4 = true then if (S.2.1 a9 9) = 0 then b145_118 k83 x0 x3 ((31 : Int64) * x1) (-1 : Int32) S else if oc S x0 11 = true then (S.2.2.2.1 x0 5).bind fun a10 => if inb x3 (aw S 5 a10) = true then (S.2.2.2.1 a10 x3.toNatClampNeg).bind fun a11 => if oc S a11 4 = true then b145_118 k83 x0 x3 ((31 : Int64) * x1) (S.2.1 a11 15) S else none else none else none else none else none else none
set_option maxRecDepth 100000 in
theorem ob145_83 (d : Nat) (k83 : Nat → Int64 → Int32 → Sx → Option (Int64 × Sx)) (hk83 : ∀ (x0 : Nat) (x1 : Int64) (x3 : Int32) (S : Sx), OkF wL (fun f => rk px kx f (d + 4) 145 83 [some (.ref x0), some (.long x1), none, some (.int x3), none] [] S) (k83 x0 x1 x3 S)) (x0 : Nat) (x1 : Int64) (x3 : Int32) (S : Sx) : OkF wL (fun f => rk px kx f (d + 4) 145 83 [some (.ref x0), some (.long x1), none, some (.int x3), none] [] S) (b145_83 k83 x0 x1 x3 S) := by
  unfold b145_83
  refine OkF.eq 3 (Y := fun f => if (3 : Int32) ≤ x3 then rk px kx f (d + 4) 145 127 [some (.ref x0), some (.long x1), none, some (.int x3), none] [] S else rk px kx f (d + 4) 145 88 [some (.ref x0), some (.long x1), none, some (.int x3), none] [] S) (fun f => rfl) ?_
  refine OkF.ite (fun _ => ?_) (fun _ => ?_)
  · refine OkF.eq 2 (Y := fun f => rk px kx f (d + 4) 145 129 [some (.ref x0), some (.long x1), none, some (.int (0 : Int32)), none] [] S) (fun f => rfl) ?_
    exact OkF.kl (ls1 := [some (.ref x0), some (.long x1), none, some (.int (0 : Int32)), none]) (fun f => rfl) (ol145_129 d 1000 x0 x1 (0 : Int32) S)
  · refine OkF.eq 5 (Y := fun f => if oc S x0 11 = true then rk px kx f (d + 4) 145 97 [some (.ref x0), some (.long x1), none, some (.int x3), none] (va_rf (S.2.2.2.1 x0 5) :: [.long ((31 : Int64) * x1)]) S else none) (fun f => rfl) ?_
    refine OkF.grd (fun _ => ?_)
    refine OkF.rf (fun a8 => ?_)
    refine OkF.eq 2 (Y := fun f => if inb x3 (aw S 5 a8) = true then rk px kx f (d + 4) 145 99 [some (.ref x0), some (.long x1), none, some (.int x3), none] (va_rf (S.2.2.2.1 a8 x3.toNatClampNeg) :: [.long ((31 : Int64) * x1)]) S else none) (fun f => rfl) ?_
    refine OkF.grd (fun _ => ?_)
    refine OkF.rf (fun a9 => ?_)
    refine OkF.eq 1 (Y := fun f => if oc S a9 4 = true then rk px kx f (d + 4) 145 102 [some (.ref x0), some (.long x1), none, some (.int x3), none] [.int (S.2.1 a9 9), .long ((31 : Int64) * x1)] S else none) (fun f => rfl) ?_
    refine OkF.grd (fun _ => ?_)
    refine OkF.eq 1 (Y := fun f => if (S.2.1 a9 9) = 0 then rk px kx f (d + 4) 145 105 [some (.ref x0), some (.long x1), none, some (.int x3), none] [.long ((31 : Int64) * x1)] S else rk px kx f (d + 4) 145 109 [some (.ref x0), some (.long x1), none, some (.int x3), none] [.long ((31 : Int64) * x1)] S) (fun f => rfl) ?_
    refine OkF.ite (fun _ => ?_) (fun _ => ?_)
    · refine OkF.eq 2 (Y := fun f => rk px kx f (d + 4) 145 118 [some (.ref x0), some (.long x1), none, some (.int x3), none] [.int (-1 : Int32), .long ((31 : Int64) * x1)] S) (fun f => rfl) ?_
      exact OkF.kl (ls1 := [some (.ref x0), none, none, some (.int x3), none]) (fun f => rfl) (ob145_118 d k83 hk83 x0 x3 ((31 : Int64) * x1) (-1 : Int32) S)
    · refine OkF.eq 2 (Y := fun f => if oc S x0 11 = true then rk px kx f (d + 4) 145 113 [some (.ref x0), some (.long x1), none, some (.int x3), none] (va_rf (S.2.2.2.1 x0 5) :: [.long ((31 : Int64) * x1)]) S else none) (fun f => rfl) ?_
      refine OkF.grd (fun _ => ?_)
      refine OkF.rf (fun a10 => ?_)
      refine OkF.eq 2 (Y := fun f => if inb x3 (aw S 5 a10) = true then rk px kx f (d + 4) 145 115 [some (.ref x0), some (.long x1), none, some (.int x3), none] (va_rf (S.2.2.2.1 a10 x3.toNatClampNeg) :: [.long ((31 : Int64) * x1)]) S else none) (fun f => rfl) ?_
      refine OkF.grd (fun _ => ?_)
      refine OkF.rf (fun a11 => ?_)
      refine OkF.eq 1 (Y := fun f => if oc S a11 4 = true then rk px kx f (d + 4) 145 118 [some (.ref x0), some (.long x1), none, some (.int x3), none] [.int (S.2.1 a11 15), .long ((31 : Int64) * x1)] S else none) (fun f => rfl) ?_
      refine OkF.grd (fun _ => ?_)
      exact OkF.kl (ls1 := [some (.ref x0), none, none, some (.int x3), none]) (fun f => rfl) (ob145_118 d k83 hk83 x0 x3 ((31 : Int64) * x1) (S.2.1 a11 15) S)
def l145_83 : Nat → Nat → Int64 → Int32 → Sx → Option (Int64 × Sx)
  | 0 => fun _ _ _ _ => none
  | n + 1 => fun x0 x1 x3 S => b145_83 (l145_83 n) x0 x1 x3 S
set_option maxRecDepth 100000 in
theorem ol145_83 (d : Nat) : ∀ (n : Nat) (x0 : Nat) (x1 : Int64) (x3 : Int32) (S : Sx), OkF wL (fun f => rk px kx f (d + 4) 145 83 [some (.ref x0), some (.long x1), none, some (.int x3), none] [] S) (l145_83 n x0 x1 x3 S) := by
  intro n
  induction n with
  | zero => intro x0 x1 x3 S; exact OkF.no
  | succ n ih => intro x0 x1 x3 S; exact ob145_83 d (l145_83 n) ih x0 x1 x3 S
def b145_33 (k33 : Nat → Int64 → Int32 → Sx → Option (Int64 × Sx)) (x0 : Nat) (x1 : Int64) (x3 : Int32) (S : Sx) : Option (Int64 × Sx) :=
  if oc S x0 11 = true then (S.2.2.2.1 x0 3).bind fun a12 => if oc S a12 4 = true then if (S.2.1 a12 9) ≤ x3 then l145_83 1000 x0 x1 (0 : Int32) S else l145_47 k33 1000 x0 x1 x3 (0 : Int32) S else none else none
set_option maxRecDepth 100000 in
theorem ob145_33 (d : Nat) (k33 : Nat → Int64 → Int32 → Sx → Option (Int64 × Sx)) (hk33 : ∀ (x0 : Nat) (x1 : Int64) (x3 : Int32) (S : Sx), OkF wL (fun f => rk px kx f (d + 4) 145 33 [some (.ref x0), some (.long x1), none, some (.int x3), none] [] S) (k33 x0 x1 x3 S)) (x0 : Nat) (x1 : Int64) (x3 : Int32) (S : Sx) : OkF wL (fun f => rk px kx f (d + 4) 145 33 [some (.ref x0), some (.long x1), none, some (.int x3), none] [] S) (b145_33 k33 x0 x1 x3 S) := by
  unfold b145_33
  refine OkF.eq 3 (Y := fun f => if oc S x0 11 = true then rk px kx f (d + 4) 145 38 [some (.ref x0), some (.long x1), none, some (.int x3), none] (va_rf (S.2.2.2.1 x0 3) :: [.int x3]) S else none) (fun f => rfl) ?_
  refine OkF.grd (fun _ => ?_)
  refine OkF.rf (fun a12 => ?_)
  refine OkF.eq 1 (Y := fun f => if oc S a12 4 = true then rk px kx f (d + 4) 145 41 [some (.ref x0), some (.long x1), none, some (.int x3), none] [.int (S.2.1 a12 9), .int x3] S else none) (fun f => rfl) ?_
  refine OkF.grd (fun _ => ?_)
  refine OkF.eq 1 (Y := fun f => if (S.2.1 a12 9) ≤ x3 then rk px kx f (d + 4) 145 81 [some (.ref x0), some (.long x1), none, some (.int x3), none] [] S else rk px kx f (d + 4) 145 44 [some (.ref x0), some (.long x1), none, some (.int x3), none] [] S) (fun f => rfl) ?_
  refine OkF.ite (fun _ => ?_) (fun _ => ?_)
  · refine OkF.eq 2 (Y := fun f => rk px kx f (d + 4) 145 83 [some (.ref x0), some (.long x1), none, some (.int (0 : Int32)), none] [] S) (fun f => rfl) ?_
    exact OkF.kl (ls1 := [some (.ref x0), some (.long x1), none, some (.int (0 : Int32)), none]) (fun f => rfl) (ol145_83 d 1000 x0 x1 (0 : Int32) S)
  · refine OkF.eq 2 (Y := fun f => rk px kx f (d + 4) 145 47 [some (.ref x0), some (.long x1), none, some (.int x3), some (.int (0 : Int32))] [] S) (fun f => rfl) ?_
    exact OkF.kl (ls1 := [some (.ref x0), some (.long x1), none, some (.int x3), some (.int (0 : Int32))]) (fun f => rfl) (ol145_47 d k33 hk33 1000 x0 x1 x3 (0 : Int32) S)
def l145_33 : Nat → Nat → Int64 → Int32 → Sx → Option (Int64 × Sx)
  | 0 => fun _ _ _ _ => none
  | n + 1 => fun x0 x1 x3 S => b145_33 (l145_33 n) x0 x1 x3 S
set_option maxRecDepth 100000 in
theorem ol145_33 (d : Nat) : ∀ (n : Nat) (x0 : Nat) (x1 : Int64) (x3 : Int32) (S : Sx), OkF wL (fun f => rk px kx f (d + 4) 145 33 [some (.ref x0), some (.long x1), none, some (.int x3), none] [] S) (l145_33 n x0 x1 x3 S) := by
  intro n
  induction n with
  | zero => intro x0 x1 x3 S; exact OkF.no
  | succ n ih => intro x0 x1 x3 S; exact ob145_33 d (l145_33 n) ih x0 x1 x3 S
def b145_6 (k6 : Nat → Int64 → Int32 → Sx → Option (Int64 × Sx)) (x0 : Nat) (x1 : Int64) (x3 : Int32) (S : Sx) : Option (Int64 × Sx) :=
  if (11 : Int32) ≤ x3 then l145_33 1000 x0 x1 (0 : Int32) S else if oc S x0 11 = true then (m139 x0 x3 S).bind fun q13 => k6 x0 (((31 : Int64) * x1) + q13.1.toInt64) (x3 + (1 : Int32)) q13.2 else none
set_option maxRecDepth 100000 in
theorem ob145_6 (d : Nat) (k6 : Nat → Int64 → Int32 → Sx → Option (Int64 × Sx)) (hk6 : ∀ (x0 : Nat) (x1 : Int64) (x3 : Int32) (S : Sx), OkF wL (fun f => rk px kx f (d + 4) 145 6 [some (.ref x0), some (.long x1), none, some (.int x3), none] [] S) (k6 x0 x1 x3 S)) (x0 : Nat) (x1 : Int64) (x3 : Int32) (S : Sx) : OkF wL (fun f => rk px kx f (d + 4) 145 6 [some (.ref x0), some (.long x1), none, some (.int x3), none] [] S) (b145_6 k6 x0 x1 x3 S) := by
  unfold b145_6
  refine OkF.eq 3 (Y := fun f => if (11 : Int32) ≤ x3 then rk px kx f (d + 4) 145 31 [some (.ref x0), some (.long x1), none, some (.int x3), none] [] S else rk px kx f (d + 4) 145 12 [some (.ref x0), some (.long x1), none, some (.int x3), none] [] S) (fun f => rfl) ?_
  refine OkF.ite (fun _ => ?_) (fun _ => ?_)
  · refine OkF.eq 2 (Y := fun f => rk px kx f (d + 4) 145 33 [some (.ref x0), some (.long x1), none, some (.int (0 : Int32)), none] [] S) (fun f => rfl) ?_
    exact OkF.kl (ls1 := [some (.ref x0), some (.long x1), none, some (.int (0 : Int32)), none]) (fun f => rfl) (ol145_33 d 1000 x0 x1 (0 : Int32) S)
  · refine OkF.eq 6 (Y := fun f => if oc S x0 11 = true then (rk px kx f (d + 3) 139 0 [some (.ref x0), some (.int x3)] [] S).bind (fun q => rk px kx f (d + 4) 145 22 [some (.ref x0), some (.long x1), none, some (.int x3), none] (q.1.toList ++ [.long ((31 : Int64) * x1)]) q.2) else none) (fun f => rfl) ?_
    refine OkF.grd (fun _ => ?_)
    refine OkF.bind (w1 := wI) (om139 (d + 0) x0 x3 S) (fun q13 => ?_)
    refine OkF.eq 5 (Y := fun f => rk px kx f (d + 4) 145 6 [some (.ref x0), some (.long (((31 : Int64) * x1) + q13.1.toInt64)), none, some (.int (x3 + (1 : Int32))), none] [] q13.2) (fun f => rfl) ?_
    exact OkF.kl (ls1 := [some (.ref x0), some (.long (((31 : Int64) * x1) + q13.1.toInt64)), none, some (.int (x3 + (1 : Int32))), none]) (fun f => rfl) (hk6 x0 (((31 : Int64) * x1) + q13.1.toInt64) (x3 + (1 : Int32)) q13.2)
def l145_6 : Nat → Nat → Int64 → Int32 → Sx → Option (Int64 × Sx)
  | 0 => fun _ _ _ _ => none
  | n + 1 => fun x0 x1 x3 S => b145_6 (l145_6 n) x0 x1 x3 S
set_option maxRecDepth 100000 in
theorem ol145_6 (d : Nat) : ∀ (n : Nat) (x0 : Nat) (x1 : Int64) (x3 : Int32) (S : Sx), OkF wL (fun f => rk px kx f (d + 4) 145 6 [some (.ref x0), some (.long x1), none, some (.int x3), none] [] S) (l145_6 n x0 x1 x3 S) := by
  intro n
  induction n with
  | zero => intro x0 x1 x3 S; exact OkF.no
  | succ n ih => intro x0 x1 x3 S; exact ob145_6 d (l145_6 n) ih x0 x1 x3 S
def m145 (x0 : Nat) (S : Sx) : Option (Int64 × Sx) :=
  l145_6 1000 x0 (17 : Int64) (0 : Int32) S
set_option maxRecDepth 100000 in
theorem om145 (d : Nat) (x0 : Nat) (S : Sx) : OkF wL (fun f => rk px kx f (d + 4) 145 0 [some (.ref x0), none, none, none, none] [] S) (m145 x0 S) := by
  unfold m145
  refine OkF.eq 4 (Y := fun f => rk px kx f (d + 4) 145 6 [some (.ref x0), some (.long (17 : Int64)), none, some (.int (0 : Int32)), none] [] S) (fun f => rfl) ?_
  exact OkF.kl (ls1 := [some (.ref x0), some (.long (17 : Int64)), none, some (.int (0 : Int32)), none]) (fun f => rfl) (ol145_6 d 1000 x0 (17 : Int64) (0 : Int32) S)
-- DoorSoldModel.<init>()V
def b147_162 (k162 : Nat → Int32 → Sx → Option (Sx)) (x0 : Nat) (x1 : Int32) (S : Sx) : Option (Sx) :=
  if (4 : Int32) ≤ x1 then some S else if oc S x0 12 = true then (S.2.2.2.1 x0 2).bind fun a1 => if inb x1 (aw S 1 a1) = true then lt (sI S a1 x1.toNatClampNeg (-1 : Int32)) fun S2 => k162 x0 (x1 + (1 : Int32)) S2 else none else none
set_option maxRecDepth 100000 in
theorem ob147_162 (d : Nat) (k162 : Nat → Int32 → Sx → Option (Sx)) (hk162 : ∀ (x0 : Nat) (x1 : Int32) (S : Sx), OkF wV (fun f => rk px kx f (d + 1) 147 162 [some (.ref x0), some (.int x1)] [] S) (k162 x0 x1 S)) (x0 : Nat) (x1 : Int32) (S : Sx) : OkF wV (fun f => rk px kx f (d + 1) 147 162 [some (.ref x0), some (.int x1)] [] S) (b147_162 k162 x0 x1 S) := by
  unfold b147_162
  refine OkF.eq 3 (Y := fun f => if (4 : Int32) ≤ x1 then rk px kx f (d + 1) 147 180 [some (.ref x0), some (.int x1)] [] S else rk px kx f (d + 1) 147 167 [some (.ref x0), some (.int x1)] [] S) (fun f => rfl) ?_
  refine OkF.ite (fun _ => ?_) (fun _ => ?_)
  · exact OkF.ret 1 (fun f => rfl)
  · refine OkF.eq 2 (Y := fun f => if oc S x0 12 = true then rk px kx f (d + 1) 147 171 [some (.ref x0), some (.int x1)] (va_rf (S.2.2.2.1 x0 2) :: []) S else none) (fun f => rfl) ?_
    refine OkF.grd (fun _ => ?_)
    refine OkF.rf (fun a1 => ?_)
    refine OkF.eq 3 (Y := fun f => if inb x1 (aw S 1 a1) = true then rk px kx f (d + 1) 147 174 [some (.ref x0), some (.int x1)] [] (sI S a1 x1.toNatClampNeg (-1 : Int32)) else none) (fun f => rfl) ?_
    refine OkF.grd (fun _ => ?_)
    refine OkF.nm (fun S2 => ?_)
    refine OkF.eq 2 (Y := fun f => rk px kx f (d + 1) 147 162 [some (.ref x0), some (.int (x1 + (1 : Int32)))] [] S2) (fun f => rfl) ?_
    exact OkF.kl (ls1 := [some (.ref x0), some (.int (x1 + (1 : Int32)))]) (fun f => rfl) (hk162 x0 (x1 + (1 : Int32)) S2)
def l147_162 : Nat → Nat → Int32 → Sx → Option (Sx)
  | 0 => fun _ _ _ => none
  | n + 1 => fun x0 x1 S => b147_162 (l147_162 n) x0 x1 S
set_option maxRecDepth 100000 in
theorem ol147_162 (d : Nat) : ∀ (n : Nat) (x0 : Nat) (x1 : Int32) (S : Sx), OkF wV (fun f => rk px kx f (d + 1) 147 162 [some (.ref x0), some (.int x1)] [] S) (l147_162 n x0 x1 S) := by
  intro n
  induction n with
  | zero => intro x0 x1 S; exact OkF.no
  | succ n ih => intro x0 x1 S; exact ob147_162 d (l147_162 n) ih x0 x1 S
def b147_141 (k141 : Nat → Int32 → Sx → Option (Sx)) (x0 : Nat) (x1 : Int32) (S : Sx) : Option (Sx) :=
  if (6 : Int32) ≤ x1 then l147_162 1000 x0 (0 : Int32) S else if oc S x0 12 = true then (S.2.2.2.1 x0 0).bind fun a3 => if inb x1 (aw S 1 a3) = true then lt (sI S a3 x1.toNatClampNeg (-1 : Int32)) fun S4 => k141 x0 (x1 + (1 : Int32)) S4 else none else none
set_option maxRecDepth 100000 in
theorem ob147_141 (d : Nat) (k141 : Nat → Int32 → Sx → Option (Sx)) (hk141 : ∀ (x0 : Nat) (x1 : Int32) (S : Sx), OkF wV (fun f => rk px kx f (d + 1) 147 141 [some (.ref x0), some (.int x1)] [] S) (k141 x0 x1 S)) (x0 : Nat) (x1 : Int32) (S : Sx) : OkF wV (fun f => rk px kx f (d + 1) 147 141 [some (.ref x0), some (.int x1)] [] S) (b147_141 k141 x0 x1 S) := by
  unfold b147_141
  refine OkF.eq 3 (Y := fun f => if (6 : Int32) ≤ x1 then rk px kx f (d + 1) 147 160 [some (.ref x0), some (.int x1)] [] S else rk px kx f (d + 1) 147 147 [some (.ref x0), some (.int x1)] [] S) (fun f => rfl) ?_
  refine OkF.ite (fun _ => ?_) (fun _ => ?_)
  · refine OkF.eq 2 (Y := fun f => rk px kx f (d + 1) 147 162 [some (.ref x0), some (.int (0 : Int32))] [] S) (fun f => rfl) ?_
    exact OkF.kl (ls1 := [some (.ref x0), some (.int (0 : Int32))]) (fun f => rfl) (ol147_162 d 1000 x0 (0 : Int32) S)
  · refine OkF.eq 2 (Y := fun f => if oc S x0 12 = true then rk px kx f (d + 1) 147 151 [some (.ref x0), some (.int x1)] (va_rf (S.2.2.2.1 x0 0) :: []) S else none) (fun f => rfl) ?_
    refine OkF.grd (fun _ => ?_)
    refine OkF.rf (fun a3 => ?_)
    refine OkF.eq 3 (Y := fun f => if inb x1 (aw S 1 a3) = true then rk px kx f (d + 1) 147 154 [some (.ref x0), some (.int x1)] [] (sI S a3 x1.toNatClampNeg (-1 : Int32)) else none) (fun f => rfl) ?_
    refine OkF.grd (fun _ => ?_)
    refine OkF.nm (fun S4 => ?_)
    refine OkF.eq 2 (Y := fun f => rk px kx f (d + 1) 147 141 [some (.ref x0), some (.int (x1 + (1 : Int32)))] [] S4) (fun f => rfl) ?_
    exact OkF.kl (ls1 := [some (.ref x0), some (.int (x1 + (1 : Int32)))]) (fun f => rfl) (hk141 x0 (x1 + (1 : Int32)) S4)
def l147_141 : Nat → Nat → Int32 → Sx → Option (Sx)
  | 0 => fun _ _ _ => none
  | n + 1 => fun x0 x1 S => b147_141 (l147_141 n) x0 x1 S
set_option maxRecDepth 100000 in
theorem ol147_141 (d : Nat) : ∀ (n : Nat) (x0 : Nat) (x1 : Int32) (S : Sx), OkF wV (fun f => rk px kx f (d + 1) 147 141 [some (.ref x0), some (.int x1)] [] S) (l147_141 n x0 x1 S) := by
  intro n
  induction n with
  | zero => intro x0 x1 S; exact OkF.no
  | succ n ih => intro x0 x1 S; exact ob147_141 d (l147_141 n) ih x0 x1 S
def m147 (x0 : Nat) (S : Sx) : Option (Sx) :=
  if (!(decide ((6 : Int32) < 0)) && nb S 1 (6 : Int32).toNatClampNeg) = true then lt (nwS S) fun S5 => if oc S5 x0 12 = true then lt (sR S5 x0 0 (some S.1)) fun S6 => if (!(decide ((240 : Int32) < 0)) && nb S6 1 (240 : Int32).toNatClampNeg) = true then lt (nwS S6) fun S7 => if oc S7 x0 12 = true then lt (sR S7 x0 1 (some S6.1)) fun S8 => if (!(decide ((4 : Int32) < 0)) && nb S8 1 (4 : Int32).toNatClampNeg) = true then lt (nwS S8) fun S9 => if oc S9 x0 12 = true then lt (sR S9 x0 2 (some S8.1)) fun S10 => if (!(decide ((240 : Int32) < 0)) && nb S10 1 (240 : Int32).toNatClampNeg) = true then lt (nwS S10) fun S11 => if oc S11 x0 12 = true then lt (sR S11 x0 3 (some S10.1)) fun S12 => if (!(decide ((6 : Int32) < 0)) && nb S12 1 (6 : Int32).toNatClampNeg) = true then lt (nwS S12) fun S13 => if oc S13 x0 12 = true then lt (sR S13 x0 6 (some S12.1)) fun S14 => if (!(decide ((6 : Int32) < 0)) && nb S14 1 (6 : Int32).toNatClampNeg) = true then lt (nwS S14) fun S15 => if oc S15 x0 12 = true then lt (sR S15 x0 7 (some S14.1)) fun S16 => if (!(decide ((16 : Int32) < 0)) && nb S16 1 (16 : Int32).toNatClampNeg) = true then lt (nwS S16) fun S17 => if oc S17 x0 12 = true then lt (sR S17 x0 8 (some S16.1)) fun S18 => if (!(decide ((640 : Int32) < 0)) && nb S18 1 (640 : Int32).toNatClampNeg) = true then lt (nwS S18) fun S19 => if oc S19 x0 12 = true then lt (sR S19 x0 10 (some S18.1)) fun S20 => if (!(decide ((1971 : Int32) < 0)) && nb S20 1 (1971 : Int32).toNatClampNeg) = true then lt (nwS S20) fun S21 => if oc S21 x0 12 = true then lt (sR S21 x0 11 (some S20.1)) fun S22 => if (!(decide ((3 : Int32) < 0)) && nb S22 2 (3 : Int32).toNatClampNeg) = true then lt (nwS S22) fun S23 => if oc S23 x0 12 = true then lt (sR S23 x0 12 (some S22.1)) fun S24 => if oc S24 x0 12 = true then lt (sL S24 x0 15 (1 : Int64)) fun S25 => if (!(decide ((6 : Int32) < 0)) && nb S25 1 (6 : Int32).toNatClampNeg) = true then lt (nwS S25) fun S26 => if oc S26 x0 12 = true then lt (sR S26 x0 17 (some S25.1)) fun S27 => if (!(decide ((24 : Int32) < 0)) && nb S27 1 (24 : Int32).toNatClampNeg) = true then lt (nwS S27) fun S28 => if oc S28 x0 12 = true then lt (sR S28 x0 22 (some S27.1)) fun S29 => if (!(decide ((34 : Int32) < 0)) && nb S29 1 (34 : Int32).toNatClampNeg) = true then lt (nwS S29) fun S30 => if oc S30 x0 12 = true then lt (sR S30 x0 24 (some S29.1)) fun S31 => if (!(decide ((34 : Int32) < 0)) && nb S31 1 (34 : Int32).toNatClampNeg) = true then lt (nwS S31) fun S32 => if oc S32 x0 12 = true then lt (sR S32 x0 25 (some S31.1)) fun S33 => if (!(decide ((49 : Int32) < 0)) && nb S33 1 (49 : Int32).toNatClampNeg) = true then lt (nwS S33) fun S34 => if oc S34 x0 12 = true then lt (sR S34 x0 26 (some S33.1)) fun S35 => if (!(decide ((49 : Int32) < 0)) && nb S35 1 (49 : Int32).toNatClampNeg) = true then lt (nwS S35) fun S36 => if oc S36 x0 12 = true then lt (sR S36 x0 27 (some S35.1)) fun S37 => l147_141 1000 x0 (0 : Int32) S37 else none else none else none else none else none else none else none else none else none else none else none else none else none else none else none else none else none else none else none else none else none else none else none else none else none else none else none else none else none else none else none else none else none
set_option maxRecDepth 100000 in
theorem om147 (d : Nat) (x0 : Nat) (S : Sx) : OkF wV (fun f => rk px kx f (d + 1) 147 0 [some (.ref x0), none] [] S) (m147 x0 S) := by
  unfold m147
  refine OkF.eq 5 (Y := fun f => if (!(decide ((6 : Int32) < 0)) && nb S 1 (6 : Int32).toNatClampNeg) = true then rk px kx f (d + 1) 147 9 [some (.ref x0), none] [.ref S.1, .ref x0] (nwS S) else none) (fun f => rfl) ?_
  refine OkF.grd (fun _ => ?_)
  refine OkF.nm (fun S5 => ?_)
  refine OkF.eq 1 (Y := fun f => if oc S5 x0 12 = true then rk px kx f (d + 1) 147 12 [some (.ref x0), none] [] (sR S5 x0 0 (some S.1)) else none) (fun f => rfl) ?_
  refine OkF.grd (fun _ => ?_)
  refine OkF.nm (fun S6 => ?_)
  refine OkF.eq 3 (Y := fun f => if (!(decide ((240 : Int32) < 0)) && nb S6 1 (240 : Int32).toNatClampNeg) = true then rk px kx f (d + 1) 147 18 [some (.ref x0), none] [.ref S6.1, .ref x0] (nwS S6) else none) (fun f => rfl) ?_
  refine OkF.grd (fun _ => ?_)
  refine OkF.nm (fun S7 => ?_)
  refine OkF.eq 1 (Y := fun f => if oc S7 x0 12 = true then rk px kx f (d + 1) 147 21 [some (.ref x0), none] [] (sR S7 x0 1 (some S6.1)) else none) (fun f => rfl) ?_
  refine OkF.grd (fun _ => ?_)
  refine OkF.nm (fun S8 => ?_)
  refine OkF.eq 3 (Y := fun f => if (!(decide ((4 : Int32) < 0)) && nb S8 1 (4 : Int32).toNatClampNeg) = true then rk px kx f (d + 1) 147 25 [some (.ref x0), none] [.ref S8.1, .ref x0] (nwS S8) else none) (fun f => rfl) ?_
  refine OkF.grd (fun _ => ?_)
  refine OkF.nm (fun S9 => ?_)
  refine OkF.eq 1 (Y := fun f => if oc S9 x0 12 = true then rk px kx f (d + 1) 147 28 [some (.ref x0), none] [] (sR S9 x0 2 (some S8.1)) else none) (fun f => rfl) ?_
  refine OkF.grd (fun _ => ?_)
  refine OkF.nm (fun S10 => ?_)
  refine OkF.eq 3 (Y := fun f => if (!(decide ((240 : Int32) < 0)) && nb S10 1 (240 : Int32).toNatClampNeg) = true then rk px kx f (d + 1) 147 34 [some (.ref x0), none] [.ref S10.1, .ref x0] (nwS S10) else none) (fun f => rfl) ?_
  refine OkF.grd (fun _ => ?_)
  refine OkF.nm (fun S11 => ?_)
  refine OkF.eq 1 (Y := fun f => if oc S11 x0 12 = true then rk px kx f (d + 1) 147 37 [some (.ref x0), none] [] (sR S11 x0 3 (some S10.1)) else none) (fun f => rfl) ?_
  refine OkF.grd (fun _ => ?_)
  refine OkF.nm (fun S12 => ?_)
  refine OkF.eq 3 (Y := fun f => if (!(decide ((6 : Int32) < 0)) && nb S12 1 (6 : Int32).toNatClampNeg) = true then rk px kx f (d + 1) 147 42 [some (.ref x0), none] [.ref S12.1, .ref x0] (nwS S12) else none) (fun f => rfl) ?_
  refine OkF.grd (fun _ => ?_)
  refine OkF.nm (fun S13 => ?_)
  refine OkF.eq 1 (Y := fun f => if oc S13 x0 12 = true then rk px kx f (d + 1) 147 45 [some (.ref x0), none] [] (sR S13 x0 6 (some S12.1)) else none) (fun f => rfl) ?_
  refine OkF.grd (fun _ => ?_)
  refine OkF.nm (fun S14 => ?_)
  refine OkF.eq 3 (Y := fun f => if (!(decide ((6 : Int32) < 0)) && nb S14 1 (6 : Int32).toNatClampNeg) = true then rk px kx f (d + 1) 147 50 [some (.ref x0), none] [.ref S14.1, .ref x0] (nwS S14) else none) (fun f => rfl) ?_
  refine OkF.grd (fun _ => ?_)
  refine OkF.nm (fun S15 => ?_)
  refine OkF.eq 1 (Y := fun f => if oc S15 x0 12 = true then rk px kx f (d + 1) 147 53 [some (.ref x0), none] [] (sR S15 x0 7 (some S14.1)) else none) (fun f => rfl) ?_
  refine OkF.grd (fun _ => ?_)
  refine OkF.nm (fun S16 => ?_)
  refine OkF.eq 3 (Y := fun f => if (!(decide ((16 : Int32) < 0)) && nb S16 1 (16 : Int32).toNatClampNeg) = true then rk px kx f (d + 1) 147 58 [some (.ref x0), none] [.ref S16.1, .ref x0] (nwS S16) else none) (fun f => rfl) ?_
  refine OkF.grd (fun _ => ?_)
  refine OkF.nm (fun S17 => ?_)
  refine OkF.eq 1 (Y := fun f => if oc S17 x0 12 = true then rk px kx f (d + 1) 147 61 [some (.ref x0), none] [] (sR S17 x0 8 (some S16.1)) else none) (fun f => rfl) ?_
  refine OkF.grd (fun _ => ?_)
  refine OkF.nm (fun S18 => ?_)
  refine OkF.eq 3 (Y := fun f => if (!(decide ((640 : Int32) < 0)) && nb S18 1 (640 : Int32).toNatClampNeg) = true then rk px kx f (d + 1) 147 67 [some (.ref x0), none] [.ref S18.1, .ref x0] (nwS S18) else none) (fun f => rfl) ?_
  refine OkF.grd (fun _ => ?_)
  refine OkF.nm (fun S19 => ?_)
  refine OkF.eq 1 (Y := fun f => if oc S19 x0 12 = true then rk px kx f (d + 1) 147 70 [some (.ref x0), none] [] (sR S19 x0 10 (some S18.1)) else none) (fun f => rfl) ?_
  refine OkF.grd (fun _ => ?_)
  refine OkF.nm (fun S20 => ?_)
  refine OkF.eq 3 (Y := fun f => if (!(decide ((1971 : Int32) < 0)) && nb S20 1 (1971 : Int32).toNatClampNeg) = true then rk px kx f (d + 1) 147 76 [some (.ref x0), none] [.ref S20.1, .ref x0] (nwS S20) else none) (fun f => rfl) ?_
  refine OkF.grd (fun _ => ?_)
  refine OkF.nm (fun S21 => ?_)
  refine OkF.eq 1 (Y := fun f => if oc S21 x0 12 = true then rk px kx f (d + 1) 147 79 [some (.ref x0), none] [] (sR S21 x0 11 (some S20.1)) else none) (fun f => rfl) ?_
  refine OkF.grd (fun _ => ?_)
  refine OkF.nm (fun S22 => ?_)
  refine OkF.eq 3 (Y := fun f => if (!(decide ((3 : Int32) < 0)) && nb S22 2 (3 : Int32).toNatClampNeg) = true then rk px kx f (d + 1) 147 83 [some (.ref x0), none] [.ref S22.1, .ref x0] (nwS S22) else none) (fun f => rfl) ?_
  refine OkF.grd (fun _ => ?_)
  refine OkF.nm (fun S23 => ?_)
  refine OkF.eq 1 (Y := fun f => if oc S23 x0 12 = true then rk px kx f (d + 1) 147 86 [some (.ref x0), none] [] (sR S23 x0 12 (some S22.1)) else none) (fun f => rfl) ?_
  refine OkF.grd (fun _ => ?_)
  refine OkF.nm (fun S24 => ?_)
  refine OkF.eq 3 (Y := fun f => if oc S24 x0 12 = true then rk px kx f (d + 1) 147 91 [some (.ref x0), none] [] (sL S24 x0 15 (1 : Int64)) else none) (fun f => rfl) ?_
  refine OkF.grd (fun _ => ?_)
  refine OkF.nm (fun S25 => ?_)
  refine OkF.eq 3 (Y := fun f => if (!(decide ((6 : Int32) < 0)) && nb S25 1 (6 : Int32).toNatClampNeg) = true then rk px kx f (d + 1) 147 96 [some (.ref x0), none] [.ref S25.1, .ref x0] (nwS S25) else none) (fun f => rfl) ?_
  refine OkF.grd (fun _ => ?_)
  refine OkF.nm (fun S26 => ?_)
  refine OkF.eq 1 (Y := fun f => if oc S26 x0 12 = true then rk px kx f (d + 1) 147 99 [some (.ref x0), none] [] (sR S26 x0 17 (some S25.1)) else none) (fun f => rfl) ?_
  refine OkF.grd (fun _ => ?_)
  refine OkF.nm (fun S27 => ?_)
  refine OkF.eq 3 (Y := fun f => if (!(decide ((24 : Int32) < 0)) && nb S27 1 (24 : Int32).toNatClampNeg) = true then rk px kx f (d + 1) 147 104 [some (.ref x0), none] [.ref S27.1, .ref x0] (nwS S27) else none) (fun f => rfl) ?_
  refine OkF.grd (fun _ => ?_)
  refine OkF.nm (fun S28 => ?_)
  refine OkF.eq 1 (Y := fun f => if oc S28 x0 12 = true then rk px kx f (d + 1) 147 107 [some (.ref x0), none] [] (sR S28 x0 22 (some S27.1)) else none) (fun f => rfl) ?_
  refine OkF.grd (fun _ => ?_)
  refine OkF.nm (fun S29 => ?_)
  refine OkF.eq 3 (Y := fun f => if (!(decide ((34 : Int32) < 0)) && nb S29 1 (34 : Int32).toNatClampNeg) = true then rk px kx f (d + 1) 147 112 [some (.ref x0), none] [.ref S29.1, .ref x0] (nwS S29) else none) (fun f => rfl) ?_
  refine OkF.grd (fun _ => ?_)
  refine OkF.nm (fun S30 => ?_)
  refine OkF.eq 1 (Y := fun f => if oc S30 x0 12 = true then rk px kx f (d + 1) 147 115 [some (.ref x0), none] [] (sR S30 x0 24 (some S29.1)) else none) (fun f => rfl) ?_
  refine OkF.grd (fun _ => ?_)
  refine OkF.nm (fun S31 => ?_)
  refine OkF.eq 3 (Y := fun f => if (!(decide ((34 : Int32) < 0)) && nb S31 1 (34 : Int32).toNatClampNeg) = true then rk px kx f (d + 1) 147 120 [some (.ref x0), none] [.ref S31.1, .ref x0] (nwS S31) else none) (fun f => rfl) ?_
  refine OkF.grd (fun _ => ?_)
  refine OkF.nm (fun S32 => ?_)
  refine OkF.eq 1 (Y := fun f => if oc S32 x0 12 = true then rk px kx f (d + 1) 147 123 [some (.ref x0), none] [] (sR S32 x0 25 (some S31.1)) else none) (fun f => rfl) ?_
  refine OkF.grd (fun _ => ?_)
  refine OkF.nm (fun S33 => ?_)
  refine OkF.eq 3 (Y := fun f => if (!(decide ((49 : Int32) < 0)) && nb S33 1 (49 : Int32).toNatClampNeg) = true then rk px kx f (d + 1) 147 128 [some (.ref x0), none] [.ref S33.1, .ref x0] (nwS S33) else none) (fun f => rfl) ?_
  refine OkF.grd (fun _ => ?_)
  refine OkF.nm (fun S34 => ?_)
  refine OkF.eq 1 (Y := fun f => if oc S34 x0 12 = true then rk px kx f (d + 1) 147 131 [some (.ref x0), none] [] (sR S34 x0 26 (some S33.1)) else none) (fun f => rfl) ?_
  refine OkF.grd (fun _ => ?_)
  refine OkF.nm (fun S35 => ?_)
  refine OkF.eq 3 (Y := fun f => if (!(decide ((49 : Int32) < 0)) && nb S35 1 (49 : Int32).toNatClampNeg) = true then rk px kx f (d + 1) 147 136 [some (.ref x0), none] [.ref S35.1, .ref x0] (nwS S35) else none) (fun f => rfl) ?_
  refine OkF.grd (fun _ => ?_)
  refine OkF.nm (fun S36 => ?_)
  refine OkF.eq 1 (Y := fun f => if oc S36 x0 12 = true then rk px kx f (d + 1) 147 139 [some (.ref x0), none] [] (sR S36 x0 27 (some S35.1)) else none) (fun f => rfl) ?_
  refine OkF.grd (fun _ => ?_)
  refine OkF.nm (fun S37 => ?_)
  refine OkF.eq 2 (Y := fun f => rk px kx f (d + 1) 147 141 [some (.ref x0), some (.int (0 : Int32))] [] S37) (fun f => rfl) ?_
  exact OkF.kl (ls1 := [some (.ref x0), some (.int (0 : Int32))]) (fun f => rfl) (ol147_141 d 1000 x0 (0 : Int32) S37)
-- DoorSoldModel.in(JJJ)Z
def m150 (x0 : Int64) (x2 : Int64) (x4 : Int64) (S : Sx) : Option (Int32 × Sx) :=
  if (lg_cmp x0 x2) < 0 then some ((0 : Int32), S) else if 0 < (lg_cmp x0 x4) then some ((0 : Int32), S) else some ((1 : Int32), S)
set_option maxRecDepth 100000 in
theorem om150 (d : Nat) (x0 : Int64) (x2 : Int64) (x4 : Int64) (S : Sx) : OkF wI (fun f => rk px kx f (d + 0) 150 0 [some (.long x0), none, some (.long x2), none, some (.long x4), none] [] S) (m150 x0 x2 x4 S) := by
  unfold m150
  refine OkF.eq 4 (Y := fun f => if (lg_cmp x0 x2) < 0 then rk px kx f (d + 0) 150 17 [some (.long x0), none, some (.long x2), none, some (.long x4), none] [] S else rk px kx f (d + 0) 150 6 [some (.long x0), none, some (.long x2), none, some (.long x4), none] [] S) (fun f => rfl) ?_
  refine OkF.ite (fun _ => ?_) (fun _ => ?_)
  · exact OkF.ret 2 (fun f => rfl)
  · refine OkF.eq 4 (Y := fun f => if 0 < (lg_cmp x0 x4) then rk px kx f (d + 0) 150 17 [some (.long x0), none, some (.long x2), none, some (.long x4), none] [] S else rk px kx f (d + 0) 150 13 [some (.long x0), none, some (.long x2), none, some (.long x4), none] [] S) (fun f => rfl) ?_
    refine OkF.ite (fun _ => ?_) (fun _ => ?_)
    · exact OkF.ret 2 (fun f => rfl)
    · exact OkF.ret 3 (fun f => rfl)
-- DoorSoldModel.isRow(I)Z
def m149 (x0 : Int32) (S : Sx) : Option (Int32 × Sx) :=
  (m150 x0.toInt64 (0 : Int64) (5 : Int64) S).bind fun q1 => some (q1.1 &&& 1, q1.2)
set_option maxRecDepth 100000 in
theorem om149 (d : Nat) (x0 : Int32) (S : Sx) : OkF wI (fun f => rk px kx f (d + 1) 149 0 [some (.int x0)] [] S) (m149 x0 S) := by
  unfold m149
  refine OkF.eq 5 (Y := fun f => (rk px kx f (d + 0) 150 0 [some (.long x0.toInt64), none, some (.long (0 : Int64)), none, some (.long (5 : Int64)), none] [] S).bind (fun q => rk px kx f (d + 1) 149 9 [some (.int x0)] (q.1.toList ++ []) q.2)) (fun f => rfl) ?_
  refine OkF.bind (w1 := wI) (om150 (d + 0) x0.toInt64 (0 : Int64) (5 : Int64) S) (fun q1 => ?_)
  exact OkF.ret 1 (fun f => rfl)
-- DoorSoldModel.found(I)I
def m151 (x0 : Nat) (x1 : Int32) (S : Sx) : Option (Int32 × Sx) :=
  if oc S x0 12 = true then lt (sI S x0 16 x1) fun S1 => if oc S1 x0 12 = true then (S1.2.2.2.1 x0 17).bind fun a2 => if inb x1 (al S1 a2) = true then if inb x1 (aw S1 1 a2) = true then lt (sI S1 a2 x1.toNatClampNeg ((S1.2.1 a2 x1.toNatClampNeg) + (1 : Int32))) fun S3 => some ((-3 : Int32), S3) else none else none else none else none
set_option maxRecDepth 100000 in
theorem om151 (d : Nat) (x0 : Nat) (x1 : Int32) (S : Sx) : OkF wI (fun f => rk px kx f (d + 0) 151 0 [some (.ref x0), some (.int x1)] [] S) (m151 x0 x1 S) := by
  unfold m151
  refine OkF.eq 3 (Y := fun f => if oc S x0 12 = true then rk px kx f (d + 0) 151 5 [some (.ref x0), some (.int x1)] [] (sI S x0 16 x1) else none) (fun f => rfl) ?_
  refine OkF.grd (fun _ => ?_)
  refine OkF.nm (fun S1 => ?_)
  refine OkF.eq 2 (Y := fun f => if oc S1 x0 12 = true then rk px kx f (d + 0) 151 9 [some (.ref x0), some (.int x1)] (va_rf (S1.2.2.2.1 x0 17) :: []) S1 else none) (fun f => rfl) ?_
  refine OkF.grd (fun _ => ?_)
  refine OkF.rf (fun a2 => ?_)
  refine OkF.eq 3 (Y := fun f => if inb x1 (al S1 a2) = true then rk px kx f (d + 0) 151 12 [some (.ref x0), some (.int x1)] [.int (S1.2.1 a2 x1.toNatClampNeg), .int x1, .ref a2] S1 else none) (fun f => rfl) ?_
  refine OkF.grd (fun _ => ?_)
  refine OkF.eq 3 (Y := fun f => if inb x1 (aw S1 1 a2) = true then rk px kx f (d + 0) 151 15 [some (.ref x0), some (.int x1)] [] (sI S1 a2 x1.toNatClampNeg ((S1.2.1 a2 x1.toNatClampNeg) + (1 : Int32))) else none) (fun f => rfl) ?_
  refine OkF.grd (fun _ => ?_)
  refine OkF.nm (fun S3 => ?_)
  exact OkF.ret 2 (fun f => rfl)
-- DoorSoldModel.row(II)I
def b148_34 (k34 : Nat → Int32 → Int32 → Int32 → Sx → Option (Int32 × Sx)) (x0 : Nat) (x1 : Int32) (x2 : Int32) (x3 : Int32) (S : Sx) : Option (Int32 × Sx) :=
  if (40 : Int32) ≤ x3 then some (x2, S) else if oc S x0 12 = true then (S.2.2.2.1 x0 1).bind fun a1 => if inb (((40 : Int32) * x1) + x3) (aw S 1 a1) = true then lt (sI S a1 (((40 : Int32) * x1) + x3).toNatClampNeg (0 : Int32)) fun S2 => k34 x0 x1 x2 (x3 + (1 : Int32)) S2 else none else none
set_option maxRecDepth 100000 in
theorem ob148_34 (d : Nat) (k34 : Nat → Int32 → Int32 → Int32 → Sx → Option (Int32 × Sx)) (hk34 : ∀ (x0 : Nat) (x1 : Int32) (x2 : Int32) (x3 : Int32) (S : Sx), OkF wI (fun f => rk px kx f (d + 2) 148 34 [some (.ref x0), some (.int x1), some (.int x2), some (.int x3)] [] S) (k34 x0 x1 x2 x3 S)) (x0 : Nat) (x1 : Int32) (x2 : Int32) (x3 : Int32) (S : Sx) : OkF wI (fun f => rk px kx f (d + 2) 148 34 [some (.ref x0), some (.int x1), some (.int x2), some (.int x3)] [] S) (b148_34 k34 x0 x1 x2 x3 S) := by
  unfold b148_34
  refine OkF.eq 3 (Y := fun f => if (40 : Int32) ≤ x3 then rk px kx f (d + 2) 148 58 [some (.ref x0), some (.int x1), some (.int x2), some (.int x3)] [] S else rk px kx f (d + 2) 148 40 [some (.ref x0), some (.int x1), some (.int x2), some (.int x3)] [] S) (fun f => rfl) ?_
  refine OkF.ite (fun _ => ?_) (fun _ => ?_)
  · exact OkF.ret 2 (fun f => rfl)
  · refine OkF.eq 2 (Y := fun f => if oc S x0 12 = true then rk px kx f (d + 2) 148 44 [some (.ref x0), some (.int x1), some (.int x2), some (.int x3)] (va_rf (S.2.2.2.1 x0 1) :: []) S else none) (fun f => rfl) ?_
    refine OkF.grd (fun _ => ?_)
    refine OkF.rf (fun a1 => ?_)
    refine OkF.eq 7 (Y := fun f => if inb (((40 : Int32) * x1) + x3) (aw S 1 a1) = true then rk px kx f (d + 2) 148 52 [some (.ref x0), some (.int x1), some (.int x2), some (.int x3)] [] (sI S a1 (((40 : Int32) * x1) + x3).toNatClampNeg (0 : Int32)) else none) (fun f => rfl) ?_
    refine OkF.grd (fun _ => ?_)
    refine OkF.nm (fun S2 => ?_)
    refine OkF.eq 2 (Y := fun f => rk px kx f (d + 2) 148 34 [some (.ref x0), some (.int x1), some (.int x2), some (.int (x3 + (1 : Int32)))] [] S2) (fun f => rfl) ?_
    exact OkF.kl (ls1 := [some (.ref x0), some (.int x1), some (.int x2), some (.int (x3 + (1 : Int32)))]) (fun f => rfl) (hk34 x0 x1 x2 (x3 + (1 : Int32)) S2)
def l148_34 : Nat → Nat → Int32 → Int32 → Int32 → Sx → Option (Int32 × Sx)
  | 0 => fun _ _ _ _ _ => none
  | n + 1 => fun x0 x1 x2 x3 S => b148_34 (l148_34 n) x0 x1 x2 x3 S
set_option maxRecDepth 100000 in
theorem ol148_34 (d : Nat) : ∀ (n : Nat) (x0 : Nat) (x1 : Int32) (x2 : Int32) (x3 : Int32) (S : Sx), OkF wI (fun f => rk px kx f (d + 2) 148 34 [some (.ref x0), some (.int x1), some (.int x2), some (.int x3)] [] S) (l148_34 n x0 x1 x2 x3 S) := by
  intro n
  induction n with
  | zero => intro x0 x1 x2 x3 S; exact OkF.no
  | succ n ih => intro x0 x1 x2 x3 S; exact ob148_34 d (l148_34 n) ih x0 x1 x2 x3 S
def m148 (x0 : Nat) (x1 : Int32) (x2 : Int32) (S : Sx) : Option (Int32 × Sx) :=
  (m149 x1 S).bind fun q3 => if q3.1 = 0 then some ((-1 : Int32), q3.2) else if x2 ≤ (40 : Int32) then if 0 ≤ x2 then if oc q3.2 x0 12 = true then (q3.2.2.2.2.1 x0 0).bind fun a4 => if inb x1 (aw q3.2 1 a4) = true then lt (sI q3.2 a4 x1.toNatClampNeg x2) fun S5 => l148_34 1000 x0 x1 x2 (0 : Int32) S5 else none else none else if oc q3.2 x0 12 = true then (m151 x0 (5 : Int32) q3.2).bind fun q6 => some (q6.1, q6.2) else none else some ((-1 : Int32), q3.2)
set_option maxRecDepth 100000 in
theorem om148 (d : Nat) (x0 : Nat) (x1 : Int32) (x2 : Int32) (S : Sx) : OkF wI (fun f => rk px kx f (d + 2) 148 0 [some (.ref x0), some (.int x1), some (.int x2), none] [] S) (m148 x0 x1 x2 S) := by
  unfold m148
  refine OkF.eq 2 (Y := fun f => (rk px kx f (d + 1) 149 0 [some (.int x1)] [] S).bind (fun q => rk px kx f (d + 2) 148 4 [some (.ref x0), some (.int x1), some (.int x2), none] (q.1.toList ++ []) q.2)) (fun f => rfl) ?_
  refine OkF.bind (w1 := wI) (om149 (d + 0) x1 S) (fun q3 => ?_)
  refine OkF.eq 1 (Y := fun f => if q3.1 = 0 then rk px kx f (d + 2) 148 13 [some (.ref x0), some (.int x1), some (.int x2), none] [] q3.2 else rk px kx f (d + 2) 148 7 [some (.ref x0), some (.int x1), some (.int x2), none] [] q3.2) (fun f => rfl) ?_
  refine OkF.ite (fun _ => ?_) (fun _ => ?_)
  · exact OkF.ret 2 (fun f => rfl)
  · refine OkF.eq 3 (Y := fun f => if x2 ≤ (40 : Int32) then rk px kx f (d + 2) 148 15 [some (.ref x0), some (.int x1), some (.int x2), none] [] q3.2 else rk px kx f (d + 2) 148 13 [some (.ref x0), some (.int x1), some (.int x2), none] [] q3.2) (fun f => rfl) ?_
    refine OkF.ite (fun _ => ?_) (fun _ => ?_)
    · refine OkF.eq 2 (Y := fun f => if 0 ≤ x2 then rk px kx f (d + 2) 148 25 [some (.ref x0), some (.int x1), some (.int x2), none] [] q3.2 else rk px kx f (d + 2) 148 19 [some (.ref x0), some (.int x1), some (.int x2), none] [] q3.2) (fun f => rfl) ?_
      refine OkF.ite (fun _ => ?_) (fun _ => ?_)
      · refine OkF.eq 2 (Y := fun f => if oc q3.2 x0 12 = true then rk px kx f (d + 2) 148 29 [some (.ref x0), some (.int x1), some (.int x2), none] (va_rf (q3.2.2.2.2.1 x0 0) :: []) q3.2 else none) (fun f => rfl) ?_
        refine OkF.grd (fun _ => ?_)
        refine OkF.rf (fun a4 => ?_)
        refine OkF.eq 3 (Y := fun f => if inb x1 (aw q3.2 1 a4) = true then rk px kx f (d + 2) 148 32 [some (.ref x0), some (.int x1), some (.int x2), none] [] (sI q3.2 a4 x1.toNatClampNeg x2) else none) (fun f => rfl) ?_
        refine OkF.grd (fun _ => ?_)
        refine OkF.nm (fun S5 => ?_)
        refine OkF.eq 2 (Y := fun f => rk px kx f (d + 2) 148 34 [some (.ref x0), some (.int x1), some (.int x2), some (.int (0 : Int32))] [] S5) (fun f => rfl) ?_
        exact OkF.kl (ls1 := [some (.ref x0), some (.int x1), some (.int x2), some (.int (0 : Int32))]) (fun f => rfl) (ol148_34 d 1000 x0 x1 x2 (0 : Int32) S5)
      · refine OkF.eq 3 (Y := fun f => if oc q3.2 x0 12 = true then (rk px kx f (d + 1) 151 0 [some (.ref x0), some (.int (5 : Int32))] [] q3.2).bind (fun q => rk px kx f (d + 2) 148 24 [some (.ref x0), some (.int x1), some (.int x2), none] (q.1.toList ++ []) q.2) else none) (fun f => rfl) ?_
        refine OkF.grd (fun _ => ?_)
        refine OkF.bind (w1 := wI) (om151 (d + 1) x0 (5 : Int32) q3.2) (fun q6 => ?_)
        exact OkF.ret 1 (fun f => rfl)
    · exact OkF.ret 2 (fun f => rfl)
-- DoorSoldModel.tell(I)I
def m153 (x0 : Nat) (x1 : Int32) (S : Sx) : Option (Int32 × Sx) :=
  if oc S x0 12 = true then lt (sI S x0 13 x1) fun S1 => some ((1 : Int32), S1) else none
set_option maxRecDepth 100000 in
theorem om153 (d : Nat) (x0 : Nat) (x1 : Int32) (S : Sx) : OkF wI (fun f => rk px kx f (d + 0) 153 0 [some (.ref x0), some (.int x1)] [] S) (m153 x0 x1 S) := by
  unfold m153
  refine OkF.eq 3 (Y := fun f => if oc S x0 12 = true then rk px kx f (d + 0) 153 5 [some (.ref x0), some (.int x1)] [] (sI S x0 13 x1) else none) (fun f => rfl) ?_
  refine OkF.grd (fun _ => ?_)
  refine OkF.nm (fun S1 => ?_)
  exact OkF.ret 2 (fun f => rfl)
-- DoorSoldModel.lay(III)I
def m152 (x0 : Nat) (x1 : Int32) (x2 : Int32) (x3 : Int32) (S : Sx) : Option (Int32 × Sx) :=
  (m149 x1 S).bind fun q1 => if q1.1 = 0 then some ((-1 : Int32), q1.2) else if oc q1.2 x0 12 = true then (q1.2.2.2.2.1 x0 0).bind fun a2 => if inb x1 (al q1.2 a2) = true then if 0 ≤ (q1.2.2.1 a2 x1.toNatClampNeg) then if oc q1.2 x0 12 = true then (q1.2.2.2.2.1 x0 0).bind fun a3 => if inb x1 (al q1.2 a3) = true then (m150 x2.toInt64 (0 : Int64) (((q1.2.2.1 a3 x1.toNatClampNeg) - (1 : Int32)).toInt64) q1.2).bind fun q4 => if q4.1 = 0 then if oc q4.2 x0 12 = true then (m151 x0 (2 : Int32) q4.2).bind fun q5 => some (q5.1, q5.2) else none else if oc q4.2 x0 12 = true then (q4.2.2.2.2.1 x0 1).bind fun a6 => if inb (((40 : Int32) * x1) + x2) (al q4.2 a6) = true then if oc q4.2 x0 12 = true then (q4.2.2.2.2.1 x0 1).bind fun a7 => if inb (((40 : Int32) * x1) + x2) (aw q4.2 1 a7) = true then lt (sI q4.2 a7 (((40 : Int32) * x1) + x2).toNatClampNeg x3) fun S8 => if oc S8 x0 12 = true then (m153 x0 (q4.2.2.1 a6 (((40 : Int32) * x1) + x2).toNatClampNeg) S8).bind fun q9 => some (q9.1, q9.2) else none else none else none else none else none else none else none else if oc q1.2 x0 12 = true then (m151 x0 (1 : Int32) q1.2).bind fun q10 => some (q10.1, q10.2) else none else none else none
set_option maxRecDepth 100000 in
theorem om152 (d : Nat) (x0 : Nat) (x1 : Int32) (x2 : Int32) (x3 : Int32) (S : Sx) : OkF wI (fun f => rk px kx f (d + 2) 152 0 [some (.ref x0), some (.int x1), some (.int x2), some (.int x3), none] [] S) (m152 x0 x1 x2 x3 S) := by
  unfold m152
  refine OkF.eq 2 (Y := fun f => (rk px kx f (d + 1) 149 0 [some (.int x1)] [] S).bind (fun q => rk px kx f (d + 2) 152 4 [some (.ref x0), some (.int x1), some (.int x2), some (.int x3), none] (q.1.toList ++ []) q.2)) (fun f => rfl) ?_
  refine OkF.bind (w1 := wI) (om149 (d + 0) x1 S) (fun q1 => ?_)
  refine OkF.eq 1 (Y := fun f => if q1.1 = 0 then rk px kx f (d + 2) 152 7 [some (.ref x0), some (.int x1), some (.int x2), some (.int x3), none] [] q1.2 else rk px kx f (d + 2) 152 9 [some (.ref x0), some (.int x1), some (.int x2), some (.int x3), none] [] q1.2) (fun f => rfl) ?_
  refine OkF.ite (fun _ => ?_) (fun _ => ?_)
  · exact OkF.ret 2 (fun f => rfl)
  · refine OkF.eq 2 (Y := fun f => if oc q1.2 x0 12 = true then rk px kx f (d + 2) 152 13 [some (.ref x0), some (.int x1), some (.int x2), some (.int x3), none] (va_rf (q1.2.2.2.2.1 x0 0) :: []) q1.2 else none) (fun f => rfl) ?_
    refine OkF.grd (fun _ => ?_)
    refine OkF.rf (fun a2 => ?_)
    refine OkF.eq 2 (Y := fun f => if inb x1 (al q1.2 a2) = true then rk px kx f (d + 2) 152 15 [some (.ref x0), some (.int x1), some (.int x2), some (.int x3), none] [.int (q1.2.2.1 a2 x1.toNatClampNeg)] q1.2 else none) (fun f => rfl) ?_
    refine OkF.grd (fun _ => ?_)
    refine OkF.eq 1 (Y := fun f => if 0 ≤ (q1.2.2.1 a2 x1.toNatClampNeg) then rk px kx f (d + 2) 152 24 [some (.ref x0), some (.int x1), some (.int x2), some (.int x3), none] [] q1.2 else rk px kx f (d + 2) 152 18 [some (.ref x0), some (.int x1), some (.int x2), some (.int x3), none] [] q1.2) (fun f => rfl) ?_
    refine OkF.ite (fun _ => ?_) (fun _ => ?_)
    · refine OkF.eq 5 (Y := fun f => if oc q1.2 x0 12 = true then rk px kx f (d + 2) 152 31 [some (.ref x0), some (.int x1), some (.int x2), some (.int x3), none] (va_rf (q1.2.2.2.2.1 x0 0) :: [.long (0 : Int64), .long x2.toInt64]) q1.2 else none) (fun f => rfl) ?_
      refine OkF.grd (fun _ => ?_)
      refine OkF.rf (fun a3 => ?_)
      refine OkF.eq 2 (Y := fun f => if inb x1 (al q1.2 a3) = true then rk px kx f (d + 2) 152 33 [some (.ref x0), some (.int x1), some (.int x2), some (.int x3), none] [.int (q1.2.2.1 a3 x1.toNatClampNeg), .long (0 : Int64), .long x2.toInt64] q1.2 else none) (fun f => rfl) ?_
      refine OkF.grd (fun _ => ?_)
      refine OkF.eq 4 (Y := fun f => (rk px kx f (d + 1) 150 0 [some (.long x2.toInt64), none, some (.long (0 : Int64)), none, some (.long (((q1.2.2.1 a3 x1.toNatClampNeg) - (1 : Int32)).toInt64)), none] [] q1.2).bind (fun q => rk px kx f (d + 2) 152 39 [some (.ref x0), some (.int x1), some (.int x2), some (.int x3), none] (q.1.toList ++ []) q.2)) (fun f => rfl) ?_
      refine OkF.bind (w1 := wI) (om150 (d + 1) x2.toInt64 (0 : Int64) (((q1.2.2.1 a3 x1.toNatClampNeg) - (1 : Int32)).toInt64) q1.2) (fun q4 => ?_)
      refine OkF.eq 1 (Y := fun f => if q4.1 = 0 then rk px kx f (d + 2) 152 42 [some (.ref x0), some (.int x1), some (.int x2), some (.int x3), none] [] q4.2 else rk px kx f (d + 2) 152 48 [some (.ref x0), some (.int x1), some (.int x2), some (.int x3), none] [] q4.2) (fun f => rfl) ?_
      refine OkF.ite (fun _ => ?_) (fun _ => ?_)
      · refine OkF.eq 3 (Y := fun f => if oc q4.2 x0 12 = true then (rk px kx f (d + 1) 151 0 [some (.ref x0), some (.int (2 : Int32))] [] q4.2).bind (fun q => rk px kx f (d + 2) 152 47 [some (.ref x0), some (.int x1), some (.int x2), some (.int x3), none] (q.1.toList ++ []) q.2) else none) (fun f => rfl) ?_
        refine OkF.grd (fun _ => ?_)
        refine OkF.bind (w1 := wI) (om151 (d + 1) x0 (2 : Int32) q4.2) (fun q5 => ?_)
        exact OkF.ret 1 (fun f => rfl)
      · refine OkF.eq 2 (Y := fun f => if oc q4.2 x0 12 = true then rk px kx f (d + 2) 152 52 [some (.ref x0), some (.int x1), some (.int x2), some (.int x3), none] (va_rf (q4.2.2.2.2.1 x0 1) :: []) q4.2 else none) (fun f => rfl) ?_
        refine OkF.grd (fun _ => ?_)
        refine OkF.rf (fun a6 => ?_)
        refine OkF.eq 6 (Y := fun f => if inb (((40 : Int32) * x1) + x2) (al q4.2 a6) = true then rk px kx f (d + 2) 152 59 [some (.ref x0), some (.int x1), some (.int x2), some (.int x3), none] [.int (q4.2.2.1 a6 (((40 : Int32) * x1) + x2).toNatClampNeg)] q4.2 else none) (fun f => rfl) ?_
        refine OkF.grd (fun _ => ?_)
        refine OkF.eq 3 (Y := fun f => if oc q4.2 x0 12 = true then rk px kx f (d + 2) 152 65 [some (.ref x0), some (.int x1), some (.int x2), some (.int x3), some (.int (q4.2.2.1 a6 (((40 : Int32) * x1) + x2).toNatClampNeg))] (va_rf (q4.2.2.2.2.1 x0 1) :: []) q4.2 else none) (fun f => rfl) ?_
        refine OkF.grd (fun _ => ?_)
        refine OkF.rf (fun a7 => ?_)
        refine OkF.eq 7 (Y := fun f => if inb (((40 : Int32) * x1) + x2) (aw q4.2 1 a7) = true then rk px kx f (d + 2) 152 73 [some (.ref x0), some (.int x1), some (.int x2), some (.int x3), some (.int (q4.2.2.1 a6 (((40 : Int32) * x1) + x2).toNatClampNeg))] [] (sI q4.2 a7 (((40 : Int32) * x1) + x2).toNatClampNeg x3) else none) (fun f => rfl) ?_
        refine OkF.grd (fun _ => ?_)
        refine OkF.nm (fun S8 => ?_)
        refine OkF.eq 3 (Y := fun f => if oc S8 x0 12 = true then (rk px kx f (d + 1) 153 0 [some (.ref x0), some (.int (q4.2.2.1 a6 (((40 : Int32) * x1) + x2).toNatClampNeg))] [] S8).bind (fun q => rk px kx f (d + 2) 152 79 [some (.ref x0), some (.int x1), some (.int x2), some (.int x3), some (.int (q4.2.2.1 a6 (((40 : Int32) * x1) + x2).toNatClampNeg))] (q.1.toList ++ []) q.2) else none) (fun f => rfl) ?_
        refine OkF.grd (fun _ => ?_)
        refine OkF.bind (w1 := wI) (om153 (d + 1) x0 (q4.2.2.1 a6 (((40 : Int32) * x1) + x2).toNatClampNeg) S8) (fun q9 => ?_)
        exact OkF.ret 1 (fun f => rfl)
    · refine OkF.eq 3 (Y := fun f => if oc q1.2 x0 12 = true then (rk px kx f (d + 1) 151 0 [some (.ref x0), some (.int (1 : Int32))] [] q1.2).bind (fun q => rk px kx f (d + 2) 152 23 [some (.ref x0), some (.int x1), some (.int x2), some (.int x3), none] (q.1.toList ++ []) q.2) else none) (fun f => rfl) ?_
      refine OkF.grd (fun _ => ?_)
      refine OkF.bind (w1 := wI) (om151 (d + 1) x0 (1 : Int32) q1.2) (fun q10 => ?_)
      exact OkF.ret 1 (fun f => rfl)
-- DoorSoldModel.at(II)I
def m154 (x0 : Nat) (x1 : Int32) (x2 : Int32) (S : Sx) : Option (Int32 × Sx) :=
  (m149 x1 S).bind fun q1 => if q1.1 = 0 then some ((-1 : Int32), q1.2) else if oc q1.2 x0 12 = true then (q1.2.2.2.2.1 x0 0).bind fun a2 => if inb x1 (al q1.2 a2) = true then if 0 ≤ (q1.2.2.1 a2 x1.toNatClampNeg) then if oc q1.2 x0 12 = true then (q1.2.2.2.2.1 x0 0).bind fun a3 => if inb x1 (al q1.2 a3) = true then (m150 x2.toInt64 (0 : Int64) (((q1.2.2.1 a3 x1.toNatClampNeg) - (1 : Int32)).toInt64) q1.2).bind fun q4 => if q4.1 = 0 then if oc q4.2 x0 12 = true then (m151 x0 (2 : Int32) q4.2).bind fun q5 => some (q5.1, q5.2) else none else if oc q4.2 x0 12 = true then (q4.2.2.2.2.1 x0 1).bind fun a6 => if inb (((40 : Int32) * x1) + x2) (al q4.2 a6) = true then if oc q4.2 x0 12 = true then (m153 x0 (q4.2.2.1 a6 (((40 : Int32) * x1) + x2).toNatClampNeg) q4.2).bind fun q7 => some (q7.1, q7.2) else none else none else none else none else none else if oc q1.2 x0 12 = true then (m151 x0 (1 : Int32) q1.2).bind fun q8 => some (q8.1, q8.2) else none else none else none
set_option maxRecDepth 100000 in
theorem om154 (d : Nat) (x0 : Nat) (x1 : Int32) (x2 : Int32) (S : Sx) : OkF wI (fun f => rk px kx f (d + 2) 154 0 [some (.ref x0), some (.int x1), some (.int x2)] [] S) (m154 x0 x1 x2 S) := by
  unfold m154
  refine OkF.eq 2 (Y := fun f => (rk px kx f (d + 1) 149 0 [some (.int x1)] [] S).bind (fun q => rk px kx f (d + 2) 154 4 [some (.ref x0), some (.int x1), some (.int x2)] (q.1.toList ++ []) q.2)) (fun f => rfl) ?_
  refine OkF.bind (w1 := wI) (om149 (d + 0) x1 S) (fun q1 => ?_)
  refine OkF.eq 1 (Y := fun f => if q1.1 = 0 then rk px kx f (d + 2) 154 7 [some (.ref x0), some (.int x1), some (.int x2)] [] q1.2 else rk px kx f (d + 2) 154 9 [some (.ref x0), some (.int x1), some (.int x2)] [] q1.2) (fun f => rfl) ?_
  refine OkF.ite (fun _ => ?_) (fun _ => ?_)
  · exact OkF.ret 2 (fun f => rfl)
  · refine OkF.eq 2 (Y := fun f => if oc q1.2 x0 12 = true then rk px kx f (d + 2) 154 13 [some (.ref x0), some (.int x1), some (.int x2)] (va_rf (q1.2.2.2.2.1 x0 0) :: []) q1.2 else none) (fun f => rfl) ?_
    refine OkF.grd (fun _ => ?_)
    refine OkF.rf (fun a2 => ?_)
    refine OkF.eq 2 (Y := fun f => if inb x1 (al q1.2 a2) = true then rk px kx f (d + 2) 154 15 [some (.ref x0), some (.int x1), some (.int x2)] [.int (q1.2.2.1 a2 x1.toNatClampNeg)] q1.2 else none) (fun f => rfl) ?_
    refine OkF.grd (fun _ => ?_)
    refine OkF.eq 1 (Y := fun f => if 0 ≤ (q1.2.2.1 a2 x1.toNatClampNeg) then rk px kx f (d + 2) 154 24 [some (.ref x0), some (.int x1), some (.int x2)] [] q1.2 else rk px kx f (d + 2) 154 18 [some (.ref x0), some (.int x1), some (.int x2)] [] q1.2) (fun f => rfl) ?_
    refine OkF.ite (fun _ => ?_) (fun _ => ?_)
    · refine OkF.eq 5 (Y := fun f => if oc q1.2 x0 12 = true then rk px kx f (d + 2) 154 31 [some (.ref x0), some (.int x1), some (.int x2)] (va_rf (q1.2.2.2.2.1 x0 0) :: [.long (0 : Int64), .long x2.toInt64]) q1.2 else none) (fun f => rfl) ?_
      refine OkF.grd (fun _ => ?_)
      refine OkF.rf (fun a3 => ?_)
      refine OkF.eq 2 (Y := fun f => if inb x1 (al q1.2 a3) = true then rk px kx f (d + 2) 154 33 [some (.ref x0), some (.int x1), some (.int x2)] [.int (q1.2.2.1 a3 x1.toNatClampNeg), .long (0 : Int64), .long x2.toInt64] q1.2 else none) (fun f => rfl) ?_
      refine OkF.grd (fun _ => ?_)
      refine OkF.eq 4 (Y := fun f => (rk px kx f (d + 1) 150 0 [some (.long x2.toInt64), none, some (.long (0 : Int64)), none, some (.long (((q1.2.2.1 a3 x1.toNatClampNeg) - (1 : Int32)).toInt64)), none] [] q1.2).bind (fun q => rk px kx f (d + 2) 154 39 [some (.ref x0), some (.int x1), some (.int x2)] (q.1.toList ++ []) q.2)) (fun f => rfl) ?_
      refine OkF.bind (w1 := wI) (om150 (d + 1) x2.toInt64 (0 : Int64) (((q1.2.2.1 a3 x1.toNatClampNeg) - (1 : Int32)).toInt64) q1.2) (fun q4 => ?_)
      refine OkF.eq 1 (Y := fun f => if q4.1 = 0 then rk px kx f (d + 2) 154 60 [some (.ref x0), some (.int x1), some (.int x2)] [] q4.2 else rk px kx f (d + 2) 154 42 [some (.ref x0), some (.int x1), some (.int x2)] [] q4.2) (fun f => rfl) ?_
      refine OkF.ite (fun _ => ?_) (fun _ => ?_)
      · refine OkF.eq 3 (Y := fun f => if oc q4.2 x0 12 = true then (rk px kx f (d + 1) 151 0 [some (.ref x0), some (.int (2 : Int32))] [] q4.2).bind (fun q => rk px kx f (d + 2) 154 65 [some (.ref x0), some (.int x1), some (.int x2)] (q.1.toList ++ []) q.2) else none) (fun f => rfl) ?_
        refine OkF.grd (fun _ => ?_)
        refine OkF.bind (w1 := wI) (om151 (d + 1) x0 (2 : Int32) q4.2) (fun q5 => ?_)
        exact OkF.ret 1 (fun f => rfl)
      · refine OkF.eq 3 (Y := fun f => if oc q4.2 x0 12 = true then rk px kx f (d + 2) 154 47 [some (.ref x0), some (.int x1), some (.int x2)] (va_rf (q4.2.2.2.2.1 x0 1) :: [.ref x0]) q4.2 else none) (fun f => rfl) ?_
        refine OkF.grd (fun _ => ?_)
        refine OkF.rf (fun a6 => ?_)
        refine OkF.eq 6 (Y := fun f => if inb (((40 : Int32) * x1) + x2) (al q4.2 a6) = true then rk px kx f (d + 2) 154 54 [some (.ref x0), some (.int x1), some (.int x2)] [.int (q4.2.2.1 a6 (((40 : Int32) * x1) + x2).toNatClampNeg), .ref x0] q4.2 else none) (fun f => rfl) ?_
        refine OkF.grd (fun _ => ?_)
        refine OkF.eq 1 (Y := fun f => if oc q4.2 x0 12 = true then (rk px kx f (d + 1) 153 0 [some (.ref x0), some (.int (q4.2.2.1 a6 (((40 : Int32) * x1) + x2).toNatClampNeg))] [] q4.2).bind (fun q => rk px kx f (d + 2) 154 57 [some (.ref x0), some (.int x1), some (.int x2)] (q.1.toList ++ []) q.2) else none) (fun f => rfl) ?_
        refine OkF.grd (fun _ => ?_)
        refine OkF.bind (w1 := wI) (om153 (d + 1) x0 (q4.2.2.1 a6 (((40 : Int32) * x1) + x2).toNatClampNeg) q4.2) (fun q7 => ?_)
        exact OkF.ret 2 (fun f => rfl)
    · refine OkF.eq 3 (Y := fun f => if oc q1.2 x0 12 = true then (rk px kx f (d + 1) 151 0 [some (.ref x0), some (.int (1 : Int32))] [] q1.2).bind (fun q => rk px kx f (d + 2) 154 23 [some (.ref x0), some (.int x1), some (.int x2)] (q.1.toList ++ []) q.2) else none) (fun f => rfl) ?_
      refine OkF.grd (fun _ => ?_)
      refine OkF.bind (w1 := wI) (om151 (d + 1) x0 (1 : Int32) q1.2) (fun q8 => ?_)
      exact OkF.ret 1 (fun f => rfl)
