-- DoorSoldModel.digest()J
def b238_44 (k33 : Nat → Int64 → Int32 → Sx → Option (Int64 × Sx)) (k44 : Nat → Int64 → Int32 → Int32 → Sx → Option (Int64 × Sx)) (x0 : Nat) (x1 : Int64) (x3 : Int32) (x4 : Int32) (S : Sx) : Option (Int64 × Sx) :=
  if (8 : Int32) ≤ x4 then k33 x0 x1 (x3 + (1 : Int32)) S else if oc S x0 12 = true then (m172 x0 x3 x4 S).bind fun q1 => k44 x0 (((31 : Int64) * x1) + q1.1.toInt64) x3 (x4 + (1 : Int32)) q1.2 else none
set_option maxRecDepth 100000 in
theorem ob238_44 (d : Nat) (k33 : Nat → Int64 → Int32 → Sx → Option (Int64 × Sx)) (hk33 : ∀ (x0 : Nat) (x1 : Int64) (x3 : Int32) (S : Sx), OkF wL (fun f => rk px kx f (d + 4) 238 33 [some (.ref x0), some (.long x1), none, some (.int x3), none] [] S) (k33 x0 x1 x3 S)) (k44 : Nat → Int64 → Int32 → Int32 → Sx → Option (Int64 × Sx)) (hk44 : ∀ (x0 : Nat) (x1 : Int64) (x3 : Int32) (x4 : Int32) (S : Sx), OkF wL (fun f => rk px kx f (d + 4) 238 44 [some (.ref x0), some (.long x1), none, some (.int x3), some (.int x4)] [] S) (k44 x0 x1 x3 x4 S)) (x0 : Nat) (x1 : Int64) (x3 : Int32) (x4 : Int32) (S : Sx) : OkF wL (fun f => rk px kx f (d + 4) 238 44 [some (.ref x0), some (.long x1), none, some (.int x3), some (.int x4)] [] S) (b238_44 k33 k44 x0 x1 x3 x4 S) := by
  unfold b238_44
  refine OkF.eq 3 (Y := fun f => if (8 : Int32) ≤ x4 then rk px kx f (d + 4) 238 72 [some (.ref x0), some (.long x1), none, some (.int x3), some (.int x4)] [] S else rk px kx f (d + 4) 238 51 [some (.ref x0), some (.long x1), none, some (.int x3), some (.int x4)] [] S) (fun f => rfl) ?_
  refine OkF.ite (fun _ => ?_) (fun _ => ?_)
  · refine OkF.eq 2 (Y := fun f => rk px kx f (d + 4) 238 33 [some (.ref x0), some (.long x1), none, some (.int (x3 + (1 : Int32))), some (.int x4)] [] S) (fun f => rfl) ?_
    exact OkF.kl (ls1 := [some (.ref x0), some (.long x1), none, some (.int (x3 + (1 : Int32))), none]) (fun f => rfl) (hk33 x0 x1 (x3 + (1 : Int32)) S)
  · refine OkF.eq 7 (Y := fun f => if oc S x0 12 = true then (rk px kx f (d + 3) 172 0 [some (.ref x0), some (.int x3), some (.int x4)] [] S).bind (fun q => rk px kx f (d + 4) 238 63 [some (.ref x0), some (.long x1), none, some (.int x3), some (.int x4)] (q.1.toList ++ [.long ((31 : Int64) * x1)]) q.2) else none) (fun f => rfl) ?_
    refine OkF.grd (fun _ => ?_)
    refine OkF.bind (w1 := wI) (om172 (d + 0) x0 x3 x4 S) (fun q1 => ?_)
    refine OkF.eq 5 (Y := fun f => rk px kx f (d + 4) 238 44 [some (.ref x0), some (.long (((31 : Int64) * x1) + q1.1.toInt64)), none, some (.int x3), some (.int (x4 + (1 : Int32)))] [] q1.2) (fun f => rfl) ?_
    exact OkF.kl (ls1 := [some (.ref x0), some (.long (((31 : Int64) * x1) + q1.1.toInt64)), none, some (.int x3), some (.int (x4 + (1 : Int32)))]) (fun f => rfl) (hk44 x0 (((31 : Int64) * x1) + q1.1.toInt64) x3 (x4 + (1 : Int32)) q1.2)
def l238_44 (k33 : Nat → Int64 → Int32 → Sx → Option (Int64 × Sx)) : Nat → Nat → Int64 → Int32 → Int32 → Sx → Option (Int64 × Sx)
  | 0 => fun _ _ _ _ _ => none
  | n + 1 => fun x0 x1 x3 x4 S => b238_44 k33 (l238_44 k33 n) x0 x1 x3 x4 S
set_option maxRecDepth 100000 in
theorem ol238_44 (d : Nat) (k33 : Nat → Int64 → Int32 → Sx → Option (Int64 × Sx)) (hk33 : ∀ (x0 : Nat) (x1 : Int64) (x3 : Int32) (S : Sx), OkF wL (fun f => rk px kx f (d + 4) 238 33 [some (.ref x0), some (.long x1), none, some (.int x3), none] [] S) (k33 x0 x1 x3 S)) : ∀ (n : Nat) (x0 : Nat) (x1 : Int64) (x3 : Int32) (x4 : Int32) (S : Sx), OkF wL (fun f => rk px kx f (d + 4) 238 44 [some (.ref x0), some (.long x1), none, some (.int x3), some (.int x4)] [] S) (l238_44 k33 n x0 x1 x3 x4 S) := by
  intro n
  induction n with
  | zero => intro x0 x1 x3 x4 S; exact OkF.no
  | succ n ih => intro x0 x1 x3 x4 S; exact ob238_44 d k33 hk33 (l238_44 k33 n) ih x0 x1 x3 x4 S
def b238_117 (k80 : Nat → Int64 → Int32 → Sx → Option (Int64 × Sx)) (x0 : Nat) (x3 : Int32) (s0 : Int64) (s1 : Int32) (S : Sx) : Option (Int64 × Sx) :=
  k80 x0 (s0 + s1.toInt64) (x3 + (1 : Int32)) S
set_option maxRecDepth 100000 in
theorem ob238_117 (d : Nat) (k80 : Nat → Int64 → Int32 → Sx → Option (Int64 × Sx)) (hk80 : ∀ (x0 : Nat) (x1 : Int64) (x3 : Int32) (S : Sx), OkF wL (fun f => rk px kx f (d + 4) 238 80 [some (.ref x0), some (.long x1), none, some (.int x3), none] [] S) (k80 x0 x1 x3 S)) (x0 : Nat) (x3 : Int32) (s0 : Int64) (s1 : Int32) (S : Sx) : OkF wL (fun f => rk px kx f (d + 4) 238 117 [some (.ref x0), none, none, some (.int x3), none] [.int s1, .long s0] S) (b238_117 k80 x0 x3 s0 s1 S) := by
  unfold b238_117
  refine OkF.eq 5 (Y := fun f => rk px kx f (d + 4) 238 80 [some (.ref x0), some (.long (s0 + s1.toInt64)), none, some (.int (x3 + (1 : Int32))), none] [] S) (fun f => rfl) ?_
  exact OkF.kl (ls1 := [some (.ref x0), some (.long (s0 + s1.toInt64)), none, some (.int (x3 + (1 : Int32))), none]) (fun f => rfl) (hk80 x0 (s0 + s1.toInt64) (x3 + (1 : Int32)) S)
def b238_151 (k128 : Nat → Int64 → Int32 → Sx → Option (Int64 × Sx)) (k151 : Nat → Int64 → Int32 → Int32 → Sx → Option (Int64 × Sx)) (x0 : Nat) (x1 : Int64) (x3 : Int32) (x4 : Int32) (S : Sx) : Option (Int64 × Sx) :=
  if oc S x0 12 = true then (S.2.2.2.1 x0 0).bind fun a2 => if inb x3 (al S a2) = true then if (S.2.1 a2 x3.toNatClampNeg) ≤ x4 then k128 x0 x1 (x3 + (1 : Int32)) S else if oc S x0 12 = true then (S.2.2.2.1 x0 1).bind fun a3 => if inb (((40 : Int32) * x3) + x4) (al S a3) = true then k151 x0 (((31 : Int64) * x1) + ((S.2.1 a3 (((40 : Int32) * x3) + x4).toNatClampNeg).toInt64)) x3 (x4 + (1 : Int32)) S else none else none else none else none
set_option maxRecDepth 100000 in
theorem ob238_151 (d : Nat) (k128 : Nat → Int64 → Int32 → Sx → Option (Int64 × Sx)) (hk128 : ∀ (x0 : Nat) (x1 : Int64) (x3 : Int32) (S : Sx), OkF wL (fun f => rk px kx f (d + 4) 238 128 [some (.ref x0), some (.long x1), none, some (.int x3), none] [] S) (k128 x0 x1 x3 S)) (k151 : Nat → Int64 → Int32 → Int32 → Sx → Option (Int64 × Sx)) (hk151 : ∀ (x0 : Nat) (x1 : Int64) (x3 : Int32) (x4 : Int32) (S : Sx), OkF wL (fun f => rk px kx f (d + 4) 238 151 [some (.ref x0), some (.long x1), none, some (.int x3), some (.int x4)] [] S) (k151 x0 x1 x3 x4 S)) (x0 : Nat) (x1 : Int64) (x3 : Int32) (x4 : Int32) (S : Sx) : OkF wL (fun f => rk px kx f (d + 4) 238 151 [some (.ref x0), some (.long x1), none, some (.int x3), some (.int x4)] [] S) (b238_151 k128 k151 x0 x1 x3 x4 S) := by
  unfold b238_151
  refine OkF.eq 3 (Y := fun f => if oc S x0 12 = true then rk px kx f (d + 4) 238 157 [some (.ref x0), some (.long x1), none, some (.int x3), some (.int x4)] (va_rf (S.2.2.2.1 x0 0) :: [.int x4]) S else none) (fun f => rfl) ?_
  refine OkF.grd (fun _ => ?_)
  refine OkF.rf (fun a2 => ?_)
  refine OkF.eq 2 (Y := fun f => if inb x3 (al S a2) = true then rk px kx f (d + 4) 238 159 [some (.ref x0), some (.long x1), none, some (.int x3), some (.int x4)] [.int (S.2.1 a2 x3.toNatClampNeg), .int x4] S else none) (fun f => rfl) ?_
  refine OkF.grd (fun _ => ?_)
  refine OkF.eq 1 (Y := fun f => if (S.2.1 a2 x3.toNatClampNeg) ≤ x4 then rk px kx f (d + 4) 238 188 [some (.ref x0), some (.long x1), none, some (.int x3), some (.int x4)] [] S else rk px kx f (d + 4) 238 162 [some (.ref x0), some (.long x1), none, some (.int x3), some (.int x4)] [] S) (fun f => rfl) ?_
  refine OkF.ite (fun _ => ?_) (fun _ => ?_)
  · refine OkF.eq 2 (Y := fun f => rk px kx f (d + 4) 238 128 [some (.ref x0), some (.long x1), none, some (.int (x3 + (1 : Int32))), some (.int x4)] [] S) (fun f => rfl) ?_
    exact OkF.kl (ls1 := [some (.ref x0), some (.long x1), none, some (.int (x3 + (1 : Int32))), none]) (fun f => rfl) (hk128 x0 x1 (x3 + (1 : Int32)) S)
  · refine OkF.eq 5 (Y := fun f => if oc S x0 12 = true then rk px kx f (d + 4) 238 171 [some (.ref x0), some (.long x1), none, some (.int x3), some (.int x4)] (va_rf (S.2.2.2.1 x0 1) :: [.long ((31 : Int64) * x1)]) S else none) (fun f => rfl) ?_
    refine OkF.grd (fun _ => ?_)
    refine OkF.rf (fun a3 => ?_)
    refine OkF.eq 6 (Y := fun f => if inb (((40 : Int32) * x3) + x4) (al S a3) = true then rk px kx f (d + 4) 238 179 [some (.ref x0), some (.long x1), none, some (.int x3), some (.int x4)] [.int (S.2.1 a3 (((40 : Int32) * x3) + x4).toNatClampNeg), .long ((31 : Int64) * x1)] S else none) (fun f => rfl) ?_
    refine OkF.grd (fun _ => ?_)
    refine OkF.eq 5 (Y := fun f => rk px kx f (d + 4) 238 151 [some (.ref x0), some (.long (((31 : Int64) * x1) + ((S.2.1 a3 (((40 : Int32) * x3) + x4).toNatClampNeg).toInt64))), none, some (.int x3), some (.int (x4 + (1 : Int32)))] [] S) (fun f => rfl) ?_
    exact OkF.kl (ls1 := [some (.ref x0), some (.long (((31 : Int64) * x1) + ((S.2.1 a3 (((40 : Int32) * x3) + x4).toNatClampNeg).toInt64))), none, some (.int x3), some (.int (x4 + (1 : Int32)))]) (fun f => rfl) (hk151 x0 (((31 : Int64) * x1) + ((S.2.1 a3 (((40 : Int32) * x3) + x4).toNatClampNeg).toInt64)) x3 (x4 + (1 : Int32)) S)
def l238_151 (k128 : Nat → Int64 → Int32 → Sx → Option (Int64 × Sx)) : Nat → Nat → Int64 → Int32 → Int32 → Sx → Option (Int64 × Sx)
  | 0 => fun _ _ _ _ _ => none
  | n + 1 => fun x0 x1 x3 x4 S => b238_151 k128 (l238_151 k128 n) x0 x1 x3 x4 S
set_option maxRecDepth 100000 in
theorem ol238_151 (d : Nat) (k128 : Nat → Int64 → Int32 → Sx → Option (Int64 × Sx)) (hk128 : ∀ (x0 : Nat) (x1 : Int64) (x3 : Int32) (S : Sx), OkF wL (fun f => rk px kx f (d + 4) 238 128 [some (.ref x0), some (.long x1), none, some (.int x3), none] [] S) (k128 x0 x1 x3 S)) : ∀ (n : Nat) (x0 : Nat) (x1 : Int64) (x3 : Int32) (x4 : Int32) (S : Sx), OkF wL (fun f => rk px kx f (d + 4) 238 151 [some (.ref x0), some (.long x1), none, some (.int x3), some (.int x4)] [] S) (l238_151 k128 n x0 x1 x3 x4 S) := by
  intro n
  induction n with
  | zero => intro x0 x1 x3 x4 S; exact OkF.no
  | succ n ih => intro x0 x1 x3 x4 S; exact ob238_151 d k128 hk128 (l238_151 k128 n) ih x0 x1 x3 x4 S
def b238_218 (k196 : Nat → Int64 → Int32 → Sx → Option (Int64 × Sx)) (k218 : Nat → Int64 → Int32 → Int32 → Sx → Option (Int64 × Sx)) (x0 : Nat) (x1 : Int64) (x3 : Int32) (x4 : Int32) (S : Sx) : Option (Int64 × Sx) :=
  if oc S x0 12 = true then (S.2.2.2.1 x0 2).bind fun a4 => if inb x3 (al S a4) = true then if (S.2.1 a4 x3.toNatClampNeg) ≤ x4 then k196 x0 x1 (x3 + (1 : Int32)) S else if oc S x0 12 = true then (S.2.2.2.1 x0 3).bind fun a5 => if inb (((60 : Int32) * x3) + x4) (al S a5) = true then k218 x0 (((31 : Int64) * x1) + ((S.2.1 a5 (((60 : Int32) * x3) + x4).toNatClampNeg).toInt64)) x3 (x4 + (1 : Int32)) S else none else none else none else none
set_option maxRecDepth 100000 in
theorem ob238_218 (d : Nat) (k196 : Nat → Int64 → Int32 → Sx → Option (Int64 × Sx)) (hk196 : ∀ (x0 : Nat) (x1 : Int64) (x3 : Int32) (S : Sx), OkF wL (fun f => rk px kx f (d + 4) 238 196 [some (.ref x0), some (.long x1), none, some (.int x3), none] [] S) (k196 x0 x1 x3 S)) (k218 : Nat → Int64 → Int32 → Int32 → Sx → Option (Int64 × Sx)) (hk218 : ∀ (x0 : Nat) (x1 : Int64) (x3 : Int32) (x4 : Int32) (S : Sx), OkF wL (fun f => rk px kx f (d + 4) 238 218 [some (.ref x0), some (.long x1), none, some (.int x3), some (.int x4)] [] S) (k218 x0 x1 x3 x4 S)) (x0 : Nat) (x1 : Int64) (x3 : Int32) (x4 : Int32) (S : Sx) : OkF wL (fun f => rk px kx f (d + 4) 238 218 [some (.ref x0), some (.long x1), none, some (.int x3), some (.int x4)] [] S) (b238_218 k196 k218 x0 x1 x3 x4 S) := by
  unfold b238_218
  refine OkF.eq 3 (Y := fun f => if oc S x0 12 = true then rk px kx f (d + 4) 238 224 [some (.ref x0), some (.long x1), none, some (.int x3), some (.int x4)] (va_rf (S.2.2.2.1 x0 2) :: [.int x4]) S else none) (fun f => rfl) ?_
  refine OkF.grd (fun _ => ?_)
  refine OkF.rf (fun a4 => ?_)
  refine OkF.eq 2 (Y := fun f => if inb x3 (al S a4) = true then rk px kx f (d + 4) 238 226 [some (.ref x0), some (.long x1), none, some (.int x3), some (.int x4)] [.int (S.2.1 a4 x3.toNatClampNeg), .int x4] S else none) (fun f => rfl) ?_
  refine OkF.grd (fun _ => ?_)
  refine OkF.eq 1 (Y := fun f => if (S.2.1 a4 x3.toNatClampNeg) ≤ x4 then rk px kx f (d + 4) 238 255 [some (.ref x0), some (.long x1), none, some (.int x3), some (.int x4)] [] S else rk px kx f (d + 4) 238 229 [some (.ref x0), some (.long x1), none, some (.int x3), some (.int x4)] [] S) (fun f => rfl) ?_
  refine OkF.ite (fun _ => ?_) (fun _ => ?_)
  · refine OkF.eq 2 (Y := fun f => rk px kx f (d + 4) 238 196 [some (.ref x0), some (.long x1), none, some (.int (x3 + (1 : Int32))), some (.int x4)] [] S) (fun f => rfl) ?_
    exact OkF.kl (ls1 := [some (.ref x0), some (.long x1), none, some (.int (x3 + (1 : Int32))), none]) (fun f => rfl) (hk196 x0 x1 (x3 + (1 : Int32)) S)
  · refine OkF.eq 5 (Y := fun f => if oc S x0 12 = true then rk px kx f (d + 4) 238 238 [some (.ref x0), some (.long x1), none, some (.int x3), some (.int x4)] (va_rf (S.2.2.2.1 x0 3) :: [.long ((31 : Int64) * x1)]) S else none) (fun f => rfl) ?_
    refine OkF.grd (fun _ => ?_)
    refine OkF.rf (fun a5 => ?_)
    refine OkF.eq 6 (Y := fun f => if inb (((60 : Int32) * x3) + x4) (al S a5) = true then rk px kx f (d + 4) 238 246 [some (.ref x0), some (.long x1), none, some (.int x3), some (.int x4)] [.int (S.2.1 a5 (((60 : Int32) * x3) + x4).toNatClampNeg), .long ((31 : Int64) * x1)] S else none) (fun f => rfl) ?_
    refine OkF.grd (fun _ => ?_)
    refine OkF.eq 5 (Y := fun f => rk px kx f (d + 4) 238 218 [some (.ref x0), some (.long (((31 : Int64) * x1) + ((S.2.1 a5 (((60 : Int32) * x3) + x4).toNatClampNeg).toInt64))), none, some (.int x3), some (.int (x4 + (1 : Int32)))] [] S) (fun f => rfl) ?_
    exact OkF.kl (ls1 := [some (.ref x0), some (.long (((31 : Int64) * x1) + ((S.2.1 a5 (((60 : Int32) * x3) + x4).toNatClampNeg).toInt64))), none, some (.int x3), some (.int (x4 + (1 : Int32)))]) (fun f => rfl) (hk218 x0 (((31 : Int64) * x1) + ((S.2.1 a5 (((60 : Int32) * x3) + x4).toNatClampNeg).toInt64)) x3 (x4 + (1 : Int32)) S)
def l238_218 (k196 : Nat → Int64 → Int32 → Sx → Option (Int64 × Sx)) : Nat → Nat → Int64 → Int32 → Int32 → Sx → Option (Int64 × Sx)
  | 0 => fun _ _ _ _ _ => none
  | n + 1 => fun x0 x1 x3 x4 S => b238_218 k196 (l238_218 k196 n) x0 x1 x3 x4 S
set_option maxRecDepth 100000 in
theorem ol238_218 (d : Nat) (k196 : Nat → Int64 → Int32 → Sx → Option (Int64 × Sx)) (hk196 : ∀ (x0 : Nat) (x1 : Int64) (x3 : Int32) (S : Sx), OkF wL (fun f => rk px kx f (d + 4) 238 196 [some (.ref x0), some (.long x1), none, some (.int x3), none] [] S) (k196 x0 x1 x3 S)) : ∀ (n : Nat) (x0 : Nat) (x1 : Int64) (x3 : Int32) (x4 : Int32) (S : Sx), OkF wL (fun f => rk px kx f (d + 4) 238 218 [some (.ref x0), some (.long x1), none, some (.int x3), some (.int x4)] [] S) (l238_218 k196 n x0 x1 x3 x4 S) := by
  intro n
  induction n with
  | zero => intro x0 x1 x3 x4 S; exact OkF.no
  | succ n ih => intro x0 x1 x3 x4 S; exact ob238_218 d k196 hk196 (l238_218 k196 n) ih x0 x1 x3 x4 S
def b238_196 (k196 : Nat → Int64 → Int32 → Sx → Option (Int64 × Sx)) (x0 : Nat) (x1 : Int64) (x3 : Int32) (S : Sx) : Option (Int64 × Sx) :=
  if (4 : Int32) ≤ x3 then some (x1, S) else if oc S x0 12 = true then (S.2.2.2.1 x0 2).bind fun a6 => if inb x3 (al S a6) = true then l238_218 k196 1000 x0 (((31 : Int64) * x1) + ((S.2.1 a6 x3.toNatClampNeg).toInt64)) x3 (0 : Int32) S else none else none
set_option maxRecDepth 100000 in
theorem ob238_196 (d : Nat) (k196 : Nat → Int64 → Int32 → Sx → Option (Int64 × Sx)) (hk196 : ∀ (x0 : Nat) (x1 : Int64) (x3 : Int32) (S : Sx), OkF wL (fun f => rk px kx f (d + 4) 238 196 [some (.ref x0), some (.long x1), none, some (.int x3), none] [] S) (k196 x0 x1 x3 S)) (x0 : Nat) (x1 : Int64) (x3 : Int32) (S : Sx) : OkF wL (fun f => rk px kx f (d + 4) 238 196 [some (.ref x0), some (.long x1), none, some (.int x3), none] [] S) (b238_196 k196 x0 x1 x3 S) := by
  unfold b238_196
  refine OkF.eq 3 (Y := fun f => if (4 : Int32) ≤ x3 then rk px kx f (d + 4) 238 261 [some (.ref x0), some (.long x1), none, some (.int x3), none] [] S else rk px kx f (d + 4) 238 201 [some (.ref x0), some (.long x1), none, some (.int x3), none] [] S) (fun f => rfl) ?_
  refine OkF.ite (fun _ => ?_) (fun _ => ?_)
  · exact OkF.ret 2 (fun f => rfl)
  · refine OkF.eq 5 (Y := fun f => if oc S x0 12 = true then rk px kx f (d + 4) 238 210 [some (.ref x0), some (.long x1), none, some (.int x3), none] (va_rf (S.2.2.2.1 x0 2) :: [.long ((31 : Int64) * x1)]) S else none) (fun f => rfl) ?_
    refine OkF.grd (fun _ => ?_)
    refine OkF.rf (fun a6 => ?_)
    refine OkF.eq 2 (Y := fun f => if inb x3 (al S a6) = true then rk px kx f (d + 4) 238 212 [some (.ref x0), some (.long x1), none, some (.int x3), none] [.int (S.2.1 a6 x3.toNatClampNeg), .long ((31 : Int64) * x1)] S else none) (fun f => rfl) ?_
    refine OkF.grd (fun _ => ?_)
    refine OkF.eq 5 (Y := fun f => rk px kx f (d + 4) 238 218 [some (.ref x0), some (.long (((31 : Int64) * x1) + ((S.2.1 a6 x3.toNatClampNeg).toInt64))), none, some (.int x3), some (.int (0 : Int32))] [] S) (fun f => rfl) ?_
    exact OkF.kl (ls1 := [some (.ref x0), some (.long (((31 : Int64) * x1) + ((S.2.1 a6 x3.toNatClampNeg).toInt64))), none, some (.int x3), some (.int (0 : Int32))]) (fun f => rfl) (ol238_218 d k196 hk196 1000 x0 (((31 : Int64) * x1) + ((S.2.1 a6 x3.toNatClampNeg).toInt64)) x3 (0 : Int32) S)
def l238_196 : Nat → Nat → Int64 → Int32 → Sx → Option (Int64 × Sx)
  | 0 => fun _ _ _ _ => none
  | n + 1 => fun x0 x1 x3 S => b238_196 (l238_196 n) x0 x1 x3 S
set_option maxRecDepth 100000 in
theorem ol238_196 (d : Nat) : ∀ (n : Nat) (x0 : Nat) (x1 : Int64) (x3 : Int32) (S : Sx), OkF wL (fun f => rk px kx f (d + 4) 238 196 [some (.ref x0), some (.long x1), none, some (.int x3), none] [] S) (l238_196 n x0 x1 x3 S) := by
  intro n
  induction n with
  | zero => intro x0 x1 x3 S; exact OkF.no
  | succ n ih => intro x0 x1 x3 S; exact ob238_196 d (l238_196 n) ih x0 x1 x3 S
def b238_128 (k128 : Nat → Int64 → Int32 → Sx → Option (Int64 × Sx)) (x0 : Nat) (x1 : Int64) (x3 : Int32) (S : Sx) : Option (Int64 × Sx) :=
  if (6 : Int32) ≤ x3 then l238_196 1000 x0 x1 (0 : Int32) S else if oc S x0 12 = true then (S.2.2.2.1 x0 0).bind fun a7 => if inb x3 (al S a7) = true then l238_151 k128 1000 x0 (((31 : Int64) * x1) + ((S.2.1 a7 x3.toNatClampNeg).toInt64)) x3 (0 : Int32) S else none else none
set_option maxRecDepth 100000 in
theorem ob238_128 (d : Nat) (k128 : Nat → Int64 → Int32 → Sx → Option (Int64 × Sx)) (hk128 : ∀ (x0 : Nat) (x1 : Int64) (x3 : Int32) (S : Sx), OkF wL (fun f => rk px kx f (d + 4) 238 128 [some (.ref x0), some (.long x1), none, some (.int x3), none] [] S) (k128 x0 x1 x3 S)) (x0 : Nat) (x1 : Int64) (x3 : Int32) (S : Sx) : OkF wL (fun f => rk px kx f (d + 4) 238 128 [some (.ref x0), some (.long x1), none, some (.int x3), none] [] S) (b238_128 k128 x0 x1 x3 S) := by
  unfold b238_128
  refine OkF.eq 3 (Y := fun f => if (6 : Int32) ≤ x3 then rk px kx f (d + 4) 238 194 [some (.ref x0), some (.long x1), none, some (.int x3), none] [] S else rk px kx f (d + 4) 238 134 [some (.ref x0), some (.long x1), none, some (.int x3), none] [] S) (fun f => rfl) ?_
  refine OkF.ite (fun _ => ?_) (fun _ => ?_)
  · refine OkF.eq 2 (Y := fun f => rk px kx f (d + 4) 238 196 [some (.ref x0), some (.long x1), none, some (.int (0 : Int32)), none] [] S) (fun f => rfl) ?_
    exact OkF.kl (ls1 := [some (.ref x0), some (.long x1), none, some (.int (0 : Int32)), none]) (fun f => rfl) (ol238_196 d 1000 x0 x1 (0 : Int32) S)
  · refine OkF.eq 5 (Y := fun f => if oc S x0 12 = true then rk px kx f (d + 4) 238 143 [some (.ref x0), some (.long x1), none, some (.int x3), none] (va_rf (S.2.2.2.1 x0 0) :: [.long ((31 : Int64) * x1)]) S else none) (fun f => rfl) ?_
    refine OkF.grd (fun _ => ?_)
    refine OkF.rf (fun a7 => ?_)
    refine OkF.eq 2 (Y := fun f => if inb x3 (al S a7) = true then rk px kx f (d + 4) 238 145 [some (.ref x0), some (.long x1), none, some (.int x3), none] [.int (S.2.1 a7 x3.toNatClampNeg), .long ((31 : Int64) * x1)] S else none) (fun f => rfl) ?_
    refine OkF.grd (fun _ => ?_)
    refine OkF.eq 5 (Y := fun f => rk px kx f (d + 4) 238 151 [some (.ref x0), some (.long (((31 : Int64) * x1) + ((S.2.1 a7 x3.toNatClampNeg).toInt64))), none, some (.int x3), some (.int (0 : Int32))] [] S) (fun f => rfl) ?_
    exact OkF.kl (ls1 := [some (.ref x0), some (.long (((31 : Int64) * x1) + ((S.2.1 a7 x3.toNatClampNeg).toInt64))), none, some (.int x3), some (.int (0 : Int32))]) (fun f => rfl) (ol238_151 d k128 hk128 1000 x0 (((31 : Int64) * x1) + ((S.2.1 a7 x3.toNatClampNeg).toInt64)) x3 (0 : Int32) S)
def l238_128 : Nat → Nat → Int64 → Int32 → Sx → Option (Int64 × Sx)
  | 0 => fun _ _ _ _ => none
  | n + 1 => fun x0 x1 x3 S => b238_128 (l238_128 n) x0 x1 x3 S
set_option maxRecDepth 100000 in
theorem ol238_128 (d : Nat) : ∀ (n : Nat) (x0 : Nat) (x1 : Int64) (x3 : Int32) (S : Sx), OkF wL (fun f => rk px kx f (d + 4) 238 128 [some (.ref x0), some (.long x1), none, some (.int x3), none] [] S) (l238_128 n x0 x1 x3 S) := by
  intro n
  induction n with
  | zero => intro x0 x1 x3 S; exact OkF.no
  | succ n ih => intro x0 x1 x3 S; exact ob238_128 d (l238_128 n) ih x0 x1 x3 S
def b238_80 (k80 : Nat → Int64 → Int32 → Sx → Option (Int64 × Sx)) (x0 : Nat) (x1 : Int64) (x3 : Int32) (S : Sx) : Option (Int64 × Sx) :=
  if (3 : Int32) ≤ x3 then l238_128 1000 x0 x1 (0 : Int32) S else if oc S x0 12 = true then (S.2.2.2.1 x0 12).bind fun a8 => if inb x3 (aw S 2 a8) = true then if (S.2.1 a8 x3.toNatClampNeg) = 0 then b238_117 k80 x0 x3 ((31 : Int64) * x1) (-1 : Int32) S else if oc S x0 12 = true then (S.2.2.2.1 x0 11).bind fun a9 => if inb (((657 : Int32) * x3) + (656 : Int32)) (al S a9) = true then b238_117 k80 x0 x3 ((31 : Int64) * x1) (S.2.1 a9 (((657 : Int32) * x3) + (656 : Int32)).toNatClampNeg) S else none else none else none else none
set_option maxRecDepth 100000 in
theorem ob238_80 (d : Nat) (k80 : Nat → Int64 → Int32 → Sx → Option (Int64 × Sx)) (hk80 : ∀ (x0 : Nat) (x1 : Int64) (x3 : Int32) (S : Sx), OkF wL (fun f => rk px kx f (d + 4) 238 80 [some (.ref x0), some (.long x1), none, some (.int x3), none] [] S) (k80 x0 x1 x3 S)) (x0 : Nat) (x1 : Int64) (x3 : Int32) (S : Sx) : OkF wL (fun f => rk px kx f (d + 4) 238 80 [some (.ref x0), some (.long x1), none, some (.int x3), none] [] S) (b238_80 k80 x0 x1 x3 S) := by
  unfold b238_80
  refine OkF.eq 3 (Y := fun f => if (3 : Int32) ≤ x3 then rk px kx f (d + 4) 238 126 [some (.ref x0), some (.long x1), none, some (.int x3), none] [] S else rk px kx f (d + 4) 238 85 [some (.ref x0), some (.long x1), none, some (.int x3), none] [] S) (fun f => rfl) ?_
  refine OkF.ite (fun _ => ?_) (fun _ => ?_)
  · refine OkF.eq 2 (Y := fun f => rk px kx f (d + 4) 238 128 [some (.ref x0), some (.long x1), none, some (.int (0 : Int32)), none] [] S) (fun f => rfl) ?_
    exact OkF.kl (ls1 := [some (.ref x0), some (.long x1), none, some (.int (0 : Int32)), none]) (fun f => rfl) (ol238_128 d 1000 x0 x1 (0 : Int32) S)
  · refine OkF.eq 5 (Y := fun f => if oc S x0 12 = true then rk px kx f (d + 4) 238 94 [some (.ref x0), some (.long x1), none, some (.int x3), none] (va_rf (S.2.2.2.1 x0 12) :: [.long ((31 : Int64) * x1)]) S else none) (fun f => rfl) ?_
    refine OkF.grd (fun _ => ?_)
    refine OkF.rf (fun a8 => ?_)
    refine OkF.eq 2 (Y := fun f => if inb x3 (aw S 2 a8) = true then rk px kx f (d + 4) 238 96 [some (.ref x0), some (.long x1), none, some (.int x3), none] [.int (S.2.1 a8 x3.toNatClampNeg), .long ((31 : Int64) * x1)] S else none) (fun f => rfl) ?_
    refine OkF.grd (fun _ => ?_)
    refine OkF.eq 1 (Y := fun f => if (S.2.1 a8 x3.toNatClampNeg) = 0 then rk px kx f (d + 4) 238 116 [some (.ref x0), some (.long x1), none, some (.int x3), none] [.long ((31 : Int64) * x1)] S else rk px kx f (d + 4) 238 99 [some (.ref x0), some (.long x1), none, some (.int x3), none] [.long ((31 : Int64) * x1)] S) (fun f => rfl) ?_
    refine OkF.ite (fun _ => ?_) (fun _ => ?_)
    · refine OkF.eq 1 (Y := fun f => rk px kx f (d + 4) 238 117 [some (.ref x0), some (.long x1), none, some (.int x3), none] [.int (-1 : Int32), .long ((31 : Int64) * x1)] S) (fun f => rfl) ?_
      exact OkF.kl (ls1 := [some (.ref x0), none, none, some (.int x3), none]) (fun f => rfl) (ob238_117 d k80 hk80 x0 x3 ((31 : Int64) * x1) (-1 : Int32) S)
    · refine OkF.eq 2 (Y := fun f => if oc S x0 12 = true then rk px kx f (d + 4) 238 103 [some (.ref x0), some (.long x1), none, some (.int x3), none] (va_rf (S.2.2.2.1 x0 11) :: [.long ((31 : Int64) * x1)]) S else none) (fun f => rfl) ?_
      refine OkF.grd (fun _ => ?_)
      refine OkF.rf (fun a9 => ?_)
      refine OkF.eq 6 (Y := fun f => if inb (((657 : Int32) * x3) + (656 : Int32)) (al S a9) = true then rk px kx f (d + 4) 238 113 [some (.ref x0), some (.long x1), none, some (.int x3), none] [.int (S.2.1 a9 (((657 : Int32) * x3) + (656 : Int32)).toNatClampNeg), .long ((31 : Int64) * x1)] S else none) (fun f => rfl) ?_
      refine OkF.grd (fun _ => ?_)
      refine OkF.eq 1 (Y := fun f => rk px kx f (d + 4) 238 117 [some (.ref x0), some (.long x1), none, some (.int x3), none] [.int (S.2.1 a9 (((657 : Int32) * x3) + (656 : Int32)).toNatClampNeg), .long ((31 : Int64) * x1)] S) (fun f => rfl) ?_
      exact OkF.kl (ls1 := [some (.ref x0), none, none, some (.int x3), none]) (fun f => rfl) (ob238_117 d k80 hk80 x0 x3 ((31 : Int64) * x1) (S.2.1 a9 (((657 : Int32) * x3) + (656 : Int32)).toNatClampNeg) S)
def l238_80 : Nat → Nat → Int64 → Int32 → Sx → Option (Int64 × Sx)
  | 0 => fun _ _ _ _ => none
  | n + 1 => fun x0 x1 x3 S => b238_80 (l238_80 n) x0 x1 x3 S
set_option maxRecDepth 100000 in
theorem ol238_80 (d : Nat) : ∀ (n : Nat) (x0 : Nat) (x1 : Int64) (x3 : Int32) (S : Sx), OkF wL (fun f => rk px kx f (d + 4) 238 80 [some (.ref x0), some (.long x1), none, some (.int x3), none] [] S) (l238_80 n x0 x1 x3 S) := by
  intro n
  induction n with
  | zero => intro x0 x1 x3 S; exact OkF.no
  | succ n ih => intro x0 x1 x3 S; exact ob238_80 d (l238_80 n) ih x0 x1 x3 S
def b238_33 (k33 : Nat → Int64 → Int32 → Sx → Option (Int64 × Sx)) (x0 : Nat) (x1 : Int64) (x3 : Int32) (S : Sx) : Option (Int64 × Sx) :=
  if oc S x0 12 = true then if (S.2.1 x0 4) ≤ x3 then l238_80 1000 x0 x1 (0 : Int32) S else l238_44 k33 1000 x0 x1 x3 (0 : Int32) S else none
set_option maxRecDepth 100000 in
theorem ob238_33 (d : Nat) (k33 : Nat → Int64 → Int32 → Sx → Option (Int64 × Sx)) (hk33 : ∀ (x0 : Nat) (x1 : Int64) (x3 : Int32) (S : Sx), OkF wL (fun f => rk px kx f (d + 4) 238 33 [some (.ref x0), some (.long x1), none, some (.int x3), none] [] S) (k33 x0 x1 x3 S)) (x0 : Nat) (x1 : Int64) (x3 : Int32) (S : Sx) : OkF wL (fun f => rk px kx f (d + 4) 238 33 [some (.ref x0), some (.long x1), none, some (.int x3), none] [] S) (b238_33 k33 x0 x1 x3 S) := by
  unfold b238_33
  refine OkF.eq 3 (Y := fun f => if oc S x0 12 = true then rk px kx f (d + 4) 238 38 [some (.ref x0), some (.long x1), none, some (.int x3), none] [.int (S.2.1 x0 4), .int x3] S else none) (fun f => rfl) ?_
  refine OkF.grd (fun _ => ?_)
  refine OkF.eq 1 (Y := fun f => if (S.2.1 x0 4) ≤ x3 then rk px kx f (d + 4) 238 78 [some (.ref x0), some (.long x1), none, some (.int x3), none] [] S else rk px kx f (d + 4) 238 41 [some (.ref x0), some (.long x1), none, some (.int x3), none] [] S) (fun f => rfl) ?_
  refine OkF.ite (fun _ => ?_) (fun _ => ?_)
  · refine OkF.eq 2 (Y := fun f => rk px kx f (d + 4) 238 80 [some (.ref x0), some (.long x1), none, some (.int (0 : Int32)), none] [] S) (fun f => rfl) ?_
    exact OkF.kl (ls1 := [some (.ref x0), some (.long x1), none, some (.int (0 : Int32)), none]) (fun f => rfl) (ol238_80 d 1000 x0 x1 (0 : Int32) S)
  · refine OkF.eq 2 (Y := fun f => rk px kx f (d + 4) 238 44 [some (.ref x0), some (.long x1), none, some (.int x3), some (.int (0 : Int32))] [] S) (fun f => rfl) ?_
    exact OkF.kl (ls1 := [some (.ref x0), some (.long x1), none, some (.int x3), some (.int (0 : Int32))]) (fun f => rfl) (ol238_44 d k33 hk33 1000 x0 x1 x3 (0 : Int32) S)
def l238_33 : Nat → Nat → Int64 → Int32 → Sx → Option (Int64 × Sx)
  | 0 => fun _ _ _ _ => none
  | n + 1 => fun x0 x1 x3 S => b238_33 (l238_33 n) x0 x1 x3 S
set_option maxRecDepth 100000 in
theorem ol238_33 (d : Nat) : ∀ (n : Nat) (x0 : Nat) (x1 : Int64) (x3 : Int32) (S : Sx), OkF wL (fun f => rk px kx f (d + 4) 238 33 [some (.ref x0), some (.long x1), none, some (.int x3), none] [] S) (l238_33 n x0 x1 x3 S) := by
  intro n
  induction n with
  | zero => intro x0 x1 x3 S; exact OkF.no
  | succ n ih => intro x0 x1 x3 S; exact ob238_33 d (l238_33 n) ih x0 x1 x3 S
def b238_6 (k6 : Nat → Int64 → Int32 → Sx → Option (Int64 × Sx)) (x0 : Nat) (x1 : Int64) (x3 : Int32) (S : Sx) : Option (Int64 × Sx) :=
  if (11 : Int32) ≤ x3 then l238_33 1000 x0 x1 (0 : Int32) S else if oc S x0 12 = true then (m235 x0 x3 S).bind fun q10 => k6 x0 (((31 : Int64) * x1) + q10.1.toInt64) (x3 + (1 : Int32)) q10.2 else none
set_option maxRecDepth 100000 in
theorem ob238_6 (d : Nat) (k6 : Nat → Int64 → Int32 → Sx → Option (Int64 × Sx)) (hk6 : ∀ (x0 : Nat) (x1 : Int64) (x3 : Int32) (S : Sx), OkF wL (fun f => rk px kx f (d + 4) 238 6 [some (.ref x0), some (.long x1), none, some (.int x3), none] [] S) (k6 x0 x1 x3 S)) (x0 : Nat) (x1 : Int64) (x3 : Int32) (S : Sx) : OkF wL (fun f => rk px kx f (d + 4) 238 6 [some (.ref x0), some (.long x1), none, some (.int x3), none] [] S) (b238_6 k6 x0 x1 x3 S) := by
  unfold b238_6
  refine OkF.eq 3 (Y := fun f => if (11 : Int32) ≤ x3 then rk px kx f (d + 4) 238 31 [some (.ref x0), some (.long x1), none, some (.int x3), none] [] S else rk px kx f (d + 4) 238 12 [some (.ref x0), some (.long x1), none, some (.int x3), none] [] S) (fun f => rfl) ?_
  refine OkF.ite (fun _ => ?_) (fun _ => ?_)
  · refine OkF.eq 2 (Y := fun f => rk px kx f (d + 4) 238 33 [some (.ref x0), some (.long x1), none, some (.int (0 : Int32)), none] [] S) (fun f => rfl) ?_
    exact OkF.kl (ls1 := [some (.ref x0), some (.long x1), none, some (.int (0 : Int32)), none]) (fun f => rfl) (ol238_33 d 1000 x0 x1 (0 : Int32) S)
  · refine OkF.eq 6 (Y := fun f => if oc S x0 12 = true then (rk px kx f (d + 3) 235 0 [some (.ref x0), some (.int x3), none, none] [] S).bind (fun q => rk px kx f (d + 4) 238 22 [some (.ref x0), some (.long x1), none, some (.int x3), none] (q.1.toList ++ [.long ((31 : Int64) * x1)]) q.2) else none) (fun f => rfl) ?_
    refine OkF.grd (fun _ => ?_)
    refine OkF.bind (w1 := wI) (om235 (d + 2) x0 x3 S) (fun q10 => ?_)
    refine OkF.eq 5 (Y := fun f => rk px kx f (d + 4) 238 6 [some (.ref x0), some (.long (((31 : Int64) * x1) + q10.1.toInt64)), none, some (.int (x3 + (1 : Int32))), none] [] q10.2) (fun f => rfl) ?_
    exact OkF.kl (ls1 := [some (.ref x0), some (.long (((31 : Int64) * x1) + q10.1.toInt64)), none, some (.int (x3 + (1 : Int32))), none]) (fun f => rfl) (hk6 x0 (((31 : Int64) * x1) + q10.1.toInt64) (x3 + (1 : Int32)) q10.2)
def l238_6 : Nat → Nat → Int64 → Int32 → Sx → Option (Int64 × Sx)
  | 0 => fun _ _ _ _ => none
  | n + 1 => fun x0 x1 x3 S => b238_6 (l238_6 n) x0 x1 x3 S
set_option maxRecDepth 100000 in
theorem ol238_6 (d : Nat) : ∀ (n : Nat) (x0 : Nat) (x1 : Int64) (x3 : Int32) (S : Sx), OkF wL (fun f => rk px kx f (d + 4) 238 6 [some (.ref x0), some (.long x1), none, some (.int x3), none] [] S) (l238_6 n x0 x1 x3 S) := by
  intro n
  induction n with
  | zero => intro x0 x1 x3 S; exact OkF.no
  | succ n ih => intro x0 x1 x3 S; exact ob238_6 d (l238_6 n) ih x0 x1 x3 S
def m238 (x0 : Nat) (S : Sx) : Option (Int64 × Sx) :=
  l238_6 1000 x0 (17 : Int64) (0 : Int32) S
set_option maxRecDepth 100000 in
theorem om238 (d : Nat) (x0 : Nat) (S : Sx) : OkF wL (fun f => rk px kx f (d + 4) 238 0 [some (.ref x0), none, none, none, none] [] S) (m238 x0 S) := by
  unfold m238
  refine OkF.eq 4 (Y := fun f => rk px kx f (d + 4) 238 6 [some (.ref x0), some (.long (17 : Int64)), none, some (.int (0 : Int32)), none] [] S) (fun f => rfl) ?_
  exact OkF.kl (ls1 := [some (.ref x0), some (.long (17 : Int64)), none, some (.int (0 : Int32)), none]) (fun f => rfl) (ol238_6 d 1000 x0 (17 : Int64) (0 : Int32) S)
-- DoorSoldLaw.law([I)Z
def b239_1355 (k18 : Nat → Nat → Nat → Int32 → Sx → Option (Int32 × Sx)) (x0 : Nat) (x1 : Nat) (x2 : Nat) (x3 : Int32) (S : Sx) : Option (Int32 × Sx) :=
  k18 x0 x1 x2 (x3 + (6 : Int32)) S
set_option maxRecDepth 100000 in
theorem ob239_1355 (d : Nat) (k18 : Nat → Nat → Nat → Int32 → Sx → Option (Int32 × Sx)) (hk18 : ∀ (x0 : Nat) (x1 : Nat) (x2 : Nat) (x3 : Int32) (S : Sx), OkF wI (fun f => rk px kx f (d + 8) 239 18 [some (.ref x0), some (.ref x1), some (.ref x2), some (.int x3)] [] S) (k18 x0 x1 x2 x3 S)) (x0 : Nat) (x1 : Nat) (x2 : Nat) (x3 : Int32) (S : Sx) : OkF wI (fun f => rk px kx f (d + 8) 239 1355 [some (.ref x0), some (.ref x1), some (.ref x2), some (.int x3)] [] S) (b239_1355 k18 x0 x1 x2 x3 S) := by
  unfold b239_1355
  refine OkF.eq 2 (Y := fun f => rk px kx f (d + 8) 239 18 [some (.ref x0), some (.ref x1), some (.ref x2), some (.int (x3 + (6 : Int32)))] [] S) (fun f => rfl) ?_
  exact OkF.kl (ls1 := [some (.ref x0), some (.ref x1), some (.ref x2), some (.int (x3 + (6 : Int32)))]) (fun f => rfl) (hk18 x0 x1 x2 (x3 + (6 : Int32)) S)
def b239_18 (k18 : Nat → Nat → Nat → Int32 → Sx → Option (Int32 × Sx)) (x0 : Nat) (x1 : Nat) (x2 : Nat) (x3 : Int32) (S : Sx) : Option (Int32 × Sx) :=
  if (Nat.beq x0 1000 || isa S 1 x0) = true then if ((Int32.ofNat (al S x0)) - (6 : Int32)) < x3 then some ((1 : Int32), S) else if inb x3 (al S x0) = true then if ((S.2.1 x0 x3.toNatClampNeg) &&& (63 : Int32)) = (0 : Int32) then (if inb (x3 + (1 : Int32)) (al S x0) = true then if inb (x3 + (2 : Int32)) (al S x0) = true then if oc S x1 11 = true then (m13 x1 (S.2.1 x0 (x3 + (1 : Int32)).toNatClampNeg) (S.2.1 x0 (x3 + (2 : Int32)).toNatClampNeg) S).bind fun q1 => if inb (x3 + (1 : Int32)) (al q1.2 x0) = true then if inb (x3 + (2 : Int32)) (al q1.2 x0) = true then if oc q1.2 x2 12 = true then (m148 x2 (q1.2.2.1 x0 (x3 + (1 : Int32)).toNatClampNeg) (q1.2.2.1 x0 (x3 + (2 : Int32)).toNatClampNeg) q1.2).bind fun q2 => if q1.1 = q2.1 then b239_1355 k18 x0 x1 x2 x3 q2.2 else some ((0 : Int32), q2.2) else none else none else none else none else none else none) else if ((S.2.1 x0 x3.toNatClampNeg) &&& (63 : Int32)) = (1 : Int32) then (if inb (x3 + (1 : Int32)) (al S x0) = true then if inb (x3 + (2 : Int32)) (al S x0) = true then if inb (x3 + (3 : Int32)) (al S x0) = true then if oc S x1 11 = true then (m18 x1 (S.2.1 x0 (x3 + (1 : Int32)).toNatClampNeg) (S.2.1 x0 (x3 + (2 : Int32)).toNatClampNeg) (S.2.1 x0 (x3 + (3 : Int32)).toNatClampNeg) S).bind fun q3 => if inb (x3 + (1 : Int32)) (al q3.2 x0) = true then if inb (x3 + (2 : Int32)) (al q3.2 x0) = true then if inb (x3 + (3 : Int32)) (al q3.2 x0) = true then if oc q3.2 x2 12 = true then (m152 x2 (q3.2.2.1 x0 (x3 + (1 : Int32)).toNatClampNeg) (q3.2.2.1 x0 (x3 + (2 : Int32)).toNatClampNeg) (q3.2.2.1 x0 (x3 + (3 : Int32)).toNatClampNeg) q3.2).bind fun q4 => if q3.1 = q4.1 then b239_1355 k18 x0 x1 x2 x3 q4.2 else some ((0 : Int32), q4.2) else none else none else none else none else none else none else none else none) else if ((S.2.1 x0 x3.toNatClampNeg) &&& (63 : Int32)) = (2 : Int32) then (if inb (x3 + (1 : Int32)) (al S x0) = true then if inb (x3 + (2 : Int32)) (al S x0) = true then if oc S x1 11 = true then (m22 x1 (S.2.1 x0 (x3 + (1 : Int32)).toNatClampNeg) (S.2.1 x0 (x3 + (2 : Int32)).toNatClampNeg) S).bind fun q5 => if inb (x3 + (1 : Int32)) (al q5.2 x0) = true then if inb (x3 + (2 : Int32)) (al q5.2 x0) = true then if oc q5.2 x2 12 = true then (m154 x2 (q5.2.2.1 x0 (x3 + (1 : Int32)).toNatClampNeg) (q5.2.2.1 x0 (x3 + (2 : Int32)).toNatClampNeg) q5.2).bind fun q6 => if q5.1 = q6.1 then b239_1355 k18 x0 x1 x2 x3 q6.2 else some ((0 : Int32), q6.2) else none else none else none else none else none else none) else if ((S.2.1 x0 x3.toNatClampNeg) &&& (63 : Int32)) = (3 : Int32) then (if inb (x3 + (1 : Int32)) (al S x0) = true then if oc S x1 11 = true then (m23 x1 (S.2.1 x0 (x3 + (1 : Int32)).toNatClampNeg) S).bind fun q7 => if inb (x3 + (1 : Int32)) (al q7.2 x0) = true then if oc q7.2 x2 12 = true then (m155 x2 (q7.2.2.1 x0 (x3 + (1 : Int32)).toNatClampNeg) q7.2).bind fun q8 => if q7.1 = q8.1 then b239_1355 k18 x0 x1 x2 x3 q8.2 else some ((0 : Int32), q8.2) else none else none else none else none) else if ((S.2.1 x0 x3.toNatClampNeg) &&& (63 : Int32)) = (4 : Int32) then (if inb (x3 + (1 : Int32)) (al S x0) = true then if inb (x3 + (2 : Int32)) (al S x0) = true then if inb (x3 + (3 : Int32)) (al S x0) = true then if inb (x3 + (4 : Int32)) (al S x0) = true then if inb (x3 + (5 : Int32)) (al S x0) = true then if oc S x1 11 = true then (m24 x1 (S.2.1 x0 (x3 + (1 : Int32)).toNatClampNeg) (S.2.1 x0 (x3 + (2 : Int32)).toNatClampNeg) (S.2.1 x0 (x3 + (3 : Int32)).toNatClampNeg) (S.2.1 x0 (x3 + (4 : Int32)).toNatClampNeg) (S.2.1 x0 (x3 + (5 : Int32)).toNatClampNeg) S).bind fun q9 => if inb (x3 + (1 : Int32)) (al q9.2 x0) = true then if inb (x3 + (2 : Int32)) (al q9.2 x0) = true then if inb (x3 + (3 : Int32)) (al q9.2 x0) = true then if inb (x3 + (4 : Int32)) (al q9.2 x0) = true then if inb (x3 + (5 : Int32)) (al q9.2 x0) = true then if oc q9.2 x2 12 = true then (m156 x2 (q9.2.2.1 x0 (x3 + (1 : Int32)).toNatClampNeg) (q9.2.2.1 x0 (x3 + (2 : Int32)).toNatClampNeg) (q9.2.2.1 x0 (x3 + (3 : Int32)).toNatClampNeg) (q9.2.2.1 x0 (x3 + (4 : Int32)).toNatClampNeg) (q9.2.2.1 x0 (x3 + (5 : Int32)).toNatClampNeg) q9.2).bind fun q10 => if q9.1 = q10.1 then b239_1355 k18 x0 x1 x2 x3 q10.2 else some ((0 : Int32), q10.2) else none else none else none else none else none else none else none else none else none else none else none else none) else if ((S.2.1 x0 x3.toNatClampNeg) &&& (63 : Int32)) = (5 : Int32) then (if inb (x3 + (1 : Int32)) (al S x0) = true then if oc S x1 11 = true then (m25 x1 (S.2.1 x0 (x3 + (1 : Int32)).toNatClampNeg) S).bind fun q11 => if inb (x3 + (1 : Int32)) (al q11.2 x0) = true then if oc q11.2 x2 12 = true then (m157 x2 (q11.2.2.1 x0 (x3 + (1 : Int32)).toNatClampNeg) q11.2).bind fun q12 => if q11.1 = q12.1 then b239_1355 k18 x0 x1 x2 x3 q12.2 else some ((0 : Int32), q12.2) else none else none else none else none) else if ((S.2.1 x0 x3.toNatClampNeg) &&& (63 : Int32)) = (6 : Int32) then (if inb (x3 + (1 : Int32)) (al S x0) = true then if inb (x3 + (2 : Int32)) (al S x0) = true then if oc S x1 11 = true then (m27 x1 (S.2.1 x0 (x3 + (1 : Int32)).toNatClampNeg) (S.2.1 x0 (x3 + (2 : Int32)).toNatClampNeg) S).bind fun q13 => if inb (x3 + (1 : Int32)) (al q13.2 x0) = true then if inb (x3 + (2 : Int32)) (al q13.2 x0) = true then if oc q13.2 x2 12 = true then (m158 x2 (q13.2.2.1 x0 (x3 + (1 : Int32)).toNatClampNeg) (q13.2.2.1 x0 (x3 + (2 : Int32)).toNatClampNeg) q13.2).bind fun q14 => if q13.1 = q14.1 then b239_1355 k18 x0 x1 x2 x3 q14.2 else some ((0 : Int32), q14.2) else none else none else none else none else none else none) else if ((S.2.1 x0 x3.toNatClampNeg) &&& (63 : Int32)) = (7 : Int32) then (if inb (x3 + (1 : Int32)) (al S x0) = true then if inb (x3 + (2 : Int32)) (al S x0) = true then if inb (x3 + (3 : Int32)) (al S x0) = true then if oc S x1 11 = true then (m29 x1 (S.2.1 x0 (x3 + (1 : Int32)).toNatClampNeg) (S.2.1 x0 (x3 + (2 : Int32)).toNatClampNeg) (S.2.1 x0 (x3 + (3 : Int32)).toNatClampNeg) S).bind fun q15 => if inb (x3 + (1 : Int32)) (al q15.2 x0) = true then if inb (x3 + (2 : Int32)) (al q15.2 x0) = true then if inb (x3 + (3 : Int32)) (al q15.2 x0) = true then if oc q15.2 x2 12 = true then (m160 x2 (q15.2.2.1 x0 (x3 + (1 : Int32)).toNatClampNeg) (q15.2.2.1 x0 (x3 + (2 : Int32)).toNatClampNeg) (q15.2.2.1 x0 (x3 + (3 : Int32)).toNatClampNeg) q15.2).bind fun q16 => if q15.1 = q16.1 then b239_1355 k18 x0 x1 x2 x3 q16.2 else some ((0 : Int32), q16.2) else none else none else none else none else none else none else none else none) else if ((S.2.1 x0 x3.toNatClampNeg) &&& (63 : Int32)) = (8 : Int32) then (if inb (x3 + (1 : Int32)) (al S x0) = true then if oc S x1 11 = true then (m30 x1 (S.2.1 x0 (x3 + (1 : Int32)).toNatClampNeg) S).bind fun q17 => if inb (x3 + (1 : Int32)) (al q17.2 x0) = true then if oc q17.2 x2 12 = true then (m161 x2 (q17.2.2.1 x0 (x3 + (1 : Int32)).toNatClampNeg) q17.2).bind fun q18 => if q17.1 = q18.1 then b239_1355 k18 x0 x1 x2 x3 q18.2 else some ((0 : Int32), q18.2) else none else none else none else none) else if ((S.2.1 x0 x3.toNatClampNeg) &&& (63 : Int32)) = (9 : Int32) then (if inb (x3 + (1 : Int32)) (al S x0) = true then if oc S x1 11 = true then (m40 x1 (S.2.1 x0 (x3 + (1 : Int32)).toNatClampNeg) S).bind fun q19 => if inb (x3 + (1 : Int32)) (al q19.2 x0) = true then if oc q19.2 x2 12 = true then (m169 x2 (q19.2.2.1 x0 (x3 + (1 : Int32)).toNatClampNeg) q19.2).bind fun q20 => if q19.1 = q20.1 then b239_1355 k18 x0 x1 x2 x3 q20.2 else some ((0 : Int32), q20.2) else none else none else none else none) else if ((S.2.1 x0 x3.toNatClampNeg) &&& (63 : Int32)) = (10 : Int32) then (if inb (x3 + (1 : Int32)) (al S x0) = true then if inb (x3 + (2 : Int32)) (al S x0) = true then if oc S x1 11 = true then (m42 x1 (S.2.1 x0 (x3 + (1 : Int32)).toNatClampNeg) (S.2.1 x0 (x3 + (2 : Int32)).toNatClampNeg) S).bind fun q21 => if inb (x3 + (1 : Int32)) (al q21.2 x0) = true then if inb (x3 + (2 : Int32)) (al q21.2 x0) = true then if oc q21.2 x2 12 = true then (m170 x2 (q21.2.2.1 x0 (x3 + (1 : Int32)).toNatClampNeg) (q21.2.2.1 x0 (x3 + (2 : Int32)).toNatClampNeg) q21.2).bind fun q22 => if q21.1 = q22.1 then b239_1355 k18 x0 x1 x2 x3 q22.2 else some ((0 : Int32), q22.2) else none else none else none else none else none else none) else if ((S.2.1 x0 x3.toNatClampNeg) &&& (63 : Int32)) = (11 : Int32) then (if inb (x3 + (1 : Int32)) (al S x0) = true then if inb (x3 + (2 : Int32)) (al S x0) = true then if oc S x1 11 = true then (m67 x1 (S.2.1 x0 (x3 + (1 : Int32)).toNatClampNeg) (S.2.1 x0 (x3 + (2 : Int32)).toNatClampNeg) S).bind fun q23 => if inb (x3 + (1 : Int32)) (al q23.2 x0) = true then if inb (x3 + (2 : Int32)) (al q23.2 x0) = true then if oc q23.2 x2 12 = true then (m181 x2 (q23.2.2.1 x0 (x3 + (1 : Int32)).toNatClampNeg) (q23.2.2.1 x0 (x3 + (2 : Int32)).toNatClampNeg) q23.2).bind fun q24 => if q23.1 = q24.1 then b239_1355 k18 x0 x1 x2 x3 q24.2 else some ((0 : Int32), q24.2) else none else none else none else none else none else none) else if ((S.2.1 x0 x3.toNatClampNeg) &&& (63 : Int32)) = (12 : Int32) then (if oc S x1 11 = true then (m73 x1 S).bind fun q25 => if oc q25.2 x2 12 = true then (m187 x2 q25.2).bind fun q26 => if q25.1 = q26.1 then b239_1355 k18 x0 x1 x2 x3 q26.2 else some ((0 : Int32), q26.2) else none else none) else if ((S.2.1 x0 x3.toNatClampNeg) &&& (63 : Int32)) = (13 : Int32) then (if oc S x1 11 = true then (m78 x1 S).bind fun q27 => if oc q27.2 x2 12 = true then (m192 x2 q27.2).bind fun q28 => if q27.1 = q28.1 then b239_1355 k18 x0 x1 x2 x3 q28.2 else some ((0 : Int32), q28.2) else none else none) else if ((S.2.1 x0 x3.toNatClampNeg) &&& (63 : Int32)) = (14 : Int32) then (if inb (x3 + (1 : Int32)) (al S x0) = true then if oc S x1 11 = true then (m79 x1 (S.2.1 x0 (x3 + (1 : Int32)).toNatClampNeg) S).bind fun q29 => if inb (x3 + (1 : Int32)) (al q29.2 x0) = true then if oc q29.2 x2 12 = true then (m194 x2 (q29.2.2.1 x0 (x3 + (1 : Int32)).toNatClampNeg) q29.2).bind fun q30 => if q29.1 = q30.1 then b239_1355 k18 x0 x1 x2 x3 q30.2 else some ((0 : Int32), q30.2) else none else none else none else none) else if ((S.2.1 x0 x3.toNatClampNeg) &&& (63 : Int32)) = (15 : Int32) then (if inb (x3 + (1 : Int32)) (al S x0) = true then if oc S x1 11 = true then (m81 x1 (S.2.1 x0 (x3 + (1 : Int32)).toNatClampNeg) S).bind fun q31 => if inb (x3 + (1 : Int32)) (al q31.2 x0) = true then if oc q31.2 x2 12 = true then (m197 x2 (q31.2.2.1 x0 (x3 + (1 : Int32)).toNatClampNeg) q31.2).bind fun q32 => if q31.1 = q32.1 then b239_1355 k18 x0 x1 x2 x3 q32.2 else some ((0 : Int32), q32.2) else none else none else none else none) else if ((S.2.1 x0 x3.toNatClampNeg) &&& (63 : Int32)) = (16 : Int32) then (if inb (x3 + (1 : Int32)) (al S x0) = true then if oc S x1 11 = true then (m82 x1 (S.2.1 x0 (x3 + (1 : Int32)).toNatClampNeg) S).bind fun q33 => if inb (x3 + (1 : Int32)) (al q33.2 x0) = true then if oc q33.2 x2 12 = true then (m198 x2 (q33.2.2.1 x0 (x3 + (1 : Int32)).toNatClampNeg) q33.2).bind fun q34 => if q33.1 = q34.1 then b239_1355 k18 x0 x1 x2 x3 q34.2 else some ((0 : Int32), q34.2) else none else none else none else none) else if ((S.2.1 x0 x3.toNatClampNeg) &&& (63 : Int32)) = (17 : Int32) then (if inb (x3 + (1 : Int32)) (al S x0) = true then if oc S x1 11 = true then (m83 x1 (S.2.1 x0 (x3 + (1 : Int32)).toNatClampNeg) S).bind fun q35 => if inb (x3 + (1 : Int32)) (al q35.2 x0) = true then if oc q35.2 x2 12 = true then (m199 x2 (q35.2.2.1 x0 (x3 + (1 : Int32)).toNatClampNeg) q35.2).bind fun q36 => if q35.1 = q36.1 then b239_1355 k18 x0 x1 x2 x3 q36.2 else some ((0 : Int32), q36.2) else none else none else none else none) else if ((S.2.1 x0 x3.toNatClampNeg) &&& (63 : Int32)) = (18 : Int32) then (if inb (x3 + (1 : Int32)) (al S x0) = true then if oc S x1 11 = true then (m84 x1 (S.2.1 x0 (x3 + (1 : Int32)).toNatClampNeg) S).bind fun q37 => if inb (x3 + (1 : Int32)) (al q37.2 x0) = true then if oc q37.2 x2 12 = true then (m200 x2 (q37.2.2.1 x0 (x3 + (1 : Int32)).toNatClampNeg) q37.2).bind fun q38 => if q37.1 = q38.1 then b239_1355 k18 x0 x1 x2 x3 q38.2 else some ((0 : Int32), q38.2) else none else none else none else none) else if ((S.2.1 x0 x3.toNatClampNeg) &&& (63 : Int32)) = (19 : Int32) then (if inb (x3 + (1 : Int32)) (al S x0) = true then if oc S x1 11 = true then (m86 x1 (S.2.1 x0 (x3 + (1 : Int32)).toNatClampNeg) S).bind fun q39 => if inb (x3 + (1 : Int32)) (al q39.2 x0) = true then if oc q39.2 x2 12 = true then (m201 x2 (q39.2.2.1 x0 (x3 + (1 : Int32)).toNatClampNeg) q39.2).bind fun q40 => if q39.1 = q40.1 then b239_1355 k18 x0 x1 x2 x3 q40.2 else some ((0 : Int32), q40.2) else none else none else none else none) else if ((S.2.1 x0 x3.toNatClampNeg) &&& (63 : Int32)) = (20 : Int32) then (if inb (x3 + (1 : Int32)) (al S x0) = true then if oc S x1 11 = true then (m88 x1 (S.2.1 x0 (x3 + (1 : Int32)).toNatClampNeg) S).bind fun q41 => if inb (x3 + (1 : Int32)) (al q41.2 x0) = true then if oc q41.2 x2 12 = true then (m202 x2 (q41.2.2.1 x0 (x3 + (1 : Int32)).toNatClampNeg) q41.2).bind fun q42 => if q41.1 = q42.1 then b239_1355 k18 x0 x1 x2 x3 q42.2 else some ((0 : Int32), q42.2) else none else none else none else none) else if ((S.2.1 x0 x3.toNatClampNeg) &&& (63 : Int32)) = (21 : Int32) then (if inb (x3 + (1 : Int32)) (al S x0) = true then if oc S x1 11 = true then (m89 x1 (S.2.1 x0 (x3 + (1 : Int32)).toNatClampNeg) S).bind fun q43 => if inb (x3 + (1 : Int32)) (al q43.2 x0) = true then if oc q43.2 x2 12 = true then (m203 x2 (q43.2.2.1 x0 (x3 + (1 : Int32)).toNatClampNeg) q43.2).bind fun q44 => if q43.1 = q44.1 then b239_1355 k18 x0 x1 x2 x3 q44.2 else some ((0 : Int32), q44.2) else none else none else none else none) else if ((S.2.1 x0 x3.toNatClampNeg) &&& (63 : Int32)) = (22 : Int32) then (if inb (x3 + (1 : Int32)) (al S x0) = true then if oc S x1 11 = true then (m97 x1 (S.2.1 x0 (x3 + (1 : Int32)).toNatClampNeg) S).bind fun q45 => if inb (x3 + (1 : Int32)) (al q45.2 x0) = true then if oc q45.2 x2 12 = true then (m207 x2 (q45.2.2.1 x0 (x3 + (1 : Int32)).toNatClampNeg) q45.2).bind fun q46 => if q45.1 = q46.1 then b239_1355 k18 x0 x1 x2 x3 q46.2 else some ((0 : Int32), q46.2) else none else none else none else none) else if ((S.2.1 x0 x3.toNatClampNeg) &&& (63 : Int32)) = (23 : Int32) then (if inb (x3 + (1 : Int32)) (al S x0) = true then if inb (x3 + (2 : Int32)) (al S x0) = true then if oc S x1 11 = true then (m101 x1 (S.2.1 x0 (x3 + (1 : Int32)).toNatClampNeg) (S.2.1 x0 (x3 + (2 : Int32)).toNatClampNeg) S).bind fun q47 => if inb (x3 + (1 : Int32)) (al q47.2 x0) = true then if inb (x3 + (2 : Int32)) (al q47.2 x0) = true then if oc q47.2 x2 12 = true then (m212 x2 (q47.2.2.1 x0 (x3 + (1 : Int32)).toNatClampNeg) (q47.2.2.1 x0 (x3 + (2 : Int32)).toNatClampNeg) q47.2).bind fun q48 => if q47.1 = q48.1 then b239_1355 k18 x0 x1 x2 x3 q48.2 else some ((0 : Int32), q48.2) else none else none else none else none else none else none) else if ((S.2.1 x0 x3.toNatClampNeg) &&& (63 : Int32)) = (24 : Int32) then (if inb (x3 + (1 : Int32)) (al S x0) = true then if inb (x3 + (2 : Int32)) (al S x0) = true then if oc S x1 11 = true then (m109 x1 (S.2.1 x0 (x3 + (1 : Int32)).toNatClampNeg) (S.2.1 x0 (x3 + (2 : Int32)).toNatClampNeg) S).bind fun q49 => if inb (x3 + (1 : Int32)) (al q49.2 x0) = true then if inb (x3 + (2 : Int32)) (al q49.2 x0) = true then if oc q49.2 x2 12 = true then (m213 x2 (q49.2.2.1 x0 (x3 + (1 : Int32)).toNatClampNeg) (q49.2.2.1 x0 (x3 + (2 : Int32)).toNatClampNeg) q49.2).bind fun q50 => if q49.1 = q50.1 then b239_1355 k18 x0 x1 x2 x3 q50.2 else some ((0 : Int32), q50.2) else none else none else none else none else none else none) else if ((S.2.1 x0 x3.toNatClampNeg) &&& (63 : Int32)) = (25 : Int32) then (if inb (x3 + (1 : Int32)) (al S x0) = true then if inb (x3 + (2 : Int32)) (al S x0) = true then if oc S x1 11 = true then (m112 x1 (S.2.1 x0 (x3 + (1 : Int32)).toNatClampNeg) (S.2.1 x0 (x3 + (2 : Int32)).toNatClampNeg) S).bind fun q51 => if inb (x3 + (1 : Int32)) (al q51.2 x0) = true then if inb (x3 + (2 : Int32)) (al q51.2 x0) = true then if oc q51.2 x2 12 = true then (m215 x2 (q51.2.2.1 x0 (x3 + (1 : Int32)).toNatClampNeg) (q51.2.2.1 x0 (x3 + (2 : Int32)).toNatClampNeg) q51.2).bind fun q52 => if q51.1 = q52.1 then b239_1355 k18 x0 x1 x2 x3 q52.2 else some ((0 : Int32), q52.2) else none else none else none else none else none else none) else if ((S.2.1 x0 x3.toNatClampNeg) &&& (63 : Int32)) = (26 : Int32) then (if inb (x3 + (1 : Int32)) (al S x0) = true then if inb (x3 + (2 : Int32)) (al S x0) = true then if oc S x1 11 = true then (m113 x1 (S.2.1 x0 (x3 + (1 : Int32)).toNatClampNeg) (S.2.1 x0 (x3 + (2 : Int32)).toNatClampNeg) S).bind fun q53 => if inb (x3 + (1 : Int32)) (al q53.2 x0) = true then if inb (x3 + (2 : Int32)) (al q53.2 x0) = true then if oc q53.2 x2 12 = true then (m216 x2 (q53.2.2.1 x0 (x3 + (1 : Int32)).toNatClampNeg) (q53.2.2.1 x0 (x3 + (2 : Int32)).toNatClampNeg) q53.2).bind fun q54 => if q53.1 = q54.1 then b239_1355 k18 x0 x1 x2 x3 q54.2 else some ((0 : Int32), q54.2) else none else none else none else none else none else none) else if ((S.2.1 x0 x3.toNatClampNeg) &&& (63 : Int32)) = (27 : Int32) then (if inb (x3 + (1 : Int32)) (al S x0) = true then if inb (x3 + (2 : Int32)) (al S x0) = true then if oc S x1 11 = true then (m114 x1 (S.2.1 x0 (x3 + (1 : Int32)).toNatClampNeg) (S.2.1 x0 (x3 + (2 : Int32)).toNatClampNeg) S).bind fun q55 => if inb (x3 + (1 : Int32)) (al q55.2 x0) = true then if inb (x3 + (2 : Int32)) (al q55.2 x0) = true then if oc q55.2 x2 12 = true then (m217 x2 (q55.2.2.1 x0 (x3 + (1 : Int32)).toNatClampNeg) (q55.2.2.1 x0 (x3 + (2 : Int32)).toNatClampNeg) q55.2).bind fun q56 => if q55.1 = q56.1 then b239_1355 k18 x0 x1 x2 x3 q56.2 else some ((0 : Int32), q56.2) else none else none else none else none else none else none) else if ((S.2.1 x0 x3.toNatClampNeg) &&& (63 : Int32)) = (28 : Int32) then (if inb (x3 + (1 : Int32)) (al S x0) = true then if inb (x3 + (2 : Int32)) (al S x0) = true then if oc S x1 11 = true then (m117 x1 (S.2.1 x0 (x3 + (1 : Int32)).toNatClampNeg) (S.2.1 x0 (x3 + (2 : Int32)).toNatClampNeg) S).bind fun q57 => if inb (x3 + (1 : Int32)) (al q57.2 x0) = true then if inb (x3 + (2 : Int32)) (al q57.2 x0) = true then if oc q57.2 x2 12 = true then (m220 x2 (q57.2.2.1 x0 (x3 + (1 : Int32)).toNatClampNeg) (q57.2.2.1 x0 (x3 + (2 : Int32)).toNatClampNeg) q57.2).bind fun q58 => if q57.1 = q58.1 then b239_1355 k18 x0 x1 x2 x3 q58.2 else some ((0 : Int32), q58.2) else none else none else none else none else none else none) else if ((S.2.1 x0 x3.toNatClampNeg) &&& (63 : Int32)) = (29 : Int32) then (if inb (x3 + (1 : Int32)) (al S x0) = true then if oc S x1 11 = true then (m118 x1 (S.2.1 x0 (x3 + (1 : Int32)).toNatClampNeg) S).bind fun q59 => if inb (x3 + (1 : Int32)) (al q59.2 x0) = true then if oc q59.2 x2 12 = true then (m221 x2 (q59.2.2.1 x0 (x3 + (1 : Int32)).toNatClampNeg) q59.2).bind fun q60 => if q59.1 = q60.1 then b239_1355 k18 x0 x1 x2 x3 q60.2 else some ((0 : Int32), q60.2) else none else none else none else none) else if ((S.2.1 x0 x3.toNatClampNeg) &&& (63 : Int32)) = (30 : Int32) then (if oc S x1 11 = true then (m120 x1 S).bind fun q61 => if oc q61.2 x2 12 = true then (m223 x2 q61.2).bind fun q62 => if q61.1 = q62.1 then b239_1355 k18 x0 x1 x2 x3 q62.2 else some ((0 : Int32), q62.2) else none else none) else if ((S.2.1 x0 x3.toNatClampNeg) &&& (63 : Int32)) = (31 : Int32) then (if inb (x3 + (1 : Int32)) (al S x0) = true then if inb (x3 + (2 : Int32)) (al S x0) = true then if inb (x3 + (3 : Int32)) (al S x0) = true then if oc S x1 11 = true then (m122 x1 (S.2.1 x0 (x3 + (1 : Int32)).toNatClampNeg) (S.2.1 x0 (x3 + (2 : Int32)).toNatClampNeg) (S.2.1 x0 (x3 + (3 : Int32)).toNatClampNeg) S).bind fun q63 => if inb (x3 + (1 : Int32)) (al q63.2 x0) = true then if inb (x3 + (2 : Int32)) (al q63.2 x0) = true then if inb (x3 + (3 : Int32)) (al q63.2 x0) = true then if oc q63.2 x2 12 = true then (m224 x2 (q63.2.2.1 x0 (x3 + (1 : Int32)).toNatClampNeg) (q63.2.2.1 x0 (x3 + (2 : Int32)).toNatClampNeg) (q63.2.2.1 x0 (x3 + (3 : Int32)).toNatClampNeg) q63.2).bind fun q64 => if q63.1 = q64.1 then b239_1355 k18 x0 x1 x2 x3 q64.2 else some ((0 : Int32), q64.2) else none else none else none else none else none else none else none else none) else if ((S.2.1 x0 x3.toNatClampNeg) &&& (63 : Int32)) = (32 : Int32) then (if inb (x3 + (1 : Int32)) (al S x0) = true then if inb (x3 + (2 : Int32)) (al S x0) = true then if inb (x3 + (3 : Int32)) (al S x0) = true then if oc S x1 11 = true then (m128 x1 (S.2.1 x0 (x3 + (1 : Int32)).toNatClampNeg) (S.2.1 x0 (x3 + (2 : Int32)).toNatClampNeg) (S.2.1 x0 (x3 + (3 : Int32)).toNatClampNeg) S).bind fun q65 => if inb (x3 + (1 : Int32)) (al q65.2 x0) = true then if inb (x3 + (2 : Int32)) (al q65.2 x0) = true then if inb (x3 + (3 : Int32)) (al q65.2 x0) = true then if oc q65.2 x2 12 = true then (m226 x2 (q65.2.2.1 x0 (x3 + (1 : Int32)).toNatClampNeg) (q65.2.2.1 x0 (x3 + (2 : Int32)).toNatClampNeg) (q65.2.2.1 x0 (x3 + (3 : Int32)).toNatClampNeg) q65.2).bind fun q66 => if q65.1 = q66.1 then b239_1355 k18 x0 x1 x2 x3 q66.2 else some ((0 : Int32), q66.2) else none else none else none else none else none else none else none else none) else if ((S.2.1 x0 x3.toNatClampNeg) &&& (63 : Int32)) = (33 : Int32) then (if inb (x3 + (1 : Int32)) (al S x0) = true then if inb (x3 + (2 : Int32)) (al S x0) = true then if oc S x1 11 = true then (m133 x1 (S.2.1 x0 (x3 + (1 : Int32)).toNatClampNeg) (S.2.1 x0 (x3 + (2 : Int32)).toNatClampNeg) S).bind fun q67 => if inb (x3 + (1 : Int32)) (al q67.2 x0) = true then if inb (x3 + (2 : Int32)) (al q67.2 x0) = true then if oc q67.2 x2 12 = true then (m229 x2 (q67.2.2.1 x0 (x3 + (1 : Int32)).toNatClampNeg) (q67.2.2.1 x0 (x3 + (2 : Int32)).toNatClampNeg) q67.2).bind fun q68 => if q67.1 = q68.1 then b239_1355 k18 x0 x1 x2 x3 q68.2 else some ((0 : Int32), q68.2) else none else none else none else none else none else none) else if ((S.2.1 x0 x3.toNatClampNeg) &&& (63 : Int32)) = (34 : Int32) then (if inb (x3 + (1 : Int32)) (al S x0) = true then if inb (x3 + (2 : Int32)) (al S x0) = true then if oc S x1 11 = true then (m134 x1 (S.2.1 x0 (x3 + (1 : Int32)).toNatClampNeg) (S.2.1 x0 (x3 + (2 : Int32)).toNatClampNeg) S).bind fun q69 => if inb (x3 + (1 : Int32)) (al q69.2 x0) = true then if inb (x3 + (2 : Int32)) (al q69.2 x0) = true then if oc q69.2 x2 12 = true then (m230 x2 (q69.2.2.1 x0 (x3 + (1 : Int32)).toNatClampNeg) (q69.2.2.1 x0 (x3 + (2 : Int32)).toNatClampNeg) q69.2).bind fun q70 => if q69.1 = q70.1 then b239_1355 k18 x0 x1 x2 x3 q70.2 else some ((0 : Int32), q70.2) else none else none else none else none else none else none) else if ((S.2.1 x0 x3.toNatClampNeg) &&& (63 : Int32)) = (35 : Int32) then (if oc S x1 11 = true then (m136 x1 S).bind fun q71 => if oc q71.2 x2 12 = true then (m231 x2 q71.2).bind fun q72 => if q71.1 = q72.1 then b239_1355 k18 x0 x1 x2 x3 q72.2 else some ((0 : Int32), q72.2) else none else none) else if ((S.2.1 x0 x3.toNatClampNeg) &&& (63 : Int32)) = (36 : Int32) then (if oc S x1 11 = true then (m137 x1 S).bind fun q73 => if oc q73.2 x2 12 = true then (m232 x2 q73.2).bind fun q74 => if (lg_cmp q73.1 q74.1) = 0 then b239_1355 k18 x0 x1 x2 x3 q74.2 else some ((0 : Int32), q74.2) else none else none) else if ((S.2.1 x0 x3.toNatClampNeg) &&& (63 : Int32)) = (37 : Int32) then (if oc S x1 11 = true then (m138 x1 S).bind fun q75 => if oc q75.2 x2 12 = true then (m233 x2 q75.2).bind fun q76 => if (lg_cmp q75.1 q76.1) = 0 then b239_1355 k18 x0 x1 x2 x3 q76.2 else some ((0 : Int32), q76.2) else none else none) else if ((S.2.1 x0 x3.toNatClampNeg) &&& (63 : Int32)) = (38 : Int32) then (if inb (x3 + (1 : Int32)) (al S x0) = true then if oc S x1 11 = true then (m139 x1 (S.2.1 x0 (x3 + (1 : Int32)).toNatClampNeg) S).bind fun q77 => if inb (x3 + (1 : Int32)) (al q77.2 x0) = true then if oc q77.2 x2 12 = true then (m234 x2 (q77.2.2.1 x0 (x3 + (1 : Int32)).toNatClampNeg) q77.2).bind fun q78 => if q77.1 = q78.1 then b239_1355 k18 x0 x1 x2 x3 q78.2 else some ((0 : Int32), q78.2) else none else none else none else none) else if ((S.2.1 x0 x3.toNatClampNeg) &&& (63 : Int32)) = (39 : Int32) then (if oc S x1 11 = true then (m143 x1 S).bind fun q79 => if oc q79.2 x2 12 = true then (m236 x2 q79.2).bind fun q80 => if q79.1 = q80.1 then b239_1355 k18 x0 x1 x2 x3 q80.2 else some ((0 : Int32), q80.2) else none else none) else if ((S.2.1 x0 x3.toNatClampNeg) &&& (63 : Int32)) = (40 : Int32) then (if inb (x3 + (1 : Int32)) (al S x0) = true then if oc S x1 11 = true then (m144 x1 (S.2.1 x0 (x3 + (1 : Int32)).toNatClampNeg) S).bind fun q81 => if inb (x3 + (1 : Int32)) (al q81.2 x0) = true then if oc q81.2 x2 12 = true then (m237 x2 (q81.2.2.1 x0 (x3 + (1 : Int32)).toNatClampNeg) q81.2).bind fun q82 => if q81.1 = q82.1 then b239_1355 k18 x0 x1 x2 x3 q82.2 else some ((0 : Int32), q82.2) else none else none else none else none) else if ((S.2.1 x0 x3.toNatClampNeg) &&& (63 : Int32)) = (41 : Int32) then (if oc S x1 11 = true then (m145 x1 S).bind fun q83 => if oc q83.2 x2 12 = true then (m238 x2 q83.2).bind fun q84 => if (lg_cmp q83.1 q84.1) = 0 then b239_1355 k18 x0 x1 x2 x3 q84.2 else some ((0 : Int32), q84.2) else none else none) else b239_1355 k18 x0 x1 x2 x3 S else none else none
set_option maxRecDepth 100000 in
theorem ob239_18 (d : Nat) (k18 : Nat → Nat → Nat → Int32 → Sx → Option (Int32 × Sx)) (hk18 : ∀ (x0 : Nat) (x1 : Nat) (x2 : Nat) (x3 : Int32) (S : Sx), OkF wI (fun f => rk px kx f (d + 8) 239 18 [some (.ref x0), some (.ref x1), some (.ref x2), some (.int x3)] [] S) (k18 x0 x1 x2 x3 S)) (x0 : Nat) (x1 : Nat) (x2 : Nat) (x3 : Int32) (S : Sx) : OkF wI (fun f => rk px kx f (d + 8) 239 18 [some (.ref x0), some (.ref x1), some (.ref x2), some (.int x3)] [] S) (b239_18 k18 x0 x1 x2 x3 S) := by
  unfold b239_18
  refine OkF.eq 3 (Y := fun f => if (Nat.beq x0 1000 || isa S 1 x0) = true then rk px kx f (d + 8) 239 21 [some (.ref x0), some (.ref x1), some (.ref x2), some (.int x3)] [.int (Int32.ofNat (al S x0)), .int x3] S else none) (fun f => rfl) ?_
  refine OkF.grd (fun _ => ?_)
  refine OkF.eq 3 (Y := fun f => if ((Int32.ofNat (al S x0)) - (6 : Int32)) < x3 then rk px kx f (d + 8) 239 1361 [some (.ref x0), some (.ref x1), some (.ref x2), some (.int x3)] [] S else rk px kx f (d + 8) 239 27 [some (.ref x0), some (.ref x1), some (.ref x2), some (.int x3)] [] S) (fun f => rfl) ?_
  refine OkF.ite (fun _ => ?_) (fun _ => ?_)
  · exact OkF.ret 2 (fun f => rfl)
  · refine OkF.eq 3 (Y := fun f => if inb x3 (al S x0) = true then rk px kx f (d + 8) 239 30 [some (.ref x0), some (.ref x1), some (.ref x2), some (.int x3)] [.int (S.2.1 x0 x3.toNatClampNeg)] S else none) (fun f => rfl) ?_
    refine OkF.grd (fun _ => ?_)
    refine OkF.eq 3 (Y := fun f => if ((S.2.1 x0 x3.toNatClampNeg) &&& (63 : Int32)) = (0 : Int32) then rk px kx f (d + 8) 239 216 [some (.ref x0), some (.ref x1), some (.ref x2), some (.int x3)] [] S else if ((S.2.1 x0 x3.toNatClampNeg) &&& (63 : Int32)) = (1 : Int32) then rk px kx f (d + 8) 239 249 [some (.ref x0), some (.ref x1), some (.ref x2), some (.int x3)] [] S else if ((S.2.1 x0 x3.toNatClampNeg) &&& (63 : Int32)) = (2 : Int32) then rk px kx f (d + 8) 239 292 [some (.ref x0), some (.ref x1), some (.ref x2), some (.int x3)] [] S else if ((S.2.1 x0 x3.toNatClampNeg) &&& (63 : Int32)) = (3 : Int32) then rk px kx f (d + 8) 239 325 [some (.ref x0), some (.ref x1), some (.ref x2), some (.int x3)] [] S else if ((S.2.1 x0 x3.toNatClampNeg) &&& (63 : Int32)) = (4 : Int32) then rk px kx f (d + 8) 239 348 [some (.ref x0), some (.ref x1), some (.ref x2), some (.int x3)] [] S else if ((S.2.1 x0 x3.toNatClampNeg) &&& (63 : Int32)) = (5 : Int32) then rk px kx f (d + 8) 239 411 [some (.ref x0), some (.ref x1), some (.ref x2), some (.int x3)] [] S else if ((S.2.1 x0 x3.toNatClampNeg) &&& (63 : Int32)) = (6 : Int32) then rk px kx f (d + 8) 239 434 [some (.ref x0), some (.ref x1), some (.ref x2), some (.int x3)] [] S else if ((S.2.1 x0 x3.toNatClampNeg) &&& (63 : Int32)) = (7 : Int32) then rk px kx f (d + 8) 239 467 [some (.ref x0), some (.ref x1), some (.ref x2), some (.int x3)] [] S else if ((S.2.1 x0 x3.toNatClampNeg) &&& (63 : Int32)) = (8 : Int32) then rk px kx f (d + 8) 239 510 [some (.ref x0), some (.ref x1), some (.ref x2), some (.int x3)] [] S else if ((S.2.1 x0 x3.toNatClampNeg) &&& (63 : Int32)) = (9 : Int32) then rk px kx f (d + 8) 239 533 [some (.ref x0), some (.ref x1), some (.ref x2), some (.int x3)] [] S else if ((S.2.1 x0 x3.toNatClampNeg) &&& (63 : Int32)) = (10 : Int32) then rk px kx f (d + 8) 239 556 [some (.ref x0), some (.ref x1), some (.ref x2), some (.int x3)] [] S else if ((S.2.1 x0 x3.toNatClampNeg) &&& (63 : Int32)) = (11 : Int32) then rk px kx f (d + 8) 239 589 [some (.ref x0), some (.ref x1), some (.ref x2), some (.int x3)] [] S else if ((S.2.1 x0 x3.toNatClampNeg) &&& (63 : Int32)) = (12 : Int32) then rk px kx f (d + 8) 239 622 [some (.ref x0), some (.ref x1), some (.ref x2), some (.int x3)] [] S else if ((S.2.1 x0 x3.toNatClampNeg) &&& (63 : Int32)) = (13 : Int32) then rk px kx f (d + 8) 239 635 [some (.ref x0), some (.ref x1), some (.ref x2), some (.int x3)] [] S else if ((S.2.1 x0 x3.toNatClampNeg) &&& (63 : Int32)) = (14 : Int32) then rk px kx f (d + 8) 239 648 [some (.ref x0), some (.ref x1), some (.ref x2), some (.int x3)] [] S else if ((S.2.1 x0 x3.toNatClampNeg) &&& (63 : Int32)) = (15 : Int32) then rk px kx f (d + 8) 239 671 [some (.ref x0), some (.ref x1), some (.ref x2), some (.int x3)] [] S else if ((S.2.1 x0 x3.toNatClampNeg) &&& (63 : Int32)) = (16 : Int32) then rk px kx f (d + 8) 239 694 [some (.ref x0), some (.ref x1), some (.ref x2), some (.int x3)] [] S else if ((S.2.1 x0 x3.toNatClampNeg) &&& (63 : Int32)) = (17 : Int32) then rk px kx f (d + 8) 239 717 [some (.ref x0), some (.ref x1), some (.ref x2), some (.int x3)] [] S else if ((S.2.1 x0 x3.toNatClampNeg) &&& (63 : Int32)) = (18 : Int32) then rk px kx f (d + 8) 239 740 [some (.ref x0), some (.ref x1), some (.ref x2), some (.int x3)] [] S else if ((S.2.1 x0 x3.toNatClampNeg) &&& (63 : Int32)) = (19 : Int32) then rk px kx f (d + 8) 239 763 [some (.ref x0), some (.ref x1), some (.ref x2), some (.int x3)] [] S else if ((S.2.1 x0 x3.toNatClampNeg) &&& (63 : Int32)) = (20 : Int32) then rk px kx f (d + 8) 239 786 [some (.ref x0), some (.ref x1), some (.ref x2), some (.int x3)] [] S else if ((S.2.1 x0 x3.toNatClampNeg) &&& (63 : Int32)) = (21 : Int32) then rk px kx f (d + 8) 239 809 [some (.ref x0), some (.ref x1), some (.ref x2), some (.int x3)] [] S else if ((S.2.1 x0 x3.toNatClampNeg) &&& (63 : Int32)) = (22 : Int32) then rk px kx f (d + 8) 239 832 [some (.ref x0), some (.ref x1), some (.ref x2), some (.int x3)] [] S else if ((S.2.1 x0 x3.toNatClampNeg) &&& (63 : Int32)) = (23 : Int32) then rk px kx f (d + 8) 239 855 [some (.ref x0), some (.ref x1), some (.ref x2), some (.int x3)] [] S else if ((S.2.1 x0 x3.toNatClampNeg) &&& (63 : Int32)) = (24 : Int32) then rk px kx f (d + 8) 239 888 [some (.ref x0), some (.ref x1), some (.ref x2), some (.int x3)] [] S else if ((S.2.1 x0 x3.toNatClampNeg) &&& (63 : Int32)) = (25 : Int32) then rk px kx f (d + 8) 239 921 [some (.ref x0), some (.ref x1), some (.ref x2), some (.int x3)] [] S else if ((S.2.1 x0 x3.toNatClampNeg) &&& (63 : Int32)) = (26 : Int32) then rk px kx f (d + 8) 239 954 [some (.ref x0), some (.ref x1), some (.ref x2), some (.int x3)] [] S else if ((S.2.1 x0 x3.toNatClampNeg) &&& (63 : Int32)) = (27 : Int32) then rk px kx f (d + 8) 239 987 [some (.ref x0), some (.ref x1), some (.ref x2), some (.int x3)] [] S else if ((S.2.1 x0 x3.toNatClampNeg) &&& (63 : Int32)) = (28 : Int32) then rk px kx f (d + 8) 239 1020 [some (.ref x0), some (.ref x1), some (.ref x2), some (.int x3)] [] S else if ((S.2.1 x0 x3.toNatClampNeg) &&& (63 : Int32)) = (29 : Int32) then rk px kx f (d + 8) 239 1053 [some (.ref x0), some (.ref x1), some (.ref x2), some (.int x3)] [] S else if ((S.2.1 x0 x3.toNatClampNeg) &&& (63 : Int32)) = (30 : Int32) then rk px kx f (d + 8) 239 1076 [some (.ref x0), some (.ref x1), some (.ref x2), some (.int x3)] [] S else if ((S.2.1 x0 x3.toNatClampNeg) &&& (63 : Int32)) = (31 : Int32) then rk px kx f (d + 8) 239 1089 [some (.ref x0), some (.ref x1), some (.ref x2), some (.int x3)] [] S else if ((S.2.1 x0 x3.toNatClampNeg) &&& (63 : Int32)) = (32 : Int32) then rk px kx f (d + 8) 239 1132 [some (.ref x0), some (.ref x1), some (.ref x2), some (.int x3)] [] S else if ((S.2.1 x0 x3.toNatClampNeg) &&& (63 : Int32)) = (33 : Int32) then rk px kx f (d + 8) 239 1175 [some (.ref x0), some (.ref x1), some (.ref x2), some (.int x3)] [] S else if ((S.2.1 x0 x3.toNatClampNeg) &&& (63 : Int32)) = (34 : Int32) then rk px kx f (d + 8) 239 1208 [some (.ref x0), some (.ref x1), some (.ref x2), some (.int x3)] [] S else if ((S.2.1 x0 x3.toNatClampNeg) &&& (63 : Int32)) = (35 : Int32) then rk px kx f (d + 8) 239 1241 [some (.ref x0), some (.ref x1), some (.ref x2), some (.int x3)] [] S else if ((S.2.1 x0 x3.toNatClampNeg) &&& (63 : Int32)) = (36 : Int32) then rk px kx f (d + 8) 239 1254 [some (.ref x0), some (.ref x1), some (.ref x2), some (.int x3)] [] S else if ((S.2.1 x0 x3.toNatClampNeg) &&& (63 : Int32)) = (37 : Int32) then rk px kx f (d + 8) 239 1268 [some (.ref x0), some (.ref x1), some (.ref x2), some (.int x3)] [] S else if ((S.2.1 x0 x3.toNatClampNeg) &&& (63 : Int32)) = (38 : Int32) then rk px kx f (d + 8) 239 1282 [some (.ref x0), some (.ref x1), some (.ref x2), some (.int x3)] [] S else if ((S.2.1 x0 x3.toNatClampNeg) &&& (63 : Int32)) = (39 : Int32) then rk px kx f (d + 8) 239 1305 [some (.ref x0), some (.ref x1), some (.ref x2), some (.int x3)] [] S else if ((S.2.1 x0 x3.toNatClampNeg) &&& (63 : Int32)) = (40 : Int32) then rk px kx f (d + 8) 239 1318 [some (.ref x0), some (.ref x1), some (.ref x2), some (.int x3)] [] S else if ((S.2.1 x0 x3.toNatClampNeg) &&& (63 : Int32)) = (41 : Int32) then rk px kx f (d + 8) 239 1341 [some (.ref x0), some (.ref x1), some (.ref x2), some (.int x3)] [] S else rk px kx f (d + 8) 239 1355 [some (.ref x0), some (.ref x1), some (.ref x2), some (.int x3)] [] S) (fun f => rfl) ?_
    refine OkF.ite (fun _ => ?_) (fun _ => ?_)
    · refine OkF.eq 6 (Y := fun f => if inb (x3 + (1 : Int32)) (al S x0) = true then rk px kx f (d + 8) 239 222 [some (.ref x0), some (.ref x1), some (.ref x2), some (.int x3)] [.int (S.2.1 x0 (x3 + (1 : Int32)).toNatClampNeg), .ref x1] S else none) (fun f => rfl) ?_
      refine OkF.grd (fun _ => ?_)
      refine OkF.eq 5 (Y := fun f => if inb (x3 + (2 : Int32)) (al S x0) = true then rk px kx f (d + 8) 239 227 [some (.ref x0), some (.ref x1), some (.ref x2), some (.int x3)] [.int (S.2.1 x0 (x3 + (2 : Int32)).toNatClampNeg), .int (S.2.1 x0 (x3 + (1 : Int32)).toNatClampNeg), .ref x1] S else none) (fun f => rfl) ?_
      refine OkF.grd (fun _ => ?_)
      refine OkF.eq 1 (Y := fun f => if oc S x1 11 = true then (rk px kx f (d + 7) 13 0 [some (.ref x1), some (.int (S.2.1 x0 (x3 + (1 : Int32)).toNatClampNeg)), some (.int (S.2.1 x0 (x3 + (2 : Int32)).toNatClampNeg))] [] S).bind (fun q => rk px kx f (d + 8) 239 230 [some (.ref x0), some (.ref x1), some (.ref x2), some (.int x3)] (q.1.toList ++ []) q.2) else none) (fun f => rfl) ?_
      refine OkF.grd (fun _ => ?_)
      refine OkF.bind (w1 := wI) (om13 (d + 5) x1 (S.2.1 x0 (x3 + (1 : Int32)).toNatClampNeg) (S.2.1 x0 (x3 + (2 : Int32)).toNatClampNeg) S) (fun q1 => ?_)
      refine OkF.eq 6 (Y := fun f => if inb (x3 + (1 : Int32)) (al q1.2 x0) = true then rk px kx f (d + 8) 239 236 [some (.ref x0), some (.ref x1), some (.ref x2), some (.int x3)] [.int (q1.2.2.1 x0 (x3 + (1 : Int32)).toNatClampNeg), .ref x2, .int q1.1] q1.2 else none) (fun f => rfl) ?_
      refine OkF.grd (fun _ => ?_)
      refine OkF.eq 5 (Y := fun f => if inb (x3 + (2 : Int32)) (al q1.2 x0) = true then rk px kx f (d + 8) 239 241 [some (.ref x0), some (.ref x1), some (.ref x2), some (.int x3)] [.int (q1.2.2.1 x0 (x3 + (2 : Int32)).toNatClampNeg), .int (q1.2.2.1 x0 (x3 + (1 : Int32)).toNatClampNeg), .ref x2, .int q1.1] q1.2 else none) (fun f => rfl) ?_
      refine OkF.grd (fun _ => ?_)
      refine OkF.eq 1 (Y := fun f => if oc q1.2 x2 12 = true then (rk px kx f (d + 7) 148 0 [some (.ref x2), some (.int (q1.2.2.1 x0 (x3 + (1 : Int32)).toNatClampNeg)), some (.int (q1.2.2.1 x0 (x3 + (2 : Int32)).toNatClampNeg)), none] [] q1.2).bind (fun q => rk px kx f (d + 8) 239 244 [some (.ref x0), some (.ref x1), some (.ref x2), some (.int x3)] (q.1.toList ++ [.int q1.1]) q.2) else none) (fun f => rfl) ?_
      refine OkF.grd (fun _ => ?_)
      refine OkF.bind (w1 := wI) (om148 (d + 5) x2 (q1.2.2.1 x0 (x3 + (1 : Int32)).toNatClampNeg) (q1.2.2.1 x0 (x3 + (2 : Int32)).toNatClampNeg) q1.2) (fun q2 => ?_)
      refine OkF.eq 1 (Y := fun f => if q1.1 = q2.1 then rk px kx f (d + 8) 239 1355 [some (.ref x0), some (.ref x1), some (.ref x2), some (.int x3)] [] q2.2 else rk px kx f (d + 8) 239 247 [some (.ref x0), some (.ref x1), some (.ref x2), some (.int x3)] [] q2.2) (fun f => rfl) ?_
      refine OkF.ite (fun _ => ?_) (fun _ => ?_)
      · exact OkF.kl (ls1 := [some (.ref x0), some (.ref x1), some (.ref x2), some (.int x3)]) (fun f => rfl) (ob239_1355 d k18 hk18 x0 x1 x2 x3 q2.2)
      · exact OkF.ret 2 (fun f => rfl)
    refine OkF.ite (fun _ => ?_) (fun _ => ?_)
    · refine OkF.eq 6 (Y := fun f => if inb (x3 + (1 : Int32)) (al S x0) = true then rk px kx f (d + 8) 239 255 [some (.ref x0), some (.ref x1), some (.ref x2), some (.int x3)] [.int (S.2.1 x0 (x3 + (1 : Int32)).toNatClampNeg), .ref x1] S else none) (fun f => rfl) ?_
      refine OkF.grd (fun _ => ?_)
      refine OkF.eq 5 (Y := fun f => if inb (x3 + (2 : Int32)) (al S x0) = true then rk px kx f (d + 8) 239 260 [some (.ref x0), some (.ref x1), some (.ref x2), some (.int x3)] [.int (S.2.1 x0 (x3 + (2 : Int32)).toNatClampNeg), .int (S.2.1 x0 (x3 + (1 : Int32)).toNatClampNeg), .ref x1] S else none) (fun f => rfl) ?_
      refine OkF.grd (fun _ => ?_)
      refine OkF.eq 5 (Y := fun f => if inb (x3 + (3 : Int32)) (al S x0) = true then rk px kx f (d + 8) 239 265 [some (.ref x0), some (.ref x1), some (.ref x2), some (.int x3)] [.int (S.2.1 x0 (x3 + (3 : Int32)).toNatClampNeg), .int (S.2.1 x0 (x3 + (2 : Int32)).toNatClampNeg), .int (S.2.1 x0 (x3 + (1 : Int32)).toNatClampNeg), .ref x1] S else none) (fun f => rfl) ?_
      refine OkF.grd (fun _ => ?_)
      refine OkF.eq 1 (Y := fun f => if oc S x1 11 = true then (rk px kx f (d + 7) 18 0 [some (.ref x1), some (.int (S.2.1 x0 (x3 + (1 : Int32)).toNatClampNeg)), some (.int (S.2.1 x0 (x3 + (2 : Int32)).toNatClampNeg)), some (.int (S.2.1 x0 (x3 + (3 : Int32)).toNatClampNeg)), none] [] S).bind (fun q => rk px kx f (d + 8) 239 268 [some (.ref x0), some (.ref x1), some (.ref x2), some (.int x3)] (q.1.toList ++ []) q.2) else none) (fun f => rfl) ?_
      refine OkF.grd (fun _ => ?_)
      refine OkF.bind (w1 := wI) (om18 (d + 5) x1 (S.2.1 x0 (x3 + (1 : Int32)).toNatClampNeg) (S.2.1 x0 (x3 + (2 : Int32)).toNatClampNeg) (S.2.1 x0 (x3 + (3 : Int32)).toNatClampNeg) S) (fun q3 => ?_)
      refine OkF.eq 6 (Y := fun f => if inb (x3 + (1 : Int32)) (al q3.2 x0) = true then rk px kx f (d + 8) 239 274 [some (.ref x0), some (.ref x1), some (.ref x2), some (.int x3)] [.int (q3.2.2.1 x0 (x3 + (1 : Int32)).toNatClampNeg), .ref x2, .int q3.1] q3.2 else none) (fun f => rfl) ?_
      refine OkF.grd (fun _ => ?_)
      refine OkF.eq 5 (Y := fun f => if inb (x3 + (2 : Int32)) (al q3.2 x0) = true then rk px kx f (d + 8) 239 279 [some (.ref x0), some (.ref x1), some (.ref x2), some (.int x3)] [.int (q3.2.2.1 x0 (x3 + (2 : Int32)).toNatClampNeg), .int (q3.2.2.1 x0 (x3 + (1 : Int32)).toNatClampNeg), .ref x2, .int q3.1] q3.2 else none) (fun f => rfl) ?_
      refine OkF.grd (fun _ => ?_)
      refine OkF.eq 5 (Y := fun f => if inb (x3 + (3 : Int32)) (al q3.2 x0) = true then rk px kx f (d + 8) 239 284 [some (.ref x0), some (.ref x1), some (.ref x2), some (.int x3)] [.int (q3.2.2.1 x0 (x3 + (3 : Int32)).toNatClampNeg), .int (q3.2.2.1 x0 (x3 + (2 : Int32)).toNatClampNeg), .int (q3.2.2.1 x0 (x3 + (1 : Int32)).toNatClampNeg), .ref x2, .int q3.1] q3.2 else none) (fun f => rfl) ?_
      refine OkF.grd (fun _ => ?_)
      refine OkF.eq 1 (Y := fun f => if oc q3.2 x2 12 = true then (rk px kx f (d + 7) 152 0 [some (.ref x2), some (.int (q3.2.2.1 x0 (x3 + (1 : Int32)).toNatClampNeg)), some (.int (q3.2.2.1 x0 (x3 + (2 : Int32)).toNatClampNeg)), some (.int (q3.2.2.1 x0 (x3 + (3 : Int32)).toNatClampNeg)), none] [] q3.2).bind (fun q => rk px kx f (d + 8) 239 287 [some (.ref x0), some (.ref x1), some (.ref x2), some (.int x3)] (q.1.toList ++ [.int q3.1]) q.2) else none) (fun f => rfl) ?_
      refine OkF.grd (fun _ => ?_)
      refine OkF.bind (w1 := wI) (om152 (d + 5) x2 (q3.2.2.1 x0 (x3 + (1 : Int32)).toNatClampNeg) (q3.2.2.1 x0 (x3 + (2 : Int32)).toNatClampNeg) (q3.2.2.1 x0 (x3 + (3 : Int32)).toNatClampNeg) q3.2) (fun q4 => ?_)
      refine OkF.eq 1 (Y := fun f => if q3.1 = q4.1 then rk px kx f (d + 8) 239 1355 [some (.ref x0), some (.ref x1), some (.ref x2), some (.int x3)] [] q4.2 else rk px kx f (d + 8) 239 290 [some (.ref x0), some (.ref x1), some (.ref x2), some (.int x3)] [] q4.2) (fun f => rfl) ?_
      refine OkF.ite (fun _ => ?_) (fun _ => ?_)
      · exact OkF.kl (ls1 := [some (.ref x0), some (.ref x1), some (.ref x2), some (.int x3)]) (fun f => rfl) (ob239_1355 d k18 hk18 x0 x1 x2 x3 q4.2)
      · exact OkF.ret 2 (fun f => rfl)
    refine OkF.ite (fun _ => ?_) (fun _ => ?_)
    · refine OkF.eq 6 (Y := fun f => if inb (x3 + (1 : Int32)) (al S x0) = true then rk px kx f (d + 8) 239 298 [some (.ref x0), some (.ref x1), some (.ref x2), some (.int x3)] [.int (S.2.1 x0 (x3 + (1 : Int32)).toNatClampNeg), .ref x1] S else none) (fun f => rfl) ?_
      refine OkF.grd (fun _ => ?_)
      refine OkF.eq 5 (Y := fun f => if inb (x3 + (2 : Int32)) (al S x0) = true then rk px kx f (d + 8) 239 303 [some (.ref x0), some (.ref x1), some (.ref x2), some (.int x3)] [.int (S.2.1 x0 (x3 + (2 : Int32)).toNatClampNeg), .int (S.2.1 x0 (x3 + (1 : Int32)).toNatClampNeg), .ref x1] S else none) (fun f => rfl) ?_
      refine OkF.grd (fun _ => ?_)
      refine OkF.eq 1 (Y := fun f => if oc S x1 11 = true then (rk px kx f (d + 7) 22 0 [some (.ref x1), some (.int (S.2.1 x0 (x3 + (1 : Int32)).toNatClampNeg)), some (.int (S.2.1 x0 (x3 + (2 : Int32)).toNatClampNeg)), none] [] S).bind (fun q => rk px kx f (d + 8) 239 306 [some (.ref x0), some (.ref x1), some (.ref x2), some (.int x3)] (q.1.toList ++ []) q.2) else none) (fun f => rfl) ?_
      refine OkF.grd (fun _ => ?_)
      refine OkF.bind (w1 := wI) (om22 (d + 5) x1 (S.2.1 x0 (x3 + (1 : Int32)).toNatClampNeg) (S.2.1 x0 (x3 + (2 : Int32)).toNatClampNeg) S) (fun q5 => ?_)
      refine OkF.eq 6 (Y := fun f => if inb (x3 + (1 : Int32)) (al q5.2 x0) = true then rk px kx f (d + 8) 239 312 [some (.ref x0), some (.ref x1), some (.ref x2), some (.int x3)] [.int (q5.2.2.1 x0 (x3 + (1 : Int32)).toNatClampNeg), .ref x2, .int q5.1] q5.2 else none) (fun f => rfl) ?_
      refine OkF.grd (fun _ => ?_)
      refine OkF.eq 5 (Y := fun f => if inb (x3 + (2 : Int32)) (al q5.2 x0) = true then rk px kx f (d + 8) 239 317 [some (.ref x0), some (.ref x1), some (.ref x2), some (.int x3)] [.int (q5.2.2.1 x0 (x3 + (2 : Int32)).toNatClampNeg), .int (q5.2.2.1 x0 (x3 + (1 : Int32)).toNatClampNeg), .ref x2, .int q5.1] q5.2 else none) (fun f => rfl) ?_
      refine OkF.grd (fun _ => ?_)
      refine OkF.eq 1 (Y := fun f => if oc q5.2 x2 12 = true then (rk px kx f (d + 7) 154 0 [some (.ref x2), some (.int (q5.2.2.1 x0 (x3 + (1 : Int32)).toNatClampNeg)), some (.int (q5.2.2.1 x0 (x3 + (2 : Int32)).toNatClampNeg))] [] q5.2).bind (fun q => rk px kx f (d + 8) 239 320 [some (.ref x0), some (.ref x1), some (.ref x2), some (.int x3)] (q.1.toList ++ [.int q5.1]) q.2) else none) (fun f => rfl) ?_
      refine OkF.grd (fun _ => ?_)
      refine OkF.bind (w1 := wI) (om154 (d + 5) x2 (q5.2.2.1 x0 (x3 + (1 : Int32)).toNatClampNeg) (q5.2.2.1 x0 (x3 + (2 : Int32)).toNatClampNeg) q5.2) (fun q6 => ?_)
      refine OkF.eq 1 (Y := fun f => if q5.1 = q6.1 then rk px kx f (d + 8) 239 1355 [some (.ref x0), some (.ref x1), some (.ref x2), some (.int x3)] [] q6.2 else rk px kx f (d + 8) 239 323 [some (.ref x0), some (.ref x1), some (.ref x2), some (.int x3)] [] q6.2) (fun f => rfl) ?_
      refine OkF.ite (fun _ => ?_) (fun _ => ?_)
      · exact OkF.kl (ls1 := [some (.ref x0), some (.ref x1), some (.ref x2), some (.int x3)]) (fun f => rfl) (ob239_1355 d k18 hk18 x0 x1 x2 x3 q6.2)
      · exact OkF.ret 2 (fun f => rfl)
    refine OkF.ite (fun _ => ?_) (fun _ => ?_)
    · refine OkF.eq 6 (Y := fun f => if inb (x3 + (1 : Int32)) (al S x0) = true then rk px kx f (d + 8) 239 331 [some (.ref x0), some (.ref x1), some (.ref x2), some (.int x3)] [.int (S.2.1 x0 (x3 + (1 : Int32)).toNatClampNeg), .ref x1] S else none) (fun f => rfl) ?_
      refine OkF.grd (fun _ => ?_)
      refine OkF.eq 1 (Y := fun f => if oc S x1 11 = true then (rk px kx f (d + 7) 23 0 [some (.ref x1), some (.int (S.2.1 x0 (x3 + (1 : Int32)).toNatClampNeg))] [] S).bind (fun q => rk px kx f (d + 8) 239 334 [some (.ref x0), some (.ref x1), some (.ref x2), some (.int x3)] (q.1.toList ++ []) q.2) else none) (fun f => rfl) ?_
      refine OkF.grd (fun _ => ?_)
      refine OkF.bind (w1 := wI) (om23 (d + 6) x1 (S.2.1 x0 (x3 + (1 : Int32)).toNatClampNeg) S) (fun q7 => ?_)
      refine OkF.eq 6 (Y := fun f => if inb (x3 + (1 : Int32)) (al q7.2 x0) = true then rk px kx f (d + 8) 239 340 [some (.ref x0), some (.ref x1), some (.ref x2), some (.int x3)] [.int (q7.2.2.1 x0 (x3 + (1 : Int32)).toNatClampNeg), .ref x2, .int q7.1] q7.2 else none) (fun f => rfl) ?_
      refine OkF.grd (fun _ => ?_)
      refine OkF.eq 1 (Y := fun f => if oc q7.2 x2 12 = true then (rk px kx f (d + 7) 155 0 [some (.ref x2), some (.int (q7.2.2.1 x0 (x3 + (1 : Int32)).toNatClampNeg))] [] q7.2).bind (fun q => rk px kx f (d + 8) 239 343 [some (.ref x0), some (.ref x1), some (.ref x2), some (.int x3)] (q.1.toList ++ [.int q7.1]) q.2) else none) (fun f => rfl) ?_
      refine OkF.grd (fun _ => ?_)
      refine OkF.bind (w1 := wI) (om155 (d + 5) x2 (q7.2.2.1 x0 (x3 + (1 : Int32)).toNatClampNeg) q7.2) (fun q8 => ?_)
      refine OkF.eq 1 (Y := fun f => if q7.1 = q8.1 then rk px kx f (d + 8) 239 1355 [some (.ref x0), some (.ref x1), some (.ref x2), some (.int x3)] [] q8.2 else rk px kx f (d + 8) 239 346 [some (.ref x0), some (.ref x1), some (.ref x2), some (.int x3)] [] q8.2) (fun f => rfl) ?_
      refine OkF.ite (fun _ => ?_) (fun _ => ?_)
      · exact OkF.kl (ls1 := [some (.ref x0), some (.ref x1), some (.ref x2), some (.int x3)]) (fun f => rfl) (ob239_1355 d k18 hk18 x0 x1 x2 x3 q8.2)
      · exact OkF.ret 2 (fun f => rfl)
    refine OkF.ite (fun _ => ?_) (fun _ => ?_)
    · refine OkF.eq 6 (Y := fun f => if inb (x3 + (1 : Int32)) (al S x0) = true then rk px kx f (d + 8) 239 354 [some (.ref x0), some (.ref x1), some (.ref x2), some (.int x3)] [.int (S.2.1 x0 (x3 + (1 : Int32)).toNatClampNeg), .ref x1] S else none) (fun f => rfl) ?_
      refine OkF.grd (fun _ => ?_)
      refine OkF.eq 5 (Y := fun f => if inb (x3 + (2 : Int32)) (al S x0) = true then rk px kx f (d + 8) 239 359 [some (.ref x0), some (.ref x1), some (.ref x2), some (.int x3)] [.int (S.2.1 x0 (x3 + (2 : Int32)).toNatClampNeg), .int (S.2.1 x0 (x3 + (1 : Int32)).toNatClampNeg), .ref x1] S else none) (fun f => rfl) ?_
      refine OkF.grd (fun _ => ?_)
      refine OkF.eq 5 (Y := fun f => if inb (x3 + (3 : Int32)) (al S x0) = true then rk px kx f (d + 8) 239 364 [some (.ref x0), some (.ref x1), some (.ref x2), some (.int x3)] [.int (S.2.1 x0 (x3 + (3 : Int32)).toNatClampNeg), .int (S.2.1 x0 (x3 + (2 : Int32)).toNatClampNeg), .int (S.2.1 x0 (x3 + (1 : Int32)).toNatClampNeg), .ref x1] S else none) (fun f => rfl) ?_
      refine OkF.grd (fun _ => ?_)
      refine OkF.eq 5 (Y := fun f => if inb (x3 + (4 : Int32)) (al S x0) = true then rk px kx f (d + 8) 239 369 [some (.ref x0), some (.ref x1), some (.ref x2), some (.int x3)] [.int (S.2.1 x0 (x3 + (4 : Int32)).toNatClampNeg), .int (S.2.1 x0 (x3 + (3 : Int32)).toNatClampNeg), .int (S.2.1 x0 (x3 + (2 : Int32)).toNatClampNeg), .int (S.2.1 x0 (x3 + (1 : Int32)).toNatClampNeg), .ref x1] S else none) (fun f => rfl) ?_
      refine OkF.grd (fun _ => ?_)
      refine OkF.eq 5 (Y := fun f => if inb (x3 + (5 : Int32)) (al S x0) = true then rk px kx f (d + 8) 239 374 [some (.ref x0), some (.ref x1), some (.ref x2), some (.int x3)] [.int (S.2.1 x0 (x3 + (5 : Int32)).toNatClampNeg), .int (S.2.1 x0 (x3 + (4 : Int32)).toNatClampNeg), .int (S.2.1 x0 (x3 + (3 : Int32)).toNatClampNeg), .int (S.2.1 x0 (x3 + (2 : Int32)).toNatClampNeg), .int (S.2.1 x0 (x3 + (1 : Int32)).toNatClampNeg), .ref x1] S else none) (fun f => rfl) ?_
      refine OkF.grd (fun _ => ?_)
      refine OkF.eq 1 (Y := fun f => if oc S x1 11 = true then (rk px kx f (d + 7) 24 0 [some (.ref x1), some (.int (S.2.1 x0 (x3 + (1 : Int32)).toNatClampNeg)), some (.int (S.2.1 x0 (x3 + (2 : Int32)).toNatClampNeg)), some (.int (S.2.1 x0 (x3 + (3 : Int32)).toNatClampNeg)), some (.int (S.2.1 x0 (x3 + (4 : Int32)).toNatClampNeg)), some (.int (S.2.1 x0 (x3 + (5 : Int32)).toNatClampNeg))] [] S).bind (fun q => rk px kx f (d + 8) 239 377 [some (.ref x0), some (.ref x1), some (.ref x2), some (.int x3)] (q.1.toList ++ []) q.2) else none) (fun f => rfl) ?_
      refine OkF.grd (fun _ => ?_)
      refine OkF.bind (w1 := wI) (om24 (d + 6) x1 (S.2.1 x0 (x3 + (1 : Int32)).toNatClampNeg) (S.2.1 x0 (x3 + (2 : Int32)).toNatClampNeg) (S.2.1 x0 (x3 + (3 : Int32)).toNatClampNeg) (S.2.1 x0 (x3 + (4 : Int32)).toNatClampNeg) (S.2.1 x0 (x3 + (5 : Int32)).toNatClampNeg) S) (fun q9 => ?_)
      refine OkF.eq 6 (Y := fun f => if inb (x3 + (1 : Int32)) (al q9.2 x0) = true then rk px kx f (d + 8) 239 383 [some (.ref x0), some (.ref x1), some (.ref x2), some (.int x3)] [.int (q9.2.2.1 x0 (x3 + (1 : Int32)).toNatClampNeg), .ref x2, .int q9.1] q9.2 else none) (fun f => rfl) ?_
      refine OkF.grd (fun _ => ?_)
      refine OkF.eq 5 (Y := fun f => if inb (x3 + (2 : Int32)) (al q9.2 x0) = true then rk px kx f (d + 8) 239 388 [some (.ref x0), some (.ref x1), some (.ref x2), some (.int x3)] [.int (q9.2.2.1 x0 (x3 + (2 : Int32)).toNatClampNeg), .int (q9.2.2.1 x0 (x3 + (1 : Int32)).toNatClampNeg), .ref x2, .int q9.1] q9.2 else none) (fun f => rfl) ?_
      refine OkF.grd (fun _ => ?_)
      refine OkF.eq 5 (Y := fun f => if inb (x3 + (3 : Int32)) (al q9.2 x0) = true then rk px kx f (d + 8) 239 393 [some (.ref x0), some (.ref x1), some (.ref x2), some (.int x3)] [.int (q9.2.2.1 x0 (x3 + (3 : Int32)).toNatClampNeg), .int (q9.2.2.1 x0 (x3 + (2 : Int32)).toNatClampNeg), .int (q9.2.2.1 x0 (x3 + (1 : Int32)).toNatClampNeg), .ref x2, .int q9.1] q9.2 else none) (fun f => rfl) ?_
      refine OkF.grd (fun _ => ?_)
      refine OkF.eq 5 (Y := fun f => if inb (x3 + (4 : Int32)) (al q9.2 x0) = true then rk px kx f (d + 8) 239 398 [some (.ref x0), some (.ref x1), some (.ref x2), some (.int x3)] [.int (q9.2.2.1 x0 (x3 + (4 : Int32)).toNatClampNeg), .int (q9.2.2.1 x0 (x3 + (3 : Int32)).toNatClampNeg), .int (q9.2.2.1 x0 (x3 + (2 : Int32)).toNatClampNeg), .int (q9.2.2.1 x0 (x3 + (1 : Int32)).toNatClampNeg), .ref x2, .int q9.1] q9.2 else none) (fun f => rfl) ?_
      refine OkF.grd (fun _ => ?_)
      refine OkF.eq 5 (Y := fun f => if inb (x3 + (5 : Int32)) (al q9.2 x0) = true then rk px kx f (d + 8) 239 403 [some (.ref x0), some (.ref x1), some (.ref x2), some (.int x3)] [.int (q9.2.2.1 x0 (x3 + (5 : Int32)).toNatClampNeg), .int (q9.2.2.1 x0 (x3 + (4 : Int32)).toNatClampNeg), .int (q9.2.2.1 x0 (x3 + (3 : Int32)).toNatClampNeg), .int (q9.2.2.1 x0 (x3 + (2 : Int32)).toNatClampNeg), .int (q9.2.2.1 x0 (x3 + (1 : Int32)).toNatClampNeg), .ref x2, .int q9.1] q9.2 else none) (fun f => rfl) ?_
      refine OkF.grd (fun _ => ?_)
      refine OkF.eq 1 (Y := fun f => if oc q9.2 x2 12 = true then (rk px kx f (d + 7) 156 0 [some (.ref x2), some (.int (q9.2.2.1 x0 (x3 + (1 : Int32)).toNatClampNeg)), some (.int (q9.2.2.1 x0 (x3 + (2 : Int32)).toNatClampNeg)), some (.int (q9.2.2.1 x0 (x3 + (3 : Int32)).toNatClampNeg)), some (.int (q9.2.2.1 x0 (x3 + (4 : Int32)).toNatClampNeg)), some (.int (q9.2.2.1 x0 (x3 + (5 : Int32)).toNatClampNeg)), none, none] [] q9.2).bind (fun q => rk px kx f (d + 8) 239 406 [some (.ref x0), some (.ref x1), some (.ref x2), some (.int x3)] (q.1.toList ++ [.int q9.1]) q.2) else none) (fun f => rfl) ?_
      refine OkF.grd (fun _ => ?_)
      refine OkF.bind (w1 := wI) (om156 (d + 5) x2 (q9.2.2.1 x0 (x3 + (1 : Int32)).toNatClampNeg) (q9.2.2.1 x0 (x3 + (2 : Int32)).toNatClampNeg) (q9.2.2.1 x0 (x3 + (3 : Int32)).toNatClampNeg) (q9.2.2.1 x0 (x3 + (4 : Int32)).toNatClampNeg) (q9.2.2.1 x0 (x3 + (5 : Int32)).toNatClampNeg) q9.2) (fun q10 => ?_)
      refine OkF.eq 1 (Y := fun f => if q9.1 = q10.1 then rk px kx f (d + 8) 239 1355 [some (.ref x0), some (.ref x1), some (.ref x2), some (.int x3)] [] q10.2 else rk px kx f (d + 8) 239 409 [some (.ref x0), some (.ref x1), some (.ref x2), some (.int x3)] [] q10.2) (fun f => rfl) ?_
      refine OkF.ite (fun _ => ?_) (fun _ => ?_)
      · exact OkF.kl (ls1 := [some (.ref x0), some (.ref x1), some (.ref x2), some (.int x3)]) (fun f => rfl) (ob239_1355 d k18 hk18 x0 x1 x2 x3 q10.2)
      · exact OkF.ret 2 (fun f => rfl)
    refine OkF.ite (fun _ => ?_) (fun _ => ?_)
    · refine OkF.eq 6 (Y := fun f => if inb (x3 + (1 : Int32)) (al S x0) = true then rk px kx f (d + 8) 239 417 [some (.ref x0), some (.ref x1), some (.ref x2), some (.int x3)] [.int (S.2.1 x0 (x3 + (1 : Int32)).toNatClampNeg), .ref x1] S else none) (fun f => rfl) ?_
      refine OkF.grd (fun _ => ?_)
      refine OkF.eq 1 (Y := fun f => if oc S x1 11 = true then (rk px kx f (d + 7) 25 0 [some (.ref x1), some (.int (S.2.1 x0 (x3 + (1 : Int32)).toNatClampNeg)), none] [] S).bind (fun q => rk px kx f (d + 8) 239 420 [some (.ref x0), some (.ref x1), some (.ref x2), some (.int x3)] (q.1.toList ++ []) q.2) else none) (fun f => rfl) ?_
      refine OkF.grd (fun _ => ?_)
      refine OkF.bind (w1 := wI) (om25 (d + 6) x1 (S.2.1 x0 (x3 + (1 : Int32)).toNatClampNeg) S) (fun q11 => ?_)
      refine OkF.eq 6 (Y := fun f => if inb (x3 + (1 : Int32)) (al q11.2 x0) = true then rk px kx f (d + 8) 239 426 [some (.ref x0), some (.ref x1), some (.ref x2), some (.int x3)] [.int (q11.2.2.1 x0 (x3 + (1 : Int32)).toNatClampNeg), .ref x2, .int q11.1] q11.2 else none) (fun f => rfl) ?_
      refine OkF.grd (fun _ => ?_)
      refine OkF.eq 1 (Y := fun f => if oc q11.2 x2 12 = true then (rk px kx f (d + 7) 157 0 [some (.ref x2), some (.int (q11.2.2.1 x0 (x3 + (1 : Int32)).toNatClampNeg)), none, none, none] [] q11.2).bind (fun q => rk px kx f (d + 8) 239 429 [some (.ref x0), some (.ref x1), some (.ref x2), some (.int x3)] (q.1.toList ++ [.int q11.1]) q.2) else none) (fun f => rfl) ?_
      refine OkF.grd (fun _ => ?_)
      refine OkF.bind (w1 := wI) (om157 (d + 5) x2 (q11.2.2.1 x0 (x3 + (1 : Int32)).toNatClampNeg) q11.2) (fun q12 => ?_)
      refine OkF.eq 1 (Y := fun f => if q11.1 = q12.1 then rk px kx f (d + 8) 239 1355 [some (.ref x0), some (.ref x1), some (.ref x2), some (.int x3)] [] q12.2 else rk px kx f (d + 8) 239 432 [some (.ref x0), some (.ref x1), some (.ref x2), some (.int x3)] [] q12.2) (fun f => rfl) ?_
      refine OkF.ite (fun _ => ?_) (fun _ => ?_)
      · exact OkF.kl (ls1 := [some (.ref x0), some (.ref x1), some (.ref x2), some (.int x3)]) (fun f => rfl) (ob239_1355 d k18 hk18 x0 x1 x2 x3 q12.2)
      · exact OkF.ret 2 (fun f => rfl)
    refine OkF.ite (fun _ => ?_) (fun _ => ?_)
    · refine OkF.eq 6 (Y := fun f => if inb (x3 + (1 : Int32)) (al S x0) = true then rk px kx f (d + 8) 239 440 [some (.ref x0), some (.ref x1), some (.ref x2), some (.int x3)] [.int (S.2.1 x0 (x3 + (1 : Int32)).toNatClampNeg), .ref x1] S else none) (fun f => rfl) ?_
      refine OkF.grd (fun _ => ?_)
      refine OkF.eq 5 (Y := fun f => if inb (x3 + (2 : Int32)) (al S x0) = true then rk px kx f (d + 8) 239 445 [some (.ref x0), some (.ref x1), some (.ref x2), some (.int x3)] [.int (S.2.1 x0 (x3 + (2 : Int32)).toNatClampNeg), .int (S.2.1 x0 (x3 + (1 : Int32)).toNatClampNeg), .ref x1] S else none) (fun f => rfl) ?_
      refine OkF.grd (fun _ => ?_)
      refine OkF.eq 1 (Y := fun f => if oc S x1 11 = true then (rk px kx f (d + 7) 27 0 [some (.ref x1), some (.int (S.2.1 x0 (x3 + (1 : Int32)).toNatClampNeg)), some (.int (S.2.1 x0 (x3 + (2 : Int32)).toNatClampNeg))] [] S).bind (fun q => rk px kx f (d + 8) 239 448 [some (.ref x0), some (.ref x1), some (.ref x2), some (.int x3)] (q.1.toList ++ []) q.2) else none) (fun f => rfl) ?_
      refine OkF.grd (fun _ => ?_)
      refine OkF.bind (w1 := wI) (om27 (d + 5) x1 (S.2.1 x0 (x3 + (1 : Int32)).toNatClampNeg) (S.2.1 x0 (x3 + (2 : Int32)).toNatClampNeg) S) (fun q13 => ?_)
      refine OkF.eq 6 (Y := fun f => if inb (x3 + (1 : Int32)) (al q13.2 x0) = true then rk px kx f (d + 8) 239 454 [some (.ref x0), some (.ref x1), some (.ref x2), some (.int x3)] [.int (q13.2.2.1 x0 (x3 + (1 : Int32)).toNatClampNeg), .ref x2, .int q13.1] q13.2 else none) (fun f => rfl) ?_
      refine OkF.grd (fun _ => ?_)
      refine OkF.eq 5 (Y := fun f => if inb (x3 + (2 : Int32)) (al q13.2 x0) = true then rk px kx f (d + 8) 239 459 [some (.ref x0), some (.ref x1), some (.ref x2), some (.int x3)] [.int (q13.2.2.1 x0 (x3 + (2 : Int32)).toNatClampNeg), .int (q13.2.2.1 x0 (x3 + (1 : Int32)).toNatClampNeg), .ref x2, .int q13.1] q13.2 else none) (fun f => rfl) ?_
      refine OkF.grd (fun _ => ?_)
      refine OkF.eq 1 (Y := fun f => if oc q13.2 x2 12 = true then (rk px kx f (d + 7) 158 0 [some (.ref x2), some (.int (q13.2.2.1 x0 (x3 + (1 : Int32)).toNatClampNeg)), some (.int (q13.2.2.1 x0 (x3 + (2 : Int32)).toNatClampNeg)), none] [] q13.2).bind (fun q => rk px kx f (d + 8) 239 462 [some (.ref x0), some (.ref x1), some (.ref x2), some (.int x3)] (q.1.toList ++ [.int q13.1]) q.2) else none) (fun f => rfl) ?_
      refine OkF.grd (fun _ => ?_)
      refine OkF.bind (w1 := wI) (om158 (d + 5) x2 (q13.2.2.1 x0 (x3 + (1 : Int32)).toNatClampNeg) (q13.2.2.1 x0 (x3 + (2 : Int32)).toNatClampNeg) q13.2) (fun q14 => ?_)
      refine OkF.eq 1 (Y := fun f => if q13.1 = q14.1 then rk px kx f (d + 8) 239 1355 [some (.ref x0), some (.ref x1), some (.ref x2), some (.int x3)] [] q14.2 else rk px kx f (d + 8) 239 465 [some (.ref x0), some (.ref x1), some (.ref x2), some (.int x3)] [] q14.2) (fun f => rfl) ?_
      refine OkF.ite (fun _ => ?_) (fun _ => ?_)
      · exact OkF.kl (ls1 := [some (.ref x0), some (.ref x1), some (.ref x2), some (.int x3)]) (fun f => rfl) (ob239_1355 d k18 hk18 x0 x1 x2 x3 q14.2)
      · exact OkF.ret 2 (fun f => rfl)
    refine OkF.ite (fun _ => ?_) (fun _ => ?_)
    · refine OkF.eq 6 (Y := fun f => if inb (x3 + (1 : Int32)) (al S x0) = true then rk px kx f (d + 8) 239 473 [some (.ref x0), some (.ref x1), some (.ref x2), some (.int x3)] [.int (S.2.1 x0 (x3 + (1 : Int32)).toNatClampNeg), .ref x1] S else none) (fun f => rfl) ?_
      refine OkF.grd (fun _ => ?_)
      refine OkF.eq 5 (Y := fun f => if inb (x3 + (2 : Int32)) (al S x0) = true then rk px kx f (d + 8) 239 478 [some (.ref x0), some (.ref x1), some (.ref x2), some (.int x3)] [.int (S.2.1 x0 (x3 + (2 : Int32)).toNatClampNeg), .int (S.2.1 x0 (x3 + (1 : Int32)).toNatClampNeg), .ref x1] S else none) (fun f => rfl) ?_
      refine OkF.grd (fun _ => ?_)
      refine OkF.eq 5 (Y := fun f => if inb (x3 + (3 : Int32)) (al S x0) = true then rk px kx f (d + 8) 239 483 [some (.ref x0), some (.ref x1), some (.ref x2), some (.int x3)] [.int (S.2.1 x0 (x3 + (3 : Int32)).toNatClampNeg), .int (S.2.1 x0 (x3 + (2 : Int32)).toNatClampNeg), .int (S.2.1 x0 (x3 + (1 : Int32)).toNatClampNeg), .ref x1] S else none) (fun f => rfl) ?_
      refine OkF.grd (fun _ => ?_)
      refine OkF.eq 1 (Y := fun f => if oc S x1 11 = true then (rk px kx f (d + 7) 29 0 [some (.ref x1), some (.int (S.2.1 x0 (x3 + (1 : Int32)).toNatClampNeg)), some (.int (S.2.1 x0 (x3 + (2 : Int32)).toNatClampNeg)), some (.int (S.2.1 x0 (x3 + (3 : Int32)).toNatClampNeg)), none] [] S).bind (fun q => rk px kx f (d + 8) 239 486 [some (.ref x0), some (.ref x1), some (.ref x2), some (.int x3)] (q.1.toList ++ []) q.2) else none) (fun f => rfl) ?_
      refine OkF.grd (fun _ => ?_)
      refine OkF.bind (w1 := wI) (om29 (d + 6) x1 (S.2.1 x0 (x3 + (1 : Int32)).toNatClampNeg) (S.2.1 x0 (x3 + (2 : Int32)).toNatClampNeg) (S.2.1 x0 (x3 + (3 : Int32)).toNatClampNeg) S) (fun q15 => ?_)
      refine OkF.eq 6 (Y := fun f => if inb (x3 + (1 : Int32)) (al q15.2 x0) = true then rk px kx f (d + 8) 239 492 [some (.ref x0), some (.ref x1), some (.ref x2), some (.int x3)] [.int (q15.2.2.1 x0 (x3 + (1 : Int32)).toNatClampNeg), .ref x2, .int q15.1] q15.2 else none) (fun f => rfl) ?_
      refine OkF.grd (fun _ => ?_)
      refine OkF.eq 5 (Y := fun f => if inb (x3 + (2 : Int32)) (al q15.2 x0) = true then rk px kx f (d + 8) 239 497 [some (.ref x0), some (.ref x1), some (.ref x2), some (.int x3)] [.int (q15.2.2.1 x0 (x3 + (2 : Int32)).toNatClampNeg), .int (q15.2.2.1 x0 (x3 + (1 : Int32)).toNatClampNeg), .ref x2, .int q15.1] q15.2 else none) (fun f => rfl) ?_
      refine OkF.grd (fun _ => ?_)
      refine OkF.eq 5 (Y := fun f => if inb (x3 + (3 : Int32)) (al q15.2 x0) = true then rk px kx f (d + 8) 239 502 [some (.ref x0), some (.ref x1), some (.ref x2), some (.int x3)] [.int (q15.2.2.1 x0 (x3 + (3 : Int32)).toNatClampNeg), .int (q15.2.2.1 x0 (x3 + (2 : Int32)).toNatClampNeg), .int (q15.2.2.1 x0 (x3 + (1 : Int32)).toNatClampNeg), .ref x2, .int q15.1] q15.2 else none) (fun f => rfl) ?_
      refine OkF.grd (fun _ => ?_)
      refine OkF.eq 1 (Y := fun f => if oc q15.2 x2 12 = true then (rk px kx f (d + 7) 160 0 [some (.ref x2), some (.int (q15.2.2.1 x0 (x3 + (1 : Int32)).toNatClampNeg)), some (.int (q15.2.2.1 x0 (x3 + (2 : Int32)).toNatClampNeg)), some (.int (q15.2.2.1 x0 (x3 + (3 : Int32)).toNatClampNeg)), none] [] q15.2).bind (fun q => rk px kx f (d + 8) 239 505 [some (.ref x0), some (.ref x1), some (.ref x2), some (.int x3)] (q.1.toList ++ [.int q15.1]) q.2) else none) (fun f => rfl) ?_
      refine OkF.grd (fun _ => ?_)
      refine OkF.bind (w1 := wI) (om160 (d + 5) x2 (q15.2.2.1 x0 (x3 + (1 : Int32)).toNatClampNeg) (q15.2.2.1 x0 (x3 + (2 : Int32)).toNatClampNeg) (q15.2.2.1 x0 (x3 + (3 : Int32)).toNatClampNeg) q15.2) (fun q16 => ?_)
      refine OkF.eq 1 (Y := fun f => if q15.1 = q16.1 then rk px kx f (d + 8) 239 1355 [some (.ref x0), some (.ref x1), some (.ref x2), some (.int x3)] [] q16.2 else rk px kx f (d + 8) 239 508 [some (.ref x0), some (.ref x1), some (.ref x2), some (.int x3)] [] q16.2) (fun f => rfl) ?_
      refine OkF.ite (fun _ => ?_) (fun _ => ?_)
      · exact OkF.kl (ls1 := [some (.ref x0), some (.ref x1), some (.ref x2), some (.int x3)]) (fun f => rfl) (ob239_1355 d k18 hk18 x0 x1 x2 x3 q16.2)
      · exact OkF.ret 2 (fun f => rfl)
    refine OkF.ite (fun _ => ?_) (fun _ => ?_)
    · refine OkF.eq 6 (Y := fun f => if inb (x3 + (1 : Int32)) (al S x0) = true then rk px kx f (d + 8) 239 516 [some (.ref x0), some (.ref x1), some (.ref x2), some (.int x3)] [.int (S.2.1 x0 (x3 + (1 : Int32)).toNatClampNeg), .ref x1] S else none) (fun f => rfl) ?_
      refine OkF.grd (fun _ => ?_)
      refine OkF.eq 1 (Y := fun f => if oc S x1 11 = true then (rk px kx f (d + 7) 30 0 [some (.ref x1), some (.int (S.2.1 x0 (x3 + (1 : Int32)).toNatClampNeg))] [] S).bind (fun q => rk px kx f (d + 8) 239 519 [some (.ref x0), some (.ref x1), some (.ref x2), some (.int x3)] (q.1.toList ++ []) q.2) else none) (fun f => rfl) ?_
      refine OkF.grd (fun _ => ?_)
      refine OkF.bind (w1 := wI) (om30 (d + 4) x1 (S.2.1 x0 (x3 + (1 : Int32)).toNatClampNeg) S) (fun q17 => ?_)
      refine OkF.eq 6 (Y := fun f => if inb (x3 + (1 : Int32)) (al q17.2 x0) = true then rk px kx f (d + 8) 239 525 [some (.ref x0), some (.ref x1), some (.ref x2), some (.int x3)] [.int (q17.2.2.1 x0 (x3 + (1 : Int32)).toNatClampNeg), .ref x2, .int q17.1] q17.2 else none) (fun f => rfl) ?_
      refine OkF.grd (fun _ => ?_)
      refine OkF.eq 1 (Y := fun f => if oc q17.2 x2 12 = true then (rk px kx f (d + 7) 161 0 [some (.ref x2), some (.int (q17.2.2.1 x0 (x3 + (1 : Int32)).toNatClampNeg))] [] q17.2).bind (fun q => rk px kx f (d + 8) 239 528 [some (.ref x0), some (.ref x1), some (.ref x2), some (.int x3)] (q.1.toList ++ [.int q17.1]) q.2) else none) (fun f => rfl) ?_
      refine OkF.grd (fun _ => ?_)
      refine OkF.bind (w1 := wI) (om161 (d + 3) x2 (q17.2.2.1 x0 (x3 + (1 : Int32)).toNatClampNeg) q17.2) (fun q18 => ?_)
      refine OkF.eq 1 (Y := fun f => if q17.1 = q18.1 then rk px kx f (d + 8) 239 1355 [some (.ref x0), some (.ref x1), some (.ref x2), some (.int x3)] [] q18.2 else rk px kx f (d + 8) 239 531 [some (.ref x0), some (.ref x1), some (.ref x2), some (.int x3)] [] q18.2) (fun f => rfl) ?_
      refine OkF.ite (fun _ => ?_) (fun _ => ?_)
      · exact OkF.kl (ls1 := [some (.ref x0), some (.ref x1), some (.ref x2), some (.int x3)]) (fun f => rfl) (ob239_1355 d k18 hk18 x0 x1 x2 x3 q18.2)
      · exact OkF.ret 2 (fun f => rfl)
    refine OkF.ite (fun _ => ?_) (fun _ => ?_)
    · refine OkF.eq 6 (Y := fun f => if inb (x3 + (1 : Int32)) (al S x0) = true then rk px kx f (d + 8) 239 539 [some (.ref x0), some (.ref x1), some (.ref x2), some (.int x3)] [.int (S.2.1 x0 (x3 + (1 : Int32)).toNatClampNeg), .ref x1] S else none) (fun f => rfl) ?_
      refine OkF.grd (fun _ => ?_)
      refine OkF.eq 1 (Y := fun f => if oc S x1 11 = true then (rk px kx f (d + 7) 40 0 [some (.ref x1), some (.int (S.2.1 x0 (x3 + (1 : Int32)).toNatClampNeg)), none] [] S).bind (fun q => rk px kx f (d + 8) 239 542 [some (.ref x0), some (.ref x1), some (.ref x2), some (.int x3)] (q.1.toList ++ []) q.2) else none) (fun f => rfl) ?_
      refine OkF.grd (fun _ => ?_)
      refine OkF.bind (w1 := wI) (om40 (d + 4) x1 (S.2.1 x0 (x3 + (1 : Int32)).toNatClampNeg) S) (fun q19 => ?_)
      refine OkF.eq 6 (Y := fun f => if inb (x3 + (1 : Int32)) (al q19.2 x0) = true then rk px kx f (d + 8) 239 548 [some (.ref x0), some (.ref x1), some (.ref x2), some (.int x3)] [.int (q19.2.2.1 x0 (x3 + (1 : Int32)).toNatClampNeg), .ref x2, .int q19.1] q19.2 else none) (fun f => rfl) ?_
      refine OkF.grd (fun _ => ?_)
      refine OkF.eq 1 (Y := fun f => if oc q19.2 x2 12 = true then (rk px kx f (d + 7) 169 0 [some (.ref x2), some (.int (q19.2.2.1 x0 (x3 + (1 : Int32)).toNatClampNeg)), none] [] q19.2).bind (fun q => rk px kx f (d + 8) 239 551 [some (.ref x0), some (.ref x1), some (.ref x2), some (.int x3)] (q.1.toList ++ [.int q19.1]) q.2) else none) (fun f => rfl) ?_
      refine OkF.grd (fun _ => ?_)
      refine OkF.bind (w1 := wI) (om169 (d + 3) x2 (q19.2.2.1 x0 (x3 + (1 : Int32)).toNatClampNeg) q19.2) (fun q20 => ?_)
      refine OkF.eq 1 (Y := fun f => if q19.1 = q20.1 then rk px kx f (d + 8) 239 1355 [some (.ref x0), some (.ref x1), some (.ref x2), some (.int x3)] [] q20.2 else rk px kx f (d + 8) 239 554 [some (.ref x0), some (.ref x1), some (.ref x2), some (.int x3)] [] q20.2) (fun f => rfl) ?_
      refine OkF.ite (fun _ => ?_) (fun _ => ?_)
      · exact OkF.kl (ls1 := [some (.ref x0), some (.ref x1), some (.ref x2), some (.int x3)]) (fun f => rfl) (ob239_1355 d k18 hk18 x0 x1 x2 x3 q20.2)
      · exact OkF.ret 2 (fun f => rfl)
    refine OkF.ite (fun _ => ?_) (fun _ => ?_)
    · refine OkF.eq 6 (Y := fun f => if inb (x3 + (1 : Int32)) (al S x0) = true then rk px kx f (d + 8) 239 562 [some (.ref x0), some (.ref x1), some (.ref x2), some (.int x3)] [.int (S.2.1 x0 (x3 + (1 : Int32)).toNatClampNeg), .ref x1] S else none) (fun f => rfl) ?_
      refine OkF.grd (fun _ => ?_)
      refine OkF.eq 5 (Y := fun f => if inb (x3 + (2 : Int32)) (al S x0) = true then rk px kx f (d + 8) 239 567 [some (.ref x0), some (.ref x1), some (.ref x2), some (.int x3)] [.int (S.2.1 x0 (x3 + (2 : Int32)).toNatClampNeg), .int (S.2.1 x0 (x3 + (1 : Int32)).toNatClampNeg), .ref x1] S else none) (fun f => rfl) ?_
      refine OkF.grd (fun _ => ?_)
      refine OkF.eq 1 (Y := fun f => if oc S x1 11 = true then (rk px kx f (d + 7) 42 0 [some (.ref x1), some (.int (S.2.1 x0 (x3 + (1 : Int32)).toNatClampNeg)), some (.int (S.2.1 x0 (x3 + (2 : Int32)).toNatClampNeg))] [] S).bind (fun q => rk px kx f (d + 8) 239 570 [some (.ref x0), some (.ref x1), some (.ref x2), some (.int x3)] (q.1.toList ++ []) q.2) else none) (fun f => rfl) ?_
      refine OkF.grd (fun _ => ?_)
      refine OkF.bind (w1 := wI) (om42 (d + 3) x1 (S.2.1 x0 (x3 + (1 : Int32)).toNatClampNeg) (S.2.1 x0 (x3 + (2 : Int32)).toNatClampNeg) S) (fun q21 => ?_)
      refine OkF.eq 6 (Y := fun f => if inb (x3 + (1 : Int32)) (al q21.2 x0) = true then rk px kx f (d + 8) 239 576 [some (.ref x0), some (.ref x1), some (.ref x2), some (.int x3)] [.int (q21.2.2.1 x0 (x3 + (1 : Int32)).toNatClampNeg), .ref x2, .int q21.1] q21.2 else none) (fun f => rfl) ?_
      refine OkF.grd (fun _ => ?_)
      refine OkF.eq 5 (Y := fun f => if inb (x3 + (2 : Int32)) (al q21.2 x0) = true then rk px kx f (d + 8) 239 581 [some (.ref x0), some (.ref x1), some (.ref x2), some (.int x3)] [.int (q21.2.2.1 x0 (x3 + (2 : Int32)).toNatClampNeg), .int (q21.2.2.1 x0 (x3 + (1 : Int32)).toNatClampNeg), .ref x2, .int q21.1] q21.2 else none) (fun f => rfl) ?_
      refine OkF.grd (fun _ => ?_)
      refine OkF.eq 1 (Y := fun f => if oc q21.2 x2 12 = true then (rk px kx f (d + 7) 170 0 [some (.ref x2), some (.int (q21.2.2.1 x0 (x3 + (1 : Int32)).toNatClampNeg)), some (.int (q21.2.2.1 x0 (x3 + (2 : Int32)).toNatClampNeg))] [] q21.2).bind (fun q => rk px kx f (d + 8) 239 584 [some (.ref x0), some (.ref x1), some (.ref x2), some (.int x3)] (q.1.toList ++ [.int q21.1]) q.2) else none) (fun f => rfl) ?_
      refine OkF.grd (fun _ => ?_)
      refine OkF.bind (w1 := wI) (om170 (d + 3) x2 (q21.2.2.1 x0 (x3 + (1 : Int32)).toNatClampNeg) (q21.2.2.1 x0 (x3 + (2 : Int32)).toNatClampNeg) q21.2) (fun q22 => ?_)
      refine OkF.eq 1 (Y := fun f => if q21.1 = q22.1 then rk px kx f (d + 8) 239 1355 [some (.ref x0), some (.ref x1), some (.ref x2), some (.int x3)] [] q22.2 else rk px kx f (d + 8) 239 587 [some (.ref x0), some (.ref x1), some (.ref x2), some (.int x3)] [] q22.2) (fun f => rfl) ?_
      refine OkF.ite (fun _ => ?_) (fun _ => ?_)
      · exact OkF.kl (ls1 := [some (.ref x0), some (.ref x1), some (.ref x2), some (.int x3)]) (fun f => rfl) (ob239_1355 d k18 hk18 x0 x1 x2 x3 q22.2)
      · exact OkF.ret 2 (fun f => rfl)
    refine OkF.ite (fun _ => ?_) (fun _ => ?_)
    · refine OkF.eq 6 (Y := fun f => if inb (x3 + (1 : Int32)) (al S x0) = true then rk px kx f (d + 8) 239 595 [some (.ref x0), some (.ref x1), some (.ref x2), some (.int x3)] [.int (S.2.1 x0 (x3 + (1 : Int32)).toNatClampNeg), .ref x1] S else none) (fun f => rfl) ?_
      refine OkF.grd (fun _ => ?_)
      refine OkF.eq 5 (Y := fun f => if inb (x3 + (2 : Int32)) (al S x0) = true then rk px kx f (d + 8) 239 600 [some (.ref x0), some (.ref x1), some (.ref x2), some (.int x3)] [.int (S.2.1 x0 (x3 + (2 : Int32)).toNatClampNeg), .int (S.2.1 x0 (x3 + (1 : Int32)).toNatClampNeg), .ref x1] S else none) (fun f => rfl) ?_
      refine OkF.grd (fun _ => ?_)
      refine OkF.eq 1 (Y := fun f => if oc S x1 11 = true then (rk px kx f (d + 7) 67 0 [some (.ref x1), some (.int (S.2.1 x0 (x3 + (1 : Int32)).toNatClampNeg)), some (.int (S.2.1 x0 (x3 + (2 : Int32)).toNatClampNeg))] [] S).bind (fun q => rk px kx f (d + 8) 239 603 [some (.ref x0), some (.ref x1), some (.ref x2), some (.int x3)] (q.1.toList ++ []) q.2) else none) (fun f => rfl) ?_
      refine OkF.grd (fun _ => ?_)
      refine OkF.bind (w1 := wI) (om67 (d + 4) x1 (S.2.1 x0 (x3 + (1 : Int32)).toNatClampNeg) (S.2.1 x0 (x3 + (2 : Int32)).toNatClampNeg) S) (fun q23 => ?_)
      refine OkF.eq 6 (Y := fun f => if inb (x3 + (1 : Int32)) (al q23.2 x0) = true then rk px kx f (d + 8) 239 609 [some (.ref x0), some (.ref x1), some (.ref x2), some (.int x3)] [.int (q23.2.2.1 x0 (x3 + (1 : Int32)).toNatClampNeg), .ref x2, .int q23.1] q23.2 else none) (fun f => rfl) ?_
      refine OkF.grd (fun _ => ?_)
      refine OkF.eq 5 (Y := fun f => if inb (x3 + (2 : Int32)) (al q23.2 x0) = true then rk px kx f (d + 8) 239 614 [some (.ref x0), some (.ref x1), some (.ref x2), some (.int x3)] [.int (q23.2.2.1 x0 (x3 + (2 : Int32)).toNatClampNeg), .int (q23.2.2.1 x0 (x3 + (1 : Int32)).toNatClampNeg), .ref x2, .int q23.1] q23.2 else none) (fun f => rfl) ?_
      refine OkF.grd (fun _ => ?_)
      refine OkF.eq 1 (Y := fun f => if oc q23.2 x2 12 = true then (rk px kx f (d + 7) 181 0 [some (.ref x2), some (.int (q23.2.2.1 x0 (x3 + (1 : Int32)).toNatClampNeg)), some (.int (q23.2.2.1 x0 (x3 + (2 : Int32)).toNatClampNeg))] [] q23.2).bind (fun q => rk px kx f (d + 8) 239 617 [some (.ref x0), some (.ref x1), some (.ref x2), some (.int x3)] (q.1.toList ++ [.int q23.1]) q.2) else none) (fun f => rfl) ?_
      refine OkF.grd (fun _ => ?_)
      refine OkF.bind (w1 := wI) (om181 (d + 4) x2 (q23.2.2.1 x0 (x3 + (1 : Int32)).toNatClampNeg) (q23.2.2.1 x0 (x3 + (2 : Int32)).toNatClampNeg) q23.2) (fun q24 => ?_)
      refine OkF.eq 1 (Y := fun f => if q23.1 = q24.1 then rk px kx f (d + 8) 239 1355 [some (.ref x0), some (.ref x1), some (.ref x2), some (.int x3)] [] q24.2 else rk px kx f (d + 8) 239 620 [some (.ref x0), some (.ref x1), some (.ref x2), some (.int x3)] [] q24.2) (fun f => rfl) ?_
      refine OkF.ite (fun _ => ?_) (fun _ => ?_)
      · exact OkF.kl (ls1 := [some (.ref x0), some (.ref x1), some (.ref x2), some (.int x3)]) (fun f => rfl) (ob239_1355 d k18 hk18 x0 x1 x2 x3 q24.2)
      · exact OkF.ret 2 (fun f => rfl)
    refine OkF.ite (fun _ => ?_) (fun _ => ?_)
    · refine OkF.eq 2 (Y := fun f => if oc S x1 11 = true then (rk px kx f (d + 7) 73 0 [some (.ref x1)] [] S).bind (fun q => rk px kx f (d + 8) 239 626 [some (.ref x0), some (.ref x1), some (.ref x2), some (.int x3)] (q.1.toList ++ []) q.2) else none) (fun f => rfl) ?_
      refine OkF.grd (fun _ => ?_)
      refine OkF.bind (w1 := wI) (om73 (d + 2) x1 S) (fun q25 => ?_)
      refine OkF.eq 2 (Y := fun f => if oc q25.2 x2 12 = true then (rk px kx f (d + 7) 187 0 [some (.ref x2), none] [] q25.2).bind (fun q => rk px kx f (d + 8) 239 630 [some (.ref x0), some (.ref x1), some (.ref x2), some (.int x3)] (q.1.toList ++ [.int q25.1]) q.2) else none) (fun f => rfl) ?_
      refine OkF.grd (fun _ => ?_)
      refine OkF.bind (w1 := wI) (om187 (d + 4) x2 q25.2) (fun q26 => ?_)
      refine OkF.eq 1 (Y := fun f => if q25.1 = q26.1 then rk px kx f (d + 8) 239 1355 [some (.ref x0), some (.ref x1), some (.ref x2), some (.int x3)] [] q26.2 else rk px kx f (d + 8) 239 633 [some (.ref x0), some (.ref x1), some (.ref x2), some (.int x3)] [] q26.2) (fun f => rfl) ?_
      refine OkF.ite (fun _ => ?_) (fun _ => ?_)
      · exact OkF.kl (ls1 := [some (.ref x0), some (.ref x1), some (.ref x2), some (.int x3)]) (fun f => rfl) (ob239_1355 d k18 hk18 x0 x1 x2 x3 q26.2)
      · exact OkF.ret 2 (fun f => rfl)
    refine OkF.ite (fun _ => ?_) (fun _ => ?_)
    · refine OkF.eq 2 (Y := fun f => if oc S x1 11 = true then (rk px kx f (d + 7) 78 0 [some (.ref x1)] [] S).bind (fun q => rk px kx f (d + 8) 239 639 [some (.ref x0), some (.ref x1), some (.ref x2), some (.int x3)] (q.1.toList ++ []) q.2) else none) (fun f => rfl) ?_
      refine OkF.grd (fun _ => ?_)
      refine OkF.bind (w1 := wI) (om78 (d + 2) x1 S) (fun q27 => ?_)
      refine OkF.eq 2 (Y := fun f => if oc q27.2 x2 12 = true then (rk px kx f (d + 7) 192 0 [some (.ref x2), none] [] q27.2).bind (fun q => rk px kx f (d + 8) 239 643 [some (.ref x0), some (.ref x1), some (.ref x2), some (.int x3)] (q.1.toList ++ [.int q27.1]) q.2) else none) (fun f => rfl) ?_
      refine OkF.grd (fun _ => ?_)
      refine OkF.bind (w1 := wI) (om192 (d + 4) x2 q27.2) (fun q28 => ?_)
      refine OkF.eq 1 (Y := fun f => if q27.1 = q28.1 then rk px kx f (d + 8) 239 1355 [some (.ref x0), some (.ref x1), some (.ref x2), some (.int x3)] [] q28.2 else rk px kx f (d + 8) 239 646 [some (.ref x0), some (.ref x1), some (.ref x2), some (.int x3)] [] q28.2) (fun f => rfl) ?_
      refine OkF.ite (fun _ => ?_) (fun _ => ?_)
      · exact OkF.kl (ls1 := [some (.ref x0), some (.ref x1), some (.ref x2), some (.int x3)]) (fun f => rfl) (ob239_1355 d k18 hk18 x0 x1 x2 x3 q28.2)
      · exact OkF.ret 2 (fun f => rfl)
    refine OkF.ite (fun _ => ?_) (fun _ => ?_)
    · refine OkF.eq 6 (Y := fun f => if inb (x3 + (1 : Int32)) (al S x0) = true then rk px kx f (d + 8) 239 654 [some (.ref x0), some (.ref x1), some (.ref x2), some (.int x3)] [.int (S.2.1 x0 (x3 + (1 : Int32)).toNatClampNeg), .ref x1] S else none) (fun f => rfl) ?_
      refine OkF.grd (fun _ => ?_)
      refine OkF.eq 1 (Y := fun f => if oc S x1 11 = true then (rk px kx f (d + 7) 79 0 [some (.ref x1), some (.int (S.2.1 x0 (x3 + (1 : Int32)).toNatClampNeg))] [] S).bind (fun q => rk px kx f (d + 8) 239 657 [some (.ref x0), some (.ref x1), some (.ref x2), some (.int x3)] (q.1.toList ++ []) q.2) else none) (fun f => rfl) ?_
      refine OkF.grd (fun _ => ?_)
      refine OkF.bind (w1 := wI) (om79 (d + 2) x1 (S.2.1 x0 (x3 + (1 : Int32)).toNatClampNeg) S) (fun q29 => ?_)
      refine OkF.eq 6 (Y := fun f => if inb (x3 + (1 : Int32)) (al q29.2 x0) = true then rk px kx f (d + 8) 239 663 [some (.ref x0), some (.ref x1), some (.ref x2), some (.int x3)] [.int (q29.2.2.1 x0 (x3 + (1 : Int32)).toNatClampNeg), .ref x2, .int q29.1] q29.2 else none) (fun f => rfl) ?_
      refine OkF.grd (fun _ => ?_)
      refine OkF.eq 1 (Y := fun f => if oc q29.2 x2 12 = true then (rk px kx f (d + 7) 194 0 [some (.ref x2), some (.int (q29.2.2.1 x0 (x3 + (1 : Int32)).toNatClampNeg))] [] q29.2).bind (fun q => rk px kx f (d + 8) 239 666 [some (.ref x0), some (.ref x1), some (.ref x2), some (.int x3)] (q.1.toList ++ [.int q29.1]) q.2) else none) (fun f => rfl) ?_
      refine OkF.grd (fun _ => ?_)
      refine OkF.bind (w1 := wI) (om194 (d + 3) x2 (q29.2.2.1 x0 (x3 + (1 : Int32)).toNatClampNeg) q29.2) (fun q30 => ?_)
      refine OkF.eq 1 (Y := fun f => if q29.1 = q30.1 then rk px kx f (d + 8) 239 1355 [some (.ref x0), some (.ref x1), some (.ref x2), some (.int x3)] [] q30.2 else rk px kx f (d + 8) 239 669 [some (.ref x0), some (.ref x1), some (.ref x2), some (.int x3)] [] q30.2) (fun f => rfl) ?_
      refine OkF.ite (fun _ => ?_) (fun _ => ?_)
      · exact OkF.kl (ls1 := [some (.ref x0), some (.ref x1), some (.ref x2), some (.int x3)]) (fun f => rfl) (ob239_1355 d k18 hk18 x0 x1 x2 x3 q30.2)
      · exact OkF.ret 2 (fun f => rfl)
    refine OkF.ite (fun _ => ?_) (fun _ => ?_)
    · refine OkF.eq 6 (Y := fun f => if inb (x3 + (1 : Int32)) (al S x0) = true then rk px kx f (d + 8) 239 677 [some (.ref x0), some (.ref x1), some (.ref x2), some (.int x3)] [.int (S.2.1 x0 (x3 + (1 : Int32)).toNatClampNeg), .ref x1] S else none) (fun f => rfl) ?_
      refine OkF.grd (fun _ => ?_)
      refine OkF.eq 1 (Y := fun f => if oc S x1 11 = true then (rk px kx f (d + 7) 81 0 [some (.ref x1), some (.int (S.2.1 x0 (x3 + (1 : Int32)).toNatClampNeg))] [] S).bind (fun q => rk px kx f (d + 8) 239 680 [some (.ref x0), some (.ref x1), some (.ref x2), some (.int x3)] (q.1.toList ++ []) q.2) else none) (fun f => rfl) ?_
      refine OkF.grd (fun _ => ?_)
      refine OkF.bind (w1 := wI) (om81 (d + 2) x1 (S.2.1 x0 (x3 + (1 : Int32)).toNatClampNeg) S) (fun q31 => ?_)
      refine OkF.eq 6 (Y := fun f => if inb (x3 + (1 : Int32)) (al q31.2 x0) = true then rk px kx f (d + 8) 239 686 [some (.ref x0), some (.ref x1), some (.ref x2), some (.int x3)] [.int (q31.2.2.1 x0 (x3 + (1 : Int32)).toNatClampNeg), .ref x2, .int q31.1] q31.2 else none) (fun f => rfl) ?_
      refine OkF.grd (fun _ => ?_)
      refine OkF.eq 1 (Y := fun f => if oc q31.2 x2 12 = true then (rk px kx f (d + 7) 197 0 [some (.ref x2), some (.int (q31.2.2.1 x0 (x3 + (1 : Int32)).toNatClampNeg))] [] q31.2).bind (fun q => rk px kx f (d + 8) 239 689 [some (.ref x0), some (.ref x1), some (.ref x2), some (.int x3)] (q.1.toList ++ [.int q31.1]) q.2) else none) (fun f => rfl) ?_
      refine OkF.grd (fun _ => ?_)
      refine OkF.bind (w1 := wI) (om197 (d + 5) x2 (q31.2.2.1 x0 (x3 + (1 : Int32)).toNatClampNeg) q31.2) (fun q32 => ?_)
      refine OkF.eq 1 (Y := fun f => if q31.1 = q32.1 then rk px kx f (d + 8) 239 1355 [some (.ref x0), some (.ref x1), some (.ref x2), some (.int x3)] [] q32.2 else rk px kx f (d + 8) 239 692 [some (.ref x0), some (.ref x1), some (.ref x2), some (.int x3)] [] q32.2) (fun f => rfl) ?_
      refine OkF.ite (fun _ => ?_) (fun _ => ?_)
      · exact OkF.kl (ls1 := [some (.ref x0), some (.ref x1), some (.ref x2), some (.int x3)]) (fun f => rfl) (ob239_1355 d k18 hk18 x0 x1 x2 x3 q32.2)
      · exact OkF.ret 2 (fun f => rfl)
    refine OkF.ite (fun _ => ?_) (fun _ => ?_)
    · refine OkF.eq 6 (Y := fun f => if inb (x3 + (1 : Int32)) (al S x0) = true then rk px kx f (d + 8) 239 700 [some (.ref x0), some (.ref x1), some (.ref x2), some (.int x3)] [.int (S.2.1 x0 (x3 + (1 : Int32)).toNatClampNeg), .ref x1] S else none) (fun f => rfl) ?_
      refine OkF.grd (fun _ => ?_)
      refine OkF.eq 1 (Y := fun f => if oc S x1 11 = true then (rk px kx f (d + 7) 82 0 [some (.ref x1), some (.int (S.2.1 x0 (x3 + (1 : Int32)).toNatClampNeg))] [] S).bind (fun q => rk px kx f (d + 8) 239 703 [some (.ref x0), some (.ref x1), some (.ref x2), some (.int x3)] (q.1.toList ++ []) q.2) else none) (fun f => rfl) ?_
      refine OkF.grd (fun _ => ?_)
      refine OkF.bind (w1 := wI) (om82 (d + 2) x1 (S.2.1 x0 (x3 + (1 : Int32)).toNatClampNeg) S) (fun q33 => ?_)
      refine OkF.eq 6 (Y := fun f => if inb (x3 + (1 : Int32)) (al q33.2 x0) = true then rk px kx f (d + 8) 239 709 [some (.ref x0), some (.ref x1), some (.ref x2), some (.int x3)] [.int (q33.2.2.1 x0 (x3 + (1 : Int32)).toNatClampNeg), .ref x2, .int q33.1] q33.2 else none) (fun f => rfl) ?_
      refine OkF.grd (fun _ => ?_)
      refine OkF.eq 1 (Y := fun f => if oc q33.2 x2 12 = true then (rk px kx f (d + 7) 198 0 [some (.ref x2), some (.int (q33.2.2.1 x0 (x3 + (1 : Int32)).toNatClampNeg))] [] q33.2).bind (fun q => rk px kx f (d + 8) 239 712 [some (.ref x0), some (.ref x1), some (.ref x2), some (.int x3)] (q.1.toList ++ [.int q33.1]) q.2) else none) (fun f => rfl) ?_
      refine OkF.grd (fun _ => ?_)
      refine OkF.bind (w1 := wI) (om198 (d + 5) x2 (q33.2.2.1 x0 (x3 + (1 : Int32)).toNatClampNeg) q33.2) (fun q34 => ?_)
      refine OkF.eq 1 (Y := fun f => if q33.1 = q34.1 then rk px kx f (d + 8) 239 1355 [some (.ref x0), some (.ref x1), some (.ref x2), some (.int x3)] [] q34.2 else rk px kx f (d + 8) 239 715 [some (.ref x0), some (.ref x1), some (.ref x2), some (.int x3)] [] q34.2) (fun f => rfl) ?_
      refine OkF.ite (fun _ => ?_) (fun _ => ?_)
      · exact OkF.kl (ls1 := [some (.ref x0), some (.ref x1), some (.ref x2), some (.int x3)]) (fun f => rfl) (ob239_1355 d k18 hk18 x0 x1 x2 x3 q34.2)
      · exact OkF.ret 2 (fun f => rfl)
    refine OkF.ite (fun _ => ?_) (fun _ => ?_)
    · refine OkF.eq 6 (Y := fun f => if inb (x3 + (1 : Int32)) (al S x0) = true then rk px kx f (d + 8) 239 723 [some (.ref x0), some (.ref x1), some (.ref x2), some (.int x3)] [.int (S.2.1 x0 (x3 + (1 : Int32)).toNatClampNeg), .ref x1] S else none) (fun f => rfl) ?_
      refine OkF.grd (fun _ => ?_)
      refine OkF.eq 1 (Y := fun f => if oc S x1 11 = true then (rk px kx f (d + 7) 83 0 [some (.ref x1), some (.int (S.2.1 x0 (x3 + (1 : Int32)).toNatClampNeg))] [] S).bind (fun q => rk px kx f (d + 8) 239 726 [some (.ref x0), some (.ref x1), some (.ref x2), some (.int x3)] (q.1.toList ++ []) q.2) else none) (fun f => rfl) ?_
      refine OkF.grd (fun _ => ?_)
      refine OkF.bind (w1 := wI) (om83 (d + 2) x1 (S.2.1 x0 (x3 + (1 : Int32)).toNatClampNeg) S) (fun q35 => ?_)
      refine OkF.eq 6 (Y := fun f => if inb (x3 + (1 : Int32)) (al q35.2 x0) = true then rk px kx f (d + 8) 239 732 [some (.ref x0), some (.ref x1), some (.ref x2), some (.int x3)] [.int (q35.2.2.1 x0 (x3 + (1 : Int32)).toNatClampNeg), .ref x2, .int q35.1] q35.2 else none) (fun f => rfl) ?_
      refine OkF.grd (fun _ => ?_)
      refine OkF.eq 1 (Y := fun f => if oc q35.2 x2 12 = true then (rk px kx f (d + 7) 199 0 [some (.ref x2), some (.int (q35.2.2.1 x0 (x3 + (1 : Int32)).toNatClampNeg))] [] q35.2).bind (fun q => rk px kx f (d + 8) 239 735 [some (.ref x0), some (.ref x1), some (.ref x2), some (.int x3)] (q.1.toList ++ [.int q35.1]) q.2) else none) (fun f => rfl) ?_
      refine OkF.grd (fun _ => ?_)
      refine OkF.bind (w1 := wI) (om199 (d + 4) x2 (q35.2.2.1 x0 (x3 + (1 : Int32)).toNatClampNeg) q35.2) (fun q36 => ?_)
      refine OkF.eq 1 (Y := fun f => if q35.1 = q36.1 then rk px kx f (d + 8) 239 1355 [some (.ref x0), some (.ref x1), some (.ref x2), some (.int x3)] [] q36.2 else rk px kx f (d + 8) 239 738 [some (.ref x0), some (.ref x1), some (.ref x2), some (.int x3)] [] q36.2) (fun f => rfl) ?_
      refine OkF.ite (fun _ => ?_) (fun _ => ?_)
      · exact OkF.kl (ls1 := [some (.ref x0), some (.ref x1), some (.ref x2), some (.int x3)]) (fun f => rfl) (ob239_1355 d k18 hk18 x0 x1 x2 x3 q36.2)
      · exact OkF.ret 2 (fun f => rfl)
    refine OkF.ite (fun _ => ?_) (fun _ => ?_)
    · refine OkF.eq 6 (Y := fun f => if inb (x3 + (1 : Int32)) (al S x0) = true then rk px kx f (d + 8) 239 746 [some (.ref x0), some (.ref x1), some (.ref x2), some (.int x3)] [.int (S.2.1 x0 (x3 + (1 : Int32)).toNatClampNeg), .ref x1] S else none) (fun f => rfl) ?_
      refine OkF.grd (fun _ => ?_)
      refine OkF.eq 1 (Y := fun f => if oc S x1 11 = true then (rk px kx f (d + 7) 84 0 [some (.ref x1), some (.int (S.2.1 x0 (x3 + (1 : Int32)).toNatClampNeg)), none] [] S).bind (fun q => rk px kx f (d + 8) 239 749 [some (.ref x0), some (.ref x1), some (.ref x2), some (.int x3)] (q.1.toList ++ []) q.2) else none) (fun f => rfl) ?_
      refine OkF.grd (fun _ => ?_)
      refine OkF.bind (w1 := wI) (om84 (d + 1) x1 (S.2.1 x0 (x3 + (1 : Int32)).toNatClampNeg) S) (fun q37 => ?_)
      refine OkF.eq 6 (Y := fun f => if inb (x3 + (1 : Int32)) (al q37.2 x0) = true then rk px kx f (d + 8) 239 755 [some (.ref x0), some (.ref x1), some (.ref x2), some (.int x3)] [.int (q37.2.2.1 x0 (x3 + (1 : Int32)).toNatClampNeg), .ref x2, .int q37.1] q37.2 else none) (fun f => rfl) ?_
      refine OkF.grd (fun _ => ?_)
      refine OkF.eq 1 (Y := fun f => if oc q37.2 x2 12 = true then (rk px kx f (d + 7) 200 0 [some (.ref x2), some (.int (q37.2.2.1 x0 (x3 + (1 : Int32)).toNatClampNeg)), none] [] q37.2).bind (fun q => rk px kx f (d + 8) 239 758 [some (.ref x0), some (.ref x1), some (.ref x2), some (.int x3)] (q.1.toList ++ [.int q37.1]) q.2) else none) (fun f => rfl) ?_
      refine OkF.grd (fun _ => ?_)
      refine OkF.bind (w1 := wI) (om200 (d + 6) x2 (q37.2.2.1 x0 (x3 + (1 : Int32)).toNatClampNeg) q37.2) (fun q38 => ?_)
      refine OkF.eq 1 (Y := fun f => if q37.1 = q38.1 then rk px kx f (d + 8) 239 1355 [some (.ref x0), some (.ref x1), some (.ref x2), some (.int x3)] [] q38.2 else rk px kx f (d + 8) 239 761 [some (.ref x0), some (.ref x1), some (.ref x2), some (.int x3)] [] q38.2) (fun f => rfl) ?_
      refine OkF.ite (fun _ => ?_) (fun _ => ?_)
      · exact OkF.kl (ls1 := [some (.ref x0), some (.ref x1), some (.ref x2), some (.int x3)]) (fun f => rfl) (ob239_1355 d k18 hk18 x0 x1 x2 x3 q38.2)
      · exact OkF.ret 2 (fun f => rfl)
    refine OkF.ite (fun _ => ?_) (fun _ => ?_)
    · refine OkF.eq 6 (Y := fun f => if inb (x3 + (1 : Int32)) (al S x0) = true then rk px kx f (d + 8) 239 769 [some (.ref x0), some (.ref x1), some (.ref x2), some (.int x3)] [.int (S.2.1 x0 (x3 + (1 : Int32)).toNatClampNeg), .ref x1] S else none) (fun f => rfl) ?_
      refine OkF.grd (fun _ => ?_)
      refine OkF.eq 1 (Y := fun f => if oc S x1 11 = true then (rk px kx f (d + 7) 86 0 [some (.ref x1), some (.int (S.2.1 x0 (x3 + (1 : Int32)).toNatClampNeg))] [] S).bind (fun q => rk px kx f (d + 8) 239 772 [some (.ref x0), some (.ref x1), some (.ref x2), some (.int x3)] (q.1.toList ++ []) q.2) else none) (fun f => rfl) ?_
      refine OkF.grd (fun _ => ?_)
      refine OkF.bind (w1 := wI) (om86 (d + 5) x1 (S.2.1 x0 (x3 + (1 : Int32)).toNatClampNeg) S) (fun q39 => ?_)
      refine OkF.eq 6 (Y := fun f => if inb (x3 + (1 : Int32)) (al q39.2 x0) = true then rk px kx f (d + 8) 239 778 [some (.ref x0), some (.ref x1), some (.ref x2), some (.int x3)] [.int (q39.2.2.1 x0 (x3 + (1 : Int32)).toNatClampNeg), .ref x2, .int q39.1] q39.2 else none) (fun f => rfl) ?_
      refine OkF.grd (fun _ => ?_)
      refine OkF.eq 1 (Y := fun f => if oc q39.2 x2 12 = true then (rk px kx f (d + 7) 201 0 [some (.ref x2), some (.int (q39.2.2.1 x0 (x3 + (1 : Int32)).toNatClampNeg))] [] q39.2).bind (fun q => rk px kx f (d + 8) 239 781 [some (.ref x0), some (.ref x1), some (.ref x2), some (.int x3)] (q.1.toList ++ [.int q39.1]) q.2) else none) (fun f => rfl) ?_
      refine OkF.grd (fun _ => ?_)
      refine OkF.bind (w1 := wI) (om201 (d + 6) x2 (q39.2.2.1 x0 (x3 + (1 : Int32)).toNatClampNeg) q39.2) (fun q40 => ?_)
      refine OkF.eq 1 (Y := fun f => if q39.1 = q40.1 then rk px kx f (d + 8) 239 1355 [some (.ref x0), some (.ref x1), some (.ref x2), some (.int x3)] [] q40.2 else rk px kx f (d + 8) 239 784 [some (.ref x0), some (.ref x1), some (.ref x2), some (.int x3)] [] q40.2) (fun f => rfl) ?_
      refine OkF.ite (fun _ => ?_) (fun _ => ?_)
      · exact OkF.kl (ls1 := [some (.ref x0), some (.ref x1), some (.ref x2), some (.int x3)]) (fun f => rfl) (ob239_1355 d k18 hk18 x0 x1 x2 x3 q40.2)
      · exact OkF.ret 2 (fun f => rfl)
    refine OkF.ite (fun _ => ?_) (fun _ => ?_)
    · refine OkF.eq 6 (Y := fun f => if inb (x3 + (1 : Int32)) (al S x0) = true then rk px kx f (d + 8) 239 792 [some (.ref x0), some (.ref x1), some (.ref x2), some (.int x3)] [.int (S.2.1 x0 (x3 + (1 : Int32)).toNatClampNeg), .ref x1] S else none) (fun f => rfl) ?_
      refine OkF.grd (fun _ => ?_)
      refine OkF.eq 1 (Y := fun f => if oc S x1 11 = true then (rk px kx f (d + 7) 88 0 [some (.ref x1), some (.int (S.2.1 x0 (x3 + (1 : Int32)).toNatClampNeg))] [] S).bind (fun q => rk px kx f (d + 8) 239 795 [some (.ref x0), some (.ref x1), some (.ref x2), some (.int x3)] (q.1.toList ++ []) q.2) else none) (fun f => rfl) ?_
      refine OkF.grd (fun _ => ?_)
      refine OkF.bind (w1 := wI) (om88 (d + 5) x1 (S.2.1 x0 (x3 + (1 : Int32)).toNatClampNeg) S) (fun q41 => ?_)
      refine OkF.eq 6 (Y := fun f => if inb (x3 + (1 : Int32)) (al q41.2 x0) = true then rk px kx f (d + 8) 239 801 [some (.ref x0), some (.ref x1), some (.ref x2), some (.int x3)] [.int (q41.2.2.1 x0 (x3 + (1 : Int32)).toNatClampNeg), .ref x2, .int q41.1] q41.2 else none) (fun f => rfl) ?_
      refine OkF.grd (fun _ => ?_)
      refine OkF.eq 1 (Y := fun f => if oc q41.2 x2 12 = true then (rk px kx f (d + 7) 202 0 [some (.ref x2), some (.int (q41.2.2.1 x0 (x3 + (1 : Int32)).toNatClampNeg))] [] q41.2).bind (fun q => rk px kx f (d + 8) 239 804 [some (.ref x0), some (.ref x1), some (.ref x2), some (.int x3)] (q.1.toList ++ [.int q41.1]) q.2) else none) (fun f => rfl) ?_
      refine OkF.grd (fun _ => ?_)
      refine OkF.bind (w1 := wI) (om202 (d + 6) x2 (q41.2.2.1 x0 (x3 + (1 : Int32)).toNatClampNeg) q41.2) (fun q42 => ?_)
      refine OkF.eq 1 (Y := fun f => if q41.1 = q42.1 then rk px kx f (d + 8) 239 1355 [some (.ref x0), some (.ref x1), some (.ref x2), some (.int x3)] [] q42.2 else rk px kx f (d + 8) 239 807 [some (.ref x0), some (.ref x1), some (.ref x2), some (.int x3)] [] q42.2) (fun f => rfl) ?_
      refine OkF.ite (fun _ => ?_) (fun _ => ?_)
      · exact OkF.kl (ls1 := [some (.ref x0), some (.ref x1), some (.ref x2), some (.int x3)]) (fun f => rfl) (ob239_1355 d k18 hk18 x0 x1 x2 x3 q42.2)
      · exact OkF.ret 2 (fun f => rfl)
    refine OkF.ite (fun _ => ?_) (fun _ => ?_)
    · refine OkF.eq 6 (Y := fun f => if inb (x3 + (1 : Int32)) (al S x0) = true then rk px kx f (d + 8) 239 815 [some (.ref x0), some (.ref x1), some (.ref x2), some (.int x3)] [.int (S.2.1 x0 (x3 + (1 : Int32)).toNatClampNeg), .ref x1] S else none) (fun f => rfl) ?_
      refine OkF.grd (fun _ => ?_)
      refine OkF.eq 1 (Y := fun f => if oc S x1 11 = true then (rk px kx f (d + 7) 89 0 [some (.ref x1), some (.int (S.2.1 x0 (x3 + (1 : Int32)).toNatClampNeg))] [] S).bind (fun q => rk px kx f (d + 8) 239 818 [some (.ref x0), some (.ref x1), some (.ref x2), some (.int x3)] (q.1.toList ++ []) q.2) else none) (fun f => rfl) ?_
      refine OkF.grd (fun _ => ?_)
      refine OkF.bind (w1 := wI) (om89 (d + 1) x1 (S.2.1 x0 (x3 + (1 : Int32)).toNatClampNeg) S) (fun q43 => ?_)
      refine OkF.eq 6 (Y := fun f => if inb (x3 + (1 : Int32)) (al q43.2 x0) = true then rk px kx f (d + 8) 239 824 [some (.ref x0), some (.ref x1), some (.ref x2), some (.int x3)] [.int (q43.2.2.1 x0 (x3 + (1 : Int32)).toNatClampNeg), .ref x2, .int q43.1] q43.2 else none) (fun f => rfl) ?_
      refine OkF.grd (fun _ => ?_)
      refine OkF.eq 1 (Y := fun f => if oc q43.2 x2 12 = true then (rk px kx f (d + 7) 203 0 [some (.ref x2), some (.int (q43.2.2.1 x0 (x3 + (1 : Int32)).toNatClampNeg))] [] q43.2).bind (fun q => rk px kx f (d + 8) 239 827 [some (.ref x0), some (.ref x1), some (.ref x2), some (.int x3)] (q.1.toList ++ [.int q43.1]) q.2) else none) (fun f => rfl) ?_
      refine OkF.grd (fun _ => ?_)
      refine OkF.bind (w1 := wI) (om203 (d + 2) x2 (q43.2.2.1 x0 (x3 + (1 : Int32)).toNatClampNeg) q43.2) (fun q44 => ?_)
      refine OkF.eq 1 (Y := fun f => if q43.1 = q44.1 then rk px kx f (d + 8) 239 1355 [some (.ref x0), some (.ref x1), some (.ref x2), some (.int x3)] [] q44.2 else rk px kx f (d + 8) 239 830 [some (.ref x0), some (.ref x1), some (.ref x2), some (.int x3)] [] q44.2) (fun f => rfl) ?_
      refine OkF.ite (fun _ => ?_) (fun _ => ?_)
      · exact OkF.kl (ls1 := [some (.ref x0), some (.ref x1), some (.ref x2), some (.int x3)]) (fun f => rfl) (ob239_1355 d k18 hk18 x0 x1 x2 x3 q44.2)
      · exact OkF.ret 2 (fun f => rfl)
    refine OkF.ite (fun _ => ?_) (fun _ => ?_)
    · refine OkF.eq 6 (Y := fun f => if inb (x3 + (1 : Int32)) (al S x0) = true then rk px kx f (d + 8) 239 838 [some (.ref x0), some (.ref x1), some (.ref x2), some (.int x3)] [.int (S.2.1 x0 (x3 + (1 : Int32)).toNatClampNeg), .ref x1] S else none) (fun f => rfl) ?_
      refine OkF.grd (fun _ => ?_)
      refine OkF.eq 1 (Y := fun f => if oc S x1 11 = true then (rk px kx f (d + 7) 97 0 [some (.ref x1), some (.int (S.2.1 x0 (x3 + (1 : Int32)).toNatClampNeg)), none] [] S).bind (fun q => rk px kx f (d + 8) 239 841 [some (.ref x0), some (.ref x1), some (.ref x2), some (.int x3)] (q.1.toList ++ []) q.2) else none) (fun f => rfl) ?_
      refine OkF.grd (fun _ => ?_)
      refine OkF.bind (w1 := wI) (om97 (d + 1) x1 (S.2.1 x0 (x3 + (1 : Int32)).toNatClampNeg) S) (fun q45 => ?_)
      refine OkF.eq 6 (Y := fun f => if inb (x3 + (1 : Int32)) (al q45.2 x0) = true then rk px kx f (d + 8) 239 847 [some (.ref x0), some (.ref x1), some (.ref x2), some (.int x3)] [.int (q45.2.2.1 x0 (x3 + (1 : Int32)).toNatClampNeg), .ref x2, .int q45.1] q45.2 else none) (fun f => rfl) ?_
      refine OkF.grd (fun _ => ?_)
      refine OkF.eq 1 (Y := fun f => if oc q45.2 x2 12 = true then (rk px kx f (d + 7) 207 0 [some (.ref x2), some (.int (q45.2.2.1 x0 (x3 + (1 : Int32)).toNatClampNeg)), none, none, none] [] q45.2).bind (fun q => rk px kx f (d + 8) 239 850 [some (.ref x0), some (.ref x1), some (.ref x2), some (.int x3)] (q.1.toList ++ [.int q45.1]) q.2) else none) (fun f => rfl) ?_
      refine OkF.grd (fun _ => ?_)
      refine OkF.bind (w1 := wI) (om207 (d + 1) x2 (q45.2.2.1 x0 (x3 + (1 : Int32)).toNatClampNeg) q45.2) (fun q46 => ?_)
      refine OkF.eq 1 (Y := fun f => if q45.1 = q46.1 then rk px kx f (d + 8) 239 1355 [some (.ref x0), some (.ref x1), some (.ref x2), some (.int x3)] [] q46.2 else rk px kx f (d + 8) 239 853 [some (.ref x0), some (.ref x1), some (.ref x2), some (.int x3)] [] q46.2) (fun f => rfl) ?_
      refine OkF.ite (fun _ => ?_) (fun _ => ?_)
      · exact OkF.kl (ls1 := [some (.ref x0), some (.ref x1), some (.ref x2), some (.int x3)]) (fun f => rfl) (ob239_1355 d k18 hk18 x0 x1 x2 x3 q46.2)
      · exact OkF.ret 2 (fun f => rfl)
    refine OkF.ite (fun _ => ?_) (fun _ => ?_)
    · refine OkF.eq 6 (Y := fun f => if inb (x3 + (1 : Int32)) (al S x0) = true then rk px kx f (d + 8) 239 861 [some (.ref x0), some (.ref x1), some (.ref x2), some (.int x3)] [.int (S.2.1 x0 (x3 + (1 : Int32)).toNatClampNeg), .ref x1] S else none) (fun f => rfl) ?_
      refine OkF.grd (fun _ => ?_)
      refine OkF.eq 5 (Y := fun f => if inb (x3 + (2 : Int32)) (al S x0) = true then rk px kx f (d + 8) 239 866 [some (.ref x0), some (.ref x1), some (.ref x2), some (.int x3)] [.int (S.2.1 x0 (x3 + (2 : Int32)).toNatClampNeg), .int (S.2.1 x0 (x3 + (1 : Int32)).toNatClampNeg), .ref x1] S else none) (fun f => rfl) ?_
      refine OkF.grd (fun _ => ?_)
      refine OkF.eq 1 (Y := fun f => if oc S x1 11 = true then (rk px kx f (d + 7) 101 0 [some (.ref x1), some (.int (S.2.1 x0 (x3 + (1 : Int32)).toNatClampNeg)), some (.int (S.2.1 x0 (x3 + (2 : Int32)).toNatClampNeg)), none] [] S).bind (fun q => rk px kx f (d + 8) 239 869 [some (.ref x0), some (.ref x1), some (.ref x2), some (.int x3)] (q.1.toList ++ []) q.2) else none) (fun f => rfl) ?_
      refine OkF.grd (fun _ => ?_)
      refine OkF.bind (w1 := wI) (om101 (d + 1) x1 (S.2.1 x0 (x3 + (1 : Int32)).toNatClampNeg) (S.2.1 x0 (x3 + (2 : Int32)).toNatClampNeg) S) (fun q47 => ?_)
      refine OkF.eq 6 (Y := fun f => if inb (x3 + (1 : Int32)) (al q47.2 x0) = true then rk px kx f (d + 8) 239 875 [some (.ref x0), some (.ref x1), some (.ref x2), some (.int x3)] [.int (q47.2.2.1 x0 (x3 + (1 : Int32)).toNatClampNeg), .ref x2, .int q47.1] q47.2 else none) (fun f => rfl) ?_
      refine OkF.grd (fun _ => ?_)
      refine OkF.eq 5 (Y := fun f => if inb (x3 + (2 : Int32)) (al q47.2 x0) = true then rk px kx f (d + 8) 239 880 [some (.ref x0), some (.ref x1), some (.ref x2), some (.int x3)] [.int (q47.2.2.1 x0 (x3 + (2 : Int32)).toNatClampNeg), .int (q47.2.2.1 x0 (x3 + (1 : Int32)).toNatClampNeg), .ref x2, .int q47.1] q47.2 else none) (fun f => rfl) ?_
      refine OkF.grd (fun _ => ?_)
      refine OkF.eq 1 (Y := fun f => if oc q47.2 x2 12 = true then (rk px kx f (d + 7) 212 0 [some (.ref x2), some (.int (q47.2.2.1 x0 (x3 + (1 : Int32)).toNatClampNeg)), some (.int (q47.2.2.1 x0 (x3 + (2 : Int32)).toNatClampNeg)), none, none, none, none, none, none] [] q47.2).bind (fun q => rk px kx f (d + 8) 239 883 [some (.ref x0), some (.ref x1), some (.ref x2), some (.int x3)] (q.1.toList ++ [.int q47.1]) q.2) else none) (fun f => rfl) ?_
      refine OkF.grd (fun _ => ?_)
      refine OkF.bind (w1 := wI) (om212 (d + 1) x2 (q47.2.2.1 x0 (x3 + (1 : Int32)).toNatClampNeg) (q47.2.2.1 x0 (x3 + (2 : Int32)).toNatClampNeg) q47.2) (fun q48 => ?_)
      refine OkF.eq 1 (Y := fun f => if q47.1 = q48.1 then rk px kx f (d + 8) 239 1355 [some (.ref x0), some (.ref x1), some (.ref x2), some (.int x3)] [] q48.2 else rk px kx f (d + 8) 239 886 [some (.ref x0), some (.ref x1), some (.ref x2), some (.int x3)] [] q48.2) (fun f => rfl) ?_
      refine OkF.ite (fun _ => ?_) (fun _ => ?_)
      · exact OkF.kl (ls1 := [some (.ref x0), some (.ref x1), some (.ref x2), some (.int x3)]) (fun f => rfl) (ob239_1355 d k18 hk18 x0 x1 x2 x3 q48.2)
      · exact OkF.ret 2 (fun f => rfl)
    refine OkF.ite (fun _ => ?_) (fun _ => ?_)
    · refine OkF.eq 6 (Y := fun f => if inb (x3 + (1 : Int32)) (al S x0) = true then rk px kx f (d + 8) 239 894 [some (.ref x0), some (.ref x1), some (.ref x2), some (.int x3)] [.int (S.2.1 x0 (x3 + (1 : Int32)).toNatClampNeg), .ref x1] S else none) (fun f => rfl) ?_
      refine OkF.grd (fun _ => ?_)
      refine OkF.eq 5 (Y := fun f => if inb (x3 + (2 : Int32)) (al S x0) = true then rk px kx f (d + 8) 239 899 [some (.ref x0), some (.ref x1), some (.ref x2), some (.int x3)] [.int (S.2.1 x0 (x3 + (2 : Int32)).toNatClampNeg), .int (S.2.1 x0 (x3 + (1 : Int32)).toNatClampNeg), .ref x1] S else none) (fun f => rfl) ?_
      refine OkF.grd (fun _ => ?_)
      refine OkF.eq 1 (Y := fun f => if oc S x1 11 = true then (rk px kx f (d + 7) 109 0 [some (.ref x1), some (.int (S.2.1 x0 (x3 + (1 : Int32)).toNatClampNeg)), some (.int (S.2.1 x0 (x3 + (2 : Int32)).toNatClampNeg)), none, none, none, none] [] S).bind (fun q => rk px kx f (d + 8) 239 902 [some (.ref x0), some (.ref x1), some (.ref x2), some (.int x3)] (q.1.toList ++ []) q.2) else none) (fun f => rfl) ?_
      refine OkF.grd (fun _ => ?_)
      refine OkF.bind (w1 := wI) (om109 (d + 1) x1 (S.2.1 x0 (x3 + (1 : Int32)).toNatClampNeg) (S.2.1 x0 (x3 + (2 : Int32)).toNatClampNeg) S) (fun q49 => ?_)
      refine OkF.eq 6 (Y := fun f => if inb (x3 + (1 : Int32)) (al q49.2 x0) = true then rk px kx f (d + 8) 239 908 [some (.ref x0), some (.ref x1), some (.ref x2), some (.int x3)] [.int (q49.2.2.1 x0 (x3 + (1 : Int32)).toNatClampNeg), .ref x2, .int q49.1] q49.2 else none) (fun f => rfl) ?_
      refine OkF.grd (fun _ => ?_)
      refine OkF.eq 5 (Y := fun f => if inb (x3 + (2 : Int32)) (al q49.2 x0) = true then rk px kx f (d + 8) 239 913 [some (.ref x0), some (.ref x1), some (.ref x2), some (.int x3)] [.int (q49.2.2.1 x0 (x3 + (2 : Int32)).toNatClampNeg), .int (q49.2.2.1 x0 (x3 + (1 : Int32)).toNatClampNeg), .ref x2, .int q49.1] q49.2 else none) (fun f => rfl) ?_
      refine OkF.grd (fun _ => ?_)
      refine OkF.eq 1 (Y := fun f => if oc q49.2 x2 12 = true then (rk px kx f (d + 7) 213 0 [some (.ref x2), some (.int (q49.2.2.1 x0 (x3 + (1 : Int32)).toNatClampNeg)), some (.int (q49.2.2.1 x0 (x3 + (2 : Int32)).toNatClampNeg)), none, none, none] [] q49.2).bind (fun q => rk px kx f (d + 8) 239 916 [some (.ref x0), some (.ref x1), some (.ref x2), some (.int x3)] (q.1.toList ++ [.int q49.1]) q.2) else none) (fun f => rfl) ?_
      refine OkF.grd (fun _ => ?_)
      refine OkF.bind (w1 := wI) (om213 (d + 1) x2 (q49.2.2.1 x0 (x3 + (1 : Int32)).toNatClampNeg) (q49.2.2.1 x0 (x3 + (2 : Int32)).toNatClampNeg) q49.2) (fun q50 => ?_)
      refine OkF.eq 1 (Y := fun f => if q49.1 = q50.1 then rk px kx f (d + 8) 239 1355 [some (.ref x0), some (.ref x1), some (.ref x2), some (.int x3)] [] q50.2 else rk px kx f (d + 8) 239 919 [some (.ref x0), some (.ref x1), some (.ref x2), some (.int x3)] [] q50.2) (fun f => rfl) ?_
      refine OkF.ite (fun _ => ?_) (fun _ => ?_)
      · exact OkF.kl (ls1 := [some (.ref x0), some (.ref x1), some (.ref x2), some (.int x3)]) (fun f => rfl) (ob239_1355 d k18 hk18 x0 x1 x2 x3 q50.2)
      · exact OkF.ret 2 (fun f => rfl)
    refine OkF.ite (fun _ => ?_) (fun _ => ?_)
    · refine OkF.eq 6 (Y := fun f => if inb (x3 + (1 : Int32)) (al S x0) = true then rk px kx f (d + 8) 239 927 [some (.ref x0), some (.ref x1), some (.ref x2), some (.int x3)] [.int (S.2.1 x0 (x3 + (1 : Int32)).toNatClampNeg), .ref x1] S else none) (fun f => rfl) ?_
      refine OkF.grd (fun _ => ?_)
      refine OkF.eq 5 (Y := fun f => if inb (x3 + (2 : Int32)) (al S x0) = true then rk px kx f (d + 8) 239 932 [some (.ref x0), some (.ref x1), some (.ref x2), some (.int x3)] [.int (S.2.1 x0 (x3 + (2 : Int32)).toNatClampNeg), .int (S.2.1 x0 (x3 + (1 : Int32)).toNatClampNeg), .ref x1] S else none) (fun f => rfl) ?_
      refine OkF.grd (fun _ => ?_)
      refine OkF.eq 1 (Y := fun f => if oc S x1 11 = true then (rk px kx f (d + 7) 112 0 [some (.ref x1), some (.int (S.2.1 x0 (x3 + (1 : Int32)).toNatClampNeg)), some (.int (S.2.1 x0 (x3 + (2 : Int32)).toNatClampNeg)), none, none, none, none] [] S).bind (fun q => rk px kx f (d + 8) 239 935 [some (.ref x0), some (.ref x1), some (.ref x2), some (.int x3)] (q.1.toList ++ []) q.2) else none) (fun f => rfl) ?_
      refine OkF.grd (fun _ => ?_)
      refine OkF.bind (w1 := wI) (om112 (d + 1) x1 (S.2.1 x0 (x3 + (1 : Int32)).toNatClampNeg) (S.2.1 x0 (x3 + (2 : Int32)).toNatClampNeg) S) (fun q51 => ?_)
      refine OkF.eq 6 (Y := fun f => if inb (x3 + (1 : Int32)) (al q51.2 x0) = true then rk px kx f (d + 8) 239 941 [some (.ref x0), some (.ref x1), some (.ref x2), some (.int x3)] [.int (q51.2.2.1 x0 (x3 + (1 : Int32)).toNatClampNeg), .ref x2, .int q51.1] q51.2 else none) (fun f => rfl) ?_
      refine OkF.grd (fun _ => ?_)
      refine OkF.eq 5 (Y := fun f => if inb (x3 + (2 : Int32)) (al q51.2 x0) = true then rk px kx f (d + 8) 239 946 [some (.ref x0), some (.ref x1), some (.ref x2), some (.int x3)] [.int (q51.2.2.1 x0 (x3 + (2 : Int32)).toNatClampNeg), .int (q51.2.2.1 x0 (x3 + (1 : Int32)).toNatClampNeg), .ref x2, .int q51.1] q51.2 else none) (fun f => rfl) ?_
      refine OkF.grd (fun _ => ?_)
      refine OkF.eq 1 (Y := fun f => if oc q51.2 x2 12 = true then (rk px kx f (d + 7) 215 0 [some (.ref x2), some (.int (q51.2.2.1 x0 (x3 + (1 : Int32)).toNatClampNeg)), some (.int (q51.2.2.1 x0 (x3 + (2 : Int32)).toNatClampNeg)), none, none, none] [] q51.2).bind (fun q => rk px kx f (d + 8) 239 949 [some (.ref x0), some (.ref x1), some (.ref x2), some (.int x3)] (q.1.toList ++ [.int q51.1]) q.2) else none) (fun f => rfl) ?_
      refine OkF.grd (fun _ => ?_)
      refine OkF.bind (w1 := wI) (om215 (d + 1) x2 (q51.2.2.1 x0 (x3 + (1 : Int32)).toNatClampNeg) (q51.2.2.1 x0 (x3 + (2 : Int32)).toNatClampNeg) q51.2) (fun q52 => ?_)
      refine OkF.eq 1 (Y := fun f => if q51.1 = q52.1 then rk px kx f (d + 8) 239 1355 [some (.ref x0), some (.ref x1), some (.ref x2), some (.int x3)] [] q52.2 else rk px kx f (d + 8) 239 952 [some (.ref x0), some (.ref x1), some (.ref x2), some (.int x3)] [] q52.2) (fun f => rfl) ?_
      refine OkF.ite (fun _ => ?_) (fun _ => ?_)
      · exact OkF.kl (ls1 := [some (.ref x0), some (.ref x1), some (.ref x2), some (.int x3)]) (fun f => rfl) (ob239_1355 d k18 hk18 x0 x1 x2 x3 q52.2)
      · exact OkF.ret 2 (fun f => rfl)
    refine OkF.ite (fun _ => ?_) (fun _ => ?_)
    · refine OkF.eq 6 (Y := fun f => if inb (x3 + (1 : Int32)) (al S x0) = true then rk px kx f (d + 8) 239 960 [some (.ref x0), some (.ref x1), some (.ref x2), some (.int x3)] [.int (S.2.1 x0 (x3 + (1 : Int32)).toNatClampNeg), .ref x1] S else none) (fun f => rfl) ?_
      refine OkF.grd (fun _ => ?_)
      refine OkF.eq 5 (Y := fun f => if inb (x3 + (2 : Int32)) (al S x0) = true then rk px kx f (d + 8) 239 965 [some (.ref x0), some (.ref x1), some (.ref x2), some (.int x3)] [.int (S.2.1 x0 (x3 + (2 : Int32)).toNatClampNeg), .int (S.2.1 x0 (x3 + (1 : Int32)).toNatClampNeg), .ref x1] S else none) (fun f => rfl) ?_
      refine OkF.grd (fun _ => ?_)
      refine OkF.eq 1 (Y := fun f => if oc S x1 11 = true then (rk px kx f (d + 7) 113 0 [some (.ref x1), some (.int (S.2.1 x0 (x3 + (1 : Int32)).toNatClampNeg)), some (.int (S.2.1 x0 (x3 + (2 : Int32)).toNatClampNeg)), none, none] [] S).bind (fun q => rk px kx f (d + 8) 239 968 [some (.ref x0), some (.ref x1), some (.ref x2), some (.int x3)] (q.1.toList ++ []) q.2) else none) (fun f => rfl) ?_
      refine OkF.grd (fun _ => ?_)
      refine OkF.bind (w1 := wI) (om113 (d + 1) x1 (S.2.1 x0 (x3 + (1 : Int32)).toNatClampNeg) (S.2.1 x0 (x3 + (2 : Int32)).toNatClampNeg) S) (fun q53 => ?_)
      refine OkF.eq 6 (Y := fun f => if inb (x3 + (1 : Int32)) (al q53.2 x0) = true then rk px kx f (d + 8) 239 974 [some (.ref x0), some (.ref x1), some (.ref x2), some (.int x3)] [.int (q53.2.2.1 x0 (x3 + (1 : Int32)).toNatClampNeg), .ref x2, .int q53.1] q53.2 else none) (fun f => rfl) ?_
      refine OkF.grd (fun _ => ?_)
      refine OkF.eq 5 (Y := fun f => if inb (x3 + (2 : Int32)) (al q53.2 x0) = true then rk px kx f (d + 8) 239 979 [some (.ref x0), some (.ref x1), some (.ref x2), some (.int x3)] [.int (q53.2.2.1 x0 (x3 + (2 : Int32)).toNatClampNeg), .int (q53.2.2.1 x0 (x3 + (1 : Int32)).toNatClampNeg), .ref x2, .int q53.1] q53.2 else none) (fun f => rfl) ?_
      refine OkF.grd (fun _ => ?_)
      refine OkF.eq 1 (Y := fun f => if oc q53.2 x2 12 = true then (rk px kx f (d + 7) 216 0 [some (.ref x2), some (.int (q53.2.2.1 x0 (x3 + (1 : Int32)).toNatClampNeg)), some (.int (q53.2.2.1 x0 (x3 + (2 : Int32)).toNatClampNeg))] [] q53.2).bind (fun q => rk px kx f (d + 8) 239 982 [some (.ref x0), some (.ref x1), some (.ref x2), some (.int x3)] (q.1.toList ++ [.int q53.1]) q.2) else none) (fun f => rfl) ?_
      refine OkF.grd (fun _ => ?_)
      refine OkF.bind (w1 := wI) (om216 (d + 1) x2 (q53.2.2.1 x0 (x3 + (1 : Int32)).toNatClampNeg) (q53.2.2.1 x0 (x3 + (2 : Int32)).toNatClampNeg) q53.2) (fun q54 => ?_)
      refine OkF.eq 1 (Y := fun f => if q53.1 = q54.1 then rk px kx f (d + 8) 239 1355 [some (.ref x0), some (.ref x1), some (.ref x2), some (.int x3)] [] q54.2 else rk px kx f (d + 8) 239 985 [some (.ref x0), some (.ref x1), some (.ref x2), some (.int x3)] [] q54.2) (fun f => rfl) ?_
      refine OkF.ite (fun _ => ?_) (fun _ => ?_)
      · exact OkF.kl (ls1 := [some (.ref x0), some (.ref x1), some (.ref x2), some (.int x3)]) (fun f => rfl) (ob239_1355 d k18 hk18 x0 x1 x2 x3 q54.2)
      · exact OkF.ret 2 (fun f => rfl)
    refine OkF.ite (fun _ => ?_) (fun _ => ?_)
    · refine OkF.eq 6 (Y := fun f => if inb (x3 + (1 : Int32)) (al S x0) = true then rk px kx f (d + 8) 239 993 [some (.ref x0), some (.ref x1), some (.ref x2), some (.int x3)] [.int (S.2.1 x0 (x3 + (1 : Int32)).toNatClampNeg), .ref x1] S else none) (fun f => rfl) ?_
      refine OkF.grd (fun _ => ?_)
      refine OkF.eq 5 (Y := fun f => if inb (x3 + (2 : Int32)) (al S x0) = true then rk px kx f (d + 8) 239 998 [some (.ref x0), some (.ref x1), some (.ref x2), some (.int x3)] [.int (S.2.1 x0 (x3 + (2 : Int32)).toNatClampNeg), .int (S.2.1 x0 (x3 + (1 : Int32)).toNatClampNeg), .ref x1] S else none) (fun f => rfl) ?_
      refine OkF.grd (fun _ => ?_)
      refine OkF.eq 1 (Y := fun f => if oc S x1 11 = true then (rk px kx f (d + 7) 114 0 [some (.ref x1), some (.int (S.2.1 x0 (x3 + (1 : Int32)).toNatClampNeg)), some (.int (S.2.1 x0 (x3 + (2 : Int32)).toNatClampNeg)), none, none, none, none] [] S).bind (fun q => rk px kx f (d + 8) 239 1001 [some (.ref x0), some (.ref x1), some (.ref x2), some (.int x3)] (q.1.toList ++ []) q.2) else none) (fun f => rfl) ?_
      refine OkF.grd (fun _ => ?_)
      refine OkF.bind (w1 := wI) (om114 (d + 4) x1 (S.2.1 x0 (x3 + (1 : Int32)).toNatClampNeg) (S.2.1 x0 (x3 + (2 : Int32)).toNatClampNeg) S) (fun q55 => ?_)
      refine OkF.eq 6 (Y := fun f => if inb (x3 + (1 : Int32)) (al q55.2 x0) = true then rk px kx f (d + 8) 239 1007 [some (.ref x0), some (.ref x1), some (.ref x2), some (.int x3)] [.int (q55.2.2.1 x0 (x3 + (1 : Int32)).toNatClampNeg), .ref x2, .int q55.1] q55.2 else none) (fun f => rfl) ?_
      refine OkF.grd (fun _ => ?_)
      refine OkF.eq 5 (Y := fun f => if inb (x3 + (2 : Int32)) (al q55.2 x0) = true then rk px kx f (d + 8) 239 1012 [some (.ref x0), some (.ref x1), some (.ref x2), some (.int x3)] [.int (q55.2.2.1 x0 (x3 + (2 : Int32)).toNatClampNeg), .int (q55.2.2.1 x0 (x3 + (1 : Int32)).toNatClampNeg), .ref x2, .int q55.1] q55.2 else none) (fun f => rfl) ?_
      refine OkF.grd (fun _ => ?_)
      refine OkF.eq 1 (Y := fun f => if oc q55.2 x2 12 = true then (rk px kx f (d + 7) 217 0 [some (.ref x2), some (.int (q55.2.2.1 x0 (x3 + (1 : Int32)).toNatClampNeg)), some (.int (q55.2.2.1 x0 (x3 + (2 : Int32)).toNatClampNeg)), none, none, none, none] [] q55.2).bind (fun q => rk px kx f (d + 8) 239 1015 [some (.ref x0), some (.ref x1), some (.ref x2), some (.int x3)] (q.1.toList ++ [.int q55.1]) q.2) else none) (fun f => rfl) ?_
      refine OkF.grd (fun _ => ?_)
      refine OkF.bind (w1 := wI) (om217 (d + 4) x2 (q55.2.2.1 x0 (x3 + (1 : Int32)).toNatClampNeg) (q55.2.2.1 x0 (x3 + (2 : Int32)).toNatClampNeg) q55.2) (fun q56 => ?_)
      refine OkF.eq 1 (Y := fun f => if q55.1 = q56.1 then rk px kx f (d + 8) 239 1355 [some (.ref x0), some (.ref x1), some (.ref x2), some (.int x3)] [] q56.2 else rk px kx f (d + 8) 239 1018 [some (.ref x0), some (.ref x1), some (.ref x2), some (.int x3)] [] q56.2) (fun f => rfl) ?_
      refine OkF.ite (fun _ => ?_) (fun _ => ?_)
      · exact OkF.kl (ls1 := [some (.ref x0), some (.ref x1), some (.ref x2), some (.int x3)]) (fun f => rfl) (ob239_1355 d k18 hk18 x0 x1 x2 x3 q56.2)
      · exact OkF.ret 2 (fun f => rfl)
    refine OkF.ite (fun _ => ?_) (fun _ => ?_)
    · refine OkF.eq 6 (Y := fun f => if inb (x3 + (1 : Int32)) (al S x0) = true then rk px kx f (d + 8) 239 1026 [some (.ref x0), some (.ref x1), some (.ref x2), some (.int x3)] [.int (S.2.1 x0 (x3 + (1 : Int32)).toNatClampNeg), .ref x1] S else none) (fun f => rfl) ?_
      refine OkF.grd (fun _ => ?_)
      refine OkF.eq 5 (Y := fun f => if inb (x3 + (2 : Int32)) (al S x0) = true then rk px kx f (d + 8) 239 1031 [some (.ref x0), some (.ref x1), some (.ref x2), some (.int x3)] [.int (S.2.1 x0 (x3 + (2 : Int32)).toNatClampNeg), .int (S.2.1 x0 (x3 + (1 : Int32)).toNatClampNeg), .ref x1] S else none) (fun f => rfl) ?_
      refine OkF.grd (fun _ => ?_)
      refine OkF.eq 1 (Y := fun f => if oc S x1 11 = true then (rk px kx f (d + 7) 117 0 [some (.ref x1), some (.int (S.2.1 x0 (x3 + (1 : Int32)).toNatClampNeg)), some (.int (S.2.1 x0 (x3 + (2 : Int32)).toNatClampNeg)), none, none, none] [] S).bind (fun q => rk px kx f (d + 8) 239 1034 [some (.ref x0), some (.ref x1), some (.ref x2), some (.int x3)] (q.1.toList ++ []) q.2) else none) (fun f => rfl) ?_
      refine OkF.grd (fun _ => ?_)
      refine OkF.bind (w1 := wI) (om117 (d + 4) x1 (S.2.1 x0 (x3 + (1 : Int32)).toNatClampNeg) (S.2.1 x0 (x3 + (2 : Int32)).toNatClampNeg) S) (fun q57 => ?_)
      refine OkF.eq 6 (Y := fun f => if inb (x3 + (1 : Int32)) (al q57.2 x0) = true then rk px kx f (d + 8) 239 1040 [some (.ref x0), some (.ref x1), some (.ref x2), some (.int x3)] [.int (q57.2.2.1 x0 (x3 + (1 : Int32)).toNatClampNeg), .ref x2, .int q57.1] q57.2 else none) (fun f => rfl) ?_
      refine OkF.grd (fun _ => ?_)
      refine OkF.eq 5 (Y := fun f => if inb (x3 + (2 : Int32)) (al q57.2 x0) = true then rk px kx f (d + 8) 239 1045 [some (.ref x0), some (.ref x1), some (.ref x2), some (.int x3)] [.int (q57.2.2.1 x0 (x3 + (2 : Int32)).toNatClampNeg), .int (q57.2.2.1 x0 (x3 + (1 : Int32)).toNatClampNeg), .ref x2, .int q57.1] q57.2 else none) (fun f => rfl) ?_
      refine OkF.grd (fun _ => ?_)
      refine OkF.eq 1 (Y := fun f => if oc q57.2 x2 12 = true then (rk px kx f (d + 7) 220 0 [some (.ref x2), some (.int (q57.2.2.1 x0 (x3 + (1 : Int32)).toNatClampNeg)), some (.int (q57.2.2.1 x0 (x3 + (2 : Int32)).toNatClampNeg)), none, none, none] [] q57.2).bind (fun q => rk px kx f (d + 8) 239 1048 [some (.ref x0), some (.ref x1), some (.ref x2), some (.int x3)] (q.1.toList ++ [.int q57.1]) q.2) else none) (fun f => rfl) ?_
      refine OkF.grd (fun _ => ?_)
      refine OkF.bind (w1 := wI) (om220 (d + 4) x2 (q57.2.2.1 x0 (x3 + (1 : Int32)).toNatClampNeg) (q57.2.2.1 x0 (x3 + (2 : Int32)).toNatClampNeg) q57.2) (fun q58 => ?_)
      refine OkF.eq 1 (Y := fun f => if q57.1 = q58.1 then rk px kx f (d + 8) 239 1355 [some (.ref x0), some (.ref x1), some (.ref x2), some (.int x3)] [] q58.2 else rk px kx f (d + 8) 239 1051 [some (.ref x0), some (.ref x1), some (.ref x2), some (.int x3)] [] q58.2) (fun f => rfl) ?_
      refine OkF.ite (fun _ => ?_) (fun _ => ?_)
      · exact OkF.kl (ls1 := [some (.ref x0), some (.ref x1), some (.ref x2), some (.int x3)]) (fun f => rfl) (ob239_1355 d k18 hk18 x0 x1 x2 x3 q58.2)
      · exact OkF.ret 2 (fun f => rfl)
    refine OkF.ite (fun _ => ?_) (fun _ => ?_)
    · refine OkF.eq 6 (Y := fun f => if inb (x3 + (1 : Int32)) (al S x0) = true then rk px kx f (d + 8) 239 1059 [some (.ref x0), some (.ref x1), some (.ref x2), some (.int x3)] [.int (S.2.1 x0 (x3 + (1 : Int32)).toNatClampNeg), .ref x1] S else none) (fun f => rfl) ?_
      refine OkF.grd (fun _ => ?_)
      refine OkF.eq 1 (Y := fun f => if oc S x1 11 = true then (rk px kx f (d + 7) 118 0 [some (.ref x1), some (.int (S.2.1 x0 (x3 + (1 : Int32)).toNatClampNeg)), none, none, none] [] S).bind (fun q => rk px kx f (d + 8) 239 1062 [some (.ref x0), some (.ref x1), some (.ref x2), some (.int x3)] (q.1.toList ++ []) q.2) else none) (fun f => rfl) ?_
      refine OkF.grd (fun _ => ?_)
      refine OkF.bind (w1 := wI) (om118 (d + 3) x1 (S.2.1 x0 (x3 + (1 : Int32)).toNatClampNeg) S) (fun q59 => ?_)
      refine OkF.eq 6 (Y := fun f => if inb (x3 + (1 : Int32)) (al q59.2 x0) = true then rk px kx f (d + 8) 239 1068 [some (.ref x0), some (.ref x1), some (.ref x2), some (.int x3)] [.int (q59.2.2.1 x0 (x3 + (1 : Int32)).toNatClampNeg), .ref x2, .int q59.1] q59.2 else none) (fun f => rfl) ?_
      refine OkF.grd (fun _ => ?_)
      refine OkF.eq 1 (Y := fun f => if oc q59.2 x2 12 = true then (rk px kx f (d + 7) 221 0 [some (.ref x2), some (.int (q59.2.2.1 x0 (x3 + (1 : Int32)).toNatClampNeg)), none, none, none, none, none] [] q59.2).bind (fun q => rk px kx f (d + 8) 239 1071 [some (.ref x0), some (.ref x1), some (.ref x2), some (.int x3)] (q.1.toList ++ [.int q59.1]) q.2) else none) (fun f => rfl) ?_
      refine OkF.grd (fun _ => ?_)
      refine OkF.bind (w1 := wI) (om221 (d + 3) x2 (q59.2.2.1 x0 (x3 + (1 : Int32)).toNatClampNeg) q59.2) (fun q60 => ?_)
      refine OkF.eq 1 (Y := fun f => if q59.1 = q60.1 then rk px kx f (d + 8) 239 1355 [some (.ref x0), some (.ref x1), some (.ref x2), some (.int x3)] [] q60.2 else rk px kx f (d + 8) 239 1074 [some (.ref x0), some (.ref x1), some (.ref x2), some (.int x3)] [] q60.2) (fun f => rfl) ?_
      refine OkF.ite (fun _ => ?_) (fun _ => ?_)
      · exact OkF.kl (ls1 := [some (.ref x0), some (.ref x1), some (.ref x2), some (.int x3)]) (fun f => rfl) (ob239_1355 d k18 hk18 x0 x1 x2 x3 q60.2)
      · exact OkF.ret 2 (fun f => rfl)
    refine OkF.ite (fun _ => ?_) (fun _ => ?_)
    · refine OkF.eq 2 (Y := fun f => if oc S x1 11 = true then (rk px kx f (d + 7) 120 0 [some (.ref x1), none, none, none, none] [] S).bind (fun q => rk px kx f (d + 8) 239 1080 [some (.ref x0), some (.ref x1), some (.ref x2), some (.int x3)] (q.1.toList ++ []) q.2) else none) (fun f => rfl) ?_
      refine OkF.grd (fun _ => ?_)
      refine OkF.bind (w1 := wI) (om120 (d + 3) x1 S) (fun q61 => ?_)
      refine OkF.eq 2 (Y := fun f => if oc q61.2 x2 12 = true then (rk px kx f (d + 7) 223 0 [some (.ref x2), none, none, none, none, none] [] q61.2).bind (fun q => rk px kx f (d + 8) 239 1084 [some (.ref x0), some (.ref x1), some (.ref x2), some (.int x3)] (q.1.toList ++ [.int q61.1]) q.2) else none) (fun f => rfl) ?_
      refine OkF.grd (fun _ => ?_)
      refine OkF.bind (w1 := wI) (om223 (d + 4) x2 q61.2) (fun q62 => ?_)
      refine OkF.eq 1 (Y := fun f => if q61.1 = q62.1 then rk px kx f (d + 8) 239 1355 [some (.ref x0), some (.ref x1), some (.ref x2), some (.int x3)] [] q62.2 else rk px kx f (d + 8) 239 1087 [some (.ref x0), some (.ref x1), some (.ref x2), some (.int x3)] [] q62.2) (fun f => rfl) ?_
      refine OkF.ite (fun _ => ?_) (fun _ => ?_)
      · exact OkF.kl (ls1 := [some (.ref x0), some (.ref x1), some (.ref x2), some (.int x3)]) (fun f => rfl) (ob239_1355 d k18 hk18 x0 x1 x2 x3 q62.2)
      · exact OkF.ret 2 (fun f => rfl)
    refine OkF.ite (fun _ => ?_) (fun _ => ?_)
    · refine OkF.eq 6 (Y := fun f => if inb (x3 + (1 : Int32)) (al S x0) = true then rk px kx f (d + 8) 239 1095 [some (.ref x0), some (.ref x1), some (.ref x2), some (.int x3)] [.int (S.2.1 x0 (x3 + (1 : Int32)).toNatClampNeg), .ref x1] S else none) (fun f => rfl) ?_
      refine OkF.grd (fun _ => ?_)
      refine OkF.eq 5 (Y := fun f => if inb (x3 + (2 : Int32)) (al S x0) = true then rk px kx f (d + 8) 239 1100 [some (.ref x0), some (.ref x1), some (.ref x2), some (.int x3)] [.int (S.2.1 x0 (x3 + (2 : Int32)).toNatClampNeg), .int (S.2.1 x0 (x3 + (1 : Int32)).toNatClampNeg), .ref x1] S else none) (fun f => rfl) ?_
      refine OkF.grd (fun _ => ?_)
      refine OkF.eq 5 (Y := fun f => if inb (x3 + (3 : Int32)) (al S x0) = true then rk px kx f (d + 8) 239 1105 [some (.ref x0), some (.ref x1), some (.ref x2), some (.int x3)] [.int (S.2.1 x0 (x3 + (3 : Int32)).toNatClampNeg), .int (S.2.1 x0 (x3 + (2 : Int32)).toNatClampNeg), .int (S.2.1 x0 (x3 + (1 : Int32)).toNatClampNeg), .ref x1] S else none) (fun f => rfl) ?_
      refine OkF.grd (fun _ => ?_)
      refine OkF.eq 1 (Y := fun f => if oc S x1 11 = true then (rk px kx f (d + 7) 122 0 [some (.ref x1), some (.int (S.2.1 x0 (x3 + (1 : Int32)).toNatClampNeg)), some (.int (S.2.1 x0 (x3 + (2 : Int32)).toNatClampNeg)), some (.int (S.2.1 x0 (x3 + (3 : Int32)).toNatClampNeg))] [] S).bind (fun q => rk px kx f (d + 8) 239 1108 [some (.ref x0), some (.ref x1), some (.ref x2), some (.int x3)] (q.1.toList ++ []) q.2) else none) (fun f => rfl) ?_
      refine OkF.grd (fun _ => ?_)
      refine OkF.bind (w1 := wI) (om122 (d + 2) x1 (S.2.1 x0 (x3 + (1 : Int32)).toNatClampNeg) (S.2.1 x0 (x3 + (2 : Int32)).toNatClampNeg) (S.2.1 x0 (x3 + (3 : Int32)).toNatClampNeg) S) (fun q63 => ?_)
      refine OkF.eq 6 (Y := fun f => if inb (x3 + (1 : Int32)) (al q63.2 x0) = true then rk px kx f (d + 8) 239 1114 [some (.ref x0), some (.ref x1), some (.ref x2), some (.int x3)] [.int (q63.2.2.1 x0 (x3 + (1 : Int32)).toNatClampNeg), .ref x2, .int q63.1] q63.2 else none) (fun f => rfl) ?_
      refine OkF.grd (fun _ => ?_)
      refine OkF.eq 5 (Y := fun f => if inb (x3 + (2 : Int32)) (al q63.2 x0) = true then rk px kx f (d + 8) 239 1119 [some (.ref x0), some (.ref x1), some (.ref x2), some (.int x3)] [.int (q63.2.2.1 x0 (x3 + (2 : Int32)).toNatClampNeg), .int (q63.2.2.1 x0 (x3 + (1 : Int32)).toNatClampNeg), .ref x2, .int q63.1] q63.2 else none) (fun f => rfl) ?_
      refine OkF.grd (fun _ => ?_)
      refine OkF.eq 5 (Y := fun f => if inb (x3 + (3 : Int32)) (al q63.2 x0) = true then rk px kx f (d + 8) 239 1124 [some (.ref x0), some (.ref x1), some (.ref x2), some (.int x3)] [.int (q63.2.2.1 x0 (x3 + (3 : Int32)).toNatClampNeg), .int (q63.2.2.1 x0 (x3 + (2 : Int32)).toNatClampNeg), .int (q63.2.2.1 x0 (x3 + (1 : Int32)).toNatClampNeg), .ref x2, .int q63.1] q63.2 else none) (fun f => rfl) ?_
      refine OkF.grd (fun _ => ?_)
      refine OkF.eq 1 (Y := fun f => if oc q63.2 x2 12 = true then (rk px kx f (d + 7) 224 0 [some (.ref x2), some (.int (q63.2.2.1 x0 (x3 + (1 : Int32)).toNatClampNeg)), some (.int (q63.2.2.1 x0 (x3 + (2 : Int32)).toNatClampNeg)), some (.int (q63.2.2.1 x0 (x3 + (3 : Int32)).toNatClampNeg)), none, none, none] [] q63.2).bind (fun q => rk px kx f (d + 8) 239 1127 [some (.ref x0), some (.ref x1), some (.ref x2), some (.int x3)] (q.1.toList ++ [.int q63.1]) q.2) else none) (fun f => rfl) ?_
      refine OkF.grd (fun _ => ?_)
      refine OkF.bind (w1 := wI) (om224 (d + 3) x2 (q63.2.2.1 x0 (x3 + (1 : Int32)).toNatClampNeg) (q63.2.2.1 x0 (x3 + (2 : Int32)).toNatClampNeg) (q63.2.2.1 x0 (x3 + (3 : Int32)).toNatClampNeg) q63.2) (fun q64 => ?_)
      refine OkF.eq 1 (Y := fun f => if q63.1 = q64.1 then rk px kx f (d + 8) 239 1355 [some (.ref x0), some (.ref x1), some (.ref x2), some (.int x3)] [] q64.2 else rk px kx f (d + 8) 239 1130 [some (.ref x0), some (.ref x1), some (.ref x2), some (.int x3)] [] q64.2) (fun f => rfl) ?_
      refine OkF.ite (fun _ => ?_) (fun _ => ?_)
      · exact OkF.kl (ls1 := [some (.ref x0), some (.ref x1), some (.ref x2), some (.int x3)]) (fun f => rfl) (ob239_1355 d k18 hk18 x0 x1 x2 x3 q64.2)
      · exact OkF.ret 2 (fun f => rfl)
    refine OkF.ite (fun _ => ?_) (fun _ => ?_)
    · refine OkF.eq 6 (Y := fun f => if inb (x3 + (1 : Int32)) (al S x0) = true then rk px kx f (d + 8) 239 1138 [some (.ref x0), some (.ref x1), some (.ref x2), some (.int x3)] [.int (S.2.1 x0 (x3 + (1 : Int32)).toNatClampNeg), .ref x1] S else none) (fun f => rfl) ?_
      refine OkF.grd (fun _ => ?_)
      refine OkF.eq 5 (Y := fun f => if inb (x3 + (2 : Int32)) (al S x0) = true then rk px kx f (d + 8) 239 1143 [some (.ref x0), some (.ref x1), some (.ref x2), some (.int x3)] [.int (S.2.1 x0 (x3 + (2 : Int32)).toNatClampNeg), .int (S.2.1 x0 (x3 + (1 : Int32)).toNatClampNeg), .ref x1] S else none) (fun f => rfl) ?_
      refine OkF.grd (fun _ => ?_)
      refine OkF.eq 5 (Y := fun f => if inb (x3 + (3 : Int32)) (al S x0) = true then rk px kx f (d + 8) 239 1148 [some (.ref x0), some (.ref x1), some (.ref x2), some (.int x3)] [.int (S.2.1 x0 (x3 + (3 : Int32)).toNatClampNeg), .int (S.2.1 x0 (x3 + (2 : Int32)).toNatClampNeg), .int (S.2.1 x0 (x3 + (1 : Int32)).toNatClampNeg), .ref x1] S else none) (fun f => rfl) ?_
      refine OkF.grd (fun _ => ?_)
      refine OkF.eq 1 (Y := fun f => if oc S x1 11 = true then (rk px kx f (d + 7) 128 0 [some (.ref x1), some (.int (S.2.1 x0 (x3 + (1 : Int32)).toNatClampNeg)), some (.int (S.2.1 x0 (x3 + (2 : Int32)).toNatClampNeg)), some (.int (S.2.1 x0 (x3 + (3 : Int32)).toNatClampNeg)), none, none, none] [] S).bind (fun q => rk px kx f (d + 8) 239 1151 [some (.ref x0), some (.ref x1), some (.ref x2), some (.int x3)] (q.1.toList ++ []) q.2) else none) (fun f => rfl) ?_
      refine OkF.grd (fun _ => ?_)
      refine OkF.bind (w1 := wI) (om128 (d + 1) x1 (S.2.1 x0 (x3 + (1 : Int32)).toNatClampNeg) (S.2.1 x0 (x3 + (2 : Int32)).toNatClampNeg) (S.2.1 x0 (x3 + (3 : Int32)).toNatClampNeg) S) (fun q65 => ?_)
      refine OkF.eq 6 (Y := fun f => if inb (x3 + (1 : Int32)) (al q65.2 x0) = true then rk px kx f (d + 8) 239 1157 [some (.ref x0), some (.ref x1), some (.ref x2), some (.int x3)] [.int (q65.2.2.1 x0 (x3 + (1 : Int32)).toNatClampNeg), .ref x2, .int q65.1] q65.2 else none) (fun f => rfl) ?_
      refine OkF.grd (fun _ => ?_)
      refine OkF.eq 5 (Y := fun f => if inb (x3 + (2 : Int32)) (al q65.2 x0) = true then rk px kx f (d + 8) 239 1162 [some (.ref x0), some (.ref x1), some (.ref x2), some (.int x3)] [.int (q65.2.2.1 x0 (x3 + (2 : Int32)).toNatClampNeg), .int (q65.2.2.1 x0 (x3 + (1 : Int32)).toNatClampNeg), .ref x2, .int q65.1] q65.2 else none) (fun f => rfl) ?_
      refine OkF.grd (fun _ => ?_)
      refine OkF.eq 5 (Y := fun f => if inb (x3 + (3 : Int32)) (al q65.2 x0) = true then rk px kx f (d + 8) 239 1167 [some (.ref x0), some (.ref x1), some (.ref x2), some (.int x3)] [.int (q65.2.2.1 x0 (x3 + (3 : Int32)).toNatClampNeg), .int (q65.2.2.1 x0 (x3 + (2 : Int32)).toNatClampNeg), .int (q65.2.2.1 x0 (x3 + (1 : Int32)).toNatClampNeg), .ref x2, .int q65.1] q65.2 else none) (fun f => rfl) ?_
      refine OkF.grd (fun _ => ?_)
      refine OkF.eq 1 (Y := fun f => if oc q65.2 x2 12 = true then (rk px kx f (d + 7) 226 0 [some (.ref x2), some (.int (q65.2.2.1 x0 (x3 + (1 : Int32)).toNatClampNeg)), some (.int (q65.2.2.1 x0 (x3 + (2 : Int32)).toNatClampNeg)), some (.int (q65.2.2.1 x0 (x3 + (3 : Int32)).toNatClampNeg))] [] q65.2).bind (fun q => rk px kx f (d + 8) 239 1170 [some (.ref x0), some (.ref x1), some (.ref x2), some (.int x3)] (q.1.toList ++ [.int q65.1]) q.2) else none) (fun f => rfl) ?_
      refine OkF.grd (fun _ => ?_)
      refine OkF.bind (w1 := wI) (om226 (d + 0) x2 (q65.2.2.1 x0 (x3 + (1 : Int32)).toNatClampNeg) (q65.2.2.1 x0 (x3 + (2 : Int32)).toNatClampNeg) (q65.2.2.1 x0 (x3 + (3 : Int32)).toNatClampNeg) q65.2) (fun q66 => ?_)
      refine OkF.eq 1 (Y := fun f => if q65.1 = q66.1 then rk px kx f (d + 8) 239 1355 [some (.ref x0), some (.ref x1), some (.ref x2), some (.int x3)] [] q66.2 else rk px kx f (d + 8) 239 1173 [some (.ref x0), some (.ref x1), some (.ref x2), some (.int x3)] [] q66.2) (fun f => rfl) ?_
      refine OkF.ite (fun _ => ?_) (fun _ => ?_)
      · exact OkF.kl (ls1 := [some (.ref x0), some (.ref x1), some (.ref x2), some (.int x3)]) (fun f => rfl) (ob239_1355 d k18 hk18 x0 x1 x2 x3 q66.2)
      · exact OkF.ret 2 (fun f => rfl)
    refine OkF.ite (fun _ => ?_) (fun _ => ?_)
    · refine OkF.eq 6 (Y := fun f => if inb (x3 + (1 : Int32)) (al S x0) = true then rk px kx f (d + 8) 239 1181 [some (.ref x0), some (.ref x1), some (.ref x2), some (.int x3)] [.int (S.2.1 x0 (x3 + (1 : Int32)).toNatClampNeg), .ref x1] S else none) (fun f => rfl) ?_
      refine OkF.grd (fun _ => ?_)
      refine OkF.eq 5 (Y := fun f => if inb (x3 + (2 : Int32)) (al S x0) = true then rk px kx f (d + 8) 239 1186 [some (.ref x0), some (.ref x1), some (.ref x2), some (.int x3)] [.int (S.2.1 x0 (x3 + (2 : Int32)).toNatClampNeg), .int (S.2.1 x0 (x3 + (1 : Int32)).toNatClampNeg), .ref x1] S else none) (fun f => rfl) ?_
      refine OkF.grd (fun _ => ?_)
      refine OkF.eq 1 (Y := fun f => if oc S x1 11 = true then (rk px kx f (d + 7) 133 0 [some (.ref x1), some (.int (S.2.1 x0 (x3 + (1 : Int32)).toNatClampNeg)), some (.int (S.2.1 x0 (x3 + (2 : Int32)).toNatClampNeg)), none, none, none] [] S).bind (fun q => rk px kx f (d + 8) 239 1189 [some (.ref x0), some (.ref x1), some (.ref x2), some (.int x3)] (q.1.toList ++ []) q.2) else none) (fun f => rfl) ?_
      refine OkF.grd (fun _ => ?_)
      refine OkF.bind (w1 := wI) (om133 (d + 1) x1 (S.2.1 x0 (x3 + (1 : Int32)).toNatClampNeg) (S.2.1 x0 (x3 + (2 : Int32)).toNatClampNeg) S) (fun q67 => ?_)
      refine OkF.eq 6 (Y := fun f => if inb (x3 + (1 : Int32)) (al q67.2 x0) = true then rk px kx f (d + 8) 239 1195 [some (.ref x0), some (.ref x1), some (.ref x2), some (.int x3)] [.int (q67.2.2.1 x0 (x3 + (1 : Int32)).toNatClampNeg), .ref x2, .int q67.1] q67.2 else none) (fun f => rfl) ?_
      refine OkF.grd (fun _ => ?_)
      refine OkF.eq 5 (Y := fun f => if inb (x3 + (2 : Int32)) (al q67.2 x0) = true then rk px kx f (d + 8) 239 1200 [some (.ref x0), some (.ref x1), some (.ref x2), some (.int x3)] [.int (q67.2.2.1 x0 (x3 + (2 : Int32)).toNatClampNeg), .int (q67.2.2.1 x0 (x3 + (1 : Int32)).toNatClampNeg), .ref x2, .int q67.1] q67.2 else none) (fun f => rfl) ?_
      refine OkF.grd (fun _ => ?_)
      refine OkF.eq 1 (Y := fun f => if oc q67.2 x2 12 = true then (rk px kx f (d + 7) 229 0 [some (.ref x2), some (.int (q67.2.2.1 x0 (x3 + (1 : Int32)).toNatClampNeg)), some (.int (q67.2.2.1 x0 (x3 + (2 : Int32)).toNatClampNeg))] [] q67.2).bind (fun q => rk px kx f (d + 8) 239 1203 [some (.ref x0), some (.ref x1), some (.ref x2), some (.int x3)] (q.1.toList ++ [.int q67.1]) q.2) else none) (fun f => rfl) ?_
      refine OkF.grd (fun _ => ?_)
      refine OkF.bind (w1 := wI) (om229 (d + 0) x2 (q67.2.2.1 x0 (x3 + (1 : Int32)).toNatClampNeg) (q67.2.2.1 x0 (x3 + (2 : Int32)).toNatClampNeg) q67.2) (fun q68 => ?_)
      refine OkF.eq 1 (Y := fun f => if q67.1 = q68.1 then rk px kx f (d + 8) 239 1355 [some (.ref x0), some (.ref x1), some (.ref x2), some (.int x3)] [] q68.2 else rk px kx f (d + 8) 239 1206 [some (.ref x0), some (.ref x1), some (.ref x2), some (.int x3)] [] q68.2) (fun f => rfl) ?_
      refine OkF.ite (fun _ => ?_) (fun _ => ?_)
      · exact OkF.kl (ls1 := [some (.ref x0), some (.ref x1), some (.ref x2), some (.int x3)]) (fun f => rfl) (ob239_1355 d k18 hk18 x0 x1 x2 x3 q68.2)
      · exact OkF.ret 2 (fun f => rfl)
    refine OkF.ite (fun _ => ?_) (fun _ => ?_)
    · refine OkF.eq 6 (Y := fun f => if inb (x3 + (1 : Int32)) (al S x0) = true then rk px kx f (d + 8) 239 1214 [some (.ref x0), some (.ref x1), some (.ref x2), some (.int x3)] [.int (S.2.1 x0 (x3 + (1 : Int32)).toNatClampNeg), .ref x1] S else none) (fun f => rfl) ?_
      refine OkF.grd (fun _ => ?_)
      refine OkF.eq 5 (Y := fun f => if inb (x3 + (2 : Int32)) (al S x0) = true then rk px kx f (d + 8) 239 1219 [some (.ref x0), some (.ref x1), some (.ref x2), some (.int x3)] [.int (S.2.1 x0 (x3 + (2 : Int32)).toNatClampNeg), .int (S.2.1 x0 (x3 + (1 : Int32)).toNatClampNeg), .ref x1] S else none) (fun f => rfl) ?_
      refine OkF.grd (fun _ => ?_)
      refine OkF.eq 1 (Y := fun f => if oc S x1 11 = true then (rk px kx f (d + 7) 134 0 [some (.ref x1), some (.int (S.2.1 x0 (x3 + (1 : Int32)).toNatClampNeg)), some (.int (S.2.1 x0 (x3 + (2 : Int32)).toNatClampNeg)), none, none, none] [] S).bind (fun q => rk px kx f (d + 8) 239 1222 [some (.ref x0), some (.ref x1), some (.ref x2), some (.int x3)] (q.1.toList ++ []) q.2) else none) (fun f => rfl) ?_
      refine OkF.grd (fun _ => ?_)
      refine OkF.bind (w1 := wI) (om134 (d + 2) x1 (S.2.1 x0 (x3 + (1 : Int32)).toNatClampNeg) (S.2.1 x0 (x3 + (2 : Int32)).toNatClampNeg) S) (fun q69 => ?_)
      refine OkF.eq 6 (Y := fun f => if inb (x3 + (1 : Int32)) (al q69.2 x0) = true then rk px kx f (d + 8) 239 1228 [some (.ref x0), some (.ref x1), some (.ref x2), some (.int x3)] [.int (q69.2.2.1 x0 (x3 + (1 : Int32)).toNatClampNeg), .ref x2, .int q69.1] q69.2 else none) (fun f => rfl) ?_
      refine OkF.grd (fun _ => ?_)
      refine OkF.eq 5 (Y := fun f => if inb (x3 + (2 : Int32)) (al q69.2 x0) = true then rk px kx f (d + 8) 239 1233 [some (.ref x0), some (.ref x1), some (.ref x2), some (.int x3)] [.int (q69.2.2.1 x0 (x3 + (2 : Int32)).toNatClampNeg), .int (q69.2.2.1 x0 (x3 + (1 : Int32)).toNatClampNeg), .ref x2, .int q69.1] q69.2 else none) (fun f => rfl) ?_
      refine OkF.grd (fun _ => ?_)
      refine OkF.eq 1 (Y := fun f => if oc q69.2 x2 12 = true then (rk px kx f (d + 7) 230 0 [some (.ref x2), some (.int (q69.2.2.1 x0 (x3 + (1 : Int32)).toNatClampNeg)), some (.int (q69.2.2.1 x0 (x3 + (2 : Int32)).toNatClampNeg)), none, none, none, none] [] q69.2).bind (fun q => rk px kx f (d + 8) 239 1236 [some (.ref x0), some (.ref x1), some (.ref x2), some (.int x3)] (q.1.toList ++ [.int q69.1]) q.2) else none) (fun f => rfl) ?_
      refine OkF.grd (fun _ => ?_)
      refine OkF.bind (w1 := wI) (om230 (d + 3) x2 (q69.2.2.1 x0 (x3 + (1 : Int32)).toNatClampNeg) (q69.2.2.1 x0 (x3 + (2 : Int32)).toNatClampNeg) q69.2) (fun q70 => ?_)
      refine OkF.eq 1 (Y := fun f => if q69.1 = q70.1 then rk px kx f (d + 8) 239 1355 [some (.ref x0), some (.ref x1), some (.ref x2), some (.int x3)] [] q70.2 else rk px kx f (d + 8) 239 1239 [some (.ref x0), some (.ref x1), some (.ref x2), some (.int x3)] [] q70.2) (fun f => rfl) ?_
      refine OkF.ite (fun _ => ?_) (fun _ => ?_)
      · exact OkF.kl (ls1 := [some (.ref x0), some (.ref x1), some (.ref x2), some (.int x3)]) (fun f => rfl) (ob239_1355 d k18 hk18 x0 x1 x2 x3 q70.2)
      · exact OkF.ret 2 (fun f => rfl)
    refine OkF.ite (fun _ => ?_) (fun _ => ?_)
    · refine OkF.eq 2 (Y := fun f => if oc S x1 11 = true then (rk px kx f (d + 7) 136 0 [some (.ref x1)] [] S).bind (fun q => rk px kx f (d + 8) 239 1245 [some (.ref x0), some (.ref x1), some (.ref x2), some (.int x3)] (q.1.toList ++ []) q.2) else none) (fun f => rfl) ?_
      refine OkF.grd (fun _ => ?_)
      refine OkF.bind (w1 := wI) (om136 (d + 7) x1 S) (fun q71 => ?_)
      refine OkF.eq 2 (Y := fun f => if oc q71.2 x2 12 = true then (rk px kx f (d + 7) 231 0 [some (.ref x2)] [] q71.2).bind (fun q => rk px kx f (d + 8) 239 1249 [some (.ref x0), some (.ref x1), some (.ref x2), some (.int x3)] (q.1.toList ++ [.int q71.1]) q.2) else none) (fun f => rfl) ?_
      refine OkF.grd (fun _ => ?_)
      refine OkF.bind (w1 := wI) (om231 (d + 7) x2 q71.2) (fun q72 => ?_)
      refine OkF.eq 1 (Y := fun f => if q71.1 = q72.1 then rk px kx f (d + 8) 239 1355 [some (.ref x0), some (.ref x1), some (.ref x2), some (.int x3)] [] q72.2 else rk px kx f (d + 8) 239 1252 [some (.ref x0), some (.ref x1), some (.ref x2), some (.int x3)] [] q72.2) (fun f => rfl) ?_
      refine OkF.ite (fun _ => ?_) (fun _ => ?_)
      · exact OkF.kl (ls1 := [some (.ref x0), some (.ref x1), some (.ref x2), some (.int x3)]) (fun f => rfl) (ob239_1355 d k18 hk18 x0 x1 x2 x3 q72.2)
      · exact OkF.ret 2 (fun f => rfl)
    refine OkF.ite (fun _ => ?_) (fun _ => ?_)
    · refine OkF.eq 2 (Y := fun f => if oc S x1 11 = true then (rk px kx f (d + 7) 137 0 [some (.ref x1)] [] S).bind (fun q => rk px kx f (d + 8) 239 1258 [some (.ref x0), some (.ref x1), some (.ref x2), some (.int x3)] (q.1.toList ++ []) q.2) else none) (fun f => rfl) ?_
      refine OkF.grd (fun _ => ?_)
      refine OkF.bind (w1 := wL) (om137 (d + 7) x1 S) (fun q73 => ?_)
      refine OkF.eq 2 (Y := fun f => if oc q73.2 x2 12 = true then (rk px kx f (d + 7) 232 0 [some (.ref x2)] [] q73.2).bind (fun q => rk px kx f (d + 8) 239 1262 [some (.ref x0), some (.ref x1), some (.ref x2), some (.int x3)] (q.1.toList ++ [.long q73.1]) q.2) else none) (fun f => rfl) ?_
      refine OkF.grd (fun _ => ?_)
      refine OkF.bind (w1 := wL) (om232 (d + 7) x2 q73.2) (fun q74 => ?_)
      refine OkF.eq 2 (Y := fun f => if (lg_cmp q73.1 q74.1) = 0 then rk px kx f (d + 8) 239 1355 [some (.ref x0), some (.ref x1), some (.ref x2), some (.int x3)] [] q74.2 else rk px kx f (d + 8) 239 1266 [some (.ref x0), some (.ref x1), some (.ref x2), some (.int x3)] [] q74.2) (fun f => rfl) ?_
      refine OkF.ite (fun _ => ?_) (fun _ => ?_)
      · exact OkF.kl (ls1 := [some (.ref x0), some (.ref x1), some (.ref x2), some (.int x3)]) (fun f => rfl) (ob239_1355 d k18 hk18 x0 x1 x2 x3 q74.2)
      · exact OkF.ret 2 (fun f => rfl)
    refine OkF.ite (fun _ => ?_) (fun _ => ?_)
    · refine OkF.eq 2 (Y := fun f => if oc S x1 11 = true then (rk px kx f (d + 7) 138 0 [some (.ref x1)] [] S).bind (fun q => rk px kx f (d + 8) 239 1272 [some (.ref x0), some (.ref x1), some (.ref x2), some (.int x3)] (q.1.toList ++ []) q.2) else none) (fun f => rfl) ?_
      refine OkF.grd (fun _ => ?_)
      refine OkF.bind (w1 := wL) (om138 (d + 7) x1 S) (fun q75 => ?_)
      refine OkF.eq 2 (Y := fun f => if oc q75.2 x2 12 = true then (rk px kx f (d + 7) 233 0 [some (.ref x2)] [] q75.2).bind (fun q => rk px kx f (d + 8) 239 1276 [some (.ref x0), some (.ref x1), some (.ref x2), some (.int x3)] (q.1.toList ++ [.long q75.1]) q.2) else none) (fun f => rfl) ?_
      refine OkF.grd (fun _ => ?_)
      refine OkF.bind (w1 := wL) (om233 (d + 7) x2 q75.2) (fun q76 => ?_)
      refine OkF.eq 2 (Y := fun f => if (lg_cmp q75.1 q76.1) = 0 then rk px kx f (d + 8) 239 1355 [some (.ref x0), some (.ref x1), some (.ref x2), some (.int x3)] [] q76.2 else rk px kx f (d + 8) 239 1280 [some (.ref x0), some (.ref x1), some (.ref x2), some (.int x3)] [] q76.2) (fun f => rfl) ?_
      refine OkF.ite (fun _ => ?_) (fun _ => ?_)
      · exact OkF.kl (ls1 := [some (.ref x0), some (.ref x1), some (.ref x2), some (.int x3)]) (fun f => rfl) (ob239_1355 d k18 hk18 x0 x1 x2 x3 q76.2)
      · exact OkF.ret 2 (fun f => rfl)
    refine OkF.ite (fun _ => ?_) (fun _ => ?_)
    · refine OkF.eq 6 (Y := fun f => if inb (x3 + (1 : Int32)) (al S x0) = true then rk px kx f (d + 8) 239 1288 [some (.ref x0), some (.ref x1), some (.ref x2), some (.int x3)] [.int (S.2.1 x0 (x3 + (1 : Int32)).toNatClampNeg), .ref x1] S else none) (fun f => rfl) ?_
      refine OkF.grd (fun _ => ?_)
      refine OkF.eq 1 (Y := fun f => if oc S x1 11 = true then (rk px kx f (d + 7) 139 0 [some (.ref x1), some (.int (S.2.1 x0 (x3 + (1 : Int32)).toNatClampNeg))] [] S).bind (fun q => rk px kx f (d + 8) 239 1291 [some (.ref x0), some (.ref x1), some (.ref x2), some (.int x3)] (q.1.toList ++ []) q.2) else none) (fun f => rfl) ?_
      refine OkF.grd (fun _ => ?_)
      refine OkF.bind (w1 := wI) (om139 (d + 4) x1 (S.2.1 x0 (x3 + (1 : Int32)).toNatClampNeg) S) (fun q77 => ?_)
      refine OkF.eq 6 (Y := fun f => if inb (x3 + (1 : Int32)) (al q77.2 x0) = true then rk px kx f (d + 8) 239 1297 [some (.ref x0), some (.ref x1), some (.ref x2), some (.int x3)] [.int (q77.2.2.1 x0 (x3 + (1 : Int32)).toNatClampNeg), .ref x2, .int q77.1] q77.2 else none) (fun f => rfl) ?_
      refine OkF.grd (fun _ => ?_)
      refine OkF.eq 1 (Y := fun f => if oc q77.2 x2 12 = true then (rk px kx f (d + 7) 234 0 [some (.ref x2), some (.int (q77.2.2.1 x0 (x3 + (1 : Int32)).toNatClampNeg))] [] q77.2).bind (fun q => rk px kx f (d + 8) 239 1300 [some (.ref x0), some (.ref x1), some (.ref x2), some (.int x3)] (q.1.toList ++ [.int q77.1]) q.2) else none) (fun f => rfl) ?_
      refine OkF.grd (fun _ => ?_)
      refine OkF.bind (w1 := wI) (om234 (d + 5) x2 (q77.2.2.1 x0 (x3 + (1 : Int32)).toNatClampNeg) q77.2) (fun q78 => ?_)
      refine OkF.eq 1 (Y := fun f => if q77.1 = q78.1 then rk px kx f (d + 8) 239 1355 [some (.ref x0), some (.ref x1), some (.ref x2), some (.int x3)] [] q78.2 else rk px kx f (d + 8) 239 1303 [some (.ref x0), some (.ref x1), some (.ref x2), some (.int x3)] [] q78.2) (fun f => rfl) ?_
      refine OkF.ite (fun _ => ?_) (fun _ => ?_)
      · exact OkF.kl (ls1 := [some (.ref x0), some (.ref x1), some (.ref x2), some (.int x3)]) (fun f => rfl) (ob239_1355 d k18 hk18 x0 x1 x2 x3 q78.2)
      · exact OkF.ret 2 (fun f => rfl)
    refine OkF.ite (fun _ => ?_) (fun _ => ?_)
    · refine OkF.eq 2 (Y := fun f => if oc S x1 11 = true then (rk px kx f (d + 7) 143 0 [some (.ref x1)] [] S).bind (fun q => rk px kx f (d + 8) 239 1309 [some (.ref x0), some (.ref x1), some (.ref x2), some (.int x3)] (q.1.toList ++ []) q.2) else none) (fun f => rfl) ?_
      refine OkF.grd (fun _ => ?_)
      refine OkF.bind (w1 := wI) (om143 (d + 7) x1 S) (fun q79 => ?_)
      refine OkF.eq 2 (Y := fun f => if oc q79.2 x2 12 = true then (rk px kx f (d + 7) 236 0 [some (.ref x2)] [] q79.2).bind (fun q => rk px kx f (d + 8) 239 1313 [some (.ref x0), some (.ref x1), some (.ref x2), some (.int x3)] (q.1.toList ++ [.int q79.1]) q.2) else none) (fun f => rfl) ?_
      refine OkF.grd (fun _ => ?_)
      refine OkF.bind (w1 := wI) (om236 (d + 7) x2 q79.2) (fun q80 => ?_)
      refine OkF.eq 1 (Y := fun f => if q79.1 = q80.1 then rk px kx f (d + 8) 239 1355 [some (.ref x0), some (.ref x1), some (.ref x2), some (.int x3)] [] q80.2 else rk px kx f (d + 8) 239 1316 [some (.ref x0), some (.ref x1), some (.ref x2), some (.int x3)] [] q80.2) (fun f => rfl) ?_
      refine OkF.ite (fun _ => ?_) (fun _ => ?_)
      · exact OkF.kl (ls1 := [some (.ref x0), some (.ref x1), some (.ref x2), some (.int x3)]) (fun f => rfl) (ob239_1355 d k18 hk18 x0 x1 x2 x3 q80.2)
      · exact OkF.ret 2 (fun f => rfl)
    refine OkF.ite (fun _ => ?_) (fun _ => ?_)
    · refine OkF.eq 6 (Y := fun f => if inb (x3 + (1 : Int32)) (al S x0) = true then rk px kx f (d + 8) 239 1324 [some (.ref x0), some (.ref x1), some (.ref x2), some (.int x3)] [.int (S.2.1 x0 (x3 + (1 : Int32)).toNatClampNeg), .ref x1] S else none) (fun f => rfl) ?_
      refine OkF.grd (fun _ => ?_)
      refine OkF.eq 1 (Y := fun f => if oc S x1 11 = true then (rk px kx f (d + 7) 144 0 [some (.ref x1), some (.int (S.2.1 x0 (x3 + (1 : Int32)).toNatClampNeg))] [] S).bind (fun q => rk px kx f (d + 8) 239 1327 [some (.ref x0), some (.ref x1), some (.ref x2), some (.int x3)] (q.1.toList ++ []) q.2) else none) (fun f => rfl) ?_
      refine OkF.grd (fun _ => ?_)
      refine OkF.bind (w1 := wI) (om144 (d + 7) x1 (S.2.1 x0 (x3 + (1 : Int32)).toNatClampNeg) S) (fun q81 => ?_)
      refine OkF.eq 6 (Y := fun f => if inb (x3 + (1 : Int32)) (al q81.2 x0) = true then rk px kx f (d + 8) 239 1333 [some (.ref x0), some (.ref x1), some (.ref x2), some (.int x3)] [.int (q81.2.2.1 x0 (x3 + (1 : Int32)).toNatClampNeg), .ref x2, .int q81.1] q81.2 else none) (fun f => rfl) ?_
      refine OkF.grd (fun _ => ?_)
      refine OkF.eq 1 (Y := fun f => if oc q81.2 x2 12 = true then (rk px kx f (d + 7) 237 0 [some (.ref x2), some (.int (q81.2.2.1 x0 (x3 + (1 : Int32)).toNatClampNeg))] [] q81.2).bind (fun q => rk px kx f (d + 8) 239 1336 [some (.ref x0), some (.ref x1), some (.ref x2), some (.int x3)] (q.1.toList ++ [.int q81.1]) q.2) else none) (fun f => rfl) ?_
      refine OkF.grd (fun _ => ?_)
      refine OkF.bind (w1 := wI) (om237 (d + 6) x2 (q81.2.2.1 x0 (x3 + (1 : Int32)).toNatClampNeg) q81.2) (fun q82 => ?_)
      refine OkF.eq 1 (Y := fun f => if q81.1 = q82.1 then rk px kx f (d + 8) 239 1355 [some (.ref x0), some (.ref x1), some (.ref x2), some (.int x3)] [] q82.2 else rk px kx f (d + 8) 239 1339 [some (.ref x0), some (.ref x1), some (.ref x2), some (.int x3)] [] q82.2) (fun f => rfl) ?_
      refine OkF.ite (fun _ => ?_) (fun _ => ?_)
      · exact OkF.kl (ls1 := [some (.ref x0), some (.ref x1), some (.ref x2), some (.int x3)]) (fun f => rfl) (ob239_1355 d k18 hk18 x0 x1 x2 x3 q82.2)
      · exact OkF.ret 2 (fun f => rfl)
    refine OkF.ite (fun _ => ?_) (fun _ => ?_)
    · refine OkF.eq 2 (Y := fun f => if oc S x1 11 = true then (rk px kx f (d + 7) 145 0 [some (.ref x1), none, none, none, none] [] S).bind (fun q => rk px kx f (d + 8) 239 1345 [some (.ref x0), some (.ref x1), some (.ref x2), some (.int x3)] (q.1.toList ++ []) q.2) else none) (fun f => rfl) ?_
      refine OkF.grd (fun _ => ?_)
      refine OkF.bind (w1 := wL) (om145 (d + 3) x1 S) (fun q83 => ?_)
      refine OkF.eq 2 (Y := fun f => if oc q83.2 x2 12 = true then (rk px kx f (d + 7) 238 0 [some (.ref x2), none, none, none, none] [] q83.2).bind (fun q => rk px kx f (d + 8) 239 1349 [some (.ref x0), some (.ref x1), some (.ref x2), some (.int x3)] (q.1.toList ++ [.long q83.1]) q.2) else none) (fun f => rfl) ?_
      refine OkF.grd (fun _ => ?_)
      refine OkF.bind (w1 := wL) (om238 (d + 3) x2 q83.2) (fun q84 => ?_)
      refine OkF.eq 2 (Y := fun f => if (lg_cmp q83.1 q84.1) = 0 then rk px kx f (d + 8) 239 1355 [some (.ref x0), some (.ref x1), some (.ref x2), some (.int x3)] [] q84.2 else rk px kx f (d + 8) 239 1353 [some (.ref x0), some (.ref x1), some (.ref x2), some (.int x3)] [] q84.2) (fun f => rfl) ?_
      refine OkF.ite (fun _ => ?_) (fun _ => ?_)
      · exact OkF.kl (ls1 := [some (.ref x0), some (.ref x1), some (.ref x2), some (.int x3)]) (fun f => rfl) (ob239_1355 d k18 hk18 x0 x1 x2 x3 q84.2)
      · exact OkF.ret 2 (fun f => rfl)
    exact OkF.kl (ls1 := [some (.ref x0), some (.ref x1), some (.ref x2), some (.int x3)]) (fun f => rfl) (ob239_1355 d k18 hk18 x0 x1 x2 x3 S)
def l239_18 : Nat → Nat → Nat → Nat → Int32 → Sx → Option (Int32 × Sx)
  | 0 => fun _ _ _ _ _ => none
  | n + 1 => fun x0 x1 x2 x3 S => b239_18 (l239_18 n) x0 x1 x2 x3 S
set_option maxRecDepth 100000 in
theorem ol239_18 (d : Nat) : ∀ (n : Nat) (x0 : Nat) (x1 : Nat) (x2 : Nat) (x3 : Int32) (S : Sx), OkF wI (fun f => rk px kx f (d + 8) 239 18 [some (.ref x0), some (.ref x1), some (.ref x2), some (.int x3)] [] S) (l239_18 n x0 x1 x2 x3 S) := by
  intro n
  induction n with
  | zero => intro x0 x1 x2 x3 S; exact OkF.no
  | succ n ih => intro x0 x1 x2 x3 S; exact ob239_18 d (l239_18 n) ih x0 x1 x2 x3 S
def m239 (x0 : Nat) (S : Sx) : Option (Int32 × Sx) :=
  if nb S 0 11 = true then lt (nwS S) fun S85 => (m0 S.1 S85).bind fun q86 => if nb q86 0 12 = true then lt (nwS q86) fun S87 => (m147 q86.1 S87).bind fun q88 => l239_18 1000 x0 S.1 q86.1 (0 : Int32) q88 else none else none
set_option maxRecDepth 100000 in
theorem om239 (d : Nat) (x0 : Nat) (S : Sx) : OkF wI (fun f => rk px kx f (d + 8) 239 0 [some (.ref x0), none, none, none] [] S) (m239 x0 S) := by
  unfold m239
  refine OkF.eq 1 (Y := fun f => if nb S 0 11 = true then rk px kx f (d + 8) 239 3 [some (.ref x0), none, none, none] [.ref S.1] (nwS S) else none) (fun f => rfl) ?_
  refine OkF.grd (fun _ => ?_)
  refine OkF.nm (fun S85 => ?_)
  refine OkF.eq 2 (Y := fun f => (rk px kx f (d + 7) 0 0 [some (.ref S.1), none] [] S85).bind (fun q => rk px kx f (d + 8) 239 7 [some (.ref x0), none, none, none] (q.1.toList ++ [.ref S.1]) q.2)) (fun f => rfl) ?_
  refine OkF.bind (w1 := wV) (om0 (d + 3) S.1 S85) (fun q86 => ?_)
  refine OkF.eq 2 (Y := fun f => if nb q86 0 12 = true then rk px kx f (d + 8) 239 11 [some (.ref x0), some (.ref S.1), none, none] [.ref q86.1] (nwS q86) else none) (fun f => rfl) ?_
  refine OkF.grd (fun _ => ?_)
  refine OkF.nm (fun S87 => ?_)
  refine OkF.eq 2 (Y := fun f => (rk px kx f (d + 7) 147 0 [some (.ref q86.1), none] [] S87).bind (fun q => rk px kx f (d + 8) 239 15 [some (.ref x0), some (.ref S.1), none, none] (q.1.toList ++ [.ref q86.1]) q.2)) (fun f => rfl) ?_
  refine OkF.bind (w1 := wV) (om147 (d + 6) q86.1 S87) (fun q88 => ?_)
  refine OkF.eq 3 (Y := fun f => rk px kx f (d + 8) 239 18 [some (.ref x0), some (.ref S.1), some (.ref q86.1), some (.int (0 : Int32))] [] q88) (fun f => rfl) ?_
  exact OkF.kl (ls1 := [some (.ref x0), some (.ref S.1), some (.ref q86.1), some (.int (0 : Int32))]) (fun f => rfl) (ol239_18 d 1000 x0 S.1 q86.1 (0 : Int32) q88)
