-- DoorSoldModel.kindOf(I)I
def m168 (x0 : Int32) (S : Sx) : Option (Int32 × Sx) :=
  if x0 = (100 : Int32) then some ((0 : Int32), S) else if x0 = (117 : Int32) then some ((1 : Int32), S) else if x0 = (98 : Int32) then some ((2 : Int32), S) else if x0 = (107 : Int32) then some ((3 : Int32), S) else if x0 = (115 : Int32) then some ((4 : Int32), S) else if x0 = (99 : Int32) then some ((5 : Int32), S) else some ((-1 : Int32), S)
set_option maxRecDepth 100000 in
theorem om168 (d : Nat) (x0 : Int32) (S : Sx) : OkF wI (fun f => rk px kx f (d + 0) 168 0 [some (.int x0)] [] S) (m168 x0 S) := by
  unfold m168
  refine OkF.eq 3 (Y := fun f => if x0 = (100 : Int32) then rk px kx f (d + 0) 168 6 [some (.int x0)] [] S else rk px kx f (d + 0) 168 10 [some (.int x0)] [] S) (fun f => rfl) ?_
  refine OkF.ite (fun _ => ?_) (fun _ => ?_)
  · exact OkF.ret 3 (fun f => rfl)
  · refine OkF.eq 3 (Y := fun f => if x0 = (117 : Int32) then rk px kx f (d + 0) 168 16 [some (.int x0)] [] S else rk px kx f (d + 0) 168 20 [some (.int x0)] [] S) (fun f => rfl) ?_
    refine OkF.ite (fun _ => ?_) (fun _ => ?_)
    · exact OkF.ret 3 (fun f => rfl)
    · refine OkF.eq 3 (Y := fun f => if x0 = (98 : Int32) then rk px kx f (d + 0) 168 26 [some (.int x0)] [] S else rk px kx f (d + 0) 168 30 [some (.int x0)] [] S) (fun f => rfl) ?_
      refine OkF.ite (fun _ => ?_) (fun _ => ?_)
      · exact OkF.ret 3 (fun f => rfl)
      · refine OkF.eq 3 (Y := fun f => if x0 = (107 : Int32) then rk px kx f (d + 0) 168 36 [some (.int x0)] [] S else rk px kx f (d + 0) 168 40 [some (.int x0)] [] S) (fun f => rfl) ?_
        refine OkF.ite (fun _ => ?_) (fun _ => ?_)
        · exact OkF.ret 3 (fun f => rfl)
        · refine OkF.eq 3 (Y := fun f => if x0 = (115 : Int32) then rk px kx f (d + 0) 168 46 [some (.int x0)] [] S else rk px kx f (d + 0) 168 50 [some (.int x0)] [] S) (fun f => rfl) ?_
          refine OkF.ite (fun _ => ?_) (fun _ => ?_)
          · exact OkF.ret 3 (fun f => rfl)
          · refine OkF.eq 3 (Y := fun f => if x0 = (99 : Int32) then rk px kx f (d + 0) 168 56 [some (.int x0)] [] S else rk px kx f (d + 0) 168 60 [some (.int x0)] [] S) (fun f => rfl) ?_
            refine OkF.ite (fun _ => ?_) (fun _ => ?_)
            · exact OkF.ret 3 (fun f => rfl)
            · exact OkF.ret 2 (fun f => rfl)
-- DoorSoldModel.readsDoor(I)Z
def b167_77 (k51 : Nat → Int32 → Int32 → Int32 → Sx → Option (Int32 × Sx)) (x0 : Nat) (x1 : Int32) (x3 : Int32) (x4 : Int32) (s0 : Nat) (s1 : Int32) (s2 : Int32) (s3 : Int32) (S : Sx) : Option (Int32 × Sx) :=
  if oc S s0 12 = true then (m166 s0 s1 s2 s3 S).bind fun q1 => if q1.1 = 0 then some ((0 : Int32), q1.2) else if oc q1.2 x0 12 = true then (q1.2.2.2.2.1 x0 22).bind fun a2 => if oc q1.2 x0 12 = true then if inb (x3 + x4) (aw q1.2 1 a2) = true then lt (sI q1.2 a2 (x3 + x4).toNatClampNeg (q1.2.2.1 x0 23)) fun S3 => k51 x0 x1 x3 (x4 + (1 : Int32)) S3 else none else none else none else none
set_option maxRecDepth 100000 in
theorem ob167_77 (d : Nat) (k51 : Nat → Int32 → Int32 → Int32 → Sx → Option (Int32 × Sx)) (hk51 : ∀ (x0 : Nat) (x1 : Int32) (x3 : Int32) (x4 : Int32) (S : Sx), OkF wI (fun f => rk px kx f (d + 2) 167 51 [some (.ref x0), some (.int x1), none, some (.int x3), some (.int x4)] [] S) (k51 x0 x1 x3 x4 S)) (x0 : Nat) (x1 : Int32) (x3 : Int32) (x4 : Int32) (s0 : Nat) (s1 : Int32) (s2 : Int32) (s3 : Int32) (S : Sx) : OkF wI (fun f => rk px kx f (d + 2) 167 77 [some (.ref x0), some (.int x1), none, some (.int x3), some (.int x4)] [.int s3, .int s2, .int s1, .ref s0] S) (b167_77 k51 x0 x1 x3 x4 s0 s1 s2 s3 S) := by
  unfold b167_77
  refine OkF.eq 1 (Y := fun f => if oc S s0 12 = true then (rk px kx f (d + 1) 166 0 [some (.ref s0), some (.int s1), some (.int s2), some (.int s3)] [] S).bind (fun q => rk px kx f (d + 2) 167 80 [some (.ref x0), some (.int x1), none, some (.int x3), some (.int x4)] (q.1.toList ++ []) q.2) else none) (fun f => rfl) ?_
  refine OkF.grd (fun _ => ?_)
  refine OkF.bind (w1 := wI) (om166 (d + 0) s0 s1 s2 s3 S) (fun q1 => ?_)
  refine OkF.eq 1 (Y := fun f => if q1.1 = 0 then rk px kx f (d + 2) 167 83 [some (.ref x0), some (.int x1), none, some (.int x3), some (.int x4)] [] q1.2 else rk px kx f (d + 2) 167 85 [some (.ref x0), some (.int x1), none, some (.int x3), some (.int x4)] [] q1.2) (fun f => rfl) ?_
  refine OkF.ite (fun _ => ?_) (fun _ => ?_)
  · exact OkF.ret 2 (fun f => rfl)
  · refine OkF.eq 2 (Y := fun f => if oc q1.2 x0 12 = true then rk px kx f (d + 2) 167 89 [some (.ref x0), some (.int x1), none, some (.int x3), some (.int x4)] (va_rf (q1.2.2.2.2.1 x0 22) :: []) q1.2 else none) (fun f => rfl) ?_
    refine OkF.grd (fun _ => ?_)
    refine OkF.rf (fun a2 => ?_)
    refine OkF.eq 5 (Y := fun f => if oc q1.2 x0 12 = true then rk px kx f (d + 2) 167 97 [some (.ref x0), some (.int x1), none, some (.int x3), some (.int x4)] [.int (q1.2.2.1 x0 23), .int (x3 + x4), .ref a2] q1.2 else none) (fun f => rfl) ?_
    refine OkF.grd (fun _ => ?_)
    refine OkF.eq 1 (Y := fun f => if inb (x3 + x4) (aw q1.2 1 a2) = true then rk px kx f (d + 2) 167 98 [some (.ref x0), some (.int x1), none, some (.int x3), some (.int x4)] [] (sI q1.2 a2 (x3 + x4).toNatClampNeg (q1.2.2.1 x0 23)) else none) (fun f => rfl) ?_
    refine OkF.grd (fun _ => ?_)
    refine OkF.nm (fun S3 => ?_)
    refine OkF.eq 2 (Y := fun f => rk px kx f (d + 2) 167 51 [some (.ref x0), some (.int x1), none, some (.int x3), some (.int (x4 + (1 : Int32)))] [] S3) (fun f => rfl) ?_
    exact OkF.kl (ls1 := [some (.ref x0), some (.int x1), none, some (.int x3), some (.int (x4 + (1 : Int32)))]) (fun f => rfl) (hk51 x0 x1 x3 (x4 + (1 : Int32)) S3)
def b167_51 (k51 : Nat → Int32 → Int32 → Int32 → Sx → Option (Int32 × Sx)) (x0 : Nat) (x1 : Int32) (x3 : Int32) (x4 : Int32) (S : Sx) : Option (Int32 × Sx) :=
  if (4 : Int32) ≤ x4 then if oc S x0 12 = true then if oc S x0 12 = true then lt (sI S x0 20 ((S.2.1 x0 20) + (1 : Int32))) fun S4 => some ((1 : Int32), S4) else none else none else if (3 : Int32) ≤ x4 then b167_77 k51 x0 x1 x3 x4 x0 x1 (0 : Int32) (9 : Int32) S else if oc S x0 12 = true then b167_77 k51 x0 x1 x3 x4 x0 x1 (0 : Int32) ((S.2.1 x0 19) - (1 : Int32)) S else none
set_option maxRecDepth 100000 in
theorem ob167_51 (d : Nat) (k51 : Nat → Int32 → Int32 → Int32 → Sx → Option (Int32 × Sx)) (hk51 : ∀ (x0 : Nat) (x1 : Int32) (x3 : Int32) (x4 : Int32) (S : Sx), OkF wI (fun f => rk px kx f (d + 2) 167 51 [some (.ref x0), some (.int x1), none, some (.int x3), some (.int x4)] [] S) (k51 x0 x1 x3 x4 S)) (x0 : Nat) (x1 : Int32) (x3 : Int32) (x4 : Int32) (S : Sx) : OkF wI (fun f => rk px kx f (d + 2) 167 51 [some (.ref x0), some (.int x1), none, some (.int x3), some (.int x4)] [] S) (b167_51 k51 x0 x1 x3 x4 S) := by
  unfold b167_51
  refine OkF.eq 3 (Y := fun f => if (4 : Int32) ≤ x4 then rk px kx f (d + 2) 167 104 [some (.ref x0), some (.int x1), none, some (.int x3), some (.int x4)] [] S else rk px kx f (d + 2) 167 57 [some (.ref x0), some (.int x1), none, some (.int x3), some (.int x4)] [] S) (fun f => rfl) ?_
  refine OkF.ite (fun _ => ?_) (fun _ => ?_)
  · refine OkF.eq 3 (Y := fun f => if oc S x0 12 = true then rk px kx f (d + 2) 167 109 [some (.ref x0), some (.int x1), none, some (.int x3), some (.int x4)] [.int (S.2.1 x0 20), .ref x0] S else none) (fun f => rfl) ?_
    refine OkF.grd (fun _ => ?_)
    refine OkF.eq 3 (Y := fun f => if oc S x0 12 = true then rk px kx f (d + 2) 167 114 [some (.ref x0), some (.int x1), none, some (.int x3), some (.int x4)] [] (sI S x0 20 ((S.2.1 x0 20) + (1 : Int32))) else none) (fun f => rfl) ?_
    refine OkF.grd (fun _ => ?_)
    refine OkF.nm (fun S4 => ?_)
    exact OkF.ret 2 (fun f => rfl)
  · refine OkF.eq 6 (Y := fun f => if (3 : Int32) ≤ x4 then rk px kx f (d + 2) 167 75 [some (.ref x0), some (.int x1), none, some (.int x3), some (.int x4)] [.int (0 : Int32), .int x1, .ref x0] S else rk px kx f (d + 2) 167 66 [some (.ref x0), some (.int x1), none, some (.int x3), some (.int x4)] [.int (0 : Int32), .int x1, .ref x0] S) (fun f => rfl) ?_
    refine OkF.ite (fun _ => ?_) (fun _ => ?_)
    · refine OkF.eq 1 (Y := fun f => rk px kx f (d + 2) 167 77 [some (.ref x0), some (.int x1), none, some (.int x3), some (.int x4)] [.int (9 : Int32), .int (0 : Int32), .int x1, .ref x0] S) (fun f => rfl) ?_
      exact OkF.kl (ls1 := [some (.ref x0), some (.int x1), none, some (.int x3), some (.int x4)]) (fun f => rfl) (ob167_77 d k51 hk51 x0 x1 x3 x4 x0 x1 (0 : Int32) (9 : Int32) S)
    · refine OkF.eq 2 (Y := fun f => if oc S x0 12 = true then rk px kx f (d + 2) 167 70 [some (.ref x0), some (.int x1), none, some (.int x3), some (.int x4)] [.int (S.2.1 x0 19), .int (0 : Int32), .int x1, .ref x0] S else none) (fun f => rfl) ?_
      refine OkF.grd (fun _ => ?_)
      refine OkF.eq 3 (Y := fun f => rk px kx f (d + 2) 167 77 [some (.ref x0), some (.int x1), none, some (.int x3), some (.int x4)] [.int ((S.2.1 x0 19) - (1 : Int32)), .int (0 : Int32), .int x1, .ref x0] S) (fun f => rfl) ?_
      exact OkF.kl (ls1 := [some (.ref x0), some (.int x1), none, some (.int x3), some (.int x4)]) (fun f => rfl) (ob167_77 d k51 hk51 x0 x1 x3 x4 x0 x1 (0 : Int32) ((S.2.1 x0 19) - (1 : Int32)) S)
def l167_51 : Nat → Nat → Int32 → Int32 → Int32 → Sx → Option (Int32 × Sx)
  | 0 => fun _ _ _ _ _ => none
  | n + 1 => fun x0 x1 x3 x4 S => b167_51 (l167_51 n) x0 x1 x3 x4 S
set_option maxRecDepth 100000 in
theorem ol167_51 (d : Nat) : ∀ (n : Nat) (x0 : Nat) (x1 : Int32) (x3 : Int32) (x4 : Int32) (S : Sx), OkF wI (fun f => rk px kx f (d + 2) 167 51 [some (.ref x0), some (.int x1), none, some (.int x3), some (.int x4)] [] S) (l167_51 n x0 x1 x3 x4 S) := by
  intro n
  induction n with
  | zero => intro x0 x1 x3 x4 S; exact OkF.no
  | succ n ih => intro x0 x1 x3 x4 S; exact ob167_51 d (l167_51 n) ih x0 x1 x3 x4 S
def m167 (x0 : Nat) (x1 : Int32) (S : Sx) : Option (Int32 × Sx) :=
  if oc S x0 12 = true then (m164 x0 x1 S).bind fun q5 => (m168 q5.1 q5.2).bind fun q6 => if q6.1 < 0 then some ((0 : Int32), q6.2) else if oc q6.2 x0 12 = true then if (q6.2.2.1 x0 20) = (6 : Int32) then some ((0 : Int32), q6.2) else if oc q6.2 x0 12 = true then if oc q6.2 x0 12 = true then lt (sI q6.2 x0 18 ((q6.2.2.1 x0 18) + (1 : Int32))) fun S7 => if oc S7 x0 12 = true then if oc S7 x0 12 = true then (S7.2.2.2.1 x0 22).bind fun a8 => if inb ((4 : Int32) * (S7.2.1 x0 20)) (aw S7 1 a8) = true then lt (sI S7 a8 ((4 : Int32) * (S7.2.1 x0 20)).toNatClampNeg q6.1) fun S9 => l167_51 1000 x0 x1 ((4 : Int32) * (S7.2.1 x0 20)) (1 : Int32) S9 else none else none else none else none else none else none else none
set_option maxRecDepth 100000 in
theorem om167 (d : Nat) (x0 : Nat) (x1 : Int32) (S : Sx) : OkF wI (fun f => rk px kx f (d + 2) 167 0 [some (.ref x0), some (.int x1), none, none, none] [] S) (m167 x0 x1 S) := by
  unfold m167
  refine OkF.eq 3 (Y := fun f => if oc S x0 12 = true then (rk px kx f (d + 1) 164 0 [some (.ref x0), some (.int x1)] [] S).bind (fun q => rk px kx f (d + 2) 167 5 [some (.ref x0), some (.int x1), none, none, none] (q.1.toList ++ []) q.2) else none) (fun f => rfl) ?_
  refine OkF.grd (fun _ => ?_)
  refine OkF.bind (w1 := wI) (om164 (d + 1) x0 x1 S) (fun q5 => ?_)
  refine OkF.eq 1 (Y := fun f => (rk px kx f (d + 1) 168 0 [some (.int q5.1)] [] q5.2).bind (fun q => rk px kx f (d + 2) 167 8 [some (.ref x0), some (.int x1), none, none, none] (q.1.toList ++ []) q.2)) (fun f => rfl) ?_
  refine OkF.bind (w1 := wI) (om168 (d + 1) q5.1 q5.2) (fun q6 => ?_)
  refine OkF.eq 3 (Y := fun f => if q6.1 < 0 then rk px kx f (d + 2) 167 22 [some (.ref x0), some (.int x1), some (.int q6.1), none, none] [] q6.2 else rk px kx f (d + 2) 167 13 [some (.ref x0), some (.int x1), some (.int q6.1), none, none] [] q6.2) (fun f => rfl) ?_
  refine OkF.ite (fun _ => ?_) (fun _ => ?_)
  · exact OkF.ret 2 (fun f => rfl)
  · refine OkF.eq 2 (Y := fun f => if oc q6.2 x0 12 = true then rk px kx f (d + 2) 167 17 [some (.ref x0), some (.int x1), some (.int q6.1), none, none] [.int (q6.2.2.1 x0 20)] q6.2 else none) (fun f => rfl) ?_
    refine OkF.grd (fun _ => ?_)
    refine OkF.eq 2 (Y := fun f => if (q6.2.2.1 x0 20) = (6 : Int32) then rk px kx f (d + 2) 167 22 [some (.ref x0), some (.int x1), some (.int q6.1), none, none] [] q6.2 else rk px kx f (d + 2) 167 24 [some (.ref x0), some (.int x1), some (.int q6.1), none, none] [] q6.2) (fun f => rfl) ?_
    refine OkF.ite (fun _ => ?_) (fun _ => ?_)
    · exact OkF.ret 2 (fun f => rfl)
    · refine OkF.eq 3 (Y := fun f => if oc q6.2 x0 12 = true then rk px kx f (d + 2) 167 29 [some (.ref x0), some (.int x1), some (.int q6.1), none, none] [.int (q6.2.2.1 x0 18), .ref x0] q6.2 else none) (fun f => rfl) ?_
      refine OkF.grd (fun _ => ?_)
      refine OkF.eq 3 (Y := fun f => if oc q6.2 x0 12 = true then rk px kx f (d + 2) 167 34 [some (.ref x0), some (.int x1), some (.int q6.1), none, none] [] (sI q6.2 x0 18 ((q6.2.2.1 x0 18) + (1 : Int32))) else none) (fun f => rfl) ?_
      refine OkF.grd (fun _ => ?_)
      refine OkF.nm (fun S7 => ?_)
      refine OkF.eq 3 (Y := fun f => if oc S7 x0 12 = true then rk px kx f (d + 2) 167 39 [some (.ref x0), some (.int x1), some (.int q6.1), none, none] [.int (S7.2.1 x0 20), .int (4 : Int32)] S7 else none) (fun f => rfl) ?_
      refine OkF.grd (fun _ => ?_)
      refine OkF.eq 4 (Y := fun f => if oc S7 x0 12 = true then rk px kx f (d + 2) 167 45 [some (.ref x0), some (.int x1), some (.int q6.1), some (.int ((4 : Int32) * (S7.2.1 x0 20))), none] (va_rf (S7.2.2.2.1 x0 22) :: []) S7 else none) (fun f => rfl) ?_
      refine OkF.grd (fun _ => ?_)
      refine OkF.rf (fun a8 => ?_)
      refine OkF.eq 3 (Y := fun f => if inb ((4 : Int32) * (S7.2.1 x0 20)) (aw S7 1 a8) = true then rk px kx f (d + 2) 167 48 [some (.ref x0), some (.int x1), some (.int q6.1), some (.int ((4 : Int32) * (S7.2.1 x0 20))), none] [] (sI S7 a8 ((4 : Int32) * (S7.2.1 x0 20)).toNatClampNeg q6.1) else none) (fun f => rfl) ?_
      refine OkF.grd (fun _ => ?_)
      refine OkF.nm (fun S9 => ?_)
      refine OkF.eq 2 (Y := fun f => rk px kx f (d + 2) 167 51 [some (.ref x0), some (.int x1), some (.int q6.1), some (.int ((4 : Int32) * (S7.2.1 x0 20))), some (.int (1 : Int32))] [] S9) (fun f => rfl) ?_
      exact OkF.kl (ls1 := [some (.ref x0), some (.int x1), none, some (.int ((4 : Int32) * (S7.2.1 x0 20))), some (.int (1 : Int32))]) (fun f => rfl) (ol167_51 d 1000 x0 x1 ((4 : Int32) * (S7.2.1 x0 20)) (1 : Int32) S9)
-- DoorSoldModel.faultOf(I)I
def b162_53 (k21 : Nat → Int32 → Int32 → Sx → Option (Int32 × Sx)) (x0 : Nat) (x1 : Int32) (S : Sx) : Option (Int32 × Sx) :=
  if oc S x0 12 = true then (m167 x0 x1 S).bind fun q1 => k21 x0 x1 q1.1 q1.2 else none
set_option maxRecDepth 100000 in
theorem ob162_53 (d : Nat) (k21 : Nat → Int32 → Int32 → Sx → Option (Int32 × Sx)) (hk21 : ∀ (x0 : Nat) (x1 : Int32) (x2 : Int32) (S : Sx), OkF wI (fun f => rk px kx f (d + 3) 162 21 [some (.ref x0), some (.int x1), some (.int x2)] [] S) (k21 x0 x1 x2 S)) (x0 : Nat) (x1 : Int32) (S : Sx) : OkF wI (fun f => rk px kx f (d + 3) 162 53 [some (.ref x0), some (.int x1), none] [] S) (b162_53 k21 x0 x1 S) := by
  unfold b162_53
  refine OkF.eq 3 (Y := fun f => if oc S x0 12 = true then (rk px kx f (d + 2) 167 0 [some (.ref x0), some (.int x1), none, none, none] [] S).bind (fun q => rk px kx f (d + 3) 162 58 [some (.ref x0), some (.int x1), none] (q.1.toList ++ []) q.2) else none) (fun f => rfl) ?_
  refine OkF.grd (fun _ => ?_)
  refine OkF.bind (w1 := wI) (om167 (d + 0) x0 x1 S) (fun q1 => ?_)
  refine OkF.eq 2 (Y := fun f => rk px kx f (d + 3) 162 21 [some (.ref x0), some (.int x1), some (.int q1.1)] [] q1.2) (fun f => rfl) ?_
  exact OkF.kl (ls1 := [some (.ref x0), some (.int x1), some (.int q1.1)]) (fun f => rfl) (hk21 x0 x1 q1.1 q1.2)
def b162_21 (k21 : Nat → Int32 → Int32 → Sx → Option (Int32 × Sx)) (x0 : Nat) (x1 : Int32) (x2 : Int32) (S : Sx) : Option (Int32 × Sx) :=
  if x2 = 0 then if oc S x0 12 = true then some (S.2.1 x0 18, S) else none else if oc S x0 12 = true then (m163 x0 x1 S).bind fun q2 => if oc q2 x0 12 = true then if oc q2 x0 12 = true then (q2.2.2.2.1 x0 2).bind fun a3 => if inb x1 (al q2 a3) = true then if (q2.2.1 x0 18) = (q2.2.1 a3 x1.toNatClampNeg) then if oc q2 x0 12 = true then if (q2.2.1 x0 20) ≤ 0 then b162_53 k21 x0 x1 q2 else some ((-9 : Int32), q2) else none else b162_53 k21 x0 x1 q2 else none else none else none else none
set_option maxRecDepth 100000 in
theorem ob162_21 (d : Nat) (k21 : Nat → Int32 → Int32 → Sx → Option (Int32 × Sx)) (hk21 : ∀ (x0 : Nat) (x1 : Int32) (x2 : Int32) (S : Sx), OkF wI (fun f => rk px kx f (d + 3) 162 21 [some (.ref x0), some (.int x1), some (.int x2)] [] S) (k21 x0 x1 x2 S)) (x0 : Nat) (x1 : Int32) (x2 : Int32) (S : Sx) : OkF wI (fun f => rk px kx f (d + 3) 162 21 [some (.ref x0), some (.int x1), some (.int x2)] [] S) (b162_21 k21 x0 x1 x2 S) := by
  unfold b162_21
  refine OkF.eq 2 (Y := fun f => if x2 = 0 then rk px kx f (d + 3) 162 62 [some (.ref x0), some (.int x1), some (.int x2)] [] S else rk px kx f (d + 3) 162 25 [some (.ref x0), some (.int x1), some (.int x2)] [] S) (fun f => rfl) ?_
  refine OkF.ite (fun _ => ?_) (fun _ => ?_)
  · refine OkF.eq 2 (Y := fun f => if oc S x0 12 = true then rk px kx f (d + 3) 162 66 [some (.ref x0), some (.int x1), some (.int x2)] [.int (S.2.1 x0 18)] S else none) (fun f => rfl) ?_
    refine OkF.grd (fun _ => ?_)
    exact OkF.ret 1 (fun f => rfl)
  · refine OkF.eq 3 (Y := fun f => if oc S x0 12 = true then (rk px kx f (d + 2) 163 0 [some (.ref x0), some (.int x1)] [] S).bind (fun q => rk px kx f (d + 3) 162 30 [some (.ref x0), some (.int x1), some (.int x2)] (q.1.toList ++ []) q.2) else none) (fun f => rfl) ?_
    refine OkF.grd (fun _ => ?_)
    refine OkF.bind (w1 := wV) (om163 (d + 1) x0 x1 S) (fun q2 => ?_)
    refine OkF.eq 2 (Y := fun f => if oc q2 x0 12 = true then rk px kx f (d + 3) 162 34 [some (.ref x0), some (.int x1), some (.int x2)] [.int (q2.2.1 x0 18)] q2 else none) (fun f => rfl) ?_
    refine OkF.grd (fun _ => ?_)
    refine OkF.eq 2 (Y := fun f => if oc q2 x0 12 = true then rk px kx f (d + 3) 162 38 [some (.ref x0), some (.int x1), some (.int x2)] (va_rf (q2.2.2.2.1 x0 2) :: [.int (q2.2.1 x0 18)]) q2 else none) (fun f => rfl) ?_
    refine OkF.grd (fun _ => ?_)
    refine OkF.rf (fun a3 => ?_)
    refine OkF.eq 2 (Y := fun f => if inb x1 (al q2 a3) = true then rk px kx f (d + 3) 162 40 [some (.ref x0), some (.int x1), some (.int x2)] [.int (q2.2.1 a3 x1.toNatClampNeg), .int (q2.2.1 x0 18)] q2 else none) (fun f => rfl) ?_
    refine OkF.grd (fun _ => ?_)
    refine OkF.eq 1 (Y := fun f => if (q2.2.1 x0 18) = (q2.2.1 a3 x1.toNatClampNeg) then rk px kx f (d + 3) 162 43 [some (.ref x0), some (.int x1), some (.int x2)] [] q2 else rk px kx f (d + 3) 162 53 [some (.ref x0), some (.int x1), some (.int x2)] [] q2) (fun f => rfl) ?_
    refine OkF.ite (fun _ => ?_) (fun _ => ?_)
    · refine OkF.eq 2 (Y := fun f => if oc q2 x0 12 = true then rk px kx f (d + 3) 162 47 [some (.ref x0), some (.int x1), some (.int x2)] [.int (q2.2.1 x0 20)] q2 else none) (fun f => rfl) ?_
      refine OkF.grd (fun _ => ?_)
      refine OkF.eq 1 (Y := fun f => if (q2.2.1 x0 20) ≤ 0 then rk px kx f (d + 3) 162 53 [some (.ref x0), some (.int x1), some (.int x2)] [] q2 else rk px kx f (d + 3) 162 50 [some (.ref x0), some (.int x1), some (.int x2)] [] q2) (fun f => rfl) ?_
      refine OkF.ite (fun _ => ?_) (fun _ => ?_)
      · exact OkF.kl (ls1 := [some (.ref x0), some (.int x1), none]) (fun f => rfl) (ob162_53 d k21 hk21 x0 x1 q2)
      · exact OkF.ret 2 (fun f => rfl)
    · exact OkF.kl (ls1 := [some (.ref x0), some (.int x1), none]) (fun f => rfl) (ob162_53 d k21 hk21 x0 x1 q2)
def l162_21 : Nat → Nat → Int32 → Int32 → Sx → Option (Int32 × Sx)
  | 0 => fun _ _ _ _ => none
  | n + 1 => fun x0 x1 x2 S => b162_21 (l162_21 n) x0 x1 x2 S
set_option maxRecDepth 100000 in
theorem ol162_21 (d : Nat) : ∀ (n : Nat) (x0 : Nat) (x1 : Int32) (x2 : Int32) (S : Sx), OkF wI (fun f => rk px kx f (d + 3) 162 21 [some (.ref x0), some (.int x1), some (.int x2)] [] S) (l162_21 n x0 x1 x2 S) := by
  intro n
  induction n with
  | zero => intro x0 x1 x2 S; exact OkF.no
  | succ n ih => intro x0 x1 x2 S; exact ob162_21 d (l162_21 n) ih x0 x1 x2 S
def m162 (x0 : Nat) (x1 : Int32) (S : Sx) : Option (Int32 × Sx) :=
  if oc S x0 12 = true then lt (sI S x0 18 (0 : Int32)) fun S4 => if oc S4 x0 12 = true then lt (sI S4 x0 20 (0 : Int32)) fun S5 => if oc S5 x0 12 = true then (m163 x0 x1 S5).bind fun q6 => if oc q6 x0 12 = true then (m165 x0 x1 q6).bind fun q7 => l162_21 1000 x0 x1 q7.1 q7.2 else none else none else none else none
set_option maxRecDepth 100000 in
theorem om162 (d : Nat) (x0 : Nat) (x1 : Int32) (S : Sx) : OkF wI (fun f => rk px kx f (d + 3) 162 0 [some (.ref x0), some (.int x1), none] [] S) (m162 x0 x1 S) := by
  unfold m162
  refine OkF.eq 3 (Y := fun f => if oc S x0 12 = true then rk px kx f (d + 3) 162 5 [some (.ref x0), some (.int x1), none] [] (sI S x0 18 (0 : Int32)) else none) (fun f => rfl) ?_
  refine OkF.grd (fun _ => ?_)
  refine OkF.nm (fun S4 => ?_)
  refine OkF.eq 3 (Y := fun f => if oc S4 x0 12 = true then rk px kx f (d + 3) 162 10 [some (.ref x0), some (.int x1), none] [] (sI S4 x0 20 (0 : Int32)) else none) (fun f => rfl) ?_
  refine OkF.grd (fun _ => ?_)
  refine OkF.nm (fun S5 => ?_)
  refine OkF.eq 3 (Y := fun f => if oc S5 x0 12 = true then (rk px kx f (d + 2) 163 0 [some (.ref x0), some (.int x1)] [] S5).bind (fun q => rk px kx f (d + 3) 162 15 [some (.ref x0), some (.int x1), none] (q.1.toList ++ []) q.2) else none) (fun f => rfl) ?_
  refine OkF.grd (fun _ => ?_)
  refine OkF.bind (w1 := wV) (om163 (d + 1) x0 x1 S5) (fun q6 => ?_)
  refine OkF.eq 3 (Y := fun f => if oc q6 x0 12 = true then (rk px kx f (d + 2) 165 0 [some (.ref x0), some (.int x1)] [] q6).bind (fun q => rk px kx f (d + 3) 162 20 [some (.ref x0), some (.int x1), none] (q.1.toList ++ []) q.2) else none) (fun f => rfl) ?_
  refine OkF.grd (fun _ => ?_)
  refine OkF.bind (w1 := wI) (om165 (d + 0) x0 x1 q6) (fun q7 => ?_)
  refine OkF.eq 1 (Y := fun f => rk px kx f (d + 3) 162 21 [some (.ref x0), some (.int x1), some (.int q7.1)] [] q7.2) (fun f => rfl) ?_
  exact OkF.kl (ls1 := [some (.ref x0), some (.int x1), some (.int q7.1)]) (fun f => rfl) (ol162_21 d 1000 x0 x1 q7.1 q7.2)
-- DoorSoldModel.fault(I)I
def m161 (x0 : Nat) (x1 : Int32) (S : Sx) : Option (Int32 × Sx) :=
  (m159 x1 S).bind fun q1 => if q1.1 = 0 then some ((-1 : Int32), q1.2) else if oc q1.2 x0 12 = true then (q1.2.2.2.2.1 x0 2).bind fun a2 => if inb x1 (al q1.2 a2) = true then if 0 ≤ (q1.2.2.1 a2 x1.toNatClampNeg) then if oc q1.2 x0 12 = true then (m162 x0 x1 q1.2).bind fun q3 => some (q3.1, q3.2) else none else if oc q1.2 x0 12 = true then (m151 x0 (1 : Int32) q1.2).bind fun q4 => some (q4.1, q4.2) else none else none else none
set_option maxRecDepth 100000 in
theorem om161 (d : Nat) (x0 : Nat) (x1 : Int32) (S : Sx) : OkF wI (fun f => rk px kx f (d + 4) 161 0 [some (.ref x0), some (.int x1)] [] S) (m161 x0 x1 S) := by
  unfold m161
  refine OkF.eq 2 (Y := fun f => (rk px kx f (d + 3) 159 0 [some (.int x1)] [] S).bind (fun q => rk px kx f (d + 4) 161 4 [some (.ref x0), some (.int x1)] (q.1.toList ++ []) q.2)) (fun f => rfl) ?_
  refine OkF.bind (w1 := wI) (om159 (d + 2) x1 S) (fun q1 => ?_)
  refine OkF.eq 1 (Y := fun f => if q1.1 = 0 then rk px kx f (d + 4) 161 7 [some (.ref x0), some (.int x1)] [] q1.2 else rk px kx f (d + 4) 161 9 [some (.ref x0), some (.int x1)] [] q1.2) (fun f => rfl) ?_
  refine OkF.ite (fun _ => ?_) (fun _ => ?_)
  · exact OkF.ret 2 (fun f => rfl)
  · refine OkF.eq 2 (Y := fun f => if oc q1.2 x0 12 = true then rk px kx f (d + 4) 161 13 [some (.ref x0), some (.int x1)] (va_rf (q1.2.2.2.2.1 x0 2) :: []) q1.2 else none) (fun f => rfl) ?_
    refine OkF.grd (fun _ => ?_)
    refine OkF.rf (fun a2 => ?_)
    refine OkF.eq 2 (Y := fun f => if inb x1 (al q1.2 a2) = true then rk px kx f (d + 4) 161 15 [some (.ref x0), some (.int x1)] [.int (q1.2.2.1 a2 x1.toNatClampNeg)] q1.2 else none) (fun f => rfl) ?_
    refine OkF.grd (fun _ => ?_)
    refine OkF.eq 1 (Y := fun f => if 0 ≤ (q1.2.2.1 a2 x1.toNatClampNeg) then rk px kx f (d + 4) 161 26 [some (.ref x0), some (.int x1)] [] q1.2 else rk px kx f (d + 4) 161 18 [some (.ref x0), some (.int x1)] [] q1.2) (fun f => rfl) ?_
    refine OkF.ite (fun _ => ?_) (fun _ => ?_)
    · refine OkF.eq 3 (Y := fun f => if oc q1.2 x0 12 = true then (rk px kx f (d + 3) 162 0 [some (.ref x0), some (.int x1), none] [] q1.2).bind (fun q => rk px kx f (d + 4) 161 31 [some (.ref x0), some (.int x1)] (q.1.toList ++ []) q.2) else none) (fun f => rfl) ?_
      refine OkF.grd (fun _ => ?_)
      refine OkF.bind (w1 := wI) (om162 (d + 0) x0 x1 q1.2) (fun q3 => ?_)
      exact OkF.ret 1 (fun f => rfl)
    · refine OkF.eq 3 (Y := fun f => if oc q1.2 x0 12 = true then (rk px kx f (d + 3) 151 0 [some (.ref x0), some (.int (1 : Int32))] [] q1.2).bind (fun q => rk px kx f (d + 4) 161 23 [some (.ref x0), some (.int x1)] (q.1.toList ++ []) q.2) else none) (fun f => rfl) ?_
      refine OkF.grd (fun _ => ?_)
      refine OkF.bind (w1 := wI) (om151 (d + 3) x0 (1 : Int32) q1.2) (fun q4 => ?_)
      exact OkF.ret 2 (fun f => rfl)
-- DoorSoldModel.country(I)I
def b169_174 (k174 : Nat → Int32 → Sx → Option (Int32 × Sx)) (x0 : Nat) (x2 : Int32) (S : Sx) : Option (Int32 × Sx) :=
  if (3 : Int32) ≤ x2 then if oc S x0 12 = true then some (S.2.1 x0 4, S) else none else if oc S x0 12 = true then (S.2.2.2.1 x0 12).bind fun a1 => if inb x2 (aw S 2 a1) = true then lt (sI S a1 x2.toNatClampNeg ((0 : Int32) &&& 1)) fun S2 => k174 x0 (x2 + (1 : Int32)) S2 else none else none
set_option maxRecDepth 100000 in
theorem ob169_174 (d : Nat) (k174 : Nat → Int32 → Sx → Option (Int32 × Sx)) (hk174 : ∀ (x0 : Nat) (x2 : Int32) (S : Sx), OkF wI (fun f => rk px kx f (d + 4) 169 174 [some (.ref x0), none, some (.int x2)] [] S) (k174 x0 x2 S)) (x0 : Nat) (x2 : Int32) (S : Sx) : OkF wI (fun f => rk px kx f (d + 4) 169 174 [some (.ref x0), none, some (.int x2)] [] S) (b169_174 k174 x0 x2 S) := by
  unfold b169_174
  refine OkF.eq 3 (Y := fun f => if (3 : Int32) ≤ x2 then rk px kx f (d + 4) 169 192 [some (.ref x0), none, some (.int x2)] [] S else rk px kx f (d + 4) 169 179 [some (.ref x0), none, some (.int x2)] [] S) (fun f => rfl) ?_
  refine OkF.ite (fun _ => ?_) (fun _ => ?_)
  · refine OkF.eq 2 (Y := fun f => if oc S x0 12 = true then rk px kx f (d + 4) 169 196 [some (.ref x0), none, some (.int x2)] [.int (S.2.1 x0 4)] S else none) (fun f => rfl) ?_
    refine OkF.grd (fun _ => ?_)
    exact OkF.ret 1 (fun f => rfl)
  · refine OkF.eq 2 (Y := fun f => if oc S x0 12 = true then rk px kx f (d + 4) 169 183 [some (.ref x0), none, some (.int x2)] (va_rf (S.2.2.2.1 x0 12) :: []) S else none) (fun f => rfl) ?_
    refine OkF.grd (fun _ => ?_)
    refine OkF.rf (fun a1 => ?_)
    refine OkF.eq 3 (Y := fun f => if inb x2 (aw S 2 a1) = true then rk px kx f (d + 4) 169 186 [some (.ref x0), none, some (.int x2)] [] (sI S a1 x2.toNatClampNeg ((0 : Int32) &&& 1)) else none) (fun f => rfl) ?_
    refine OkF.grd (fun _ => ?_)
    refine OkF.nm (fun S2 => ?_)
    refine OkF.eq 2 (Y := fun f => rk px kx f (d + 4) 169 174 [some (.ref x0), none, some (.int (x2 + (1 : Int32)))] [] S2) (fun f => rfl) ?_
    exact OkF.kl (ls1 := [some (.ref x0), none, some (.int (x2 + (1 : Int32)))]) (fun f => rfl) (hk174 x0 (x2 + (1 : Int32)) S2)
def l169_174 : Nat → Nat → Int32 → Sx → Option (Int32 × Sx)
  | 0 => fun _ _ _ => none
  | n + 1 => fun x0 x2 S => b169_174 (l169_174 n) x0 x2 S
set_option maxRecDepth 100000 in
theorem ol169_174 (d : Nat) : ∀ (n : Nat) (x0 : Nat) (x2 : Int32) (S : Sx), OkF wI (fun f => rk px kx f (d + 4) 169 174 [some (.ref x0), none, some (.int x2)] [] S) (l169_174 n x0 x2 S) := by
  intro n
  induction n with
  | zero => intro x0 x2 S; exact OkF.no
  | succ n ih => intro x0 x2 S; exact ob169_174 d (l169_174 n) ih x0 x2 S
def b169_86 (k86 : Nat → Int32 → Sx → Option (Int32 × Sx)) (x0 : Nat) (x2 : Int32) (S : Sx) : Option (Int32 × Sx) :=
  if oc S x0 12 = true then if (S.2.1 x0 4) ≤ x2 then if oc S x0 12 = true then lt (sI S x0 9 (0 : Int32)) fun S3 => l169_174 1000 x0 (0 : Int32) S3 else none else if oc S x0 12 = true then (S.2.2.2.1 x0 6).bind fun a4 => if oc S x0 12 = true then (S.2.2.2.1 x0 22).bind fun a5 => if inb ((4 : Int32) * x2) (al S a5) = true then if inb x2 (aw S 1 a4) = true then lt (sI S a4 x2.toNatClampNeg (S.2.1 a5 ((4 : Int32) * x2).toNatClampNeg)) fun S6 => if oc S6 x0 12 = true then (S6.2.2.2.1 x0 8).bind fun a7 => if oc S6 x0 12 = true then (S6.2.2.2.1 x0 22).bind fun a8 => if inb (((4 : Int32) * x2) + (1 : Int32)) (al S6 a8) = true then if inb ((4 : Int32) + x2) (aw S6 1 a7) = true then lt (sI S6 a7 ((4 : Int32) + x2).toNatClampNeg (S6.2.1 a8 (((4 : Int32) * x2) + (1 : Int32)).toNatClampNeg)) fun S9 => if oc S9 x0 12 = true then (S9.2.2.2.1 x0 8).bind fun a10 => if oc S9 x0 12 = true then (S9.2.2.2.1 x0 22).bind fun a11 => if inb (((4 : Int32) * x2) + (2 : Int32)) (al S9 a11) = true then if inb ((10 : Int32) + x2) (aw S9 1 a10) = true then lt (sI S9 a10 ((10 : Int32) + x2).toNatClampNeg (S9.2.1 a11 (((4 : Int32) * x2) + (2 : Int32)).toNatClampNeg)) fun S12 => if oc S12 x0 12 = true then (S12.2.2.2.1 x0 7).bind fun a13 => if oc S12 x0 12 = true then (S12.2.2.2.1 x0 22).bind fun a14 => if inb (((4 : Int32) * x2) + (3 : Int32)) (al S12 a14) = true then if inb x2 (aw S12 1 a13) = true then lt (sI S12 a13 x2.toNatClampNeg (S12.2.1 a14 (((4 : Int32) * x2) + (3 : Int32)).toNatClampNeg)) fun S15 => k86 x0 (x2 + (1 : Int32)) S15 else none else none else none else none else none else none else none else none else none else none else none else none else none else none else none else none else none
set_option maxRecDepth 100000 in
theorem ob169_86 (d : Nat) (k86 : Nat → Int32 → Sx → Option (Int32 × Sx)) (hk86 : ∀ (x0 : Nat) (x2 : Int32) (S : Sx), OkF wI (fun f => rk px kx f (d + 4) 169 86 [some (.ref x0), none, some (.int x2)] [] S) (k86 x0 x2 S)) (x0 : Nat) (x2 : Int32) (S : Sx) : OkF wI (fun f => rk px kx f (d + 4) 169 86 [some (.ref x0), none, some (.int x2)] [] S) (b169_86 k86 x0 x2 S) := by
  unfold b169_86
  refine OkF.eq 3 (Y := fun f => if oc S x0 12 = true then rk px kx f (d + 4) 169 91 [some (.ref x0), none, some (.int x2)] [.int (S.2.1 x0 4), .int x2] S else none) (fun f => rfl) ?_
  refine OkF.grd (fun _ => ?_)
  refine OkF.eq 1 (Y := fun f => if (S.2.1 x0 4) ≤ x2 then rk px kx f (d + 4) 169 167 [some (.ref x0), none, some (.int x2)] [] S else rk px kx f (d + 4) 169 94 [some (.ref x0), none, some (.int x2)] [] S) (fun f => rfl) ?_
  refine OkF.ite (fun _ => ?_) (fun _ => ?_)
  · refine OkF.eq 3 (Y := fun f => if oc S x0 12 = true then rk px kx f (d + 4) 169 172 [some (.ref x0), none, some (.int x2)] [] (sI S x0 9 (0 : Int32)) else none) (fun f => rfl) ?_
    refine OkF.grd (fun _ => ?_)
    refine OkF.nm (fun S3 => ?_)
    refine OkF.eq 2 (Y := fun f => rk px kx f (d + 4) 169 174 [some (.ref x0), none, some (.int (0 : Int32))] [] S3) (fun f => rfl) ?_
    exact OkF.kl (ls1 := [some (.ref x0), none, some (.int (0 : Int32))]) (fun f => rfl) (ol169_174 d 1000 x0 (0 : Int32) S3)
  · refine OkF.eq 2 (Y := fun f => if oc S x0 12 = true then rk px kx f (d + 4) 169 98 [some (.ref x0), none, some (.int x2)] (va_rf (S.2.2.2.1 x0 6) :: []) S else none) (fun f => rfl) ?_
    refine OkF.grd (fun _ => ?_)
    refine OkF.rf (fun a4 => ?_)
    refine OkF.eq 3 (Y := fun f => if oc S x0 12 = true then rk px kx f (d + 4) 169 103 [some (.ref x0), none, some (.int x2)] (va_rf (S.2.2.2.1 x0 22) :: [.int x2, .ref a4]) S else none) (fun f => rfl) ?_
    refine OkF.grd (fun _ => ?_)
    refine OkF.rf (fun a5 => ?_)
    refine OkF.eq 4 (Y := fun f => if inb ((4 : Int32) * x2) (al S a5) = true then rk px kx f (d + 4) 169 107 [some (.ref x0), none, some (.int x2)] [.int (S.2.1 a5 ((4 : Int32) * x2).toNatClampNeg), .int x2, .ref a4] S else none) (fun f => rfl) ?_
    refine OkF.grd (fun _ => ?_)
    refine OkF.eq 1 (Y := fun f => if inb x2 (aw S 1 a4) = true then rk px kx f (d + 4) 169 108 [some (.ref x0), none, some (.int x2)] [] (sI S a4 x2.toNatClampNeg (S.2.1 a5 ((4 : Int32) * x2).toNatClampNeg)) else none) (fun f => rfl) ?_
    refine OkF.grd (fun _ => ?_)
    refine OkF.nm (fun S6 => ?_)
    refine OkF.eq 2 (Y := fun f => if oc S6 x0 12 = true then rk px kx f (d + 4) 169 112 [some (.ref x0), none, some (.int x2)] (va_rf (S6.2.2.2.1 x0 8) :: []) S6 else none) (fun f => rfl) ?_
    refine OkF.grd (fun _ => ?_)
    refine OkF.rf (fun a7 => ?_)
    refine OkF.eq 5 (Y := fun f => if oc S6 x0 12 = true then rk px kx f (d + 4) 169 119 [some (.ref x0), none, some (.int x2)] (va_rf (S6.2.2.2.1 x0 22) :: [.int ((4 : Int32) + x2), .ref a7]) S6 else none) (fun f => rfl) ?_
    refine OkF.grd (fun _ => ?_)
    refine OkF.rf (fun a8 => ?_)
    refine OkF.eq 6 (Y := fun f => if inb (((4 : Int32) * x2) + (1 : Int32)) (al S6 a8) = true then rk px kx f (d + 4) 169 125 [some (.ref x0), none, some (.int x2)] [.int (S6.2.1 a8 (((4 : Int32) * x2) + (1 : Int32)).toNatClampNeg), .int ((4 : Int32) + x2), .ref a7] S6 else none) (fun f => rfl) ?_
    refine OkF.grd (fun _ => ?_)
    refine OkF.eq 1 (Y := fun f => if inb ((4 : Int32) + x2) (aw S6 1 a7) = true then rk px kx f (d + 4) 169 126 [some (.ref x0), none, some (.int x2)] [] (sI S6 a7 ((4 : Int32) + x2).toNatClampNeg (S6.2.1 a8 (((4 : Int32) * x2) + (1 : Int32)).toNatClampNeg)) else none) (fun f => rfl) ?_
    refine OkF.grd (fun _ => ?_)
    refine OkF.nm (fun S9 => ?_)
    refine OkF.eq 2 (Y := fun f => if oc S9 x0 12 = true then rk px kx f (d + 4) 169 130 [some (.ref x0), none, some (.int x2)] (va_rf (S9.2.2.2.1 x0 8) :: []) S9 else none) (fun f => rfl) ?_
    refine OkF.grd (fun _ => ?_)
    refine OkF.rf (fun a10 => ?_)
    refine OkF.eq 5 (Y := fun f => if oc S9 x0 12 = true then rk px kx f (d + 4) 169 138 [some (.ref x0), none, some (.int x2)] (va_rf (S9.2.2.2.1 x0 22) :: [.int ((10 : Int32) + x2), .ref a10]) S9 else none) (fun f => rfl) ?_
    refine OkF.grd (fun _ => ?_)
    refine OkF.rf (fun a11 => ?_)
    refine OkF.eq 6 (Y := fun f => if inb (((4 : Int32) * x2) + (2 : Int32)) (al S9 a11) = true then rk px kx f (d + 4) 169 144 [some (.ref x0), none, some (.int x2)] [.int (S9.2.1 a11 (((4 : Int32) * x2) + (2 : Int32)).toNatClampNeg), .int ((10 : Int32) + x2), .ref a10] S9 else none) (fun f => rfl) ?_
    refine OkF.grd (fun _ => ?_)
    refine OkF.eq 1 (Y := fun f => if inb ((10 : Int32) + x2) (aw S9 1 a10) = true then rk px kx f (d + 4) 169 145 [some (.ref x0), none, some (.int x2)] [] (sI S9 a10 ((10 : Int32) + x2).toNatClampNeg (S9.2.1 a11 (((4 : Int32) * x2) + (2 : Int32)).toNatClampNeg)) else none) (fun f => rfl) ?_
    refine OkF.grd (fun _ => ?_)
    refine OkF.nm (fun S12 => ?_)
    refine OkF.eq 2 (Y := fun f => if oc S12 x0 12 = true then rk px kx f (d + 4) 169 149 [some (.ref x0), none, some (.int x2)] (va_rf (S12.2.2.2.1 x0 7) :: []) S12 else none) (fun f => rfl) ?_
    refine OkF.grd (fun _ => ?_)
    refine OkF.rf (fun a13 => ?_)
    refine OkF.eq 3 (Y := fun f => if oc S12 x0 12 = true then rk px kx f (d + 4) 169 154 [some (.ref x0), none, some (.int x2)] (va_rf (S12.2.2.2.1 x0 22) :: [.int x2, .ref a13]) S12 else none) (fun f => rfl) ?_
    refine OkF.grd (fun _ => ?_)
    refine OkF.rf (fun a14 => ?_)
    refine OkF.eq 6 (Y := fun f => if inb (((4 : Int32) * x2) + (3 : Int32)) (al S12 a14) = true then rk px kx f (d + 4) 169 160 [some (.ref x0), none, some (.int x2)] [.int (S12.2.1 a14 (((4 : Int32) * x2) + (3 : Int32)).toNatClampNeg), .int x2, .ref a13] S12 else none) (fun f => rfl) ?_
    refine OkF.grd (fun _ => ?_)
    refine OkF.eq 1 (Y := fun f => if inb x2 (aw S12 1 a13) = true then rk px kx f (d + 4) 169 161 [some (.ref x0), none, some (.int x2)] [] (sI S12 a13 x2.toNatClampNeg (S12.2.1 a14 (((4 : Int32) * x2) + (3 : Int32)).toNatClampNeg)) else none) (fun f => rfl) ?_
    refine OkF.grd (fun _ => ?_)
    refine OkF.nm (fun S15 => ?_)
    refine OkF.eq 2 (Y := fun f => rk px kx f (d + 4) 169 86 [some (.ref x0), none, some (.int (x2 + (1 : Int32)))] [] S15) (fun f => rfl) ?_
    exact OkF.kl (ls1 := [some (.ref x0), none, some (.int (x2 + (1 : Int32)))]) (fun f => rfl) (hk86 x0 (x2 + (1 : Int32)) S15)
def l169_86 : Nat → Nat → Int32 → Sx → Option (Int32 × Sx)
  | 0 => fun _ _ _ => none
  | n + 1 => fun x0 x2 S => b169_86 (l169_86 n) x0 x2 S
set_option maxRecDepth 100000 in
theorem ol169_86 (d : Nat) : ∀ (n : Nat) (x0 : Nat) (x2 : Int32) (S : Sx), OkF wI (fun f => rk px kx f (d + 4) 169 86 [some (.ref x0), none, some (.int x2)] [] S) (l169_86 n x0 x2 S) := by
  intro n
  induction n with
  | zero => intro x0 x2 S; exact OkF.no
  | succ n ih => intro x0 x2 S; exact ob169_86 d (l169_86 n) ih x0 x2 S
def b169_55 (k55 : Nat → Int32 → Sx → Option (Int32 × Sx)) (x0 : Nat) (x2 : Int32) (S : Sx) : Option (Int32 × Sx) :=
  if (16 : Int32) ≤ x2 then if oc S x0 12 = true then (S.2.2.2.1 x0 8).bind fun a16 => if oc S x0 12 = true then if inb (2 : Int32) (aw S 1 a16) = true then lt (sI S a16 (2 : Int32).toNatClampNeg (S.2.1 x0 21)) fun S17 => l169_86 1000 x0 (0 : Int32) S17 else none else none else none else if oc S x0 12 = true then (S.2.2.2.1 x0 8).bind fun a18 => if inb x2 (aw S 1 a18) = true then lt (sI S a18 x2.toNatClampNeg (0 : Int32)) fun S19 => k55 x0 (x2 + (1 : Int32)) S19 else none else none
set_option maxRecDepth 100000 in
theorem ob169_55 (d : Nat) (k55 : Nat → Int32 → Sx → Option (Int32 × Sx)) (hk55 : ∀ (x0 : Nat) (x2 : Int32) (S : Sx), OkF wI (fun f => rk px kx f (d + 4) 169 55 [some (.ref x0), none, some (.int x2)] [] S) (k55 x0 x2 S)) (x0 : Nat) (x2 : Int32) (S : Sx) : OkF wI (fun f => rk px kx f (d + 4) 169 55 [some (.ref x0), none, some (.int x2)] [] S) (b169_55 k55 x0 x2 S) := by
  unfold b169_55
  refine OkF.eq 3 (Y := fun f => if (16 : Int32) ≤ x2 then rk px kx f (d + 4) 169 74 [some (.ref x0), none, some (.int x2)] [] S else rk px kx f (d + 4) 169 61 [some (.ref x0), none, some (.int x2)] [] S) (fun f => rfl) ?_
  refine OkF.ite (fun _ => ?_) (fun _ => ?_)
  · refine OkF.eq 2 (Y := fun f => if oc S x0 12 = true then rk px kx f (d + 4) 169 78 [some (.ref x0), none, some (.int x2)] (va_rf (S.2.2.2.1 x0 8) :: []) S else none) (fun f => rfl) ?_
    refine OkF.grd (fun _ => ?_)
    refine OkF.rf (fun a16 => ?_)
    refine OkF.eq 3 (Y := fun f => if oc S x0 12 = true then rk px kx f (d + 4) 169 83 [some (.ref x0), none, some (.int x2)] [.int (S.2.1 x0 21), .int (2 : Int32), .ref a16] S else none) (fun f => rfl) ?_
    refine OkF.grd (fun _ => ?_)
    refine OkF.eq 1 (Y := fun f => if inb (2 : Int32) (aw S 1 a16) = true then rk px kx f (d + 4) 169 84 [some (.ref x0), none, some (.int x2)] [] (sI S a16 (2 : Int32).toNatClampNeg (S.2.1 x0 21)) else none) (fun f => rfl) ?_
    refine OkF.grd (fun _ => ?_)
    refine OkF.nm (fun S17 => ?_)
    refine OkF.eq 2 (Y := fun f => rk px kx f (d + 4) 169 86 [some (.ref x0), none, some (.int (0 : Int32))] [] S17) (fun f => rfl) ?_
    exact OkF.kl (ls1 := [some (.ref x0), none, some (.int (0 : Int32))]) (fun f => rfl) (ol169_86 d 1000 x0 (0 : Int32) S17)
  · refine OkF.eq 2 (Y := fun f => if oc S x0 12 = true then rk px kx f (d + 4) 169 65 [some (.ref x0), none, some (.int x2)] (va_rf (S.2.2.2.1 x0 8) :: []) S else none) (fun f => rfl) ?_
    refine OkF.grd (fun _ => ?_)
    refine OkF.rf (fun a18 => ?_)
    refine OkF.eq 3 (Y := fun f => if inb x2 (aw S 1 a18) = true then rk px kx f (d + 4) 169 68 [some (.ref x0), none, some (.int x2)] [] (sI S a18 x2.toNatClampNeg (0 : Int32)) else none) (fun f => rfl) ?_
    refine OkF.grd (fun _ => ?_)
    refine OkF.nm (fun S19 => ?_)
    refine OkF.eq 2 (Y := fun f => rk px kx f (d + 4) 169 55 [some (.ref x0), none, some (.int (x2 + (1 : Int32)))] [] S19) (fun f => rfl) ?_
    exact OkF.kl (ls1 := [some (.ref x0), none, some (.int (x2 + (1 : Int32)))]) (fun f => rfl) (hk55 x0 (x2 + (1 : Int32)) S19)
def l169_55 : Nat → Nat → Int32 → Sx → Option (Int32 × Sx)
  | 0 => fun _ _ _ => none
  | n + 1 => fun x0 x2 S => b169_55 (l169_55 n) x0 x2 S
set_option maxRecDepth 100000 in
theorem ol169_55 (d : Nat) : ∀ (n : Nat) (x0 : Nat) (x2 : Int32) (S : Sx), OkF wI (fun f => rk px kx f (d + 4) 169 55 [some (.ref x0), none, some (.int x2)] [] S) (l169_55 n x0 x2 S) := by
  intro n
  induction n with
  | zero => intro x0 x2 S; exact OkF.no
  | succ n ih => intro x0 x2 S; exact ob169_55 d (l169_55 n) ih x0 x2 S
def m169 (x0 : Nat) (x1 : Int32) (S : Sx) : Option (Int32 × Sx) :=
  (m159 x1 S).bind fun q20 => if q20.1 = 0 then some ((-1 : Int32), q20.2) else if oc q20.2 x0 12 = true then (q20.2.2.2.2.1 x0 2).bind fun a21 => if inb x1 (al q20.2 a21) = true then if 0 ≤ (q20.2.2.1 a21 x1.toNatClampNeg) then if oc q20.2 x0 12 = true then (m162 x0 x1 q20.2).bind fun q22 => if q22.1 = (-9 : Int32) then if oc q22.2 x0 12 = true then if oc q22.2 x0 12 = true then lt (sI q22.2 x0 4 (q22.2.2.1 x0 20)) fun S23 => if oc S23 x0 12 = true then if oc S23 x0 12 = true then lt (sI S23 x0 5 (S23.2.1 x0 19)) fun S24 => l169_55 1000 x0 (0 : Int32) S24 else none else none else none else none else some ((-4 : Int32), q22.2) else none else if oc q20.2 x0 12 = true then (m151 x0 (1 : Int32) q20.2).bind fun q25 => some (q25.1, q25.2) else none else none else none
set_option maxRecDepth 100000 in
theorem om169 (d : Nat) (x0 : Nat) (x1 : Int32) (S : Sx) : OkF wI (fun f => rk px kx f (d + 4) 169 0 [some (.ref x0), some (.int x1), none] [] S) (m169 x0 x1 S) := by
  unfold m169
  refine OkF.eq 2 (Y := fun f => (rk px kx f (d + 3) 159 0 [some (.int x1)] [] S).bind (fun q => rk px kx f (d + 4) 169 4 [some (.ref x0), some (.int x1), none] (q.1.toList ++ []) q.2)) (fun f => rfl) ?_
  refine OkF.bind (w1 := wI) (om159 (d + 2) x1 S) (fun q20 => ?_)
  refine OkF.eq 1 (Y := fun f => if q20.1 = 0 then rk px kx f (d + 4) 169 7 [some (.ref x0), some (.int x1), none] [] q20.2 else rk px kx f (d + 4) 169 9 [some (.ref x0), some (.int x1), none] [] q20.2) (fun f => rfl) ?_
  refine OkF.ite (fun _ => ?_) (fun _ => ?_)
  · exact OkF.ret 2 (fun f => rfl)
  · refine OkF.eq 2 (Y := fun f => if oc q20.2 x0 12 = true then rk px kx f (d + 4) 169 13 [some (.ref x0), some (.int x1), none] (va_rf (q20.2.2.2.2.1 x0 2) :: []) q20.2 else none) (fun f => rfl) ?_
    refine OkF.grd (fun _ => ?_)
    refine OkF.rf (fun a21 => ?_)
    refine OkF.eq 2 (Y := fun f => if inb x1 (al q20.2 a21) = true then rk px kx f (d + 4) 169 15 [some (.ref x0), some (.int x1), none] [.int (q20.2.2.1 a21 x1.toNatClampNeg)] q20.2 else none) (fun f => rfl) ?_
    refine OkF.grd (fun _ => ?_)
    refine OkF.eq 1 (Y := fun f => if 0 ≤ (q20.2.2.1 a21 x1.toNatClampNeg) then rk px kx f (d + 4) 169 24 [some (.ref x0), some (.int x1), none] [] q20.2 else rk px kx f (d + 4) 169 18 [some (.ref x0), some (.int x1), none] [] q20.2) (fun f => rfl) ?_
    refine OkF.ite (fun _ => ?_) (fun _ => ?_)
    · refine OkF.eq 3 (Y := fun f => if oc q20.2 x0 12 = true then (rk px kx f (d + 3) 162 0 [some (.ref x0), some (.int x1), none] [] q20.2).bind (fun q => rk px kx f (d + 4) 169 29 [some (.ref x0), some (.int x1), none] (q.1.toList ++ []) q.2) else none) (fun f => rfl) ?_
      refine OkF.grd (fun _ => ?_)
      refine OkF.bind (w1 := wI) (om162 (d + 0) x0 x1 q20.2) (fun q22 => ?_)
      refine OkF.eq 2 (Y := fun f => if q22.1 = (-9 : Int32) then rk px kx f (d + 4) 169 37 [some (.ref x0), some (.int x1), none] [] q22.2 else rk px kx f (d + 4) 169 34 [some (.ref x0), some (.int x1), none] [] q22.2) (fun f => rfl) ?_
      refine OkF.ite (fun _ => ?_) (fun _ => ?_)
      · refine OkF.eq 3 (Y := fun f => if oc q22.2 x0 12 = true then rk px kx f (d + 4) 169 42 [some (.ref x0), some (.int x1), none] [.int (q22.2.2.1 x0 20), .ref x0] q22.2 else none) (fun f => rfl) ?_
        refine OkF.grd (fun _ => ?_)
        refine OkF.eq 1 (Y := fun f => if oc q22.2 x0 12 = true then rk px kx f (d + 4) 169 45 [some (.ref x0), some (.int x1), none] [] (sI q22.2 x0 4 (q22.2.2.1 x0 20)) else none) (fun f => rfl) ?_
        refine OkF.grd (fun _ => ?_)
        refine OkF.nm (fun S23 => ?_)
        refine OkF.eq 3 (Y := fun f => if oc S23 x0 12 = true then rk px kx f (d + 4) 169 50 [some (.ref x0), some (.int x1), none] [.int (S23.2.1 x0 19), .ref x0] S23 else none) (fun f => rfl) ?_
        refine OkF.grd (fun _ => ?_)
        refine OkF.eq 1 (Y := fun f => if oc S23 x0 12 = true then rk px kx f (d + 4) 169 53 [some (.ref x0), some (.int x1), none] [] (sI S23 x0 5 (S23.2.1 x0 19)) else none) (fun f => rfl) ?_
        refine OkF.grd (fun _ => ?_)
        refine OkF.nm (fun S24 => ?_)
        refine OkF.eq 2 (Y := fun f => rk px kx f (d + 4) 169 55 [some (.ref x0), some (.int x1), some (.int (0 : Int32))] [] S24) (fun f => rfl) ?_
        exact OkF.kl (ls1 := [some (.ref x0), none, some (.int (0 : Int32))]) (fun f => rfl) (ol169_55 d 1000 x0 (0 : Int32) S24)
      · exact OkF.ret 2 (fun f => rfl)
    · refine OkF.eq 3 (Y := fun f => if oc q20.2 x0 12 = true then (rk px kx f (d + 3) 151 0 [some (.ref x0), some (.int (1 : Int32))] [] q20.2).bind (fun q => rk px kx f (d + 4) 169 23 [some (.ref x0), some (.int x1), none] (q.1.toList ++ []) q.2) else none) (fun f => rfl) ?_
      refine OkF.grd (fun _ => ?_)
      refine OkF.bind (w1 := wI) (om151 (d + 3) x0 (1 : Int32) q20.2) (fun q25 => ?_)
      exact OkF.ret 1 (fun f => rfl)
-- DoorSoldModel.isDoor(I)Z
def m171 (x0 : Nat) (x1 : Int32) (S : Sx) : Option (Int32 × Sx) :=
  if oc S x0 12 = true then (m150 x1.toInt64 (0 : Int64) (((S.2.1 x0 4) - (1 : Int32)).toInt64) S).bind fun q1 => some (q1.1 &&& 1, q1.2) else none
set_option maxRecDepth 100000 in
theorem om171 (d : Nat) (x0 : Nat) (x1 : Int32) (S : Sx) : OkF wI (fun f => rk px kx f (d + 1) 171 0 [some (.ref x0), some (.int x1)] [] S) (m171 x0 x1 S) := by
  unfold m171
  refine OkF.eq 5 (Y := fun f => if oc S x0 12 = true then rk px kx f (d + 1) 171 7 [some (.ref x0), some (.int x1)] [.int (S.2.1 x0 4), .long (0 : Int64), .long x1.toInt64] S else none) (fun f => rfl) ?_
  refine OkF.grd (fun _ => ?_)
  refine OkF.eq 4 (Y := fun f => (rk px kx f (d + 0) 150 0 [some (.long x1.toInt64), none, some (.long (0 : Int64)), none, some (.long (((S.2.1 x0 4) - (1 : Int32)).toInt64)), none] [] S).bind (fun q => rk px kx f (d + 1) 171 13 [some (.ref x0), some (.int x1)] (q.1.toList ++ []) q.2)) (fun f => rfl) ?_
  refine OkF.bind (w1 := wI) (om150 (d + 0) x1.toInt64 (0 : Int64) (((S.2.1 x0 4) - (1 : Int32)).toInt64) S) (fun q1 => ?_)
  exact OkF.ret 1 (fun f => rfl)
-- DoorSoldModel.costOf(I)I
def m173 (x0 : Nat) (x1 : Int32) (S : Sx) : Option (Int32 × Sx) :=
  if oc S x0 12 = true then (S.2.2.2.1 x0 6).bind fun a1 => if inb x1 (al S a1) = true then if (S.2.1 a1 x1.toNatClampNeg) = (2 : Int32) then (if oc S x0 12 = true then (S.2.2.2.1 x0 7).bind fun a2 => if inb x1 (al S a2) = true then if (2 : Int32) = 0 then none else some ((S.2.1 a2 x1.toNatClampNeg) / (2 : Int32), S) else none else none) else if (S.2.1 a1 x1.toNatClampNeg) = (3 : Int32) then (some ((1 : Int32), S)) else if (S.2.1 a1 x1.toNatClampNeg) = (4 : Int32) then (if oc S x0 12 = true then (S.2.2.2.1 x0 7).bind fun a3 => if inb x1 (al S a3) = true then if (2 : Int32) = 0 then none else some (((S.2.1 a3 x1.toNatClampNeg) / (2 : Int32)) + (3 : Int32), S) else none else none) else if oc S x0 12 = true then (S.2.2.2.1 x0 7).bind fun a4 => if inb x1 (al S a4) = true then some (S.2.1 a4 x1.toNatClampNeg, S) else none else none else none else none
set_option maxRecDepth 100000 in
theorem om173 (d : Nat) (x0 : Nat) (x1 : Int32) (S : Sx) : OkF wI (fun f => rk px kx f (d + 0) 173 0 [some (.ref x0), some (.int x1)] [] S) (m173 x0 x1 S) := by
  unfold m173
  refine OkF.eq 2 (Y := fun f => if oc S x0 12 = true then rk px kx f (d + 0) 173 4 [some (.ref x0), some (.int x1)] (va_rf (S.2.2.2.1 x0 6) :: []) S else none) (fun f => rfl) ?_
  refine OkF.grd (fun _ => ?_)
  refine OkF.rf (fun a1 => ?_)
  refine OkF.eq 2 (Y := fun f => if inb x1 (al S a1) = true then rk px kx f (d + 0) 173 6 [some (.ref x0), some (.int x1)] [.int (S.2.1 a1 x1.toNatClampNeg)] S else none) (fun f => rfl) ?_
  refine OkF.grd (fun _ => ?_)
  refine OkF.eq 1 (Y := fun f => if (S.2.1 a1 x1.toNatClampNeg) = (2 : Int32) then rk px kx f (d + 0) 173 32 [some (.ref x0), some (.int x1)] [] S else if (S.2.1 a1 x1.toNatClampNeg) = (3 : Int32) then rk px kx f (d + 0) 173 52 [some (.ref x0), some (.int x1)] [] S else if (S.2.1 a1 x1.toNatClampNeg) = (4 : Int32) then rk px kx f (d + 0) 173 41 [some (.ref x0), some (.int x1)] [] S else rk px kx f (d + 0) 173 54 [some (.ref x0), some (.int x1)] [] S) (fun f => rfl) ?_
  refine OkF.ite (fun _ => ?_) (fun _ => ?_)
  · refine OkF.eq 2 (Y := fun f => if oc S x0 12 = true then rk px kx f (d + 0) 173 36 [some (.ref x0), some (.int x1)] (va_rf (S.2.2.2.1 x0 7) :: []) S else none) (fun f => rfl) ?_
    refine OkF.grd (fun _ => ?_)
    refine OkF.rf (fun a2 => ?_)
    refine OkF.eq 2 (Y := fun f => if inb x1 (al S a2) = true then rk px kx f (d + 0) 173 38 [some (.ref x0), some (.int x1)] [.int (S.2.1 a2 x1.toNatClampNeg)] S else none) (fun f => rfl) ?_
    refine OkF.grd (fun _ => ?_)
    refine OkF.eq 2 (Y := fun f => if (2 : Int32) = 0 then none else rk px kx f (d + 0) 173 40 [some (.ref x0), some (.int x1)] [.int ((S.2.1 a2 x1.toNatClampNeg) / (2 : Int32))] S) (fun f => rfl) ?_
    refine OkF.ngr (fun _ => ?_)
    exact OkF.ret 1 (fun f => rfl)
  refine OkF.ite (fun _ => ?_) (fun _ => ?_)
  · exact OkF.ret 2 (fun f => rfl)
  refine OkF.ite (fun _ => ?_) (fun _ => ?_)
  · refine OkF.eq 2 (Y := fun f => if oc S x0 12 = true then rk px kx f (d + 0) 173 45 [some (.ref x0), some (.int x1)] (va_rf (S.2.2.2.1 x0 7) :: []) S else none) (fun f => rfl) ?_
    refine OkF.grd (fun _ => ?_)
    refine OkF.rf (fun a3 => ?_)
    refine OkF.eq 2 (Y := fun f => if inb x1 (al S a3) = true then rk px kx f (d + 0) 173 47 [some (.ref x0), some (.int x1)] [.int (S.2.1 a3 x1.toNatClampNeg)] S else none) (fun f => rfl) ?_
    refine OkF.grd (fun _ => ?_)
    refine OkF.eq 2 (Y := fun f => if (2 : Int32) = 0 then none else rk px kx f (d + 0) 173 49 [some (.ref x0), some (.int x1)] [.int ((S.2.1 a3 x1.toNatClampNeg) / (2 : Int32))] S) (fun f => rfl) ?_
    refine OkF.ngr (fun _ => ?_)
    exact OkF.ret 3 (fun f => rfl)
  refine OkF.eq 2 (Y := fun f => if oc S x0 12 = true then rk px kx f (d + 0) 173 58 [some (.ref x0), some (.int x1)] (va_rf (S.2.2.2.1 x0 7) :: []) S else none) (fun f => rfl) ?_
  refine OkF.grd (fun _ => ?_)
  refine OkF.rf (fun a4 => ?_)
  refine OkF.eq 2 (Y := fun f => if inb x1 (al S a4) = true then rk px kx f (d + 0) 173 60 [some (.ref x0), some (.int x1)] [.int (S.2.1 a4 x1.toNatClampNeg)] S else none) (fun f => rfl) ?_
  refine OkF.grd (fun _ => ?_)
  exact OkF.ret 1 (fun f => rfl)
-- DoorSoldModel.isBack(I)Z
def m176 (x0 : Int32) (S : Sx) : Option (Int32 × Sx) :=
  if x0 = (2 : Int32) then some ((1 : Int32), S) else if x0 = (4 : Int32) then some ((1 : Int32), S) else some ((0 : Int32), S)
set_option maxRecDepth 100000 in
theorem om176 (d : Nat) (x0 : Int32) (S : Sx) : OkF wI (fun f => rk px kx f (d + 0) 176 0 [some (.int x0)] [] S) (m176 x0 S) := by
  unfold m176
  refine OkF.eq 3 (Y := fun f => if x0 = (2 : Int32) then rk px kx f (d + 0) 176 10 [some (.int x0)] [] S else rk px kx f (d + 0) 176 5 [some (.int x0)] [] S) (fun f => rfl) ?_
  refine OkF.ite (fun _ => ?_) (fun _ => ?_)
  · exact OkF.ret 3 (fun f => rfl)
  · refine OkF.eq 3 (Y := fun f => if x0 = (4 : Int32) then rk px kx f (d + 0) 176 10 [some (.int x0)] [] S else rk px kx f (d + 0) 176 14 [some (.int x0)] [] S) (fun f => rfl) ?_
    refine OkF.ite (fun _ => ?_) (fun _ => ?_)
    · exact OkF.ret 3 (fun f => rfl)
    · exact OkF.ret 2 (fun f => rfl)
-- DoorSoldModel.inward(IIII)I
def m175 (x0 : Nat) (x1 : Int32) (x2 : Int32) (x3 : Int32) (x4 : Int32) (S : Sx) : Option (Int32 × Sx) :=
  if x1 = (5 : Int32) then if oc S x0 12 = true then if (S.2.1 x0 5) = 0 then none else some ((x2 + x4) - (x2 + x4) / (S.2.1 x0 5) * (S.2.1 x0 5), S) else none else (m176 x1 S).bind fun q1 => if q1.1 = 0 then some (x2, q1.2) else some (x3, q1.2)
set_option maxRecDepth 100000 in
theorem om175 (d : Nat) (x0 : Nat) (x1 : Int32) (x2 : Int32) (x3 : Int32) (x4 : Int32) (S : Sx) : OkF wI (fun f => rk px kx f (d + 1) 175 0 [some (.ref x0), some (.int x1), some (.int x2), some (.int x3), some (.int x4)] [] S) (m175 x0 x1 x2 x3 x4 S) := by
  unfold m175
  refine OkF.eq 3 (Y := fun f => if x1 = (5 : Int32) then rk px kx f (d + 1) 175 5 [some (.ref x0), some (.int x1), some (.int x2), some (.int x3), some (.int x4)] [] S else rk px kx f (d + 1) 175 17 [some (.ref x0), some (.int x1), some (.int x2), some (.int x3), some (.int x4)] [] S) (fun f => rfl) ?_
  refine OkF.ite (fun _ => ?_) (fun _ => ?_)
  · refine OkF.eq 5 (Y := fun f => if oc S x0 12 = true then rk px kx f (d + 1) 175 13 [some (.ref x0), some (.int x1), some (.int x2), some (.int x3), some (.int x4)] [.int (S.2.1 x0 5), .int (x2 + x4)] S else none) (fun f => rfl) ?_
    refine OkF.grd (fun _ => ?_)
    refine OkF.eq 1 (Y := fun f => if (S.2.1 x0 5) = 0 then none else rk px kx f (d + 1) 175 14 [some (.ref x0), some (.int x1), some (.int x2), some (.int x3), some (.int x4)] [.int ((x2 + x4) - (x2 + x4) / (S.2.1 x0 5) * (S.2.1 x0 5))] S) (fun f => rfl) ?_
    refine OkF.ngr (fun _ => ?_)
    exact OkF.ret 2 (fun f => rfl)
  · refine OkF.eq 2 (Y := fun f => (rk px kx f (d + 0) 176 0 [some (.int x1)] [] S).bind (fun q => rk px kx f (d + 1) 175 21 [some (.ref x0), some (.int x1), some (.int x2), some (.int x3), some (.int x4)] (q.1.toList ++ []) q.2)) (fun f => rfl) ?_
    refine OkF.bind (w1 := wI) (om176 (d + 0) x1 S) (fun q1 => ?_)
    refine OkF.eq 1 (Y := fun f => if q1.1 = 0 then rk px kx f (d + 1) 175 28 [some (.ref x0), some (.int x1), some (.int x2), some (.int x3), some (.int x4)] [] q1.2 else rk px kx f (d + 1) 175 24 [some (.ref x0), some (.int x1), some (.int x2), some (.int x3), some (.int x4)] [] q1.2) (fun f => rfl) ?_
    refine OkF.ite (fun _ => ?_) (fun _ => ?_)
    · exact OkF.ret 2 (fun f => rfl)
    · exact OkF.ret 3 (fun f => rfl)
-- DoorSoldModel.entry(II)I
def m174 (x0 : Nat) (x1 : Int32) (x2 : Int32) (S : Sx) : Option (Int32 × Sx) :=
  if oc S x0 12 = true then (S.2.2.2.1 x0 6).bind fun a1 => if inb x1 (al S a1) = true then if oc S x0 12 = true then (S.2.2.2.1 x0 8).bind fun a2 => if inb ((4 : Int32) + x1) (al S a2) = true then if oc S x0 12 = true then (S.2.2.2.1 x0 8).bind fun a3 => if inb ((10 : Int32) + x1) (al S a3) = true then if oc S x0 12 = true then (m175 x0 (S.2.1 a1 x1.toNatClampNeg) (S.2.1 a2 ((4 : Int32) + x1).toNatClampNeg) (S.2.1 a3 ((10 : Int32) + x1).toNatClampNeg) x2 S).bind fun q4 => some (q4.1, q4.2) else none else none else none else none else none else none else none
set_option maxRecDepth 100000 in
theorem om174 (d : Nat) (x0 : Nat) (x1 : Int32) (x2 : Int32) (S : Sx) : OkF wI (fun f => rk px kx f (d + 2) 174 0 [some (.ref x0), some (.int x1), some (.int x2)] [] S) (m174 x0 x1 x2 S) := by
  unfold m174
  refine OkF.eq 3 (Y := fun f => if oc S x0 12 = true then rk px kx f (d + 2) 174 5 [some (.ref x0), some (.int x1), some (.int x2)] (va_rf (S.2.2.2.1 x0 6) :: [.ref x0]) S else none) (fun f => rfl) ?_
  refine OkF.grd (fun _ => ?_)
  refine OkF.rf (fun a1 => ?_)
  refine OkF.eq 2 (Y := fun f => if inb x1 (al S a1) = true then rk px kx f (d + 2) 174 7 [some (.ref x0), some (.int x1), some (.int x2)] [.int (S.2.1 a1 x1.toNatClampNeg), .ref x0] S else none) (fun f => rfl) ?_
  refine OkF.grd (fun _ => ?_)
  refine OkF.eq 2 (Y := fun f => if oc S x0 12 = true then rk px kx f (d + 2) 174 11 [some (.ref x0), some (.int x1), some (.int x2)] (va_rf (S.2.2.2.1 x0 8) :: [.int (S.2.1 a1 x1.toNatClampNeg), .ref x0]) S else none) (fun f => rfl) ?_
  refine OkF.grd (fun _ => ?_)
  refine OkF.rf (fun a2 => ?_)
  refine OkF.eq 4 (Y := fun f => if inb ((4 : Int32) + x1) (al S a2) = true then rk px kx f (d + 2) 174 15 [some (.ref x0), some (.int x1), some (.int x2)] [.int (S.2.1 a2 ((4 : Int32) + x1).toNatClampNeg), .int (S.2.1 a1 x1.toNatClampNeg), .ref x0] S else none) (fun f => rfl) ?_
  refine OkF.grd (fun _ => ?_)
  refine OkF.eq 2 (Y := fun f => if oc S x0 12 = true then rk px kx f (d + 2) 174 19 [some (.ref x0), some (.int x1), some (.int x2)] (va_rf (S.2.2.2.1 x0 8) :: [.int (S.2.1 a2 ((4 : Int32) + x1).toNatClampNeg), .int (S.2.1 a1 x1.toNatClampNeg), .ref x0]) S else none) (fun f => rfl) ?_
  refine OkF.grd (fun _ => ?_)
  refine OkF.rf (fun a3 => ?_)
  refine OkF.eq 4 (Y := fun f => if inb ((10 : Int32) + x1) (al S a3) = true then rk px kx f (d + 2) 174 24 [some (.ref x0), some (.int x1), some (.int x2)] [.int (S.2.1 a3 ((10 : Int32) + x1).toNatClampNeg), .int (S.2.1 a2 ((4 : Int32) + x1).toNatClampNeg), .int (S.2.1 a1 x1.toNatClampNeg), .ref x0] S else none) (fun f => rfl) ?_
  refine OkF.grd (fun _ => ?_)
  refine OkF.eq 2 (Y := fun f => if oc S x0 12 = true then (rk px kx f (d + 1) 175 0 [some (.ref x0), some (.int (S.2.1 a1 x1.toNatClampNeg)), some (.int (S.2.1 a2 ((4 : Int32) + x1).toNatClampNeg)), some (.int (S.2.1 a3 ((10 : Int32) + x1).toNatClampNeg)), some (.int x2)] [] S).bind (fun q => rk px kx f (d + 2) 174 28 [some (.ref x0), some (.int x1), some (.int x2)] (q.1.toList ++ []) q.2) else none) (fun f => rfl) ?_
  refine OkF.grd (fun _ => ?_)
  refine OkF.bind (w1 := wI) (om175 (d + 0) x0 (S.2.1 a1 x1.toNatClampNeg) (S.2.1 a2 ((4 : Int32) + x1).toNatClampNeg) (S.2.1 a3 ((10 : Int32) + x1).toNatClampNeg) x2 S) (fun q4 => ?_)
  exact OkF.ret 1 (fun f => rfl)
-- DoorSoldModel.isDutch(I)Z
def m178 (x0 : Int32) (S : Sx) : Option (Int32 × Sx) :=
  if x0 = (1 : Int32) then some ((1 : Int32), S) else if x0 = (5 : Int32) then some ((1 : Int32), S) else some ((0 : Int32), S)
set_option maxRecDepth 100000 in
theorem om178 (d : Nat) (x0 : Int32) (S : Sx) : OkF wI (fun f => rk px kx f (d + 0) 178 0 [some (.int x0)] [] S) (m178 x0 S) := by
  unfold m178
  refine OkF.eq 3 (Y := fun f => if x0 = (1 : Int32) then rk px kx f (d + 0) 178 10 [some (.int x0)] [] S else rk px kx f (d + 0) 178 5 [some (.int x0)] [] S) (fun f => rfl) ?_
  refine OkF.ite (fun _ => ?_) (fun _ => ?_)
  · exact OkF.ret 3 (fun f => rfl)
  · refine OkF.eq 3 (Y := fun f => if x0 = (5 : Int32) then rk px kx f (d + 0) 178 10 [some (.int x0)] [] S else rk px kx f (d + 0) 178 14 [some (.int x0)] [] S) (fun f => rfl) ?_
    refine OkF.ite (fun _ => ?_) (fun _ => ?_)
    · exact OkF.ret 3 (fun f => rfl)
    · exact OkF.ret 2 (fun f => rfl)
-- DoorSoldModel.opens(II)Z
def m177 (x0 : Int32) (x1 : Int32) (S : Sx) : Option (Int32 × Sx) :=
  (m178 x0 S).bind fun q1 => if q1.1 = 0 then if x0 = (3 : Int32) then if (3 : Int32) = 0 then none else if (x1 - x1 / (3 : Int32) * (3 : Int32)) = 0 then some ((1 : Int32), q1.2) else some ((0 : Int32), q1.2) else some ((1 : Int32), q1.2) else if (2 : Int32) = 0 then none else if (x1 - x1 / (2 : Int32) * (2 : Int32)) = 0 then some ((1 : Int32), q1.2) else some ((0 : Int32), q1.2)
set_option maxRecDepth 100000 in
theorem om177 (d : Nat) (x0 : Int32) (x1 : Int32) (S : Sx) : OkF wI (fun f => rk px kx f (d + 1) 177 0 [some (.int x0), some (.int x1)] [] S) (m177 x0 x1 S) := by
  unfold m177
  refine OkF.eq 2 (Y := fun f => (rk px kx f (d + 0) 178 0 [some (.int x0)] [] S).bind (fun q => rk px kx f (d + 1) 177 4 [some (.int x0), some (.int x1)] (q.1.toList ++ []) q.2)) (fun f => rfl) ?_
  refine OkF.bind (w1 := wI) (om178 (d + 0) x0 S) (fun q1 => ?_)
  refine OkF.eq 1 (Y := fun f => if q1.1 = 0 then rk px kx f (d + 1) 177 21 [some (.int x0), some (.int x1)] [] q1.2 else rk px kx f (d + 1) 177 7 [some (.int x0), some (.int x1)] [] q1.2) (fun f => rfl) ?_
  refine OkF.ite (fun _ => ?_) (fun _ => ?_)
  · refine OkF.eq 3 (Y := fun f => if x0 = (3 : Int32) then rk px kx f (d + 1) 177 26 [some (.int x0), some (.int x1)] [] q1.2 else rk px kx f (d + 1) 177 32 [some (.int x0), some (.int x1)] [] q1.2) (fun f => rfl) ?_
    refine OkF.ite (fun _ => ?_) (fun _ => ?_)
    · refine OkF.eq 3 (Y := fun f => if (3 : Int32) = 0 then none else rk px kx f (d + 1) 177 29 [some (.int x0), some (.int x1)] [.int (x1 - x1 / (3 : Int32) * (3 : Int32))] q1.2) (fun f => rfl) ?_
      refine OkF.ngr (fun _ => ?_)
      refine OkF.eq 1 (Y := fun f => if (x1 - x1 / (3 : Int32) * (3 : Int32)) = 0 then rk px kx f (d + 1) 177 32 [some (.int x0), some (.int x1)] [] q1.2 else rk px kx f (d + 1) 177 36 [some (.int x0), some (.int x1)] [] q1.2) (fun f => rfl) ?_
      refine OkF.ite (fun _ => ?_) (fun _ => ?_)
      · exact OkF.ret 3 (fun f => rfl)
      · exact OkF.ret 2 (fun f => rfl)
    · exact OkF.ret 3 (fun f => rfl)
  · refine OkF.eq 3 (Y := fun f => if (2 : Int32) = 0 then none else rk px kx f (d + 1) 177 10 [some (.int x0), some (.int x1)] [.int (x1 - x1 / (2 : Int32) * (2 : Int32))] q1.2) (fun f => rfl) ?_
    refine OkF.ngr (fun _ => ?_)
    refine OkF.eq 1 (Y := fun f => if (x1 - x1 / (2 : Int32) * (2 : Int32)) = 0 then rk px kx f (d + 1) 177 13 [some (.int x0), some (.int x1)] [] q1.2 else rk px kx f (d + 1) 177 17 [some (.int x0), some (.int x1)] [] q1.2) (fun f => rfl) ?_
    refine OkF.ite (fun _ => ?_) (fun _ => ?_)
    · exact OkF.ret 3 (fun f => rfl)
    · exact OkF.ret 3 (fun f => rfl)
