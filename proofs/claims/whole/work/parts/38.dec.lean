-- DoorSold.worth(II)I
def m113 (x0 : Nat) (x1 : Int32) (x2 : Int32) (S : Sx) : Option (Int32 × Sx) :=
  if oc S x0 11 = true then (m43 x0 x1 S).bind fun q1 => if q1.1 = 0 then if oc q1.2 x0 11 = true then (m98 x0 x2 q1.2).bind fun q2 => if q2.1 = 0 then if oc q2.2 x0 11 = true then (q2.2.2.2.2.1 x0 7).bind fun a3 => if oc q2.2 x0 11 = true then (q2.2.2.2.2.1 x0 3).bind fun a4 => if oc q2.2 x0 11 = true then (q2.2.2.2.2.1 x0 3).bind fun a5 => if oc q2.2 a5 4 = true then if oc q2.2 a3 10 = true then (m99 a3 a4 ((q2.2.2.1 a5 14) &&& (((1 : Int32) <<< (x1 &&& 31)) ^^^ (-1 : Int32))) x2 q2.2).bind fun q6 => if oc q6.2 x0 11 = true then (q6.2.2.2.2.1 x0 7).bind fun a7 => if oc q6.2 x0 11 = true then (q6.2.2.2.2.1 x0 3).bind fun a8 => if oc q6.2 x0 11 = true then (q6.2.2.2.2.1 x0 3).bind fun a9 => if oc q6.2 a9 4 = true then if oc q6.2 a7 10 = true then (m99 a7 a8 ((q6.2.2.1 a9 14) ||| ((1 : Int32) <<< (x1 &&& 31))) x2 q6.2).bind fun q10 => some (q6.1 - q10.1, q10.2) else none else none else none else none else none else none else none else none else none else none else some ((-1 : Int32), q2.2) else none else some ((-1 : Int32), q1.2) else none
set_option maxRecDepth 100000 in
theorem om113 (d : Nat) (x0 : Nat) (x1 : Int32) (x2 : Int32) (S : Sx) : OkF wI (fun f => rk px kx f (d + 6) 113 0 [some (.ref x0), some (.int x1), some (.int x2), none, none] [] S) (m113 x0 x1 x2 S) := by
  unfold m113
  refine OkF.eq 3 (Y := fun f => if oc S x0 11 = true then (rk px kx f (d + 5) 43 0 [some (.ref x0), some (.int x1)] [] S).bind (fun q => rk px kx f (d + 6) 113 5 [some (.ref x0), some (.int x1), some (.int x2), none, none] (q.1.toList ++ []) q.2) else none) (fun f => rfl) ?_
  refine OkF.grd (fun _ => ?_)
  refine OkF.bind (w1 := wI) (om43 (d + 5) x0 x1 S) (fun q1 => ?_)
  refine OkF.eq 1 (Y := fun f => if q1.1 = 0 then rk px kx f (d + 6) 113 8 [some (.ref x0), some (.int x1), some (.int x2), none, none] [] q1.2 else rk px kx f (d + 6) 113 16 [some (.ref x0), some (.int x1), some (.int x2), none, none] [] q1.2) (fun f => rfl) ?_
  refine OkF.ite (fun _ => ?_) (fun _ => ?_)
  · refine OkF.eq 3 (Y := fun f => if oc q1.2 x0 11 = true then (rk px kx f (d + 5) 98 0 [some (.ref x0), some (.int x2)] [] q1.2).bind (fun q => rk px kx f (d + 6) 113 13 [some (.ref x0), some (.int x1), some (.int x2), none, none] (q.1.toList ++ []) q.2) else none) (fun f => rfl) ?_
    refine OkF.grd (fun _ => ?_)
    refine OkF.bind (w1 := wI) (om98 (d + 5) x0 x2 q1.2) (fun q2 => ?_)
    refine OkF.eq 1 (Y := fun f => if q2.1 = 0 then rk px kx f (d + 6) 113 18 [some (.ref x0), some (.int x1), some (.int x2), none, none] [] q2.2 else rk px kx f (d + 6) 113 16 [some (.ref x0), some (.int x1), some (.int x2), none, none] [] q2.2) (fun f => rfl) ?_
    refine OkF.ite (fun _ => ?_) (fun _ => ?_)
    · refine OkF.eq 2 (Y := fun f => if oc q2.2 x0 11 = true then rk px kx f (d + 6) 113 22 [some (.ref x0), some (.int x1), some (.int x2), none, none] (va_rf (q2.2.2.2.2.1 x0 7) :: []) q2.2 else none) (fun f => rfl) ?_
      refine OkF.grd (fun _ => ?_)
      refine OkF.rf (fun a3 => ?_)
      refine OkF.eq 2 (Y := fun f => if oc q2.2 x0 11 = true then rk px kx f (d + 6) 113 26 [some (.ref x0), some (.int x1), some (.int x2), none, none] (va_rf (q2.2.2.2.2.1 x0 3) :: [.ref a3]) q2.2 else none) (fun f => rfl) ?_
      refine OkF.grd (fun _ => ?_)
      refine OkF.rf (fun a4 => ?_)
      refine OkF.eq 2 (Y := fun f => if oc q2.2 x0 11 = true then rk px kx f (d + 6) 113 30 [some (.ref x0), some (.int x1), some (.int x2), none, none] (va_rf (q2.2.2.2.2.1 x0 3) :: [.ref a4, .ref a3]) q2.2 else none) (fun f => rfl) ?_
      refine OkF.grd (fun _ => ?_)
      refine OkF.rf (fun a5 => ?_)
      refine OkF.eq 1 (Y := fun f => if oc q2.2 a5 4 = true then rk px kx f (d + 6) 113 33 [some (.ref x0), some (.int x1), some (.int x2), none, none] [.int (q2.2.2.1 a5 14), .ref a4, .ref a3] q2.2 else none) (fun f => rfl) ?_
      refine OkF.grd (fun _ => ?_)
      refine OkF.eq 8 (Y := fun f => if oc q2.2 a3 10 = true then (rk px kx f (d + 5) 99 0 [some (.ref a3), some (.ref a4), some (.int ((q2.2.2.1 a5 14) &&& (((1 : Int32) <<< (x1 &&& 31)) ^^^ (-1 : Int32)))), some (.int x2), none] [] q2.2).bind (fun q => rk px kx f (d + 6) 113 43 [some (.ref x0), some (.int x1), some (.int x2), none, none] (q.1.toList ++ []) q.2) else none) (fun f => rfl) ?_
      refine OkF.grd (fun _ => ?_)
      refine OkF.bind (w1 := wI) (om99 (d + 0) a3 a4 ((q2.2.2.1 a5 14) &&& (((1 : Int32) <<< (x1 &&& 31)) ^^^ (-1 : Int32))) x2 q2.2) (fun q6 => ?_)
      refine OkF.eq 3 (Y := fun f => if oc q6.2 x0 11 = true then rk px kx f (d + 6) 113 48 [some (.ref x0), some (.int x1), some (.int x2), some (.int q6.1), none] (va_rf (q6.2.2.2.2.1 x0 7) :: []) q6.2 else none) (fun f => rfl) ?_
      refine OkF.grd (fun _ => ?_)
      refine OkF.rf (fun a7 => ?_)
      refine OkF.eq 2 (Y := fun f => if oc q6.2 x0 11 = true then rk px kx f (d + 6) 113 52 [some (.ref x0), some (.int x1), some (.int x2), some (.int q6.1), none] (va_rf (q6.2.2.2.2.1 x0 3) :: [.ref a7]) q6.2 else none) (fun f => rfl) ?_
      refine OkF.grd (fun _ => ?_)
      refine OkF.rf (fun a8 => ?_)
      refine OkF.eq 2 (Y := fun f => if oc q6.2 x0 11 = true then rk px kx f (d + 6) 113 56 [some (.ref x0), some (.int x1), some (.int x2), some (.int q6.1), none] (va_rf (q6.2.2.2.2.1 x0 3) :: [.ref a8, .ref a7]) q6.2 else none) (fun f => rfl) ?_
      refine OkF.grd (fun _ => ?_)
      refine OkF.rf (fun a9 => ?_)
      refine OkF.eq 1 (Y := fun f => if oc q6.2 a9 4 = true then rk px kx f (d + 6) 113 59 [some (.ref x0), some (.int x1), some (.int x2), some (.int q6.1), none] [.int (q6.2.2.1 a9 14), .ref a8, .ref a7] q6.2 else none) (fun f => rfl) ?_
      refine OkF.grd (fun _ => ?_)
      refine OkF.eq 6 (Y := fun f => if oc q6.2 a7 10 = true then (rk px kx f (d + 5) 99 0 [some (.ref a7), some (.ref a8), some (.int ((q6.2.2.1 a9 14) ||| ((1 : Int32) <<< (x1 &&& 31)))), some (.int x2), none] [] q6.2).bind (fun q => rk px kx f (d + 6) 113 67 [some (.ref x0), some (.int x1), some (.int x2), some (.int q6.1), none] (q.1.toList ++ []) q.2) else none) (fun f => rfl) ?_
      refine OkF.grd (fun _ => ?_)
      refine OkF.bind (w1 := wI) (om99 (d + 0) a7 a8 ((q6.2.2.1 a9 14) ||| ((1 : Int32) <<< (x1 &&& 31))) x2 q6.2) (fun q10 => ?_)
      exact OkF.ret 5 (fun f => rfl)
    · exact OkF.ret 2 (fun f => rfl)
  · exact OkF.ret 2 (fun f => rfl)
-- DoorSold.clueRefusal(II)I
def b115_149 (x0 : Nat) (S : Sx) : Option (Int32 × Sx) :=
  if oc S x0 11 = true then (m15 x0 (3 : Int32) S).bind fun q1 => some (q1.1, q1.2) else none
set_option maxRecDepth 100000 in
theorem ob115_149 (d : Nat) (x0 : Nat) (S : Sx) : OkF wI (fun f => rk px kx f (d + 1) 115 149 [some (.ref x0), none, none, none, none, none] [] S) (b115_149 x0 S) := by
  unfold b115_149
  refine OkF.eq 3 (Y := fun f => if oc S x0 11 = true then (rk px kx f (d + 0) 15 0 [some (.ref x0), some (.int (3 : Int32))] [] S).bind (fun q => rk px kx f (d + 1) 115 154 [some (.ref x0), none, none, none, none, none] (q.1.toList ++ []) q.2) else none) (fun f => rfl) ?_
  refine OkF.grd (fun _ => ?_)
  refine OkF.bind (w1 := wI) (om15 (d + 0) x0 (3 : Int32) S) (fun q1 => ?_)
  exact OkF.ret 1 (fun f => rfl)
def b115_102 (k57 : Nat → Int32 → Int32 → Sx → Option (Int32 × Sx)) (x0 : Nat) (x2 : Int32) (x3 : Int32) (s0 : Int32) (S : Sx) : Option (Int32 × Sx) :=
  if s0 = 0 then if oc S x0 11 = true then (S.2.2.2.1 x0 0).bind fun a2 => if inb x2 (aw S 3 a2) = true then (S.2.2.2.1 a2 x2.toNatClampNeg).bind fun a3 => if oc S a3 8 = true then (S.2.2.2.1 a3 0).bind fun a4 => if inb (x3 + (1 : Int32)) (al S a4) = true then if oc S x0 11 = true then (m98 x0 (S.2.1 a4 (x3 + (1 : Int32)).toNatClampNeg) S).bind fun q5 => if q5.1 = 0 then if oc q5.2 x0 11 = true then (q5.2.2.2.2.1 x0 0).bind fun a6 => if inb x2 (aw q5.2 3 a6) = true then (q5.2.2.2.2.1 a6 x2.toNatClampNeg).bind fun a7 => if oc q5.2 a7 8 = true then (q5.2.2.2.2.1 a7 0).bind fun a8 => if inb (x3 + (2 : Int32)) (al q5.2 a8) = true then if oc q5.2 x0 11 = true then (m98 x0 (q5.2.2.1 a8 (x3 + (2 : Int32)).toNatClampNeg) q5.2).bind fun q9 => if q9.1 = 0 then k57 x0 x2 (x3 + (3 : Int32)) q9.2 else b115_149 x0 q9.2 else none else none else none else none else none else b115_149 x0 q5.2 else none else none else none else none else none else b115_149 x0 S
set_option maxRecDepth 100000 in
theorem ob115_102 (d : Nat) (k57 : Nat → Int32 → Int32 → Sx → Option (Int32 × Sx)) (hk57 : ∀ (x0 : Nat) (x2 : Int32) (x3 : Int32) (S : Sx), OkF wI (fun f => rk px kx f (d + 1) 115 57 [some (.ref x0), none, some (.int x2), some (.int x3), none, none] [] S) (k57 x0 x2 x3 S)) (x0 : Nat) (x2 : Int32) (x3 : Int32) (s0 : Int32) (S : Sx) : OkF wI (fun f => rk px kx f (d + 1) 115 102 [some (.ref x0), none, some (.int x2), some (.int x3), none, none] [.int s0] S) (b115_102 k57 x0 x2 x3 s0 S) := by
  unfold b115_102
  refine OkF.eq 3 (Y := fun f => if s0 = 0 then rk px kx f (d + 1) 115 109 [some (.ref x0), none, some (.int x2), some (.int x3), none, some (.int s0)] [] S else rk px kx f (d + 1) 115 149 [some (.ref x0), none, some (.int x2), some (.int x3), none, some (.int s0)] [] S) (fun f => rfl) ?_
  refine OkF.ite (fun _ => ?_) (fun _ => ?_)
  · refine OkF.eq 3 (Y := fun f => if oc S x0 11 = true then rk px kx f (d + 1) 115 114 [some (.ref x0), none, some (.int x2), some (.int x3), none, some (.int s0)] (va_rf (S.2.2.2.1 x0 0) :: [.ref x0]) S else none) (fun f => rfl) ?_
    refine OkF.grd (fun _ => ?_)
    refine OkF.rf (fun a2 => ?_)
    refine OkF.eq 2 (Y := fun f => if inb x2 (aw S 3 a2) = true then rk px kx f (d + 1) 115 116 [some (.ref x0), none, some (.int x2), some (.int x3), none, some (.int s0)] (va_rf (S.2.2.2.1 a2 x2.toNatClampNeg) :: [.ref x0]) S else none) (fun f => rfl) ?_
    refine OkF.grd (fun _ => ?_)
    refine OkF.rf (fun a3 => ?_)
    refine OkF.eq 1 (Y := fun f => if oc S a3 8 = true then rk px kx f (d + 1) 115 119 [some (.ref x0), none, some (.int x2), some (.int x3), none, some (.int s0)] (va_rf (S.2.2.2.1 a3 0) :: [.ref x0]) S else none) (fun f => rfl) ?_
    refine OkF.grd (fun _ => ?_)
    refine OkF.rf (fun a4 => ?_)
    refine OkF.eq 4 (Y := fun f => if inb (x3 + (1 : Int32)) (al S a4) = true then rk px kx f (d + 1) 115 123 [some (.ref x0), none, some (.int x2), some (.int x3), none, some (.int s0)] [.int (S.2.1 a4 (x3 + (1 : Int32)).toNatClampNeg), .ref x0] S else none) (fun f => rfl) ?_
    refine OkF.grd (fun _ => ?_)
    refine OkF.eq 1 (Y := fun f => if oc S x0 11 = true then (rk px kx f (d + 0) 98 0 [some (.ref x0), some (.int (S.2.1 a4 (x3 + (1 : Int32)).toNatClampNeg))] [] S).bind (fun q => rk px kx f (d + 1) 115 126 [some (.ref x0), none, some (.int x2), some (.int x3), none, some (.int s0)] (q.1.toList ++ []) q.2) else none) (fun f => rfl) ?_
    refine OkF.grd (fun _ => ?_)
    refine OkF.bind (w1 := wI) (om98 (d + 0) x0 (S.2.1 a4 (x3 + (1 : Int32)).toNatClampNeg) S) (fun q5 => ?_)
    refine OkF.eq 1 (Y := fun f => if q5.1 = 0 then rk px kx f (d + 1) 115 129 [some (.ref x0), none, some (.int x2), some (.int x3), none, some (.int s0)] [] q5.2 else rk px kx f (d + 1) 115 149 [some (.ref x0), none, some (.int x2), some (.int x3), none, some (.int s0)] [] q5.2) (fun f => rfl) ?_
    refine OkF.ite (fun _ => ?_) (fun _ => ?_)
    · refine OkF.eq 3 (Y := fun f => if oc q5.2 x0 11 = true then rk px kx f (d + 1) 115 134 [some (.ref x0), none, some (.int x2), some (.int x3), none, some (.int s0)] (va_rf (q5.2.2.2.2.1 x0 0) :: [.ref x0]) q5.2 else none) (fun f => rfl) ?_
      refine OkF.grd (fun _ => ?_)
      refine OkF.rf (fun a6 => ?_)
      refine OkF.eq 2 (Y := fun f => if inb x2 (aw q5.2 3 a6) = true then rk px kx f (d + 1) 115 136 [some (.ref x0), none, some (.int x2), some (.int x3), none, some (.int s0)] (va_rf (q5.2.2.2.2.1 a6 x2.toNatClampNeg) :: [.ref x0]) q5.2 else none) (fun f => rfl) ?_
      refine OkF.grd (fun _ => ?_)
      refine OkF.rf (fun a7 => ?_)
      refine OkF.eq 1 (Y := fun f => if oc q5.2 a7 8 = true then rk px kx f (d + 1) 115 139 [some (.ref x0), none, some (.int x2), some (.int x3), none, some (.int s0)] (va_rf (q5.2.2.2.2.1 a7 0) :: [.ref x0]) q5.2 else none) (fun f => rfl) ?_
      refine OkF.grd (fun _ => ?_)
      refine OkF.rf (fun a8 => ?_)
      refine OkF.eq 4 (Y := fun f => if inb (x3 + (2 : Int32)) (al q5.2 a8) = true then rk px kx f (d + 1) 115 143 [some (.ref x0), none, some (.int x2), some (.int x3), none, some (.int s0)] [.int (q5.2.2.1 a8 (x3 + (2 : Int32)).toNatClampNeg), .ref x0] q5.2 else none) (fun f => rfl) ?_
      refine OkF.grd (fun _ => ?_)
      refine OkF.eq 1 (Y := fun f => if oc q5.2 x0 11 = true then (rk px kx f (d + 0) 98 0 [some (.ref x0), some (.int (q5.2.2.1 a8 (x3 + (2 : Int32)).toNatClampNeg))] [] q5.2).bind (fun q => rk px kx f (d + 1) 115 146 [some (.ref x0), none, some (.int x2), some (.int x3), none, some (.int s0)] (q.1.toList ++ []) q.2) else none) (fun f => rfl) ?_
      refine OkF.grd (fun _ => ?_)
      refine OkF.bind (w1 := wI) (om98 (d + 0) x0 (q5.2.2.1 a8 (x3 + (2 : Int32)).toNatClampNeg) q5.2) (fun q9 => ?_)
      refine OkF.eq 1 (Y := fun f => if q9.1 = 0 then rk px kx f (d + 1) 115 155 [some (.ref x0), none, some (.int x2), some (.int x3), none, some (.int s0)] [] q9.2 else rk px kx f (d + 1) 115 149 [some (.ref x0), none, some (.int x2), some (.int x3), none, some (.int s0)] [] q9.2) (fun f => rfl) ?_
      refine OkF.ite (fun _ => ?_) (fun _ => ?_)
      · refine OkF.eq 2 (Y := fun f => rk px kx f (d + 1) 115 57 [some (.ref x0), none, some (.int x2), some (.int (x3 + (3 : Int32))), none, some (.int s0)] [] q9.2) (fun f => rfl) ?_
        exact OkF.kl (ls1 := [some (.ref x0), none, some (.int x2), some (.int (x3 + (3 : Int32))), none, none]) (fun f => rfl) (hk57 x0 x2 (x3 + (3 : Int32)) q9.2)
      · exact OkF.kl (ls1 := [some (.ref x0), none, none, none, none, none]) (fun f => rfl) (ob115_149 d x0 q9.2)
    · exact OkF.kl (ls1 := [some (.ref x0), none, none, none, none, none]) (fun f => rfl) (ob115_149 d x0 q5.2)
  · exact OkF.kl (ls1 := [some (.ref x0), none, none, none, none, none]) (fun f => rfl) (ob115_149 d x0 S)
def b115_97 (k57 : Nat → Int32 → Int32 → Sx → Option (Int32 × Sx)) (x0 : Nat) (x2 : Int32) (x3 : Int32) (S : Sx) : Option (Int32 × Sx) :=
  b115_102 k57 x0 x2 x3 (1 : Int32) S
set_option maxRecDepth 100000 in
theorem ob115_97 (d : Nat) (k57 : Nat → Int32 → Int32 → Sx → Option (Int32 × Sx)) (hk57 : ∀ (x0 : Nat) (x2 : Int32) (x3 : Int32) (S : Sx), OkF wI (fun f => rk px kx f (d + 1) 115 57 [some (.ref x0), none, some (.int x2), some (.int x3), none, none] [] S) (k57 x0 x2 x3 S)) (x0 : Nat) (x2 : Int32) (x3 : Int32) (S : Sx) : OkF wI (fun f => rk px kx f (d + 1) 115 97 [some (.ref x0), none, some (.int x2), some (.int x3), none, none] [] S) (b115_97 k57 x0 x2 x3 S) := by
  unfold b115_97
  refine OkF.eq 2 (Y := fun f => rk px kx f (d + 1) 115 102 [some (.ref x0), none, some (.int x2), some (.int x3), none, none] [.int (1 : Int32)] S) (fun f => rfl) ?_
  exact OkF.kl (ls1 := [some (.ref x0), none, some (.int x2), some (.int x3), none, none]) (fun f => rfl) (ob115_102 d k57 hk57 x0 x2 x3 (1 : Int32) S)
def b115_57 (k57 : Nat → Int32 → Int32 → Sx → Option (Int32 × Sx)) (x0 : Nat) (x2 : Int32) (x3 : Int32) (S : Sx) : Option (Int32 × Sx) :=
  if oc S x0 11 = true then (S.2.2.2.1 x0 0).bind fun a10 => if inb x2 (aw S 3 a10) = true then (S.2.2.2.1 a10 x2.toNatClampNeg).bind fun a11 => if oc S a11 8 = true then if (S.2.1 a11 1) ≤ (x3 + (2 : Int32)) then some ((0 : Int32), S) else if oc S x0 11 = true then (S.2.2.2.1 x0 0).bind fun a12 => if inb x2 (aw S 3 a12) = true then (S.2.2.2.1 a12 x2.toNatClampNeg).bind fun a13 => if oc S a13 8 = true then (S.2.2.2.1 a13 0).bind fun a14 => if inb x3 (al S a14) = true then if (S.2.1 a14 x3.toNatClampNeg) < 0 then b115_97 k57 x0 x2 x3 S else if (S.2.1 a14 x3.toNatClampNeg) ≤ (99 : Int32) then b115_102 k57 x0 x2 x3 (0 : Int32) S else b115_97 k57 x0 x2 x3 S else none else none else none else none else none else none else none
set_option maxRecDepth 100000 in
theorem ob115_57 (d : Nat) (k57 : Nat → Int32 → Int32 → Sx → Option (Int32 × Sx)) (hk57 : ∀ (x0 : Nat) (x2 : Int32) (x3 : Int32) (S : Sx), OkF wI (fun f => rk px kx f (d + 1) 115 57 [some (.ref x0), none, some (.int x2), some (.int x3), none, none] [] S) (k57 x0 x2 x3 S)) (x0 : Nat) (x2 : Int32) (x3 : Int32) (S : Sx) : OkF wI (fun f => rk px kx f (d + 1) 115 57 [some (.ref x0), none, some (.int x2), some (.int x3), none, none] [] S) (b115_57 k57 x0 x2 x3 S) := by
  unfold b115_57
  refine OkF.eq 5 (Y := fun f => if oc S x0 11 = true then rk px kx f (d + 1) 115 64 [some (.ref x0), none, some (.int x2), some (.int x3), none, none] (va_rf (S.2.2.2.1 x0 0) :: [.int (x3 + (2 : Int32))]) S else none) (fun f => rfl) ?_
  refine OkF.grd (fun _ => ?_)
  refine OkF.rf (fun a10 => ?_)
  refine OkF.eq 2 (Y := fun f => if inb x2 (aw S 3 a10) = true then rk px kx f (d + 1) 115 66 [some (.ref x0), none, some (.int x2), some (.int x3), none, none] (va_rf (S.2.2.2.1 a10 x2.toNatClampNeg) :: [.int (x3 + (2 : Int32))]) S else none) (fun f => rfl) ?_
  refine OkF.grd (fun _ => ?_)
  refine OkF.rf (fun a11 => ?_)
  refine OkF.eq 1 (Y := fun f => if oc S a11 8 = true then rk px kx f (d + 1) 115 69 [some (.ref x0), none, some (.int x2), some (.int x3), none, none] [.int (S.2.1 a11 1), .int (x3 + (2 : Int32))] S else none) (fun f => rfl) ?_
  refine OkF.grd (fun _ => ?_)
  refine OkF.eq 1 (Y := fun f => if (S.2.1 a11 1) ≤ (x3 + (2 : Int32)) then rk px kx f (d + 1) 115 161 [some (.ref x0), none, some (.int x2), some (.int x3), none, none] [] S else rk px kx f (d + 1) 115 72 [some (.ref x0), none, some (.int x2), some (.int x3), none, none] [] S) (fun f => rfl) ?_
  refine OkF.ite (fun _ => ?_) (fun _ => ?_)
  · exact OkF.ret 2 (fun f => rfl)
  · refine OkF.eq 2 (Y := fun f => if oc S x0 11 = true then rk px kx f (d + 1) 115 76 [some (.ref x0), none, some (.int x2), some (.int x3), none, none] (va_rf (S.2.2.2.1 x0 0) :: []) S else none) (fun f => rfl) ?_
    refine OkF.grd (fun _ => ?_)
    refine OkF.rf (fun a12 => ?_)
    refine OkF.eq 2 (Y := fun f => if inb x2 (aw S 3 a12) = true then rk px kx f (d + 1) 115 78 [some (.ref x0), none, some (.int x2), some (.int x3), none, none] (va_rf (S.2.2.2.1 a12 x2.toNatClampNeg) :: []) S else none) (fun f => rfl) ?_
    refine OkF.grd (fun _ => ?_)
    refine OkF.rf (fun a13 => ?_)
    refine OkF.eq 1 (Y := fun f => if oc S a13 8 = true then rk px kx f (d + 1) 115 81 [some (.ref x0), none, some (.int x2), some (.int x3), none, none] (va_rf (S.2.2.2.1 a13 0) :: []) S else none) (fun f => rfl) ?_
    refine OkF.grd (fun _ => ?_)
    refine OkF.rf (fun a14 => ?_)
    refine OkF.eq 2 (Y := fun f => if inb x3 (al S a14) = true then rk px kx f (d + 1) 115 83 [some (.ref x0), none, some (.int x2), some (.int x3), none, none] [.int (S.2.1 a14 x3.toNatClampNeg)] S else none) (fun f => rfl) ?_
    refine OkF.grd (fun _ => ?_)
    refine OkF.eq 3 (Y := fun f => if (S.2.1 a14 x3.toNatClampNeg) < 0 then rk px kx f (d + 1) 115 97 [some (.ref x0), none, some (.int x2), some (.int x3), some (.int (S.2.1 a14 x3.toNatClampNeg)), none] [] S else rk px kx f (d + 1) 115 90 [some (.ref x0), none, some (.int x2), some (.int x3), some (.int (S.2.1 a14 x3.toNatClampNeg)), none] [] S) (fun f => rfl) ?_
    refine OkF.ite (fun _ => ?_) (fun _ => ?_)
    · exact OkF.kl (ls1 := [some (.ref x0), none, some (.int x2), some (.int x3), none, none]) (fun f => rfl) (ob115_97 d k57 hk57 x0 x2 x3 S)
    · refine OkF.eq 3 (Y := fun f => if (S.2.1 a14 x3.toNatClampNeg) ≤ (99 : Int32) then rk px kx f (d + 1) 115 101 [some (.ref x0), none, some (.int x2), some (.int x3), some (.int (S.2.1 a14 x3.toNatClampNeg)), none] [] S else rk px kx f (d + 1) 115 97 [some (.ref x0), none, some (.int x2), some (.int x3), some (.int (S.2.1 a14 x3.toNatClampNeg)), none] [] S) (fun f => rfl) ?_
      refine OkF.ite (fun _ => ?_) (fun _ => ?_)
      · refine OkF.eq 1 (Y := fun f => rk px kx f (d + 1) 115 102 [some (.ref x0), none, some (.int x2), some (.int x3), some (.int (S.2.1 a14 x3.toNatClampNeg)), none] [.int (0 : Int32)] S) (fun f => rfl) ?_
        exact OkF.kl (ls1 := [some (.ref x0), none, some (.int x2), some (.int x3), none, none]) (fun f => rfl) (ob115_102 d k57 hk57 x0 x2 x3 (0 : Int32) S)
      · exact OkF.kl (ls1 := [some (.ref x0), none, some (.int x2), some (.int x3), none, none]) (fun f => rfl) (ob115_97 d k57 hk57 x0 x2 x3 S)
def l115_57 : Nat → Nat → Int32 → Int32 → Sx → Option (Int32 × Sx)
  | 0 => fun _ _ _ _ => none
  | n + 1 => fun x0 x2 x3 S => b115_57 (l115_57 n) x0 x2 x3 S
set_option maxRecDepth 100000 in
theorem ol115_57 (d : Nat) : ∀ (n : Nat) (x0 : Nat) (x2 : Int32) (x3 : Int32) (S : Sx), OkF wI (fun f => rk px kx f (d + 1) 115 57 [some (.ref x0), none, some (.int x2), some (.int x3), none, none] [] S) (l115_57 n x0 x2 x3 S) := by
  intro n
  induction n with
  | zero => intro x0 x2 x3 S; exact OkF.no
  | succ n ih => intro x0 x2 x3 S; exact ob115_57 d (l115_57 n) ih x0 x2 x3 S
def m115 (x0 : Nat) (x1 : Int32) (x2 : Int32) (S : Sx) : Option (Int32 × Sx) :=
  if oc S x0 11 = true then (m43 x0 x1 S).bind fun q15 => if q15.1 = 0 then (m14 x2 q15.2).bind fun q16 => if q16.1 = 0 then if oc q16.2 x0 11 = true then (q16.2.2.2.2.1 x0 0).bind fun a17 => if inb x2 (aw q16.2 3 a17) = true then (q16.2.2.2.2.1 a17 x2.toNatClampNeg).bind fun a18 => if oc q16.2 a18 8 = true then (m20 a18 q16.2).bind fun q19 => if q19.1 = 0 then if oc q19.2 x0 11 = true then (q19.2.2.2.2.1 x0 0).bind fun a20 => if inb x2 (aw q19.2 3 a20) = true then (q19.2.2.2.2.1 a20 x2.toNatClampNeg).bind fun a21 => if oc q19.2 a21 8 = true then if (3 : Int32) = 0 then none else if ((q19.2.2.1 a21 1) - (q19.2.2.1 a21 1) / (3 : Int32) * (3 : Int32)) = 0 then l115_57 1000 x0 x2 (0 : Int32) q19.2 else if oc q19.2 x0 11 = true then (m15 x0 (5 : Int32) q19.2).bind fun q22 => some (q22.1, q22.2) else none else none else none else none else if oc q19.2 x0 11 = true then (m15 x0 (1 : Int32) q19.2).bind fun q23 => some (q23.1, q23.2) else none else none else none else none else some ((-1 : Int32), q16.2) else some ((-1 : Int32), q15.2) else none
set_option maxRecDepth 100000 in
theorem om115 (d : Nat) (x0 : Nat) (x1 : Int32) (x2 : Int32) (S : Sx) : OkF wI (fun f => rk px kx f (d + 1) 115 0 [some (.ref x0), some (.int x1), some (.int x2), none, none, none] [] S) (m115 x0 x1 x2 S) := by
  unfold m115
  refine OkF.eq 3 (Y := fun f => if oc S x0 11 = true then (rk px kx f (d + 0) 43 0 [some (.ref x0), some (.int x1)] [] S).bind (fun q => rk px kx f (d + 1) 115 5 [some (.ref x0), some (.int x1), some (.int x2), none, none, none] (q.1.toList ++ []) q.2) else none) (fun f => rfl) ?_
  refine OkF.grd (fun _ => ?_)
  refine OkF.bind (w1 := wI) (om43 (d + 0) x0 x1 S) (fun q15 => ?_)
  refine OkF.eq 1 (Y := fun f => if q15.1 = 0 then rk px kx f (d + 1) 115 8 [some (.ref x0), some (.int x1), some (.int x2), none, none, none] [] q15.2 else rk px kx f (d + 1) 115 15 [some (.ref x0), some (.int x1), some (.int x2), none, none, none] [] q15.2) (fun f => rfl) ?_
  refine OkF.ite (fun _ => ?_) (fun _ => ?_)
  · refine OkF.eq 2 (Y := fun f => (rk px kx f (d + 0) 14 0 [some (.int x2)] [] q15.2).bind (fun q => rk px kx f (d + 1) 115 12 [some (.ref x0), some (.int x1), some (.int x2), none, none, none] (q.1.toList ++ []) q.2)) (fun f => rfl) ?_
    refine OkF.bind (w1 := wI) (om14 (d + 0) x2 q15.2) (fun q16 => ?_)
    refine OkF.eq 1 (Y := fun f => if q16.1 = 0 then rk px kx f (d + 1) 115 17 [some (.ref x0), some (.int x1), some (.int x2), none, none, none] [] q16.2 else rk px kx f (d + 1) 115 15 [some (.ref x0), some (.int x1), some (.int x2), none, none, none] [] q16.2) (fun f => rfl) ?_
    refine OkF.ite (fun _ => ?_) (fun _ => ?_)
    · refine OkF.eq 2 (Y := fun f => if oc q16.2 x0 11 = true then rk px kx f (d + 1) 115 21 [some (.ref x0), some (.int x1), some (.int x2), none, none, none] (va_rf (q16.2.2.2.2.1 x0 0) :: []) q16.2 else none) (fun f => rfl) ?_
      refine OkF.grd (fun _ => ?_)
      refine OkF.rf (fun a17 => ?_)
      refine OkF.eq 2 (Y := fun f => if inb x2 (aw q16.2 3 a17) = true then rk px kx f (d + 1) 115 23 [some (.ref x0), some (.int x1), some (.int x2), none, none, none] (va_rf (q16.2.2.2.2.1 a17 x2.toNatClampNeg) :: []) q16.2 else none) (fun f => rfl) ?_
      refine OkF.grd (fun _ => ?_)
      refine OkF.rf (fun a18 => ?_)
      refine OkF.eq 1 (Y := fun f => if oc q16.2 a18 8 = true then (rk px kx f (d + 0) 20 0 [some (.ref a18)] [] q16.2).bind (fun q => rk px kx f (d + 1) 115 26 [some (.ref x0), some (.int x1), some (.int x2), none, none, none] (q.1.toList ++ []) q.2) else none) (fun f => rfl) ?_
      refine OkF.grd (fun _ => ?_)
      refine OkF.bind (w1 := wI) (om20 (d + 0) a18 q16.2) (fun q19 => ?_)
      refine OkF.eq 1 (Y := fun f => if q19.1 = 0 then rk px kx f (d + 1) 115 35 [some (.ref x0), some (.int x1), some (.int x2), none, none, none] [] q19.2 else rk px kx f (d + 1) 115 29 [some (.ref x0), some (.int x1), some (.int x2), none, none, none] [] q19.2) (fun f => rfl) ?_
      refine OkF.ite (fun _ => ?_) (fun _ => ?_)
      · refine OkF.eq 2 (Y := fun f => if oc q19.2 x0 11 = true then rk px kx f (d + 1) 115 39 [some (.ref x0), some (.int x1), some (.int x2), none, none, none] (va_rf (q19.2.2.2.2.1 x0 0) :: []) q19.2 else none) (fun f => rfl) ?_
        refine OkF.grd (fun _ => ?_)
        refine OkF.rf (fun a20 => ?_)
        refine OkF.eq 2 (Y := fun f => if inb x2 (aw q19.2 3 a20) = true then rk px kx f (d + 1) 115 41 [some (.ref x0), some (.int x1), some (.int x2), none, none, none] (va_rf (q19.2.2.2.2.1 a20 x2.toNatClampNeg) :: []) q19.2 else none) (fun f => rfl) ?_
        refine OkF.grd (fun _ => ?_)
        refine OkF.rf (fun a21 => ?_)
        refine OkF.eq 1 (Y := fun f => if oc q19.2 a21 8 = true then rk px kx f (d + 1) 115 44 [some (.ref x0), some (.int x1), some (.int x2), none, none, none] [.int (q19.2.2.1 a21 1)] q19.2 else none) (fun f => rfl) ?_
        refine OkF.grd (fun _ => ?_)
        refine OkF.eq 2 (Y := fun f => if (3 : Int32) = 0 then none else rk px kx f (d + 1) 115 46 [some (.ref x0), some (.int x1), some (.int x2), none, none, none] [.int ((q19.2.2.1 a21 1) - (q19.2.2.1 a21 1) / (3 : Int32) * (3 : Int32))] q19.2) (fun f => rfl) ?_
        refine OkF.ngr (fun _ => ?_)
        refine OkF.eq 1 (Y := fun f => if ((q19.2.2.1 a21 1) - (q19.2.2.1 a21 1) / (3 : Int32) * (3 : Int32)) = 0 then rk px kx f (d + 1) 115 55 [some (.ref x0), some (.int x1), some (.int x2), none, none, none] [] q19.2 else rk px kx f (d + 1) 115 49 [some (.ref x0), some (.int x1), some (.int x2), none, none, none] [] q19.2) (fun f => rfl) ?_
        refine OkF.ite (fun _ => ?_) (fun _ => ?_)
        · refine OkF.eq 2 (Y := fun f => rk px kx f (d + 1) 115 57 [some (.ref x0), some (.int x1), some (.int x2), some (.int (0 : Int32)), none, none] [] q19.2) (fun f => rfl) ?_
          exact OkF.kl (ls1 := [some (.ref x0), none, some (.int x2), some (.int (0 : Int32)), none, none]) (fun f => rfl) (ol115_57 d 1000 x0 x2 (0 : Int32) q19.2)
        · refine OkF.eq 3 (Y := fun f => if oc q19.2 x0 11 = true then (rk px kx f (d + 0) 15 0 [some (.ref x0), some (.int (5 : Int32))] [] q19.2).bind (fun q => rk px kx f (d + 1) 115 54 [some (.ref x0), some (.int x1), some (.int x2), none, none, none] (q.1.toList ++ []) q.2) else none) (fun f => rfl) ?_
          refine OkF.grd (fun _ => ?_)
          refine OkF.bind (w1 := wI) (om15 (d + 0) x0 (5 : Int32) q19.2) (fun q22 => ?_)
          exact OkF.ret 1 (fun f => rfl)
      · refine OkF.eq 3 (Y := fun f => if oc q19.2 x0 11 = true then (rk px kx f (d + 0) 15 0 [some (.ref x0), some (.int (1 : Int32))] [] q19.2).bind (fun q => rk px kx f (d + 1) 115 34 [some (.ref x0), some (.int x1), some (.int x2), none, none, none] (q.1.toList ++ []) q.2) else none) (fun f => rfl) ?_
        refine OkF.grd (fun _ => ?_)
        refine OkF.bind (w1 := wI) (om15 (d + 0) x0 (1 : Int32) q19.2) (fun q23 => ?_)
        exact OkF.ret 1 (fun f => rfl)
    · exact OkF.ret 2 (fun f => rfl)
  · exact OkF.ret 2 (fun f => rfl)
-- DoorSold.agrees(IIILDoorSold$Row;)Z
def b116_13 (k13 : Nat → Int32 → Int32 → Nat → Nat → Int32 → Sx → Option (Int32 × Sx)) (x0 : Nat) (x2 : Int32) (x3 : Int32) (x4 : Nat) (x5 : Nat) (x6 : Int32) (S : Sx) : Option (Int32 × Sx) :=
  if oc S x4 8 = true then if (S.2.1 x4 1) ≤ (x6 + (2 : Int32)) then some ((1 : Int32), S) else if oc S x4 8 = true then (S.2.2.2.1 x4 0).bind fun a1 => if inb x6 (al S a1) = true then (vd_opensIn x5 (S.2.1 a1 x6.toNatClampNeg) S).bind fun q2 => if q2.1 = 0 then some ((0 : Int32), q2.2) else if oc q2.2 x0 11 = true then (q2.2.2.2.2.1 x0 3).bind fun a3 => (vd_entry x5 x2 x3 (S.2.1 a1 x6.toNatClampNeg) q2.2).bind fun q4 => if oc q4.2 a3 4 = true then (m55 a3 q4.1 q4.2).bind fun q5 => if oc q5.2 x4 8 = true then (q5.2.2.2.2.1 x4 0).bind fun a6 => if inb (x6 + (1 : Int32)) (al q5.2 a6) = true then if q5.1 = (q5.2.2.1 a6 (x6 + (1 : Int32)).toNatClampNeg) then (vd_exit x5 x2 x3 q5.2).bind fun q7 => if oc q7.2 x4 8 = true then (q7.2.2.2.2.1 x4 0).bind fun a8 => if inb (x6 + (2 : Int32)) (al q7.2 a8) = true then if q7.1 = (q7.2.2.1 a8 (x6 + (2 : Int32)).toNatClampNeg) then k13 x0 x2 x3 x4 x5 (x6 + (3 : Int32)) q7.2 else some ((0 : Int32), q7.2) else none else none else some ((0 : Int32), q5.2) else none else none else none else none else none else none else none
set_option maxRecDepth 100000 in
theorem ob116_13 (d : Nat) (k13 : Nat → Int32 → Int32 → Nat → Nat → Int32 → Sx → Option (Int32 × Sx)) (hk13 : ∀ (x0 : Nat) (x2 : Int32) (x3 : Int32) (x4 : Nat) (x5 : Nat) (x6 : Int32) (S : Sx), OkF wI (fun f => rk px kx f (d + 2) 116 13 [some (.ref x0), none, some (.int x2), some (.int x3), some (.ref x4), some (.ref x5), some (.int x6), none] [] S) (k13 x0 x2 x3 x4 x5 x6 S)) (x0 : Nat) (x2 : Int32) (x3 : Int32) (x4 : Nat) (x5 : Nat) (x6 : Int32) (S : Sx) : OkF wI (fun f => rk px kx f (d + 2) 116 13 [some (.ref x0), none, some (.int x2), some (.int x3), some (.ref x4), some (.ref x5), some (.int x6), none] [] S) (b116_13 k13 x0 x2 x3 x4 x5 x6 S) := by
  unfold b116_13
  refine OkF.eq 5 (Y := fun f => if oc S x4 8 = true then rk px kx f (d + 2) 116 22 [some (.ref x0), none, some (.int x2), some (.int x3), some (.ref x4), some (.ref x5), some (.int x6), none] [.int (S.2.1 x4 1), .int (x6 + (2 : Int32))] S else none) (fun f => rfl) ?_
  refine OkF.grd (fun _ => ?_)
  refine OkF.eq 1 (Y := fun f => if (S.2.1 x4 1) ≤ (x6 + (2 : Int32)) then rk px kx f (d + 2) 116 106 [some (.ref x0), none, some (.int x2), some (.int x3), some (.ref x4), some (.ref x5), some (.int x6), none] [] S else rk px kx f (d + 2) 116 25 [some (.ref x0), none, some (.int x2), some (.int x3), some (.ref x4), some (.ref x5), some (.int x6), none] [] S) (fun f => rfl) ?_
  refine OkF.ite (fun _ => ?_) (fun _ => ?_)
  · exact OkF.ret 2 (fun f => rfl)
  · refine OkF.eq 2 (Y := fun f => if oc S x4 8 = true then rk px kx f (d + 2) 116 30 [some (.ref x0), none, some (.int x2), some (.int x3), some (.ref x4), some (.ref x5), some (.int x6), none] (va_rf (S.2.2.2.1 x4 0) :: []) S else none) (fun f => rfl) ?_
    refine OkF.grd (fun _ => ?_)
    refine OkF.rf (fun a1 => ?_)
    refine OkF.eq 2 (Y := fun f => if inb x6 (al S a1) = true then rk px kx f (d + 2) 116 33 [some (.ref x0), none, some (.int x2), some (.int x3), some (.ref x4), some (.ref x5), some (.int x6), none] [.int (S.2.1 a1 x6.toNatClampNeg)] S else none) (fun f => rfl) ?_
    refine OkF.grd (fun _ => ?_)
    refine OkF.eq 4 (Y := fun f => vcl px (rk px kx f) (d + 2) 116 42 [some (.ref x0), none, some (.int x2), some (.int x3), some (.ref x4), some (.ref x5), some (.int x6), some (.int (S.2.1 a1 x6.toNatClampNeg))] [] S x5 [.int (S.2.1 a1 x6.toNatClampNeg)] [6, 60, 5, 59, 0, 60, 1, 58, 9, 60, 2, 59]) (fun f => rfl) ?_
    refine OkF.vir rfl (ov_opensIn (d + 1) x5 (S.2.1 a1 x6.toNatClampNeg) S) (fun q2 => ?_)
    refine OkF.eq 1 (Y := fun f => if q2.1 = 0 then rk px kx f (d + 2) 116 45 [some (.ref x0), none, some (.int x2), some (.int x3), some (.ref x4), some (.ref x5), some (.int x6), some (.int (S.2.1 a1 x6.toNatClampNeg))] [] q2.2 else rk px kx f (d + 2) 116 47 [some (.ref x0), none, some (.int x2), some (.int x3), some (.ref x4), some (.ref x5), some (.int x6), some (.int (S.2.1 a1 x6.toNatClampNeg))] [] q2.2) (fun f => rfl) ?_
    refine OkF.ite (fun _ => ?_) (fun _ => ?_)
    · exact OkF.ret 2 (fun f => rfl)
    · refine OkF.eq 2 (Y := fun f => if oc q2.2 x0 11 = true then rk px kx f (d + 2) 116 51 [some (.ref x0), none, some (.int x2), some (.int x3), some (.ref x4), some (.ref x5), some (.int x6), some (.int (S.2.1 a1 x6.toNatClampNeg))] (va_rf (q2.2.2.2.2.1 x0 3) :: []) q2.2 else none) (fun f => rfl) ?_
      refine OkF.grd (fun _ => ?_)
      refine OkF.rf (fun a3 => ?_)
      refine OkF.eq 5 (Y := fun f => vcl px (rk px kx f) (d + 2) 116 60 [some (.ref x0), none, some (.int x2), some (.int x3), some (.ref x4), some (.ref x5), some (.int x6), some (.int (S.2.1 a1 x6.toNatClampNeg))] [.ref a3] q2.2 x5 [.int x2, .int x3, .int (S.2.1 a1 x6.toNatClampNeg)] [6, 54, 5, 54, 0, 52, 1, 54, 9, 52, 2, 53]) (fun f => rfl) ?_
      refine OkF.vir rfl (ov_entry (d + 1) x5 x2 x3 (S.2.1 a1 x6.toNatClampNeg) q2.2) (fun q4 => ?_)
      refine OkF.eq 1 (Y := fun f => if oc q4.2 a3 4 = true then (rk px kx f (d + 1) 55 0 [some (.ref a3), some (.int q4.1)] [] q4.2).bind (fun q => rk px kx f (d + 2) 116 63 [some (.ref x0), none, some (.int x2), some (.int x3), some (.ref x4), some (.ref x5), some (.int x6), some (.int (S.2.1 a1 x6.toNatClampNeg))] (q.1.toList ++ []) q.2) else none) (fun f => rfl) ?_
      refine OkF.grd (fun _ => ?_)
      refine OkF.bind (w1 := wI) (om55 (d + 0) a3 q4.1 q4.2) (fun q5 => ?_)
      refine OkF.eq 2 (Y := fun f => if oc q5.2 x4 8 = true then rk px kx f (d + 2) 116 68 [some (.ref x0), none, some (.int x2), some (.int x3), some (.ref x4), some (.ref x5), some (.int x6), some (.int (S.2.1 a1 x6.toNatClampNeg))] (va_rf (q5.2.2.2.2.1 x4 0) :: [.int q5.1]) q5.2 else none) (fun f => rfl) ?_
      refine OkF.grd (fun _ => ?_)
      refine OkF.rf (fun a6 => ?_)
      refine OkF.eq 4 (Y := fun f => if inb (x6 + (1 : Int32)) (al q5.2 a6) = true then rk px kx f (d + 2) 116 73 [some (.ref x0), none, some (.int x2), some (.int x3), some (.ref x4), some (.ref x5), some (.int x6), some (.int (S.2.1 a1 x6.toNatClampNeg))] [.int (q5.2.2.1 a6 (x6 + (1 : Int32)).toNatClampNeg), .int q5.1] q5.2 else none) (fun f => rfl) ?_
      refine OkF.grd (fun _ => ?_)
      refine OkF.eq 1 (Y := fun f => if q5.1 = (q5.2.2.1 a6 (x6 + (1 : Int32)).toNatClampNeg) then rk px kx f (d + 2) 116 78 [some (.ref x0), none, some (.int x2), some (.int x3), some (.ref x4), some (.ref x5), some (.int x6), some (.int (S.2.1 a1 x6.toNatClampNeg))] [] q5.2 else rk px kx f (d + 2) 116 76 [some (.ref x0), none, some (.int x2), some (.int x3), some (.ref x4), some (.ref x5), some (.int x6), some (.int (S.2.1 a1 x6.toNatClampNeg))] [] q5.2) (fun f => rfl) ?_
      refine OkF.ite (fun _ => ?_) (fun _ => ?_)
      · refine OkF.eq 4 (Y := fun f => vcl px (rk px kx f) (d + 2) 116 85 [some (.ref x0), none, some (.int x2), some (.int x3), some (.ref x4), some (.ref x5), some (.int x6), some (.int (S.2.1 a1 x6.toNatClampNeg))] [] q5.2 x5 [.int x2, .int x3] [6, 72, 5, 72, 0, 71, 1, 72, 9, 71, 2, 72]) (fun f => rfl) ?_
        refine OkF.vir rfl (ov_exit (d + 1) x5 x2 x3 q5.2) (fun q7 => ?_)
        refine OkF.eq 2 (Y := fun f => if oc q7.2 x4 8 = true then rk px kx f (d + 2) 116 90 [some (.ref x0), none, some (.int x2), some (.int x3), some (.ref x4), some (.ref x5), some (.int x6), some (.int (S.2.1 a1 x6.toNatClampNeg))] (va_rf (q7.2.2.2.2.1 x4 0) :: [.int q7.1]) q7.2 else none) (fun f => rfl) ?_
        refine OkF.grd (fun _ => ?_)
        refine OkF.rf (fun a8 => ?_)
        refine OkF.eq 4 (Y := fun f => if inb (x6 + (2 : Int32)) (al q7.2 a8) = true then rk px kx f (d + 2) 116 95 [some (.ref x0), none, some (.int x2), some (.int x3), some (.ref x4), some (.ref x5), some (.int x6), some (.int (S.2.1 a1 x6.toNatClampNeg))] [.int (q7.2.2.1 a8 (x6 + (2 : Int32)).toNatClampNeg), .int q7.1] q7.2 else none) (fun f => rfl) ?_
        refine OkF.grd (fun _ => ?_)
        refine OkF.eq 1 (Y := fun f => if q7.1 = (q7.2.2.1 a8 (x6 + (2 : Int32)).toNatClampNeg) then rk px kx f (d + 2) 116 100 [some (.ref x0), none, some (.int x2), some (.int x3), some (.ref x4), some (.ref x5), some (.int x6), some (.int (S.2.1 a1 x6.toNatClampNeg))] [] q7.2 else rk px kx f (d + 2) 116 98 [some (.ref x0), none, some (.int x2), some (.int x3), some (.ref x4), some (.ref x5), some (.int x6), some (.int (S.2.1 a1 x6.toNatClampNeg))] [] q7.2) (fun f => rfl) ?_
        refine OkF.ite (fun _ => ?_) (fun _ => ?_)
        · refine OkF.eq 2 (Y := fun f => rk px kx f (d + 2) 116 13 [some (.ref x0), none, some (.int x2), some (.int x3), some (.ref x4), some (.ref x5), some (.int (x6 + (3 : Int32))), some (.int (S.2.1 a1 x6.toNatClampNeg))] [] q7.2) (fun f => rfl) ?_
          exact OkF.kl (ls1 := [some (.ref x0), none, some (.int x2), some (.int x3), some (.ref x4), some (.ref x5), some (.int (x6 + (3 : Int32))), none]) (fun f => rfl) (hk13 x0 x2 x3 x4 x5 (x6 + (3 : Int32)) q7.2)
        · exact OkF.ret 2 (fun f => rfl)
      · exact OkF.ret 2 (fun f => rfl)
def l116_13 : Nat → Nat → Int32 → Int32 → Nat → Nat → Int32 → Sx → Option (Int32 × Sx)
  | 0 => fun _ _ _ _ _ _ _ => none
  | n + 1 => fun x0 x2 x3 x4 x5 x6 S => b116_13 (l116_13 n) x0 x2 x3 x4 x5 x6 S
set_option maxRecDepth 100000 in
theorem ol116_13 (d : Nat) : ∀ (n : Nat) (x0 : Nat) (x2 : Int32) (x3 : Int32) (x4 : Nat) (x5 : Nat) (x6 : Int32) (S : Sx), OkF wI (fun f => rk px kx f (d + 2) 116 13 [some (.ref x0), none, some (.int x2), some (.int x3), some (.ref x4), some (.ref x5), some (.int x6), none] [] S) (l116_13 n x0 x2 x3 x4 x5 x6 S) := by
  intro n
  induction n with
  | zero => intro x0 x2 x3 x4 x5 x6 S; exact OkF.no
  | succ n ih => intro x0 x2 x3 x4 x5 x6 S; exact ob116_13 d (l116_13 n) ih x0 x2 x3 x4 x5 x6 S
def m116 (x0 : Nat) (x1 : Int32) (x2 : Int32) (x3 : Int32) (x4 : Nat) (S : Sx) : Option (Int32 × Sx) :=
  if oc S x0 11 = true then (S.2.2.2.1 x0 3).bind fun a9 => if oc S a9 4 = true then (m46 a9 x1 S).bind fun q10 => l116_13 1000 x0 x2 x3 x4 q10.1 (0 : Int32) q10.2 else none else none
set_option maxRecDepth 100000 in
theorem om116 (d : Nat) (x0 : Nat) (x1 : Int32) (x2 : Int32) (x3 : Int32) (x4 : Nat) (S : Sx) : OkF wI (fun f => rk px kx f (d + 2) 116 0 [some (.ref x0), some (.int x1), some (.int x2), some (.int x3), some (.ref x4), none, none, none] [] S) (m116 x0 x1 x2 x3 x4 S) := by
  unfold m116
  refine OkF.eq 2 (Y := fun f => if oc S x0 11 = true then rk px kx f (d + 2) 116 4 [some (.ref x0), some (.int x1), some (.int x2), some (.int x3), some (.ref x4), none, none, none] (va_rf (S.2.2.2.1 x0 3) :: []) S else none) (fun f => rfl) ?_
  refine OkF.grd (fun _ => ?_)
  refine OkF.rf (fun a9 => ?_)
  refine OkF.eq 2 (Y := fun f => if oc S a9 4 = true then (rk px kx f (d + 1) 46 0 [some (.ref a9), some (.int x1)] [] S).bind (fun q => rk px kx f (d + 2) 116 8 [some (.ref x0), some (.int x1), some (.int x2), some (.int x3), some (.ref x4), none, none, none] (q.1.toList ++ []) q.2) else none) (fun f => rfl) ?_
  refine OkF.grd (fun _ => ?_)
  refine OkF.bind (w1 := wR) (om46 (d + 1) a9 x1 S) (fun q10 => ?_)
  refine OkF.eq 3 (Y := fun f => rk px kx f (d + 2) 116 13 [some (.ref x0), some (.int x1), some (.int x2), some (.int x3), some (.ref x4), some (.ref q10.1), some (.int (0 : Int32)), none] [] q10.2) (fun f => rfl) ?_
  exact OkF.kl (ls1 := [some (.ref x0), none, some (.int x2), some (.int x3), some (.ref x4), some (.ref q10.1), some (.int (0 : Int32)), none]) (fun f => rfl) (ol116_13 d 1000 x0 x2 x3 x4 q10.1 (0 : Int32) q10.2)
-- DoorSold.fits(II)I
def b114_118 (k22 : Nat → Int32 → Int32 → Int32 → Int32 → Int32 → Sx → Option (Int32 × Sx)) (x0 : Nat) (x1 : Int32) (x2 : Int32) (x4 : Int32) (x5 : Int32) (x6 : Int32) (S : Sx) : Option (Int32 × Sx) :=
  k22 x0 x1 x2 x4 x5 (x6 + (1 : Int32)) S
set_option maxRecDepth 100000 in
theorem ob114_118 (d : Nat) (k22 : Nat → Int32 → Int32 → Int32 → Int32 → Int32 → Sx → Option (Int32 × Sx)) (hk22 : ∀ (x0 : Nat) (x1 : Int32) (x2 : Int32) (x4 : Int32) (x5 : Int32) (x6 : Int32) (S : Sx), OkF wI (fun f => rk px kx f (d + 3) 114 22 [some (.ref x0), some (.int x1), some (.int x2), none, some (.int x4), some (.int x5), some (.int x6)] [] S) (k22 x0 x1 x2 x4 x5 x6 S)) (x0 : Nat) (x1 : Int32) (x2 : Int32) (x4 : Int32) (x5 : Int32) (x6 : Int32) (S : Sx) : OkF wI (fun f => rk px kx f (d + 3) 114 118 [some (.ref x0), some (.int x1), some (.int x2), none, some (.int x4), some (.int x5), some (.int x6)] [] S) (b114_118 k22 x0 x1 x2 x4 x5 x6 S) := by
  unfold b114_118
  refine OkF.eq 2 (Y := fun f => rk px kx f (d + 3) 114 22 [some (.ref x0), some (.int x1), some (.int x2), none, some (.int x4), some (.int x5), some (.int (x6 + (1 : Int32)))] [] S) (fun f => rfl) ?_
  exact OkF.kl (ls1 := [some (.ref x0), some (.int x1), some (.int x2), none, some (.int x4), some (.int x5), some (.int (x6 + (1 : Int32)))]) (fun f => rfl) (hk22 x0 x1 x2 x4 x5 (x6 + (1 : Int32)) S)
def b114_76 (k22 : Nat → Int32 → Int32 → Int32 → Int32 → Int32 → Sx → Option (Int32 × Sx)) (x0 : Nat) (x1 : Int32) (x2 : Int32) (x4 : Int32) (x5 : Int32) (x6 : Int32) (S : Sx) : Option (Int32 × Sx) :=
  if oc S x0 11 = true then (S.2.2.2.1 x0 3).bind fun a1 => if oc S a1 4 = true then (S.2.2.2.1 a1 1).bind fun a2 => if inb x1 (al S a2) = true then if oc S x0 11 = true then (S.2.2.2.1 x0 3).bind fun a3 => if oc S a3 4 = true then (S.2.2.2.1 a3 3).bind fun a4 => if inb x1 (al S a4) = true then if oc S x0 11 = true then (S.2.2.2.1 x0 0).bind fun a5 => if inb x2 (aw S 3 a5) = true then (S.2.2.2.1 a5 x2.toNatClampNeg).bind fun a6 => if oc S x0 11 = true then (m116 x0 (S.2.1 a2 x1.toNatClampNeg) (S.2.1 a4 x1.toNatClampNeg) x6 a6 S).bind fun q7 => if q7.1 = 0 then b114_118 k22 x0 x1 x2 x4 x5 x6 q7.2 else b114_118 k22 x0 x1 x2 x4 (x5 ||| ((1 : Int32) <<< (x6 &&& 31))) x6 q7.2 else none else none else none else none else none else none else none else none else none
set_option maxRecDepth 100000 in
theorem ob114_76 (d : Nat) (k22 : Nat → Int32 → Int32 → Int32 → Int32 → Int32 → Sx → Option (Int32 × Sx)) (hk22 : ∀ (x0 : Nat) (x1 : Int32) (x2 : Int32) (x4 : Int32) (x5 : Int32) (x6 : Int32) (S : Sx), OkF wI (fun f => rk px kx f (d + 3) 114 22 [some (.ref x0), some (.int x1), some (.int x2), none, some (.int x4), some (.int x5), some (.int x6)] [] S) (k22 x0 x1 x2 x4 x5 x6 S)) (x0 : Nat) (x1 : Int32) (x2 : Int32) (x4 : Int32) (x5 : Int32) (x6 : Int32) (S : Sx) : OkF wI (fun f => rk px kx f (d + 3) 114 76 [some (.ref x0), some (.int x1), some (.int x2), none, some (.int x4), some (.int x5), some (.int x6)] [] S) (b114_76 k22 x0 x1 x2 x4 x5 x6 S) := by
  unfold b114_76
  refine OkF.eq 3 (Y := fun f => if oc S x0 11 = true then rk px kx f (d + 3) 114 81 [some (.ref x0), some (.int x1), some (.int x2), none, some (.int x4), some (.int x5), some (.int x6)] (va_rf (S.2.2.2.1 x0 3) :: [.ref x0]) S else none) (fun f => rfl) ?_
  refine OkF.grd (fun _ => ?_)
  refine OkF.rf (fun a1 => ?_)
  refine OkF.eq 1 (Y := fun f => if oc S a1 4 = true then rk px kx f (d + 3) 114 84 [some (.ref x0), some (.int x1), some (.int x2), none, some (.int x4), some (.int x5), some (.int x6)] (va_rf (S.2.2.2.1 a1 1) :: [.ref x0]) S else none) (fun f => rfl) ?_
  refine OkF.grd (fun _ => ?_)
  refine OkF.rf (fun a2 => ?_)
  refine OkF.eq 2 (Y := fun f => if inb x1 (al S a2) = true then rk px kx f (d + 3) 114 86 [some (.ref x0), some (.int x1), some (.int x2), none, some (.int x4), some (.int x5), some (.int x6)] [.int (S.2.1 a2 x1.toNatClampNeg), .ref x0] S else none) (fun f => rfl) ?_
  refine OkF.grd (fun _ => ?_)
  refine OkF.eq 2 (Y := fun f => if oc S x0 11 = true then rk px kx f (d + 3) 114 90 [some (.ref x0), some (.int x1), some (.int x2), none, some (.int x4), some (.int x5), some (.int x6)] (va_rf (S.2.2.2.1 x0 3) :: [.int (S.2.1 a2 x1.toNatClampNeg), .ref x0]) S else none) (fun f => rfl) ?_
  refine OkF.grd (fun _ => ?_)
  refine OkF.rf (fun a3 => ?_)
  refine OkF.eq 1 (Y := fun f => if oc S a3 4 = true then rk px kx f (d + 3) 114 93 [some (.ref x0), some (.int x1), some (.int x2), none, some (.int x4), some (.int x5), some (.int x6)] (va_rf (S.2.2.2.1 a3 3) :: [.int (S.2.1 a2 x1.toNatClampNeg), .ref x0]) S else none) (fun f => rfl) ?_
  refine OkF.grd (fun _ => ?_)
  refine OkF.rf (fun a4 => ?_)
  refine OkF.eq 2 (Y := fun f => if inb x1 (al S a4) = true then rk px kx f (d + 3) 114 95 [some (.ref x0), some (.int x1), some (.int x2), none, some (.int x4), some (.int x5), some (.int x6)] [.int (S.2.1 a4 x1.toNatClampNeg), .int (S.2.1 a2 x1.toNatClampNeg), .ref x0] S else none) (fun f => rfl) ?_
  refine OkF.grd (fun _ => ?_)
  refine OkF.eq 3 (Y := fun f => if oc S x0 11 = true then rk px kx f (d + 3) 114 101 [some (.ref x0), some (.int x1), some (.int x2), none, some (.int x4), some (.int x5), some (.int x6)] (va_rf (S.2.2.2.1 x0 0) :: [.int x6, .int (S.2.1 a4 x1.toNatClampNeg), .int (S.2.1 a2 x1.toNatClampNeg), .ref x0]) S else none) (fun f => rfl) ?_
  refine OkF.grd (fun _ => ?_)
  refine OkF.rf (fun a5 => ?_)
  refine OkF.eq 2 (Y := fun f => if inb x2 (aw S 3 a5) = true then rk px kx f (d + 3) 114 103 [some (.ref x0), some (.int x1), some (.int x2), none, some (.int x4), some (.int x5), some (.int x6)] (va_rf (S.2.2.2.1 a5 x2.toNatClampNeg) :: [.int x6, .int (S.2.1 a4 x1.toNatClampNeg), .int (S.2.1 a2 x1.toNatClampNeg), .ref x0]) S else none) (fun f => rfl) ?_
  refine OkF.grd (fun _ => ?_)
  refine OkF.rf (fun a6 => ?_)
  refine OkF.eq 1 (Y := fun f => if oc S x0 11 = true then (rk px kx f (d + 2) 116 0 [some (.ref x0), some (.int (S.2.1 a2 x1.toNatClampNeg)), some (.int (S.2.1 a4 x1.toNatClampNeg)), some (.int x6), some (.ref a6), none, none, none] [] S).bind (fun q => rk px kx f (d + 3) 114 106 [some (.ref x0), some (.int x1), some (.int x2), none, some (.int x4), some (.int x5), some (.int x6)] (q.1.toList ++ []) q.2) else none) (fun f => rfl) ?_
  refine OkF.grd (fun _ => ?_)
  refine OkF.bind (w1 := wI) (om116 (d + 0) x0 (S.2.1 a2 x1.toNatClampNeg) (S.2.1 a4 x1.toNatClampNeg) x6 a6 S) (fun q7 => ?_)
  refine OkF.eq 1 (Y := fun f => if q7.1 = 0 then rk px kx f (d + 3) 114 118 [some (.ref x0), some (.int x1), some (.int x2), none, some (.int x4), some (.int x5), some (.int x6)] [] q7.2 else rk px kx f (d + 3) 114 109 [some (.ref x0), some (.int x1), some (.int x2), none, some (.int x4), some (.int x5), some (.int x6)] [] q7.2) (fun f => rfl) ?_
  refine OkF.ite (fun _ => ?_) (fun _ => ?_)
  · exact OkF.kl (ls1 := [some (.ref x0), some (.int x1), some (.int x2), none, some (.int x4), some (.int x5), some (.int x6)]) (fun f => rfl) (ob114_118 d k22 hk22 x0 x1 x2 x4 x5 x6 q7.2)
  · refine OkF.eq 6 (Y := fun f => rk px kx f (d + 3) 114 118 [some (.ref x0), some (.int x1), some (.int x2), none, some (.int x4), some (.int (x5 ||| ((1 : Int32) <<< (x6 &&& 31)))), some (.int x6)] [] q7.2) (fun f => rfl) ?_
    exact OkF.kl (ls1 := [some (.ref x0), some (.int x1), some (.int x2), none, some (.int x4), some (.int (x5 ||| ((1 : Int32) <<< (x6 &&& 31)))), some (.int x6)]) (fun f => rfl) (ob114_118 d k22 hk22 x0 x1 x2 x4 (x5 ||| ((1 : Int32) <<< (x6 &&& 31))) x6 q7.2)
def b114_22 (k22 : Nat → Int32 → Int32 → Int32 → Int32 → Int32 → Sx → Option (Int32 × Sx)) (x0 : Nat) (x1 : Int32) (x2 : Int32) (x4 : Int32) (x5 : Int32) (x6 : Int32) (S : Sx) : Option (Int32 × Sx) :=
  if oc S x0 11 = true then (S.2.2.2.1 x0 3).bind fun a8 => if oc S a8 4 = true then if (S.2.1 a8 8) ≤ x6 then if oc S x0 11 = true then lt (sI S x0 12 x5) fun S9 => some (x4, S9) else none else if oc S x0 11 = true then (S.2.2.2.1 x0 3).bind fun a10 => if oc S a10 4 = true then (S.2.2.2.1 a10 1).bind fun a11 => if inb x1 (al S a11) = true then if oc S x0 11 = true then (S.2.2.2.1 x0 3).bind fun a12 => if oc S a12 4 = true then (S.2.2.2.1 a12 4).bind fun a13 => if inb x1 (al S a13) = true then if oc S x0 11 = true then (S.2.2.2.1 x0 0).bind fun a14 => if inb x2 (aw S 3 a14) = true then (S.2.2.2.1 a14 x2.toNatClampNeg).bind fun a15 => if oc S x0 11 = true then (m116 x0 (S.2.1 a11 x1.toNatClampNeg) x6 (S.2.1 a13 x1.toNatClampNeg) a15 S).bind fun q16 => if q16.1 = 0 then b114_76 k22 x0 x1 x2 x4 x5 x6 q16.2 else b114_76 k22 x0 x1 x2 (x4 ||| ((1 : Int32) <<< (x6 &&& 31))) x5 x6 q16.2 else none else none else none else none else none else none else none else none else none else none else none
set_option maxRecDepth 100000 in
theorem ob114_22 (d : Nat) (k22 : Nat → Int32 → Int32 → Int32 → Int32 → Int32 → Sx → Option (Int32 × Sx)) (hk22 : ∀ (x0 : Nat) (x1 : Int32) (x2 : Int32) (x4 : Int32) (x5 : Int32) (x6 : Int32) (S : Sx), OkF wI (fun f => rk px kx f (d + 3) 114 22 [some (.ref x0), some (.int x1), some (.int x2), none, some (.int x4), some (.int x5), some (.int x6)] [] S) (k22 x0 x1 x2 x4 x5 x6 S)) (x0 : Nat) (x1 : Int32) (x2 : Int32) (x4 : Int32) (x5 : Int32) (x6 : Int32) (S : Sx) : OkF wI (fun f => rk px kx f (d + 3) 114 22 [some (.ref x0), some (.int x1), some (.int x2), none, some (.int x4), some (.int x5), some (.int x6)] [] S) (b114_22 k22 x0 x1 x2 x4 x5 x6 S) := by
  unfold b114_22
  refine OkF.eq 3 (Y := fun f => if oc S x0 11 = true then rk px kx f (d + 3) 114 28 [some (.ref x0), some (.int x1), some (.int x2), none, some (.int x4), some (.int x5), some (.int x6)] (va_rf (S.2.2.2.1 x0 3) :: [.int x6]) S else none) (fun f => rfl) ?_
  refine OkF.grd (fun _ => ?_)
  refine OkF.rf (fun a8 => ?_)
  refine OkF.eq 1 (Y := fun f => if oc S a8 4 = true then rk px kx f (d + 3) 114 31 [some (.ref x0), some (.int x1), some (.int x2), none, some (.int x4), some (.int x5), some (.int x6)] [.int (S.2.1 a8 8), .int x6] S else none) (fun f => rfl) ?_
  refine OkF.grd (fun _ => ?_)
  refine OkF.eq 1 (Y := fun f => if (S.2.1 a8 8) ≤ x6 then rk px kx f (d + 3) 114 124 [some (.ref x0), some (.int x1), some (.int x2), none, some (.int x4), some (.int x5), some (.int x6)] [] S else rk px kx f (d + 3) 114 34 [some (.ref x0), some (.int x1), some (.int x2), none, some (.int x4), some (.int x5), some (.int x6)] [] S) (fun f => rfl) ?_
  refine OkF.ite (fun _ => ?_) (fun _ => ?_)
  · refine OkF.eq 3 (Y := fun f => if oc S x0 11 = true then rk px kx f (d + 3) 114 130 [some (.ref x0), some (.int x1), some (.int x2), none, some (.int x4), some (.int x5), some (.int x6)] [] (sI S x0 12 x5) else none) (fun f => rfl) ?_
    refine OkF.grd (fun _ => ?_)
    refine OkF.nm (fun S9 => ?_)
    exact OkF.ret 2 (fun f => rfl)
  · refine OkF.eq 3 (Y := fun f => if oc S x0 11 = true then rk px kx f (d + 3) 114 39 [some (.ref x0), some (.int x1), some (.int x2), none, some (.int x4), some (.int x5), some (.int x6)] (va_rf (S.2.2.2.1 x0 3) :: [.ref x0]) S else none) (fun f => rfl) ?_
    refine OkF.grd (fun _ => ?_)
    refine OkF.rf (fun a10 => ?_)
    refine OkF.eq 1 (Y := fun f => if oc S a10 4 = true then rk px kx f (d + 3) 114 42 [some (.ref x0), some (.int x1), some (.int x2), none, some (.int x4), some (.int x5), some (.int x6)] (va_rf (S.2.2.2.1 a10 1) :: [.ref x0]) S else none) (fun f => rfl) ?_
    refine OkF.grd (fun _ => ?_)
    refine OkF.rf (fun a11 => ?_)
    refine OkF.eq 2 (Y := fun f => if inb x1 (al S a11) = true then rk px kx f (d + 3) 114 44 [some (.ref x0), some (.int x1), some (.int x2), none, some (.int x4), some (.int x5), some (.int x6)] [.int (S.2.1 a11 x1.toNatClampNeg), .ref x0] S else none) (fun f => rfl) ?_
    refine OkF.grd (fun _ => ?_)
    refine OkF.eq 3 (Y := fun f => if oc S x0 11 = true then rk px kx f (d + 3) 114 50 [some (.ref x0), some (.int x1), some (.int x2), none, some (.int x4), some (.int x5), some (.int x6)] (va_rf (S.2.2.2.1 x0 3) :: [.int x6, .int (S.2.1 a11 x1.toNatClampNeg), .ref x0]) S else none) (fun f => rfl) ?_
    refine OkF.grd (fun _ => ?_)
    refine OkF.rf (fun a12 => ?_)
    refine OkF.eq 1 (Y := fun f => if oc S a12 4 = true then rk px kx f (d + 3) 114 53 [some (.ref x0), some (.int x1), some (.int x2), none, some (.int x4), some (.int x5), some (.int x6)] (va_rf (S.2.2.2.1 a12 4) :: [.int x6, .int (S.2.1 a11 x1.toNatClampNeg), .ref x0]) S else none) (fun f => rfl) ?_
    refine OkF.grd (fun _ => ?_)
    refine OkF.rf (fun a13 => ?_)
    refine OkF.eq 2 (Y := fun f => if inb x1 (al S a13) = true then rk px kx f (d + 3) 114 55 [some (.ref x0), some (.int x1), some (.int x2), none, some (.int x4), some (.int x5), some (.int x6)] [.int (S.2.1 a13 x1.toNatClampNeg), .int x6, .int (S.2.1 a11 x1.toNatClampNeg), .ref x0] S else none) (fun f => rfl) ?_
    refine OkF.grd (fun _ => ?_)
    refine OkF.eq 2 (Y := fun f => if oc S x0 11 = true then rk px kx f (d + 3) 114 59 [some (.ref x0), some (.int x1), some (.int x2), none, some (.int x4), some (.int x5), some (.int x6)] (va_rf (S.2.2.2.1 x0 0) :: [.int (S.2.1 a13 x1.toNatClampNeg), .int x6, .int (S.2.1 a11 x1.toNatClampNeg), .ref x0]) S else none) (fun f => rfl) ?_
    refine OkF.grd (fun _ => ?_)
    refine OkF.rf (fun a14 => ?_)
    refine OkF.eq 2 (Y := fun f => if inb x2 (aw S 3 a14) = true then rk px kx f (d + 3) 114 61 [some (.ref x0), some (.int x1), some (.int x2), none, some (.int x4), some (.int x5), some (.int x6)] (va_rf (S.2.2.2.1 a14 x2.toNatClampNeg) :: [.int (S.2.1 a13 x1.toNatClampNeg), .int x6, .int (S.2.1 a11 x1.toNatClampNeg), .ref x0]) S else none) (fun f => rfl) ?_
    refine OkF.grd (fun _ => ?_)
    refine OkF.rf (fun a15 => ?_)
    refine OkF.eq 1 (Y := fun f => if oc S x0 11 = true then (rk px kx f (d + 2) 116 0 [some (.ref x0), some (.int (S.2.1 a11 x1.toNatClampNeg)), some (.int x6), some (.int (S.2.1 a13 x1.toNatClampNeg)), some (.ref a15), none, none, none] [] S).bind (fun q => rk px kx f (d + 3) 114 64 [some (.ref x0), some (.int x1), some (.int x2), none, some (.int x4), some (.int x5), some (.int x6)] (q.1.toList ++ []) q.2) else none) (fun f => rfl) ?_
    refine OkF.grd (fun _ => ?_)
    refine OkF.bind (w1 := wI) (om116 (d + 0) x0 (S.2.1 a11 x1.toNatClampNeg) x6 (S.2.1 a13 x1.toNatClampNeg) a15 S) (fun q16 => ?_)
    refine OkF.eq 1 (Y := fun f => if q16.1 = 0 then rk px kx f (d + 3) 114 76 [some (.ref x0), some (.int x1), some (.int x2), none, some (.int x4), some (.int x5), some (.int x6)] [] q16.2 else rk px kx f (d + 3) 114 67 [some (.ref x0), some (.int x1), some (.int x2), none, some (.int x4), some (.int x5), some (.int x6)] [] q16.2) (fun f => rfl) ?_
    refine OkF.ite (fun _ => ?_) (fun _ => ?_)
    · exact OkF.kl (ls1 := [some (.ref x0), some (.int x1), some (.int x2), none, some (.int x4), some (.int x5), some (.int x6)]) (fun f => rfl) (ob114_76 d k22 hk22 x0 x1 x2 x4 x5 x6 q16.2)
    · refine OkF.eq 6 (Y := fun f => rk px kx f (d + 3) 114 76 [some (.ref x0), some (.int x1), some (.int x2), none, some (.int (x4 ||| ((1 : Int32) <<< (x6 &&& 31)))), some (.int x5), some (.int x6)] [] q16.2) (fun f => rfl) ?_
      exact OkF.kl (ls1 := [some (.ref x0), some (.int x1), some (.int x2), none, some (.int (x4 ||| ((1 : Int32) <<< (x6 &&& 31)))), some (.int x5), some (.int x6)]) (fun f => rfl) (ob114_76 d k22 hk22 x0 x1 x2 (x4 ||| ((1 : Int32) <<< (x6 &&& 31))) x5 x6 q16.2)
def l114_22 : Nat → Nat → Int32 → Int32 → Int32 → Int32 → Int32 → Sx → Option (Int32 × Sx)
  | 0 => fun _ _ _ _ _ _ _ => none
  | n + 1 => fun x0 x1 x2 x4 x5 x6 S => b114_22 (l114_22 n) x0 x1 x2 x4 x5 x6 S
set_option maxRecDepth 100000 in
theorem ol114_22 (d : Nat) : ∀ (n : Nat) (x0 : Nat) (x1 : Int32) (x2 : Int32) (x4 : Int32) (x5 : Int32) (x6 : Int32) (S : Sx), OkF wI (fun f => rk px kx f (d + 3) 114 22 [some (.ref x0), some (.int x1), some (.int x2), none, some (.int x4), some (.int x5), some (.int x6)] [] S) (l114_22 n x0 x1 x2 x4 x5 x6 S) := by
  intro n
  induction n with
  | zero => intro x0 x1 x2 x4 x5 x6 S; exact OkF.no
  | succ n ih => intro x0 x1 x2 x4 x5 x6 S; exact ob114_22 d (l114_22 n) ih x0 x1 x2 x4 x5 x6 S
def m114 (x0 : Nat) (x1 : Int32) (x2 : Int32) (S : Sx) : Option (Int32 × Sx) :=
  if oc S x0 11 = true then (m115 x0 x1 x2 S).bind fun q17 => if q17.1 = 0 then l114_22 1000 x0 x1 x2 (0 : Int32) (0 : Int32) (0 : Int32) q17.2 else some (q17.1, q17.2) else none
set_option maxRecDepth 100000 in
theorem om114 (d : Nat) (x0 : Nat) (x1 : Int32) (x2 : Int32) (S : Sx) : OkF wI (fun f => rk px kx f (d + 3) 114 0 [some (.ref x0), some (.int x1), some (.int x2), none, none, none, none] [] S) (m114 x0 x1 x2 S) := by
  unfold m114
  refine OkF.eq 4 (Y := fun f => if oc S x0 11 = true then (rk px kx f (d + 2) 115 0 [some (.ref x0), some (.int x1), some (.int x2), none, none, none] [] S).bind (fun q => rk px kx f (d + 3) 114 6 [some (.ref x0), some (.int x1), some (.int x2), none, none, none, none] (q.1.toList ++ []) q.2) else none) (fun f => rfl) ?_
  refine OkF.grd (fun _ => ?_)
  refine OkF.bind (w1 := wI) (om115 (d + 1) x0 x1 x2 S) (fun q17 => ?_)
  refine OkF.eq 3 (Y := fun f => if q17.1 = 0 then rk px kx f (d + 3) 114 13 [some (.ref x0), some (.int x1), some (.int x2), some (.int q17.1), none, none, none] [] q17.2 else rk px kx f (d + 3) 114 11 [some (.ref x0), some (.int x1), some (.int x2), some (.int q17.1), none, none, none] [] q17.2) (fun f => rfl) ?_
  refine OkF.ite (fun _ => ?_) (fun _ => ?_)
  · refine OkF.eq 6 (Y := fun f => rk px kx f (d + 3) 114 22 [some (.ref x0), some (.int x1), some (.int x2), some (.int q17.1), some (.int (0 : Int32)), some (.int (0 : Int32)), some (.int (0 : Int32))] [] q17.2) (fun f => rfl) ?_
    exact OkF.kl (ls1 := [some (.ref x0), some (.int x1), some (.int x2), none, some (.int (0 : Int32)), some (.int (0 : Int32)), some (.int (0 : Int32))]) (fun f => rfl) (ol114_22 d 1000 x0 x1 x2 (0 : Int32) (0 : Int32) (0 : Int32) q17.2)
  · exact OkF.ret 2 (fun f => rfl)
-- DoorSold.kinds(II)I
def b117_68 (k19 : Nat → Int32 → Int32 → Int32 → Int32 → Sx → Option (Int32 × Sx)) (x0 : Nat) (x1 : Int32) (x2 : Int32) (x4 : Int32) (x5 : Int32) (S : Sx) : Option (Int32 × Sx) :=
  k19 x0 x1 x2 x4 (x5 + (1 : Int32)) S
set_option maxRecDepth 100000 in
theorem ob117_68 (d : Nat) (k19 : Nat → Int32 → Int32 → Int32 → Int32 → Sx → Option (Int32 × Sx)) (hk19 : ∀ (x0 : Nat) (x1 : Int32) (x2 : Int32) (x4 : Int32) (x5 : Int32) (S : Sx), OkF wI (fun f => rk px kx f (d + 3) 117 19 [some (.ref x0), some (.int x1), some (.int x2), none, some (.int x4), some (.int x5)] [] S) (k19 x0 x1 x2 x4 x5 S)) (x0 : Nat) (x1 : Int32) (x2 : Int32) (x4 : Int32) (x5 : Int32) (S : Sx) : OkF wI (fun f => rk px kx f (d + 3) 117 68 [some (.ref x0), some (.int x1), some (.int x2), none, some (.int x4), some (.int x5)] [] S) (b117_68 k19 x0 x1 x2 x4 x5 S) := by
  unfold b117_68
  refine OkF.eq 2 (Y := fun f => rk px kx f (d + 3) 117 19 [some (.ref x0), some (.int x1), some (.int x2), none, some (.int x4), some (.int (x5 + (1 : Int32)))] [] S) (fun f => rfl) ?_
  exact OkF.kl (ls1 := [some (.ref x0), some (.int x1), some (.int x2), none, some (.int x4), some (.int (x5 + (1 : Int32)))]) (fun f => rfl) (hk19 x0 x1 x2 x4 (x5 + (1 : Int32)) S)
def b117_19 (k19 : Nat → Int32 → Int32 → Int32 → Int32 → Sx → Option (Int32 × Sx)) (x0 : Nat) (x1 : Int32) (x2 : Int32) (x4 : Int32) (x5 : Int32) (S : Sx) : Option (Int32 × Sx) :=
  if (6 : Int32) ≤ x5 then some (x4, S) else if oc S x0 11 = true then (S.2.2.2.1 x0 3).bind fun a1 => if oc S a1 4 = true then (S.2.2.2.1 a1 3).bind fun a2 => if inb x1 (al S a2) = true then if oc S x0 11 = true then (S.2.2.2.1 x0 3).bind fun a3 => if oc S a3 4 = true then (S.2.2.2.1 a3 4).bind fun a4 => if inb x1 (al S a4) = true then if oc S x0 11 = true then (S.2.2.2.1 x0 0).bind fun a5 => if inb x2 (aw S 3 a5) = true then (S.2.2.2.1 a5 x2.toNatClampNeg).bind fun a6 => if oc S x0 11 = true then (m116 x0 x5 (S.2.1 a2 x1.toNatClampNeg) (S.2.1 a4 x1.toNatClampNeg) a6 S).bind fun q7 => if q7.1 = 0 then b117_68 k19 x0 x1 x2 x4 x5 q7.2 else b117_68 k19 x0 x1 x2 (x4 ||| ((1 : Int32) <<< (x5 &&& 31))) x5 q7.2 else none else none else none else none else none else none else none else none else none
set_option maxRecDepth 100000 in
theorem ob117_19 (d : Nat) (k19 : Nat → Int32 → Int32 → Int32 → Int32 → Sx → Option (Int32 × Sx)) (hk19 : ∀ (x0 : Nat) (x1 : Int32) (x2 : Int32) (x4 : Int32) (x5 : Int32) (S : Sx), OkF wI (fun f => rk px kx f (d + 3) 117 19 [some (.ref x0), some (.int x1), some (.int x2), none, some (.int x4), some (.int x5)] [] S) (k19 x0 x1 x2 x4 x5 S)) (x0 : Nat) (x1 : Int32) (x2 : Int32) (x4 : Int32) (x5 : Int32) (S : Sx) : OkF wI (fun f => rk px kx f (d + 3) 117 19 [some (.ref x0), some (.int x1), some (.int x2), none, some (.int x4), some (.int x5)] [] S) (b117_19 k19 x0 x1 x2 x4 x5 S) := by
  unfold b117_19
  refine OkF.eq 3 (Y := fun f => if (6 : Int32) ≤ x5 then rk px kx f (d + 3) 117 74 [some (.ref x0), some (.int x1), some (.int x2), none, some (.int x4), some (.int x5)] [] S else rk px kx f (d + 3) 117 26 [some (.ref x0), some (.int x1), some (.int x2), none, some (.int x4), some (.int x5)] [] S) (fun f => rfl) ?_
  refine OkF.ite (fun _ => ?_) (fun _ => ?_)
  · exact OkF.ret 2 (fun f => rfl)
  · refine OkF.eq 4 (Y := fun f => if oc S x0 11 = true then rk px kx f (d + 3) 117 33 [some (.ref x0), some (.int x1), some (.int x2), none, some (.int x4), some (.int x5)] (va_rf (S.2.2.2.1 x0 3) :: [.int x5, .ref x0]) S else none) (fun f => rfl) ?_
    refine OkF.grd (fun _ => ?_)
    refine OkF.rf (fun a1 => ?_)
    refine OkF.eq 1 (Y := fun f => if oc S a1 4 = true then rk px kx f (d + 3) 117 36 [some (.ref x0), some (.int x1), some (.int x2), none, some (.int x4), some (.int x5)] (va_rf (S.2.2.2.1 a1 3) :: [.int x5, .ref x0]) S else none) (fun f => rfl) ?_
    refine OkF.grd (fun _ => ?_)
    refine OkF.rf (fun a2 => ?_)
    refine OkF.eq 2 (Y := fun f => if inb x1 (al S a2) = true then rk px kx f (d + 3) 117 38 [some (.ref x0), some (.int x1), some (.int x2), none, some (.int x4), some (.int x5)] [.int (S.2.1 a2 x1.toNatClampNeg), .int x5, .ref x0] S else none) (fun f => rfl) ?_
    refine OkF.grd (fun _ => ?_)
    refine OkF.eq 2 (Y := fun f => if oc S x0 11 = true then rk px kx f (d + 3) 117 42 [some (.ref x0), some (.int x1), some (.int x2), none, some (.int x4), some (.int x5)] (va_rf (S.2.2.2.1 x0 3) :: [.int (S.2.1 a2 x1.toNatClampNeg), .int x5, .ref x0]) S else none) (fun f => rfl) ?_
    refine OkF.grd (fun _ => ?_)
    refine OkF.rf (fun a3 => ?_)
    refine OkF.eq 1 (Y := fun f => if oc S a3 4 = true then rk px kx f (d + 3) 117 45 [some (.ref x0), some (.int x1), some (.int x2), none, some (.int x4), some (.int x5)] (va_rf (S.2.2.2.1 a3 4) :: [.int (S.2.1 a2 x1.toNatClampNeg), .int x5, .ref x0]) S else none) (fun f => rfl) ?_
    refine OkF.grd (fun _ => ?_)
    refine OkF.rf (fun a4 => ?_)
    refine OkF.eq 2 (Y := fun f => if inb x1 (al S a4) = true then rk px kx f (d + 3) 117 47 [some (.ref x0), some (.int x1), some (.int x2), none, some (.int x4), some (.int x5)] [.int (S.2.1 a4 x1.toNatClampNeg), .int (S.2.1 a2 x1.toNatClampNeg), .int x5, .ref x0] S else none) (fun f => rfl) ?_
    refine OkF.grd (fun _ => ?_)
    refine OkF.eq 2 (Y := fun f => if oc S x0 11 = true then rk px kx f (d + 3) 117 51 [some (.ref x0), some (.int x1), some (.int x2), none, some (.int x4), some (.int x5)] (va_rf (S.2.2.2.1 x0 0) :: [.int (S.2.1 a4 x1.toNatClampNeg), .int (S.2.1 a2 x1.toNatClampNeg), .int x5, .ref x0]) S else none) (fun f => rfl) ?_
    refine OkF.grd (fun _ => ?_)
    refine OkF.rf (fun a5 => ?_)
    refine OkF.eq 2 (Y := fun f => if inb x2 (aw S 3 a5) = true then rk px kx f (d + 3) 117 53 [some (.ref x0), some (.int x1), some (.int x2), none, some (.int x4), some (.int x5)] (va_rf (S.2.2.2.1 a5 x2.toNatClampNeg) :: [.int (S.2.1 a4 x1.toNatClampNeg), .int (S.2.1 a2 x1.toNatClampNeg), .int x5, .ref x0]) S else none) (fun f => rfl) ?_
    refine OkF.grd (fun _ => ?_)
    refine OkF.rf (fun a6 => ?_)
    refine OkF.eq 1 (Y := fun f => if oc S x0 11 = true then (rk px kx f (d + 2) 116 0 [some (.ref x0), some (.int x5), some (.int (S.2.1 a2 x1.toNatClampNeg)), some (.int (S.2.1 a4 x1.toNatClampNeg)), some (.ref a6), none, none, none] [] S).bind (fun q => rk px kx f (d + 3) 117 56 [some (.ref x0), some (.int x1), some (.int x2), none, some (.int x4), some (.int x5)] (q.1.toList ++ []) q.2) else none) (fun f => rfl) ?_
    refine OkF.grd (fun _ => ?_)
    refine OkF.bind (w1 := wI) (om116 (d + 0) x0 x5 (S.2.1 a2 x1.toNatClampNeg) (S.2.1 a4 x1.toNatClampNeg) a6 S) (fun q7 => ?_)
    refine OkF.eq 1 (Y := fun f => if q7.1 = 0 then rk px kx f (d + 3) 117 68 [some (.ref x0), some (.int x1), some (.int x2), none, some (.int x4), some (.int x5)] [] q7.2 else rk px kx f (d + 3) 117 59 [some (.ref x0), some (.int x1), some (.int x2), none, some (.int x4), some (.int x5)] [] q7.2) (fun f => rfl) ?_
    refine OkF.ite (fun _ => ?_) (fun _ => ?_)
    · exact OkF.kl (ls1 := [some (.ref x0), some (.int x1), some (.int x2), none, some (.int x4), some (.int x5)]) (fun f => rfl) (ob117_68 d k19 hk19 x0 x1 x2 x4 x5 q7.2)
    · refine OkF.eq 6 (Y := fun f => rk px kx f (d + 3) 117 68 [some (.ref x0), some (.int x1), some (.int x2), none, some (.int (x4 ||| ((1 : Int32) <<< (x5 &&& 31)))), some (.int x5)] [] q7.2) (fun f => rfl) ?_
      exact OkF.kl (ls1 := [some (.ref x0), some (.int x1), some (.int x2), none, some (.int (x4 ||| ((1 : Int32) <<< (x5 &&& 31)))), some (.int x5)]) (fun f => rfl) (ob117_68 d k19 hk19 x0 x1 x2 (x4 ||| ((1 : Int32) <<< (x5 &&& 31))) x5 q7.2)
def l117_19 : Nat → Nat → Int32 → Int32 → Int32 → Int32 → Sx → Option (Int32 × Sx)
  | 0 => fun _ _ _ _ _ _ => none
  | n + 1 => fun x0 x1 x2 x4 x5 S => b117_19 (l117_19 n) x0 x1 x2 x4 x5 S
set_option maxRecDepth 100000 in
theorem ol117_19 (d : Nat) : ∀ (n : Nat) (x0 : Nat) (x1 : Int32) (x2 : Int32) (x4 : Int32) (x5 : Int32) (S : Sx), OkF wI (fun f => rk px kx f (d + 3) 117 19 [some (.ref x0), some (.int x1), some (.int x2), none, some (.int x4), some (.int x5)] [] S) (l117_19 n x0 x1 x2 x4 x5 S) := by
  intro n
  induction n with
  | zero => intro x0 x1 x2 x4 x5 S; exact OkF.no
  | succ n ih => intro x0 x1 x2 x4 x5 S; exact ob117_19 d (l117_19 n) ih x0 x1 x2 x4 x5 S
def m117 (x0 : Nat) (x1 : Int32) (x2 : Int32) (S : Sx) : Option (Int32 × Sx) :=
  if oc S x0 11 = true then (m115 x0 x1 x2 S).bind fun q8 => if q8.1 = 0 then l117_19 1000 x0 x1 x2 (0 : Int32) (0 : Int32) q8.2 else some (q8.1, q8.2) else none
set_option maxRecDepth 100000 in
theorem om117 (d : Nat) (x0 : Nat) (x1 : Int32) (x2 : Int32) (S : Sx) : OkF wI (fun f => rk px kx f (d + 3) 117 0 [some (.ref x0), some (.int x1), some (.int x2), none, none, none] [] S) (m117 x0 x1 x2 S) := by
  unfold m117
  refine OkF.eq 4 (Y := fun f => if oc S x0 11 = true then (rk px kx f (d + 2) 115 0 [some (.ref x0), some (.int x1), some (.int x2), none, none, none] [] S).bind (fun q => rk px kx f (d + 3) 117 6 [some (.ref x0), some (.int x1), some (.int x2), none, none, none] (q.1.toList ++ []) q.2) else none) (fun f => rfl) ?_
  refine OkF.grd (fun _ => ?_)
  refine OkF.bind (w1 := wI) (om115 (d + 1) x0 x1 x2 S) (fun q8 => ?_)
  refine OkF.eq 3 (Y := fun f => if q8.1 = 0 then rk px kx f (d + 3) 117 13 [some (.ref x0), some (.int x1), some (.int x2), some (.int q8.1), none, none] [] q8.2 else rk px kx f (d + 3) 117 11 [some (.ref x0), some (.int x1), some (.int x2), some (.int q8.1), none, none] [] q8.2) (fun f => rfl) ?_
  refine OkF.ite (fun _ => ?_) (fun _ => ?_)
  · refine OkF.eq 4 (Y := fun f => rk px kx f (d + 3) 117 19 [some (.ref x0), some (.int x1), some (.int x2), some (.int q8.1), some (.int (0 : Int32)), some (.int (0 : Int32))] [] q8.2) (fun f => rfl) ?_
    exact OkF.kl (ls1 := [some (.ref x0), some (.int x1), some (.int x2), none, some (.int (0 : Int32)), some (.int (0 : Int32))]) (fun f => rfl) (ol117_19 d 1000 x0 x1 x2 (0 : Int32) (0 : Int32) q8.2)
  · exact OkF.ret 2 (fun f => rfl)
-- DoorSold$Country.firstDoorInto(I)I
def b119_2 (k2 : Nat → Int32 → Int32 → Sx → Option (Int32 × Sx)) (x0 : Nat) (x1 : Int32) (x2 : Int32) (S : Sx) : Option (Int32 × Sx) :=
  if oc S x0 4 = true then if (S.2.1 x0 9) ≤ x2 then some ((-9 : Int32), S) else if oc S x0 4 = true then if oc S x0 4 = true then (m51 x0 x2 (S.2.1 x0 13) S).bind fun q1 => if q1.1 = x1 then some (x2, q1.2) else k2 x0 x1 (x2 + (1 : Int32)) q1.2 else none else none else none
set_option maxRecDepth 100000 in
theorem ob119_2 (d : Nat) (k2 : Nat → Int32 → Int32 → Sx → Option (Int32 × Sx)) (hk2 : ∀ (x0 : Nat) (x1 : Int32) (x2 : Int32) (S : Sx), OkF wI (fun f => rk px kx f (d + 3) 119 2 [some (.ref x0), some (.int x1), some (.int x2)] [] S) (k2 x0 x1 x2 S)) (x0 : Nat) (x1 : Int32) (x2 : Int32) (S : Sx) : OkF wI (fun f => rk px kx f (d + 3) 119 2 [some (.ref x0), some (.int x1), some (.int x2)] [] S) (b119_2 k2 x0 x1 x2 S) := by
  unfold b119_2
  refine OkF.eq 3 (Y := fun f => if oc S x0 4 = true then rk px kx f (d + 3) 119 7 [some (.ref x0), some (.int x1), some (.int x2)] [.int (S.2.1 x0 9), .int x2] S else none) (fun f => rfl) ?_
  refine OkF.grd (fun _ => ?_)
  refine OkF.eq 1 (Y := fun f => if (S.2.1 x0 9) ≤ x2 then rk px kx f (d + 3) 119 31 [some (.ref x0), some (.int x1), some (.int x2)] [] S else rk px kx f (d + 3) 119 10 [some (.ref x0), some (.int x1), some (.int x2)] [] S) (fun f => rfl) ?_
  refine OkF.ite (fun _ => ?_) (fun _ => ?_)
  · exact OkF.ret 2 (fun f => rfl)
  · refine OkF.eq 4 (Y := fun f => if oc S x0 4 = true then rk px kx f (d + 3) 119 16 [some (.ref x0), some (.int x1), some (.int x2)] [.int (S.2.1 x0 13), .int x2, .ref x0] S else none) (fun f => rfl) ?_
    refine OkF.grd (fun _ => ?_)
    refine OkF.eq 1 (Y := fun f => if oc S x0 4 = true then (rk px kx f (d + 2) 51 0 [some (.ref x0), some (.int x2), some (.int (S.2.1 x0 13))] [] S).bind (fun q => rk px kx f (d + 3) 119 19 [some (.ref x0), some (.int x1), some (.int x2)] (q.1.toList ++ []) q.2) else none) (fun f => rfl) ?_
    refine OkF.grd (fun _ => ?_)
    refine OkF.bind (w1 := wI) (om51 (d + 0) x0 x2 (S.2.1 x0 13) S) (fun q1 => ?_)
    refine OkF.eq 2 (Y := fun f => if q1.1 = x1 then rk px kx f (d + 3) 119 23 [some (.ref x0), some (.int x1), some (.int x2)] [] q1.2 else rk px kx f (d + 3) 119 25 [some (.ref x0), some (.int x1), some (.int x2)] [] q1.2) (fun f => rfl) ?_
    refine OkF.ite (fun _ => ?_) (fun _ => ?_)
    · exact OkF.ret 2 (fun f => rfl)
    · refine OkF.eq 2 (Y := fun f => rk px kx f (d + 3) 119 2 [some (.ref x0), some (.int x1), some (.int (x2 + (1 : Int32)))] [] q1.2) (fun f => rfl) ?_
      exact OkF.kl (ls1 := [some (.ref x0), some (.int x1), some (.int (x2 + (1 : Int32)))]) (fun f => rfl) (hk2 x0 x1 (x2 + (1 : Int32)) q1.2)
def l119_2 : Nat → Nat → Int32 → Int32 → Sx → Option (Int32 × Sx)
  | 0 => fun _ _ _ _ => none
  | n + 1 => fun x0 x1 x2 S => b119_2 (l119_2 n) x0 x1 x2 S
set_option maxRecDepth 100000 in
theorem ol119_2 (d : Nat) : ∀ (n : Nat) (x0 : Nat) (x1 : Int32) (x2 : Int32) (S : Sx), OkF wI (fun f => rk px kx f (d + 3) 119 2 [some (.ref x0), some (.int x1), some (.int x2)] [] S) (l119_2 n x0 x1 x2 S) := by
  intro n
  induction n with
  | zero => intro x0 x1 x2 S; exact OkF.no
  | succ n ih => intro x0 x1 x2 S; exact ob119_2 d (l119_2 n) ih x0 x1 x2 S
def m119 (x0 : Nat) (x1 : Int32) (S : Sx) : Option (Int32 × Sx) :=
  l119_2 1000 x0 x1 (0 : Int32) S
set_option maxRecDepth 100000 in
theorem om119 (d : Nat) (x0 : Nat) (x1 : Int32) (S : Sx) : OkF wI (fun f => rk px kx f (d + 3) 119 0 [some (.ref x0), some (.int x1), none] [] S) (m119 x0 x1 S) := by
  unfold m119
  refine OkF.eq 2 (Y := fun f => rk px kx f (d + 3) 119 2 [some (.ref x0), some (.int x1), some (.int (0 : Int32))] [] S) (fun f => rfl) ?_
  exact OkF.kl (ls1 := [some (.ref x0), some (.int x1), some (.int (0 : Int32))]) (fun f => rfl) (ol119_2 d 1000 x0 x1 (0 : Int32) S)
-- DoorSold.round(I)I
def b118_36 (k36 : Nat → Int32 → Int32 → Sx → Option (Int32 × Sx)) (x0 : Nat) (x2 : Int32) (x3 : Int32) (S : Sx) : Option (Int32 × Sx) :=
  if oc S x0 11 = true then (S.2.2.2.1 x0 3).bind fun a1 => if oc S a1 4 = true then if (S.2.1 a1 8) < x3 then some ((-9 : Int32), S) else if oc S x0 11 = true then (S.2.2.2.1 x0 9).bind fun a2 => if inb x2 (al S a2) = true then if (S.2.1 a2 x2.toNatClampNeg) = (-9 : Int32) then if oc S x0 11 = true then (S.2.2.2.1 x0 9).bind fun a3 => if inb x2 (aw S 1 a3) = true then lt (sI S a3 x2.toNatClampNeg x3) fun S4 => if oc S4 x0 11 = true then (S4.2.2.2.1 x0 3).bind fun a5 => if oc S4 a5 4 = true then (m119 a5 x2 S4).bind fun q6 => if q6.1 = (-9 : Int32) then some ((-9 : Int32), q6.2) else if oc q6.2 x0 11 = true then (q6.2.2.2.2.1 x0 3).bind fun a7 => if oc q6.2 a7 4 = true then (m70 a7 q6.1 q6.2).bind fun q8 => k36 x0 q8.1 (x3 + (1 : Int32)) q8.2 else none else none else none else none else none else none else if oc S x0 11 = true then lt (sI S x0 12 x2) fun S9 => if oc S9 x0 11 = true then (S9.2.2.2.1 x0 9).bind fun a10 => if inb x2 (al S9 a10) = true then some (x3 - (S9.2.1 a10 x2.toNatClampNeg), S9) else none else none else none else none else none else none else none
set_option maxRecDepth 100000 in
theorem ob118_36 (d : Nat) (k36 : Nat → Int32 → Int32 → Sx → Option (Int32 × Sx)) (hk36 : ∀ (x0 : Nat) (x2 : Int32) (x3 : Int32) (S : Sx), OkF wI (fun f => rk px kx f (d + 4) 118 36 [some (.ref x0), none, some (.int x2), some (.int x3), none] [] S) (k36 x0 x2 x3 S)) (x0 : Nat) (x2 : Int32) (x3 : Int32) (S : Sx) : OkF wI (fun f => rk px kx f (d + 4) 118 36 [some (.ref x0), none, some (.int x2), some (.int x3), none] [] S) (b118_36 k36 x0 x2 x3 S) := by
  unfold b118_36
  refine OkF.eq 3 (Y := fun f => if oc S x0 11 = true then rk px kx f (d + 4) 118 41 [some (.ref x0), none, some (.int x2), some (.int x3), none] (va_rf (S.2.2.2.1 x0 3) :: [.int x3]) S else none) (fun f => rfl) ?_
  refine OkF.grd (fun _ => ?_)
  refine OkF.rf (fun a1 => ?_)
  refine OkF.eq 1 (Y := fun f => if oc S a1 4 = true then rk px kx f (d + 4) 118 44 [some (.ref x0), none, some (.int x2), some (.int x3), none] [.int (S.2.1 a1 8), .int x3] S else none) (fun f => rfl) ?_
  refine OkF.grd (fun _ => ?_)
  refine OkF.eq 1 (Y := fun f => if (S.2.1 a1 8) < x3 then rk px kx f (d + 4) 118 115 [some (.ref x0), none, some (.int x2), some (.int x3), none] [] S else rk px kx f (d + 4) 118 47 [some (.ref x0), none, some (.int x2), some (.int x3), none] [] S) (fun f => rfl) ?_
  refine OkF.ite (fun _ => ?_) (fun _ => ?_)
  · exact OkF.ret 2 (fun f => rfl)
  · refine OkF.eq 2 (Y := fun f => if oc S x0 11 = true then rk px kx f (d + 4) 118 51 [some (.ref x0), none, some (.int x2), some (.int x3), none] (va_rf (S.2.2.2.1 x0 9) :: []) S else none) (fun f => rfl) ?_
    refine OkF.grd (fun _ => ?_)
    refine OkF.rf (fun a2 => ?_)
    refine OkF.eq 2 (Y := fun f => if inb x2 (al S a2) = true then rk px kx f (d + 4) 118 53 [some (.ref x0), none, some (.int x2), some (.int x3), none] [.int (S.2.1 a2 x2.toNatClampNeg)] S else none) (fun f => rfl) ?_
    refine OkF.grd (fun _ => ?_)
    refine OkF.eq 2 (Y := fun f => if (S.2.1 a2 x2.toNatClampNeg) = (-9 : Int32) then rk px kx f (d + 4) 118 72 [some (.ref x0), none, some (.int x2), some (.int x3), none] [] S else rk px kx f (d + 4) 118 58 [some (.ref x0), none, some (.int x2), some (.int x3), none] [] S) (fun f => rfl) ?_
    refine OkF.ite (fun _ => ?_) (fun _ => ?_)
    · refine OkF.eq 2 (Y := fun f => if oc S x0 11 = true then rk px kx f (d + 4) 118 76 [some (.ref x0), none, some (.int x2), some (.int x3), none] (va_rf (S.2.2.2.1 x0 9) :: []) S else none) (fun f => rfl) ?_
      refine OkF.grd (fun _ => ?_)
      refine OkF.rf (fun a3 => ?_)
      refine OkF.eq 3 (Y := fun f => if inb x2 (aw S 1 a3) = true then rk px kx f (d + 4) 118 79 [some (.ref x0), none, some (.int x2), some (.int x3), none] [] (sI S a3 x2.toNatClampNeg x3) else none) (fun f => rfl) ?_
      refine OkF.grd (fun _ => ?_)
      refine OkF.nm (fun S4 => ?_)
      refine OkF.eq 2 (Y := fun f => if oc S4 x0 11 = true then rk px kx f (d + 4) 118 83 [some (.ref x0), none, some (.int x2), some (.int x3), none] (va_rf (S4.2.2.2.1 x0 3) :: []) S4 else none) (fun f => rfl) ?_
      refine OkF.grd (fun _ => ?_)
      refine OkF.rf (fun a5 => ?_)
      refine OkF.eq 2 (Y := fun f => if oc S4 a5 4 = true then (rk px kx f (d + 3) 119 0 [some (.ref a5), some (.int x2), none] [] S4).bind (fun q => rk px kx f (d + 4) 118 87 [some (.ref x0), none, some (.int x2), some (.int x3), none] (q.1.toList ++ []) q.2) else none) (fun f => rfl) ?_
      refine OkF.grd (fun _ => ?_)
      refine OkF.bind (w1 := wI) (om119 (d + 0) a5 x2 S4) (fun q6 => ?_)
      refine OkF.eq 4 (Y := fun f => if q6.1 = (-9 : Int32) then rk px kx f (d + 4) 118 96 [some (.ref x0), none, some (.int x2), some (.int x3), some (.int q6.1)] [] q6.2 else rk px kx f (d + 4) 118 99 [some (.ref x0), none, some (.int x2), some (.int x3), some (.int q6.1)] [] q6.2) (fun f => rfl) ?_
      refine OkF.ite (fun _ => ?_) (fun _ => ?_)
      · exact OkF.ret 2 (fun f => rfl)
      · refine OkF.eq 2 (Y := fun f => if oc q6.2 x0 11 = true then rk px kx f (d + 4) 118 103 [some (.ref x0), none, some (.int x2), some (.int x3), some (.int q6.1)] (va_rf (q6.2.2.2.2.1 x0 3) :: []) q6.2 else none) (fun f => rfl) ?_
        refine OkF.grd (fun _ => ?_)
        refine OkF.rf (fun a7 => ?_)
        refine OkF.eq 2 (Y := fun f => if oc q6.2 a7 4 = true then (rk px kx f (d + 3) 70 0 [some (.ref a7), some (.int q6.1)] [] q6.2).bind (fun q => rk px kx f (d + 4) 118 108 [some (.ref x0), none, some (.int x2), some (.int x3), some (.int q6.1)] (q.1.toList ++ []) q.2) else none) (fun f => rfl) ?_
        refine OkF.grd (fun _ => ?_)
        refine OkF.bind (w1 := wI) (om70 (d + 2) a7 q6.1 q6.2) (fun q8 => ?_)
        refine OkF.eq 3 (Y := fun f => rk px kx f (d + 4) 118 36 [some (.ref x0), none, some (.int q8.1), some (.int (x3 + (1 : Int32))), some (.int q6.1)] [] q8.2) (fun f => rfl) ?_
        exact OkF.kl (ls1 := [some (.ref x0), none, some (.int q8.1), some (.int (x3 + (1 : Int32))), none]) (fun f => rfl) (hk36 x0 q8.1 (x3 + (1 : Int32)) q8.2)
    · refine OkF.eq 3 (Y := fun f => if oc S x0 11 = true then rk px kx f (d + 4) 118 63 [some (.ref x0), none, some (.int x2), some (.int x3), none] [] (sI S x0 12 x2) else none) (fun f => rfl) ?_
      refine OkF.grd (fun _ => ?_)
      refine OkF.nm (fun S9 => ?_)
      refine OkF.eq 3 (Y := fun f => if oc S9 x0 11 = true then rk px kx f (d + 4) 118 68 [some (.ref x0), none, some (.int x2), some (.int x3), none] (va_rf (S9.2.2.2.1 x0 9) :: [.int x3]) S9 else none) (fun f => rfl) ?_
      refine OkF.grd (fun _ => ?_)
      refine OkF.rf (fun a10 => ?_)
      refine OkF.eq 2 (Y := fun f => if inb x2 (al S9 a10) = true then rk px kx f (d + 4) 118 70 [some (.ref x0), none, some (.int x2), some (.int x3), none] [.int (S9.2.1 a10 x2.toNatClampNeg), .int x3] S9 else none) (fun f => rfl) ?_
      refine OkF.grd (fun _ => ?_)
      exact OkF.ret 2 (fun f => rfl)
def l118_36 : Nat → Nat → Int32 → Int32 → Sx → Option (Int32 × Sx)
  | 0 => fun _ _ _ _ => none
  | n + 1 => fun x0 x2 x3 S => b118_36 (l118_36 n) x0 x2 x3 S
set_option maxRecDepth 100000 in
theorem ol118_36 (d : Nat) : ∀ (n : Nat) (x0 : Nat) (x2 : Int32) (x3 : Int32) (S : Sx), OkF wI (fun f => rk px kx f (d + 4) 118 36 [some (.ref x0), none, some (.int x2), some (.int x3), none] [] S) (l118_36 n x0 x2 x3 S) := by
  intro n
  induction n with
  | zero => intro x0 x2 x3 S; exact OkF.no
  | succ n ih => intro x0 x2 x3 S; exact ob118_36 d (l118_36 n) ih x0 x2 x3 S
def b118_12 (k12 : Nat → Int32 → Int32 → Sx → Option (Int32 × Sx)) (x0 : Nat) (x1 : Int32) (x2 : Int32) (S : Sx) : Option (Int32 × Sx) :=
  if (7 : Int32) ≤ x2 then l118_36 1000 x0 x1 (0 : Int32) S else if oc S x0 11 = true then (S.2.2.2.1 x0 9).bind fun a11 => if inb x2 (aw S 1 a11) = true then lt (sI S a11 x2.toNatClampNeg (-9 : Int32)) fun S12 => k12 x0 x1 (x2 + (1 : Int32)) S12 else none else none
set_option maxRecDepth 100000 in
theorem ob118_12 (d : Nat) (k12 : Nat → Int32 → Int32 → Sx → Option (Int32 × Sx)) (hk12 : ∀ (x0 : Nat) (x1 : Int32) (x2 : Int32) (S : Sx), OkF wI (fun f => rk px kx f (d + 4) 118 12 [some (.ref x0), some (.int x1), some (.int x2), none, none] [] S) (k12 x0 x1 x2 S)) (x0 : Nat) (x1 : Int32) (x2 : Int32) (S : Sx) : OkF wI (fun f => rk px kx f (d + 4) 118 12 [some (.ref x0), some (.int x1), some (.int x2), none, none] [] S) (b118_12 k12 x0 x1 x2 S) := by
  unfold b118_12
  refine OkF.eq 3 (Y := fun f => if (7 : Int32) ≤ x2 then rk px kx f (d + 4) 118 32 [some (.ref x0), some (.int x1), some (.int x2), none, none] [] S else rk px kx f (d + 4) 118 18 [some (.ref x0), some (.int x1), some (.int x2), none, none] [] S) (fun f => rfl) ?_
  refine OkF.ite (fun _ => ?_) (fun _ => ?_)
  · refine OkF.eq 4 (Y := fun f => rk px kx f (d + 4) 118 36 [some (.ref x0), some (.int x1), some (.int x1), some (.int (0 : Int32)), none] [] S) (fun f => rfl) ?_
    exact OkF.kl (ls1 := [some (.ref x0), none, some (.int x1), some (.int (0 : Int32)), none]) (fun f => rfl) (ol118_36 d 1000 x0 x1 (0 : Int32) S)
  · refine OkF.eq 2 (Y := fun f => if oc S x0 11 = true then rk px kx f (d + 4) 118 22 [some (.ref x0), some (.int x1), some (.int x2), none, none] (va_rf (S.2.2.2.1 x0 9) :: []) S else none) (fun f => rfl) ?_
    refine OkF.grd (fun _ => ?_)
    refine OkF.rf (fun a11 => ?_)
    refine OkF.eq 3 (Y := fun f => if inb x2 (aw S 1 a11) = true then rk px kx f (d + 4) 118 26 [some (.ref x0), some (.int x1), some (.int x2), none, none] [] (sI S a11 x2.toNatClampNeg (-9 : Int32)) else none) (fun f => rfl) ?_
    refine OkF.grd (fun _ => ?_)
    refine OkF.nm (fun S12 => ?_)
    refine OkF.eq 2 (Y := fun f => rk px kx f (d + 4) 118 12 [some (.ref x0), some (.int x1), some (.int (x2 + (1 : Int32))), none, none] [] S12) (fun f => rfl) ?_
    exact OkF.kl (ls1 := [some (.ref x0), some (.int x1), some (.int (x2 + (1 : Int32))), none, none]) (fun f => rfl) (hk12 x0 x1 (x2 + (1 : Int32)) S12)
def l118_12 : Nat → Nat → Int32 → Int32 → Sx → Option (Int32 × Sx)
  | 0 => fun _ _ _ _ => none
  | n + 1 => fun x0 x1 x2 S => b118_12 (l118_12 n) x0 x1 x2 S
set_option maxRecDepth 100000 in
theorem ol118_12 (d : Nat) : ∀ (n : Nat) (x0 : Nat) (x1 : Int32) (x2 : Int32) (S : Sx), OkF wI (fun f => rk px kx f (d + 4) 118 12 [some (.ref x0), some (.int x1), some (.int x2), none, none] [] S) (l118_12 n x0 x1 x2 S) := by
  intro n
  induction n with
  | zero => intro x0 x1 x2 S; exact OkF.no
  | succ n ih => intro x0 x1 x2 S; exact ob118_12 d (l118_12 n) ih x0 x1 x2 S
def m118 (x0 : Nat) (x1 : Int32) (S : Sx) : Option (Int32 × Sx) :=
  if oc S x0 11 = true then (m98 x0 x1 S).bind fun q13 => if q13.1 = 0 then l118_12 1000 x0 x1 (0 : Int32) q13.2 else some ((-1 : Int32), q13.2) else none
set_option maxRecDepth 100000 in
theorem om118 (d : Nat) (x0 : Nat) (x1 : Int32) (S : Sx) : OkF wI (fun f => rk px kx f (d + 4) 118 0 [some (.ref x0), some (.int x1), none, none, none] [] S) (m118 x0 x1 S) := by
  unfold m118
  refine OkF.eq 3 (Y := fun f => if oc S x0 11 = true then (rk px kx f (d + 3) 98 0 [some (.ref x0), some (.int x1)] [] S).bind (fun q => rk px kx f (d + 4) 118 5 [some (.ref x0), some (.int x1), none, none, none] (q.1.toList ++ []) q.2) else none) (fun f => rfl) ?_
  refine OkF.grd (fun _ => ?_)
  refine OkF.bind (w1 := wI) (om98 (d + 3) x0 x1 S) (fun q13 => ?_)
  refine OkF.eq 1 (Y := fun f => if q13.1 = 0 then rk px kx f (d + 4) 118 10 [some (.ref x0), some (.int x1), none, none, none] [] q13.2 else rk px kx f (d + 4) 118 8 [some (.ref x0), some (.int x1), none, none, none] [] q13.2) (fun f => rfl) ?_
  refine OkF.ite (fun _ => ?_) (fun _ => ?_)
  · refine OkF.eq 2 (Y := fun f => rk px kx f (d + 4) 118 12 [some (.ref x0), some (.int x1), some (.int (0 : Int32)), none, none] [] q13.2) (fun f => rfl) ?_
    exact OkF.kl (ls1 := [some (.ref x0), some (.int x1), some (.int (0 : Int32)), none, none]) (fun f => rfl) (ol118_12 d 1000 x0 x1 (0 : Int32) q13.2)
  · exact OkF.ret 2 (fun f => rfl)
