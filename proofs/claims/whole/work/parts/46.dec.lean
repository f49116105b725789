-- DoorSoldModel.leadsTo(IIII)I
def b205_80 (x0 : Nat) (x1 : Int32) (s0 : Int32) (S : Sx) : Option (Int32 × Sx) :=
  if s0 = 0 then some ((-9 : Int32), S) else if oc S x0 12 = true then (m184 x0 x1 S).bind fun q1 => some (q1.1, q1.2) else none
set_option maxRecDepth 100000 in
theorem ob205_80 (d : Nat) (x0 : Nat) (x1 : Int32) (s0 : Int32) (S : Sx) : OkF wI (fun f => rk px kx f (d + 3) 205 80 [some (.ref x0), some (.int x1), none, none, none, none, none] [.int s0] S) (b205_80 x0 x1 s0 S) := by
  unfold b205_80
  refine OkF.eq 3 (Y := fun f => if s0 = 0 then rk px kx f (d + 3) 205 95 [some (.ref x0), some (.int x1), none, none, none, none, some (.int s0)] [] S else rk px kx f (d + 3) 205 87 [some (.ref x0), some (.int x1), none, none, none, none, some (.int s0)] [] S) (fun f => rfl) ?_
  refine OkF.ite (fun _ => ?_) (fun _ => ?_)
  · exact OkF.ret 2 (fun f => rfl)
  · refine OkF.eq 3 (Y := fun f => if oc S x0 12 = true then (rk px kx f (d + 2) 184 0 [some (.ref x0), some (.int x1)] [] S).bind (fun q => rk px kx f (d + 3) 205 92 [some (.ref x0), some (.int x1), none, none, none, none, some (.int s0)] (q.1.toList ++ []) q.2) else none) (fun f => rfl) ?_
    refine OkF.grd (fun _ => ?_)
    refine OkF.bind (w1 := wI) (om184 (d + 0) x0 x1 S) (fun q1 => ?_)
    exact OkF.ret 2 (fun f => rfl)
def b205_79 (x0 : Nat) (x1 : Int32) (S : Sx) : Option (Int32 × Sx) :=
  b205_80 x0 x1 (0 : Int32) S
set_option maxRecDepth 100000 in
theorem ob205_79 (d : Nat) (x0 : Nat) (x1 : Int32) (S : Sx) : OkF wI (fun f => rk px kx f (d + 3) 205 79 [some (.ref x0), some (.int x1), none, none, none, none, none] [] S) (b205_79 x0 x1 S) := by
  unfold b205_79
  refine OkF.eq 1 (Y := fun f => rk px kx f (d + 3) 205 80 [some (.ref x0), some (.int x1), none, none, none, none, none] [.int (0 : Int32)] S) (fun f => rfl) ?_
  exact OkF.kl (ls1 := [some (.ref x0), some (.int x1), none, none, none, none, none]) (fun f => rfl) (ob205_80 d x0 x1 (0 : Int32) S)
def m205 (x0 : Nat) (x1 : Int32) (x2 : Int32) (x3 : Int32) (x4 : Int32) (S : Sx) : Option (Int32 × Sx) :=
  if x1 = (6 : Int32) then if oc S x0 12 = true then if (S.2.1 x0 5) = 0 then none else some ((x2 + (1 : Int32)) - (x2 + (1 : Int32)) / (S.2.1 x0 5) * (S.2.1 x0 5), S) else none else if x1 = (7 : Int32) then some (x2, S) else if oc S x0 12 = true then (S.2.2.2.1 x0 8).bind fun a2 => if inb (1 : Int32) (al S a2) = true then if oc S x0 12 = true then if (S.2.1 x0 4) ≤ x1 then b205_79 x0 x1 S else (m180 x4 x1 S).bind fun q3 => if q3.1 = 0 then b205_79 x0 x1 q3.2 else if oc q3.2 x0 12 = true then (q3.2.2.2.2.1 x0 6).bind fun a4 => if inb x1 (al q3.2 a4) = true then (m177 (q3.2.2.1 a4 x1.toNatClampNeg) ((S.2.1 a2 (1 : Int32).toNatClampNeg) + x3) q3.2).bind fun q5 => if q5.1 = 0 then b205_79 x0 x1 q5.2 else if oc q5.2 x0 12 = true then (m174 x0 x1 ((S.2.1 a2 (1 : Int32).toNatClampNeg) + x3) q5.2).bind fun q6 => if q6.1 = x2 then b205_80 x0 x1 (1 : Int32) q6.2 else b205_79 x0 x1 q6.2 else none else none else none else none else none else none
set_option maxRecDepth 100000 in
theorem om205 (d : Nat) (x0 : Nat) (x1 : Int32) (x2 : Int32) (x3 : Int32) (x4 : Int32) (S : Sx) : OkF wI (fun f => rk px kx f (d + 3) 205 0 [some (.ref x0), some (.int x1), some (.int x2), some (.int x3), some (.int x4), none, none] [] S) (m205 x0 x1 x2 x3 x4 S) := by
  unfold m205
  refine OkF.eq 3 (Y := fun f => if x1 = (6 : Int32) then rk px kx f (d + 3) 205 6 [some (.ref x0), some (.int x1), some (.int x2), some (.int x3), some (.int x4), none, none] [] S else rk px kx f (d + 3) 205 15 [some (.ref x0), some (.int x1), some (.int x2), some (.int x3), some (.int x4), none, none] [] S) (fun f => rfl) ?_
  refine OkF.ite (fun _ => ?_) (fun _ => ?_)
  · refine OkF.eq 5 (Y := fun f => if oc S x0 12 = true then rk px kx f (d + 3) 205 13 [some (.ref x0), some (.int x1), some (.int x2), some (.int x3), some (.int x4), none, none] [.int (S.2.1 x0 5), .int (x2 + (1 : Int32))] S else none) (fun f => rfl) ?_
    refine OkF.grd (fun _ => ?_)
    refine OkF.eq 1 (Y := fun f => if (S.2.1 x0 5) = 0 then none else rk px kx f (d + 3) 205 14 [some (.ref x0), some (.int x1), some (.int x2), some (.int x3), some (.int x4), none, none] [.int ((x2 + (1 : Int32)) - (x2 + (1 : Int32)) / (S.2.1 x0 5) * (S.2.1 x0 5))] S) (fun f => rfl) ?_
    refine OkF.ngr (fun _ => ?_)
    exact OkF.ret 1 (fun f => rfl)
  · refine OkF.eq 3 (Y := fun f => if x1 = (7 : Int32) then rk px kx f (d + 3) 205 21 [some (.ref x0), some (.int x1), some (.int x2), some (.int x3), some (.int x4), none, none] [] S else rk px kx f (d + 3) 205 23 [some (.ref x0), some (.int x1), some (.int x2), some (.int x3), some (.int x4), none, none] [] S) (fun f => rfl) ?_
    refine OkF.ite (fun _ => ?_) (fun _ => ?_)
    · exact OkF.ret 2 (fun f => rfl)
    · refine OkF.eq 2 (Y := fun f => if oc S x0 12 = true then rk px kx f (d + 3) 205 27 [some (.ref x0), some (.int x1), some (.int x2), some (.int x3), some (.int x4), none, none] (va_rf (S.2.2.2.1 x0 8) :: []) S else none) (fun f => rfl) ?_
      refine OkF.grd (fun _ => ?_)
      refine OkF.rf (fun a2 => ?_)
      refine OkF.eq 2 (Y := fun f => if inb (1 : Int32) (al S a2) = true then rk px kx f (d + 3) 205 29 [some (.ref x0), some (.int x1), some (.int x2), some (.int x3), some (.int x4), none, none] [.int (S.2.1 a2 (1 : Int32).toNatClampNeg)] S else none) (fun f => rfl) ?_
      refine OkF.grd (fun _ => ?_)
      refine OkF.eq 6 (Y := fun f => if oc S x0 12 = true then rk px kx f (d + 3) 205 38 [some (.ref x0), some (.int x1), some (.int x2), some (.int x3), some (.int x4), some (.int ((S.2.1 a2 (1 : Int32).toNatClampNeg) + x3)), none] [.int (S.2.1 x0 4), .int x1] S else none) (fun f => rfl) ?_
      refine OkF.grd (fun _ => ?_)
      refine OkF.eq 1 (Y := fun f => if (S.2.1 x0 4) ≤ x1 then rk px kx f (d + 3) 205 79 [some (.ref x0), some (.int x1), some (.int x2), some (.int x3), some (.int x4), some (.int ((S.2.1 a2 (1 : Int32).toNatClampNeg) + x3)), none] [] S else rk px kx f (d + 3) 205 41 [some (.ref x0), some (.int x1), some (.int x2), some (.int x3), some (.int x4), some (.int ((S.2.1 a2 (1 : Int32).toNatClampNeg) + x3)), none] [] S) (fun f => rfl) ?_
      refine OkF.ite (fun _ => ?_) (fun _ => ?_)
      · exact OkF.kl (ls1 := [some (.ref x0), some (.int x1), none, none, none, none, none]) (fun f => rfl) (ob205_79 d x0 x1 S)
      · refine OkF.eq 3 (Y := fun f => (rk px kx f (d + 2) 180 0 [some (.int x4), some (.int x1)] [] S).bind (fun q => rk px kx f (d + 3) 205 47 [some (.ref x0), some (.int x1), some (.int x2), some (.int x3), some (.int x4), some (.int ((S.2.1 a2 (1 : Int32).toNatClampNeg) + x3)), none] (q.1.toList ++ []) q.2)) (fun f => rfl) ?_
        refine OkF.bind (w1 := wI) (om180 (d + 2) x4 x1 S) (fun q3 => ?_)
        refine OkF.eq 1 (Y := fun f => if q3.1 = 0 then rk px kx f (d + 3) 205 79 [some (.ref x0), some (.int x1), some (.int x2), some (.int x3), some (.int x4), some (.int ((S.2.1 a2 (1 : Int32).toNatClampNeg) + x3)), none] [] q3.2 else rk px kx f (d + 3) 205 50 [some (.ref x0), some (.int x1), some (.int x2), some (.int x3), some (.int x4), some (.int ((S.2.1 a2 (1 : Int32).toNatClampNeg) + x3)), none] [] q3.2) (fun f => rfl) ?_
        refine OkF.ite (fun _ => ?_) (fun _ => ?_)
        · exact OkF.kl (ls1 := [some (.ref x0), some (.int x1), none, none, none, none, none]) (fun f => rfl) (ob205_79 d x0 x1 q3.2)
        · refine OkF.eq 2 (Y := fun f => if oc q3.2 x0 12 = true then rk px kx f (d + 3) 205 54 [some (.ref x0), some (.int x1), some (.int x2), some (.int x3), some (.int x4), some (.int ((S.2.1 a2 (1 : Int32).toNatClampNeg) + x3)), none] (va_rf (q3.2.2.2.2.1 x0 6) :: []) q3.2 else none) (fun f => rfl) ?_
          refine OkF.grd (fun _ => ?_)
          refine OkF.rf (fun a4 => ?_)
          refine OkF.eq 2 (Y := fun f => if inb x1 (al q3.2 a4) = true then rk px kx f (d + 3) 205 56 [some (.ref x0), some (.int x1), some (.int x2), some (.int x3), some (.int x4), some (.int ((S.2.1 a2 (1 : Int32).toNatClampNeg) + x3)), none] [.int (q3.2.2.1 a4 x1.toNatClampNeg)] q3.2 else none) (fun f => rfl) ?_
          refine OkF.grd (fun _ => ?_)
          refine OkF.eq 2 (Y := fun f => (rk px kx f (d + 2) 177 0 [some (.int (q3.2.2.1 a4 x1.toNatClampNeg)), some (.int ((S.2.1 a2 (1 : Int32).toNatClampNeg) + x3))] [] q3.2).bind (fun q => rk px kx f (d + 3) 205 61 [some (.ref x0), some (.int x1), some (.int x2), some (.int x3), some (.int x4), some (.int ((S.2.1 a2 (1 : Int32).toNatClampNeg) + x3)), none] (q.1.toList ++ []) q.2)) (fun f => rfl) ?_
          refine OkF.bind (w1 := wI) (om177 (d + 1) (q3.2.2.1 a4 x1.toNatClampNeg) ((S.2.1 a2 (1 : Int32).toNatClampNeg) + x3) q3.2) (fun q5 => ?_)
          refine OkF.eq 1 (Y := fun f => if q5.1 = 0 then rk px kx f (d + 3) 205 79 [some (.ref x0), some (.int x1), some (.int x2), some (.int x3), some (.int x4), some (.int ((S.2.1 a2 (1 : Int32).toNatClampNeg) + x3)), none] [] q5.2 else rk px kx f (d + 3) 205 64 [some (.ref x0), some (.int x1), some (.int x2), some (.int x3), some (.int x4), some (.int ((S.2.1 a2 (1 : Int32).toNatClampNeg) + x3)), none] [] q5.2) (fun f => rfl) ?_
          refine OkF.ite (fun _ => ?_) (fun _ => ?_)
          · exact OkF.kl (ls1 := [some (.ref x0), some (.int x1), none, none, none, none, none]) (fun f => rfl) (ob205_79 d x0 x1 q5.2)
          · refine OkF.eq 4 (Y := fun f => if oc q5.2 x0 12 = true then (rk px kx f (d + 2) 174 0 [some (.ref x0), some (.int x1), some (.int ((S.2.1 a2 (1 : Int32).toNatClampNeg) + x3))] [] q5.2).bind (fun q => rk px kx f (d + 3) 205 71 [some (.ref x0), some (.int x1), some (.int x2), some (.int x3), some (.int x4), some (.int ((S.2.1 a2 (1 : Int32).toNatClampNeg) + x3)), none] (q.1.toList ++ []) q.2) else none) (fun f => rfl) ?_
            refine OkF.grd (fun _ => ?_)
            refine OkF.bind (w1 := wI) (om174 (d + 0) x0 x1 ((S.2.1 a2 (1 : Int32).toNatClampNeg) + x3) q5.2) (fun q6 => ?_)
            refine OkF.eq 2 (Y := fun f => if q6.1 = x2 then rk px kx f (d + 3) 205 75 [some (.ref x0), some (.int x1), some (.int x2), some (.int x3), some (.int x4), some (.int ((S.2.1 a2 (1 : Int32).toNatClampNeg) + x3)), none] [] q6.2 else rk px kx f (d + 3) 205 79 [some (.ref x0), some (.int x1), some (.int x2), some (.int x3), some (.int x4), some (.int ((S.2.1 a2 (1 : Int32).toNatClampNeg) + x3)), none] [] q6.2) (fun f => rfl) ?_
            refine OkF.ite (fun _ => ?_) (fun _ => ?_)
            · refine OkF.eq 2 (Y := fun f => rk px kx f (d + 3) 205 80 [some (.ref x0), some (.int x1), some (.int x2), some (.int x3), some (.int x4), some (.int ((S.2.1 a2 (1 : Int32).toNatClampNeg) + x3)), none] [.int (1 : Int32)] q6.2) (fun f => rfl) ?_
              exact OkF.kl (ls1 := [some (.ref x0), some (.int x1), none, none, none, none, none]) (fun f => rfl) (ob205_80 d x0 x1 (1 : Int32) q6.2)
            · exact OkF.kl (ls1 := [some (.ref x0), some (.int x1), none, none, none, none, none]) (fun f => rfl) (ob205_79 d x0 x1 q6.2)
-- DoorSoldModel.takesHours(I)I
def m206 (x0 : Nat) (x1 : Int32) (S : Sx) : Option (Int32 × Sx) :=
  if x1 = (6 : Int32) then some ((3 : Int32), S) else if x1 = (7 : Int32) then some ((1 : Int32), S) else if oc S x0 12 = true then (m179 x0 x1 S).bind fun q1 => some (q1.1, q1.2) else none
set_option maxRecDepth 100000 in
theorem om206 (d : Nat) (x0 : Nat) (x1 : Int32) (S : Sx) : OkF wI (fun f => rk px kx f (d + 1) 206 0 [some (.ref x0), some (.int x1)] [] S) (m206 x0 x1 S) := by
  unfold m206
  refine OkF.eq 3 (Y := fun f => if x1 = (6 : Int32) then rk px kx f (d + 1) 206 6 [some (.ref x0), some (.int x1)] [] S else rk px kx f (d + 1) 206 10 [some (.ref x0), some (.int x1)] [] S) (fun f => rfl) ?_
  refine OkF.ite (fun _ => ?_) (fun _ => ?_)
  · exact OkF.ret 3 (fun f => rfl)
  · refine OkF.eq 3 (Y := fun f => if x1 = (7 : Int32) then rk px kx f (d + 1) 206 16 [some (.ref x0), some (.int x1)] [] S else rk px kx f (d + 1) 206 20 [some (.ref x0), some (.int x1)] [] S) (fun f => rfl) ?_
    refine OkF.ite (fun _ => ?_) (fun _ => ?_)
    · exact OkF.ret 3 (fun f => rfl)
    · refine OkF.eq 3 (Y := fun f => if oc S x0 12 = true then (rk px kx f (d + 0) 179 0 [some (.ref x0), some (.int x1)] [] S).bind (fun q => rk px kx f (d + 1) 206 25 [some (.ref x0), some (.int x1)] (q.1.toList ++ []) q.2) else none) (fun f => rfl) ?_
      refine OkF.grd (fun _ => ?_)
      refine OkF.bind (w1 := wI) (om179 (d + 0) x0 x1 S) (fun q1 => ?_)
      exact OkF.ret 1 (fun f => rfl)
-- DoorSoldModel.layHours(I)V
def b204_29 (k2 : Nat → Int32 → Int32 → Sx → Option (Sx)) (x0 : Nat) (x1 : Int32) (x2 : Int32) (s0 : Nat) (s1 : Int32) (s2 : Int32) (S : Sx) : Option (Sx) :=
  if inb s1 (aw S 1 s0) = true then lt (sI S s0 s1.toNatClampNeg s2) fun S1 => k2 x0 x1 (x2 + (1 : Int32)) S1 else none
set_option maxRecDepth 100000 in
theorem ob204_29 (d : Nat) (k2 : Nat → Int32 → Int32 → Sx → Option (Sx)) (hk2 : ∀ (x0 : Nat) (x1 : Int32) (x2 : Int32) (S : Sx), OkF wV (fun f => rk px kx f (d + 4) 204 2 [some (.ref x0), some (.int x1), some (.int x2), none, none, none] [] S) (k2 x0 x1 x2 S)) (x0 : Nat) (x1 : Int32) (x2 : Int32) (s0 : Nat) (s1 : Int32) (s2 : Int32) (S : Sx) : OkF wV (fun f => rk px kx f (d + 4) 204 29 [some (.ref x0), some (.int x1), some (.int x2), none, none, none] [.int s2, .int s1, .ref s0] S) (b204_29 k2 x0 x1 x2 s0 s1 s2 S) := by
  unfold b204_29
  refine OkF.eq 1 (Y := fun f => if inb s1 (aw S 1 s0) = true then rk px kx f (d + 4) 204 30 [some (.ref x0), some (.int x1), some (.int x2), none, none, none] [] (sI S s0 s1.toNatClampNeg s2) else none) (fun f => rfl) ?_
  refine OkF.grd (fun _ => ?_)
  refine OkF.nm (fun S1 => ?_)
  refine OkF.eq 2 (Y := fun f => rk px kx f (d + 4) 204 2 [some (.ref x0), some (.int x1), some (.int (x2 + (1 : Int32))), none, none, none] [] S1) (fun f => rfl) ?_
  exact OkF.kl (ls1 := [some (.ref x0), some (.int x1), some (.int (x2 + (1 : Int32))), none, none, none]) (fun f => rfl) (hk2 x0 x1 (x2 + (1 : Int32)) S1)
def b204_115 (k38 : Nat → Int32 → Int32 → Sx → Option (Sx)) (k46 : Nat → Int32 → Int32 → Int32 → Sx → Option (Sx)) (k57 : Nat → Int32 → Int32 → Int32 → Int32 → Sx → Option (Sx)) (x0 : Nat) (x1 : Int32) (x2 : Int32) (x3 : Int32) (x4 : Int32) (S : Sx) : Option (Sx) :=
  k57 x0 x1 x2 x3 (x4 + (1 : Int32)) S
set_option maxRecDepth 100000 in
theorem ob204_115 (d : Nat) (k38 : Nat → Int32 → Int32 → Sx → Option (Sx)) (hk38 : ∀ (x0 : Nat) (x1 : Int32) (x2 : Int32) (S : Sx), OkF wV (fun f => rk px kx f (d + 4) 204 38 [some (.ref x0), some (.int x1), some (.int x2), none, none, none] [] S) (k38 x0 x1 x2 S)) (k46 : Nat → Int32 → Int32 → Int32 → Sx → Option (Sx)) (hk46 : ∀ (x0 : Nat) (x1 : Int32) (x2 : Int32) (x3 : Int32) (S : Sx), OkF wV (fun f => rk px kx f (d + 4) 204 46 [some (.ref x0), some (.int x1), some (.int x2), some (.int x3), none, none] [] S) (k46 x0 x1 x2 x3 S)) (k57 : Nat → Int32 → Int32 → Int32 → Int32 → Sx → Option (Sx)) (hk57 : ∀ (x0 : Nat) (x1 : Int32) (x2 : Int32) (x3 : Int32) (x4 : Int32) (S : Sx), OkF wV (fun f => rk px kx f (d + 4) 204 57 [some (.ref x0), some (.int x1), some (.int x2), some (.int x3), some (.int x4), none] [] S) (k57 x0 x1 x2 x3 x4 S)) (x0 : Nat) (x1 : Int32) (x2 : Int32) (x3 : Int32) (x4 : Int32) (S : Sx) : OkF wV (fun f => rk px kx f (d + 4) 204 115 [some (.ref x0), some (.int x1), some (.int x2), some (.int x3), some (.int x4), none] [] S) (b204_115 k38 k46 k57 x0 x1 x2 x3 x4 S) := by
  unfold b204_115
  refine OkF.eq 2 (Y := fun f => rk px kx f (d + 4) 204 57 [some (.ref x0), some (.int x1), some (.int x2), some (.int x3), some (.int (x4 + (1 : Int32))), none] [] S) (fun f => rfl) ?_
  exact OkF.kl (ls1 := [some (.ref x0), some (.int x1), some (.int x2), some (.int x3), some (.int (x4 + (1 : Int32))), none]) (fun f => rfl) (hk57 x0 x1 x2 x3 (x4 + (1 : Int32)) S)
def b204_121 (k38 : Nat → Int32 → Int32 → Sx → Option (Sx)) (k46 : Nat → Int32 → Int32 → Int32 → Sx → Option (Sx)) (x0 : Nat) (x1 : Int32) (x2 : Int32) (x3 : Int32) (S : Sx) : Option (Sx) :=
  k46 x0 x1 x2 (x3 + (1 : Int32)) S
set_option maxRecDepth 100000 in
theorem ob204_121 (d : Nat) (k38 : Nat → Int32 → Int32 → Sx → Option (Sx)) (hk38 : ∀ (x0 : Nat) (x1 : Int32) (x2 : Int32) (S : Sx), OkF wV (fun f => rk px kx f (d + 4) 204 38 [some (.ref x0), some (.int x1), some (.int x2), none, none, none] [] S) (k38 x0 x1 x2 S)) (k46 : Nat → Int32 → Int32 → Int32 → Sx → Option (Sx)) (hk46 : ∀ (x0 : Nat) (x1 : Int32) (x2 : Int32) (x3 : Int32) (S : Sx), OkF wV (fun f => rk px kx f (d + 4) 204 46 [some (.ref x0), some (.int x1), some (.int x2), some (.int x3), none, none] [] S) (k46 x0 x1 x2 x3 S)) (x0 : Nat) (x1 : Int32) (x2 : Int32) (x3 : Int32) (S : Sx) : OkF wV (fun f => rk px kx f (d + 4) 204 121 [some (.ref x0), some (.int x1), some (.int x2), some (.int x3), none, none] [] S) (b204_121 k38 k46 x0 x1 x2 x3 S) := by
  unfold b204_121
  refine OkF.eq 2 (Y := fun f => rk px kx f (d + 4) 204 46 [some (.ref x0), some (.int x1), some (.int x2), some (.int (x3 + (1 : Int32))), none, none] [] S) (fun f => rfl) ?_
  exact OkF.kl (ls1 := [some (.ref x0), some (.int x1), some (.int x2), some (.int (x3 + (1 : Int32))), none, none]) (fun f => rfl) (hk46 x0 x1 x2 (x3 + (1 : Int32)) S)
def b204_57 (k38 : Nat → Int32 → Int32 → Sx → Option (Sx)) (k46 : Nat → Int32 → Int32 → Int32 → Sx → Option (Sx)) (k57 : Nat → Int32 → Int32 → Int32 → Int32 → Sx → Option (Sx)) (x0 : Nat) (x1 : Int32) (x2 : Int32) (x3 : Int32) (x4 : Int32) (S : Sx) : Option (Sx) :=
  if (8 : Int32) ≤ x4 then b204_121 k38 k46 x0 x1 x2 x3 S else if oc S x0 12 = true then (S.2.2.2.1 x0 24).bind fun a2 => if inb x2 (al S a2) = true then (m180 (S.2.1 a2 x2.toNatClampNeg) x3 S).bind fun q3 => if q3.1 = 0 then b204_121 k38 k46 x0 x1 x2 x3 q3.2 else if oc q3.2 x0 12 = true then (m205 x0 x4 x3 x2 x1 q3.2).bind fun q4 => if q4.1 = (-9 : Int32) then b204_115 k38 k46 k57 x0 x1 x2 x3 x4 q4.2 else if oc q4.2 x0 12 = true then (q4.2.2.2.2.1 x0 24).bind fun a5 => if oc q4.2 x0 12 = true then (m206 x0 x4 q4.2).bind fun q6 => if inb (x2 + q6.1) (al q6.2 a5) = true then if inb (x2 + q6.1) (aw q6.2 1 a5) = true then lt (sI q6.2 a5 (x2 + q6.1).toNatClampNeg ((q6.2.2.1 a5 (x2 + q6.1).toNatClampNeg) ||| ((1 : Int32) <<< (q4.1 &&& 31)))) fun S7 => b204_115 k38 k46 k57 x0 x1 x2 x3 x4 S7 else none else none else none else none else none else none else none
set_option maxRecDepth 100000 in
theorem ob204_57 (d : Nat) (k38 : Nat → Int32 → Int32 → Sx → Option (Sx)) (hk38 : ∀ (x0 : Nat) (x1 : Int32) (x2 : Int32) (S : Sx), OkF wV (fun f => rk px kx f (d + 4) 204 38 [some (.ref x0), some (.int x1), some (.int x2), none, none, none] [] S) (k38 x0 x1 x2 S)) (k46 : Nat → Int32 → Int32 → Int32 → Sx → Option (Sx)) (hk46 : ∀ (x0 : Nat) (x1 : Int32) (x2 : Int32) (x3 : Int32) (S : Sx), OkF wV (fun f => rk px kx f (d + 4) 204 46 [some (.ref x0), some (.int x1), some (.int x2), some (.int x3), none, none] [] S) (k46 x0 x1 x2 x3 S)) (k57 : Nat → Int32 → Int32 → Int32 → Int32 → Sx → Option (Sx)) (hk57 : ∀ (x0 : Nat) (x1 : Int32) (x2 : Int32) (x3 : Int32) (x4 : Int32) (S : Sx), OkF wV (fun f => rk px kx f (d + 4) 204 57 [some (.ref x0), some (.int x1), some (.int x2), some (.int x3), some (.int x4), none] [] S) (k57 x0 x1 x2 x3 x4 S)) (x0 : Nat) (x1 : Int32) (x2 : Int32) (x3 : Int32) (x4 : Int32) (S : Sx) : OkF wV (fun f => rk px kx f (d + 4) 204 57 [some (.ref x0), some (.int x1), some (.int x2), some (.int x3), some (.int x4), none] [] S) (b204_57 k38 k46 k57 x0 x1 x2 x3 x4 S) := by
  unfold b204_57
  refine OkF.eq 3 (Y := fun f => if (8 : Int32) ≤ x4 then rk px kx f (d + 4) 204 121 [some (.ref x0), some (.int x1), some (.int x2), some (.int x3), some (.int x4), none] [] S else rk px kx f (d + 4) 204 64 [some (.ref x0), some (.int x1), some (.int x2), some (.int x3), some (.int x4), none] [] S) (fun f => rfl) ?_
  refine OkF.ite (fun _ => ?_) (fun _ => ?_)
  · exact OkF.kl (ls1 := [some (.ref x0), some (.int x1), some (.int x2), some (.int x3), none, none]) (fun f => rfl) (ob204_121 d k38 hk38 k46 hk46 x0 x1 x2 x3 S)
  · refine OkF.eq 2 (Y := fun f => if oc S x0 12 = true then rk px kx f (d + 4) 204 68 [some (.ref x0), some (.int x1), some (.int x2), some (.int x3), some (.int x4), none] (va_rf (S.2.2.2.1 x0 24) :: []) S else none) (fun f => rfl) ?_
    refine OkF.grd (fun _ => ?_)
    refine OkF.rf (fun a2 => ?_)
    refine OkF.eq 2 (Y := fun f => if inb x2 (al S a2) = true then rk px kx f (d + 4) 204 70 [some (.ref x0), some (.int x1), some (.int x2), some (.int x3), some (.int x4), none] [.int (S.2.1 a2 x2.toNatClampNeg)] S else none) (fun f => rfl) ?_
    refine OkF.grd (fun _ => ?_)
    refine OkF.eq 2 (Y := fun f => (rk px kx f (d + 3) 180 0 [some (.int (S.2.1 a2 x2.toNatClampNeg)), some (.int x3)] [] S).bind (fun q => rk px kx f (d + 4) 204 74 [some (.ref x0), some (.int x1), some (.int x2), some (.int x3), some (.int x4), none] (q.1.toList ++ []) q.2)) (fun f => rfl) ?_
    refine OkF.bind (w1 := wI) (om180 (d + 3) (S.2.1 a2 x2.toNatClampNeg) x3 S) (fun q3 => ?_)
    refine OkF.eq 1 (Y := fun f => if q3.1 = 0 then rk px kx f (d + 4) 204 121 [some (.ref x0), some (.int x1), some (.int x2), some (.int x3), some (.int x4), none] [] q3.2 else rk px kx f (d + 4) 204 77 [some (.ref x0), some (.int x1), some (.int x2), some (.int x3), some (.int x4), none] [] q3.2) (fun f => rfl) ?_
    refine OkF.ite (fun _ => ?_) (fun _ => ?_)
    · exact OkF.kl (ls1 := [some (.ref x0), some (.int x1), some (.int x2), some (.int x3), none, none]) (fun f => rfl) (ob204_121 d k38 hk38 k46 hk46 x0 x1 x2 x3 q3.2)
    · refine OkF.eq 6 (Y := fun f => if oc q3.2 x0 12 = true then (rk px kx f (d + 3) 205 0 [some (.ref x0), some (.int x4), some (.int x3), some (.int x2), some (.int x1), none, none] [] q3.2).bind (fun q => rk px kx f (d + 4) 204 86 [some (.ref x0), some (.int x1), some (.int x2), some (.int x3), some (.int x4), none] (q.1.toList ++ []) q.2) else none) (fun f => rfl) ?_
      refine OkF.grd (fun _ => ?_)
      refine OkF.bind (w1 := wI) (om205 (d + 0) x0 x4 x3 x2 x1 q3.2) (fun q4 => ?_)
      refine OkF.eq 4 (Y := fun f => if q4.1 = (-9 : Int32) then rk px kx f (d + 4) 204 115 [some (.ref x0), some (.int x1), some (.int x2), some (.int x3), some (.int x4), some (.int q4.1)] [] q4.2 else rk px kx f (d + 4) 204 95 [some (.ref x0), some (.int x1), some (.int x2), some (.int x3), some (.int x4), some (.int q4.1)] [] q4.2) (fun f => rfl) ?_
      refine OkF.ite (fun _ => ?_) (fun _ => ?_)
      · exact OkF.kl (ls1 := [some (.ref x0), some (.int x1), some (.int x2), some (.int x3), some (.int x4), none]) (fun f => rfl) (ob204_115 d k38 hk38 k46 hk46 k57 hk57 x0 x1 x2 x3 x4 q4.2)
      · refine OkF.eq 2 (Y := fun f => if oc q4.2 x0 12 = true then rk px kx f (d + 4) 204 99 [some (.ref x0), some (.int x1), some (.int x2), some (.int x3), some (.int x4), some (.int q4.1)] (va_rf (q4.2.2.2.2.1 x0 24) :: []) q4.2 else none) (fun f => rfl) ?_
        refine OkF.grd (fun _ => ?_)
        refine OkF.rf (fun a5 => ?_)
        refine OkF.eq 4 (Y := fun f => if oc q4.2 x0 12 = true then (rk px kx f (d + 3) 206 0 [some (.ref x0), some (.int x4)] [] q4.2).bind (fun q => rk px kx f (d + 4) 204 106 [some (.ref x0), some (.int x1), some (.int x2), some (.int x3), some (.int x4), some (.int q4.1)] (q.1.toList ++ [.int x2, .ref a5]) q.2) else none) (fun f => rfl) ?_
        refine OkF.grd (fun _ => ?_)
        refine OkF.bind (w1 := wI) (om206 (d + 2) x0 x4 q4.2) (fun q6 => ?_)
        refine OkF.eq 3 (Y := fun f => if inb (x2 + q6.1) (al q6.2 a5) = true then rk px kx f (d + 4) 204 109 [some (.ref x0), some (.int x1), some (.int x2), some (.int x3), some (.int x4), some (.int q4.1)] [.int (q6.2.2.1 a5 (x2 + q6.1).toNatClampNeg), .int (x2 + q6.1), .ref a5] q6.2 else none) (fun f => rfl) ?_
        refine OkF.grd (fun _ => ?_)
        refine OkF.eq 5 (Y := fun f => if inb (x2 + q6.1) (aw q6.2 1 a5) = true then rk px kx f (d + 4) 204 115 [some (.ref x0), some (.int x1), some (.int x2), some (.int x3), some (.int x4), some (.int q4.1)] [] (sI q6.2 a5 (x2 + q6.1).toNatClampNeg ((q6.2.2.1 a5 (x2 + q6.1).toNatClampNeg) ||| ((1 : Int32) <<< (q4.1 &&& 31)))) else none) (fun f => rfl) ?_
        refine OkF.grd (fun _ => ?_)
        refine OkF.nm (fun S7 => ?_)
        exact OkF.kl (ls1 := [some (.ref x0), some (.int x1), some (.int x2), some (.int x3), some (.int x4), none]) (fun f => rfl) (ob204_115 d k38 hk38 k46 hk46 k57 hk57 x0 x1 x2 x3 x4 S7)
def l204_57 (k38 : Nat → Int32 → Int32 → Sx → Option (Sx)) (k46 : Nat → Int32 → Int32 → Int32 → Sx → Option (Sx)) : Nat → Nat → Int32 → Int32 → Int32 → Int32 → Sx → Option (Sx)
  | 0 => fun _ _ _ _ _ _ => none
  | n + 1 => fun x0 x1 x2 x3 x4 S => b204_57 k38 k46 (l204_57 k38 k46 n) x0 x1 x2 x3 x4 S
set_option maxRecDepth 100000 in
theorem ol204_57 (d : Nat) (k38 : Nat → Int32 → Int32 → Sx → Option (Sx)) (hk38 : ∀ (x0 : Nat) (x1 : Int32) (x2 : Int32) (S : Sx), OkF wV (fun f => rk px kx f (d + 4) 204 38 [some (.ref x0), some (.int x1), some (.int x2), none, none, none] [] S) (k38 x0 x1 x2 S)) (k46 : Nat → Int32 → Int32 → Int32 → Sx → Option (Sx)) (hk46 : ∀ (x0 : Nat) (x1 : Int32) (x2 : Int32) (x3 : Int32) (S : Sx), OkF wV (fun f => rk px kx f (d + 4) 204 46 [some (.ref x0), some (.int x1), some (.int x2), some (.int x3), none, none] [] S) (k46 x0 x1 x2 x3 S)) : ∀ (n : Nat) (x0 : Nat) (x1 : Int32) (x2 : Int32) (x3 : Int32) (x4 : Int32) (S : Sx), OkF wV (fun f => rk px kx f (d + 4) 204 57 [some (.ref x0), some (.int x1), some (.int x2), some (.int x3), some (.int x4), none] [] S) (l204_57 k38 k46 n x0 x1 x2 x3 x4 S) := by
  intro n
  induction n with
  | zero => intro x0 x1 x2 x3 x4 S; exact OkF.no
  | succ n ih => intro x0 x1 x2 x3 x4 S; exact ob204_57 d k38 hk38 k46 hk46 (l204_57 k38 k46 n) ih x0 x1 x2 x3 x4 S
def b204_46 (k38 : Nat → Int32 → Int32 → Sx → Option (Sx)) (k46 : Nat → Int32 → Int32 → Int32 → Sx → Option (Sx)) (x0 : Nat) (x1 : Int32) (x2 : Int32) (x3 : Int32) (S : Sx) : Option (Sx) :=
  if oc S x0 12 = true then if (S.2.1 x0 5) ≤ x3 then k38 x0 x1 (x2 + (1 : Int32)) S else l204_57 k38 k46 1000 x0 x1 x2 x3 (0 : Int32) S else none
set_option maxRecDepth 100000 in
theorem ob204_46 (d : Nat) (k38 : Nat → Int32 → Int32 → Sx → Option (Sx)) (hk38 : ∀ (x0 : Nat) (x1 : Int32) (x2 : Int32) (S : Sx), OkF wV (fun f => rk px kx f (d + 4) 204 38 [some (.ref x0), some (.int x1), some (.int x2), none, none, none] [] S) (k38 x0 x1 x2 S)) (k46 : Nat → Int32 → Int32 → Int32 → Sx → Option (Sx)) (hk46 : ∀ (x0 : Nat) (x1 : Int32) (x2 : Int32) (x3 : Int32) (S : Sx), OkF wV (fun f => rk px kx f (d + 4) 204 46 [some (.ref x0), some (.int x1), some (.int x2), some (.int x3), none, none] [] S) (k46 x0 x1 x2 x3 S)) (x0 : Nat) (x1 : Int32) (x2 : Int32) (x3 : Int32) (S : Sx) : OkF wV (fun f => rk px kx f (d + 4) 204 46 [some (.ref x0), some (.int x1), some (.int x2), some (.int x3), none, none] [] S) (b204_46 k38 k46 x0 x1 x2 x3 S) := by
  unfold b204_46
  refine OkF.eq 3 (Y := fun f => if oc S x0 12 = true then rk px kx f (d + 4) 204 51 [some (.ref x0), some (.int x1), some (.int x2), some (.int x3), none, none] [.int (S.2.1 x0 5), .int x3] S else none) (fun f => rfl) ?_
  refine OkF.grd (fun _ => ?_)
  refine OkF.eq 1 (Y := fun f => if (S.2.1 x0 5) ≤ x3 then rk px kx f (d + 4) 204 127 [some (.ref x0), some (.int x1), some (.int x2), some (.int x3), none, none] [] S else rk px kx f (d + 4) 204 54 [some (.ref x0), some (.int x1), some (.int x2), some (.int x3), none, none] [] S) (fun f => rfl) ?_
  refine OkF.ite (fun _ => ?_) (fun _ => ?_)
  · refine OkF.eq 2 (Y := fun f => rk px kx f (d + 4) 204 38 [some (.ref x0), some (.int x1), some (.int (x2 + (1 : Int32))), some (.int x3), none, none] [] S) (fun f => rfl) ?_
    exact OkF.kl (ls1 := [some (.ref x0), some (.int x1), some (.int (x2 + (1 : Int32))), none, none, none]) (fun f => rfl) (hk38 x0 x1 (x2 + (1 : Int32)) S)
  · refine OkF.eq 2 (Y := fun f => rk px kx f (d + 4) 204 57 [some (.ref x0), some (.int x1), some (.int x2), some (.int x3), some (.int (0 : Int32)), none] [] S) (fun f => rfl) ?_
    exact OkF.kl (ls1 := [some (.ref x0), some (.int x1), some (.int x2), some (.int x3), some (.int (0 : Int32)), none]) (fun f => rfl) (ol204_57 d k38 hk38 k46 hk46 1000 x0 x1 x2 x3 (0 : Int32) S)
def l204_46 (k38 : Nat → Int32 → Int32 → Sx → Option (Sx)) : Nat → Nat → Int32 → Int32 → Int32 → Sx → Option (Sx)
  | 0 => fun _ _ _ _ _ => none
  | n + 1 => fun x0 x1 x2 x3 S => b204_46 k38 (l204_46 k38 n) x0 x1 x2 x3 S
set_option maxRecDepth 100000 in
theorem ol204_46 (d : Nat) (k38 : Nat → Int32 → Int32 → Sx → Option (Sx)) (hk38 : ∀ (x0 : Nat) (x1 : Int32) (x2 : Int32) (S : Sx), OkF wV (fun f => rk px kx f (d + 4) 204 38 [some (.ref x0), some (.int x1), some (.int x2), none, none, none] [] S) (k38 x0 x1 x2 S)) : ∀ (n : Nat) (x0 : Nat) (x1 : Int32) (x2 : Int32) (x3 : Int32) (S : Sx), OkF wV (fun f => rk px kx f (d + 4) 204 46 [some (.ref x0), some (.int x1), some (.int x2), some (.int x3), none, none] [] S) (l204_46 k38 n x0 x1 x2 x3 S) := by
  intro n
  induction n with
  | zero => intro x0 x1 x2 x3 S; exact OkF.no
  | succ n ih => intro x0 x1 x2 x3 S; exact ob204_46 d k38 hk38 (l204_46 k38 n) ih x0 x1 x2 x3 S
def b204_38 (k38 : Nat → Int32 → Int32 → Sx → Option (Sx)) (x0 : Nat) (x1 : Int32) (x2 : Int32) (S : Sx) : Option (Sx) :=
  if (31 : Int32) ≤ x2 then some S else l204_46 k38 1000 x0 x1 x2 (0 : Int32) S
set_option maxRecDepth 100000 in
theorem ob204_38 (d : Nat) (k38 : Nat → Int32 → Int32 → Sx → Option (Sx)) (hk38 : ∀ (x0 : Nat) (x1 : Int32) (x2 : Int32) (S : Sx), OkF wV (fun f => rk px kx f (d + 4) 204 38 [some (.ref x0), some (.int x1), some (.int x2), none, none, none] [] S) (k38 x0 x1 x2 S)) (x0 : Nat) (x1 : Int32) (x2 : Int32) (S : Sx) : OkF wV (fun f => rk px kx f (d + 4) 204 38 [some (.ref x0), some (.int x1), some (.int x2), none, none, none] [] S) (b204_38 k38 x0 x1 x2 S) := by
  unfold b204_38
  refine OkF.eq 3 (Y := fun f => if (31 : Int32) ≤ x2 then rk px kx f (d + 4) 204 133 [some (.ref x0), some (.int x1), some (.int x2), none, none, none] [] S else rk px kx f (d + 4) 204 44 [some (.ref x0), some (.int x1), some (.int x2), none, none, none] [] S) (fun f => rfl) ?_
  refine OkF.ite (fun _ => ?_) (fun _ => ?_)
  · exact OkF.ret 1 (fun f => rfl)
  · refine OkF.eq 2 (Y := fun f => rk px kx f (d + 4) 204 46 [some (.ref x0), some (.int x1), some (.int x2), some (.int (0 : Int32)), none, none] [] S) (fun f => rfl) ?_
    exact OkF.kl (ls1 := [some (.ref x0), some (.int x1), some (.int x2), some (.int (0 : Int32)), none, none]) (fun f => rfl) (ol204_46 d k38 hk38 1000 x0 x1 x2 (0 : Int32) S)
def l204_38 : Nat → Nat → Int32 → Int32 → Sx → Option (Sx)
  | 0 => fun _ _ _ _ => none
  | n + 1 => fun x0 x1 x2 S => b204_38 (l204_38 n) x0 x1 x2 S
set_option maxRecDepth 100000 in
theorem ol204_38 (d : Nat) : ∀ (n : Nat) (x0 : Nat) (x1 : Int32) (x2 : Int32) (S : Sx), OkF wV (fun f => rk px kx f (d + 4) 204 38 [some (.ref x0), some (.int x1), some (.int x2), none, none, none] [] S) (l204_38 n x0 x1 x2 S) := by
  intro n
  induction n with
  | zero => intro x0 x1 x2 S; exact OkF.no
  | succ n ih => intro x0 x1 x2 S; exact ob204_38 d (l204_38 n) ih x0 x1 x2 S
def b204_2 (k2 : Nat → Int32 → Int32 → Sx → Option (Sx)) (x0 : Nat) (x1 : Int32) (x2 : Int32) (S : Sx) : Option (Sx) :=
  if (34 : Int32) ≤ x2 then l204_38 1000 x0 x1 (0 : Int32) S else if oc S x0 12 = true then (S.2.2.2.1 x0 24).bind fun a8 => if x2 = 0 then if oc S x0 12 = true then (S.2.2.2.1 x0 8).bind fun a9 => if inb (0 : Int32) (al S a9) = true then b204_29 k2 x0 x1 x2 a8 x2 ((1 : Int32) <<< ((S.2.1 a9 (0 : Int32).toNatClampNeg) &&& 31)) S else none else none else b204_29 k2 x0 x1 x2 a8 x2 (0 : Int32) S else none
set_option maxRecDepth 100000 in
theorem ob204_2 (d : Nat) (k2 : Nat → Int32 → Int32 → Sx → Option (Sx)) (hk2 : ∀ (x0 : Nat) (x1 : Int32) (x2 : Int32) (S : Sx), OkF wV (fun f => rk px kx f (d + 4) 204 2 [some (.ref x0), some (.int x1), some (.int x2), none, none, none] [] S) (k2 x0 x1 x2 S)) (x0 : Nat) (x1 : Int32) (x2 : Int32) (S : Sx) : OkF wV (fun f => rk px kx f (d + 4) 204 2 [some (.ref x0), some (.int x1), some (.int x2), none, none, none] [] S) (b204_2 k2 x0 x1 x2 S) := by
  unfold b204_2
  refine OkF.eq 3 (Y := fun f => if (34 : Int32) ≤ x2 then rk px kx f (d + 4) 204 36 [some (.ref x0), some (.int x1), some (.int x2), none, none, none] [] S else rk px kx f (d + 4) 204 8 [some (.ref x0), some (.int x1), some (.int x2), none, none, none] [] S) (fun f => rfl) ?_
  refine OkF.ite (fun _ => ?_) (fun _ => ?_)
  · refine OkF.eq 2 (Y := fun f => rk px kx f (d + 4) 204 38 [some (.ref x0), some (.int x1), some (.int (0 : Int32)), none, none, none] [] S) (fun f => rfl) ?_
    exact OkF.kl (ls1 := [some (.ref x0), some (.int x1), some (.int (0 : Int32)), none, none, none]) (fun f => rfl) (ol204_38 d 1000 x0 x1 (0 : Int32) S)
  · refine OkF.eq 2 (Y := fun f => if oc S x0 12 = true then rk px kx f (d + 4) 204 12 [some (.ref x0), some (.int x1), some (.int x2), none, none, none] (va_rf (S.2.2.2.1 x0 24) :: []) S else none) (fun f => rfl) ?_
    refine OkF.grd (fun _ => ?_)
    refine OkF.rf (fun a8 => ?_)
    refine OkF.eq 3 (Y := fun f => if x2 = 0 then rk px kx f (d + 4) 204 17 [some (.ref x0), some (.int x1), some (.int x2), none, none, none] [.int x2, .ref a8] S else rk px kx f (d + 4) 204 28 [some (.ref x0), some (.int x1), some (.int x2), none, none, none] [.int x2, .ref a8] S) (fun f => rfl) ?_
    refine OkF.ite (fun _ => ?_) (fun _ => ?_)
    · refine OkF.eq 3 (Y := fun f => if oc S x0 12 = true then rk px kx f (d + 4) 204 22 [some (.ref x0), some (.int x1), some (.int x2), none, none, none] (va_rf (S.2.2.2.1 x0 8) :: [.int (1 : Int32), .int x2, .ref a8]) S else none) (fun f => rfl) ?_
      refine OkF.grd (fun _ => ?_)
      refine OkF.rf (fun a9 => ?_)
      refine OkF.eq 2 (Y := fun f => if inb (0 : Int32) (al S a9) = true then rk px kx f (d + 4) 204 24 [some (.ref x0), some (.int x1), some (.int x2), none, none, none] [.int (S.2.1 a9 (0 : Int32).toNatClampNeg), .int (1 : Int32), .int x2, .ref a8] S else none) (fun f => rfl) ?_
      refine OkF.grd (fun _ => ?_)
      refine OkF.eq 2 (Y := fun f => rk px kx f (d + 4) 204 29 [some (.ref x0), some (.int x1), some (.int x2), none, none, none] [.int ((1 : Int32) <<< ((S.2.1 a9 (0 : Int32).toNatClampNeg) &&& 31)), .int x2, .ref a8] S) (fun f => rfl) ?_
      exact OkF.kl (ls1 := [some (.ref x0), some (.int x1), some (.int x2), none, none, none]) (fun f => rfl) (ob204_29 d k2 hk2 x0 x1 x2 a8 x2 ((1 : Int32) <<< ((S.2.1 a9 (0 : Int32).toNatClampNeg) &&& 31)) S)
    · refine OkF.eq 1 (Y := fun f => rk px kx f (d + 4) 204 29 [some (.ref x0), some (.int x1), some (.int x2), none, none, none] [.int (0 : Int32), .int x2, .ref a8] S) (fun f => rfl) ?_
      exact OkF.kl (ls1 := [some (.ref x0), some (.int x1), some (.int x2), none, none, none]) (fun f => rfl) (ob204_29 d k2 hk2 x0 x1 x2 a8 x2 (0 : Int32) S)
def l204_2 : Nat → Nat → Int32 → Int32 → Sx → Option (Sx)
  | 0 => fun _ _ _ _ => none
  | n + 1 => fun x0 x1 x2 S => b204_2 (l204_2 n) x0 x1 x2 S
set_option maxRecDepth 100000 in
theorem ol204_2 (d : Nat) : ∀ (n : Nat) (x0 : Nat) (x1 : Int32) (x2 : Int32) (S : Sx), OkF wV (fun f => rk px kx f (d + 4) 204 2 [some (.ref x0), some (.int x1), some (.int x2), none, none, none] [] S) (l204_2 n x0 x1 x2 S) := by
  intro n
  induction n with
  | zero => intro x0 x1 x2 S; exact OkF.no
  | succ n ih => intro x0 x1 x2 S; exact ob204_2 d (l204_2 n) ih x0 x1 x2 S
def m204 (x0 : Nat) (x1 : Int32) (S : Sx) : Option (Sx) :=
  l204_2 1000 x0 x1 (0 : Int32) S
set_option maxRecDepth 100000 in
theorem om204 (d : Nat) (x0 : Nat) (x1 : Int32) (S : Sx) : OkF wV (fun f => rk px kx f (d + 4) 204 0 [some (.ref x0), some (.int x1), none, none, none, none] [] S) (m204 x0 x1 S) := by
  unfold m204
  refine OkF.eq 2 (Y := fun f => rk px kx f (d + 4) 204 2 [some (.ref x0), some (.int x1), some (.int (0 : Int32)), none, none, none] [] S) (fun f => rfl) ?_
  exact OkF.kl (ls1 := [some (.ref x0), some (.int x1), some (.int (0 : Int32)), none, none, none]) (fun f => rfl) (ol204_2 d 1000 x0 x1 (0 : Int32) S)
-- DoorSoldModel.where(I)I
def m203 (x0 : Nat) (x1 : Int32) (S : Sx) : Option (Int32 × Sx) :=
  (m150 x1.toInt64 (0 : Int64) (30 : Int64) S).bind fun q1 => if q1.1 = 0 then some ((-1 : Int32), q1.2) else if oc q1.2 x0 12 = true then if (q1.2.2.1 x0 4) = 0 then some ((-4 : Int32), q1.2) else if oc q1.2 x0 12 = true then (q1.2.2.2.2.1 x0 8).bind fun a2 => if inb (3 : Int32) (al q1.2 a2) = true then if oc q1.2 x0 12 = true then (m204 x0 (q1.2.2.1 a2 (3 : Int32).toNatClampNeg) q1.2).bind fun q3 => if oc q3 x0 12 = true then (q3.2.2.2.1 x0 24).bind fun a4 => if inb x1 (al q3 a4) = true then some (q3.2.1 a4 x1.toNatClampNeg, q3) else none else none else none else none else none else none
set_option maxRecDepth 100000 in
theorem om203 (d : Nat) (x0 : Nat) (x1 : Int32) (S : Sx) : OkF wI (fun f => rk px kx f (d + 5) 203 0 [some (.ref x0), some (.int x1)] [] S) (m203 x0 x1 S) := by
  unfold m203
  refine OkF.eq 5 (Y := fun f => (rk px kx f (d + 4) 150 0 [some (.long x1.toInt64), none, some (.long (0 : Int64)), none, some (.long (30 : Int64)), none] [] S).bind (fun q => rk px kx f (d + 5) 203 9 [some (.ref x0), some (.int x1)] (q.1.toList ++ []) q.2)) (fun f => rfl) ?_
  refine OkF.bind (w1 := wI) (om150 (d + 4) x1.toInt64 (0 : Int64) (30 : Int64) S) (fun q1 => ?_)
  refine OkF.eq 1 (Y := fun f => if q1.1 = 0 then rk px kx f (d + 5) 203 12 [some (.ref x0), some (.int x1)] [] q1.2 else rk px kx f (d + 5) 203 14 [some (.ref x0), some (.int x1)] [] q1.2) (fun f => rfl) ?_
  refine OkF.ite (fun _ => ?_) (fun _ => ?_)
  · exact OkF.ret 2 (fun f => rfl)
  · refine OkF.eq 2 (Y := fun f => if oc q1.2 x0 12 = true then rk px kx f (d + 5) 203 18 [some (.ref x0), some (.int x1)] [.int (q1.2.2.1 x0 4)] q1.2 else none) (fun f => rfl) ?_
    refine OkF.grd (fun _ => ?_)
    refine OkF.eq 1 (Y := fun f => if (q1.2.2.1 x0 4) = 0 then rk px kx f (d + 5) 203 21 [some (.ref x0), some (.int x1)] [] q1.2 else rk px kx f (d + 5) 203 24 [some (.ref x0), some (.int x1)] [] q1.2) (fun f => rfl) ?_
    refine OkF.ite (fun _ => ?_) (fun _ => ?_)
    · exact OkF.ret 2 (fun f => rfl)
    · refine OkF.eq 3 (Y := fun f => if oc q1.2 x0 12 = true then rk px kx f (d + 5) 203 29 [some (.ref x0), some (.int x1)] (va_rf (q1.2.2.2.2.1 x0 8) :: [.ref x0]) q1.2 else none) (fun f => rfl) ?_
      refine OkF.grd (fun _ => ?_)
      refine OkF.rf (fun a2 => ?_)
      refine OkF.eq 2 (Y := fun f => if inb (3 : Int32) (al q1.2 a2) = true then rk px kx f (d + 5) 203 31 [some (.ref x0), some (.int x1)] [.int (q1.2.2.1 a2 (3 : Int32).toNatClampNeg), .ref x0] q1.2 else none) (fun f => rfl) ?_
      refine OkF.grd (fun _ => ?_)
      refine OkF.eq 1 (Y := fun f => if oc q1.2 x0 12 = true then (rk px kx f (d + 4) 204 0 [some (.ref x0), some (.int (q1.2.2.1 a2 (3 : Int32).toNatClampNeg)), none, none, none, none] [] q1.2).bind (fun q => rk px kx f (d + 5) 203 34 [some (.ref x0), some (.int x1)] (q.1.toList ++ []) q.2) else none) (fun f => rfl) ?_
      refine OkF.grd (fun _ => ?_)
      refine OkF.bind (w1 := wV) (om204 (d + 0) x0 (q1.2.2.1 a2 (3 : Int32).toNatClampNeg) q1.2) (fun q3 => ?_)
      refine OkF.eq 2 (Y := fun f => if oc q3 x0 12 = true then rk px kx f (d + 5) 203 38 [some (.ref x0), some (.int x1)] (va_rf (q3.2.2.2.1 x0 24) :: []) q3 else none) (fun f => rfl) ?_
      refine OkF.grd (fun _ => ?_)
      refine OkF.rf (fun a4 => ?_)
      refine OkF.eq 2 (Y := fun f => if inb x1 (al q3 a4) = true then rk px kx f (d + 5) 203 40 [some (.ref x0), some (.int x1)] [.int (q3.2.1 a4 x1.toNatClampNeg)] q3 else none) (fun f => rfl) ?_
      refine OkF.grd (fun _ => ?_)
      exact OkF.ret 1 (fun f => rfl)
-- DoorSoldModel.isPlace(I)Z
def m208 (x0 : Nat) (x1 : Int32) (S : Sx) : Option (Int32 × Sx) :=
  if oc S x0 12 = true then (m150 x1.toInt64 (0 : Int64) (((S.2.1 x0 5) - (1 : Int32)).toInt64) S).bind fun q1 => some (q1.1 &&& 1, q1.2) else none
set_option maxRecDepth 100000 in
theorem om208 (d : Nat) (x0 : Nat) (x1 : Int32) (S : Sx) : OkF wI (fun f => rk px kx f (d + 1) 208 0 [some (.ref x0), some (.int x1)] [] S) (m208 x0 x1 S) := by
  unfold m208
  refine OkF.eq 5 (Y := fun f => if oc S x0 12 = true then rk px kx f (d + 1) 208 7 [some (.ref x0), some (.int x1)] [.int (S.2.1 x0 5), .long (0 : Int64), .long x1.toInt64] S else none) (fun f => rfl) ?_
  refine OkF.grd (fun _ => ?_)
  refine OkF.eq 4 (Y := fun f => (rk px kx f (d + 0) 150 0 [some (.long x1.toInt64), none, some (.long (0 : Int64)), none, some (.long (((S.2.1 x0 5) - (1 : Int32)).toInt64)), none] [] S).bind (fun q => rk px kx f (d + 1) 208 13 [some (.ref x0), some (.int x1)] (q.1.toList ++ []) q.2)) (fun f => rfl) ?_
  refine OkF.bind (w1 := wI) (om150 (d + 0) x1.toInt64 (0 : Int64) (((S.2.1 x0 5) - (1 : Int32)).toInt64) S) (fun q1 => ?_)
  exact OkF.ret 1 (fun f => rfl)
-- DoorSoldModel.soonestBy(II)I
def b209_7 (k7 : Nat → Int32 → Int32 → Sx → Option (Int32 × Sx)) (x0 : Nat) (x1 : Int32) (x3 : Int32) (S : Sx) : Option (Int32 × Sx) :=
  if oc S x0 12 = true then (S.2.2.2.1 x0 24).bind fun a1 => if inb x3 (al S a1) = true then (m180 (S.2.1 a1 x3.toNatClampNeg) x1 S).bind fun q2 => if q2.1 = 0 then k7 x0 x1 (x3 + (1 : Int32)) q2.2 else some (x3, q2.2) else none else none
set_option maxRecDepth 100000 in
theorem ob209_7 (d : Nat) (k7 : Nat → Int32 → Int32 → Sx → Option (Int32 × Sx)) (hk7 : ∀ (x0 : Nat) (x1 : Int32) (x3 : Int32) (S : Sx), OkF wI (fun f => rk px kx f (d + 5) 209 7 [some (.ref x0), some (.int x1), none, some (.int x3)] [] S) (k7 x0 x1 x3 S)) (x0 : Nat) (x1 : Int32) (x3 : Int32) (S : Sx) : OkF wI (fun f => rk px kx f (d + 5) 209 7 [some (.ref x0), some (.int x1), none, some (.int x3)] [] S) (b209_7 k7 x0 x1 x3 S) := by
  unfold b209_7
  refine OkF.eq 2 (Y := fun f => if oc S x0 12 = true then rk px kx f (d + 5) 209 11 [some (.ref x0), some (.int x1), none, some (.int x3)] (va_rf (S.2.2.2.1 x0 24) :: []) S else none) (fun f => rfl) ?_
  refine OkF.grd (fun _ => ?_)
  refine OkF.rf (fun a1 => ?_)
  refine OkF.eq 2 (Y := fun f => if inb x3 (al S a1) = true then rk px kx f (d + 5) 209 13 [some (.ref x0), some (.int x1), none, some (.int x3)] [.int (S.2.1 a1 x3.toNatClampNeg)] S else none) (fun f => rfl) ?_
  refine OkF.grd (fun _ => ?_)
  refine OkF.eq 2 (Y := fun f => (rk px kx f (d + 4) 180 0 [some (.int (S.2.1 a1 x3.toNatClampNeg)), some (.int x1)] [] S).bind (fun q => rk px kx f (d + 5) 209 17 [some (.ref x0), some (.int x1), none, some (.int x3)] (q.1.toList ++ []) q.2)) (fun f => rfl) ?_
  refine OkF.bind (w1 := wI) (om180 (d + 4) (S.2.1 a1 x3.toNatClampNeg) x1 S) (fun q2 => ?_)
  refine OkF.eq 1 (Y := fun f => if q2.1 = 0 then rk px kx f (d + 5) 209 20 [some (.ref x0), some (.int x1), none, some (.int x3)] [] q2.2 else rk px kx f (d + 5) 209 26 [some (.ref x0), some (.int x1), none, some (.int x3)] [] q2.2) (fun f => rfl) ?_
  refine OkF.ite (fun _ => ?_) (fun _ => ?_)
  · refine OkF.eq 2 (Y := fun f => rk px kx f (d + 5) 209 7 [some (.ref x0), some (.int x1), none, some (.int (x3 + (1 : Int32)))] [] q2.2) (fun f => rfl) ?_
    exact OkF.kl (ls1 := [some (.ref x0), some (.int x1), none, some (.int (x3 + (1 : Int32)))]) (fun f => rfl) (hk7 x0 x1 (x3 + (1 : Int32)) q2.2)
  · exact OkF.ret 2 (fun f => rfl)
def l209_7 : Nat → Nat → Int32 → Int32 → Sx → Option (Int32 × Sx)
  | 0 => fun _ _ _ _ => none
  | n + 1 => fun x0 x1 x3 S => b209_7 (l209_7 n) x0 x1 x3 S
set_option maxRecDepth 100000 in
theorem ol209_7 (d : Nat) : ∀ (n : Nat) (x0 : Nat) (x1 : Int32) (x3 : Int32) (S : Sx), OkF wI (fun f => rk px kx f (d + 5) 209 7 [some (.ref x0), some (.int x1), none, some (.int x3)] [] S) (l209_7 n x0 x1 x3 S) := by
  intro n
  induction n with
  | zero => intro x0 x1 x3 S; exact OkF.no
  | succ n ih => intro x0 x1 x3 S; exact ob209_7 d (l209_7 n) ih x0 x1 x3 S
def m209 (x0 : Nat) (x1 : Int32) (x2 : Int32) (S : Sx) : Option (Int32 × Sx) :=
  if oc S x0 12 = true then (m204 x0 x2 S).bind fun q3 => l209_7 1000 x0 x1 (0 : Int32) q3 else none
set_option maxRecDepth 100000 in
theorem om209 (d : Nat) (x0 : Nat) (x1 : Int32) (x2 : Int32) (S : Sx) : OkF wI (fun f => rk px kx f (d + 5) 209 0 [some (.ref x0), some (.int x1), some (.int x2), none] [] S) (m209 x0 x1 x2 S) := by
  unfold m209
  refine OkF.eq 3 (Y := fun f => if oc S x0 12 = true then (rk px kx f (d + 4) 204 0 [some (.ref x0), some (.int x2), none, none, none, none] [] S).bind (fun q => rk px kx f (d + 5) 209 5 [some (.ref x0), some (.int x1), some (.int x2), none] (q.1.toList ++ []) q.2) else none) (fun f => rfl) ?_
  refine OkF.grd (fun _ => ?_)
  refine OkF.bind (w1 := wV) (om204 (d + 0) x0 x2 S) (fun q3 => ?_)
  refine OkF.eq 2 (Y := fun f => rk px kx f (d + 5) 209 7 [some (.ref x0), some (.int x1), some (.int x2), some (.int (0 : Int32))] [] q3) (fun f => rfl) ?_
  exact OkF.kl (ls1 := [some (.ref x0), some (.int x1), none, some (.int (0 : Int32))]) (fun f => rfl) (ol209_7 d 1000 x0 x1 (0 : Int32) q3)
-- DoorSoldModel.bits(I)I
def b210_4 (k4 : Int32 → Int32 → Sx → Option (Int32 × Sx)) (x1 : Int32) (x2 : Int32) (S : Sx) : Option (Int32 × Sx) :=
  if x2 = 0 then some (x1, S) else k4 (x1 + (1 : Int32)) (x2 &&& (x2 - (1 : Int32))) S
set_option maxRecDepth 100000 in
theorem ob210_4 (d : Nat) (k4 : Int32 → Int32 → Sx → Option (Int32 × Sx)) (hk4 : ∀ (x1 : Int32) (x2 : Int32) (S : Sx), OkF wI (fun f => rk px kx f (d + 0) 210 4 [none, some (.int x1), some (.int x2)] [] S) (k4 x1 x2 S)) (x1 : Int32) (x2 : Int32) (S : Sx) : OkF wI (fun f => rk px kx f (d + 0) 210 4 [none, some (.int x1), some (.int x2)] [] S) (b210_4 k4 x1 x2 S) := by
  unfold b210_4
  refine OkF.eq 2 (Y := fun f => if x2 = 0 then rk px kx f (d + 0) 210 20 [none, some (.int x1), some (.int x2)] [] S else rk px kx f (d + 0) 210 8 [none, some (.int x1), some (.int x2)] [] S) (fun f => rfl) ?_
  refine OkF.ite (fun _ => ?_) (fun _ => ?_)
  · exact OkF.ret 2 (fun f => rfl)
  · refine OkF.eq 8 (Y := fun f => rk px kx f (d + 0) 210 4 [none, some (.int (x1 + (1 : Int32))), some (.int (x2 &&& (x2 - (1 : Int32))))] [] S) (fun f => rfl) ?_
    exact OkF.kl (ls1 := [none, some (.int (x1 + (1 : Int32))), some (.int (x2 &&& (x2 - (1 : Int32))))]) (fun f => rfl) (hk4 (x1 + (1 : Int32)) (x2 &&& (x2 - (1 : Int32))) S)
def l210_4 : Nat → Int32 → Int32 → Sx → Option (Int32 × Sx)
  | 0 => fun _ _ _ => none
  | n + 1 => fun x1 x2 S => b210_4 (l210_4 n) x1 x2 S
set_option maxRecDepth 100000 in
theorem ol210_4 (d : Nat) : ∀ (n : Nat) (x1 : Int32) (x2 : Int32) (S : Sx), OkF wI (fun f => rk px kx f (d + 0) 210 4 [none, some (.int x1), some (.int x2)] [] S) (l210_4 n x1 x2 S) := by
  intro n
  induction n with
  | zero => intro x1 x2 S; exact OkF.no
  | succ n ih => intro x1 x2 S; exact ob210_4 d (l210_4 n) ih x1 x2 S
def m210 (x0 : Int32) (S : Sx) : Option (Int32 × Sx) :=
  l210_4 1000 (0 : Int32) x0 S
set_option maxRecDepth 100000 in
theorem om210 (d : Nat) (x0 : Int32) (S : Sx) : OkF wI (fun f => rk px kx f (d + 0) 210 0 [some (.int x0), none, none] [] S) (m210 x0 S) := by
  unfold m210
  refine OkF.eq 4 (Y := fun f => rk px kx f (d + 0) 210 4 [some (.int x0), some (.int (0 : Int32)), some (.int x0)] [] S) (fun f => rfl) ?_
  exact OkF.kl (ls1 := [none, some (.int (0 : Int32)), some (.int x0)]) (fun f => rfl) (ol210_4 d 1000 (0 : Int32) x0 S)
-- DoorSoldModel.answer(II)I
def m211 (x0 : Nat) (x1 : Int32) (x2 : Int32) (S : Sx) : Option (Int32 × Sx) :=
  if oc S x0 12 = true then lt (sI S x0 13 x2) fun S1 => some (x1, S1) else none
set_option maxRecDepth 100000 in
theorem om211 (d : Nat) (x0 : Nat) (x1 : Int32) (x2 : Int32) (S : Sx) : OkF wI (fun f => rk px kx f (d + 0) 211 0 [some (.ref x0), some (.int x1), some (.int x2)] [] S) (m211 x0 x1 x2 S) := by
  unfold m211
  refine OkF.eq 3 (Y := fun f => if oc S x0 12 = true then rk px kx f (d + 0) 211 5 [some (.ref x0), some (.int x1), some (.int x2)] [] (sI S x0 13 x2) else none) (fun f => rfl) ?_
  refine OkF.grd (fun _ => ?_)
  refine OkF.nm (fun S1 => ?_)
  exact OkF.ret 2 (fun f => rfl)
-- DoorSoldModel.soonest(I)I
def b207_27 (k27 : Nat → Int32 → Int32 → Int32 → Sx → Option (Int32 × Sx)) (x0 : Nat) (x2 : Int32) (x3 : Int32) (x4 : Int32) (S : Sx) : Option (Int32 × Sx) :=
  if x2 < x4 then (m210 x3 S).bind fun q1 => if oc q1.2 x0 12 = true then (m211 x0 x2 q1.1 q1.2).bind fun q2 => some (q2.1, q2.2) else none else if oc S x0 12 = true then (S.2.2.2.1 x0 24).bind fun a3 => if inb x4 (al S a3) = true then k27 x0 x2 (x3 ||| (S.2.1 a3 x4.toNatClampNeg)) (x4 + (1 : Int32)) S else none else none
set_option maxRecDepth 100000 in
theorem ob207_27 (d : Nat) (k27 : Nat → Int32 → Int32 → Int32 → Sx → Option (Int32 × Sx)) (hk27 : ∀ (x0 : Nat) (x2 : Int32) (x3 : Int32) (x4 : Int32) (S : Sx), OkF wI (fun f => rk px kx f (d + 6) 207 27 [some (.ref x0), none, some (.int x2), some (.int x3), some (.int x4)] [] S) (k27 x0 x2 x3 x4 S)) (x0 : Nat) (x2 : Int32) (x3 : Int32) (x4 : Int32) (S : Sx) : OkF wI (fun f => rk px kx f (d + 6) 207 27 [some (.ref x0), none, some (.int x2), some (.int x3), some (.int x4)] [] S) (b207_27 k27 x0 x2 x3 x4 S) := by
  unfold b207_27
  refine OkF.eq 3 (Y := fun f => if x2 < x4 then rk px kx f (d + 6) 207 49 [some (.ref x0), none, some (.int x2), some (.int x3), some (.int x4)] [] S else rk px kx f (d + 6) 207 33 [some (.ref x0), none, some (.int x2), some (.int x3), some (.int x4)] [] S) (fun f => rfl) ?_
  refine OkF.ite (fun _ => ?_) (fun _ => ?_)
  · refine OkF.eq 4 (Y := fun f => (rk px kx f (d + 5) 210 0 [some (.int x3), none, none] [] S).bind (fun q => rk px kx f (d + 6) 207 55 [some (.ref x0), none, some (.int x2), some (.int x3), some (.int x4)] (q.1.toList ++ [.int x2, .ref x0]) q.2)) (fun f => rfl) ?_
    refine OkF.bind (w1 := wI) (om210 (d + 5) x3 S) (fun q1 => ?_)
    refine OkF.eq 1 (Y := fun f => if oc q1.2 x0 12 = true then (rk px kx f (d + 5) 211 0 [some (.ref x0), some (.int x2), some (.int q1.1)] [] q1.2).bind (fun q => rk px kx f (d + 6) 207 58 [some (.ref x0), none, some (.int x2), some (.int x3), some (.int x4)] (q.1.toList ++ []) q.2) else none) (fun f => rfl) ?_
    refine OkF.grd (fun _ => ?_)
    refine OkF.bind (w1 := wI) (om211 (d + 5) x0 x2 q1.1 q1.2) (fun q2 => ?_)
    exact OkF.ret 1 (fun f => rfl)
  · refine OkF.eq 3 (Y := fun f => if oc S x0 12 = true then rk px kx f (d + 6) 207 38 [some (.ref x0), none, some (.int x2), some (.int x3), some (.int x4)] (va_rf (S.2.2.2.1 x0 24) :: [.int x3]) S else none) (fun f => rfl) ?_
    refine OkF.grd (fun _ => ?_)
    refine OkF.rf (fun a3 => ?_)
    refine OkF.eq 2 (Y := fun f => if inb x4 (al S a3) = true then rk px kx f (d + 6) 207 41 [some (.ref x0), none, some (.int x2), some (.int x3), some (.int x4)] [.int (S.2.1 a3 x4.toNatClampNeg), .int x3] S else none) (fun f => rfl) ?_
    refine OkF.grd (fun _ => ?_)
    refine OkF.eq 4 (Y := fun f => rk px kx f (d + 6) 207 27 [some (.ref x0), none, some (.int x2), some (.int (x3 ||| (S.2.1 a3 x4.toNatClampNeg))), some (.int (x4 + (1 : Int32)))] [] S) (fun f => rfl) ?_
    exact OkF.kl (ls1 := [some (.ref x0), none, some (.int x2), some (.int (x3 ||| (S.2.1 a3 x4.toNatClampNeg))), some (.int (x4 + (1 : Int32)))]) (fun f => rfl) (hk27 x0 x2 (x3 ||| (S.2.1 a3 x4.toNatClampNeg)) (x4 + (1 : Int32)) S)
def l207_27 : Nat → Nat → Int32 → Int32 → Int32 → Sx → Option (Int32 × Sx)
  | 0 => fun _ _ _ _ _ => none
  | n + 1 => fun x0 x2 x3 x4 S => b207_27 (l207_27 n) x0 x2 x3 x4 S
set_option maxRecDepth 100000 in
theorem ol207_27 (d : Nat) : ∀ (n : Nat) (x0 : Nat) (x2 : Int32) (x3 : Int32) (x4 : Int32) (S : Sx), OkF wI (fun f => rk px kx f (d + 6) 207 27 [some (.ref x0), none, some (.int x2), some (.int x3), some (.int x4)] [] S) (l207_27 n x0 x2 x3 x4 S) := by
  intro n
  induction n with
  | zero => intro x0 x2 x3 x4 S; exact OkF.no
  | succ n ih => intro x0 x2 x3 x4 S; exact ob207_27 d (l207_27 n) ih x0 x2 x3 x4 S
def m207 (x0 : Nat) (x1 : Int32) (S : Sx) : Option (Int32 × Sx) :=
  if oc S x0 12 = true then (m208 x0 x1 S).bind fun q4 => if q4.1 = 0 then some ((-1 : Int32), q4.2) else if oc q4.2 x0 12 = true then (q4.2.2.2.2.1 x0 8).bind fun a5 => if inb (3 : Int32) (al q4.2 a5) = true then if oc q4.2 x0 12 = true then (m209 x0 x1 (q4.2.2.1 a5 (3 : Int32).toNatClampNeg) q4.2).bind fun q6 => l207_27 1000 x0 q6.1 (0 : Int32) (0 : Int32) q6.2 else none else none else none else none
set_option maxRecDepth 100000 in
theorem om207 (d : Nat) (x0 : Nat) (x1 : Int32) (S : Sx) : OkF wI (fun f => rk px kx f (d + 6) 207 0 [some (.ref x0), some (.int x1), none, none, none] [] S) (m207 x0 x1 S) := by
  unfold m207
  refine OkF.eq 3 (Y := fun f => if oc S x0 12 = true then (rk px kx f (d + 5) 208 0 [some (.ref x0), some (.int x1)] [] S).bind (fun q => rk px kx f (d + 6) 207 5 [some (.ref x0), some (.int x1), none, none, none] (q.1.toList ++ []) q.2) else none) (fun f => rfl) ?_
  refine OkF.grd (fun _ => ?_)
  refine OkF.bind (w1 := wI) (om208 (d + 4) x0 x1 S) (fun q4 => ?_)
  refine OkF.eq 1 (Y := fun f => if q4.1 = 0 then rk px kx f (d + 6) 207 8 [some (.ref x0), some (.int x1), none, none, none] [] q4.2 else rk px kx f (d + 6) 207 10 [some (.ref x0), some (.int x1), none, none, none] [] q4.2) (fun f => rfl) ?_
  refine OkF.ite (fun _ => ?_) (fun _ => ?_)
  · exact OkF.ret 2 (fun f => rfl)
  · refine OkF.eq 4 (Y := fun f => if oc q4.2 x0 12 = true then rk px kx f (d + 6) 207 16 [some (.ref x0), some (.int x1), none, none, none] (va_rf (q4.2.2.2.2.1 x0 8) :: [.int x1, .ref x0]) q4.2 else none) (fun f => rfl) ?_
    refine OkF.grd (fun _ => ?_)
    refine OkF.rf (fun a5 => ?_)
    refine OkF.eq 2 (Y := fun f => if inb (3 : Int32) (al q4.2 a5) = true then rk px kx f (d + 6) 207 18 [some (.ref x0), some (.int x1), none, none, none] [.int (q4.2.2.1 a5 (3 : Int32).toNatClampNeg), .int x1, .ref x0] q4.2 else none) (fun f => rfl) ?_
    refine OkF.grd (fun _ => ?_)
    refine OkF.eq 1 (Y := fun f => if oc q4.2 x0 12 = true then (rk px kx f (d + 5) 209 0 [some (.ref x0), some (.int x1), some (.int (q4.2.2.1 a5 (3 : Int32).toNatClampNeg)), none] [] q4.2).bind (fun q => rk px kx f (d + 6) 207 21 [some (.ref x0), some (.int x1), none, none, none] (q.1.toList ++ []) q.2) else none) (fun f => rfl) ?_
    refine OkF.grd (fun _ => ?_)
    refine OkF.bind (w1 := wI) (om209 (d + 0) x0 x1 (q4.2.2.1 a5 (3 : Int32).toNatClampNeg) q4.2) (fun q6 => ?_)
    refine OkF.eq 5 (Y := fun f => rk px kx f (d + 6) 207 27 [some (.ref x0), some (.int x1), some (.int q6.1), some (.int (0 : Int32)), some (.int (0 : Int32))] [] q6.2) (fun f => rfl) ?_
    exact OkF.kl (ls1 := [some (.ref x0), none, some (.int q6.1), some (.int (0 : Int32)), some (.int (0 : Int32))]) (fun f => rfl) (ol207_27 d 1000 x0 q6.1 (0 : Int32) (0 : Int32) q6.2)
-- DoorSoldModel.way(II)I
def b212_167 (k32 : Nat → Int32 → Int32 → Int32 → Int32 → Sx → Option (Int32 × Sx)) (k60 : Nat → Int32 → Int32 → Int32 → Int32 → Int32 → Sx → Option (Int32 × Sx)) (k72 : Nat → Int32 → Int32 → Int32 → Int32 → Int32 → Int32 → Sx → Option (Int32 × Sx)) (x0 : Nat) (x1 : Int32) (x2 : Int32) (x3 : Int32) (x4 : Int32) (x5 : Int32) (x6 : Int32) (s0 : Nat) (s1 : Int32) (s2 : Int32) (s3 : Int32) (S : Sx) : Option (Int32 × Sx) :=
  if inb s1 (aw S 1 s0) = true then lt (sI S s0 s1.toNatClampNeg (s2 ||| s3)) fun S1 => k72 x0 x1 x2 x3 x4 x5 (x6 + (1 : Int32)) S1 else none
set_option maxRecDepth 100000 in
theorem ob212_167 (d : Nat) (k32 : Nat → Int32 → Int32 → Int32 → Int32 → Sx → Option (Int32 × Sx)) (hk32 : ∀ (x0 : Nat) (x1 : Int32) (x2 : Int32) (x3 : Int32) (x4 : Int32) (S : Sx), OkF wI (fun f => rk px kx f (d + 6) 212 32 [some (.ref x0), some (.int x1), some (.int x2), some (.int x3), some (.int x4), none, none, none, none] [] S) (k32 x0 x1 x2 x3 x4 S)) (k60 : Nat → Int32 → Int32 → Int32 → Int32 → Int32 → Sx → Option (Int32 × Sx)) (hk60 : ∀ (x0 : Nat) (x1 : Int32) (x2 : Int32) (x3 : Int32) (x4 : Int32) (x5 : Int32) (S : Sx), OkF wI (fun f => rk px kx f (d + 6) 212 60 [some (.ref x0), some (.int x1), some (.int x2), some (.int x3), some (.int x4), some (.int x5), none, none, none] [] S) (k60 x0 x1 x2 x3 x4 x5 S)) (k72 : Nat → Int32 → Int32 → Int32 → Int32 → Int32 → Int32 → Sx → Option (Int32 × Sx)) (hk72 : ∀ (x0 : Nat) (x1 : Int32) (x2 : Int32) (x3 : Int32) (x4 : Int32) (x5 : Int32) (x6 : Int32) (S : Sx), OkF wI (fun f => rk px kx f (d + 6) 212 72 [some (.ref x0), some (.int x1), some (.int x2), some (.int x3), some (.int x4), some (.int x5), some (.int x6), none, none] [] S) (k72 x0 x1 x2 x3 x4 x5 x6 S)) (x0 : Nat) (x1 : Int32) (x2 : Int32) (x3 : Int32) (x4 : Int32) (x5 : Int32) (x6 : Int32) (s0 : Nat) (s1 : Int32) (s2 : Int32) (s3 : Int32) (S : Sx) : OkF wI (fun f => rk px kx f (d + 6) 212 167 [some (.ref x0), some (.int x1), some (.int x2), some (.int x3), some (.int x4), some (.int x5), some (.int x6), none, none] [.int s3, .int s2, .int s1, .ref s0] S) (b212_167 k32 k60 k72 x0 x1 x2 x3 x4 x5 x6 s0 s1 s2 s3 S) := by
  unfold b212_167
  refine OkF.eq 2 (Y := fun f => if inb s1 (aw S 1 s0) = true then rk px kx f (d + 6) 212 169 [some (.ref x0), some (.int x1), some (.int x2), some (.int x3), some (.int x4), some (.int x5), some (.int x6), none, none] [] (sI S s0 s1.toNatClampNeg (s2 ||| s3)) else none) (fun f => rfl) ?_
  refine OkF.grd (fun _ => ?_)
  refine OkF.nm (fun S1 => ?_)
  refine OkF.eq 2 (Y := fun f => rk px kx f (d + 6) 212 72 [some (.ref x0), some (.int x1), some (.int x2), some (.int x3), some (.int x4), some (.int x5), some (.int (x6 + (1 : Int32))), none, none] [] S1) (fun f => rfl) ?_
  exact OkF.kl (ls1 := [some (.ref x0), some (.int x1), some (.int x2), some (.int x3), some (.int x4), some (.int x5), some (.int (x6 + (1 : Int32))), none, none]) (fun f => rfl) (hk72 x0 x1 x2 x3 x4 x5 (x6 + (1 : Int32)) S1)
def b212_144 (k32 : Nat → Int32 → Int32 → Int32 → Int32 → Sx → Option (Int32 × Sx)) (k60 : Nat → Int32 → Int32 → Int32 → Int32 → Int32 → Sx → Option (Int32 × Sx)) (k72 : Nat → Int32 → Int32 → Int32 → Int32 → Int32 → Int32 → Sx → Option (Int32 × Sx)) (x0 : Nat) (x1 : Int32) (x2 : Int32) (x3 : Int32) (x4 : Int32) (x5 : Int32) (x6 : Int32) (s0 : Int32) (S : Sx) : Option (Int32 × Sx) :=
  if oc S x0 12 = true then (S.2.2.2.1 x0 25).bind fun a2 => if inb x4 (al S a2) = true then if s0 = 0 then b212_167 k32 k60 k72 x0 x1 x2 x3 x4 x5 x6 a2 x4 (S.2.1 a2 x4.toNatClampNeg) (0 : Int32) S else b212_167 k32 k60 k72 x0 x1 x2 x3 x4 x5 x6 a2 x4 (S.2.1 a2 x4.toNatClampNeg) ((1 : Int32) <<< (x5 &&& 31)) S else none else none
set_option maxRecDepth 100000 in
theorem ob212_144 (d : Nat) (k32 : Nat → Int32 → Int32 → Int32 → Int32 → Sx → Option (Int32 × Sx)) (hk32 : ∀ (x0 : Nat) (x1 : Int32) (x2 : Int32) (x3 : Int32) (x4 : Int32) (S : Sx), OkF wI (fun f => rk px kx f (d + 6) 212 32 [some (.ref x0), some (.int x1), some (.int x2), some (.int x3), some (.int x4), none, none, none, none] [] S) (k32 x0 x1 x2 x3 x4 S)) (k60 : Nat → Int32 → Int32 → Int32 → Int32 → Int32 → Sx → Option (Int32 × Sx)) (hk60 : ∀ (x0 : Nat) (x1 : Int32) (x2 : Int32) (x3 : Int32) (x4 : Int32) (x5 : Int32) (S : Sx), OkF wI (fun f => rk px kx f (d + 6) 212 60 [some (.ref x0), some (.int x1), some (.int x2), some (.int x3), some (.int x4), some (.int x5), none, none, none] [] S) (k60 x0 x1 x2 x3 x4 x5 S)) (k72 : Nat → Int32 → Int32 → Int32 → Int32 → Int32 → Int32 → Sx → Option (Int32 × Sx)) (hk72 : ∀ (x0 : Nat) (x1 : Int32) (x2 : Int32) (x3 : Int32) (x4 : Int32) (x5 : Int32) (x6 : Int32) (S : Sx), OkF wI (fun f => rk px kx f (d + 6) 212 72 [some (.ref x0), some (.int x1), some (.int x2), some (.int x3), some (.int x4), some (.int x5), some (.int x6), none, none] [] S) (k72 x0 x1 x2 x3 x4 x5 x6 S)) (x0 : Nat) (x1 : Int32) (x2 : Int32) (x3 : Int32) (x4 : Int32) (x5 : Int32) (x6 : Int32) (s0 : Int32) (S : Sx) : OkF wI (fun f => rk px kx f (d + 6) 212 144 [some (.ref x0), some (.int x1), some (.int x2), some (.int x3), some (.int x4), some (.int x5), some (.int x6), none, none] [.int s0] S) (b212_144 k32 k60 k72 x0 x1 x2 x3 x4 x5 x6 s0 S) := by
  unfold b212_144
  refine OkF.eq 3 (Y := fun f => if oc S x0 12 = true then rk px kx f (d + 6) 212 150 [some (.ref x0), some (.int x1), some (.int x2), some (.int x3), some (.int x4), some (.int x5), some (.int x6), none, some (.int s0)] (va_rf (S.2.2.2.1 x0 25) :: []) S else none) (fun f => rfl) ?_
  refine OkF.grd (fun _ => ?_)
  refine OkF.rf (fun a2 => ?_)
  refine OkF.eq 3 (Y := fun f => if inb x4 (al S a2) = true then rk px kx f (d + 6) 212 154 [some (.ref x0), some (.int x1), some (.int x2), some (.int x3), some (.int x4), some (.int x5), some (.int x6), none, some (.int s0)] [.int (S.2.1 a2 x4.toNatClampNeg), .int x4, .ref a2] S else none) (fun f => rfl) ?_
  refine OkF.grd (fun _ => ?_)
  refine OkF.eq 2 (Y := fun f => if s0 = 0 then rk px kx f (d + 6) 212 166 [some (.ref x0), some (.int x1), some (.int x2), some (.int x3), some (.int x4), some (.int x5), some (.int x6), none, some (.int s0)] [.int (S.2.1 a2 x4.toNatClampNeg), .int x4, .ref a2] S else rk px kx f (d + 6) 212 159 [some (.ref x0), some (.int x1), some (.int x2), some (.int x3), some (.int x4), some (.int x5), some (.int x6), none, some (.int s0)] [.int (S.2.1 a2 x4.toNatClampNeg), .int x4, .ref a2] S) (fun f => rfl) ?_
  refine OkF.ite (fun _ => ?_) (fun _ => ?_)
  · refine OkF.eq 1 (Y := fun f => rk px kx f (d + 6) 212 167 [some (.ref x0), some (.int x1), some (.int x2), some (.int x3), some (.int x4), some (.int x5), some (.int x6), none, some (.int s0)] [.int (0 : Int32), .int (S.2.1 a2 x4.toNatClampNeg), .int x4, .ref a2] S) (fun f => rfl) ?_
    exact OkF.kl (ls1 := [some (.ref x0), some (.int x1), some (.int x2), some (.int x3), some (.int x4), some (.int x5), some (.int x6), none, none]) (fun f => rfl) (ob212_167 d k32 hk32 k60 hk60 k72 hk72 x0 x1 x2 x3 x4 x5 x6 a2 x4 (S.2.1 a2 x4.toNatClampNeg) (0 : Int32) S)
  · refine OkF.eq 4 (Y := fun f => rk px kx f (d + 6) 212 167 [some (.ref x0), some (.int x1), some (.int x2), some (.int x3), some (.int x4), some (.int x5), some (.int x6), none, some (.int s0)] [.int ((1 : Int32) <<< (x5 &&& 31)), .int (S.2.1 a2 x4.toNatClampNeg), .int x4, .ref a2] S) (fun f => rfl) ?_
    exact OkF.kl (ls1 := [some (.ref x0), some (.int x1), some (.int x2), some (.int x3), some (.int x4), some (.int x5), some (.int x6), none, none]) (fun f => rfl) (ob212_167 d k32 hk32 k60 hk60 k72 hk72 x0 x1 x2 x3 x4 x5 x6 a2 x4 (S.2.1 a2 x4.toNatClampNeg) ((1 : Int32) <<< (x5 &&& 31)) S)
def b212_143 (k32 : Nat → Int32 → Int32 → Int32 → Int32 → Sx → Option (Int32 × Sx)) (k60 : Nat → Int32 → Int32 → Int32 → Int32 → Int32 → Sx → Option (Int32 × Sx)) (k72 : Nat → Int32 → Int32 → Int32 → Int32 → Int32 → Int32 → Sx → Option (Int32 × Sx)) (x0 : Nat) (x1 : Int32) (x2 : Int32) (x3 : Int32) (x4 : Int32) (x5 : Int32) (x6 : Int32) (S : Sx) : Option (Int32 × Sx) :=
  b212_144 k32 k60 k72 x0 x1 x2 x3 x4 x5 x6 (0 : Int32) S
set_option maxRecDepth 100000 in
theorem ob212_143 (d : Nat) (k32 : Nat → Int32 → Int32 → Int32 → Int32 → Sx → Option (Int32 × Sx)) (hk32 : ∀ (x0 : Nat) (x1 : Int32) (x2 : Int32) (x3 : Int32) (x4 : Int32) (S : Sx), OkF wI (fun f => rk px kx f (d + 6) 212 32 [some (.ref x0), some (.int x1), some (.int x2), some (.int x3), some (.int x4), none, none, none, none] [] S) (k32 x0 x1 x2 x3 x4 S)) (k60 : Nat → Int32 → Int32 → Int32 → Int32 → Int32 → Sx → Option (Int32 × Sx)) (hk60 : ∀ (x0 : Nat) (x1 : Int32) (x2 : Int32) (x3 : Int32) (x4 : Int32) (x5 : Int32) (S : Sx), OkF wI (fun f => rk px kx f (d + 6) 212 60 [some (.ref x0), some (.int x1), some (.int x2), some (.int x3), some (.int x4), some (.int x5), none, none, none] [] S) (k60 x0 x1 x2 x3 x4 x5 S)) (k72 : Nat → Int32 → Int32 → Int32 → Int32 → Int32 → Int32 → Sx → Option (Int32 × Sx)) (hk72 : ∀ (x0 : Nat) (x1 : Int32) (x2 : Int32) (x3 : Int32) (x4 : Int32) (x5 : Int32) (x6 : Int32) (S : Sx), OkF wI (fun f => rk px kx f (d + 6) 212 72 [some (.ref x0), some (.int x1), some (.int x2), some (.int x3), some (.int x4), some (.int x5), some (.int x6), none, none] [] S) (k72 x0 x1 x2 x3 x4 x5 x6 S)) (x0 : Nat) (x1 : Int32) (x2 : Int32) (x3 : Int32) (x4 : Int32) (x5 : Int32) (x6 : Int32) (S : Sx) : OkF wI (fun f => rk px kx f (d + 6) 212 143 [some (.ref x0), some (.int x1), some (.int x2), some (.int x3), some (.int x4), some (.int x5), some (.int x6), none, none] [] S) (b212_143 k32 k60 k72 x0 x1 x2 x3 x4 x5 x6 S) := by
  unfold b212_143
  refine OkF.eq 1 (Y := fun f => rk px kx f (d + 6) 212 144 [some (.ref x0), some (.int x1), some (.int x2), some (.int x3), some (.int x4), some (.int x5), some (.int x6), none, none] [.int (0 : Int32)] S) (fun f => rfl) ?_
  exact OkF.kl (ls1 := [some (.ref x0), some (.int x1), some (.int x2), some (.int x3), some (.int x4), some (.int x5), some (.int x6), none, none]) (fun f => rfl) (ob212_144 d k32 hk32 k60 hk60 k72 hk72 x0 x1 x2 x3 x4 x5 x6 (0 : Int32) S)
def b212_72 (k32 : Nat → Int32 → Int32 → Int32 → Int32 → Sx → Option (Int32 × Sx)) (k60 : Nat → Int32 → Int32 → Int32 → Int32 → Int32 → Sx → Option (Int32 × Sx)) (k72 : Nat → Int32 → Int32 → Int32 → Int32 → Int32 → Int32 → Sx → Option (Int32 × Sx)) (x0 : Nat) (x1 : Int32) (x2 : Int32) (x3 : Int32) (x4 : Int32) (x5 : Int32) (x6 : Int32) (S : Sx) : Option (Int32 × Sx) :=
  if (8 : Int32) ≤ x6 then k60 x0 x1 x2 x3 x4 (x5 + (1 : Int32)) S else if oc S x0 12 = true then (S.2.2.2.1 x0 8).bind fun a3 => if inb (3 : Int32) (al S a3) = true then if oc S x0 12 = true then (m205 x0 x6 x5 x4 (S.2.1 a3 (3 : Int32).toNatClampNeg) S).bind fun q4 => if q4.1 = (-9 : Int32) then b212_143 k32 k60 k72 x0 x1 x2 x3 x4 x5 x6 q4.2 else if oc q4.2 x0 12 = true then (m206 x0 x6 q4.2).bind fun q5 => if x3 < (x4 + q5.1) then b212_143 k32 k60 k72 x0 x1 x2 x3 x4 x5 x6 q5.2 else if oc q5.2 x0 12 = true then (q5.2.2.2.2.1 x0 25).bind fun a6 => if oc q5.2 x0 12 = true then (m206 x0 x6 q5.2).bind fun q7 => if inb (x4 + q7.1) (al q7.2 a6) = true then (m180 (q7.2.2.1 a6 (x4 + q7.1).toNatClampNeg) q4.1 q7.2).bind fun q8 => if q8.1 = 0 then b212_143 k32 k60 k72 x0 x1 x2 x3 x4 x5 x6 q8.2 else b212_144 k32 k60 k72 x0 x1 x2 x3 x4 x5 x6 (1 : Int32) q8.2 else none else none else none else none else none else none else none
set_option maxRecDepth 100000 in
theorem ob212_72 (d : Nat) (k32 : Nat → Int32 → Int32 → Int32 → Int32 → Sx → Option (Int32 × Sx)) (hk32 : ∀ (x0 : Nat) (x1 : Int32) (x2 : Int32) (x3 : Int32) (x4 : Int32) (S : Sx), OkF wI (fun f => rk px kx f (d + 6) 212 32 [some (.ref x0), some (.int x1), some (.int x2), some (.int x3), some (.int x4), none, none, none, none] [] S) (k32 x0 x1 x2 x3 x4 S)) (k60 : Nat → Int32 → Int32 → Int32 → Int32 → Int32 → Sx → Option (Int32 × Sx)) (hk60 : ∀ (x0 : Nat) (x1 : Int32) (x2 : Int32) (x3 : Int32) (x4 : Int32) (x5 : Int32) (S : Sx), OkF wI (fun f => rk px kx f (d + 6) 212 60 [some (.ref x0), some (.int x1), some (.int x2), some (.int x3), some (.int x4), some (.int x5), none, none, none] [] S) (k60 x0 x1 x2 x3 x4 x5 S)) (k72 : Nat → Int32 → Int32 → Int32 → Int32 → Int32 → Int32 → Sx → Option (Int32 × Sx)) (hk72 : ∀ (x0 : Nat) (x1 : Int32) (x2 : Int32) (x3 : Int32) (x4 : Int32) (x5 : Int32) (x6 : Int32) (S : Sx), OkF wI (fun f => rk px kx f (d + 6) 212 72 [some (.ref x0), some (.int x1), some (.int x2), some (.int x3), some (.int x4), some (.int x5), some (.int x6), none, none] [] S) (k72 x0 x1 x2 x3 x4 x5 x6 S)) (x0 : Nat) (x1 : Int32) (x2 : Int32) (x3 : Int32) (x4 : Int32) (x5 : Int32) (x6 : Int32) (S : Sx) : OkF wI (fun f => rk px kx f (d + 6) 212 72 [some (.ref x0), some (.int x1), some (.int x2), some (.int x3), some (.int x4), some (.int x5), some (.int x6), none, none] [] S) (b212_72 k32 k60 k72 x0 x1 x2 x3 x4 x5 x6 S) := by
  unfold b212_72
  refine OkF.eq 3 (Y := fun f => if (8 : Int32) ≤ x6 then rk px kx f (d + 6) 212 175 [some (.ref x0), some (.int x1), some (.int x2), some (.int x3), some (.int x4), some (.int x5), some (.int x6), none, none] [] S else rk px kx f (d + 6) 212 79 [some (.ref x0), some (.int x1), some (.int x2), some (.int x3), some (.int x4), some (.int x5), some (.int x6), none, none] [] S) (fun f => rfl) ?_
  refine OkF.ite (fun _ => ?_) (fun _ => ?_)
  · refine OkF.eq 2 (Y := fun f => rk px kx f (d + 6) 212 60 [some (.ref x0), some (.int x1), some (.int x2), some (.int x3), some (.int x4), some (.int (x5 + (1 : Int32))), some (.int x6), none, none] [] S) (fun f => rfl) ?_
    exact OkF.kl (ls1 := [some (.ref x0), some (.int x1), some (.int x2), some (.int x3), some (.int x4), some (.int (x5 + (1 : Int32))), none, none, none]) (fun f => rfl) (hk60 x0 x1 x2 x3 x4 (x5 + (1 : Int32)) S)
  · refine OkF.eq 6 (Y := fun f => if oc S x0 12 = true then rk px kx f (d + 6) 212 90 [some (.ref x0), some (.int x1), some (.int x2), some (.int x3), some (.int x4), some (.int x5), some (.int x6), none, none] (va_rf (S.2.2.2.1 x0 8) :: [.int x4, .int x5, .int x6, .ref x0]) S else none) (fun f => rfl) ?_
    refine OkF.grd (fun _ => ?_)
    refine OkF.rf (fun a3 => ?_)
    refine OkF.eq 2 (Y := fun f => if inb (3 : Int32) (al S a3) = true then rk px kx f (d + 6) 212 92 [some (.ref x0), some (.int x1), some (.int x2), some (.int x3), some (.int x4), some (.int x5), some (.int x6), none, none] [.int (S.2.1 a3 (3 : Int32).toNatClampNeg), .int x4, .int x5, .int x6, .ref x0] S else none) (fun f => rfl) ?_
    refine OkF.grd (fun _ => ?_)
    refine OkF.eq 1 (Y := fun f => if oc S x0 12 = true then (rk px kx f (d + 5) 205 0 [some (.ref x0), some (.int x6), some (.int x5), some (.int x4), some (.int (S.2.1 a3 (3 : Int32).toNatClampNeg)), none, none] [] S).bind (fun q => rk px kx f (d + 6) 212 95 [some (.ref x0), some (.int x1), some (.int x2), some (.int x3), some (.int x4), some (.int x5), some (.int x6), none, none] (q.1.toList ++ []) q.2) else none) (fun f => rfl) ?_
    refine OkF.grd (fun _ => ?_)
    refine OkF.bind (w1 := wI) (om205 (d + 2) x0 x6 x5 x4 (S.2.1 a3 (3 : Int32).toNatClampNeg) S) (fun q4 => ?_)
    refine OkF.eq 4 (Y := fun f => if q4.1 = (-9 : Int32) then rk px kx f (d + 6) 212 143 [some (.ref x0), some (.int x1), some (.int x2), some (.int x3), some (.int x4), some (.int x5), some (.int x6), some (.int q4.1), none] [] q4.2 else rk px kx f (d + 6) 212 104 [some (.ref x0), some (.int x1), some (.int x2), some (.int x3), some (.int x4), some (.int x5), some (.int x6), some (.int q4.1), none] [] q4.2) (fun f => rfl) ?_
    refine OkF.ite (fun _ => ?_) (fun _ => ?_)
    · exact OkF.kl (ls1 := [some (.ref x0), some (.int x1), some (.int x2), some (.int x3), some (.int x4), some (.int x5), some (.int x6), none, none]) (fun f => rfl) (ob212_143 d k32 hk32 k60 hk60 k72 hk72 x0 x1 x2 x3 x4 x5 x6 q4.2)
    · refine OkF.eq 4 (Y := fun f => if oc q4.2 x0 12 = true then (rk px kx f (d + 5) 206 0 [some (.ref x0), some (.int x6)] [] q4.2).bind (fun q => rk px kx f (d + 6) 212 112 [some (.ref x0), some (.int x1), some (.int x2), some (.int x3), some (.int x4), some (.int x5), some (.int x6), some (.int q4.1), none] (q.1.toList ++ [.int x4]) q.2) else none) (fun f => rfl) ?_
      refine OkF.grd (fun _ => ?_)
      refine OkF.bind (w1 := wI) (om206 (d + 4) x0 x6 q4.2) (fun q5 => ?_)
      refine OkF.eq 3 (Y := fun f => if x3 < (x4 + q5.1) then rk px kx f (d + 6) 212 143 [some (.ref x0), some (.int x1), some (.int x2), some (.int x3), some (.int x4), some (.int x5), some (.int x6), some (.int q4.1), none] [] q5.2 else rk px kx f (d + 6) 212 117 [some (.ref x0), some (.int x1), some (.int x2), some (.int x3), some (.int x4), some (.int x5), some (.int x6), some (.int q4.1), none] [] q5.2) (fun f => rfl) ?_
      refine OkF.ite (fun _ => ?_) (fun _ => ?_)
      · exact OkF.kl (ls1 := [some (.ref x0), some (.int x1), some (.int x2), some (.int x3), some (.int x4), some (.int x5), some (.int x6), none, none]) (fun f => rfl) (ob212_143 d k32 hk32 k60 hk60 k72 hk72 x0 x1 x2 x3 x4 x5 x6 q5.2)
      · refine OkF.eq 2 (Y := fun f => if oc q5.2 x0 12 = true then rk px kx f (d + 6) 212 121 [some (.ref x0), some (.int x1), some (.int x2), some (.int x3), some (.int x4), some (.int x5), some (.int x6), some (.int q4.1), none] (va_rf (q5.2.2.2.2.1 x0 25) :: []) q5.2 else none) (fun f => rfl) ?_
        refine OkF.grd (fun _ => ?_)
        refine OkF.rf (fun a6 => ?_)
        refine OkF.eq 4 (Y := fun f => if oc q5.2 x0 12 = true then (rk px kx f (d + 5) 206 0 [some (.ref x0), some (.int x6)] [] q5.2).bind (fun q => rk px kx f (d + 6) 212 129 [some (.ref x0), some (.int x1), some (.int x2), some (.int x3), some (.int x4), some (.int x5), some (.int x6), some (.int q4.1), none] (q.1.toList ++ [.int x4, .ref a6]) q.2) else none) (fun f => rfl) ?_
        refine OkF.grd (fun _ => ?_)
        refine OkF.bind (w1 := wI) (om206 (d + 4) x0 x6 q5.2) (fun q7 => ?_)
        refine OkF.eq 2 (Y := fun f => if inb (x4 + q7.1) (al q7.2 a6) = true then rk px kx f (d + 6) 212 131 [some (.ref x0), some (.int x1), some (.int x2), some (.int x3), some (.int x4), some (.int x5), some (.int x6), some (.int q4.1), none] [.int (q7.2.2.1 a6 (x4 + q7.1).toNatClampNeg)] q7.2 else none) (fun f => rfl) ?_
        refine OkF.grd (fun _ => ?_)
        refine OkF.eq 2 (Y := fun f => (rk px kx f (d + 5) 180 0 [some (.int (q7.2.2.1 a6 (x4 + q7.1).toNatClampNeg)), some (.int q4.1)] [] q7.2).bind (fun q => rk px kx f (d + 6) 212 136 [some (.ref x0), some (.int x1), some (.int x2), some (.int x3), some (.int x4), some (.int x5), some (.int x6), some (.int q4.1), none] (q.1.toList ++ []) q.2)) (fun f => rfl) ?_
        refine OkF.bind (w1 := wI) (om180 (d + 5) (q7.2.2.1 a6 (x4 + q7.1).toNatClampNeg) q4.1 q7.2) (fun q8 => ?_)
        refine OkF.eq 1 (Y := fun f => if q8.1 = 0 then rk px kx f (d + 6) 212 143 [some (.ref x0), some (.int x1), some (.int x2), some (.int x3), some (.int x4), some (.int x5), some (.int x6), some (.int q4.1), none] [] q8.2 else rk px kx f (d + 6) 212 139 [some (.ref x0), some (.int x1), some (.int x2), some (.int x3), some (.int x4), some (.int x5), some (.int x6), some (.int q4.1), none] [] q8.2) (fun f => rfl) ?_
        refine OkF.ite (fun _ => ?_) (fun _ => ?_)
        · exact OkF.kl (ls1 := [some (.ref x0), some (.int x1), some (.int x2), some (.int x3), some (.int x4), some (.int x5), some (.int x6), none, none]) (fun f => rfl) (ob212_143 d k32 hk32 k60 hk60 k72 hk72 x0 x1 x2 x3 x4 x5 x6 q8.2)
        · refine OkF.eq 2 (Y := fun f => rk px kx f (d + 6) 212 144 [some (.ref x0), some (.int x1), some (.int x2), some (.int x3), some (.int x4), some (.int x5), some (.int x6), some (.int q4.1), none] [.int (1 : Int32)] q8.2) (fun f => rfl) ?_
          exact OkF.kl (ls1 := [some (.ref x0), some (.int x1), some (.int x2), some (.int x3), some (.int x4), some (.int x5), some (.int x6), none, none]) (fun f => rfl) (ob212_144 d k32 hk32 k60 hk60 k72 hk72 x0 x1 x2 x3 x4 x5 x6 (1 : Int32) q8.2)
def l212_72 (k32 : Nat → Int32 → Int32 → Int32 → Int32 → Sx → Option (Int32 × Sx)) (k60 : Nat → Int32 → Int32 → Int32 → Int32 → Int32 → Sx → Option (Int32 × Sx)) : Nat → Nat → Int32 → Int32 → Int32 → Int32 → Int32 → Int32 → Sx → Option (Int32 × Sx)
  | 0 => fun _ _ _ _ _ _ _ _ => none
  | n + 1 => fun x0 x1 x2 x3 x4 x5 x6 S => b212_72 k32 k60 (l212_72 k32 k60 n) x0 x1 x2 x3 x4 x5 x6 S
set_option maxRecDepth 100000 in
theorem ol212_72 (d : Nat) (k32 : Nat → Int32 → Int32 → Int32 → Int32 → Sx → Option (Int32 × Sx)) (hk32 : ∀ (x0 : Nat) (x1 : Int32) (x2 : Int32) (x3 : Int32) (x4 : Int32) (S : Sx), OkF wI (fun f => rk px kx f (d + 6) 212 32 [some (.ref x0), some (.int x1), some (.int x2), some (.int x3), some (.int x4), none, none, none, none] [] S) (k32 x0 x1 x2 x3 x4 S)) (k60 : Nat → Int32 → Int32 → Int32 → Int32 → Int32 → Sx → Option (Int32 × Sx)) (hk60 : ∀ (x0 : Nat) (x1 : Int32) (x2 : Int32) (x3 : Int32) (x4 : Int32) (x5 : Int32) (S : Sx), OkF wI (fun f => rk px kx f (d + 6) 212 60 [some (.ref x0), some (.int x1), some (.int x2), some (.int x3), some (.int x4), some (.int x5), none, none, none] [] S) (k60 x0 x1 x2 x3 x4 x5 S)) : ∀ (n : Nat) (x0 : Nat) (x1 : Int32) (x2 : Int32) (x3 : Int32) (x4 : Int32) (x5 : Int32) (x6 : Int32) (S : Sx), OkF wI (fun f => rk px kx f (d + 6) 212 72 [some (.ref x0), some (.int x1), some (.int x2), some (.int x3), some (.int x4), some (.int x5), some (.int x6), none, none] [] S) (l212_72 k32 k60 n x0 x1 x2 x3 x4 x5 x6 S) := by
  intro n
  induction n with
  | zero => intro x0 x1 x2 x3 x4 x5 x6 S; exact OkF.no
  | succ n ih => intro x0 x1 x2 x3 x4 x5 x6 S; exact ob212_72 d k32 hk32 k60 hk60 (l212_72 k32 k60 n) ih x0 x1 x2 x3 x4 x5 x6 S
def b212_60 (k32 : Nat → Int32 → Int32 → Int32 → Int32 → Sx → Option (Int32 × Sx)) (k60 : Nat → Int32 → Int32 → Int32 → Int32 → Int32 → Sx → Option (Int32 × Sx)) (x0 : Nat) (x1 : Int32) (x2 : Int32) (x3 : Int32) (x4 : Int32) (x5 : Int32) (S : Sx) : Option (Int32 × Sx) :=
  if oc S x0 12 = true then if (S.2.1 x0 5) ≤ x5 then k32 x0 x1 x2 x3 (x4 + (-1 : Int32)) S else l212_72 k32 k60 1000 x0 x1 x2 x3 x4 x5 (0 : Int32) S else none
set_option maxRecDepth 100000 in
theorem ob212_60 (d : Nat) (k32 : Nat → Int32 → Int32 → Int32 → Int32 → Sx → Option (Int32 × Sx)) (hk32 : ∀ (x0 : Nat) (x1 : Int32) (x2 : Int32) (x3 : Int32) (x4 : Int32) (S : Sx), OkF wI (fun f => rk px kx f (d + 6) 212 32 [some (.ref x0), some (.int x1), some (.int x2), some (.int x3), some (.int x4), none, none, none, none] [] S) (k32 x0 x1 x2 x3 x4 S)) (k60 : Nat → Int32 → Int32 → Int32 → Int32 → Int32 → Sx → Option (Int32 × Sx)) (hk60 : ∀ (x0 : Nat) (x1 : Int32) (x2 : Int32) (x3 : Int32) (x4 : Int32) (x5 : Int32) (S : Sx), OkF wI (fun f => rk px kx f (d + 6) 212 60 [some (.ref x0), some (.int x1), some (.int x2), some (.int x3), some (.int x4), some (.int x5), none, none, none] [] S) (k60 x0 x1 x2 x3 x4 x5 S)) (x0 : Nat) (x1 : Int32) (x2 : Int32) (x3 : Int32) (x4 : Int32) (x5 : Int32) (S : Sx) : OkF wI (fun f => rk px kx f (d + 6) 212 60 [some (.ref x0), some (.int x1), some (.int x2), some (.int x3), some (.int x4), some (.int x5), none, none, none] [] S) (b212_60 k32 k60 x0 x1 x2 x3 x4 x5 S) := by
  unfold b212_60
  refine OkF.eq 3 (Y := fun f => if oc S x0 12 = true then rk px kx f (d + 6) 212 66 [some (.ref x0), some (.int x1), some (.int x2), some (.int x3), some (.int x4), some (.int x5), none, none, none] [.int (S.2.1 x0 5), .int x5] S else none) (fun f => rfl) ?_
  refine OkF.grd (fun _ => ?_)
  refine OkF.eq 1 (Y := fun f => if (S.2.1 x0 5) ≤ x5 then rk px kx f (d + 6) 212 181 [some (.ref x0), some (.int x1), some (.int x2), some (.int x3), some (.int x4), some (.int x5), none, none, none] [] S else rk px kx f (d + 6) 212 69 [some (.ref x0), some (.int x1), some (.int x2), some (.int x3), some (.int x4), some (.int x5), none, none, none] [] S) (fun f => rfl) ?_
  refine OkF.ite (fun _ => ?_) (fun _ => ?_)
  · refine OkF.eq 1 (Y := fun f => rk px kx f (d + 6) 212 184 [some (.ref x0), some (.int x1), some (.int x2), some (.int x3), some (.int (x4 + (-1 : Int32))), some (.int x5), none, none, none] [] S) (fun f => Eq.trans (b := stp px (rk px kx f) (d + 6) 212 (181, .iinc 4 (-1), 184, 4, (-1), 0, []) [some (.ref x0), some (.int x1), some (.int x2), some (.int x3), some (.int x4), some (.int x5), none, none, none] [] S) rfl rfl) ?_
    refine OkF.eq 1 (Y := fun f => rk px kx f (d + 6) 212 32 [some (.ref x0), some (.int x1), some (.int x2), some (.int x3), some (.int (x4 + (-1 : Int32))), some (.int x5), none, none, none] [] S) (fun f => rfl) ?_
    exact OkF.kl (ls1 := [some (.ref x0), some (.int x1), some (.int x2), some (.int x3), some (.int (x4 + (-1 : Int32))), none, none, none, none]) (fun f => rfl) (hk32 x0 x1 x2 x3 (x4 + (-1 : Int32)) S)
  · refine OkF.eq 2 (Y := fun f => rk px kx f (d + 6) 212 72 [some (.ref x0), some (.int x1), some (.int x2), some (.int x3), some (.int x4), some (.int x5), some (.int (0 : Int32)), none, none] [] S) (fun f => rfl) ?_
    exact OkF.kl (ls1 := [some (.ref x0), some (.int x1), some (.int x2), some (.int x3), some (.int x4), some (.int x5), some (.int (0 : Int32)), none, none]) (fun f => rfl) (ol212_72 d k32 hk32 k60 hk60 1000 x0 x1 x2 x3 x4 x5 (0 : Int32) S)
def l212_60 (k32 : Nat → Int32 → Int32 → Int32 → Int32 → Sx → Option (Int32 × Sx)) : Nat → Nat → Int32 → Int32 → Int32 → Int32 → Int32 → Sx → Option (Int32 × Sx)
  | 0 => fun _ _ _ _ _ _ _ => none
  | n + 1 => fun x0 x1 x2 x3 x4 x5 S => b212_60 k32 (l212_60 k32 n) x0 x1 x2 x3 x4 x5 S
set_option maxRecDepth 100000 in
theorem ol212_60 (d : Nat) (k32 : Nat → Int32 → Int32 → Int32 → Int32 → Sx → Option (Int32 × Sx)) (hk32 : ∀ (x0 : Nat) (x1 : Int32) (x2 : Int32) (x3 : Int32) (x4 : Int32) (S : Sx), OkF wI (fun f => rk px kx f (d + 6) 212 32 [some (.ref x0), some (.int x1), some (.int x2), some (.int x3), some (.int x4), none, none, none, none] [] S) (k32 x0 x1 x2 x3 x4 S)) : ∀ (n : Nat) (x0 : Nat) (x1 : Int32) (x2 : Int32) (x3 : Int32) (x4 : Int32) (x5 : Int32) (S : Sx), OkF wI (fun f => rk px kx f (d + 6) 212 60 [some (.ref x0), some (.int x1), some (.int x2), some (.int x3), some (.int x4), some (.int x5), none, none, none] [] S) (l212_60 k32 n x0 x1 x2 x3 x4 x5 S) := by
  intro n
  induction n with
  | zero => intro x0 x1 x2 x3 x4 x5 S; exact OkF.no
  | succ n ih => intro x0 x1 x2 x3 x4 x5 S; exact ob212_60 d k32 hk32 (l212_60 k32 n) ih x0 x1 x2 x3 x4 x5 S
def b212_56 (k32 : Nat → Int32 → Int32 → Int32 → Int32 → Sx → Option (Int32 × Sx)) (x0 : Nat) (x1 : Int32) (x2 : Int32) (x3 : Int32) (x4 : Int32) (s0 : Nat) (s1 : Int32) (s2 : Int32) (S : Sx) : Option (Int32 × Sx) :=
  if inb s1 (aw S 1 s0) = true then lt (sI S s0 s1.toNatClampNeg s2) fun S9 => l212_60 k32 1000 x0 x1 x2 x3 x4 (0 : Int32) S9 else none
set_option maxRecDepth 100000 in
theorem ob212_56 (d : Nat) (k32 : Nat → Int32 → Int32 → Int32 → Int32 → Sx → Option (Int32 × Sx)) (hk32 : ∀ (x0 : Nat) (x1 : Int32) (x2 : Int32) (x3 : Int32) (x4 : Int32) (S : Sx), OkF wI (fun f => rk px kx f (d + 6) 212 32 [some (.ref x0), some (.int x1), some (.int x2), some (.int x3), some (.int x4), none, none, none, none] [] S) (k32 x0 x1 x2 x3 x4 S)) (x0 : Nat) (x1 : Int32) (x2 : Int32) (x3 : Int32) (x4 : Int32) (s0 : Nat) (s1 : Int32) (s2 : Int32) (S : Sx) : OkF wI (fun f => rk px kx f (d + 6) 212 56 [some (.ref x0), some (.int x1), some (.int x2), some (.int x3), some (.int x4), none, none, none, none] [.int s2, .int s1, .ref s0] S) (b212_56 k32 x0 x1 x2 x3 x4 s0 s1 s2 S) := by
  unfold b212_56
  refine OkF.eq 1 (Y := fun f => if inb s1 (aw S 1 s0) = true then rk px kx f (d + 6) 212 57 [some (.ref x0), some (.int x1), some (.int x2), some (.int x3), some (.int x4), none, none, none, none] [] (sI S s0 s1.toNatClampNeg s2) else none) (fun f => rfl) ?_
  refine OkF.grd (fun _ => ?_)
  refine OkF.nm (fun S9 => ?_)
  refine OkF.eq 2 (Y := fun f => rk px kx f (d + 6) 212 60 [some (.ref x0), some (.int x1), some (.int x2), some (.int x3), some (.int x4), some (.int (0 : Int32)), none, none, none] [] S9) (fun f => rfl) ?_
  exact OkF.kl (ls1 := [some (.ref x0), some (.int x1), some (.int x2), some (.int x3), some (.int x4), some (.int (0 : Int32)), none, none, none]) (fun f => rfl) (ol212_60 d k32 hk32 1000 x0 x1 x2 x3 x4 (0 : Int32) S9)
def b212_269 (k201 : Nat → Int32 → Int32 → Int32 → Int32 → Int32 → Sx → Option (Int32 × Sx)) (k227 : Nat → Int32 → Int32 → Int32 → Int32 → Int32 → Int32 → Int32 → Sx → Option (Int32 × Sx)) (x0 : Nat) (x2 : Int32) (x3 : Int32) (x4 : Int32) (x5 : Int32) (x6 : Int32) (x7 : Int32) (S : Sx) : Option (Int32 × Sx) :=
  if oc S x0 12 = true then (S.2.2.2.1 x0 8).bind fun a10 => if inb (3 : Int32) (al S a10) = true then if oc S x0 12 = true then (m205 x0 (x7 + (1 : Int32)) x6 x5 (S.2.1 a10 (3 : Int32).toNatClampNeg) S).bind fun q11 => k227 x0 x2 x3 x4 x5 x6 (x7 + (1 : Int32)) q11.1 q11.2 else none else none else none
set_option maxRecDepth 100000 in
theorem ob212_269 (d : Nat) (k201 : Nat → Int32 → Int32 → Int32 → Int32 → Int32 → Sx → Option (Int32 × Sx)) (hk201 : ∀ (x0 : Nat) (x2 : Int32) (x3 : Int32) (x4 : Int32) (x5 : Int32) (x6 : Int32) (S : Sx), OkF wI (fun f => rk px kx f (d + 6) 212 201 [some (.ref x0), none, some (.int x2), some (.int x3), some (.int x4), some (.int x5), some (.int x6), none, none] [] S) (k201 x0 x2 x3 x4 x5 x6 S)) (k227 : Nat → Int32 → Int32 → Int32 → Int32 → Int32 → Int32 → Int32 → Sx → Option (Int32 × Sx)) (hk227 : ∀ (x0 : Nat) (x2 : Int32) (x3 : Int32) (x4 : Int32) (x5 : Int32) (x6 : Int32) (x7 : Int32) (x8 : Int32) (S : Sx), OkF wI (fun f => rk px kx f (d + 6) 212 227 [some (.ref x0), none, some (.int x2), some (.int x3), some (.int x4), some (.int x5), some (.int x6), some (.int x7), some (.int x8)] [] S) (k227 x0 x2 x3 x4 x5 x6 x7 x8 S)) (x0 : Nat) (x2 : Int32) (x3 : Int32) (x4 : Int32) (x5 : Int32) (x6 : Int32) (x7 : Int32) (S : Sx) : OkF wI (fun f => rk px kx f (d + 6) 212 269 [some (.ref x0), none, some (.int x2), some (.int x3), some (.int x4), some (.int x5), some (.int x6), some (.int x7), none] [] S) (b212_269 k201 k227 x0 x2 x3 x4 x5 x6 x7 S) := by
  unfold b212_269
  refine OkF.eq 7 (Y := fun f => if oc S x0 12 = true then rk px kx f (d + 6) 212 283 [some (.ref x0), none, some (.int x2), some (.int x3), some (.int x4), some (.int x5), some (.int x6), some (.int (x7 + (1 : Int32))), none] (va_rf (S.2.2.2.1 x0 8) :: [.int x5, .int x6, .int (x7 + (1 : Int32)), .ref x0]) S else none) (fun f => rfl) ?_
  refine OkF.grd (fun _ => ?_)
  refine OkF.rf (fun a10 => ?_)
  refine OkF.eq 2 (Y := fun f => if inb (3 : Int32) (al S a10) = true then rk px kx f (d + 6) 212 285 [some (.ref x0), none, some (.int x2), some (.int x3), some (.int x4), some (.int x5), some (.int x6), some (.int (x7 + (1 : Int32))), none] [.int (S.2.1 a10 (3 : Int32).toNatClampNeg), .int x5, .int x6, .int (x7 + (1 : Int32)), .ref x0] S else none) (fun f => rfl) ?_
  refine OkF.grd (fun _ => ?_)
  refine OkF.eq 1 (Y := fun f => if oc S x0 12 = true then (rk px kx f (d + 5) 205 0 [some (.ref x0), some (.int (x7 + (1 : Int32))), some (.int x6), some (.int x5), some (.int (S.2.1 a10 (3 : Int32).toNatClampNeg)), none, none] [] S).bind (fun q => rk px kx f (d + 6) 212 288 [some (.ref x0), none, some (.int x2), some (.int x3), some (.int x4), some (.int x5), some (.int x6), some (.int (x7 + (1 : Int32))), none] (q.1.toList ++ []) q.2) else none) (fun f => rfl) ?_
  refine OkF.grd (fun _ => ?_)
  refine OkF.bind (w1 := wI) (om205 (d + 2) x0 (x7 + (1 : Int32)) x6 x5 (S.2.1 a10 (3 : Int32).toNatClampNeg) S) (fun q11 => ?_)
  refine OkF.eq 2 (Y := fun f => rk px kx f (d + 6) 212 227 [some (.ref x0), none, some (.int x2), some (.int x3), some (.int x4), some (.int x5), some (.int x6), some (.int (x7 + (1 : Int32))), some (.int q11.1)] [] q11.2) (fun f => rfl) ?_
  exact OkF.kl (ls1 := [some (.ref x0), none, some (.int x2), some (.int x3), some (.int x4), some (.int x5), some (.int x6), some (.int (x7 + (1 : Int32))), some (.int q11.1)]) (fun f => rfl) (hk227 x0 x2 x3 x4 x5 x6 (x7 + (1 : Int32)) q11.1 q11.2)
def b212_227 (k201 : Nat → Int32 → Int32 → Int32 → Int32 → Int32 → Sx → Option (Int32 × Sx)) (k227 : Nat → Int32 → Int32 → Int32 → Int32 → Int32 → Int32 → Int32 → Sx → Option (Int32 × Sx)) (x0 : Nat) (x2 : Int32) (x3 : Int32) (x4 : Int32) (x5 : Int32) (x6 : Int32) (x7 : Int32) (x8 : Int32) (S : Sx) : Option (Int32 × Sx) :=
  if x8 = (-9 : Int32) then b212_269 k201 k227 x0 x2 x3 x4 x5 x6 x7 S else if oc S x0 12 = true then (m206 x0 x7 S).bind fun q12 => if x3 < (x5 + q12.1) then b212_269 k201 k227 x0 x2 x3 x4 x5 x6 x7 q12.2 else if oc q12.2 x0 12 = true then (q12.2.2.2.2.1 x0 25).bind fun a13 => if oc q12.2 x0 12 = true then (m206 x0 x7 q12.2).bind fun q14 => if inb (x5 + q14.1) (al q14.2 a13) = true then (m180 (q14.2.2.1 a13 (x5 + q14.1).toNatClampNeg) x8 q14.2).bind fun q15 => if q15.1 = 0 then b212_269 k201 k227 x0 x2 x3 x4 x5 x6 x7 q15.2 else if oc q15.2 x0 12 = true then (q15.2.2.2.2.1 x0 1).bind fun a16 => if inb (((40 : Int32) * x2) + x4) (aw q15.2 1 a16) = true then lt (sI q15.2 a16 (((40 : Int32) * x2) + x4).toNatClampNeg x7) fun S17 => if oc S17 x0 12 = true then (m206 x0 x7 S17).bind fun q18 => k201 x0 x2 x3 (x4 + (1 : Int32)) (x5 + q18.1) x8 q18.2 else none else none else none else none else none else none else none
set_option maxRecDepth 100000 in
theorem ob212_227 (d : Nat) (k201 : Nat → Int32 → Int32 → Int32 → Int32 → Int32 → Sx → Option (Int32 × Sx)) (hk201 : ∀ (x0 : Nat) (x2 : Int32) (x3 : Int32) (x4 : Int32) (x5 : Int32) (x6 : Int32) (S : Sx), OkF wI (fun f => rk px kx f (d + 6) 212 201 [some (.ref x0), none, some (.int x2), some (.int x3), some (.int x4), some (.int x5), some (.int x6), none, none] [] S) (k201 x0 x2 x3 x4 x5 x6 S)) (k227 : Nat → Int32 → Int32 → Int32 → Int32 → Int32 → Int32 → Int32 → Sx → Option (Int32 × Sx)) (hk227 : ∀ (x0 : Nat) (x2 : Int32) (x3 : Int32) (x4 : Int32) (x5 : Int32) (x6 : Int32) (x7 : Int32) (x8 : Int32) (S : Sx), OkF wI (fun f => rk px kx f (d + 6) 212 227 [some (.ref x0), none, some (.int x2), some (.int x3), some (.int x4), some (.int x5), some (.int x6), some (.int x7), some (.int x8)] [] S) (k227 x0 x2 x3 x4 x5 x6 x7 x8 S)) (x0 : Nat) (x2 : Int32) (x3 : Int32) (x4 : Int32) (x5 : Int32) (x6 : Int32) (x7 : Int32) (x8 : Int32) (S : Sx) : OkF wI (fun f => rk px kx f (d + 6) 212 227 [some (.ref x0), none, some (.int x2), some (.int x3), some (.int x4), some (.int x5), some (.int x6), some (.int x7), some (.int x8)] [] S) (b212_227 k201 k227 x0 x2 x3 x4 x5 x6 x7 x8 S) := by
  unfold b212_227
  refine OkF.eq 3 (Y := fun f => if x8 = (-9 : Int32) then rk px kx f (d + 6) 212 269 [some (.ref x0), none, some (.int x2), some (.int x3), some (.int x4), some (.int x5), some (.int x6), some (.int x7), some (.int x8)] [] S else rk px kx f (d + 6) 212 234 [some (.ref x0), none, some (.int x2), some (.int x3), some (.int x4), some (.int x5), some (.int x6), some (.int x7), some (.int x8)] [] S) (fun f => rfl) ?_
  refine OkF.ite (fun _ => ?_) (fun _ => ?_)
  · exact OkF.kl (ls1 := [some (.ref x0), none, some (.int x2), some (.int x3), some (.int x4), some (.int x5), some (.int x6), some (.int x7), none]) (fun f => rfl) (ob212_269 d k201 hk201 k227 hk227 x0 x2 x3 x4 x5 x6 x7 S)
  · refine OkF.eq 4 (Y := fun f => if oc S x0 12 = true then (rk px kx f (d + 5) 206 0 [some (.ref x0), some (.int x7)] [] S).bind (fun q => rk px kx f (d + 6) 212 242 [some (.ref x0), none, some (.int x2), some (.int x3), some (.int x4), some (.int x5), some (.int x6), some (.int x7), some (.int x8)] (q.1.toList ++ [.int x5]) q.2) else none) (fun f => rfl) ?_
    refine OkF.grd (fun _ => ?_)
    refine OkF.bind (w1 := wI) (om206 (d + 4) x0 x7 S) (fun q12 => ?_)
    refine OkF.eq 3 (Y := fun f => if x3 < (x5 + q12.1) then rk px kx f (d + 6) 212 269 [some (.ref x0), none, some (.int x2), some (.int x3), some (.int x4), some (.int x5), some (.int x6), some (.int x7), some (.int x8)] [] q12.2 else rk px kx f (d + 6) 212 247 [some (.ref x0), none, some (.int x2), some (.int x3), some (.int x4), some (.int x5), some (.int x6), some (.int x7), some (.int x8)] [] q12.2) (fun f => rfl) ?_
    refine OkF.ite (fun _ => ?_) (fun _ => ?_)
    · exact OkF.kl (ls1 := [some (.ref x0), none, some (.int x2), some (.int x3), some (.int x4), some (.int x5), some (.int x6), some (.int x7), none]) (fun f => rfl) (ob212_269 d k201 hk201 k227 hk227 x0 x2 x3 x4 x5 x6 x7 q12.2)
    · refine OkF.eq 2 (Y := fun f => if oc q12.2 x0 12 = true then rk px kx f (d + 6) 212 251 [some (.ref x0), none, some (.int x2), some (.int x3), some (.int x4), some (.int x5), some (.int x6), some (.int x7), some (.int x8)] (va_rf (q12.2.2.2.2.1 x0 25) :: []) q12.2 else none) (fun f => rfl) ?_
      refine OkF.grd (fun _ => ?_)
      refine OkF.rf (fun a13 => ?_)
      refine OkF.eq 4 (Y := fun f => if oc q12.2 x0 12 = true then (rk px kx f (d + 5) 206 0 [some (.ref x0), some (.int x7)] [] q12.2).bind (fun q => rk px kx f (d + 6) 212 259 [some (.ref x0), none, some (.int x2), some (.int x3), some (.int x4), some (.int x5), some (.int x6), some (.int x7), some (.int x8)] (q.1.toList ++ [.int x5, .ref a13]) q.2) else none) (fun f => rfl) ?_
      refine OkF.grd (fun _ => ?_)
      refine OkF.bind (w1 := wI) (om206 (d + 4) x0 x7 q12.2) (fun q14 => ?_)
      refine OkF.eq 2 (Y := fun f => if inb (x5 + q14.1) (al q14.2 a13) = true then rk px kx f (d + 6) 212 261 [some (.ref x0), none, some (.int x2), some (.int x3), some (.int x4), some (.int x5), some (.int x6), some (.int x7), some (.int x8)] [.int (q14.2.2.1 a13 (x5 + q14.1).toNatClampNeg)] q14.2 else none) (fun f => rfl) ?_
      refine OkF.grd (fun _ => ?_)
      refine OkF.eq 2 (Y := fun f => (rk px kx f (d + 5) 180 0 [some (.int (q14.2.2.1 a13 (x5 + q14.1).toNatClampNeg)), some (.int x8)] [] q14.2).bind (fun q => rk px kx f (d + 6) 212 266 [some (.ref x0), none, some (.int x2), some (.int x3), some (.int x4), some (.int x5), some (.int x6), some (.int x7), some (.int x8)] (q.1.toList ++ []) q.2)) (fun f => rfl) ?_
      refine OkF.bind (w1 := wI) (om180 (d + 5) (q14.2.2.1 a13 (x5 + q14.1).toNatClampNeg) x8 q14.2) (fun q15 => ?_)
      refine OkF.eq 1 (Y := fun f => if q15.1 = 0 then rk px kx f (d + 6) 212 269 [some (.ref x0), none, some (.int x2), some (.int x3), some (.int x4), some (.int x5), some (.int x6), some (.int x7), some (.int x8)] [] q15.2 else rk px kx f (d + 6) 212 293 [some (.ref x0), none, some (.int x2), some (.int x3), some (.int x4), some (.int x5), some (.int x6), some (.int x7), some (.int x8)] [] q15.2) (fun f => rfl) ?_
      refine OkF.ite (fun _ => ?_) (fun _ => ?_)
      · exact OkF.kl (ls1 := [some (.ref x0), none, some (.int x2), some (.int x3), some (.int x4), some (.int x5), some (.int x6), some (.int x7), none]) (fun f => rfl) (ob212_269 d k201 hk201 k227 hk227 x0 x2 x3 x4 x5 x6 x7 q15.2)
      · refine OkF.eq 2 (Y := fun f => if oc q15.2 x0 12 = true then rk px kx f (d + 6) 212 297 [some (.ref x0), none, some (.int x2), some (.int x3), some (.int x4), some (.int x5), some (.int x6), some (.int x7), some (.int x8)] (va_rf (q15.2.2.2.2.1 x0 1) :: []) q15.2 else none) (fun f => rfl) ?_
        refine OkF.grd (fun _ => ?_)
        refine OkF.rf (fun a16 => ?_)
        refine OkF.eq 7 (Y := fun f => if inb (((40 : Int32) * x2) + x4) (aw q15.2 1 a16) = true then rk px kx f (d + 6) 212 307 [some (.ref x0), none, some (.int x2), some (.int x3), some (.int x4), some (.int x5), some (.int x6), some (.int x7), some (.int x8)] [] (sI q15.2 a16 (((40 : Int32) * x2) + x4).toNatClampNeg x7) else none) (fun f => rfl) ?_
        refine OkF.grd (fun _ => ?_)
        refine OkF.nm (fun S17 => ?_)
        refine OkF.eq 5 (Y := fun f => if oc S17 x0 12 = true then (rk px kx f (d + 5) 206 0 [some (.ref x0), some (.int x7)] [] S17).bind (fun q => rk px kx f (d + 6) 212 318 [some (.ref x0), none, some (.int x2), some (.int x3), some (.int (x4 + (1 : Int32))), some (.int x5), some (.int x6), some (.int x7), some (.int x8)] (q.1.toList ++ [.int x5]) q.2) else none) (fun f => rfl) ?_
        refine OkF.grd (fun _ => ?_)
        refine OkF.bind (w1 := wI) (om206 (d + 4) x0 x7 S17) (fun q18 => ?_)
        refine OkF.eq 5 (Y := fun f => rk px kx f (d + 6) 212 201 [some (.ref x0), none, some (.int x2), some (.int x3), some (.int (x4 + (1 : Int32))), some (.int (x5 + q18.1)), some (.int x8), some (.int x7), some (.int x8)] [] q18.2) (fun f => rfl) ?_
        exact OkF.kl (ls1 := [some (.ref x0), none, some (.int x2), some (.int x3), some (.int (x4 + (1 : Int32))), some (.int (x5 + q18.1)), some (.int x8), none, none]) (fun f => rfl) (hk201 x0 x2 x3 (x4 + (1 : Int32)) (x5 + q18.1) x8 q18.2)
def l212_227 (k201 : Nat → Int32 → Int32 → Int32 → Int32 → Int32 → Sx → Option (Int32 × Sx)) : Nat → Nat → Int32 → Int32 → Int32 → Int32 → Int32 → Int32 → Int32 → Sx → Option (Int32 × Sx)
  | 0 => fun _ _ _ _ _ _ _ _ _ => none
  | n + 1 => fun x0 x2 x3 x4 x5 x6 x7 x8 S => b212_227 k201 (l212_227 k201 n) x0 x2 x3 x4 x5 x6 x7 x8 S
set_option maxRecDepth 100000 in
theorem ol212_227 (d : Nat) (k201 : Nat → Int32 → Int32 → Int32 → Int32 → Int32 → Sx → Option (Int32 × Sx)) (hk201 : ∀ (x0 : Nat) (x2 : Int32) (x3 : Int32) (x4 : Int32) (x5 : Int32) (x6 : Int32) (S : Sx), OkF wI (fun f => rk px kx f (d + 6) 212 201 [some (.ref x0), none, some (.int x2), some (.int x3), some (.int x4), some (.int x5), some (.int x6), none, none] [] S) (k201 x0 x2 x3 x4 x5 x6 S)) : ∀ (n : Nat) (x0 : Nat) (x2 : Int32) (x3 : Int32) (x4 : Int32) (x5 : Int32) (x6 : Int32) (x7 : Int32) (x8 : Int32) (S : Sx), OkF wI (fun f => rk px kx f (d + 6) 212 227 [some (.ref x0), none, some (.int x2), some (.int x3), some (.int x4), some (.int x5), some (.int x6), some (.int x7), some (.int x8)] [] S) (l212_227 k201 n x0 x2 x3 x4 x5 x6 x7 x8 S) := by
  intro n
  induction n with
  | zero => intro x0 x2 x3 x4 x5 x6 x7 x8 S; exact OkF.no
  | succ n ih => intro x0 x2 x3 x4 x5 x6 x7 x8 S; exact ob212_227 d k201 hk201 (l212_227 k201 n) ih x0 x2 x3 x4 x5 x6 x7 x8 S
def b212_201 (k201 : Nat → Int32 → Int32 → Int32 → Int32 → Int32 → Sx → Option (Int32 × Sx)) (x0 : Nat) (x2 : Int32) (x3 : Int32) (x4 : Int32) (x5 : Int32) (x6 : Int32) (S : Sx) : Option (Int32 × Sx) :=
  if x3 ≤ x5 then if oc S x0 12 = true then (S.2.2.2.1 x0 0).bind fun a19 => if inb x2 (aw S 1 a19) = true then lt (sI S a19 x2.toNatClampNeg x4) fun S20 => some (x4, S20) else none else none else if oc S x0 12 = true then (S.2.2.2.1 x0 8).bind fun a21 => if inb (3 : Int32) (al S a21) = true then if oc S x0 12 = true then (m205 x0 (0 : Int32) x6 x5 (S.2.1 a21 (3 : Int32).toNatClampNeg) S).bind fun q22 => l212_227 k201 1000 x0 x2 x3 x4 x5 x6 (0 : Int32) q22.1 q22.2 else none else none else none
set_option maxRecDepth 100000 in
theorem ob212_201 (d : Nat) (k201 : Nat → Int32 → Int32 → Int32 → Int32 → Int32 → Sx → Option (Int32 × Sx)) (hk201 : ∀ (x0 : Nat) (x2 : Int32) (x3 : Int32) (x4 : Int32) (x5 : Int32) (x6 : Int32) (S : Sx), OkF wI (fun f => rk px kx f (d + 6) 212 201 [some (.ref x0), none, some (.int x2), some (.int x3), some (.int x4), some (.int x5), some (.int x6), none, none] [] S) (k201 x0 x2 x3 x4 x5 x6 S)) (x0 : Nat) (x2 : Int32) (x3 : Int32) (x4 : Int32) (x5 : Int32) (x6 : Int32) (S : Sx) : OkF wI (fun f => rk px kx f (d + 6) 212 201 [some (.ref x0), none, some (.int x2), some (.int x3), some (.int x4), some (.int x5), some (.int x6), none, none] [] S) (b212_201 k201 x0 x2 x3 x4 x5 x6 S) := by
  unfold b212_201
  refine OkF.eq 3 (Y := fun f => if x3 ≤ x5 then rk px kx f (d + 6) 212 328 [some (.ref x0), none, some (.int x2), some (.int x3), some (.int x4), some (.int x5), some (.int x6), none, none] [] S else rk px kx f (d + 6) 212 207 [some (.ref x0), none, some (.int x2), some (.int x3), some (.int x4), some (.int x5), some (.int x6), none, none] [] S) (fun f => rfl) ?_
  refine OkF.ite (fun _ => ?_) (fun _ => ?_)
  · refine OkF.eq 2 (Y := fun f => if oc S x0 12 = true then rk px kx f (d + 6) 212 332 [some (.ref x0), none, some (.int x2), some (.int x3), some (.int x4), some (.int x5), some (.int x6), none, none] (va_rf (S.2.2.2.1 x0 0) :: []) S else none) (fun f => rfl) ?_
    refine OkF.grd (fun _ => ?_)
    refine OkF.rf (fun a19 => ?_)
    refine OkF.eq 3 (Y := fun f => if inb x2 (aw S 1 a19) = true then rk px kx f (d + 6) 212 336 [some (.ref x0), none, some (.int x2), some (.int x3), some (.int x4), some (.int x5), some (.int x6), none, none] [] (sI S a19 x2.toNatClampNeg x4) else none) (fun f => rfl) ?_
    refine OkF.grd (fun _ => ?_)
    refine OkF.nm (fun S20 => ?_)
    exact OkF.ret 2 (fun f => rfl)
  · refine OkF.eq 8 (Y := fun f => if oc S x0 12 = true then rk px kx f (d + 6) 212 220 [some (.ref x0), none, some (.int x2), some (.int x3), some (.int x4), some (.int x5), some (.int x6), some (.int (0 : Int32)), none] (va_rf (S.2.2.2.1 x0 8) :: [.int x5, .int x6, .int (0 : Int32), .ref x0]) S else none) (fun f => rfl) ?_
    refine OkF.grd (fun _ => ?_)
    refine OkF.rf (fun a21 => ?_)
    refine OkF.eq 2 (Y := fun f => if inb (3 : Int32) (al S a21) = true then rk px kx f (d + 6) 212 222 [some (.ref x0), none, some (.int x2), some (.int x3), some (.int x4), some (.int x5), some (.int x6), some (.int (0 : Int32)), none] [.int (S.2.1 a21 (3 : Int32).toNatClampNeg), .int x5, .int x6, .int (0 : Int32), .ref x0] S else none) (fun f => rfl) ?_
    refine OkF.grd (fun _ => ?_)
    refine OkF.eq 1 (Y := fun f => if oc S x0 12 = true then (rk px kx f (d + 5) 205 0 [some (.ref x0), some (.int (0 : Int32)), some (.int x6), some (.int x5), some (.int (S.2.1 a21 (3 : Int32).toNatClampNeg)), none, none] [] S).bind (fun q => rk px kx f (d + 6) 212 225 [some (.ref x0), none, some (.int x2), some (.int x3), some (.int x4), some (.int x5), some (.int x6), some (.int (0 : Int32)), none] (q.1.toList ++ []) q.2) else none) (fun f => rfl) ?_
    refine OkF.grd (fun _ => ?_)
    refine OkF.bind (w1 := wI) (om205 (d + 2) x0 (0 : Int32) x6 x5 (S.2.1 a21 (3 : Int32).toNatClampNeg) S) (fun q22 => ?_)
    refine OkF.eq 1 (Y := fun f => rk px kx f (d + 6) 212 227 [some (.ref x0), none, some (.int x2), some (.int x3), some (.int x4), some (.int x5), some (.int x6), some (.int (0 : Int32)), some (.int q22.1)] [] q22.2) (fun f => rfl) ?_
    exact OkF.kl (ls1 := [some (.ref x0), none, some (.int x2), some (.int x3), some (.int x4), some (.int x5), some (.int x6), some (.int (0 : Int32)), some (.int q22.1)]) (fun f => rfl) (ol212_227 d k201 hk201 1000 x0 x2 x3 x4 x5 x6 (0 : Int32) q22.1 q22.2)
def l212_201 : Nat → Nat → Int32 → Int32 → Int32 → Int32 → Int32 → Sx → Option (Int32 × Sx)
  | 0 => fun _ _ _ _ _ _ _ => none
  | n + 1 => fun x0 x2 x3 x4 x5 x6 S => b212_201 (l212_201 n) x0 x2 x3 x4 x5 x6 S
set_option maxRecDepth 100000 in
theorem ol212_201 (d : Nat) : ∀ (n : Nat) (x0 : Nat) (x2 : Int32) (x3 : Int32) (x4 : Int32) (x5 : Int32) (x6 : Int32) (S : Sx), OkF wI (fun f => rk px kx f (d + 6) 212 201 [some (.ref x0), none, some (.int x2), some (.int x3), some (.int x4), some (.int x5), some (.int x6), none, none] [] S) (l212_201 n x0 x2 x3 x4 x5 x6 S) := by
  intro n
  induction n with
  | zero => intro x0 x2 x3 x4 x5 x6 S; exact OkF.no
  | succ n ih => intro x0 x2 x3 x4 x5 x6 S; exact ob212_201 d (l212_201 n) ih x0 x2 x3 x4 x5 x6 S
def b212_32 (k32 : Nat → Int32 → Int32 → Int32 → Int32 → Sx → Option (Int32 × Sx)) (x0 : Nat) (x1 : Int32) (x2 : Int32) (x3 : Int32) (x4 : Int32) (S : Sx) : Option (Int32 × Sx) :=
  if x4 < 0 then if oc S x0 12 = true then (S.2.2.2.1 x0 8).bind fun a23 => if inb (0 : Int32) (al S a23) = true then l212_201 1000 x0 x2 x3 (0 : Int32) (0 : Int32) (S.2.1 a23 (0 : Int32).toNatClampNeg) S else none else none else if oc S x0 12 = true then (S.2.2.2.1 x0 25).bind fun a24 => if x4 = x3 then b212_56 k32 x0 x1 x2 x3 x4 a24 x4 ((1 : Int32) <<< (x1 &&& 31)) S else b212_56 k32 x0 x1 x2 x3 x4 a24 x4 (0 : Int32) S else none
set_option maxRecDepth 100000 in
theorem ob212_32 (d : Nat) (k32 : Nat → Int32 → Int32 → Int32 → Int32 → Sx → Option (Int32 × Sx)) (hk32 : ∀ (x0 : Nat) (x1 : Int32) (x2 : Int32) (x3 : Int32) (x4 : Int32) (S : Sx), OkF wI (fun f => rk px kx f (d + 6) 212 32 [some (.ref x0), some (.int x1), some (.int x2), some (.int x3), some (.int x4), none, none, none, none] [] S) (k32 x0 x1 x2 x3 x4 S)) (x0 : Nat) (x1 : Int32) (x2 : Int32) (x3 : Int32) (x4 : Int32) (S : Sx) : OkF wI (fun f => rk px kx f (d + 6) 212 32 [some (.ref x0), some (.int x1), some (.int x2), some (.int x3), some (.int x4), none, none, none, none] [] S) (b212_32 k32 x0 x1 x2 x3 x4 S) := by
  unfold b212_32
  refine OkF.eq 2 (Y := fun f => if x4 < 0 then rk px kx f (d + 6) 212 187 [some (.ref x0), some (.int x1), some (.int x2), some (.int x3), some (.int x4), none, none, none, none] [] S else rk px kx f (d + 6) 212 37 [some (.ref x0), some (.int x1), some (.int x2), some (.int x3), some (.int x4), none, none, none, none] [] S) (fun f => rfl) ?_
  refine OkF.ite (fun _ => ?_) (fun _ => ?_)
  · refine OkF.eq 6 (Y := fun f => if oc S x0 12 = true then rk px kx f (d + 6) 212 197 [some (.ref x0), some (.int x1), some (.int x2), some (.int x3), some (.int (0 : Int32)), some (.int (0 : Int32)), none, none, none] (va_rf (S.2.2.2.1 x0 8) :: []) S else none) (fun f => rfl) ?_
    refine OkF.grd (fun _ => ?_)
    refine OkF.rf (fun a23 => ?_)
    refine OkF.eq 2 (Y := fun f => if inb (0 : Int32) (al S a23) = true then rk px kx f (d + 6) 212 199 [some (.ref x0), some (.int x1), some (.int x2), some (.int x3), some (.int (0 : Int32)), some (.int (0 : Int32)), none, none, none] [.int (S.2.1 a23 (0 : Int32).toNatClampNeg)] S else none) (fun f => rfl) ?_
    refine OkF.grd (fun _ => ?_)
    refine OkF.eq 1 (Y := fun f => rk px kx f (d + 6) 212 201 [some (.ref x0), some (.int x1), some (.int x2), some (.int x3), some (.int (0 : Int32)), some (.int (0 : Int32)), some (.int (S.2.1 a23 (0 : Int32).toNatClampNeg)), none, none] [] S) (fun f => rfl) ?_
    exact OkF.kl (ls1 := [some (.ref x0), none, some (.int x2), some (.int x3), some (.int (0 : Int32)), some (.int (0 : Int32)), some (.int (S.2.1 a23 (0 : Int32).toNatClampNeg)), none, none]) (fun f => rfl) (ol212_201 d 1000 x0 x2 x3 (0 : Int32) (0 : Int32) (S.2.1 a23 (0 : Int32).toNatClampNeg) S)
  · refine OkF.eq 2 (Y := fun f => if oc S x0 12 = true then rk px kx f (d + 6) 212 41 [some (.ref x0), some (.int x1), some (.int x2), some (.int x3), some (.int x4), none, none, none, none] (va_rf (S.2.2.2.1 x0 25) :: []) S else none) (fun f => rfl) ?_
    refine OkF.grd (fun _ => ?_)
    refine OkF.rf (fun a24 => ?_)
    refine OkF.eq 4 (Y := fun f => if x4 = x3 then rk px kx f (d + 6) 212 49 [some (.ref x0), some (.int x1), some (.int x2), some (.int x3), some (.int x4), none, none, none, none] [.int x4, .ref a24] S else rk px kx f (d + 6) 212 55 [some (.ref x0), some (.int x1), some (.int x2), some (.int x3), some (.int x4), none, none, none, none] [.int x4, .ref a24] S) (fun f => rfl) ?_
    refine OkF.ite (fun _ => ?_) (fun _ => ?_)
    · refine OkF.eq 4 (Y := fun f => rk px kx f (d + 6) 212 56 [some (.ref x0), some (.int x1), some (.int x2), some (.int x3), some (.int x4), none, none, none, none] [.int ((1 : Int32) <<< (x1 &&& 31)), .int x4, .ref a24] S) (fun f => rfl) ?_
      exact OkF.kl (ls1 := [some (.ref x0), some (.int x1), some (.int x2), some (.int x3), some (.int x4), none, none, none, none]) (fun f => rfl) (ob212_56 d k32 hk32 x0 x1 x2 x3 x4 a24 x4 ((1 : Int32) <<< (x1 &&& 31)) S)
    · refine OkF.eq 1 (Y := fun f => rk px kx f (d + 6) 212 56 [some (.ref x0), some (.int x1), some (.int x2), some (.int x3), some (.int x4), none, none, none, none] [.int (0 : Int32), .int x4, .ref a24] S) (fun f => rfl) ?_
      exact OkF.kl (ls1 := [some (.ref x0), some (.int x1), some (.int x2), some (.int x3), some (.int x4), none, none, none, none]) (fun f => rfl) (ob212_56 d k32 hk32 x0 x1 x2 x3 x4 a24 x4 (0 : Int32) S)
def l212_32 : Nat → Nat → Int32 → Int32 → Int32 → Int32 → Sx → Option (Int32 × Sx)
  | 0 => fun _ _ _ _ _ _ => none
  | n + 1 => fun x0 x1 x2 x3 x4 S => b212_32 (l212_32 n) x0 x1 x2 x3 x4 S
set_option maxRecDepth 100000 in
theorem ol212_32 (d : Nat) : ∀ (n : Nat) (x0 : Nat) (x1 : Int32) (x2 : Int32) (x3 : Int32) (x4 : Int32) (S : Sx), OkF wI (fun f => rk px kx f (d + 6) 212 32 [some (.ref x0), some (.int x1), some (.int x2), some (.int x3), some (.int x4), none, none, none, none] [] S) (l212_32 n x0 x1 x2 x3 x4 S) := by
  intro n
  induction n with
  | zero => intro x0 x1 x2 x3 x4 S; exact OkF.no
  | succ n ih => intro x0 x1 x2 x3 x4 S; exact ob212_32 d (l212_32 n) ih x0 x1 x2 x3 x4 S
def m212 (x0 : Nat) (x1 : Int32) (x2 : Int32) (S : Sx) : Option (Int32 × Sx) :=
  if oc S x0 12 = true then (m208 x0 x1 S).bind fun q25 => if q25.1 = 0 then some ((-1 : Int32), q25.2) else (m149 x2 q25.2).bind fun q26 => if q26.1 = 0 then some ((-1 : Int32), q26.2) else if oc q26.2 x0 12 = true then (q26.2.2.2.2.1 x0 8).bind fun a27 => if inb (3 : Int32) (al q26.2 a27) = true then if oc q26.2 x0 12 = true then (m209 x0 x1 (q26.2.2.1 a27 (3 : Int32).toNatClampNeg) q26.2).bind fun q28 => l212_32 1000 x0 x1 x2 q28.1 q28.1 q28.2 else none else none else none else none
set_option maxRecDepth 100000 in
theorem om212 (d : Nat) (x0 : Nat) (x1 : Int32) (x2 : Int32) (S : Sx) : OkF wI (fun f => rk px kx f (d + 6) 212 0 [some (.ref x0), some (.int x1), some (.int x2), none, none, none, none, none, none] [] S) (m212 x0 x1 x2 S) := by
  unfold m212
  refine OkF.eq 3 (Y := fun f => if oc S x0 12 = true then (rk px kx f (d + 5) 208 0 [some (.ref x0), some (.int x1)] [] S).bind (fun q => rk px kx f (d + 6) 212 5 [some (.ref x0), some (.int x1), some (.int x2), none, none, none, none, none, none] (q.1.toList ++ []) q.2) else none) (fun f => rfl) ?_
  refine OkF.grd (fun _ => ?_)
  refine OkF.bind (w1 := wI) (om208 (d + 4) x0 x1 S) (fun q25 => ?_)
  refine OkF.eq 1 (Y := fun f => if q25.1 = 0 then rk px kx f (d + 6) 212 15 [some (.ref x0), some (.int x1), some (.int x2), none, none, none, none, none, none] [] q25.2 else rk px kx f (d + 6) 212 8 [some (.ref x0), some (.int x1), some (.int x2), none, none, none, none, none, none] [] q25.2) (fun f => rfl) ?_
  refine OkF.ite (fun _ => ?_) (fun _ => ?_)
  · exact OkF.ret 2 (fun f => rfl)
  · refine OkF.eq 2 (Y := fun f => (rk px kx f (d + 5) 149 0 [some (.int x2)] [] q25.2).bind (fun q => rk px kx f (d + 6) 212 12 [some (.ref x0), some (.int x1), some (.int x2), none, none, none, none, none, none] (q.1.toList ++ []) q.2)) (fun f => rfl) ?_
    refine OkF.bind (w1 := wI) (om149 (d + 4) x2 q25.2) (fun q26 => ?_)
    refine OkF.eq 1 (Y := fun f => if q26.1 = 0 then rk px kx f (d + 6) 212 15 [some (.ref x0), some (.int x1), some (.int x2), none, none, none, none, none, none] [] q26.2 else rk px kx f (d + 6) 212 17 [some (.ref x0), some (.int x1), some (.int x2), none, none, none, none, none, none] [] q26.2) (fun f => rfl) ?_
    refine OkF.ite (fun _ => ?_) (fun _ => ?_)
    · exact OkF.ret 2 (fun f => rfl)
    · refine OkF.eq 4 (Y := fun f => if oc q26.2 x0 12 = true then rk px kx f (d + 6) 212 23 [some (.ref x0), some (.int x1), some (.int x2), none, none, none, none, none, none] (va_rf (q26.2.2.2.2.1 x0 8) :: [.int x1, .ref x0]) q26.2 else none) (fun f => rfl) ?_
      refine OkF.grd (fun _ => ?_)
      refine OkF.rf (fun a27 => ?_)
      refine OkF.eq 2 (Y := fun f => if inb (3 : Int32) (al q26.2 a27) = true then rk px kx f (d + 6) 212 25 [some (.ref x0), some (.int x1), some (.int x2), none, none, none, none, none, none] [.int (q26.2.2.1 a27 (3 : Int32).toNatClampNeg), .int x1, .ref x0] q26.2 else none) (fun f => rfl) ?_
      refine OkF.grd (fun _ => ?_)
      refine OkF.eq 1 (Y := fun f => if oc q26.2 x0 12 = true then (rk px kx f (d + 5) 209 0 [some (.ref x0), some (.int x1), some (.int (q26.2.2.1 a27 (3 : Int32).toNatClampNeg)), none] [] q26.2).bind (fun q => rk px kx f (d + 6) 212 28 [some (.ref x0), some (.int x1), some (.int x2), none, none, none, none, none, none] (q.1.toList ++ []) q.2) else none) (fun f => rfl) ?_
      refine OkF.grd (fun _ => ?_)
      refine OkF.bind (w1 := wI) (om209 (d + 0) x0 x1 (q26.2.2.1 a27 (3 : Int32).toNatClampNeg) q26.2) (fun q28 => ?_)
      refine OkF.eq 3 (Y := fun f => rk px kx f (d + 6) 212 32 [some (.ref x0), some (.int x1), some (.int x2), some (.int q28.1), some (.int q28.1), none, none, none, none] [] q28.2) (fun f => rfl) ?_
      exact OkF.kl (ls1 := [some (.ref x0), some (.int x1), some (.int x2), some (.int q28.1), some (.int q28.1), none, none, none, none]) (fun f => rfl) (ol212_32 d 1000 x0 x1 x2 q28.1 q28.1 q28.2)
