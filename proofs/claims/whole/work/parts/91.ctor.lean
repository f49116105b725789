/-! ===== both objects are made ===== -/
def dn (L : Nat) (xs : Nat → Int32) : List (Nat × Nat × Nat × Nat) → Sx
  | [] => S0x L xs
  | x :: o => if x.1 = 0 then nwS (dn L xs o) else if x.1 = 1 then sI (dn L xs o) x.2.1 x.2.2.1 0 else if x.1 = 2 then sI (dn L xs o) x.2.1 x.2.2.1 (-1) else if x.1 = 3 then sL (dn L xs o) x.2.1 x.2.2.1 (lN x.2.2.2) else sR (dn L xs o) x.2.1 x.2.2.1 (some x.2.2.2)
def nlk : List (Nat × Nat × Nat × Nat) → Nat
  | [] => 0
  | x :: o => bif Nat.beq x.1 0 then nlk o + 1 else nlk o
def rlk : List (Nat × Nat × Nat × Nat) → Nat → Nat → Option Nat
  | [], _, _ => none
  | x :: o, k, j => bif Nat.beq k x.2.1 then (bif Nat.beq x.1 0 then none else bif Nat.beq x.1 4 && Nat.beq j x.2.2.1 then some x.2.2.2 else rlk o k j) else rlk o k j
def ilk : List (Nat × Nat × Nat × Nat) → Nat → Nat → Nat
  | [], _, _ => 0
  | x :: o, k, j => bif Nat.beq k x.2.1 then (bif Nat.beq x.1 0 then 1 else bif Nat.beq x.1 1 && Nat.beq j x.2.2.1 then 1 else bif Nat.beq x.1 2 && Nat.beq j x.2.2.1 then 2 else ilk o k j) else ilk o k j
def glk : List (Nat × Nat × Nat × Nat) → Nat → Nat → Nat
  | [], _, _ => 0
  | x :: o, k, j => bif Nat.beq k x.2.1 then (bif Nat.beq x.1 0 then 0 else bif Nat.beq x.1 3 && Nat.beq j x.2.2.1 then x.2.2.2 else glk o k j) else glk o k j
def okO : List (Nat × Nat × Nat × Nat) → Bool
  | [] => true
  | x :: o => (Nat.ble x.1 4 && (Nat.blt x.2.1 98 && (Nat.blt x.2.2.1 28 && bif Nat.beq x.1 0 then Nat.beq x.2.1 (nlk o) else true))) && okO o
theorem okO_c {x : Nat × Nat × Nat × Nat} {o : List (Nat × Nat × Nat × Nat)} (h : okO (x :: o) = true) : x.1 ≤ 4 ∧ x.2.1 < 98 ∧ x.2.2.1 < 28 ∧ (x.1 = 0 → x.2.1 = nlk o) ∧ okO o = true := by
  have h1 : ((Nat.ble x.1 4 && (Nat.blt x.2.1 98 && (Nat.blt x.2.2.1 28 && bif Nat.beq x.1 0 then Nat.beq x.2.1 (nlk o) else true))) && okO o) = true := h
  rw [Bool.and_eq_true, Bool.and_eq_true, Bool.and_eq_true, Bool.and_eq_true] at h1
  obtain ⟨⟨a, b, c, d⟩, e⟩ := h1
  refine ⟨Nat.le_of_ble_eq_true a, Nat.le_of_ble_eq_true b, Nat.le_of_ble_eq_true c, fun z => ?_, e⟩
  rw [z] at d
  exact Nat.eq_of_beq_eq_true d
theorem bqT {a b : Nat} (h : a = b) : Nat.beq a b = true := by
  subst h
  exact Nat.beq_refl a
theorem bqF {a b : Nat} (h : ¬ a = b) : Nat.beq a b = false := by
  cases q : Nat.beq a b
  · rfl
  · exact absurd (Nat.eq_of_beq_eq_true q) h
theorem va2 {α : Type} (R : Nat → Nat → α) (k j : Nat) (v : α) (k' j' : Nat) : va_up R k (va_up (R k) j v) k' j' = if k' = k ∧ j' = j then v else R k' j' := by
  unfold va_up
  by_cases h : k' = k
  · subst h
    by_cases h2 : j' = j
    · simp [h2]
    · simp [h2]
  · simp [h]
theorem va1 {α : Type} (R : Nat → Nat → α) (k : Nat) (F : Nat → α) (k' j' : Nat) : va_up R k F k' j' = if k' = k then F j' else R k' j' := by
  unfold va_up
  by_cases h : k' = k
  · subst h; simp
  · simp [h]
theorem dn_n (L : Nat) (xs : Nat → Int32) : ∀ o, (dn L xs o).1 = nlk o
  | [] => rfl
  | x :: o => by
    have ih := dn_n L xs o
    unfold dn nlk
    by_cases h0 : x.1 = 0
    · rw [if_pos h0, bqT h0, cond_true]
      show (dn L xs o).1 + 1 = _
      rw [ih]
    rw [if_neg h0, bqF h0, cond_false]
    by_cases h1 : x.1 = 1
    · rw [if_pos h1]; exact ih
    rw [if_neg h1]
    by_cases h2 : x.1 = 2
    · rw [if_pos h2]; exact ih
    rw [if_neg h2]
    by_cases h3 : x.1 = 3
    · rw [if_pos h3]; exact ih
    rw [if_neg h3]; exact ih
theorem dn_l (L : Nat) (xs : Nat → Int32) : ∀ o, (dn L xs o).2.2.2.2 = L
  | [] => rfl
  | x :: o => by
    have ih := dn_l L xs o
    unfold dn
    by_cases h0 : x.1 = 0
    · rw [if_pos h0]; exact ih
    rw [if_neg h0]
    by_cases h1 : x.1 = 1
    · rw [if_pos h1]; exact ih
    rw [if_neg h1]
    by_cases h2 : x.1 = 2
    · rw [if_pos h2]; exact ih
    rw [if_neg h2]
    by_cases h3 : x.1 = 3
    · rw [if_pos h3]; exact ih
    rw [if_neg h3]; exact ih
theorem dn_r (L : Nat) (xs : Nat → Int32) (k j : Nat) : ∀ o, okO o = true → (dn L xs o).2.2.2.1 k j = rlk o k j
  | [], _ => rfl
  | x :: o, hk => by
    obtain ⟨h4, _, _, hn, hk'⟩ := okO_c hk
    have ih := dn_r L xs k j o hk'
    unfold dn rlk
    by_cases h0 : x.1 = 0
    · rw [if_pos h0, bqT h0, cond_true]
      show va_up (dn L xs o).2.2.2.1 (dn L xs o).1 (fun _ => none) k j = _
      rw [va1, dn_n, ih, ← hn h0]
      by_cases c : k = x.2.1
      · rw [if_pos c, bqT c, cond_true]
      · rw [if_neg c, bqF c, cond_false]
    rw [if_neg h0, bqF h0, cond_false]
    by_cases h1 : x.1 = 1
    · rw [if_pos h1, bqF (show ¬ x.1 = 4 by omega), Bool.false_and, cond_false, Bool.cond_self]; exact ih
    rw [if_neg h1]
    by_cases h2 : x.1 = 2
    · rw [if_pos h2, bqF (show ¬ x.1 = 4 by omega), Bool.false_and, cond_false, Bool.cond_self]; exact ih
    rw [if_neg h2]
    by_cases h3 : x.1 = 3
    · rw [if_pos h3, bqF (show ¬ x.1 = 4 by omega), Bool.false_and, cond_false, Bool.cond_self]; exact ih
    rw [if_neg h3, bqT (show x.1 = 4 by omega), Bool.true_and]
    show va_up (dn L xs o).2.2.2.1 x.2.1 (va_up ((dn L xs o).2.2.2.1 x.2.1) x.2.2.1 (some x.2.2.2)) k j = _
    rw [va2, ih]
    by_cases c : k = x.2.1
    · rw [bqT c, cond_true]
      by_cases c2 : j = x.2.2.1
      · rw [if_pos ⟨c, c2⟩, bqT c2, cond_true]
      · rw [if_neg (fun z => c2 z.2), bqF c2, cond_false]
    · rw [if_neg (fun z => c z.1), bqF c, cond_false]
theorem dn_i (L : Nat) (xs : Nat → Int32) (k j : Nat) : ∀ o, okO o = true → (dn L xs o).2.1 k j = if ilk o k j = 0 then (S0x L xs).2.1 k j else if ilk o k j = 1 then 0 else -1
  | [], _ => rfl
  | x :: o, hk => by
    obtain ⟨h4, _, _, hn, hk'⟩ := okO_c hk
    have ih := dn_i L xs k j o hk'
    unfold dn ilk
    by_cases h0 : x.1 = 0
    · rw [if_pos h0, bqT h0, cond_true]
      show va_up (dn L xs o).2.1 (dn L xs o).1 (fun _ => 0) k j = _
      rw [va1, dn_n, ih, ← hn h0]
      by_cases c : k = x.2.1
      · rw [if_pos c, bqT c, cond_true]; rfl
      · rw [if_neg c, bqF c, cond_false]
    rw [if_neg h0, bqF h0, cond_false]
    by_cases h1 : x.1 = 1
    · rw [if_pos h1, bqT h1, Bool.true_and, bqF (show ¬ x.1 = 2 by omega), Bool.false_and, cond_false]
      show va_up (dn L xs o).2.1 x.2.1 (upd ((dn L xs o).2.1 x.2.1) x.2.2.1 0) k j = _
      rw [w2_eq, w2_app, ih]
      by_cases c : k = x.2.1
      · rw [if_pos c, bqT c, cond_true]
        by_cases c2 : j = x.2.2.1
        · rw [if_pos c2, bqT c2, cond_true]; rfl
        · rw [if_neg c2, bqF c2, cond_false]
      · rw [if_neg c, bqF c, cond_false]
    rw [if_neg h1, bqF h1, Bool.false_and, cond_false]
    by_cases h2 : x.1 = 2
    · rw [if_pos h2, bqT h2, Bool.true_and]
      show va_up (dn L xs o).2.1 x.2.1 (upd ((dn L xs o).2.1 x.2.1) x.2.2.1 (-1)) k j = _
      rw [w2_eq, w2_app, ih]
      by_cases c : k = x.2.1
      · rw [if_pos c, bqT c, cond_true]
        by_cases c2 : j = x.2.2.1
        · rw [if_pos c2, bqT c2, cond_true]; rfl
        · rw [if_neg c2, bqF c2, cond_false]
      · rw [if_neg c, bqF c, cond_false]
    rw [if_neg h2, bqF h2, Bool.false_and, cond_false, Bool.cond_self]
    by_cases h3 : x.1 = 3
    · rw [if_pos h3]; exact ih
    rw [if_neg h3]; exact ih
theorem dn_g (L : Nat) (xs : Nat → Int32) (k j : Nat) : ∀ o, okO o = true → (dn L xs o).2.2.1 k j = lN (glk o k j)
  | [], _ => rfl
  | x :: o, hk => by
    obtain ⟨h4, _, _, hn, hk'⟩ := okO_c hk
    have ih := dn_g L xs k j o hk'
    unfold dn glk
    by_cases h0 : x.1 = 0
    · rw [if_pos h0, bqT h0, cond_true]
      show va_up (dn L xs o).2.2.1 (dn L xs o).1 (fun _ => 0) k j = _
      rw [va1, dn_n, ih, ← hn h0]
      by_cases c : k = x.2.1
      · rw [if_pos c, bqT c, cond_true]; rfl
      · rw [if_neg c, bqF c, cond_false]
    rw [if_neg h0, bqF h0, cond_false]
    by_cases h1 : x.1 = 1
    · rw [if_pos h1, bqF (show ¬ x.1 = 3 by omega), Bool.false_and, cond_false, Bool.cond_self]; exact ih
    rw [if_neg h1]
    by_cases h2 : x.1 = 2
    · rw [if_pos h2, bqF (show ¬ x.1 = 3 by omega), Bool.false_and, cond_false, Bool.cond_self]; exact ih
    rw [if_neg h2]
    by_cases h3 : x.1 = 3
    · rw [if_pos h3, bqT h3, Bool.true_and]
      show va_up (dn L xs o).2.2.1 x.2.1 (va_up ((dn L xs o).2.2.1 x.2.1) x.2.2.1 (lN x.2.2.2)) k j = _
      rw [va2, ih]
      by_cases c : k = x.2.1
      · rw [bqT c, cond_true]
        by_cases c2 : j = x.2.2.1
        · rw [if_pos ⟨c, c2⟩, bqT c2, cond_true]
        · rw [if_neg (fun z => c2 z.2), bqF c2, cond_false]
      · rw [if_neg (fun z => c z.1), bqF c, cond_false]
    rw [if_neg h3, bqF h3, Bool.false_and, cond_false, Bool.cond_self]; exact ih
theorem rlk_hi {k j : Nat} (h : 98 ≤ k ∨ 28 ≤ j) : ∀ o, okO o = true → rlk o k j = none
  | [], _ => rfl
  | x :: o, hk => by
    obtain ⟨_, h5, h6, _, hk'⟩ := okO_c hk
    have ih := rlk_hi h o hk'
    unfold rlk
    rw [ih]
    by_cases c : k = x.2.1
    · rw [bqF (show ¬ j = x.2.2.1 by omega), Bool.and_false, cond_false, Bool.cond_self, Bool.cond_self]
    · rw [bqF c, cond_false]
section STEPS
variable {β : Type} {L : Nat} {xs : Nat → Int32} {o : List (Nat × Nat × Nat × Nat)} {n n' : Nat} {I : Nat → Nat → Int32} {G : Nat → Nat → Int64} {R : Nat → Nat → Option Nat} {F : Sx → Option β} {r : Option β}
theorem t_if {c : Prop} [Decidable c] {A : Option Sx} (hc : c) (h : A.bind F = r) : (if c then A else none).bind F = r := by
  rw [if_pos hc]; exact h
theorem t_nw {X : Sx → Option Sx} (hn : n' = n + 1) (h : ((n, I, G, R, L) : Sx) = dn L xs o) (k : ∀ I' G' R', ((n', I', G', R', L) : Sx) = dn L xs ((0, n, 0, 0) :: o) → (X (n', I', G', R', L)).bind F = r) : (lt (nwS (n, I, G, R, L)) X).bind F = r := by
  subst hn
  refine k _ _ _ ?_
  show nwS (n, I, G, R, L) = nwS (dn L xs o)
  rw [h]
theorem t_sR {X : Sx → Option Sx} {k j v : Nat} (h : ((n, I, G, R, L) : Sx) = dn L xs o) (q : ∀ R', ((n, I, G, R', L) : Sx) = dn L xs ((4, k, j, v) :: o) → (X (n, I, G, R', L)).bind F = r) : (lt (sR (n, I, G, R, L) k j (some v)) X).bind F = r := by
  refine q _ ?_
  show sR (n, I, G, R, L) k j (some v) = sR (dn L xs o) k j (some v)
  rw [h]
theorem t_s0 {X : Sx → Option Sx} {k j : Nat} (h : ((n, I, G, R, L) : Sx) = dn L xs o) (q : ∀ I', ((n, I', G, R, L) : Sx) = dn L xs ((1, k, j, 0) :: o) → (X (n, I', G, R, L)).bind F = r) : (lt (sI (n, I, G, R, L) k j 0) X).bind F = r := by
  refine q _ ?_
  show sI (n, I, G, R, L) k j 0 = sI (dn L xs o) k j 0
  rw [h]
theorem t_s1 {X : Sx → Option Sx} {k j : Nat} (h : ((n, I, G, R, L) : Sx) = dn L xs o) (q : ∀ I', ((n, I', G, R, L) : Sx) = dn L xs ((2, k, j, 0) :: o) → (X (n, I', G, R, L)).bind F = r) : (lt (sI (n, I, G, R, L) k j (-1)) X).bind F = r := by
  refine q _ ?_
  show sI (n, I, G, R, L) k j (-1) = sI (dn L xs o) k j (-1)
  rw [h]
theorem t_sL {X : Sx → Option Sx} {k j v : Nat} (h : ((n, I, G, R, L) : Sx) = dn L xs o) (q : ∀ G', ((n, I, G', R, L) : Sx) = dn L xs ((3, k, j, v) :: o) → (X (n, I, G', R, L)).bind F = r) : (lt (sL (n, I, G, R, L) k j (lN v)) X).bind F = r := by
  refine q _ ?_
  show sL (n, I, G, R, L) k j (lN v) = sL (dn L xs o) k j (lN v)
  rw [h]
theorem t_rf {X : Nat → Option Sx} {k j a : Nat} (h : ((n, I, G, R, L) : Sx) = dn L xs o) (ho : okO o = true) (hr : rlk o k j = some a) (q : (X a).bind F = r) : ((((n, I, G, R, L) : Sx).2.2.2.1 k j).bind X).bind F = r := by
  rw [h, dn_r L xs k j o ho, hr]
  exact q
theorem t_bb {α : Type} {A : Option α} {Y : α → Option Sx} (h : A.bind (fun q => (Y q).bind F) = r) : (A.bind Y).bind F = r := by
  rw [Option.bind_assoc]
  exact h
theorem t_12 {x : Int32} {S : Sx} {Y : Int32 × Sx → Option Sx} (hx : (0 : Int32) < x) (h : (Y (x, S)).bind F = r) : ((m12 0 x S).bind Y).bind F = r := by
  unfold m12
  rw [if_pos hx]
  exact h
theorem t_m1 {k : Nat} {S : Sx} {Y : Sx → Option Sx} (h : (Y S).bind F = r) : ((m1 k S).bind Y).bind F = r := h
theorem t_m2 {k : Nat} {S : Sx} {Y : Sx → Option Sx} (h : (Y S).bind F = r) : ((m2 k S).bind Y).bind F = r := h
theorem t_m3 {k : Nat} {S : Sx} {Y : Sx → Option Sx} (h : (Y S).bind F = r) : ((m3 k S).bind Y).bind F = r := h
theorem t_m4 {k : Nat} {S : Sx} {Y : Sx → Option Sx} (h : (Y S).bind F = r) : ((m4 k S).bind Y).bind F = r := h
theorem t_m5 {k : Nat} {S : Sx} {Y : Sx → Option Sx} (h : (Y S).bind F = r) : ((m5 k S).bind Y).bind F = r := h
theorem t_m6 {k : Nat} {S : Sx} {Y : Sx → Option Sx} (h : (Y S).bind F = r) : ((m6 k S).bind Y).bind F = r := h
end STEPS
def oLa : List (Nat × Nat × Nat × Nat) := (3, 0, 14, 1) :: (3, 0, 13, 0) :: (1, 0, 12, 0) :: (1, 0, 11, 0) :: (4, 0, 10, 36) :: (0, 36, 0, 0) :: (4, 0, 9, 35) :: (0, 35, 0, 0) :: (4, 0, 8, 31) :: (4, 31, 2, 34) :: (0, 34, 0, 0) :: (4, 31, 1, 33) :: (0, 33, 0, 0) :: (4, 31, 0, 32) :: (0, 32, 0, 0) :: (0, 31, 0, 0) :: (4, 0, 7, 28) :: (4, 28, 1, 30) :: (0, 30, 0, 0) :: (4, 28, 0, 29) :: (0, 29, 0, 0) :: (0, 28, 0, 0) :: (4, 0, 6, 27) :: (1, 27, 0, 0) :: (0, 27, 0, 0) :: (4, 0, 5, 26) :: (0, 26, 0, 0) :: (4, 0, 4, 18) :: (4, 18, 0, 3) :: (1, 18, 15, 0) :: (1, 18, 14, 0) :: (1, 18, 13, 0) :: (1, 18, 12, 0) :: (1, 18, 11, 0) :: (1, 18, 10, 0) :: (1, 18, 9, 0) :: (1, 18, 8, 0) :: (4, 18, 7, 25) :: (0, 25, 0, 0) :: (4, 18, 6, 24) :: (0, 24, 0, 0) :: (4, 18, 5, 23) :: (0, 23, 0, 0) :: (4, 18, 4, 22) :: (0, 22, 0, 0) :: (4, 18, 3, 21) :: (0, 21, 0, 0) :: (4, 18, 2, 20) :: (0, 20, 0, 0) :: (4, 18, 1, 19) :: (0, 19, 0, 0) :: (0, 18, 0, 0) :: (4, 0, 3, 10) :: (4, 10, 0, 3) :: (1, 10, 15, 0) :: (1, 10, 14, 0) :: (1, 10, 13, 0) :: (1, 10, 12, 0) :: (1, 10, 11, 0) :: (1, 10, 10, 0) :: (1, 10, 9, 0) :: (1, 10, 8, 0) :: (4, 10, 7, 17) :: (0, 17, 0, 0) :: (4, 10, 6, 16) :: (0, 16, 0, 0) :: (4, 10, 5, 15) :: (0, 15, 0, 0) :: (4, 10, 4, 14) :: (0, 14, 0, 0) :: (4, 10, 3, 13) :: (0, 13, 0, 0) :: (4, 10, 2, 12) :: (0, 12, 0, 0) :: (4, 10, 1, 11) :: (0, 11, 0, 0) :: (0, 10, 0, 0) :: (4, 0, 2, 3) :: (4, 3, 5, 9) :: (0, 9, 0, 0) :: (4, 3, 4, 8) :: (0, 8, 0, 0) :: (4, 3, 3, 7) :: (0, 7, 0, 0) :: (4, 3, 2, 6) :: (0, 6, 0, 0) :: (4, 3, 1, 5) :: (0, 5, 0, 0) :: (4, 3, 0, 4) :: (0, 4, 0, 0) :: (0, 3, 0, 0) :: (4, 0, 1, 2) :: (0, 2, 0, 0) :: (4, 0, 0, 1) :: (0, 1, 0, 0) :: [(0, 0, 0, 0)]
def oLb : List (Nat × Nat × Nat × Nat) := (4, 1, 5, 47) :: (4, 47, 0, 48) :: (0, 48, 0, 0) :: (2, 47, 1, 0) :: (0, 47, 0, 0) :: (4, 1, 4, 45) :: (4, 45, 0, 46) :: (0, 46, 0, 0) :: (2, 45, 1, 0) :: (0, 45, 0, 0) :: (4, 1, 3, 43) :: (4, 43, 0, 44) :: (0, 44, 0, 0) :: (2, 43, 1, 0) :: (0, 43, 0, 0) :: (4, 1, 2, 41) :: (4, 41, 0, 42) :: (0, 42, 0, 0) :: (2, 41, 1, 0) :: (0, 41, 0, 0) :: (4, 1, 1, 39) :: (4, 39, 0, 40) :: (0, 40, 0, 0) :: (2, 39, 1, 0) :: (0, 39, 0, 0) :: (4, 1, 0, 37) :: (4, 37, 0, 38) :: (0, 38, 0, 0) :: (2, 37, 1, 0) :: (0, 37, 0, 0) :: oLa
def oLc : List (Nat × Nat × Nat × Nat) := (4, 2, 3, 55) :: (4, 55, 0, 56) :: (0, 56, 0, 0) :: (2, 55, 1, 0) :: (0, 55, 0, 0) :: (4, 2, 2, 53) :: (4, 53, 0, 54) :: (0, 54, 0, 0) :: (2, 53, 1, 0) :: (0, 53, 0, 0) :: (4, 2, 1, 51) :: (4, 51, 0, 52) :: (0, 52, 0, 0) :: (2, 51, 1, 0) :: (0, 51, 0, 0) :: (4, 2, 0, 49) :: (4, 49, 0, 50) :: (0, 50, 0, 0) :: (2, 49, 1, 0) :: (0, 49, 0, 0) :: oLb
def oL0 : List (Nat × Nat × Nat × Nat) := (4, 26, 2, 73) :: (4, 73, 0, 3) :: (1, 73, 15, 0) :: (1, 73, 14, 0) :: (1, 73, 13, 0) :: (1, 73, 12, 0) :: (1, 73, 11, 0) :: (1, 73, 10, 0) :: (1, 73, 9, 0) :: (1, 73, 8, 0) :: (4, 73, 7, 80) :: (0, 80, 0, 0) :: (4, 73, 6, 79) :: (0, 79, 0, 0) :: (4, 73, 5, 78) :: (0, 78, 0, 0) :: (4, 73, 4, 77) :: (0, 77, 0, 0) :: (4, 73, 3, 76) :: (0, 76, 0, 0) :: (4, 73, 2, 75) :: (0, 75, 0, 0) :: (4, 73, 1, 74) :: (0, 74, 0, 0) :: (0, 73, 0, 0) :: (4, 26, 1, 65) :: (4, 65, 0, 3) :: (1, 65, 15, 0) :: (1, 65, 14, 0) :: (1, 65, 13, 0) :: (1, 65, 12, 0) :: (1, 65, 11, 0) :: (1, 65, 10, 0) :: (1, 65, 9, 0) :: (1, 65, 8, 0) :: (4, 65, 7, 72) :: (0, 72, 0, 0) :: (4, 65, 6, 71) :: (0, 71, 0, 0) :: (4, 65, 5, 70) :: (0, 70, 0, 0) :: (4, 65, 4, 69) :: (0, 69, 0, 0) :: (4, 65, 3, 68) :: (0, 68, 0, 0) :: (4, 65, 2, 67) :: (0, 67, 0, 0) :: (4, 65, 1, 66) :: (0, 66, 0, 0) :: (0, 65, 0, 0) :: (4, 26, 0, 57) :: (4, 57, 0, 3) :: (1, 57, 15, 0) :: (1, 57, 14, 0) :: (1, 57, 13, 0) :: (1, 57, 12, 0) :: (1, 57, 11, 0) :: (1, 57, 10, 0) :: (1, 57, 9, 0) :: (1, 57, 8, 0) :: (4, 57, 7, 64) :: (0, 64, 0, 0) :: (4, 57, 6, 63) :: (0, 63, 0, 0) :: (4, 57, 5, 62) :: (0, 62, 0, 0) :: (4, 57, 4, 61) :: (0, 61, 0, 0) :: (4, 57, 3, 60) :: (0, 60, 0, 0) :: (4, 57, 2, 59) :: (0, 59, 0, 0) :: (4, 57, 1, 58) :: (0, 58, 0, 0) :: (0, 57, 0, 0) :: oLc
def oLd : List (Nat × Nat × Nat × Nat) := (4, 81, 27, 97) :: (0, 97, 0, 0) :: (4, 81, 26, 96) :: (0, 96, 0, 0) :: (4, 81, 25, 95) :: (0, 95, 0, 0) :: (4, 81, 24, 94) :: (0, 94, 0, 0) :: (4, 81, 22, 93) :: (0, 93, 0, 0) :: (4, 81, 17, 92) :: (0, 92, 0, 0) :: (3, 81, 15, 1) :: (4, 81, 12, 91) :: (0, 91, 0, 0) :: (4, 81, 11, 90) :: (0, 90, 0, 0) :: (4, 81, 10, 89) :: (0, 89, 0, 0) :: (4, 81, 8, 88) :: (0, 88, 0, 0) :: (4, 81, 7, 87) :: (0, 87, 0, 0) :: (4, 81, 6, 86) :: (0, 86, 0, 0) :: (4, 81, 3, 85) :: (0, 85, 0, 0) :: (4, 81, 2, 84) :: (0, 84, 0, 0) :: (4, 81, 1, 83) :: (0, 83, 0, 0) :: (4, 81, 0, 82) :: (0, 82, 0, 0) :: (0, 81, 0, 0) :: oL0
def oLe : List (Nat × Nat × Nat × Nat) := (2, 82, 5, 0) :: (2, 82, 4, 0) :: (2, 82, 3, 0) :: (2, 82, 2, 0) :: (2, 82, 1, 0) :: (2, 82, 0, 0) :: oLd
def oL1 : List (Nat × Nat × Nat × Nat) := (2, 84, 3, 0) :: (2, 84, 2, 0) :: (2, 84, 1, 0) :: (2, 84, 0, 0) :: oLe
theorem k7_10 {β : Type} {L : Nat} {xs : Nat → Int32} {o : List (Nat × Nat × Nat × Nat)} {I : Nat → Nat → Int32} {G : Nat → Nat → Int64} {R : Nat → Nat → Option Nat} {F : Sx → Option β} {r : Option β} (h : ((11, I, G, R, L) : Sx) = dn L xs o) (k : ∀ I G R, ((18, I, G, R, L) : Sx) = dn L xs ((4, 10, 0, 3) :: (1, 10, 15, 0) :: (1, 10, 14, 0) :: (1, 10, 13, 0) :: (1, 10, 12, 0) :: (1, 10, 11, 0) :: (1, 10, 10, 0) :: (1, 10, 9, 0) :: (1, 10, 8, 0) :: (4, 10, 7, 17) :: (0, 17, 0, 0) :: (4, 10, 6, 16) :: (0, 16, 0, 0) :: (4, 10, 5, 15) :: (0, 15, 0, 0) :: (4, 10, 4, 14) :: (0, 14, 0, 0) :: (4, 10, 3, 13) :: (0, 13, 0, 0) :: (4, 10, 2, 12) :: (0, 12, 0, 0) :: (4, 10, 1, 11) :: (0, 11, 0, 0) :: o) → F (18, I, G, R, L) = r) : (m7 10 3 (11, I, G, R, L)).bind F = r := by
  unfold m7
  refine t_if ?_ ?_
  · rfl
  refine t_nw (n := 11) (n' := 12) rfl h (fun I G R h => ?_)
  refine t_if ?_ ?_
  · rfl
  refine t_sR (k := 10) (j := 1) (v := 11) h (fun R h => ?_)
  refine t_if ?_ ?_
  · rfl
  refine t_nw (n := 12) (n' := 13) rfl h (fun I G R h => ?_)
  refine t_if ?_ ?_
  · rfl
  refine t_sR (k := 10) (j := 2) (v := 12) h (fun R h => ?_)
  refine t_if ?_ ?_
  · rfl
  refine t_nw (n := 13) (n' := 14) rfl h (fun I G R h => ?_)
  refine t_if ?_ ?_
  · rfl
  refine t_sR (k := 10) (j := 3) (v := 13) h (fun R h => ?_)
  refine t_if ?_ ?_
  · rfl
  refine t_nw (n := 14) (n' := 15) rfl h (fun I G R h => ?_)
  refine t_if ?_ ?_
  · rfl
  refine t_sR (k := 10) (j := 4) (v := 14) h (fun R h => ?_)
  refine t_if ?_ ?_
  · rfl
  refine t_nw (n := 15) (n' := 16) rfl h (fun I G R h => ?_)
  refine t_if ?_ ?_
  · rfl
  refine t_sR (k := 10) (j := 5) (v := 15) h (fun R h => ?_)
  refine t_if ?_ ?_
  · rfl
  refine t_nw (n := 16) (n' := 17) rfl h (fun I G R h => ?_)
  refine t_if ?_ ?_
  · rfl
  refine t_sR (k := 10) (j := 6) (v := 16) h (fun R h => ?_)
  refine t_if ?_ ?_
  · rfl
  refine t_nw (n := 17) (n' := 18) rfl h (fun I G R h => ?_)
  refine t_if ?_ ?_
  · rfl
  refine t_sR (k := 10) (j := 7) (v := 17) h (fun R h => ?_)
  refine t_if ?_ ?_
  · rfl
  refine t_s0 (k := 10) (j := 8) h (fun I h => ?_)
  refine t_if ?_ ?_
  · rfl
  refine t_s0 (k := 10) (j := 9) h (fun I h => ?_)
  refine t_if ?_ ?_
  · rfl
  refine t_s0 (k := 10) (j := 10) h (fun I h => ?_)
  refine t_if ?_ ?_
  · rfl
  refine t_s0 (k := 10) (j := 11) h (fun I h => ?_)
  refine t_if ?_ ?_
  · rfl
  refine t_s0 (k := 10) (j := 12) h (fun I h => ?_)
  refine t_if ?_ ?_
  · rfl
  refine t_s0 (k := 10) (j := 13) h (fun I h => ?_)
  refine t_if ?_ ?_
  · rfl
  refine t_s0 (k := 10) (j := 14) h (fun I h => ?_)
  refine t_if ?_ ?_
  · rfl
  refine t_s0 (k := 10) (j := 15) h (fun I h => ?_)
  refine t_if ?_ ?_
  · rfl
  refine t_sR (k := 10) (j := 0) (v := 3) h (fun R h => ?_)
  exact k _ _ _ h
theorem k7_18 {β : Type} {L : Nat} {xs : Nat → Int32} {o : List (Nat × Nat × Nat × Nat)} {I : Nat → Nat → Int32} {G : Nat → Nat → Int64} {R : Nat → Nat → Option Nat} {F : Sx → Option β} {r : Option β} (h : ((19, I, G, R, L) : Sx) = dn L xs o) (k : ∀ I G R, ((26, I, G, R, L) : Sx) = dn L xs ((4, 18, 0, 3) :: (1, 18, 15, 0) :: (1, 18, 14, 0) :: (1, 18, 13, 0) :: (1, 18, 12, 0) :: (1, 18, 11, 0) :: (1, 18, 10, 0) :: (1, 18, 9, 0) :: (1, 18, 8, 0) :: (4, 18, 7, 25) :: (0, 25, 0, 0) :: (4, 18, 6, 24) :: (0, 24, 0, 0) :: (4, 18, 5, 23) :: (0, 23, 0, 0) :: (4, 18, 4, 22) :: (0, 22, 0, 0) :: (4, 18, 3, 21) :: (0, 21, 0, 0) :: (4, 18, 2, 20) :: (0, 20, 0, 0) :: (4, 18, 1, 19) :: (0, 19, 0, 0) :: o) → F (26, I, G, R, L) = r) : (m7 18 3 (19, I, G, R, L)).bind F = r := by
  unfold m7
  refine t_if ?_ ?_
  · rfl
  refine t_nw (n := 19) (n' := 20) rfl h (fun I G R h => ?_)
  refine t_if ?_ ?_
  · rfl
  refine t_sR (k := 18) (j := 1) (v := 19) h (fun R h => ?_)
  refine t_if ?_ ?_
  · rfl
  refine t_nw (n := 20) (n' := 21) rfl h (fun I G R h => ?_)
  refine t_if ?_ ?_
  · rfl
  refine t_sR (k := 18) (j := 2) (v := 20) h (fun R h => ?_)
  refine t_if ?_ ?_
  · rfl
  refine t_nw (n := 21) (n' := 22) rfl h (fun I G R h => ?_)
  refine t_if ?_ ?_
  · rfl
  refine t_sR (k := 18) (j := 3) (v := 21) h (fun R h => ?_)
  refine t_if ?_ ?_
  · rfl
  refine t_nw (n := 22) (n' := 23) rfl h (fun I G R h => ?_)
  refine t_if ?_ ?_
  · rfl
  refine t_sR (k := 18) (j := 4) (v := 22) h (fun R h => ?_)
  refine t_if ?_ ?_
  · rfl
  refine t_nw (n := 23) (n' := 24) rfl h (fun I G R h => ?_)
  refine t_if ?_ ?_
  · rfl
  refine t_sR (k := 18) (j := 5) (v := 23) h (fun R h => ?_)
  refine t_if ?_ ?_
  · rfl
  refine t_nw (n := 24) (n' := 25) rfl h (fun I G R h => ?_)
  refine t_if ?_ ?_
  · rfl
  refine t_sR (k := 18) (j := 6) (v := 24) h (fun R h => ?_)
  refine t_if ?_ ?_
  · rfl
  refine t_nw (n := 25) (n' := 26) rfl h (fun I G R h => ?_)
  refine t_if ?_ ?_
  · rfl
  refine t_sR (k := 18) (j := 7) (v := 25) h (fun R h => ?_)
  refine t_if ?_ ?_
  · rfl
  refine t_s0 (k := 18) (j := 8) h (fun I h => ?_)
  refine t_if ?_ ?_
  · rfl
  refine t_s0 (k := 18) (j := 9) h (fun I h => ?_)
  refine t_if ?_ ?_
  · rfl
  refine t_s0 (k := 18) (j := 10) h (fun I h => ?_)
  refine t_if ?_ ?_
  · rfl
  refine t_s0 (k := 18) (j := 11) h (fun I h => ?_)
  refine t_if ?_ ?_
  · rfl
  refine t_s0 (k := 18) (j := 12) h (fun I h => ?_)
  refine t_if ?_ ?_
  · rfl
  refine t_s0 (k := 18) (j := 13) h (fun I h => ?_)
  refine t_if ?_ ?_
  · rfl
  refine t_s0 (k := 18) (j := 14) h (fun I h => ?_)
  refine t_if ?_ ?_
  · rfl
  refine t_s0 (k := 18) (j := 15) h (fun I h => ?_)
  refine t_if ?_ ?_
  · rfl
  refine t_sR (k := 18) (j := 0) (v := 3) h (fun R h => ?_)
  exact k _ _ _ h
theorem k8_27 {β : Type} {L : Nat} {xs : Nat → Int32} {o : List (Nat × Nat × Nat × Nat)} {I : Nat → Nat → Int32} {G : Nat → Nat → Int64} {R : Nat → Nat → Option Nat} {F : Sx → Option β} {r : Option β} (h : ((28, I, G, R, L) : Sx) = dn L xs o) (k : ∀ I G R, ((28, I, G, R, L) : Sx) = dn L xs ((1, 27, 0, 0) :: o) → F (28, I, G, R, L) = r) : (m8 27 (28, I, G, R, L)).bind F = r := by
  unfold m8
  refine t_if ?_ ?_
  · rfl
  refine t_s0 (k := 27) (j := 0) h (fun I h => ?_)
  exact k _ _ _ h
theorem k9_28 {β : Type} {L : Nat} {xs : Nat → Int32} {o : List (Nat × Nat × Nat × Nat)} {I : Nat → Nat → Int32} {G : Nat → Nat → Int64} {R : Nat → Nat → Option Nat} {F : Sx → Option β} {r : Option β} (h : ((29, I, G, R, L) : Sx) = dn L xs o) (k : ∀ I G R, ((31, I, G, R, L) : Sx) = dn L xs ((4, 28, 1, 30) :: (0, 30, 0, 0) :: (4, 28, 0, 29) :: (0, 29, 0, 0) :: o) → F (31, I, G, R, L) = r) : (m9 28 (29, I, G, R, L)).bind F = r := by
  unfold m9
  refine t_if ?_ ?_
  · rfl
  refine t_nw (n := 29) (n' := 30) rfl h (fun I G R h => ?_)
  refine t_if ?_ ?_
  · rfl
  refine t_sR (k := 28) (j := 0) (v := 29) h (fun R h => ?_)
  refine t_if ?_ ?_
  · rfl
  refine t_nw (n := 30) (n' := 31) rfl h (fun I G R h => ?_)
  refine t_if ?_ ?_
  · rfl
  refine t_sR (k := 28) (j := 1) (v := 30) h (fun R h => ?_)
  exact k _ _ _ h
theorem k10_31 {β : Type} {L : Nat} {xs : Nat → Int32} {o : List (Nat × Nat × Nat × Nat)} {I : Nat → Nat → Int32} {G : Nat → Nat → Int64} {R : Nat → Nat → Option Nat} {F : Sx → Option β} {r : Option β} (h : ((32, I, G, R, L) : Sx) = dn L xs o) (k : ∀ I G R, ((35, I, G, R, L) : Sx) = dn L xs ((4, 31, 2, 34) :: (0, 34, 0, 0) :: (4, 31, 1, 33) :: (0, 33, 0, 0) :: (4, 31, 0, 32) :: (0, 32, 0, 0) :: o) → F (35, I, G, R, L) = r) : (m10 31 (32, I, G, R, L)).bind F = r := by
  unfold m10
  refine t_if ?_ ?_
  · rfl
  refine t_nw (n := 32) (n' := 33) rfl h (fun I G R h => ?_)
  refine t_if ?_ ?_
  · rfl
  refine t_sR (k := 31) (j := 0) (v := 32) h (fun R h => ?_)
  refine t_if ?_ ?_
  · rfl
  refine t_nw (n := 33) (n' := 34) rfl h (fun I G R h => ?_)
  refine t_if ?_ ?_
  · rfl
  refine t_sR (k := 31) (j := 1) (v := 33) h (fun R h => ?_)
  refine t_if ?_ ?_
  · rfl
  refine t_nw (n := 34) (n' := 35) rfl h (fun I G R h => ?_)
  refine t_if ?_ ?_
  · rfl
  refine t_sR (k := 31) (j := 2) (v := 34) h (fun R h => ?_)
  exact k _ _ _ h
theorem k11_37 {β : Type} {L : Nat} {xs : Nat → Int32} {o : List (Nat × Nat × Nat × Nat)} {I : Nat → Nat → Int32} {G : Nat → Nat → Int64} {R : Nat → Nat → Option Nat} {F : Sx → Option β} {r : Option β} (h : ((38, I, G, R, L) : Sx) = dn L xs o) (k : ∀ I G R, ((39, I, G, R, L) : Sx) = dn L xs ((4, 37, 0, 38) :: (0, 38, 0, 0) :: (2, 37, 1, 0) :: o) → F (39, I, G, R, L) = r) : (m11 37 (40 : Int32) (38, I, G, R, L)).bind F = r := by
  unfold m11
  refine t_if ?_ ?_
  · rfl
  refine t_s1 (k := 37) (j := 1) h (fun I h => ?_)
  refine t_12 (by decide) ?_
  refine t_if ?_ ?_
  · rfl
  refine t_nw (n := 38) (n' := 39) rfl h (fun I G R h => ?_)
  refine t_if ?_ ?_
  · rfl
  refine t_sR (k := 37) (j := 0) (v := 38) h (fun R h => ?_)
  exact k _ _ _ h
theorem k11_39 {β : Type} {L : Nat} {xs : Nat → Int32} {o : List (Nat × Nat × Nat × Nat)} {I : Nat → Nat → Int32} {G : Nat → Nat → Int64} {R : Nat → Nat → Option Nat} {F : Sx → Option β} {r : Option β} (h : ((40, I, G, R, L) : Sx) = dn L xs o) (k : ∀ I G R, ((41, I, G, R, L) : Sx) = dn L xs ((4, 39, 0, 40) :: (0, 40, 0, 0) :: (2, 39, 1, 0) :: o) → F (41, I, G, R, L) = r) : (m11 39 (40 : Int32) (40, I, G, R, L)).bind F = r := by
  unfold m11
  refine t_if ?_ ?_
  · rfl
  refine t_s1 (k := 39) (j := 1) h (fun I h => ?_)
  refine t_12 (by decide) ?_
  refine t_if ?_ ?_
  · rfl
  refine t_nw (n := 40) (n' := 41) rfl h (fun I G R h => ?_)
  refine t_if ?_ ?_
  · rfl
  refine t_sR (k := 39) (j := 0) (v := 40) h (fun R h => ?_)
  exact k _ _ _ h
theorem k11_41 {β : Type} {L : Nat} {xs : Nat → Int32} {o : List (Nat × Nat × Nat × Nat)} {I : Nat → Nat → Int32} {G : Nat → Nat → Int64} {R : Nat → Nat → Option Nat} {F : Sx → Option β} {r : Option β} (h : ((42, I, G, R, L) : Sx) = dn L xs o) (k : ∀ I G R, ((43, I, G, R, L) : Sx) = dn L xs ((4, 41, 0, 42) :: (0, 42, 0, 0) :: (2, 41, 1, 0) :: o) → F (43, I, G, R, L) = r) : (m11 41 (40 : Int32) (42, I, G, R, L)).bind F = r := by
  unfold m11
  refine t_if ?_ ?_
  · rfl
  refine t_s1 (k := 41) (j := 1) h (fun I h => ?_)
  refine t_12 (by decide) ?_
  refine t_if ?_ ?_
  · rfl
  refine t_nw (n := 42) (n' := 43) rfl h (fun I G R h => ?_)
  refine t_if ?_ ?_
  · rfl
  refine t_sR (k := 41) (j := 0) (v := 42) h (fun R h => ?_)
  exact k _ _ _ h
theorem k11_43 {β : Type} {L : Nat} {xs : Nat → Int32} {o : List (Nat × Nat × Nat × Nat)} {I : Nat → Nat → Int32} {G : Nat → Nat → Int64} {R : Nat → Nat → Option Nat} {F : Sx → Option β} {r : Option β} (h : ((44, I, G, R, L) : Sx) = dn L xs o) (k : ∀ I G R, ((45, I, G, R, L) : Sx) = dn L xs ((4, 43, 0, 44) :: (0, 44, 0, 0) :: (2, 43, 1, 0) :: o) → F (45, I, G, R, L) = r) : (m11 43 (40 : Int32) (44, I, G, R, L)).bind F = r := by
  unfold m11
  refine t_if ?_ ?_
  · rfl
  refine t_s1 (k := 43) (j := 1) h (fun I h => ?_)
  refine t_12 (by decide) ?_
  refine t_if ?_ ?_
  · rfl
  refine t_nw (n := 44) (n' := 45) rfl h (fun I G R h => ?_)
  refine t_if ?_ ?_
  · rfl
  refine t_sR (k := 43) (j := 0) (v := 44) h (fun R h => ?_)
  exact k _ _ _ h
theorem k11_45 {β : Type} {L : Nat} {xs : Nat → Int32} {o : List (Nat × Nat × Nat × Nat)} {I : Nat → Nat → Int32} {G : Nat → Nat → Int64} {R : Nat → Nat → Option Nat} {F : Sx → Option β} {r : Option β} (h : ((46, I, G, R, L) : Sx) = dn L xs o) (k : ∀ I G R, ((47, I, G, R, L) : Sx) = dn L xs ((4, 45, 0, 46) :: (0, 46, 0, 0) :: (2, 45, 1, 0) :: o) → F (47, I, G, R, L) = r) : (m11 45 (40 : Int32) (46, I, G, R, L)).bind F = r := by
  unfold m11
  refine t_if ?_ ?_
  · rfl
  refine t_s1 (k := 45) (j := 1) h (fun I h => ?_)
  refine t_12 (by decide) ?_
  refine t_if ?_ ?_
  · rfl
  refine t_nw (n := 46) (n' := 47) rfl h (fun I G R h => ?_)
  refine t_if ?_ ?_
  · rfl
  refine t_sR (k := 45) (j := 0) (v := 46) h (fun R h => ?_)
  exact k _ _ _ h
theorem k11_47 {β : Type} {L : Nat} {xs : Nat → Int32} {o : List (Nat × Nat × Nat × Nat)} {I : Nat → Nat → Int32} {G : Nat → Nat → Int64} {R : Nat → Nat → Option Nat} {F : Sx → Option β} {r : Option β} (h : ((48, I, G, R, L) : Sx) = dn L xs o) (k : ∀ I G R, ((49, I, G, R, L) : Sx) = dn L xs ((4, 47, 0, 48) :: (0, 48, 0, 0) :: (2, 47, 1, 0) :: o) → F (49, I, G, R, L) = r) : (m11 47 (40 : Int32) (48, I, G, R, L)).bind F = r := by
  unfold m11
  refine t_if ?_ ?_
  · rfl
  refine t_s1 (k := 47) (j := 1) h (fun I h => ?_)
  refine t_12 (by decide) ?_
  refine t_if ?_ ?_
  · rfl
  refine t_nw (n := 48) (n' := 49) rfl h (fun I G R h => ?_)
  refine t_if ?_ ?_
  · rfl
  refine t_sR (k := 47) (j := 0) (v := 48) h (fun R h => ?_)
  exact k _ _ _ h
theorem k11_49 {β : Type} {L : Nat} {xs : Nat → Int32} {o : List (Nat × Nat × Nat × Nat)} {I : Nat → Nat → Int32} {G : Nat → Nat → Int64} {R : Nat → Nat → Option Nat} {F : Sx → Option β} {r : Option β} (h : ((50, I, G, R, L) : Sx) = dn L xs o) (k : ∀ I G R, ((51, I, G, R, L) : Sx) = dn L xs ((4, 49, 0, 50) :: (0, 50, 0, 0) :: (2, 49, 1, 0) :: o) → F (51, I, G, R, L) = r) : (m11 49 (60 : Int32) (50, I, G, R, L)).bind F = r := by
  unfold m11
  refine t_if ?_ ?_
  · rfl
  refine t_s1 (k := 49) (j := 1) h (fun I h => ?_)
  refine t_12 (by decide) ?_
  refine t_if ?_ ?_
  · rfl
  refine t_nw (n := 50) (n' := 51) rfl h (fun I G R h => ?_)
  refine t_if ?_ ?_
  · rfl
  refine t_sR (k := 49) (j := 0) (v := 50) h (fun R h => ?_)
  exact k _ _ _ h
theorem k11_51 {β : Type} {L : Nat} {xs : Nat → Int32} {o : List (Nat × Nat × Nat × Nat)} {I : Nat → Nat → Int32} {G : Nat → Nat → Int64} {R : Nat → Nat → Option Nat} {F : Sx → Option β} {r : Option β} (h : ((52, I, G, R, L) : Sx) = dn L xs o) (k : ∀ I G R, ((53, I, G, R, L) : Sx) = dn L xs ((4, 51, 0, 52) :: (0, 52, 0, 0) :: (2, 51, 1, 0) :: o) → F (53, I, G, R, L) = r) : (m11 51 (60 : Int32) (52, I, G, R, L)).bind F = r := by
  unfold m11
  refine t_if ?_ ?_
  · rfl
  refine t_s1 (k := 51) (j := 1) h (fun I h => ?_)
  refine t_12 (by decide) ?_
  refine t_if ?_ ?_
  · rfl
  refine t_nw (n := 52) (n' := 53) rfl h (fun I G R h => ?_)
  refine t_if ?_ ?_
  · rfl
  refine t_sR (k := 51) (j := 0) (v := 52) h (fun R h => ?_)
  exact k _ _ _ h
theorem k11_53 {β : Type} {L : Nat} {xs : Nat → Int32} {o : List (Nat × Nat × Nat × Nat)} {I : Nat → Nat → Int32} {G : Nat → Nat → Int64} {R : Nat → Nat → Option Nat} {F : Sx → Option β} {r : Option β} (h : ((54, I, G, R, L) : Sx) = dn L xs o) (k : ∀ I G R, ((55, I, G, R, L) : Sx) = dn L xs ((4, 53, 0, 54) :: (0, 54, 0, 0) :: (2, 53, 1, 0) :: o) → F (55, I, G, R, L) = r) : (m11 53 (60 : Int32) (54, I, G, R, L)).bind F = r := by
  unfold m11
  refine t_if ?_ ?_
  · rfl
  refine t_s1 (k := 53) (j := 1) h (fun I h => ?_)
  refine t_12 (by decide) ?_
  refine t_if ?_ ?_
  · rfl
  refine t_nw (n := 54) (n' := 55) rfl h (fun I G R h => ?_)
  refine t_if ?_ ?_
  · rfl
  refine t_sR (k := 53) (j := 0) (v := 54) h (fun R h => ?_)
  exact k _ _ _ h
theorem k11_55 {β : Type} {L : Nat} {xs : Nat → Int32} {o : List (Nat × Nat × Nat × Nat)} {I : Nat → Nat → Int32} {G : Nat → Nat → Int64} {R : Nat → Nat → Option Nat} {F : Sx → Option β} {r : Option β} (h : ((56, I, G, R, L) : Sx) = dn L xs o) (k : ∀ I G R, ((57, I, G, R, L) : Sx) = dn L xs ((4, 55, 0, 56) :: (0, 56, 0, 0) :: (2, 55, 1, 0) :: o) → F (57, I, G, R, L) = r) : (m11 55 (60 : Int32) (56, I, G, R, L)).bind F = r := by
  unfold m11
  refine t_if ?_ ?_
  · rfl
  refine t_s1 (k := 55) (j := 1) h (fun I h => ?_)
  refine t_12 (by decide) ?_
  refine t_if ?_ ?_
  · rfl
  refine t_nw (n := 56) (n' := 57) rfl h (fun I G R h => ?_)
  refine t_if ?_ ?_
  · rfl
  refine t_sR (k := 55) (j := 0) (v := 56) h (fun R h => ?_)
  exact k _ _ _ h
theorem k7_57 {β : Type} {L : Nat} {xs : Nat → Int32} {o : List (Nat × Nat × Nat × Nat)} {I : Nat → Nat → Int32} {G : Nat → Nat → Int64} {R : Nat → Nat → Option Nat} {F : Sx → Option β} {r : Option β} (h : ((58, I, G, R, L) : Sx) = dn L xs o) (k : ∀ I G R, ((65, I, G, R, L) : Sx) = dn L xs ((4, 57, 0, 3) :: (1, 57, 15, 0) :: (1, 57, 14, 0) :: (1, 57, 13, 0) :: (1, 57, 12, 0) :: (1, 57, 11, 0) :: (1, 57, 10, 0) :: (1, 57, 9, 0) :: (1, 57, 8, 0) :: (4, 57, 7, 64) :: (0, 64, 0, 0) :: (4, 57, 6, 63) :: (0, 63, 0, 0) :: (4, 57, 5, 62) :: (0, 62, 0, 0) :: (4, 57, 4, 61) :: (0, 61, 0, 0) :: (4, 57, 3, 60) :: (0, 60, 0, 0) :: (4, 57, 2, 59) :: (0, 59, 0, 0) :: (4, 57, 1, 58) :: (0, 58, 0, 0) :: o) → F (65, I, G, R, L) = r) : (m7 57 3 (58, I, G, R, L)).bind F = r := by
  unfold m7
  refine t_if ?_ ?_
  · rfl
  refine t_nw (n := 58) (n' := 59) rfl h (fun I G R h => ?_)
  refine t_if ?_ ?_
  · rfl
  refine t_sR (k := 57) (j := 1) (v := 58) h (fun R h => ?_)
  refine t_if ?_ ?_
  · rfl
  refine t_nw (n := 59) (n' := 60) rfl h (fun I G R h => ?_)
  refine t_if ?_ ?_
  · rfl
  refine t_sR (k := 57) (j := 2) (v := 59) h (fun R h => ?_)
  refine t_if ?_ ?_
  · rfl
  refine t_nw (n := 60) (n' := 61) rfl h (fun I G R h => ?_)
  refine t_if ?_ ?_
  · rfl
  refine t_sR (k := 57) (j := 3) (v := 60) h (fun R h => ?_)
  refine t_if ?_ ?_
  · rfl
  refine t_nw (n := 61) (n' := 62) rfl h (fun I G R h => ?_)
  refine t_if ?_ ?_
  · rfl
  refine t_sR (k := 57) (j := 4) (v := 61) h (fun R h => ?_)
  refine t_if ?_ ?_
  · rfl
  refine t_nw (n := 62) (n' := 63) rfl h (fun I G R h => ?_)
  refine t_if ?_ ?_
  · rfl
  refine t_sR (k := 57) (j := 5) (v := 62) h (fun R h => ?_)
  refine t_if ?_ ?_
  · rfl
  refine t_nw (n := 63) (n' := 64) rfl h (fun I G R h => ?_)
  refine t_if ?_ ?_
  · rfl
  refine t_sR (k := 57) (j := 6) (v := 63) h (fun R h => ?_)
  refine t_if ?_ ?_
  · rfl
  refine t_nw (n := 64) (n' := 65) rfl h (fun I G R h => ?_)
  refine t_if ?_ ?_
  · rfl
  refine t_sR (k := 57) (j := 7) (v := 64) h (fun R h => ?_)
  refine t_if ?_ ?_
  · rfl
  refine t_s0 (k := 57) (j := 8) h (fun I h => ?_)
  refine t_if ?_ ?_
  · rfl
  refine t_s0 (k := 57) (j := 9) h (fun I h => ?_)
  refine t_if ?_ ?_
  · rfl
  refine t_s0 (k := 57) (j := 10) h (fun I h => ?_)
  refine t_if ?_ ?_
  · rfl
  refine t_s0 (k := 57) (j := 11) h (fun I h => ?_)
  refine t_if ?_ ?_
  · rfl
  refine t_s0 (k := 57) (j := 12) h (fun I h => ?_)
  refine t_if ?_ ?_
  · rfl
  refine t_s0 (k := 57) (j := 13) h (fun I h => ?_)
  refine t_if ?_ ?_
  · rfl
  refine t_s0 (k := 57) (j := 14) h (fun I h => ?_)
  refine t_if ?_ ?_
  · rfl
  refine t_s0 (k := 57) (j := 15) h (fun I h => ?_)
  refine t_if ?_ ?_
  · rfl
  refine t_sR (k := 57) (j := 0) (v := 3) h (fun R h => ?_)
  exact k _ _ _ h
theorem k7_65 {β : Type} {L : Nat} {xs : Nat → Int32} {o : List (Nat × Nat × Nat × Nat)} {I : Nat → Nat → Int32} {G : Nat → Nat → Int64} {R : Nat → Nat → Option Nat} {F : Sx → Option β} {r : Option β} (h : ((66, I, G, R, L) : Sx) = dn L xs o) (k : ∀ I G R, ((73, I, G, R, L) : Sx) = dn L xs ((4, 65, 0, 3) :: (1, 65, 15, 0) :: (1, 65, 14, 0) :: (1, 65, 13, 0) :: (1, 65, 12, 0) :: (1, 65, 11, 0) :: (1, 65, 10, 0) :: (1, 65, 9, 0) :: (1, 65, 8, 0) :: (4, 65, 7, 72) :: (0, 72, 0, 0) :: (4, 65, 6, 71) :: (0, 71, 0, 0) :: (4, 65, 5, 70) :: (0, 70, 0, 0) :: (4, 65, 4, 69) :: (0, 69, 0, 0) :: (4, 65, 3, 68) :: (0, 68, 0, 0) :: (4, 65, 2, 67) :: (0, 67, 0, 0) :: (4, 65, 1, 66) :: (0, 66, 0, 0) :: o) → F (73, I, G, R, L) = r) : (m7 65 3 (66, I, G, R, L)).bind F = r := by
  unfold m7
  refine t_if ?_ ?_
  · rfl
  refine t_nw (n := 66) (n' := 67) rfl h (fun I G R h => ?_)
  refine t_if ?_ ?_
  · rfl
  refine t_sR (k := 65) (j := 1) (v := 66) h (fun R h => ?_)
  refine t_if ?_ ?_
  · rfl
  refine t_nw (n := 67) (n' := 68) rfl h (fun I G R h => ?_)
  refine t_if ?_ ?_
  · rfl
  refine t_sR (k := 65) (j := 2) (v := 67) h (fun R h => ?_)
  refine t_if ?_ ?_
  · rfl
  refine t_nw (n := 68) (n' := 69) rfl h (fun I G R h => ?_)
  refine t_if ?_ ?_
  · rfl
  refine t_sR (k := 65) (j := 3) (v := 68) h (fun R h => ?_)
  refine t_if ?_ ?_
  · rfl
  refine t_nw (n := 69) (n' := 70) rfl h (fun I G R h => ?_)
  refine t_if ?_ ?_
  · rfl
  refine t_sR (k := 65) (j := 4) (v := 69) h (fun R h => ?_)
  refine t_if ?_ ?_
  · rfl
  refine t_nw (n := 70) (n' := 71) rfl h (fun I G R h => ?_)
  refine t_if ?_ ?_
  · rfl
  refine t_sR (k := 65) (j := 5) (v := 70) h (fun R h => ?_)
  refine t_if ?_ ?_
  · rfl
  refine t_nw (n := 71) (n' := 72) rfl h (fun I G R h => ?_)
  refine t_if ?_ ?_
  · rfl
  refine t_sR (k := 65) (j := 6) (v := 71) h (fun R h => ?_)
  refine t_if ?_ ?_
  · rfl
  refine t_nw (n := 72) (n' := 73) rfl h (fun I G R h => ?_)
  refine t_if ?_ ?_
  · rfl
  refine t_sR (k := 65) (j := 7) (v := 72) h (fun R h => ?_)
  refine t_if ?_ ?_
  · rfl
  refine t_s0 (k := 65) (j := 8) h (fun I h => ?_)
  refine t_if ?_ ?_
  · rfl
  refine t_s0 (k := 65) (j := 9) h (fun I h => ?_)
  refine t_if ?_ ?_
  · rfl
  refine t_s0 (k := 65) (j := 10) h (fun I h => ?_)
  refine t_if ?_ ?_
  · rfl
  refine t_s0 (k := 65) (j := 11) h (fun I h => ?_)
  refine t_if ?_ ?_
  · rfl
  refine t_s0 (k := 65) (j := 12) h (fun I h => ?_)
  refine t_if ?_ ?_
  · rfl
  refine t_s0 (k := 65) (j := 13) h (fun I h => ?_)
  refine t_if ?_ ?_
  · rfl
  refine t_s0 (k := 65) (j := 14) h (fun I h => ?_)
  refine t_if ?_ ?_
  · rfl
  refine t_s0 (k := 65) (j := 15) h (fun I h => ?_)
  refine t_if ?_ ?_
  · rfl
  refine t_sR (k := 65) (j := 0) (v := 3) h (fun R h => ?_)
  exact k _ _ _ h
theorem k7_73 {β : Type} {L : Nat} {xs : Nat → Int32} {o : List (Nat × Nat × Nat × Nat)} {I : Nat → Nat → Int32} {G : Nat → Nat → Int64} {R : Nat → Nat → Option Nat} {F : Sx → Option β} {r : Option β} (h : ((74, I, G, R, L) : Sx) = dn L xs o) (k : ∀ I G R, ((81, I, G, R, L) : Sx) = dn L xs ((4, 73, 0, 3) :: (1, 73, 15, 0) :: (1, 73, 14, 0) :: (1, 73, 13, 0) :: (1, 73, 12, 0) :: (1, 73, 11, 0) :: (1, 73, 10, 0) :: (1, 73, 9, 0) :: (1, 73, 8, 0) :: (4, 73, 7, 80) :: (0, 80, 0, 0) :: (4, 73, 6, 79) :: (0, 79, 0, 0) :: (4, 73, 5, 78) :: (0, 78, 0, 0) :: (4, 73, 4, 77) :: (0, 77, 0, 0) :: (4, 73, 3, 76) :: (0, 76, 0, 0) :: (4, 73, 2, 75) :: (0, 75, 0, 0) :: (4, 73, 1, 74) :: (0, 74, 0, 0) :: o) → F (81, I, G, R, L) = r) : (m7 73 3 (74, I, G, R, L)).bind F = r := by
  unfold m7
  refine t_if ?_ ?_
  · rfl
  refine t_nw (n := 74) (n' := 75) rfl h (fun I G R h => ?_)
  refine t_if ?_ ?_
  · rfl
  refine t_sR (k := 73) (j := 1) (v := 74) h (fun R h => ?_)
  refine t_if ?_ ?_
  · rfl
  refine t_nw (n := 75) (n' := 76) rfl h (fun I G R h => ?_)
  refine t_if ?_ ?_
  · rfl
  refine t_sR (k := 73) (j := 2) (v := 75) h (fun R h => ?_)
  refine t_if ?_ ?_
  · rfl
  refine t_nw (n := 76) (n' := 77) rfl h (fun I G R h => ?_)
  refine t_if ?_ ?_
  · rfl
  refine t_sR (k := 73) (j := 3) (v := 76) h (fun R h => ?_)
  refine t_if ?_ ?_
  · rfl
  refine t_nw (n := 77) (n' := 78) rfl h (fun I G R h => ?_)
  refine t_if ?_ ?_
  · rfl
  refine t_sR (k := 73) (j := 4) (v := 77) h (fun R h => ?_)
  refine t_if ?_ ?_
  · rfl
  refine t_nw (n := 78) (n' := 79) rfl h (fun I G R h => ?_)
  refine t_if ?_ ?_
  · rfl
  refine t_sR (k := 73) (j := 5) (v := 78) h (fun R h => ?_)
  refine t_if ?_ ?_
  · rfl
  refine t_nw (n := 79) (n' := 80) rfl h (fun I G R h => ?_)
  refine t_if ?_ ?_
  · rfl
  refine t_sR (k := 73) (j := 6) (v := 79) h (fun R h => ?_)
  refine t_if ?_ ?_
  · rfl
  refine t_nw (n := 80) (n' := 81) rfl h (fun I G R h => ?_)
  refine t_if ?_ ?_
  · rfl
  refine t_sR (k := 73) (j := 7) (v := 80) h (fun R h => ?_)
  refine t_if ?_ ?_
  · rfl
  refine t_s0 (k := 73) (j := 8) h (fun I h => ?_)
  refine t_if ?_ ?_
  · rfl
  refine t_s0 (k := 73) (j := 9) h (fun I h => ?_)
  refine t_if ?_ ?_
  · rfl
  refine t_s0 (k := 73) (j := 10) h (fun I h => ?_)
  refine t_if ?_ ?_
  · rfl
  refine t_s0 (k := 73) (j := 11) h (fun I h => ?_)
  refine t_if ?_ ?_
  · rfl
  refine t_s0 (k := 73) (j := 12) h (fun I h => ?_)
  refine t_if ?_ ?_
  · rfl
  refine t_s0 (k := 73) (j := 13) h (fun I h => ?_)
  refine t_if ?_ ?_
  · rfl
  refine t_s0 (k := 73) (j := 14) h (fun I h => ?_)
  refine t_if ?_ ?_
  · rfl
  refine t_s0 (k := 73) (j := 15) h (fun I h => ?_)
  refine t_if ?_ ?_
  · rfl
  refine t_sR (k := 73) (j := 0) (v := 3) h (fun R h => ?_)
  exact k _ _ _ h
set_option maxRecDepth 10000 in
theorem c256 {β : Type} {L : Nat} {xs : Nat → Int32} {I : Nat → Nat → Int32} {G : Nat → Nat → Int64} {R : Nat → Nat → Option Nat} {F : Sx → Option β} {r : Option β} (h : ((57, I, G, R, L) : Sx) = dn L xs oLc) (k : ∀ I G R, ((81, I, G, R, L) : Sx) = dn L xs oL0 → F (81, I, G, R, L) = r) : (l0_256 1000 0 (0 : Int32) (57, I, G, R, L)).bind F = r := by
  show (b0_256 (l0_256 999) 0 (0 : Int32) _).bind F = r
  unfold b0_256
  rw [if_neg (by decide)]
  refine t_if ?_ ?_
  · rfl
  refine t_rf (k := 0) (j := 5) (a := 26) h (by decide +kernel) (by decide +kernel) ?_
  refine t_if ?_ ?_
  · rfl
  refine t_nw (n := 57) (n' := 58) rfl h (fun I G R h => ?_)
  refine t_if ?_ ?_
  · rfl
  refine t_rf (k := 0) (j := 2) (a := 3) h (by decide +kernel) (by decide +kernel) ?_
  refine t_bb ?_
  refine k7_57 h (fun I G R h => ?_)
  refine t_if ?_ ?_
  · rfl
  refine t_sR (k := 26) (j := 0) (v := 57) h (fun R h => ?_)
  show (b0_256 (l0_256 998) 0 (1 : Int32) _).bind F = r
  unfold b0_256
  rw [if_neg (by decide)]
  refine t_if ?_ ?_
  · rfl
  refine t_rf (k := 0) (j := 5) (a := 26) h (by decide +kernel) (by decide +kernel) ?_
  refine t_if ?_ ?_
  · rfl
  refine t_nw (n := 65) (n' := 66) rfl h (fun I G R h => ?_)
  refine t_if ?_ ?_
  · rfl
  refine t_rf (k := 0) (j := 2) (a := 3) h (by decide +kernel) (by decide +kernel) ?_
  refine t_bb ?_
  refine k7_65 h (fun I G R h => ?_)
  refine t_if ?_ ?_
  · rfl
  refine t_sR (k := 26) (j := 1) (v := 65) h (fun R h => ?_)
  show (b0_256 (l0_256 997) 0 (2 : Int32) _).bind F = r
  unfold b0_256
  rw [if_neg (by decide)]
  refine t_if ?_ ?_
  · rfl
  refine t_rf (k := 0) (j := 5) (a := 26) h (by decide +kernel) (by decide +kernel) ?_
  refine t_if ?_ ?_
  · rfl
  refine t_nw (n := 73) (n' := 74) rfl h (fun I G R h => ?_)
  refine t_if ?_ ?_
  · rfl
  refine t_rf (k := 0) (j := 2) (a := 3) h (by decide +kernel) (by decide +kernel) ?_
  refine t_bb ?_
  refine k7_73 h (fun I G R h => ?_)
  refine t_if ?_ ?_
  · rfl
  refine t_sR (k := 26) (j := 2) (v := 73) h (fun R h => ?_)
  show (b0_256 (l0_256 996) 0 (3 : Int32) _).bind F = r
  unfold b0_256
  rw [if_pos (by decide)]
  exact k _ _ _ h
set_option maxRecDepth 10000 in
theorem c228 {β : Type} {L : Nat} {xs : Nat → Int32} {I : Nat → Nat → Int32} {G : Nat → Nat → Int64} {R : Nat → Nat → Option Nat} {F : Sx → Option β} {r : Option β} (h : ((49, I, G, R, L) : Sx) = dn L xs oLb) (k : ∀ I G R, ((81, I, G, R, L) : Sx) = dn L xs oL0 → F (81, I, G, R, L) = r) : (l0_228 1000 0 (0 : Int32) (49, I, G, R, L)).bind F = r := by
  show (b0_228 (l0_228 999) 0 (0 : Int32) _).bind F = r
  unfold b0_228
  rw [if_neg (by decide)]
  refine t_if ?_ ?_
  · rfl
  refine t_rf (k := 0) (j := 1) (a := 2) h (by decide +kernel) (by decide +kernel) ?_
  refine t_if ?_ ?_
  · rfl
  refine t_nw (n := 49) (n' := 50) rfl h (fun I G R h => ?_)
  refine t_bb ?_
  refine k11_49 h (fun I G R h => ?_)
  refine t_if ?_ ?_
  · rfl
  refine t_sR (k := 2) (j := 0) (v := 49) h (fun R h => ?_)
  show (b0_228 (l0_228 998) 0 (1 : Int32) _).bind F = r
  unfold b0_228
  rw [if_neg (by decide)]
  refine t_if ?_ ?_
  · rfl
  refine t_rf (k := 0) (j := 1) (a := 2) h (by decide +kernel) (by decide +kernel) ?_
  refine t_if ?_ ?_
  · rfl
  refine t_nw (n := 51) (n' := 52) rfl h (fun I G R h => ?_)
  refine t_bb ?_
  refine k11_51 h (fun I G R h => ?_)
  refine t_if ?_ ?_
  · rfl
  refine t_sR (k := 2) (j := 1) (v := 51) h (fun R h => ?_)
  show (b0_228 (l0_228 997) 0 (2 : Int32) _).bind F = r
  unfold b0_228
  rw [if_neg (by decide)]
  refine t_if ?_ ?_
  · rfl
  refine t_rf (k := 0) (j := 1) (a := 2) h (by decide +kernel) (by decide +kernel) ?_
  refine t_if ?_ ?_
  · rfl
  refine t_nw (n := 53) (n' := 54) rfl h (fun I G R h => ?_)
  refine t_bb ?_
  refine k11_53 h (fun I G R h => ?_)
  refine t_if ?_ ?_
  · rfl
  refine t_sR (k := 2) (j := 2) (v := 53) h (fun R h => ?_)
  show (b0_228 (l0_228 996) 0 (3 : Int32) _).bind F = r
  unfold b0_228
  rw [if_neg (by decide)]
  refine t_if ?_ ?_
  · rfl
  refine t_rf (k := 0) (j := 1) (a := 2) h (by decide +kernel) (by decide +kernel) ?_
  refine t_if ?_ ?_
  · rfl
  refine t_nw (n := 55) (n' := 56) rfl h (fun I G R h => ?_)
  refine t_bb ?_
  refine k11_55 h (fun I G R h => ?_)
  refine t_if ?_ ?_
  · rfl
  refine t_sR (k := 2) (j := 3) (v := 55) h (fun R h => ?_)
  show (b0_228 (l0_228 995) 0 (4 : Int32) _).bind F = r
  unfold b0_228
  rw [if_pos (by decide)]
  exact c256 h k
set_option maxRecDepth 10000 in
theorem c199 {β : Type} {L : Nat} {xs : Nat → Int32} {I : Nat → Nat → Int32} {G : Nat → Nat → Int64} {R : Nat → Nat → Option Nat} {F : Sx → Option β} {r : Option β} (h : ((37, I, G, R, L) : Sx) = dn L xs oLa) (k : ∀ I G R, ((81, I, G, R, L) : Sx) = dn L xs oL0 → F (81, I, G, R, L) = r) : (l0_199 1000 0 (0 : Int32) (37, I, G, R, L)).bind F = r := by
  show (b0_199 (l0_199 999) 0 (0 : Int32) _).bind F = r
  unfold b0_199
  rw [if_neg (by decide)]
  refine t_if ?_ ?_
  · rfl
  refine t_rf (k := 0) (j := 0) (a := 1) h (by decide +kernel) (by decide +kernel) ?_
  refine t_if ?_ ?_
  · rfl
  refine t_nw (n := 37) (n' := 38) rfl h (fun I G R h => ?_)
  refine t_bb ?_
  refine k11_37 h (fun I G R h => ?_)
  refine t_if ?_ ?_
  · rfl
  refine t_sR (k := 1) (j := 0) (v := 37) h (fun R h => ?_)
  show (b0_199 (l0_199 998) 0 (1 : Int32) _).bind F = r
  unfold b0_199
  rw [if_neg (by decide)]
  refine t_if ?_ ?_
  · rfl
  refine t_rf (k := 0) (j := 0) (a := 1) h (by decide +kernel) (by decide +kernel) ?_
  refine t_if ?_ ?_
  · rfl
  refine t_nw (n := 39) (n' := 40) rfl h (fun I G R h => ?_)
  refine t_bb ?_
  refine k11_39 h (fun I G R h => ?_)
  refine t_if ?_ ?_
  · rfl
  refine t_sR (k := 1) (j := 1) (v := 39) h (fun R h => ?_)
  show (b0_199 (l0_199 997) 0 (2 : Int32) _).bind F = r
  unfold b0_199
  rw [if_neg (by decide)]
  refine t_if ?_ ?_
  · rfl
  refine t_rf (k := 0) (j := 0) (a := 1) h (by decide +kernel) (by decide +kernel) ?_
  refine t_if ?_ ?_
  · rfl
  refine t_nw (n := 41) (n' := 42) rfl h (fun I G R h => ?_)
  refine t_bb ?_
  refine k11_41 h (fun I G R h => ?_)
  refine t_if ?_ ?_
  · rfl
  refine t_sR (k := 1) (j := 2) (v := 41) h (fun R h => ?_)
  show (b0_199 (l0_199 996) 0 (3 : Int32) _).bind F = r
  unfold b0_199
  rw [if_neg (by decide)]
  refine t_if ?_ ?_
  · rfl
  refine t_rf (k := 0) (j := 0) (a := 1) h (by decide +kernel) (by decide +kernel) ?_
  refine t_if ?_ ?_
  · rfl
  refine t_nw (n := 43) (n' := 44) rfl h (fun I G R h => ?_)
  refine t_bb ?_
  refine k11_43 h (fun I G R h => ?_)
  refine t_if ?_ ?_
  · rfl
  refine t_sR (k := 1) (j := 3) (v := 43) h (fun R h => ?_)
  show (b0_199 (l0_199 995) 0 (4 : Int32) _).bind F = r
  unfold b0_199
  rw [if_neg (by decide)]
  refine t_if ?_ ?_
  · rfl
  refine t_rf (k := 0) (j := 0) (a := 1) h (by decide +kernel) (by decide +kernel) ?_
  refine t_if ?_ ?_
  · rfl
  refine t_nw (n := 45) (n' := 46) rfl h (fun I G R h => ?_)
  refine t_bb ?_
  refine k11_45 h (fun I G R h => ?_)
  refine t_if ?_ ?_
  · rfl
  refine t_sR (k := 1) (j := 4) (v := 45) h (fun R h => ?_)
  show (b0_199 (l0_199 994) 0 (5 : Int32) _).bind F = r
  unfold b0_199
  rw [if_neg (by decide)]
  refine t_if ?_ ?_
  · rfl
  refine t_rf (k := 0) (j := 0) (a := 1) h (by decide +kernel) (by decide +kernel) ?_
  refine t_if ?_ ?_
  · rfl
  refine t_nw (n := 47) (n' := 48) rfl h (fun I G R h => ?_)
  refine t_bb ?_
  refine k11_47 h (fun I G R h => ?_)
  refine t_if ?_ ?_
  · rfl
  refine t_sR (k := 1) (j := 5) (v := 47) h (fun R h => ?_)
  show (b0_199 (l0_199 993) 0 (6 : Int32) _).bind F = r
  unfold b0_199
  rw [if_pos (by decide)]
  exact c228 h k
set_option maxRecDepth 10000 in
theorem ct0 {β : Type} {L : Nat} {xs : Nat → Int32} {I : Nat → Nat → Int32} {G : Nat → Nat → Int64} {R : Nat → Nat → Option Nat} {F : Sx → Option β} {r : Option β} (h : ((1, I, G, R, L) : Sx) = dn L xs [(0, 0, 0, 0)]) (k : ∀ I G R, ((81, I, G, R, L) : Sx) = dn L xs oL0 → F (81, I, G, R, L) = r) : (m0 0 (1, I, G, R, L)).bind F = r := by
  unfold m0
  refine t_if ?_ ?_
  · rfl
  refine t_nw (n := 1) (n' := 2) rfl h (fun I G R h => ?_)
  refine t_if ?_ ?_
  · rfl
  refine t_sR (k := 0) (j := 0) (v := 1) h (fun R h => ?_)
  refine t_if ?_ ?_
  · rfl
  refine t_nw (n := 2) (n' := 3) rfl h (fun I G R h => ?_)
  refine t_if ?_ ?_
  · rfl
  refine t_sR (k := 0) (j := 1) (v := 2) h (fun R h => ?_)
  refine t_if ?_ ?_
  · rfl
  refine t_nw (n := 3) (n' := 4) rfl h (fun I G R h => ?_)
  refine t_if ?_ ?_
  · rfl
  refine t_nw (n := 4) (n' := 5) rfl h (fun I G R h => ?_)
  refine t_m1 ?_
  refine t_if ?_ ?_
  · rfl
  refine t_sR (k := 3) (j := 0) (v := 4) h (fun R h => ?_)
  refine t_if ?_ ?_
  · rfl
  refine t_nw (n := 5) (n' := 6) rfl h (fun I G R h => ?_)
  refine t_m2 ?_
  refine t_if ?_ ?_
  · rfl
  refine t_sR (k := 3) (j := 1) (v := 5) h (fun R h => ?_)
  refine t_if ?_ ?_
  · rfl
  refine t_nw (n := 6) (n' := 7) rfl h (fun I G R h => ?_)
  refine t_m3 ?_
  refine t_if ?_ ?_
  · rfl
  refine t_sR (k := 3) (j := 2) (v := 6) h (fun R h => ?_)
  refine t_if ?_ ?_
  · rfl
  refine t_nw (n := 7) (n' := 8) rfl h (fun I G R h => ?_)
  refine t_m4 ?_
  refine t_if ?_ ?_
  · rfl
  refine t_sR (k := 3) (j := 3) (v := 7) h (fun R h => ?_)
  refine t_if ?_ ?_
  · rfl
  refine t_nw (n := 8) (n' := 9) rfl h (fun I G R h => ?_)
  refine t_m5 ?_
  refine t_if ?_ ?_
  · rfl
  refine t_sR (k := 3) (j := 4) (v := 8) h (fun R h => ?_)
  refine t_if ?_ ?_
  · rfl
  refine t_nw (n := 9) (n' := 10) rfl h (fun I G R h => ?_)
  refine t_m6 ?_
  refine t_if ?_ ?_
  · rfl
  refine t_sR (k := 3) (j := 5) (v := 9) h (fun R h => ?_)
  refine t_if ?_ ?_
  · rfl
  refine t_sR (k := 0) (j := 2) (v := 3) h (fun R h => ?_)
  refine t_if ?_ ?_
  · rfl
  refine t_nw (n := 10) (n' := 11) rfl h (fun I G R h => ?_)
  refine t_if ?_ ?_
  · rfl
  refine t_rf (k := 0) (j := 2) (a := 3) h (by decide +kernel) (by decide +kernel) ?_
  refine t_bb ?_
  refine k7_10 h (fun I G R h => ?_)
  refine t_if ?_ ?_
  · rfl
  refine t_sR (k := 0) (j := 3) (v := 10) h (fun R h => ?_)
  refine t_if ?_ ?_
  · rfl
  refine t_nw (n := 18) (n' := 19) rfl h (fun I G R h => ?_)
  refine t_if ?_ ?_
  · rfl
  refine t_rf (k := 0) (j := 2) (a := 3) h (by decide +kernel) (by decide +kernel) ?_
  refine t_bb ?_
  refine k7_18 h (fun I G R h => ?_)
  refine t_if ?_ ?_
  · rfl
  refine t_sR (k := 0) (j := 4) (v := 18) h (fun R h => ?_)
  refine t_if ?_ ?_
  · rfl
  refine t_nw (n := 26) (n' := 27) rfl h (fun I G R h => ?_)
  refine t_if ?_ ?_
  · rfl
  refine t_sR (k := 0) (j := 5) (v := 26) h (fun R h => ?_)
  refine t_if ?_ ?_
  · rfl
  refine t_nw (n := 27) (n' := 28) rfl h (fun I G R h => ?_)
  refine t_bb ?_
  refine k8_27 h (fun I G R h => ?_)
  refine t_if ?_ ?_
  · rfl
  refine t_sR (k := 0) (j := 6) (v := 27) h (fun R h => ?_)
  refine t_if ?_ ?_
  · rfl
  refine t_nw (n := 28) (n' := 29) rfl h (fun I G R h => ?_)
  refine t_bb ?_
  refine k9_28 h (fun I G R h => ?_)
  refine t_if ?_ ?_
  · rfl
  refine t_sR (k := 0) (j := 7) (v := 28) h (fun R h => ?_)
  refine t_if ?_ ?_
  · rfl
  refine t_nw (n := 31) (n' := 32) rfl h (fun I G R h => ?_)
  refine t_bb ?_
  refine k10_31 h (fun I G R h => ?_)
  refine t_if ?_ ?_
  · rfl
  refine t_sR (k := 0) (j := 8) (v := 31) h (fun R h => ?_)
  refine t_if ?_ ?_
  · rfl
  refine t_nw (n := 35) (n' := 36) rfl h (fun I G R h => ?_)
  refine t_if ?_ ?_
  · rfl
  refine t_sR (k := 0) (j := 9) (v := 35) h (fun R h => ?_)
  refine t_if ?_ ?_
  · rfl
  refine t_nw (n := 36) (n' := 37) rfl h (fun I G R h => ?_)
  refine t_if ?_ ?_
  · rfl
  refine t_sR (k := 0) (j := 10) (v := 36) h (fun R h => ?_)
  refine t_if ?_ ?_
  · rfl
  refine t_s0 (k := 0) (j := 11) h (fun I h => ?_)
  refine t_if ?_ ?_
  · rfl
  refine t_s0 (k := 0) (j := 12) h (fun I h => ?_)
  refine t_if ?_ ?_
  · rfl
  refine t_sL (k := 0) (j := 13) (v := 0) h (fun G h => ?_)
  refine t_if ?_ ?_
  · rfl
  refine t_sL (k := 0) (j := 14) (v := 1) h (fun G h => ?_)
  exact c199 h k
set_option maxRecDepth 10000 in
theorem c162 {β : Type} {L : Nat} {xs : Nat → Int32} {I : Nat → Nat → Int32} {G : Nat → Nat → Int64} {R : Nat → Nat → Option Nat} {F : Sx → Option β} {r : Option β} (h : ((98, I, G, R, L) : Sx) = dn L xs oLe) (k : ∀ I G R, ((98, I, G, R, L) : Sx) = dn L xs oL1 → F (98, I, G, R, L) = r) : (l147_162 1000 81 (0 : Int32) (98, I, G, R, L)).bind F = r := by
  show (b147_162 (l147_162 999) 81 (0 : Int32) _).bind F = r
  unfold b147_162
  rw [if_neg (by decide)]
  refine t_if ?_ ?_
  · rfl
  refine t_rf (k := 81) (j := 2) (a := 84) h (by decide +kernel) (by decide +kernel) ?_
  refine t_if ?_ ?_
  · rfl
  refine t_s1 (k := 84) (j := 0) h (fun I h => ?_)
  show (b147_162 (l147_162 998) 81 (1 : Int32) _).bind F = r
  unfold b147_162
  rw [if_neg (by decide)]
  refine t_if ?_ ?_
  · rfl
  refine t_rf (k := 81) (j := 2) (a := 84) h (by decide +kernel) (by decide +kernel) ?_
  refine t_if ?_ ?_
  · rfl
  refine t_s1 (k := 84) (j := 1) h (fun I h => ?_)
  show (b147_162 (l147_162 997) 81 (2 : Int32) _).bind F = r
  unfold b147_162
  rw [if_neg (by decide)]
  refine t_if ?_ ?_
  · rfl
  refine t_rf (k := 81) (j := 2) (a := 84) h (by decide +kernel) (by decide +kernel) ?_
  refine t_if ?_ ?_
  · rfl
  refine t_s1 (k := 84) (j := 2) h (fun I h => ?_)
  show (b147_162 (l147_162 996) 81 (3 : Int32) _).bind F = r
  unfold b147_162
  rw [if_neg (by decide)]
  refine t_if ?_ ?_
  · rfl
  refine t_rf (k := 81) (j := 2) (a := 84) h (by decide +kernel) (by decide +kernel) ?_
  refine t_if ?_ ?_
  · rfl
  refine t_s1 (k := 84) (j := 3) h (fun I h => ?_)
  show (b147_162 (l147_162 995) 81 (4 : Int32) _).bind F = r
  unfold b147_162
  rw [if_pos (by decide)]
  exact k _ _ _ h
set_option maxRecDepth 10000 in
theorem c141 {β : Type} {L : Nat} {xs : Nat → Int32} {I : Nat → Nat → Int32} {G : Nat → Nat → Int64} {R : Nat → Nat → Option Nat} {F : Sx → Option β} {r : Option β} (h : ((98, I, G, R, L) : Sx) = dn L xs oLd) (k : ∀ I G R, ((98, I, G, R, L) : Sx) = dn L xs oL1 → F (98, I, G, R, L) = r) : (l147_141 1000 81 (0 : Int32) (98, I, G, R, L)).bind F = r := by
  show (b147_141 (l147_141 999) 81 (0 : Int32) _).bind F = r
  unfold b147_141
  rw [if_neg (by decide)]
  refine t_if ?_ ?_
  · rfl
  refine t_rf (k := 81) (j := 0) (a := 82) h (by decide +kernel) (by decide +kernel) ?_
  refine t_if ?_ ?_
  · rfl
  refine t_s1 (k := 82) (j := 0) h (fun I h => ?_)
  show (b147_141 (l147_141 998) 81 (1 : Int32) _).bind F = r
  unfold b147_141
  rw [if_neg (by decide)]
  refine t_if ?_ ?_
  · rfl
  refine t_rf (k := 81) (j := 0) (a := 82) h (by decide +kernel) (by decide +kernel) ?_
  refine t_if ?_ ?_
  · rfl
  refine t_s1 (k := 82) (j := 1) h (fun I h => ?_)
  show (b147_141 (l147_141 997) 81 (2 : Int32) _).bind F = r
  unfold b147_141
  rw [if_neg (by decide)]
  refine t_if ?_ ?_
  · rfl
  refine t_rf (k := 81) (j := 0) (a := 82) h (by decide +kernel) (by decide +kernel) ?_
  refine t_if ?_ ?_
  · rfl
  refine t_s1 (k := 82) (j := 2) h (fun I h => ?_)
  show (b147_141 (l147_141 996) 81 (3 : Int32) _).bind F = r
  unfold b147_141
  rw [if_neg (by decide)]
  refine t_if ?_ ?_
  · rfl
  refine t_rf (k := 81) (j := 0) (a := 82) h (by decide +kernel) (by decide +kernel) ?_
  refine t_if ?_ ?_
  · rfl
  refine t_s1 (k := 82) (j := 3) h (fun I h => ?_)
  show (b147_141 (l147_141 995) 81 (4 : Int32) _).bind F = r
  unfold b147_141
  rw [if_neg (by decide)]
  refine t_if ?_ ?_
  · rfl
  refine t_rf (k := 81) (j := 0) (a := 82) h (by decide +kernel) (by decide +kernel) ?_
  refine t_if ?_ ?_
  · rfl
  refine t_s1 (k := 82) (j := 4) h (fun I h => ?_)
  show (b147_141 (l147_141 994) 81 (5 : Int32) _).bind F = r
  unfold b147_141
  rw [if_neg (by decide)]
  refine t_if ?_ ?_
  · rfl
  refine t_rf (k := 81) (j := 0) (a := 82) h (by decide +kernel) (by decide +kernel) ?_
  refine t_if ?_ ?_
  · rfl
  refine t_s1 (k := 82) (j := 5) h (fun I h => ?_)
  show (b147_141 (l147_141 993) 81 (6 : Int32) _).bind F = r
  unfold b147_141
  rw [if_pos (by decide)]
  exact c162 h k
set_option maxRecDepth 10000 in
theorem ct1 {β : Type} {L : Nat} {xs : Nat → Int32} {I : Nat → Nat → Int32} {G : Nat → Nat → Int64} {R : Nat → Nat → Option Nat} {F : Sx → Option β} {r : Option β} (h : ((82, I, G, R, L) : Sx) = dn L xs ((0, 81, 0, 0) :: oL0)) (k : ∀ I G R, ((98, I, G, R, L) : Sx) = dn L xs oL1 → F (98, I, G, R, L) = r) : (m147 81 (82, I, G, R, L)).bind F = r := by
  unfold m147
  refine t_if ?_ ?_
  · rfl
  refine t_nw (n := 82) (n' := 83) rfl h (fun I G R h => ?_)
  refine t_if ?_ ?_
  · rfl
  refine t_sR (k := 81) (j := 0) (v := 82) h (fun R h => ?_)
  refine t_if ?_ ?_
  · rfl
  refine t_nw (n := 83) (n' := 84) rfl h (fun I G R h => ?_)
  refine t_if ?_ ?_
  · rfl
  refine t_sR (k := 81) (j := 1) (v := 83) h (fun R h => ?_)
  refine t_if ?_ ?_
  · rfl
  refine t_nw (n := 84) (n' := 85) rfl h (fun I G R h => ?_)
  refine t_if ?_ ?_
  · rfl
  refine t_sR (k := 81) (j := 2) (v := 84) h (fun R h => ?_)
  refine t_if ?_ ?_
  · rfl
  refine t_nw (n := 85) (n' := 86) rfl h (fun I G R h => ?_)
  refine t_if ?_ ?_
  · rfl
  refine t_sR (k := 81) (j := 3) (v := 85) h (fun R h => ?_)
  refine t_if ?_ ?_
  · rfl
  refine t_nw (n := 86) (n' := 87) rfl h (fun I G R h => ?_)
  refine t_if ?_ ?_
  · rfl
  refine t_sR (k := 81) (j := 6) (v := 86) h (fun R h => ?_)
  refine t_if ?_ ?_
  · rfl
  refine t_nw (n := 87) (n' := 88) rfl h (fun I G R h => ?_)
  refine t_if ?_ ?_
  · rfl
  refine t_sR (k := 81) (j := 7) (v := 87) h (fun R h => ?_)
  refine t_if ?_ ?_
  · rfl
  refine t_nw (n := 88) (n' := 89) rfl h (fun I G R h => ?_)
  refine t_if ?_ ?_
  · rfl
  refine t_sR (k := 81) (j := 8) (v := 88) h (fun R h => ?_)
  refine t_if ?_ ?_
  · rfl
  refine t_nw (n := 89) (n' := 90) rfl h (fun I G R h => ?_)
  refine t_if ?_ ?_
  · rfl
  refine t_sR (k := 81) (j := 10) (v := 89) h (fun R h => ?_)
  refine t_if ?_ ?_
  · rfl
  refine t_nw (n := 90) (n' := 91) rfl h (fun I G R h => ?_)
  refine t_if ?_ ?_
  · rfl
  refine t_sR (k := 81) (j := 11) (v := 90) h (fun R h => ?_)
  refine t_if ?_ ?_
  · rfl
  refine t_nw (n := 91) (n' := 92) rfl h (fun I G R h => ?_)
  refine t_if ?_ ?_
  · rfl
  refine t_sR (k := 81) (j := 12) (v := 91) h (fun R h => ?_)
  refine t_if ?_ ?_
  · rfl
  refine t_sL (k := 81) (j := 15) (v := 1) h (fun G h => ?_)
  refine t_if ?_ ?_
  · rfl
  refine t_nw (n := 92) (n' := 93) rfl h (fun I G R h => ?_)
  refine t_if ?_ ?_
  · rfl
  refine t_sR (k := 81) (j := 17) (v := 92) h (fun R h => ?_)
  refine t_if ?_ ?_
  · rfl
  refine t_nw (n := 93) (n' := 94) rfl h (fun I G R h => ?_)
  refine t_if ?_ ?_
  · rfl
  refine t_sR (k := 81) (j := 22) (v := 93) h (fun R h => ?_)
  refine t_if ?_ ?_
  · rfl
  refine t_nw (n := 94) (n' := 95) rfl h (fun I G R h => ?_)
  refine t_if ?_ ?_
  · rfl
  refine t_sR (k := 81) (j := 24) (v := 94) h (fun R h => ?_)
  refine t_if ?_ ?_
  · rfl
  refine t_nw (n := 95) (n' := 96) rfl h (fun I G R h => ?_)
  refine t_if ?_ ?_
  · rfl
  refine t_sR (k := 81) (j := 25) (v := 95) h (fun R h => ?_)
  refine t_if ?_ ?_
  · rfl
  refine t_nw (n := 96) (n' := 97) rfl h (fun I G R h => ?_)
  refine t_if ?_ ?_
  · rfl
  refine t_sR (k := 81) (j := 26) (v := 96) h (fun R h => ?_)
  refine t_if ?_ ?_
  · rfl
  refine t_nw (n := 97) (n' := 98) rfl h (fun I G R h => ?_)
  refine t_if ?_ ?_
  · rfl
  refine t_sR (k := 81) (j := 27) (v := 97) h (fun R h => ?_)
  exact c141 h k
theorem okO1 : okO oL1 = true := by decide +kernel
theorem nlk1 : nlk oL1 = 98 := by decide +kernel
theorem rlk_lo : ∀ k, k < 98 → ∀ j, j < 28 → rlk oL1 k j = rf0 k j := by decide +kernel
theorem rf0_len : rfL.length ≤ 98 ∧ ∀ x ∈ rfL, x.length ≤ 28 := by decide +kernel
theorem rf0_hi {k j : Nat} (h : 98 ≤ k ∨ 28 ≤ j) : rf0 k j = none := by
  unfold rf0
  by_cases hk : k < rfL.length
  · have hj : 28 ≤ j := by have := rf0_len.1; omega
    have e : rfL.getD k [] = rfL[k] := by rw [List.getD_eq_getElem?_getD, List.getElem?_eq_getElem hk]; rfl
    rw [e]
    have hl := rf0_len.2 (rfL[k]) (List.getElem_mem hk)
    rw [List.getD_eq_getElem?_getD, List.getElem?_eq_none (by omega)]
    rfl
  · have e : rfL.getD k [] = [] := by rw [List.getD_eq_getElem?_getD, List.getElem?_eq_none (by omega)]; rfl
    rw [e]
    rfl
theorem dn_mk {L : Nat} {xs : Nat → Int32} {I : I2} {G : G2} {R : Nat → Nat → Option Nat} (h : ((98, I, G, R, L) : Sx) = dn L xs oL1) : R = rf0 := by
  funext k j
  have e : R k j = (dn L xs oL1).2.2.2.1 k j := by rw [← h]
  rw [e, dn_r L xs k j oL1 okO1]
  by_cases q : 98 ≤ k ∨ 28 ≤ j
  · rw [rlk_hi q oL1 okO1, rf0_hi q]
  · exact rlk_lo k (by omega) j (by omega)
