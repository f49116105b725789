/-! ===== the cells once both objects stand ===== -/
def rfL : List (List (Option Nat)) := [[some 1, some 2, some 3, some 10, some 18, some 26, some 27, some 28, some 31, some 35, some 36], [some 37, some 39, some 41, some 43, some 45, some 47], [some 49, some 51, some 53, some 55], [some 4, some 5, some 6, some 7, some 8, some 9], [], [], [], [], [], [], [some 3, some 11, some 12, some 13, some 14, some 15, some 16, some 17], [], [], [], [], [], [], [], [some 3, some 19, some 20, some 21, some 22, some 23, some 24, some 25], [], [], [], [], [], [], [], [some 57, some 65, some 73], [], [some 29, some 30], [], [], [some 32, some 33, some 34], [], [], [], [], [], [some 38], [], [some 40], [], [some 42], [], [some 44], [], [some 46], [], [some 48], [], [some 50], [], [some 52], [], [some 54], [], [some 56], [], [some 3, some 58, some 59, some 60, some 61, some 62, some 63, some 64], [], [], [], [], [], [], [], [some 3, some 66, some 67, some 68, some 69, some 70, some 71, some 72], [], [], [], [], [], [], [], [some 3, some 74, some 75, some 76, some 77, some 78, some 79, some 80], [], [], [], [], [], [], [], [some 82, some 83, some 84, some 85, none, none, some 86, some 87, some 88, none, some 89, some 90, some 91, none, none, none, none, some 92, none, none, none, none, some 93, none, some 94, some 95, some 96, some 97], [], [], [], [], [], [], [], [], [], [], [], [], [], [], [], []]
def rf0 (k j : Nat) : Option Nat := (rfL.getD k []).getD j none
theorem rf_0_0 : rf0 0 0 = some 1 := rfl
theorem rf_0_1 : rf0 0 1 = some 2 := rfl
theorem rf_0_2 : rf0 0 2 = some 3 := rfl
theorem rf_0_3 : rf0 0 3 = some 10 := rfl
theorem rf_0_4 : rf0 0 4 = some 18 := rfl
theorem rf_0_5 : rf0 0 5 = some 26 := rfl
theorem rf_0_6 : rf0 0 6 = some 27 := rfl
theorem rf_0_7 : rf0 0 7 = some 28 := rfl
theorem rf_0_8 : rf0 0 8 = some 31 := rfl
theorem rf_0_9 : rf0 0 9 = some 35 := rfl
theorem rf_0_10 : rf0 0 10 = some 36 := rfl
theorem rf_1_0 : rf0 1 0 = some 37 := rfl
theorem rf_1_1 : rf0 1 1 = some 39 := rfl
theorem rf_1_2 : rf0 1 2 = some 41 := rfl
theorem rf_1_3 : rf0 1 3 = some 43 := rfl
theorem rf_1_4 : rf0 1 4 = some 45 := rfl
theorem rf_1_5 : rf0 1 5 = some 47 := rfl
theorem rf_2_0 : rf0 2 0 = some 49 := rfl
theorem rf_2_1 : rf0 2 1 = some 51 := rfl
theorem rf_2_2 : rf0 2 2 = some 53 := rfl
theorem rf_2_3 : rf0 2 3 = some 55 := rfl
theorem rf_3_0 : rf0 3 0 = some 4 := rfl
theorem rf_3_1 : rf0 3 1 = some 5 := rfl
theorem rf_3_2 : rf0 3 2 = some 6 := rfl
theorem rf_3_3 : rf0 3 3 = some 7 := rfl
theorem rf_3_4 : rf0 3 4 = some 8 := rfl
theorem rf_3_5 : rf0 3 5 = some 9 := rfl
theorem rf_10_0 : rf0 10 0 = some 3 := rfl
theorem rf_10_1 : rf0 10 1 = some 11 := rfl
theorem rf_10_2 : rf0 10 2 = some 12 := rfl
theorem rf_10_3 : rf0 10 3 = some 13 := rfl
theorem rf_10_4 : rf0 10 4 = some 14 := rfl
theorem rf_10_5 : rf0 10 5 = some 15 := rfl
theorem rf_10_6 : rf0 10 6 = some 16 := rfl
theorem rf_10_7 : rf0 10 7 = some 17 := rfl
theorem rf_18_0 : rf0 18 0 = some 3 := rfl
theorem rf_18_1 : rf0 18 1 = some 19 := rfl
theorem rf_18_2 : rf0 18 2 = some 20 := rfl
theorem rf_18_3 : rf0 18 3 = some 21 := rfl
theorem rf_18_4 : rf0 18 4 = some 22 := rfl
theorem rf_18_5 : rf0 18 5 = some 23 := rfl
theorem rf_18_6 : rf0 18 6 = some 24 := rfl
theorem rf_18_7 : rf0 18 7 = some 25 := rfl
theorem rf_26_0 : rf0 26 0 = some 57 := rfl
theorem rf_26_1 : rf0 26 1 = some 65 := rfl
theorem rf_26_2 : rf0 26 2 = some 73 := rfl
theorem rf_28_0 : rf0 28 0 = some 29 := rfl
theorem rf_28_1 : rf0 28 1 = some 30 := rfl
theorem rf_31_0 : rf0 31 0 = some 32 := rfl
theorem rf_31_1 : rf0 31 1 = some 33 := rfl
theorem rf_31_2 : rf0 31 2 = some 34 := rfl
theorem rf_37_0 : rf0 37 0 = some 38 := rfl
theorem rf_39_0 : rf0 39 0 = some 40 := rfl
theorem rf_41_0 : rf0 41 0 = some 42 := rfl
theorem rf_43_0 : rf0 43 0 = some 44 := rfl
theorem rf_45_0 : rf0 45 0 = some 46 := rfl
theorem rf_47_0 : rf0 47 0 = some 48 := rfl
theorem rf_49_0 : rf0 49 0 = some 50 := rfl
theorem rf_51_0 : rf0 51 0 = some 52 := rfl
theorem rf_53_0 : rf0 53 0 = some 54 := rfl
theorem rf_55_0 : rf0 55 0 = some 56 := rfl
theorem rf_57_0 : rf0 57 0 = some 3 := rfl
theorem rf_57_1 : rf0 57 1 = some 58 := rfl
theorem rf_57_2 : rf0 57 2 = some 59 := rfl
theorem rf_57_3 : rf0 57 3 = some 60 := rfl
theorem rf_57_4 : rf0 57 4 = some 61 := rfl
theorem rf_57_5 : rf0 57 5 = some 62 := rfl
theorem rf_57_6 : rf0 57 6 = some 63 := rfl
theorem rf_57_7 : rf0 57 7 = some 64 := rfl
theorem rf_65_0 : rf0 65 0 = some 3 := rfl
theorem rf_65_1 : rf0 65 1 = some 66 := rfl
theorem rf_65_2 : rf0 65 2 = some 67 := rfl
theorem rf_65_3 : rf0 65 3 = some 68 := rfl
theorem rf_65_4 : rf0 65 4 = some 69 := rfl
theorem rf_65_5 : rf0 65 5 = some 70 := rfl
theorem rf_65_6 : rf0 65 6 = some 71 := rfl
theorem rf_65_7 : rf0 65 7 = some 72 := rfl
theorem rf_73_0 : rf0 73 0 = some 3 := rfl
theorem rf_73_1 : rf0 73 1 = some 74 := rfl
theorem rf_73_2 : rf0 73 2 = some 75 := rfl
theorem rf_73_3 : rf0 73 3 = some 76 := rfl
theorem rf_73_4 : rf0 73 4 = some 77 := rfl
theorem rf_73_5 : rf0 73 5 = some 78 := rfl
theorem rf_73_6 : rf0 73 6 = some 79 := rfl
theorem rf_73_7 : rf0 73 7 = some 80 := rfl
theorem rf_81_0 : rf0 81 0 = some 82 := rfl
theorem rf_81_1 : rf0 81 1 = some 83 := rfl
theorem rf_81_2 : rf0 81 2 = some 84 := rfl
theorem rf_81_3 : rf0 81 3 = some 85 := rfl
theorem rf_81_6 : rf0 81 6 = some 86 := rfl
theorem rf_81_7 : rf0 81 7 = some 87 := rfl
theorem rf_81_8 : rf0 81 8 = some 88 := rfl
theorem rf_81_10 : rf0 81 10 = some 89 := rfl
theorem rf_81_11 : rf0 81 11 = some 90 := rfl
theorem rf_81_12 : rf0 81 12 = some 91 := rfl
theorem rf_81_17 : rf0 81 17 = some 92 := rfl
theorem rf_81_22 : rf0 81 22 = some 93 := rfl
theorem rf_81_24 : rf0 81 24 = some 94 := rfl
theorem rf_81_25 : rf0 81 25 = some 95 := rfl
theorem rf_81_26 : rf0 81 26 = some 96 := rfl
theorem rf_81_27 : rf0 81 27 = some 97 := rfl
abbrev I2 : Type := Nat → Nat → Int32
abbrev G2 : Type := Nat → Nat → Int64
abbrev mk (I : I2) (G : G2) (L : Nat) : Sx := (98, I, G, rf0, L)
def w2 (I : I2) (k j : Nat) (v : Int32) : I2 := fun k' j' => if k' = k then (if j' = j then v else I k' j') else I k' j'
def g2 (G : G2) (k j : Nat) (v : Int64) : G2 := fun k' j' => if k' = k then (if j' = j then v else G k' j') else G k' j'
theorem w2_eq (I : I2) (k j : Nat) (v : Int32) : va_up I k (upd (I k) j v) = w2 I k j v := by
  funext k' j'
  unfold va_up w2 upd
  by_cases h : k' = k
  · subst h
    simp
  · simp [h]
theorem g2_eq (G : G2) (k j : Nat) (v : Int64) : va_up G k (va_up (G k) j v) = g2 G k j v := by
  funext k' j'
  unfold va_up g2
  by_cases h : k' = k
  · subst h
    simp
  · simp [h]
theorem w2_app (I : I2) (k j : Nat) (v : Int32) (k' j' : Nat) : w2 I k j v k' j' = if k' = k then (if j' = j then v else I k' j') else I k' j' := rfl
theorem g2_app (G : G2) (k j : Nat) (v : Int64) (k' j' : Nat) : g2 G k j v k' j' = if k' = k then (if j' = j then v else G k' j') else G k' j' := rfl
theorem w2_n (I : I2) {k j : Nat} {v : Int32} {k' : Nat} (h : k' ≠ k) : w2 I k j v k' = I k' := by
  funext j'
  simp [w2, h]
def ocs (k ci : Nat) : Bool := Nat.blt k 98 && (Nat.beq (shp k).1 0 && Nat.beq (shp k).2 ci)
def aws (t k : Nat) : Nat := bif Nat.blt k 98 && Nat.beq (shp k).1 t then (shp k).2 else 0
section MK
variable (I : I2) (G : G2) (L : Nat)
theorem mk_oc (k ci : Nat) : oc (mk I G L) k ci = ocs k ci := rfl
theorem mk_aw (t k : Nat) : aw (mk I G L) t k = aws t k := rfl
theorem mk_al {k : Nat} (h : k < 98) : al (mk I G L) k = aws 1 k := by
  unfold al
  rw [show Nat.beq k 1000 = false from Bool.eq_false_iff.mpr (fun q => by have := beq_s q; omega), show Nat.beq k 1001 = false from Bool.eq_false_iff.mpr (fun q => by have := beq_s q; omega)]
  rfl
theorem mk_isa (t k : Nat) : isa (mk I G L) t k = (Nat.blt k 98 && Nat.beq (shp k).1 t) := rfl
theorem mk_iob (k : Nat) : iob (mk I G L) k = (Nat.blt k 98 && Nat.beq (shp k).1 0) := rfl
theorem mk_sI (k j : Nat) (v : Int32) : sI (mk I G L) k j v = mk (w2 I k j v) G L := by
  unfold sI
  simp only [w2_eq]
theorem mk_sL (k j : Nat) (v : Int64) : sL (mk I G L) k j v = mk I (g2 G k j v) L := by
  unfold sL
  simp only [g2_eq]
theorem mk_i : (mk I G L).2.1 = I := rfl
theorem mk_g : (mk I G L).2.2.1 = G := rfl
theorem mk_r : (mk I G L).2.2.2.1 = rf0 := rfl
theorem mk_l : (mk I G L).2.2.2.2 = L := rfl
end MK
theorem lt_ap {α : Type} (e : Sx) (F : Sx → α) : lt e F = F e := rfl
theorem oc_0 : ocs 0 11 = true := rfl
theorem oc_81 : ocs 81 12 = true := rfl
theorem oc_10 : ocs 10 4 = true := rfl
theorem oc_18 : ocs 18 4 = true := rfl
theorem oc_27 : ocs 27 7 = true := rfl
theorem oc_28 : ocs 28 10 = true := rfl
theorem oc_31 : ocs 31 3 = true := rfl
theorem oc_row : ∀ {r : Nat}, r < 6 → ocs (37 + 2 * r) 8 = true := by decide
theorem oc_txt : ∀ {r : Nat}, r < 4 → ocs (49 + 2 * r) 8 = true := by decide
theorem oc_kpt : ∀ {r : Nat}, r < 3 → ocs (57 + 8 * r) 4 = true := by decide
theorem rf_row : ∀ {r : Nat}, r < 6 → rf0 1 r = some (37 + 2 * r) ∧ rf0 (37 + 2 * r) 0 = some (38 + 2 * r) ∧ aws 1 (38 + 2 * r) = 40 := by decide
theorem rf_txt : ∀ {r : Nat}, r < 4 → rf0 2 r = some (49 + 2 * r) ∧ rf0 (49 + 2 * r) 0 = some (50 + 2 * r) ∧ aws 1 (50 + 2 * r) = 60 := by decide
theorem rf_kpt : ∀ {r : Nat}, r < 3 → rf0 26 r = some (57 + 8 * r) := by decide
/-! numbers -/
theorem inb_nI {n N : Nat} (h : n < N) (hN : N < 2 ^ 31) : inb (nI n) N = true := by
  have := vp_in_nI h hN
  unfold vp_in at this
  unfold inb
  simpa using this
theorem bs_some {α β : Type} (a : α) (f : α → Option β) : (some a).bind f = f a := rfl
theorem i32_0 : (0 : Int32) = nI 0 := rfl
/-- an int is below 0, or a small number, or not below a bound -/
theorem ix {x : Int32} (n : Nat) (hn : n < 2 ^ 31) : x < 0 ∨ (¬ x < 0 ∧ nI n ≤ x) ∨ ∃ j, j < n ∧ x = nI j := by
  rcases pk_ix x hn with h | h | h
  · exact Or.inl h
  · by_cases h0 : x < 0
    · exact Or.inl h0
    · exact Or.inr (Or.inl ⟨h0, h⟩)
  · exact Or.inr (Or.inr h)
/-! ===== who is there: refusals that class and reference share ===== -/
theorem p_noRow (x : Int32) (S : Sx) : m14 x S = some (if x < 0 ∨ ¬ x < 6 then 1 else 0, S) := by
  unfold m14
  by_cases h1 : x < 0
  · simp [h1]
  · by_cases h2 : x < 6
    · simp [h1, h2]
    · simp [h1, h2]
theorem p_find (f : Nat) (hf : f < 6) (I : I2) (G : G2) (L : Nat) : m15 0 (nI f) (mk I G L) = some (-3, mk (w2 (w2 I 0 11 (nI f)) 36 f (I 36 f + 1)) G L) := by
  unfold m15
  have hc : (nI f).toNatClampNeg = f := nI_clamp (by omega)
  have hi : inb (nI f) 6 = true := inb_nI hf (by decide)
  simp only [mk_oc, oc_0, mk_sI, lt_ap, mk_r, rf_0_10, bs_some, mk_al _ _ _ (show 36 < 98 by decide), mk_aw, mk_i, if_true, hc]
  have e1 : aws 1 36 = 6 := rfl
  simp only [e1, hi, if_true, w2_n _ (show 36 ≠ 0 by decide)]
