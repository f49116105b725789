/-! ===== what holds when both objects stand; the law ===== -/
theorem ilk_hi {k j : Nat} (h : 98 ≤ k) : ∀ o, okO o = true → ilk o k j = 0
  | [], _ => rfl
  | x :: o, hk => by
    obtain ⟨_, h5, _, _, hk'⟩ := okO_c hk
    unfold ilk
    rw [bqF (show ¬ k = x.2.1 by omega), cond_false]
    exact ilk_hi h o hk'
theorem i0_r : ∀ r, r < 6 → ilk oL1 (37 + 2 * r) 1 = 2 ∧ ilk oL1 82 r = 2 := by decide +kernel
theorem i0_t : ∀ r, r < 4 → ilk oL1 (49 + 2 * r) 1 = 2 ∧ ilk oL1 84 r = 2 := by decide +kernel
theorem i0_f : ∀ f, f < 6 → ilk oL1 36 f = 1 ∧ ilk oL1 92 f = 1 := by decide +kernel
theorem i0_o : ilk oL1 0 11 = 1 ∧ ilk oL1 81 16 = 1 ∧ ilk oL1 0 12 = 1 ∧ ilk oL1 81 13 = 1 ∧ ilk oL1 81 4 = 1 ∧ ilk oL1 81 5 = 1 ∧ ilk oL1 81 9 = 1 := by decide +kernel
theorem i0_c : ilk oL1 10 8 = 1 ∧ ilk oL1 10 9 = 1 ∧ ilk oL1 10 10 = 1 ∧ ilk oL1 10 11 = 1 ∧ ilk oL1 10 12 = 1 ∧ ilk oL1 10 13 = 1 ∧ ilk oL1 10 14 = 1 ∧ ilk oL1 10 15 = 1 := by decide +kernel
theorem i0_v : ∀ k, k < 4 → ilk oL1 88 k = 1 := by decide +kernel
theorem i0_k : ∀ k, k < 3 → ilk oL1 (57 + 8 * k) 9 = 1 ∧ ilk oL1 91 k = 1 := by decide +kernel
theorem g0_a : glk oL1 0 13 = 0 ∧ glk oL1 81 14 = 0 ∧ glk oL1 0 14 = 1 ∧ glk oL1 81 15 = 1 := by decide +kernel
theorem inv_first {L : Nat} {xs : Nat → Int32} {I : I2} {G : G2} {R : Nat → Nat → Option Nat} (h : ((98, I, G, R, L) : Sx) = dn L xs oL1) : Inv I G := by
  have z0 : ∀ k j, ilk oL1 k j = 1 → I k j = nI 0 := by
    intro k j e
    have q : I k j = (dn L xs oL1).2.1 k j := by rw [← h]
    rw [q, dn_i L xs k j oL1 okO1, e]
    rfl
  have z1 : ∀ k j, ilk oL1 k j = 2 → I k j = -nI 1 := by
    intro k j e
    have q : I k j = (dn L xs oL1).2.1 k j := by rw [← h]
    rw [q, dn_i L xs k j oL1 okO1, e]
    rfl
  have zg : ∀ k j, G k j = lN (glk oL1 k j) := by
    intro k j
    have q : G k j = (dn L xs oL1).2.2.1 k j := by rw [← h]
    rw [q, dn_g L xs k j oL1 okO1]
  obtain ⟨o1, o2, o3, o4, o5, o6, o7⟩ := i0_o
  obtain ⟨c1, c2, c3, c4, c5, c6, c7, c8⟩ := i0_c
  obtain ⟨g1, g2, g3, g4⟩ := g0_a
  refine ⟨fun r hr => Or.inl ⟨z1 _ _ (i0_r r hr).1, z1 _ _ (i0_r r hr).2⟩, fun r hr => Or.inl ⟨z1 _ _ (i0_t r hr).1, z1 _ _ (i0_t r hr).2⟩, ⟨?_, fun f hf => ?_⟩, ⟨?_, ?_, ?_⟩, fun j hj => ?_, ?_⟩
  · rw [z0 _ _ o1, z0 _ _ o2]
  · rw [z0 _ _ (i0_f f hf).1, z0 _ _ (i0_f f hf).2]
  · rw [z0 _ _ o3, z0 _ _ o4]
  · rw [zg, zg, g1, g2]
  · rw [zg, zg, g3, g4]
  · have q : I 1001 j = (dn L xs oL1).2.1 1001 j := by rw [← h]
    rw [q, dn_i L xs 1001 j oL1 okO1, ilk_hi (by omega) oL1 okO1, if_pos rfl]
    rfl
  · refine ⟨(0, 0, fun _ => 0, fun _ => 0), fun _ => 0, ⟨Or.inl ⟨rfl, rfl⟩, fun i hi => absurd hi (Nat.not_lt_zero i), rfl, rfl, by decide, rfl⟩, ⟨fun _ => 0, 0, ⟨by decide, fun _ => rfl, fun d hd => absurd hd (Nat.not_lt_zero d)⟩, ⟨⟨z0 _ _ c1, z0 _ _ c2, z0 _ _ c4, z0 _ _ c5, z0 _ _ c6, z0 _ _ c7, fun i hi => absurd hi (Nat.not_lt_zero i)⟩, ⟨z0 _ _ c3, fun i hi => absurd hi (Nat.not_lt_zero i)⟩, z0 _ _ c8, fun d hd => absurd hd (Nat.not_lt_zero d)⟩, ⟨z0 _ _ o5, z0 _ _ o6, fun i hi => absurd hi (Nat.not_lt_zero i)⟩, fun k hk => ?_, fun d hd => absurd hd (Nat.not_lt_zero d), z0 _ _ o7⟩, fun k hk => Or.inl ⟨z0 _ _ (i0_k k hk).1, z0 _ _ (i0_k k hk).2⟩⟩
    have hk4 : k < 4 := by
      rcases hk with hk | hk | hk
      · exact hk
      · have : 4 ≤ k ∧ k < 4 + 0 := hk
        omega
      · have : 10 ≤ k ∧ k < 10 + 0 := hk
        omega
    rw [Nat.zero_add]
    exact z0 _ _ (i0_v k hk4)
theorem nlk0 : nlk oL0 = 81 := by decide +kernel
theorem dn_tup (L : Nat) (xs : Nat → Int32) {o : List (Nat × Nat × Nat × Nat)} {n : Nat} (h : nlk o = n) : ∃ I G R, ((n, I, G, R, L) : Sx) = dn L xs o := by
  have e1 := dn_n L xs o
  have e2 := dn_l L xs o
  generalize dn L xs o = S at e1 e2 ⊢
  obtain ⟨a, I, G, R, l⟩ := S
  have e1 : a = nlk o := e1
  have e2 : l = L := e2
  subst e2
  rw [← h, ← e1]
  exact ⟨I, G, R, rfl⟩
theorem e_m0 (L : Nat) (xs : Nat → Int32) : m0 0 (nwS (S0x L xs)) = some (dn L xs oL0) := by
  obtain ⟨I, G, R, h⟩ := dn_tup L xs (o := [(0, 0, 0, 0)]) (n := 1) rfl
  have e := ct0 (F := some) (r := some (dn L xs oL0)) h (fun I G R q => by rw [q])
  rw [h] at e
  rw [← e]
  show m0 0 (dn L xs [(0, 0, 0, 0)]) = (m0 0 (dn L xs [(0, 0, 0, 0)])).bind some
  cases m0 0 (dn L xs [(0, 0, 0, 0)]) <;> rfl
theorem e_m147 (L : Nat) (xs : Nat → Int32) : m147 81 (nwS (dn L xs oL0)) = some (dn L xs oL1) := by
  obtain ⟨I, G, R, h⟩ := dn_tup L xs (o := (0, 81, 0, 0) :: oL0) (n := 82) (by decide +kernel)
  have e := ct1 (F := some) (r := some (dn L xs oL1)) h (fun I G R q => by rw [q])
  rw [h] at e
  rw [← e]
  show m147 81 (dn L xs ((0, 81, 0, 0) :: oL0)) = (m147 81 (dn L xs ((0, 81, 0, 0) :: oL0))).bind some
  cases m147 81 (dn L xs ((0, 81, 0, 0) :: oL0)) <;> rfl
