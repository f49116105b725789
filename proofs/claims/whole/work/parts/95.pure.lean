theorem pure_law : ∀ (L : Nat) (xs : Nat → Int32), L ≤ 384 → ∃ S1, m239 1000 (S0x L xs) = some (1, S1) := by
  intro L xs hL
  obtain ⟨I, G, R, h⟩ := dn_tup L xs nlk1
  have hi : Inv I G := inv_first h
  have hr : R = rf0 := dn_mk h
  subst hr
  have n0 : (dn L xs oL0).1 = 81 := (dn_n L xs oL0).trans nlk0
  have n1 : (S0x L xs).1 = 0 := rfl
  have ha : nb (S0x L xs) 0 11 = true := rfl
  have hb : nb (dn L xs oL0) 0 12 = true := by
    unfold nb
    rw [n0]
    rfl
  have q0 := e_m0 L xs
  have q1 := e_m147 L xs
  obtain ⟨S1, e⟩ := law_loop hL L 0 1000 I G (by omega) (by omega) (by omega) hi
  have e : l239_18 1000 1000 0 81 (nI 0) (98, I, G, rf0, L) = some (1, S1) := e
  refine ⟨S1, ?_⟩
  rw [f_m239, if_pos ha, lt_ap, n1, q0, bn_some, if_pos hb, lt_ap, n0, q1, bn_some, ← h, li_0]
  exact e
