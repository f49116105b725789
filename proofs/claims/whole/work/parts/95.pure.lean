theorem pure_law : ∀ (L : Nat) (xs : Nat → Int32), L ≤ 384 → ∃ S1, m239 1000 (S0x L xs) = some (1, S1) := sorry
