theorem pure_law (N : Nat) (xs : Nat → Int32) (hN : N ≤ 3072) : ∃ (k n : Nat) (σr : ZS), fW_law_18 k N xs n 0 zs0 = some (1, σr) := sorry
