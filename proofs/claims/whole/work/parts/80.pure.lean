theorem pure_main {L : Nat} (hL : L ≤ 3072) (xs : Nat → Int32) : ∃ hz : abH, F_L_law L xs [] = some (1, hz) := sorry
