/-! THE LAW'S ANSWER on every script of at most 3072 ints -/
theorem pure_main {L : Nat} (hL : L ≤ 3072) (xs : Nat → Int32) : ∃ hz : abH, F_L_law L xs [] = some (1, hz) := by
  have h := law_loop (xs := xs) hL 513 0 (fun _ _ => 0) (fun _ _ => 0) (fun _ _ => none) [] rfl (Nat.zero_le _) Iv_0
  rw [init_ok]
  exact h
