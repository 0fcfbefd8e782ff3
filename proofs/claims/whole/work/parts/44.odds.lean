/-! ODDS -/
def oA (t : Nat) (c : Nat → Bool) : Nat → Nat
  | 0 => 0
  | k + 1 => oA t c k * 10 + (if c k = true then t ^ k * (10 - t) else 0)
theorem oA_ext {t : Nat} {c d : Nat → Bool} : ∀ n, (∀ j, j < n → c j = d j) → oA t c n = oA t d n
  | 0, _ => rfl
  | n + 1, h => by
    simp only [oA]
    rw [h n (by omega), oA_ext n (fun j hj => h j (by omega))]
def od (a b w : Int32) : Int32 := (F_X11_inLowestTerms a b w).getD 0
set_option maxRecDepth 100000 in
theorem od_all : ∀ n, n < 7 → ∀ t, t < 11 → ∀ m, m < 64 →
    F_X11_inLowestTerms (nI (oA t m.testBit n)) (nI (10 ^ n)) 1 = some (od (nI (oA t m.testBit n)) (nI (10 ^ n)) 1) ∧
    F_X11_inLowestTerms (nI (oA t m.testBit n)) (nI (10 ^ n)) 0 = some (od (nI (oA t m.testBit n)) (nI (10 ^ n)) 0) ∧
    ((F_X12_divisor (nI (oA t m.testBit n)) (nI (10 ^ n))).bind fun v => dz v (some (nI (oA t m.testBit n) / v))) = some (od (nI (oA t m.testBit n)) (nI (10 ^ n)) 1) ∧
    ((F_X12_divisor (nI (oA t m.testBit n)) (nI (10 ^ n))).bind fun v => dz v (some (nI (10 ^ n) / v))) = some (od (nI (oA t m.testBit n)) (nI (10 ^ n)) 0) := by decide +kernel
