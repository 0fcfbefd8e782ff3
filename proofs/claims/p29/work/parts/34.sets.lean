/-! sets of bits, counts -/
def Mk (c : Nat → Bool) : Nat → Nat → Nat → Nat
  | 0, _, acc => acc
  | n + 1, i, acc => Mk c n (i + 1) (if c i = true then acc ||| 2 ^ i else acc)
theorem Mk_lt (c : Nat → Bool) : ∀ n i acc, acc < 2 ^ i → Mk c n i acc < 2 ^ (i + n)
  | 0, _, _, h => h
  | n + 1, i, acc, h => by
    unfold Mk
    have e : i + (n + 1) = (i + 1) + n := by omega
    rw [e]
    apply Mk_lt c n (i + 1)
    have h2 : 2 ^ i < 2 ^ (i + 1) := Nat.pow_lt_pow_right (by decide) (by omega)
    split
    · exact Nat.or_lt_two_pow (by omega) h2
    · omega
theorem Mk_bit (c : Nat → Bool) : ∀ n i acc j, (Mk c n i acc).testBit j = (acc.testBit j || (decide (i ≤ j) && decide (j < i + n) && c j))
  | 0, i, acc, j => by
    unfold Mk
    have : (decide (i ≤ j) && decide (j < i + 0)) = false := by
      rw [Bool.and_eq_false_iff]; simp; omega
    rw [this]; simp
  | n + 1, i, acc, j => by
    unfold Mk
    rw [Mk_bit c n (i + 1)]
    by_cases e : i = j
    · subst e
      have h1 : decide (i + 1 ≤ i) = false := by simp
      have h2 : decide (i ≤ i) = true := by simp
      have h3 : decide (i < i + (n + 1)) = true := by simp
      rw [h1, h2, h3]
      cases c i <;> simp [Nat.testBit_or, Nat.testBit_two_pow_self]
    · have h1 : decide (i + 1 ≤ j) = decide (i ≤ j) := by rw [decide_eq_decide]; omega
      have h2 : decide (j < i + 1 + n) = decide (j < i + (n + 1)) := by rw [decide_eq_decide]; omega
      rw [h1, h2]
      split
      · rw [Nat.testBit_or, Nat.testBit_two_pow_of_ne e]; simp
      · rfl
theorem Mk_ext {c d : Nat → Bool} : ∀ n i acc, (∀ j, i ≤ j → j < i + n → c j = d j) → Mk c n i acc = Mk d n i acc
  | 0, _, _, _ => rfl
  | n + 1, i, acc, h => by
    unfold Mk
    rw [h i (by omega) (by omega)]
    exact Mk_ext n (i + 1) _ (fun j h1 h2 => h j (by omega) (by omega))
def Cn (c : Nat → Bool) : Nat → Nat → Nat
  | 0, _ => 0
  | n + 1, i => (if c i = true then 1 else 0) + Cn c n (i + 1)
theorem Cn_le (c : Nat → Bool) : ∀ n i, Cn c n i ≤ n
  | 0, _ => Nat.le_refl _
  | n + 1, i => by
    have := Cn_le c n (i + 1)
    unfold Cn; split <;> omega
theorem Cn_ext {c d : Nat → Bool} : ∀ n i, (∀ j, i ≤ j → j < i + n → c j = d j) → Cn c n i = Cn d n i
  | 0, _, _ => rfl
  | n + 1, i, h => by
    unfold Cn
    rw [h i (by omega) (by omega), Cn_ext n (i + 1) (fun j h1 h2 => h j (by omega) (by omega))]
/-- how many bits -/
def pc (m : Nat) : Nat := Cn (fun i => m.testBit i) 13 0
theorem pc_le (m : Nat) : pc m ≤ 13 := Cn_le _ 13 0
set_option maxRecDepth 100000 in
theorem bitC_ab : ∀ a, a < 128 → ∀ b, b < 64 → F_J6_bitCount_0f7a4 (nI (a * 64 + b)) = some (nI (pc (a * 64 + b))) := by decide +kernel
theorem bitC_ok {m : Nat} (h : m < 8192) : F_J6_bitCount_0f7a4 (nI m) = some (nI (pc m)) := by
  have e : m / 64 * 64 + m % 64 = m := by omega
  have := bitC_ab (m / 64) (by omega) (m % 64) (by omega)
  rw [e] at this
  exact this
section SE
variable {s : Nat → Nat → Int32} {l : Nat → Nat → Int64} {q : Nat → Nat → Option Nat} {P : List Nat} {r : Nat → Nat → Nat}
/-- who stands on a tile, who covers it -/
def onT (r : Nat → Nat → Nat) (t : Nat) : Nat := Mk (fun i => decide (r 3 i = t)) (r 0 0) 0 0
def covT (r : Nat → Nat → Nat) (t : Nat) : Nat := Mk (fun i => (cv r i (r 5 0)).testBit t) (r 0 0) 0 0
theorem standing_loop (h : Ct s q P 6 r) (hO : Ok r) {t : Nat} (ht : t < 10) : ∀ (n i acc f : Nat), i + n = r 0 0 → n < f → F_X1_standingOn_B4 6 (nI t) (hp s l q P) f (nI acc) (nI i) = some (nI (Mk (fun i => decide (r 3 i = t)) n i acc))
  | _, _, _, 0, _, hf => absurd hf (by omega)
  | 0, i, acc, f + 1, hi, _ => by
    have h5 := hO.n5
    have e : ¬ nI i < nI (r 0 0) := nI_nlt (by omega) (by omega)
    unfold F_X1_standingOn_B4 Mk
    simp only [G_gI, some_bind, h.1.1, if_neg e]
  | n + 1, i, acc, f + 1, hi, hf => by
    have h5 := hO.n5
    have e : nI i < nI (r 0 0) := nI_lt (by omega) (by omega)
    have i5 : i < 5 := by omega
    have i31 : i < 31 := by omega
    have e2 : s 9 i = nI (r 3 i) := h.2.1.2.1 i
    have hr := hO.2.2.2.1 i
    have ih := fun a => standing_loop h hO ht n (i + 1) a f (by omega) (by omega)
    unfold F_X1_standingOn_B4 Mk
    simp only [G_gI, G_gR, G_ga, i5, some_bind, h.1.1, if_pos e, e2, nI_eq (show r 3 i < 2 ^ 31 by omega) (show t < 2 ^ 31 by omega), nm, n_shl i i31, n_or, nI_1, ih, decide_eq_true_eq]
    split <;> rfl
theorem standing_ok (h : Ct s q P 6 r) (hO : Ok r) {t : Nat} (ht : t < 10) : F_X1_standingOn 6 (nI t) (hp s l q P) = some (nI (onT r t)) :=
  standing_loop h hO ht (r 0 0) 0 0 200 (by omega) (by have := hO.n5; omega)
theorem covering_loop (h : Ct s q P 6 r) (hO : Ok r) {t : Nat} (ht : t < 10) : ∀ (n i acc f : Nat), i + n = r 0 0 → n < f → F_X1_covering_B4 6 (nI t) (hp s l q P) f (nI acc) (nI i) = some (nI (Mk (fun i => (cv r i (r 5 0)).testBit t) n i acc))
  | _, _, _, 0, _, hf => absurd hf (by omega)
  | 0, i, acc, f + 1, hi, _ => by
    have h5 := hO.n5
    have e : ¬ nI i < nI (r 0 0) := nI_nlt (by omega) (by omega)
    unfold F_X1_covering_B4 Mk
    simp only [G_gI, some_bind, h.1.1, if_neg e]
  | n + 1, i, acc, f + 1, hi, hf => by
    have h5 := hO.n5
    have e : nI i < nI (r 0 0) := nI_lt (by omega) (by omega)
    have i5 : i < r 0 0 := by omega
    have i31 : i < 31 := by omega
    have he : r 5 0 < 13 := hO.2.2.2.2.2.1
    have hl := cv_lt hO i he
    have ih := fun a => covering_loop h hO ht n (i + 1) a f (by omega) (by omega)
    unfold F_X1_covering_B4 Mk
    simp only [G_gI, G_ko, some_bind, h.1.1, h.1.2.1, if_pos e, shade_ok h hO i5 he, n_bit0 (show cv r i (r 5 0) < 2147483648 by omega) (show t < 31 by omega), nm, n_shl i i31, n_or, nI_1, ih]
    cases (cv r i (r 5 0)).testBit t <;> simp
theorem covering_ok (h : Ct s q P 6 r) (hO : Ok r) {t : Nat} (ht : t < 10) : F_X1_covering 6 (nI t) (hp s l q P) = some (nI (covT r t)) :=
  covering_loop h hO ht (r 0 0) 0 0 200 (by omega) (by have := hO.n5; omega)
theorem onT_lt (hO : Ok r) (t : Nat) : onT r t < 32 := by
  have h1 := Mk_lt (fun i => decide (r 3 i = t)) (r 0 0) 0 0 (by decide)
  have h2 : 2 ^ (0 + r 0 0) ≤ 2 ^ 5 := Nat.pow_le_pow_right (by decide) (by have := hO.n5; omega)
  unfold onT; omega
theorem covT_lt (hO : Ok r) (t : Nat) : covT r t < 32 := by
  have h1 := Mk_lt (fun i => (cv r i (r 5 0)).testBit t) (r 0 0) 0 0 (by decide)
  have h2 : 2 ^ (0 + r 0 0) ≤ 2 ^ 5 := Nat.pow_le_pow_right (by decide) (by have := hO.n5; omega)
  unfold covT; omega
end SE
