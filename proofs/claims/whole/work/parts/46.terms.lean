/-! TERMS -/
def nx (n : Nat) : Nat := (n * 1103515245 + 12345) % 2147483648
def dr (n d : Nat) : Nat := (nx n / 65536) % d
theorem nx_lt (n : Nat) : nx n < 2147483648 := Nat.mod_lt _ (by decide)
theorem l_div {a b : Nat} (ha : a < 9223372036854775808) (hb : b < 9223372036854775808) : lN a / lN b = lN (a / b) := (Int64.ofNat_div ha hb).symm
theorem l_and (a b : Nat) : lN a &&& lN b = lN (a &&& b) := by
  apply Int64.toBitVec_inj.1
  show BitVec.ofNat 64 a &&& BitVec.ofNat 64 b = BitVec.ofNat 64 (a &&& b)
  rw [BitVec.ofNat_and]
theorem l_sub {a b : Nat} (h : b ≤ a) : lN a - lN b = lN (a - b) := (Int64.ofNat_sub a b h).symm
theorem l_mod {a d : Nat} (ha : a < 9223372036854775808) (hd : d < 9223372036854775808) : lN a - lN a / lN d * lN d = lN (a % d) := by
  have h2 : a / d * d ≤ a := Nat.div_mul_le_self a d
  rw [l_div ha hd, lN_mul, l_sub h2]
  congr 1
  have h3 := Nat.div_add_mod a d
  rw [Nat.mul_comm] at h3
  omega
theorem dzl_ne {α : Type} {y : Int64} (h : ¬ y = 0) (K : Option α) : dzl y K = K := by unfold dzl; rw [if_neg h]
theorem lcg_c {n : Nat} (h : n < 2147483648) : (lN n * 1103515245 + 12345) - (lN n * 1103515245 + 12345) / 2147483648 * 2147483648 = lN (nx n) := by
  have e : lN n * 1103515245 + 12345 = lN (n * 1103515245 + 12345) := by
    rw [show (1103515245 : Int64) = lN 1103515245 from rfl, show (12345 : Int64) = lN 12345 from rfl, lN_mul, lN_add]
  rw [e]
  exact l_mod (a := n * 1103515245 + 12345) (d := 2147483648) (by omega) (by omega)
theorem lcg_m (n : Nat) : (1103515245 * lN n + 12345) &&& 2147483647 = lN (nx n) := by
  have e : 1103515245 * lN n + 12345 = lN (n * 1103515245 + 12345) := by
    rw [show (1103515245 : Int64) = lN 1103515245 from rfl, show (12345 : Int64) = lN 12345 from rfl, lN_mul, lN_add, Nat.mul_comm]
  rw [e, show (2147483647 : Int64) = lN 2147483647 from rfl, l_and, show (2147483647 : Nat) = 2 ^ 31 - 1 from rfl, Nat.and_two_pow_sub_one_eq_mod]
  rfl
theorem drw {n d : Nat} (hd : 1 ≤ d ∧ d < 2147483648) : ((lN (nx n) / 65536) - (lN (nx n) / 65536) / (nI d).toInt64 * (nI d).toInt64).toInt32 = nI (dr n d) := by
  have h := nx_lt n
  rw [nI_l hd.2, show (65536 : Int64) = lN 65536 from rfl, l_div (by omega) (by omega), l_mod (Nat.lt_of_le_of_lt (Nat.div_le_self _ _) (by omega)) (by omega), lN_i]
  rfl
section TE
variable {s s' : Nat → Nat → Int32} {l : Nat → Nat → Int64} {q : Nat → Nat → Option Nat} {P : List Nat} {r : Nat → Nat → Nat}
theorem z65 : ¬ (65536 : Int64) = 0 := by decide
theorem z31 : ¬ (2147483648 : Int64) = 0 := by decide
theorem zd {d : Nat} (hd : 1 ≤ d ∧ d < 2147483648) : ¬ (nI d).toInt64 = 0 := by
  rw [nI_l hd.2]
  show ¬ lN d = lN 0
  rw [lN_eq hd.2 (by omega)]; omega
theorem draw_c {n d : Nat} (hn : n < 2147483648) (hd : 1 ≤ d ∧ d < 2147483648) (h : l 38 0 = lN n) : F_X9_draw 38 (nI d) (hp s l q P) = some (nI (dr n d), hp s (us l 38 (va_up (l 38) 0 (lN (nx n)))) q P) := by
  have e1 : ¬ nI d < 1 := by
    intro w
    rw [show (1 : Int32) = nI 1 from rfl, nI_ltI hd.2 (by omega)] at w
    omega
  have e2 : us l 38 (va_up (l 38) 0 (lN (nx n))) 38 0 = lN (nx n) := by rw [us_self]; exact va_up_self _ _ _
  unfold F_X9_draw
  simp only [G_gJ, G_sJ, sbd, h, lcg_c hn, dzl_ne z31, dzl_ne z65, dzl_ne (zd hd), if_neg e1, e2, drw hd]
theorem draw_m {n d : Nat} (hd : 1 ≤ d ∧ d < 2147483648) (h : l 39 24 = lN n) : F_X12_draw 39 (nI d) (hp s l q P) = some (nI (dr n d), hp s (us l 39 (va_up (l 39) 24 (lN (nx n)))) q P) := by
  have e2 : us l 39 (va_up (l 39) 24 (lN (nx n))) 39 24 = lN (nx n) := by rw [us_self]; exact va_up_self _ _ _
  unfold F_X12_draw
  simp only [G_gJ, G_sJ, sbd, h, lcg_m, dzl_ne z65, dzl_ne (zd hd), e2, drw hd]
end TE
