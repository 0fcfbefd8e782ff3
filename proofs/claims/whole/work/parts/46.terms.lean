/-! TERMS -/
def nx (n : Nat) : Nat := (n * 1103515245 + 12345) % 2147483648
def dr (n d : Nat) : Nat := (nx n / 65536) % d
theorem nx_lt (n : Nat) : nx n < 2147483648 := Nat.mod_lt _ (by decide)
theorem l_div {a b : Nat} (ha : a < 9223372036854775808) (hb : b < 9223372036854775808) : lN a / lN b = lN (a / b) := (Int64.ofNat_div ha hb).symm
theorem l_and (a b : Nat) : lN a &&& lN b = lN (a &&& b) := by
  apply Int64.toBitVec_inj.1
  show BitVec.ofNat 64 a &&& BitVec.ofNat 64 b = BitVec.ofNat 64 (a &&& b)
  rw [BitVec.ofNat_and]
theorem l_sub {a b : Nat} (h : b ≤ a) : lN a - lN b = lN (a - b) := (Int64.ofNat_sub a b h).symm
theorem l_mod {a d : Nat} (ha : a < 9223372036854775808) (hd : d < 9223372036854775808) : lN a - lN a / lN d * lN d = lN (a % d) := by
  have h2 : a / d * d ≤ a := Nat.div_mul_le_self a d
  rw [l_div ha hd, lN_mul, l_sub h2]
  congr 1
  have h3 := Nat.div_add_mod a d
  rw [Nat.mul_comm] at h3
  omega
theorem dzl_ne {α : Type} {y : Int64} (h : ¬ y = 0) (K : Option α) : dzl y K = K := by unfold dzl; rw [if_neg h]
theorem lcg_c {n : Nat} (h : n < 2147483648) : (lN n * 1103515245 + 12345) - (lN n * 1103515245 + 12345) / 2147483648 * 2147483648 = lN (nx n) := by
  have e : lN n * 1103515245 + 12345 = lN (n * 1103515245 + 12345) := by
    rw [show (1103515245 : Int64) = lN 1103515245 from rfl, show (12345 : Int64) = lN 12345 from rfl, lN_mul, lN_add]
  rw [e]
  exact l_mod (a := n * 1103515245 + 12345) (d := 2147483648) (by omega) (by omega)
theorem lcg_m (n : Nat) : (1103515245 * lN n + 12345) &&& 2147483647 = lN (nx n) := by
  have e : 1103515245 * lN n + 12345 = lN (n * 1103515245 + 12345) := by
    rw [show (1103515245 : Int64) = lN 1103515245 from rfl, show (12345 : Int64) = lN 12345 from rfl, lN_mul, lN_add, Nat.mul_comm]
  rw [e, show (2147483647 : Int64) = lN 2147483647 from rfl, l_and, show (2147483647 : Nat) = 2 ^ 31 - 1 from rfl, Nat.and_two_pow_sub_one_eq_mod]
  rfl
theorem drw {n d : Nat} (hd : 1 ≤ d ∧ d < 2147483648) : ((lN (nx n) / 65536) - (lN (nx n) / 65536) / (nI d).toInt64 * (nI d).toInt64).toInt32 = nI (dr n d) := by
  have h := nx_lt n
  rw [nI_l hd.2, show (65536 : Int64) = lN 65536 from rfl, l_div (by omega) (by omega), l_mod (Nat.lt_of_le_of_lt (Nat.div_le_self _ _) (by omega)) (by omega), lN_i]
  rfl
section TE
variable {s s' : Nat → Nat → Int32} {l : Nat → Nat → Int64} {q : Nat → Nat → Option Nat} {P : List Nat} {r : Nat → Nat → Nat}
theorem z65 : ¬ (65536 : Int64) = 0 := by decide
theorem z31 : ¬ (2147483648 : Int64) = 0 := by decide
theorem zd {d : Nat} (hd : 1 ≤ d ∧ d < 2147483648) : ¬ (nI d).toInt64 = 0 := by
  rw [nI_l hd.2]
  show ¬ lN d = lN 0
  rw [lN_eq hd.2 (by omega)]; omega
theorem draw_c {n d : Nat} (hn : n < 2147483648) (hd : 1 ≤ d ∧ d < 2147483648) (h : l 38 0 = lN n) : F_X9_draw 38 (nI d) (hp s l q P) = some (nI (dr n d), hp s (us l 38 (va_up (l 38) 0 (lN (nx n)))) q P) := by
  have e1 : ¬ nI d < 1 := by
    intro w
    rw [show (1 : Int32) = nI 1 from rfl, nI_ltI hd.2 (by omega)] at w
    omega
  have e2 : us l 38 (va_up (l 38) 0 (lN (nx n))) 38 0 = lN (nx n) := by rw [us_self]; exact va_up_self _ _ _
  unfold F_X9_draw
  simp only [G_gJ, G_sJ, sbd, h, lcg_c hn, dzl_ne z31, dzl_ne z65, dzl_ne (zd hd), if_neg e1, e2, drw hd]
theorem draw_m {n d : Nat} (hd : 1 ≤ d ∧ d < 2147483648) (h : l 39 24 = lN n) : F_X12_draw 39 (nI d) (hp s l q P) = some (nI (dr n d), hp s (us l 39 (va_up (l 39) 24 (lN (nx n)))) q P) := by
  have e2 : us l 39 (va_up (l 39) 24 (lN (nx n))) 39 24 = lN (nx n) := by rw [us_self]; exact va_up_self _ _ _
  unfold F_X12_draw
  simp only [G_gJ, G_sJ, sbd, h, lcg_m, dzl_ne z65, dzl_ne (zd hd), e2, drw hd]
/-- so many draws: for the first, stayed, the seed -/
def tB (r : Nat → Nat → Nat) (n : Nat) : Int := bal r (dr n (r 0 0)) (dr (nx n) (r 0 0)) (dr (nx (nx n)) 13)
def tF (r : Nat → Nat → Nat) (n : Nat) : Nat := if dr n (r 0 0) = dr (nx n) (r 0 0) then 0 else if 0 < tB r n then 1 else 0
def tS (r : Nat → Nat → Nat) (n : Nat) : Nat := if dr n (r 0 0) = dr (nx n) (r 0 0) then 0 else if tB r n = 0 then 1 else 0
def tmF (r : Nat → Nat → Nat) : Nat → Nat → Nat
  | 0, _ => 0
  | k + 1, n => tF r n + tmF r k (nx (nx (nx n)))
def tmS (r : Nat → Nat → Nat) : Nat → Nat → Nat
  | 0, _ => 0
  | k + 1, n => tS r n + tmS r k (nx (nx (nx n)))
def tmN : Nat → Nat → Nat
  | 0, n => n
  | k + 1, n => tmN k (nx (nx (nx n)))
theorem dr_lt (n : Nat) {d : Nat} (hd : 1 ≤ d) : dr n d < d := Nat.mod_lt _ (by omega)
theorem termsM_loop {T w : Nat} (hO : Ok r) (hp2 : 2 ≤ r 0 0) (hT : T ≤ 60) (hw : w < 3) (h : Md s r) : ∀ (k i f n x y : Nat) (l : Nat → Nat → Int64), l 39 24 = lN n → n < 2147483648 → i + k = T → k < f → ∃ l', F_X12_termsNow_B15 39 (nI T) (nI w) f (nI x) (nI y) (nI i) (hp s l q P) = some (if w = 0 then nI (x + tmF r k n) else if w = 1 then nI (y + tmS r k n) else nI (tmN k n), hp s l' q P)
  | _, _, 0, _, _, _, _, _, _, _, hf => absurd hf (by omega)
  | 0, i, f + 1, n, x, y, l, hl, hn, hi, _ => by
    refine ⟨l, ?_⟩
    rw [F_X12_termsNow_B15, if_neg (show ¬ nI i < nI T from nI_nlt (by omega) (by omega))]
    rcases (by omega : w = 0 ∨ w = 1 ∨ w = 2) with rfl | rfl | rfl
    · rw [if_pos (show nI 0 = 0 from rfl)]; rfl
    · rw [if_neg (show ¬ nI 1 = 0 by decide), if_pos (show nI 1 = 1 from rfl)]; rfl
    · rw [if_neg (show ¬ nI 2 = 0 by decide), if_neg (show ¬ nI 2 = 1 by decide)]
      simp only [G_gJ, sbd, hl, lN_i]
      rfl
  | k + 1, i, f + 1, n, x, y, l, hl, hn, hi, hf => by
    have n5 := hO.n5
    have hd : 1 ≤ r 0 0 ∧ r 0 0 < 2147483648 := by omega
    have h13 : 1 ≤ 13 ∧ 13 < 2147483648 := by omega
    have e0 : s 39 1 = nI (r 0 0) := h.1.1
    have d1 := draw_m (s := s) (q := q) (P := P) hd hl
    have m1 : us l 39 (va_up (l 39) 24 (lN (nx n))) 39 24 = lN (nx n) := by rw [us_self]; exact va_up_self _ _ _
    have d2 := draw_m (s := s) (q := q) (P := P) hd m1
    have m2 : us (us l 39 (va_up (l 39) 24 (lN (nx n)))) 39 (va_up (us l 39 (va_up (l 39) 24 (lN (nx n))) 39) 24 (lN (nx (nx n)))) 39 24 = lN (nx (nx n)) := by rw [us_self]; exact va_up_self _ _ _
    have d3 := draw_m (s := s) (q := q) (P := P) h13 m2
    have m3 : us (us (us l 39 (va_up (l 39) 24 (lN (nx n)))) 39 (va_up (us l 39 (va_up (l 39) 24 (lN (nx n))) 39) 24 (lN (nx (nx n))))) 39 (va_up (us (us l 39 (va_up (l 39) 24 (lN (nx n)))) 39 (va_up (us l 39 (va_up (l 39) 24 (lN (nx n))) 39) 24 (lN (nx (nx n)))) 39) 24 (lN (nx (nx (nx n))))) 39 24 = lN (nx (nx (nx n))) := by rw [us_self]; exact va_up_self _ _ _
    revert m3 d3 d2 d1
    generalize us (us (us l 39 (va_up (l 39) 24 (lN (nx n)))) 39 (va_up (us l 39 (va_up (l 39) 24 (lN (nx n))) 39) 24 (lN (nx (nx n))))) 39 (va_up (us (us l 39 (va_up (l 39) 24 (lN (nx n)))) 39 (va_up (us l 39 (va_up (l 39) 24 (lN (nx n))) 39) 24 (lN (nx (nx n)))) 39) 24 (lN (nx (nx (nx n))))) = l3
    generalize us (us l 39 (va_up (l 39) 24 (lN (nx n)))) 39 (va_up (us l 39 (va_up (l 39) 24 (lN (nx n))) 39) 24 (lN (nx (nx n)))) = l2
    generalize us l 39 (va_up (l 39) 24 (lN (nx n))) = l1
    intro d1 d2 d3 m3
    have q1 := dr_lt n hd.1
    have q2 := dr_lt (nx n) hd.1
    have q3 := dr_lt (nx (nx n)) (d := 13) (by omega)
    have hf1 := foundIn_ok (l := l3) (q := q) (P := P) h hO (show dr n (r 0 0) < 5 by omega) (show dr (nx n) (r 0 0) < 5 by omega) q3
    have hbl := bal_le hO (dr n (r 0 0)) (dr (nx n) (r 0 0)) (dr (nx (nx n)) 13)
    have d3' : F_X12_draw 39 13 (hp s l2 q P) = some (nI (dr (nx (nx n)) 13), hp s l3 q P) := d3
    have ih := fun a b => termsM_loop hO hp2 hT hw h k (i + 1) f (nx (nx (nx n))) a b l3 m3 (nx_lt _) (by omega) (by omega)
    have hstep : F_X12_termsNow_B15 39 (nI T) (nI w) (f + 1) (nI x) (nI y) (nI i) (hp s l q P) = F_X12_termsNow_B15 39 (nI T) (nI w) f (nI (x + tF r n)) (nI (y + tS r n)) (nI (i + 1)) (hp s l3 q P) := by
      rw [F_X12_termsNow_B15, if_pos (show nI i < nI T from nI_lt (by omega) (by omega))]
      simp only [G_gI, G_ko, sbd, e0, d1, d2, d3', bd2_s, hf1]
      unfold F_X12_termsNow_B76 tF tS tB
      have c1 : (nI (dr n (r 0 0)) = nI (dr (nx n) (r 0 0))) ↔ dr n (r 0 0) = dr (nx n) (r 0 0) := nI_eq (by omega) (by omega)
      by_cases g1 : dr n (r 0 0) = dr (nx n) (r 0 0)
      · rw [if_pos (c1.mpr g1), if_pos (c1.mpr g1), if_pos g1, if_pos g1]
        simp only [nm, Int32.add_zero, nI_1, Nat.add_zero]
      · have c2 := w_le0 (z := bal r (dr n (r 0 0)) (dr (nx n) (r 0 0)) (dr (nx (nx n)) 13)) (by omega) (by omega)
        have c3 : wI (bal r (dr n (r 0 0)) (dr (nx n) (r 0 0)) (dr (nx (nx n)) 13)) = 0 ↔ bal r (dr n (r 0 0)) (dr (nx n) (r 0 0)) (dr (nx (nx n)) 13) = 0 := by
          show _ = wI 0 ↔ _
          exact wI_eq (by omega) (by omega) (by omega) (by omega)
        rw [if_neg (fun z => g1 (c1.mp z)), if_neg g1, if_neg g1]
        simp only [if_neg (fun z => g1 (c1.mp z)), nm]
        revert c2 c3
        generalize bal r (dr n (r 0 0)) (dr (nx n) (r 0 0)) (dr (nx (nx n)) 13) = z
        intro c2 c3
        by_cases g2 : 0 < z
        · rw [if_neg (fun w => (c2.mp w) g2), if_pos g2, if_neg (fun w => by have := c3.mp w; omega), if_neg (by omega)]
          simp only [Int32.add_zero, nI_1, Nat.add_zero]
        · rw [if_pos (c2.mpr g2), if_neg g2]
          by_cases g3 : z = 0
          · rw [if_pos (c3.mpr g3), if_pos g3]
            simp only [Int32.add_zero, nI_1, Nat.add_zero]
          · rw [if_neg (fun w => g3 (c3.mp w)), if_neg g3]
            simp only [Int32.add_zero, nI_1, Nat.add_zero]
    obtain ⟨l', hl'⟩ := ih (x + tF r n) (y + tS r n)
    refine ⟨l', hstep.trans (hl'.trans ?_)⟩
    simp only [tmF, tmS, tmN, Nat.add_assoc]
end TE
