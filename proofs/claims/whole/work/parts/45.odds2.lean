/-! ODDS: both sides -/
theorem od_c {n t : Nat} (c : Nat → Bool) (hn : n < 7) (ht : t < 11) :
    F_X11_inLowestTerms (nI (oA t c n)) (nI (10 ^ n)) 1 = some (od (nI (oA t c n)) (nI (10 ^ n)) 1) ∧
    F_X11_inLowestTerms (nI (oA t c n)) (nI (10 ^ n)) 0 = some (od (nI (oA t c n)) (nI (10 ^ n)) 0) ∧
    ((F_X12_divisor (nI (oA t c n)) (nI (10 ^ n))).bind fun v => dz v (some (nI (oA t c n) / v))) = some (od (nI (oA t c n)) (nI (10 ^ n)) 1) ∧
    ((F_X12_divisor (nI (oA t c n)) (nI (10 ^ n))).bind fun v => dz v (some (nI (10 ^ n) / v))) = some (od (nI (oA t c n)) (nI (10 ^ n)) 0) := by
  have h1 := Mk_lt c n 0 0 (by decide)
  have h2 : 2 ^ (0 + n) ≤ 2 ^ 6 := Nat.pow_le_pow_right (by decide) (by omega)
  have h3 : oA t c n = oA t (Mk c n 0 0).testBit n := oA_ext n (fun j hj => by
    rw [Mk_bit]
    have e1 : decide (0 ≤ j) = true := by simp
    have e2 : decide (j < 0 + n) = true := by simp; omega
    rw [e1, e2]; simp)
  have h := od_all n hn t ht (Mk c n 0 0) (by omega)
  rw [← h3] at h
  exact h
def oc (r : Nat → Nat → Nat) (a b k : Nat) : Bool := decide (0 < bal r a b ((r 5 0 + k) % 13))
def odV (r : Nat → Nat → Nat) (a b n t w : Nat) : Int32 := od (nI (oA t (oc r a b) n)) (nI (10 ^ n)) (if w = 0 then 1 else 0)
section OD
variable {s : Nat → Nat → Int32} {l : Nat → Nat → Int64} {q : Nat → Nat → Option Nat} {P : List Nat} {r : Nat → Nat → Nat}
theorem oc_le {z : Int} (h1 : -90 ≤ z) (h2 : z ≤ 90) : wI z ≤ 0 ↔ decide (0 < z) = false := by
  rw [w_le0 (by omega) (by omega)]; simp
theorem odds_loop {a b N t w : Nat} (h3 : s 3 7 = s 3 7) (h : Ct s q P 6 r) (hO : Ok r) (ha : a < r 0 0) (hb : b < r 0 0) (hN : N < 7) (ht : t < 11) (hw : w < 2) : ∀ (n k f : Nat), k + n = N → n < f → F_X11_odds_B61 3 (nI a) (nI b) (nI N) (nI t) (nI w) (hp s l q P) f (nI (oA t (oc r a b) k)) (nI (10 ^ k)) (nI (t ^ k)) (nI k) = some (odV r a b N t w)
  | _, _, 0, _, hf => absurd hf (by omega)
  | 0, k, f + 1, hk, _ => by
    have hk : k = N := hk
    subst hk
    have hc := od_c (oc r a b) hN ht
    rw [F_X11_odds_B61, if_neg (show ¬ nI k < nI k from nI_nlt (by omega) (by omega))]
    unfold odV
    rcases (by omega : w = 0 ∨ w = 1) with rfl | rfl
    · rw [if_pos (show nI 0 = 0 from rfl), hc.1]; rfl
    · rw [if_neg (show ¬ nI 1 = 0 by decide), hc.2.1]; rfl
  | n + 1, k, f + 1, hk, hf => by
    have he : r 5 0 < 13 := hO.2.2.2.2.2.1
    have hm : (r 5 0 + k) % 13 < 13 := Nat.mod_lt _ (by omega)
    have hmod := n_mod13 (r 5 0 + k) (by omega)
    have e5 : s 6 5 = nI (r 5 0) := h.1.2.1
    have hbal := balance_ok (l := l) h hO ha hb hm
    have hbl := bal_le hO a b ((r 5 0 + k) % 13)
    have ih := odds_loop h3 h hO ha hb hN ht hw n (k + 1) f (by omega) (by omega)
    have e1 : nI (oA t (oc r a b) k) * 10 = nI (oA t (oc r a b) k * 10) := n_mul _ 10
    have e2 : nI (10 ^ k) * 10 = nI (10 ^ (k + 1)) := by rw [show (10 : Int32) = nI 10 from rfl, n_mul, Nat.pow_succ]
    have e3 : nI (t ^ k) * nI t = nI (t ^ (k + 1)) := by rw [n_mul, Nat.pow_succ]
    have e4 : (10 : Int32) - nI t = nI (10 - t) := n_subn (a := 10) (by omega)
    rw [F_X11_odds_B61, if_pos (show nI k < nI N from nI_lt (by omega) (by omega))]
    simp only [G_gR, G_gI, G_ko, sbd, e5, nI_add, dz_13, hmod, hbal]
    have hoA : oA t (oc r a b) (k + 1) = oA t (oc r a b) k * 10 + (if decide (0 < bal r a b ((r 5 0 + k) % 13)) = true then t ^ k * (10 - t) else 0) := rfl
    by_cases g : wI (bal r a b ((r 5 0 + k) % 13)) ≤ 0
    · rw [if_pos g]
      rw [(oc_le hbl.1 hbl.2).mp g, if_neg (by decide), Nat.add_zero] at hoA
      unfold F_X11_odds_B97 F_X11_odds_B121
      rw [if_pos rfl]
      simp only [nm, e1, e2, e3, Int32.add_zero, nI_1]
      have hoA2 : oA t (oc r a b) (k + 1) = oA t (oc r a b) k * 10 := hoA
      rw [← hoA2]; exact ih
    · have g2 : decide (0 < bal r a b ((r 5 0 + k) % 13)) = true := by
        cases gg : decide (0 < bal r a b ((r 5 0 + k) % 13)) with
        | true => rfl
        | false => exact absurd ((oc_le hbl.1 hbl.2).mpr gg) g
      rw [if_neg g]
      rw [g2, if_pos rfl] at hoA
      unfold F_X11_odds_B97 F_X11_odds_B121
      rw [if_neg (by decide)]
      simp only [nm, e1, e2, e3, e4, n_mul, nI_add, nI_1]
      rw [← hoA]; exact ih
theorem odds_ok {a b N t w : Nat} (h : Ct s q P 6 r) (hO : Ok r) (ha : a < r 0 0) (hb : b < r 0 0) (hN : N < 7) (ht : t < 11) (hw : w < 2) : F_X11_odds_B61 3 (nI a) (nI b) (nI N) (nI t) (nI w) (hp s l q P) 200 0 1 1 0 = some (odV r a b N t w) :=
  odds_loop rfl h hO ha hb hN ht hw N 0 200 (by omega) (by omega)
theorem oddsM_loop {a b N t w : Nat} (h : Md s r) (hO : Ok r) (ha : a < 5) (hb : b < 5) (hN : N < 7) (ht : t < 11) (hw : w < 2) : ∀ (n k f : Nat), k + n = N → n < f → F_X12_oddsNow_B12 39 (nI a) (nI b) (nI N) (nI t) (nI w) (hp s l q P) f (nI (oA t (oc r a b) k)) (nI (10 ^ k)) (nI (t ^ k)) (nI k) = some (odV r a b N t w)
  | _, _, 0, _, hf => absurd hf (by omega)
  | 0, k, f + 1, hk, _ => by
    have hk : k = N := hk
    subst hk
    have hc := od_c (oc r a b) hN ht
    rw [F_X12_oddsNow_B12, if_neg (show ¬ nI k < nI k from nI_nlt (by omega) (by omega))]
    unfold odV
    rcases (by omega : w = 0 ∨ w = 1) with rfl | rfl
    · rw [if_pos rfl]
      exact hc.2.2.1
    · rw [if_neg (by omega)]
      exact hc.2.2.2
  | n + 1, k, f + 1, hk, hf => by
    have he : r 5 0 < 13 := hO.2.2.2.2.2.1
    have hm : (r 5 0 + k) % 13 < 13 := Nat.mod_lt _ (by omega)
    have hmod := n_mod13 (r 5 0 + k) (by omega)
    have e5 : s 39 6 = nI (r 5 0) := h.1.2.1
    have hbal := foundIn_ok (l := l) (q := q) (P := P) h hO ha hb hm
    have hbl := bal_le hO a b ((r 5 0 + k) % 13)
    have ih := oddsM_loop h hO ha hb hN ht hw n (k + 1) f (by omega) (by omega)
    have e1 : 10 * nI (oA t (oc r a b) k) = nI (oA t (oc r a b) k * 10) := by rw [show (10 : Int32) = nI 10 from rfl, n_mul, Nat.mul_comm]
    have e2 : nI (10 ^ k) * 10 = nI (10 ^ (k + 1)) := by rw [show (10 : Int32) = nI 10 from rfl, n_mul, Nat.pow_succ]
    have e3 : nI (t ^ k) * nI t = nI (t ^ (k + 1)) := by rw [n_mul, Nat.pow_succ]
    have e4 : (10 : Int32) - nI t = nI (10 - t) := n_subn (a := 10) (by omega)
    rw [F_X12_oddsNow_B12, if_pos (show nI k < nI N from nI_lt (by omega) (by omega))]
    simp only [G_gR, G_gI, G_ko, sbd, e5, nI_add, dz_13, hmod, hbal]
    have hoA : oA t (oc r a b) (k + 1) = oA t (oc r a b) k * 10 + (if decide (0 < bal r a b ((r 5 0 + k) % 13)) = true then t ^ k * (10 - t) else 0) := rfl
    by_cases g : wI (bal r a b ((r 5 0 + k) % 13)) ≤ 0
    · rw [if_pos g]
      rw [(oc_le hbl.1 hbl.2).mp g, if_neg (by decide), Nat.add_zero] at hoA
      unfold F_X12_oddsNow_B42 F_X12_oddsNow_B66
      rw [if_pos rfl]
      simp only [nm, e1, e2, e3, Int32.add_zero, nI_1]
      have hoA2 : oA t (oc r a b) (k + 1) = oA t (oc r a b) k * 10 := hoA
      rw [← hoA2]; exact ih
    · have g2 : decide (0 < bal r a b ((r 5 0 + k) % 13)) = true := by
        cases gg : decide (0 < bal r a b ((r 5 0 + k) % 13)) with
        | true => rfl
        | false => exact absurd ((oc_le hbl.1 hbl.2).mpr gg) g
      rw [if_neg g]
      rw [g2, if_pos rfl] at hoA
      unfold F_X12_oddsNow_B42 F_X12_oddsNow_B66
      rw [if_neg (by decide)]
      simp only [nm, e1, e2, e3, e4, n_mul, nI_add, nI_1]
      rw [← hoA]; exact ih
theorem oddsNow_ok {a b N t w : Nat} (h : Md s r) (hO : Ok r) (ha : a < 5) (hb : b < 5) (hN : N < 7) (ht : t < 11) (hw : w < 2) : F_X12_oddsNow 39 (nI a) (nI b) (nI N) (nI t) (nI w) (hp s l q P) = some (odV r a b N t w) :=
  oddsM_loop h hO ha hb hN ht hw N 0 200 (by omega) (by omega)
end OD
