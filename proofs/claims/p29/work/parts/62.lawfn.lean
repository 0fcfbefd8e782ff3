/-! THE LAW'S OWN FUNCTIONS over its cells w (at 39) -/
set_option maxRecDepth 100000 in
theorem lc_0 : ∀ hi, hi < 10 → ∀ t, t < 10 → ∀ e, e < 13 → ∀ k, k < 10 → F_L_covers (nI 0) (nI hi) (nI t) (nI e) (nI k) = some (nI (b1 (sh 0 hi t e) k)) := by decide +kernel
set_option maxRecDepth 100000 in
theorem lc_1 : ∀ hi, hi < 10 → ∀ t, t < 10 → ∀ e, e < 13 → ∀ k, k < 10 → F_L_covers (nI 1) (nI hi) (nI t) (nI e) (nI k) = some (nI (b1 (sh 1 hi t e) k)) := by decide +kernel
set_option maxRecDepth 100000 in
theorem lc_2 : ∀ hi, hi < 10 → ∀ t, t < 10 → ∀ e, e < 13 → ∀ k, k < 10 → F_L_covers (nI 2) (nI hi) (nI t) (nI e) (nI k) = some (nI (b1 (sh 2 hi t e) k)) := by decide +kernel
set_option maxRecDepth 100000 in
theorem lc_3 : ∀ hi, hi < 10 → ∀ t, t < 10 → ∀ e, e < 13 → ∀ k, k < 10 → F_L_covers (nI 3) (nI hi) (nI t) (nI e) (nI k) = some (nI (b1 (sh 3 hi t e) k)) := by decide +kernel
set_option maxRecDepth 100000 in
theorem lc_4 : ∀ hi, hi < 10 → ∀ t, t < 10 → ∀ e, e < 13 → ∀ k, k < 10 → F_L_covers (nI 4) (nI hi) (nI t) (nI e) (nI k) = some (nI (b1 (sh 4 hi t e) k)) := by decide +kernel
theorem lcov {kd hi t e k : Nat} (h0 : kd < 5) (h1 : hi < 10) (h2 : t < 10) (h3 : e < 13) (h4 : k < 10) : F_L_covers (nI kd) (nI hi) (nI t) (nI e) (nI k) = some (nI (b1 (sh kd hi t e) k)) := by
  rcases (by omega : kd = 0 ∨ kd = 1 ∨ kd = 2 ∨ kd = 3 ∨ kd = 4) with rfl | rfl | rfl | rfl | rfl
  · exact lc_0 hi h1 t h2 e h3 k h4
  · exact lc_1 hi h1 t h2 e h3 k h4
  · exact lc_2 hi h1 t h2 e h3 k h4
  · exact lc_3 hi h1 t h2 e h3 k h4
  · exact lc_4 hi h1 t h2 e h3 k h4
set_option maxRecDepth 100000 in
theorem ones_ok : ∀ m, m < 32 → F_L_ones (nI m) = some (nI (pc m)) := by decide +kernel
/-- the law's cells hold the table r -/
def Lw (s : Nat → Nat → Int32) (r : Nat → Nat → Nat) : Prop :=
  (s 39 0 = nI (r 0 0) ∧ s 39 1 = nI (r 5 0) ∧ s 39 2 = nI (r 6 0) ∧ s 39 3 = nI (r 7 0)) ∧ (∀ i, i < 10 → s 39 (4 + i) = nI (r 4 i)) ∧
  (∀ p, p < r 0 0 → s 39 (14 + 3 * p) = nI (r 1 p) ∧ s 39 (15 + 3 * p) = nI (r 2 p) ∧ s 39 (16 + 3 * p) = nI (r 3 p)) ∧ (∀ i, i < r 7 0 → s 39 (29 + i) = nI (r 8 i) ∧ s 39 (34 + i) = nI (r 9 i))
theorem m3 (d x : Nat) : nI d + 3 * nI x = nI (d + 3 * x) := by
  show nI d + nI 3 * nI x = _
  rw [n_mul, nI_add]
theorem m3a (x : Nat) : (14 : Int32) + 3 * nI x = nI (14 + 3 * x) := m3 14 x
theorem m3b (x : Nat) : (15 : Int32) + 3 * nI x = nI (15 + 3 * x) := m3 15 x
theorem m3c (x : Nat) : (16 : Int32) + 3 * nI x = nI (16 + 3 * x) := m3 16 x
theorem p4a (x : Nat) : (4 : Int32) + nI x = nI (4 + x) := nI_add 4 x
theorem p29a (x : Nat) : (29 : Int32) + nI x = nI (29 + x) := nI_add 29 x
theorem p34a (x : Nat) : (34 : Int32) + nI x = nI (34 + x) := nI_add 34 x
theorem mod_bit (m i : Nat) : (if m.testBit i = true then m % 2 ^ i ||| 2 ^ i else m % 2 ^ i) = m % 2 ^ (i + 1) := by
  apply Nat.eq_of_testBit_eq
  intro j
  cases hb : m.testBit i with
  | true =>
    rw [if_pos rfl, Nat.testBit_or, Nat.testBit_mod_two_pow, Nat.testBit_mod_two_pow]
    by_cases e : i = j
    · subst e
      rw [Nat.testBit_two_pow_self, hb]
      simp
    · rw [Nat.testBit_two_pow_of_ne e, Bool.or_false]
      congr 1
      rw [decide_eq_decide]; omega
  | false =>
    rw [if_neg (by decide), Nat.testBit_mod_two_pow, Nat.testBit_mod_two_pow]
    by_cases e : i = j
    · subst e
      rw [hb]; simp
    · congr 1
      rw [decide_eq_decide]; omega
section LF
variable {s : Nat → Nat → Int32} {l : Nat → Nat → Int64} {q : Nat → Nat → Option Nat} {P : List Nat} {r : Nat → Nat → Nat}
theorem bits_loop (h : Lw s r) (hO : Ok r) {p e : Nat} (hp1 : p < r 0 0) (he : e < 13) : ∀ (n i f : Nat), i + n = 10 → n < f → F_L_bits_B5 39 (nI p) (nI e) (hp s l q P) f (nI (cv r p e % 2 ^ i)) (nI i) = some (nI (cv r p e))
  | _, _, 0, _, hf => absurd hf (by omega)
  | 0, i, f + 1, hi, _ => by
    have e1 : ¬ nI i < 10 := nI_nlt (b := 10) (by omega) (by omega)
    have hl := cv_lt hO p he
    rw [F_L_bits_B5, if_neg e1]
    have : i = 10 := by omega
    subst this
    rw [Nat.mod_eq_of_lt (show cv r p e < 2 ^ 10 from hl)]
  | n + 1, i, f + 1, hi, hf => by
    have e1 : nI i < 10 := nI_lt (b := 10) (by omega) (by omega)
    have n5 := hO.n5
    have ih := bits_loop h hO hp1 he n (i + 1) f (by omega) (by omega)
    have w := h.2.2.1 p hp1
    have i1 : 14 + 3 * p < 39 ∧ 15 + 3 * p < 39 ∧ 16 + 3 * p < 39 := by omega
    have hc := lcov (k := i) (hO.2.1 p) (hO.2.2.1 p) (hO.2.2.2.1 p) he (by omega)
    have hm := mod_bit (cv r p e) i
    rw [← hm] at ih
    rw [F_L_bits_B5, if_pos e1]
    simp only [m3a, m3b, m3c, G_ga, i1, sbd, w, hc, nm, Int32.or_zero, n_shl i (show i < 31 by omega), n_or, nI_1]
    unfold b1
    have hcv : cv r p e = sh (r 1 p) (r 2 p) (r 3 p) e := rfl
    rw [← hcv]
    revert ih
    cases (cv r p e).testBit i with
    | true =>
      intro ih
      rw [if_neg (show ¬ nI (if true = true then 1 else 0) = 0 by decide)]
      exact ih
    | false =>
      intro ih
      rw [if_pos (show nI (if false = true then 1 else 0) = 0 from rfl)]
      exact ih
theorem bits_ok (h : Lw s r) (hO : Ok r) {p e : Nat} (hp1 : p < r 0 0) (he : e < 13) : F_L_bits 39 (nI p) (nI e) (hp s l q P) = some (nI (cv r p e)) := by
  have e1 := bits_loop (l := l) (q := q) (P := P) h hO hp1 he 10 0 200 rfl (by omega)
  rw [Nat.pow_zero, Nat.mod_one] at e1
  exact e1
theorem lworth_loop (h : Lw s r) {m : Nat} (hm : m < 2147483648) : ∀ (n i acc f : Nat), i + n = 10 → n < f → F_L_worth_B4 39 (nI m) (hp s l q P) f (nI acc) (nI i) = some (nI (acc + Wr (r 4) m n i))
  | _, _, _, 0, _, hf => absurd hf (by omega)
  | 0, i, acc, f + 1, hi, _ => by
    have e : ¬ nI i < 10 := nI_nlt (b := 10) (by omega) (by omega)
    rw [F_L_worth_B4, if_neg e]; rfl
  | n + 1, i, acc, f + 1, hi, hf => by
    have e : nI i < 10 := nI_lt (b := 10) (by omega) (by omega)
    have i39 : 4 + i < 39 := by omega
    have hw := h.2.1 i (by omega)
    have ih := fun a => lworth_loop h hm n (i + 1) a f (by omega) (by omega)
    rw [F_L_worth_B4, if_pos e, Wr]
    simp only [p4a, G_ga, i39, sbd, hw, n_bit hm (show i < 31 by omega), n_mul, nI_add, nm, nI_1, ih]
    congr 2
    unfold b1
    cases m.testBit i <;> simp [Nat.add_assoc]
theorem lworth_ok (h : Lw s r) {m : Nat} (hm : m < 2147483648) : F_L_worth 39 (nI m) (hp s l q P) = some (nI (Ws (r 4) m)) := by
  have e := lworth_loop (l := l) (q := q) (P := P) h hm 10 0 0 200 rfl (by omega)
  rw [Nat.zero_add] at e
  exact e
theorem find_ok (h : Lw s r) (hO : Ok r) {a b e : Nat} (ha : a < r 0 0) (hb : b < r 0 0) (he : e < 13) : F_L_find 39 (nI a) (nI b) (nI e) (hp s l q P) = some (wI (bal r a b e)) := by
  have h1 := cv_lt hO a he
  have h2 := cv_lt hO b he
  unfold F_L_find
  simp only [sbd, bits_ok h hO ha he, bits_ok h hO hb he, lworth_ok h (show cv r a e < 2147483648 by omega), lworth_ok h (show cv r b e < 2147483648 by omega), n_sub]
  rfl
end LF
