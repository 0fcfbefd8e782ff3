/-! WHAT IS TOLD: every answer is the law's -/
theorem hts_0 {r : Nat → Nat → Nat} (h : r 10 0 = 0) (p : Nat) : hts r p = 511 := by
  have e : ∀ hi, asS r p hi = true := fun hi => by unfold asS; rw [h]; rfl
  have e2 : hts r p = Mk (fun _ => true) 9 0 0 := Mk_ext 9 0 0 (fun j _ _ => e (j + 1))
  rw [e2]; rfl
theorem m1_n {p : Nat} (h : p < 2147483648) : ¬ (-1 : Int32) = nI p := by
  show ¬ wI (-1) = nI p
  rw [wI_n, wI_eq (by omega) (by omega) (by omega) (by omega)]; omega
section TO
variable {s : Nat → Nat → Int32} {l : Nat → Nat → Int64} {q : Nat → Nat → Option Nat} {P : List Nat} {r : Nat → Nat → Nat}
theorem as_loop (h : St s q P r) {p : Nat} {X : Int32} {K : Int32 → abH → Option (Int32 × abH)} (hp1 : p < r 0 0) : ∀ (n c f : Nat), c + n = 5 → n < f → F_L_told_B128 3 39 X (nI p) (nI (14 + 3 * p)) K f (nI c) (hp s l q P) = F_L_told_B188 3 39 X (nI p) K 200 0 (hp s l q P)
  | _, _, 0, _, hf => absurd hf (by omega)
  | 0, c, f + 1, hc, _ => by
    rw [F_L_told_B128, if_neg (show ¬ nI c < 5 from nI_nlt (b := 5) (by omega) (by omega))]
  | n + 1, c, f + 1, hc, hf => by
    have n5 := h.2.1.n5
    have c5 : c < 5 := by omega
    have ih := as_loop h (X := X) (K := K) hp1 n (c + 1) f (by omega) (by omega)
    have i39 : 14 + 3 * p < 39 := by omega
    have hk := (h.2.2.1.2.2.1 p hp1).1
    have hk5 := h.2.1.2.1 p
    have ha := c_as (l := l) h.1 h.2.1 hp1 c5
    have x1 : nI c = 0 ↔ c = 0 := nI_eq (b := 0) (by omega) (by omega)
    have x2 : nI c = nI (r 1 p) ↔ c = r 1 p := nI_eq (by omega) (by omega)
    have x3 : nI c = 1 ↔ c = 1 := nI_eq (b := 1) (by omega) (by omega)
    have x4 : nI (r 1 p) = 4 ↔ r 1 p = 4 := nI_eq (b := 4) (by omega) (by omega)
    rw [F_L_told_B128, if_pos (show nI c < 5 from nI_lt (b := 5) c5 (by omega))]
    simp only [G_ko, G_ga, i39, sbd, ha, hk, F_L_told_B169, nI_1, ih]
    unfold asB
    by_cases g0 : c = 0
    · rw [if_pos (x1.mpr g0), beq_t g0]; simp
    · rw [if_neg (fun w => g0 (x1.mp w)), beq_f g0]
      by_cases g1 : c = r 1 p
      · rw [if_pos (x2.mpr g1), beq_t g1.symm]; simp
      · rw [if_neg (fun w => g1 (x2.mp w)), beq_f (fun w => g1 w.symm)]
        by_cases g2 : c = 1
        · rw [if_pos (x3.mpr g2), beq_t g2]
          by_cases g3 : r 1 p = 4
          · rw [if_pos (x4.mpr g3), beq_t g3]; simp
          · rw [if_neg (fun w => g3 (x4.mp w)), beq_f g3]; simp
        · rw [if_neg (fun w => g2 (x3.mp w)), beq_f g2]; simp
theorem found_loop (h : St s q P r) {p e : Nat} {K : Int32 → abH → Option (Int32 × abH)} (hp1 : p < r 0 0) (he : e < 13) : ∀ (n c f : Nat), c + n = r 0 0 → n < f → F_L_told_B188 3 39 (nI e) (nI p) K f (nI c) (hp s l q P) = K (nI (p + 1)) (hp s l q P)
  | _, _, 0, _, hf => absurd hf (by omega)
  | 0, c, f + 1, hc, _ => by
    have n5 := h.2.1.n5
    have h0 : s 39 0 = nI (r 0 0) := h.2.2.1.1.1
    rw [F_L_told_B188]
    simp only [gw, sbd, h0, if_neg (show ¬ nI c < nI (r 0 0) from nI_nlt (by omega) (by omega)), nI_1]
  | n + 1, c, f + 1, hc, hf => by
    have n5 := h.2.1.n5
    have c5 : c < r 0 0 := by omega
    have h0 : s 39 0 = nI (r 0 0) := h.2.2.1.1.1
    have ih := found_loop h (K := K) hp1 he n (c + 1) f (by omega) (by omega)
    have x1 : nI p = nI c ↔ p = c := nI_eq (by omega) (by omega)
    rw [F_L_told_B188]
    simp only [gw, sbd, h0, if_pos (show nI c < nI (r 0 0) from nI_lt (by omega) (by omega)), G_ko]
    by_cases g : p = c
    · have hf1 := c_found_p (l := l) (a1 := nI p) (a2 := nI c) (a3 := nI e) h.1 h.2.1 (fun x y hx hy hxy w => by
        have w1 := (nI_eq (by omega) (by omega)).mp w.1
        have w2 := (nI_eq (by omega) (by omega)).mp w.2
        omega)
      simp only [hf1, sbd, if_pos (x1.mpr g), reduceIte, nI_1, ih]
    · have hf1 := c_found (l := l) h.1 h.2.1 hp1 c5 g he
      have hf2 := find_ok (l := l) (q := q) (P := P) h.2.2.1 h.2.1 hp1 c5 he
      simp only [hf1, hf2, sbd, if_neg (fun w => g (x1.mp w)), if_pos (Int32.add_comm (wI (bal r p c e)) 100), nI_1, ih]
theorem B267_loop (h : St s q P r) {k : Nat} {X3 X4 : Int32} {K : Int32 → Int32 → Int32 → abH → Option (Int32 × abH)} (hk : k < 10) : ∀ (n p f a b : Nat), p + n = r 0 0 → n < f → F_L_told_B267 3 39 X3 X4 (nI k) K f (nI a) (nI b) (nI p) (hp s l q P) = F_L_told_B267 3 39 X3 X4 (nI k) K 1 (nI (Mk (fun i => decide (r 3 i = k)) n p a)) (nI (Mk (fun i => (cv r i (r 5 0)).testBit k) n p b)) (nI (r 0 0)) (hp s l q P)
  | _, _, 0, _, _, _, hf => absurd hf (by omega)
  | 0, p, f + 1, a, b, hc, _ => by
    have hc : p = r 0 0 := hc
    have n5 := h.2.1.n5
    have h0 : s 39 0 = nI (r 0 0) := h.2.2.1.1.1
    subst hc
    rw [F_L_told_B267, F_L_told_B267]
    simp only [gw, sbd, h0, if_neg (show ¬ nI (r 0 0) < nI (r 0 0) from nI_nlt (Nat.le_refl _) (by omega))]
    rfl
  | n + 1, p, f + 1, a, b, hc, hf => by
    have n5 := h.2.1.n5
    have p5 : p < r 0 0 := by omega
    have h0 : s 39 0 = nI (r 0 0) := h.2.2.1.1.1
    have h1 : s 39 1 = nI (r 5 0) := h.2.2.1.1.2.1
    have he : r 5 0 < 13 := h.2.1.2.2.2.2.2.1
    have i39 : 16 + 3 * p < 39 := by omega
    have ht := (h.2.2.1.2.2.1 p p5).2.2
    have ht10 := h.2.1.2.2.2.1 p
    have hb := bits_ok (l := l) (q := q) (P := P) h.2.2.1 h.2.1 p5 he
    have hl := cv_lt h.2.1 p he
    have ih := fun a b => B267_loop h (X3 := X3) (X4 := X4) (K := K) hk n (p + 1) f a b (by omega) (by omega)
    have x1 : nI (r 3 p) = nI k ↔ r 3 p = k := nI_eq (by omega) (by omega)
    have x2 := n_bit1 (m := cv r p (r 5 0)) (b := k) (by omega) (by omega)
    have hB : ∀ y : Nat, F_L_told_B299 3 39 X3 X4 (nI k) (nI b) (nI p) (nI a) (nI y) (hp s l q P) K (fun u6 u7 u8 hu => F_L_told_B267 3 39 X3 X4 (nI k) K f u6 u7 u8 hu) = F_L_told_B267 3 39 X3 X4 (nI k) K f (nI (a ||| y)) (nI (if (cv r p (r 5 0)).testBit k = true then b ||| 2 ^ p else b)) (nI (p + 1)) (hp s l q P) := by
      intro y
      unfold F_L_told_B299
      simp only [nme, gw, sbd, h1, hb, n_or, n_shl p (show p < 31 by omega), Int32.or_zero, nI_1]
      by_cases g : (cv r p (r 5 0)).testBit k = true
      · rw [if_pos (x2.mpr g), if_pos g]
      · rw [if_neg (fun w => g (x2.mp w)), if_neg g]
    rw [F_L_told_B267]
    simp only [gw, sbd, h0, if_pos (show nI p < nI (r 0 0) from nI_lt p5 (by omega)), m3c, G_ga, i39, ht, n_shl p (show p < 31 by omega)]
    rw [Mk, Mk]
    by_cases g : r 3 p = k
    · rw [if_pos (x1.mpr g), hB, ih, if_pos (decide_eq_true g)]
    · have hB0 := hB 0
      rw [Nat.or_zero] at hB0
      have hB0' : F_L_told_B299 3 39 X3 X4 (nI k) (nI b) (nI p) (nI a) 0 (hp s l q P) K (fun u6 u7 u8 hu => F_L_told_B267 3 39 X3 X4 (nI k) K f u6 u7 u8 hu) = _ := hB0
      rw [if_neg (fun w => g (x1.mp w)), hB0', ih, if_neg (show ¬ decide (r 3 p = k) = true from fun w => g (of_decide_eq_true w))]
theorem nle_p {n : Nat} (h : n < 2147483648) : nI n ≤ 0 ↔ n < 1 := by
  constructor
  · intro w
    rcases Nat.lt_or_ge n 1 with g | g
    · exact g
    · exact absurd w (nI_nle (by omega) (by omega))
  · intro w
    have : n = 0 := by omega
    subst this
    decide
theorem nle_1 {n : Nat} (h : n < 2147483648) : nI n ≤ 1 ↔ n < 2 := by
  constructor
  · intro w
    rcases Nat.lt_or_ge n 2 with g | g
    · exact g
    · exact absurd w (nI_ge (a := 1) (by omega) (by omega))
  · intro w
    exact nI_le (b := 1) (by omega) (by omega)
theorem tile_loop (h : St s q P r) : ∀ (n k f a b : Nat), k + n = 10 → n < f → F_L_told_B251 3 39 f (nI a) (nI b) (nI k) (hp s l q P) = F_L_told_B428 3 39 (nI (a + Cn (cge r 1) n k)) (nI (b + Cn (cge r 2) n k)) 200 0 0 (hp s l q P)
  | _, _, 0, _, _, _, hf => absurd hf (by omega)
  | 0, k, f + 1, a, b, hc, _ => by
    rw [F_L_told_B251, if_neg (show ¬ nI k < 10 from nI_nlt (b := 10) (by omega) (by omega))]
    rfl
  | n + 1, k, f + 1, a, b, hc, hf => by
    have k10 : k < 10 := by omega
    have n5 := h.2.1.n5
    have h0 : s 39 0 = nI (r 0 0) := h.2.2.1.1.1
    have ih := fun a b => tile_loop h n (k + 1) f a b (by omega) (by omega)
    have hL := B267_loop (l := l) h (X3 := nI a) (X4 := nI b) (K := fun u3 u4 u5 hu => F_L_told_B251 3 39 f u3 u4 u5 hu) k10 (r 0 0) 0 200 0 0 (by omega) (by omega)
    have i39 : 4 + k < 39 := by omega
    have hw := h.2.2.1.2.1 k k10
    have ht := c_tile (l := l) h.1 h.2.1 (show 0 < r 0 0 by have := h.2.2.2.1; omega) k10
    have hc32 := covT_lt h.2.1 k
    have ho := ones_ok (covT r k) hc32
    have hpl := pc_le (covT r k)
    have y1 := nle_p (n := pc (covT r k)) (by omega)
    have y2 := nle_1 (n := pc (covT r k)) (by omega)
    rw [F_L_told_B251, if_pos (show nI k < 10 from nI_lt (b := 10) k10 (by omega))]
    refine hL.trans ?_
    show F_L_told_B267 3 39 (nI a) (nI b) (nI k) _ 1 (nI (onT r k)) (nI (covT r k)) (nI (r 0 0)) (hp s l q P) = _
    rw [F_L_told_B267]
    simp only [gw, sbd, h0, if_neg (show ¬ nI (r 0 0) < nI (r 0 0) from nI_nlt (Nat.le_refl _) (by omega)), ho, F_L_told_B353, F_L_told_B371, nme, G_ko, p4a, G_ga, i39, hw, ht, reduceIte, nI_1, Int32.add_zero]
    rw [Cn, Cn]
    rcases Nat.lt_or_ge (pc (covT r k)) 1 with g | g
    · rw [if_pos (y1.mpr g), if_pos (y2.mpr (by omega)), cge_f g, cge_f (show pc (covT r k) < 2 by omega), ih]
      simp
    · rw [if_neg (fun w => by have := y1.mp w; omega), cge_t g]
      rcases Nat.lt_or_ge (pc (covT r k)) 2 with g2 | g2
      · rw [if_pos (y2.mpr g2), cge_f g2, ih]
        simp [Nat.add_assoc]
      · rw [if_neg (fun w => by have := y2.mp w; omega), cge_t g2, ih]
        simp [Nat.add_assoc]
theorem well_loop (h : St s q P r) : ∀ (n i f a : Nat), i + n = r 7 0 → n < f → F_L_told_B428 3 39 (nI (tcov r 1)) (nI (tcov r 2)) f (nI a) (nI i) (hp s l q P) = F_L_told_B428 3 39 (nI (tcov r 1)) (nI (tcov r 2)) 1 (nI (a + Cn (fun i => decide (0 < bal r (r 8 i) (r 9 i) (r 5 0))) n i)) (nI (r 7 0)) (hp s l q P)
  | _, _, 0, _, _, hf => absurd hf (by omega)
  | 0, i, f + 1, a, hc, _ => by
    have hc : i = r 7 0 := hc
    have h5 : r 7 0 ≤ 5 := h.2.1.2.2.2.2.2.2.2.1
    have h3 : s 39 3 = nI (r 7 0) := h.2.2.1.1.2.2.2
    subst hc
    rw [F_L_told_B428, F_L_told_B428]
    simp only [gw, sbd, h3, if_neg (show ¬ nI (r 7 0) < nI (r 7 0) from nI_nlt (Nat.le_refl _) (by omega))]
    rfl
  | n + 1, i, f + 1, a, hc, hf => by
    have hO := h.2.1
    have h5 : r 7 0 ≤ 5 := hO.2.2.2.2.2.2.2.1
    have h3 : s 39 3 = nI (r 7 0) := h.2.2.1.1.2.2.2
    have h1 : s 39 1 = nI (r 5 0) := h.2.2.1.1.2.1
    have he : r 5 0 < 13 := hO.2.2.2.2.2.1
    have w := h.2.2.1.2.2.2 i (by omega)
    have hcs := hO.2.2.2.2.2.2.2.2.1 i (by omega)
    have i39 : 29 + i < 39 ∧ 34 + i < 39 := by omega
    have hb := bal_le hO (r 8 i) (r 9 i) (r 5 0)
    have hfn := find_ok (l := l) (q := q) (P := P) h.2.2.1 hO hcs.1 hcs.2 he
    have ih := fun a => well_loop h n (i + 1) f a (by omega) (by omega)
    have y := w_le0 (z := bal r (r 8 i) (r 9 i) (r 5 0)) (by omega) (by omega)
    rw [F_L_told_B428]
    simp only [gw, sbd, h3, if_pos (show nI i < nI (r 7 0) from nI_lt (by omega) (by omega)), p29a, p34a, G_ga, i39, w, h1, hfn, nme, Int32.add_zero, nI_1]
    rw [Cn]
    by_cases g : 0 < bal r (r 8 i) (r 9 i) (r 5 0)
    · rw [if_neg (fun v => (y.mp v) g), ih, if_pos (decide_eq_true g), Nat.add_assoc]
    · rw [if_pos (y.mpr g), ih, if_neg (by simp [g]), Nat.zero_add]
theorem told_end (h : St s q P r) : F_L_told_B251 3 39 200 0 0 0 (hp s l q P) = some (1, hp s l q P) := by
  have h5 : r 7 0 ≤ 5 := h.2.1.2.2.2.2.2.2.2.1
  have h0 : s 39 0 = nI (r 0 0) := h.2.2.1.1.1
  have h1 : s 39 1 = nI (r 5 0) := h.2.2.1.1.2.1
  have h2 : s 39 2 = nI (r 6 0) := h.2.2.1.1.2.2.1
  have h3 : s 39 3 = nI (r 7 0) := h.2.2.1.1.2.2.2
  have e1 := tile_loop (l := l) h 10 0 200 0 0 rfl (by omega)
  rw [Nat.zero_add, Nat.zero_add] at e1
  have e1' : F_L_told_B251 3 39 200 0 0 0 (hp s l q P) = F_L_told_B428 3 39 (nI (tcov r 1)) (nI (tcov r 2)) 200 (nI 0) (nI 0) (hp s l q P) := e1
  have e2 := well_loop (l := l) h (r 7 0) 0 200 0 (by omega) (by omega)
  rw [Nat.zero_add] at e2
  have hcn := c_count (l := l) h.1 h.2.1
  have hw : F_L_worth 39 1023 (hp s l q P) = some (nI (Ws (r 4) 1023)) := lworth_ok (l := l) (q := q) (P := P) h.2.2.1 (show 1023 < 2147483648 by omega)
  rw [e1', e2, F_L_told_B428]
  simp only [gw, sbd, h3, if_neg (show ¬ nI (r 7 0) < nI (r 7 0) from nI_nlt (Nat.le_refl _) (by omega)), G_ko, hcn, h0, h1, h2, hw, reduceIte]
  rw [if_pos (show nI (good r) = nI (Cn (fun i => decide (0 < bal r (r 8 i) (r 9 i) (r 5 0))) (r 7 0) 0) from rfl)]
theorem party_loop (h : St s q P r) {e : Nat} (he : e < 13) : ∀ (n p f : Nat), p + n = r 0 0 → n < f → F_L_told_B2 3 39 (nI e) f (nI p) (hp s l q P) = some (1, hp s l q P)
  | _, _, 0, _, hf => absurd hf (by omega)
  | 0, p, f + 1, hc, _ => by
    have n5 := h.2.1.n5
    have h0 : s 39 0 = nI (r 0 0) := h.2.2.1.1.1
    rw [F_L_told_B2]
    simp only [gw, sbd, h0, if_neg (show ¬ nI p < nI (r 0 0) from nI_nlt (by omega) (by omega))]
    exact told_end h
  | n + 1, p, f + 1, hc, hf => by
    have n5 := h.2.1.n5
    have p5 : p < r 0 0 := by omega
    have h0 : s 39 0 = nI (r 0 0) := h.2.2.1.1.1
    have h1 : s 39 1 = nI (r 5 0) := h.2.2.1.1.2.1
    have h5 : r 5 0 < 13 := h.2.1.2.2.2.2.2.1
    have w := h.2.2.1.2.2.1 p p5
    have i39 : 14 + 3 * p < 39 ∧ 15 + 3 * p < 39 ∧ 16 + 3 * p < 39 := by omega
    have w1 : nI (14 + 3 * p) + 1 = nI (15 + 3 * p) := by rw [nI_1]; congr 1; omega
    have w2 : nI (14 + 3 * p) + 2 = nI (16 + 3 * p) := by rw [p2b]; congr 1; omega
    have hl := cv_lt h.2.1 p h5
    have hb := bits_ok (l := l) (q := q) (P := P) h.2.2.1 h.2.1 p5 h5
    have hb2 := bits_ok (l := l) (q := q) (P := P) h.2.2.1 h.2.1 p5 he
    have hw := lworth_ok (l := l) (q := q) (P := P) h.2.2.1 (show cv r p (r 5 0) < 2147483648 by omega)
    have c0 : F_X11_party 3 (nI p) 0 (hp s l q P) = some (nI (r 1 p), hp s l q P) := c_party h.1 h.2.1 p5 (show 0 < 6 by omega)
    have c1 : F_X11_party 3 (nI p) 1 (hp s l q P) = some (nI (r 2 p), hp s l q P) := c_party h.1 h.2.1 p5 (show 1 < 6 by omega)
    have c2 : F_X11_party 3 (nI p) 2 (hp s l q P) = some (nI (r 3 p), hp s l q P) := c_party h.1 h.2.1 p5 (show 2 < 6 by omega)
    have c3 : F_X11_party 3 (nI p) 3 (hp s l q P) = some (nI (cv r p (r 5 0)), hp s l q P) := c_party h.1 h.2.1 p5 (show 3 < 6 by omega)
    have c4 : F_X11_party 3 (nI p) 4 (hp s l q P) = some (nI (Ws (r 4) (cv r p (r 5 0))), hp s l q P) := c_party h.1 h.2.1 p5 (show 4 < 6 by omega)
    have c5 : F_X11_party 3 (nI p) 5 (hp s l q P) = some (nI (hts r p), hp s l q P) := c_party h.1 h.2.1 p5 (show 5 < 6 by omega)
    rw [hts_0 h.2.2.2.2.1] at c5
    have cc := c_covers (l := l) h.1 h.2.1 p5 he
    have ih := party_loop h he n (p + 1) f (by omega) (by omega)
    have e511 : nI 511 = 511 := rfl
    rw [F_L_told_B2]
    simp only [gw, sbd, h0, if_pos (show nI p < nI (r 0 0) from nI_lt p5 (by omega)), nme, m3a, h1, hb, G_ko, c0, c1, c2, c3, c4, c5, bd2_s, G_ga, i39, w1, w2, w, reduceIte, hw, e511, cc, hb2]
    have a1 := as_loop (l := l) h (X := nI e) (K := fun u3 hu => F_L_told_B2 3 39 (nI e) f u3 hu) p5 5 0 200 rfl (by omega)
    have a2 := found_loop (l := l) h (K := fun u3 hu => F_L_told_B2 3 39 (nI e) f u3 hu) p5 he (r 0 0) 0 200 (by omega) (by omega)
    exact (a1.trans a2).trans ih
theorem told_ok (h : St s q P r) {e : Nat} (he : e < 13) : F_L_told 3 39 (nI e) (hp s l q P) = some (1, hp s l q P) :=
  party_loop h he (r 0 0) 0 200 (by omega) (by have := h.2.1.n5; omega)
end TO
