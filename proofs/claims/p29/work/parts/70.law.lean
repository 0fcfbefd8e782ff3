/-! THE LAW: what is refused; the acts; two courts -/
theorem md6 {a : Nat} (ha : a < 2147483648) : nI a - nI a / 6 * 6 = nI (a % 6) := n_mod (d := 6) ha (by omega)
theorem md13 {a : Nat} (ha : a < 2147483648) : nI a - nI a / 13 * 13 = nI (a % 13) := n_mod (d := 13) ha (by omega)
theorem md60 {a : Nat} (ha : a < 2147483648) : nI a - nI a / 60 * 60 = nI (a % 60) := n_mod (d := 60) ha (by omega)
theorem dv4 {a : Nat} (ha : a < 2147483648) : nI a / 4 = nI (a / 4) := n_div (b := 4) ha (by omega)
theorem dv6 {a : Nat} (ha : a < 2147483648) : nI a / 6 = nI (a / 6) := n_div (b := 6) ha (by omega)
theorem dv512 {a : Nat} (ha : a < 2147483648) : nI a / 512 = nI (a / 512) := n_div (b := 512) ha (by omega)
theorem d6 {α : Type} (K : Option α) : dz 6 K = K := dz_ne (by decide) K
theorem d13 {α : Type} (K : Option α) : dz 13 K = K := dz_ne (by decide) K
theorem d60 {α : Type} (K : Option α) : dz 60 K = K := dz_ne (by decide) K
theorem d512 {α : Type} (K : Option α) : dz 512 K = K := dz_ne (by decide) K
theorem p3b (x : Nat) : nI x + 3 = nI (x + 3) := nI_add x 3
theorem p24b (x : Nat) : nI x + 24 = nI (x + 24) := nI_add x 24
theorem t29 (a : Nat) : (29 : Int32) * nI a = nI (29 * a) := n_mul 29 a
section LE
variable {s : Nat → Nat → Int32} {l : Nat → Nat → Int64} {q : Nat → Nat → Option Nat} {P : List Nat} {r : Nat → Nat → Nat} {L : Nat} {xs : Nat → Int32}
set_option maxRecDepth 100000 in
set_option maxHeartbeats 1000000 in
theorem refused {tr t f : Nat} {X4 : Int32} {K15 : Int32 → abH → Option (Int32 × abH)} (h : St s q P r) (ht : ¬ nI t < 22) : F_L_law_B70 L xs 3 39 (nI tr) X4 K15 (f + 1) (nI t) (hp s l q P) = K15 (nI (tr + 1)) (hp s l q P) := by
  obtain ⟨hC, hO, hL, hm2, -, -⟩ := h
  have n5 := hO.n5
  have h0 : s 39 0 = nI (r 0 0) := hL.1.1
  have m0 : 0 < r 0 0 := by omega
  have g1 := notp n5
  have g2 := notm n5
  have e1 := c_party_p (l := l) (a2 := 0) hC hO g1
  have e2 : F_X11_party 3 0 7 (hp s l q P) = some (-102, hp s l q P) := c_party_7 hC hO m0
  have e3 := c_party_p (l := l) (a2 := 0) hC hO g2
  have e4 := c_as_p (l := l) (a2 := 0) hC hO g1
  have e5 : F_X11_as 3 0 5 (hp s l q P) = some (-102) := c_as_5 hC hO m0
  have e6 := c_covers_p (l := l) (a2 := 0) hC hO g1
  have e7 : F_X11_covers 3 0 13 (hp s l q P) = some (-102) := c_covers_h hC hO m0 (by decide)
  have e8 : F_X11_covers 3 0 (-1) (hp s l q P) = some (-102) := c_covers_h hC hO m0 (by decide)
  have e9 := c_tile_t (l := l) (a1 := 10) (a2 := 0) hC hO m0 (by decide)
  have e10 := c_tile_t (l := l) (a1 := -1) (a2 := 0) hC hO m0 (by decide)
  have e11 := c_tile_w (l := l) (a1 := 0) hC hO m0 (by decide)
  have e12 := c_found_p (l := l) (a1 := 0) (a2 := nI (r 0 0)) (a3 := 0) hC hO (fun x y hx hy hxy w => g1 y hy w.2)
  have k11 : ∀ x y, x < r 0 0 → y < r 0 0 → x ≠ y → ¬ ((1 : Int32) = nI x ∧ (1 : Int32) = nI y) := fun x y hx hy hxy w => by
    have w1 := (nI_eq (a := 1) (b := x) (by omega) (by omega)).mp w.1
    have w2 := (nI_eq (a := 1) (b := y) (by omega) (by omega)).mp w.2
    omega
  have e13 := c_found_p (l := l) (a3 := 0) hC hO k11
  have e14 : F_X11_found 3 0 1 13 (hp s l q P) = some (-102) := c_found_h (x := 0) (y := 1) hC hO m0 (by omega) (by omega) (by decide)
  have e15 := c_step_p (l := l) (a2 := 1) hC hO g1
  have e16 : F_X11_step 3 0 0 (hp s l q P) = some (-102, hp s l q P) := c_step_b hC hO m0 (by decide) (by decide)
  have e17 : F_X11_step 3 0 2 (hp s l q P) = some (-102, hp s l q P) := c_step_b hC hO m0 (by decide) (by decide)
  have e18 := c_stand_p (l := l) (a2 := 0) hC hO g1
  have e19 : F_X11_stand 3 0 10 (hp s l q P) = some (-101, hp s l q P) := c_stand_t hC hO m0 (by decide)
  have e20 := c_rise_p (l := l) (a2 := 1) hC hO g1
  have e21 : F_X11_rise 3 0 0 (hp s l q P) = some (-102, hp s l q P) := c_rise_h hC hO m0 (by decide)
  have e22 : F_X11_rise 3 0 10 (hp s l q P) = some (-102, hp s l q P) := c_rise_h hC hO m0 (by decide)
  have e23 := c_lay_t (l := l) (a1 := 10) (a2 := 0) hC hO m0 (by decide)
  have e24 := c_lay_w (l := l) (a1 := 0) (a2 := 10) hC hO m0 (by decide) (by decide)
  have e25 := c_file_p (l := l) (a1 := 0) (a2 := nI (r 0 0)) hC hO (fun x y hx hy hxy w => g1 y hy w.2)
  have e26 := c_file_p (l := l) hC hO k11
  have e27 := c_terms_t (s := s) (l := l) (q := q) (P := P) (a1 := 0) (a2 := 1) (a3 := 0) (by decide)
  have e28 := c_terms_t (s := s) (l := l) (q := q) (P := P) (a1 := 61) (a2 := 1) (a3 := 0) (by decide)
  have e29 := c_terms_s (s := s) (l := l) (q := q) (P := P) (a1 := 1) (a2 := -1) (a3 := 0) (by decide) (by decide)
  have e30 := c_terms_w (s := s) (l := l) (q := q) (P := P) (a1 := 1) (a2 := 1) (a3 := 3) (by decide) (by decide) (by decide)
  rw [F_L_law_B70, if_neg ht]
  simp only [gw, sbd, h0, G_ko, bd2_s, e1, e2, e3, e4, e5, e6, e7, e8, e9, e10, e11, e12, e13, e14, e15, e16, e17, e18, e19, e20, e21, e22, e23, e24, e25, e26, e27, e28, e29, e30, reduceIte, nI_1]
theorem acts_loop (hL : L ≤ 260) {tr : Nat} (htr : tr < 2) {K15 : Int32 → abH → Option (Int32 × abH)} (hK : ∀ s l r, St s q P r → ∃ hz, K15 (nI (tr + 1)) (hp s l q P) = some (1, hz)) : ∀ (n t f : Nat) (s : Nat → Nat → Int32) (l : Nat → Nat → Int64) (r : Nat → Nat → Nat), t + n = 22 → n < f → St s q P r → r 6 0 ≤ t →
    ∃ hz, F_L_law_B70 L xs 3 39 (nI tr) (nI (29 * tr)) K15 f (nI t) (hp s l q P) = some (1, hz)
  | _, _, 0, _, _, _, _, hf, _, _ => absurd hf (by omega)
  | 0, t, f + 1, s, l, r, ht, _, h, _ => by
    rw [refused h (show ¬ nI t < 22 from nI_nlt (b := 22) (by omega) (by omega))]
    exact hK s l r h
  | n + 1, t, f + 1, s, l, r, ht, hf, h, hd => by
    have t22 : nI t < 22 := nI_lt (b := 22) (by omega) (by omega)
    obtain ⟨c, hc, ec⟩ := cell_ok hL xs (show 29 * tr + 3 + t < 2147483648 by omega)
    obtain ⟨s1, r1, a1, a2, a3⟩ := ac_all (l := l) h hc (by omega)
    have hl13 := Nat.mod_lt (c / 4) (show 13 > 0 by omega)
    have b1 := told_ok (l := l) a2 hl13
    have ih := fun s l r hS hr => acts_loop hL htr hK n (t + 1) f s l r (by omega) (by omega) hS hr
    have m1 := md13 (a := c / 4) (by omega)
    have m2 := md6 (a := t) (by omega)
    have x5 : nI (t % 6) = 5 ↔ t % 6 = 5 := nI_eq (b := 5) (by omega) (by omega)
    rw [F_L_law_B70, if_pos t22]
    simp only [p3b, nI_add, ec, sbd, a1, bd2_s, if_neg z1, d4, d13, dv4 hc, m1, b1, d6, m2]
    by_cases g : t % 6 = 5
    · rw [if_pos (x5.mpr g)]
      obtain ⟨j, hj, ej⟩ := cell_ok hL xs (show 29 * tr + 24 + t / 6 < 2147483648 by omega)
      have m3' := md60 (a := c / 512) (by omega)
      have l60 := Nat.mod_lt (c / 512) (show 60 > 0 by omega)
      obtain ⟨s2, l2, d1, e2⟩ := terms_ok (l := l) (L := L) (xs := xs) (X3 := nI tr) (X4 := nI (29 * tr)) (t := t) (j := j) (K15 := K15) (K70 := fun u5 hu => F_L_law_B70 L xs 3 39 (nI tr) (nI (29 * tr)) K15 f u5 hu) a2 (show 1 ≤ 1 + c / 512 % 60 by omega) (by omega) hj
      obtain ⟨hz, ez⟩ := ih s2 l2 r1 d1 (by omega)
      refine ⟨hz, ?_⟩
      simp only [d512, d60, dv512 hc, m3', p1a, nme, dv6 (show t < 2147483648 by omega), p24b, nI_add, ej, sbd, nI_l hj]
      exact e2.trans ez
    · rw [if_neg (fun w => g (x5.mp w)), nI_1]
      exact ih s1 l r1 a2 (by omega)
theorem law_loop (hL : L ≤ 260) : ∀ (n t f : Nat) (s : Nat → Nat → Int32) (l : Nat → Nat → Int64) (q : Nat → Nat → Option Nat) (P : List Nat) (r : Nat → Nat → Nat), t + n = 2 → n < f → Bl s q P r →
    ∃ hz, F_L_law_B15 L xs 3 39 f (nI t) (hp s l q P) = some (1, hz)
  | _, _, 0, _, _, _, _, _, _, hf, _ => absurd hf (by omega)
  | 0, t, f + 1, s, l, q, P, r, ht, _, h => by
    rw [F_L_law_B15, if_neg (show ¬ nI t < 2 from nI_nlt (b := 2) (by omega) (by omega))]
    exact ⟨_, rfl⟩
  | n + 1, t, f + 1, s, l, q, P, r, ht, hf, h => by
    obtain ⟨x, hx, ex⟩ := cell_ok hL xs (show 29 * t < 2147483648 by omega)
    obtain ⟨y, hy', ey⟩ := cell_ok hL xs (show 29 * t + 1 < 2147483648 by omega)
    obtain ⟨z, hz', ez⟩ := cell_ok hL xs (show 29 * t + 2 < 2147483648 by omega)
    obtain ⟨s1, q1, P1, r1, a1, a2, a3⟩ := court_ok (l := l) hx hy' hz' h
    have b1 : F_L_told 3 39 3 (hp s1 l q1 P1) = some (1, hp s1 l q1 P1) := told_ok a2 (show 3 < 13 by omega)
    obtain ⟨hz, e⟩ := acts_loop (xs := xs) hL (tr := t) (by omega) (K15 := fun u3 hu => F_L_law_B15 L xs 3 39 f u3 hu) (fun s l r hS => law_loop hL n (t + 1) f s l q1 P1 r (by omega) (by omega) hS.bl) 22 0 200 s1 l r1 rfl (by omega) a2 (by omega)
    refine ⟨hz, ?_⟩
    rw [F_L_law_B15, if_pos (show nI t < 2 from nI_lt (b := 2) (by omega) (by omega))]
    simp only [t29, nme, ex, ey, ez, sbd, nI_1, p2b, a1, bd2_s, if_neg z1, b1]
    exact e
theorem pure_main (hL : L ≤ 260) (xs : Nat → Int32) : ∃ hz : abH, F_L_law L xs [] = some (1, hz) := by
  have h := law_loop (xs := xs) hL 2 0 200 (fun _ _ => 0) (fun _ _ => 0) (fun _ _ => none) [] (fun _ _ => 0) rfl (by omega) Bl_0
  rw [init_ok]
  exact h
end LE
