/-! COURT: both sides -/
section CU
variable {l : Nat → Nat → Int64} {q : Nat → Nat → Option Nat} {P : List Nat} {pg : Nat → Nat} {n m : Nat}
theorem p4 (d x : Nat) : nI d + 4 * nI x = nI (d + 4 * x) := by
  show nI d + nI 4 * nI x = _
  rw [n_mul, nI_add]
theorem mread_w (hc : Cp pg n m) : ∀ (k i f : Nat) (s : Nat → Nat → Int32), (∀ j, s 50 j = nI (pg j)) → s 39 19 = nI m → i + k = 10 → k < f →
    ∃ g : Nat → Int32, (∀ j, g j = if i ≤ j ∧ j < 10 then nI (pg j - 48) else s 40 j) ∧ F_X12_court_B17 39 f (nI i) (hp s l q P) = F_X12_court_B54 39 200 0 (hp (us (us s 40 g) 39 (upd (s 39) 1 (nI m))) l q P)
  | _, _, 0, _, _, _, _, hf => absurd hf (by omega)
  | 0, i, f + 1, s, h5, h4, hi, _ => by
    have e0 : ∀ v, us s 39 (upd (s 39) 1 v) = us (us s 40 (s 40)) 39 (upd (s 39) 1 v) := fun v => by rw [us_id]
    refine ⟨s 40, fun j => by rw [if_neg (by omega)], ?_⟩
    rw [F_X12_court_B17, if_neg (show ¬ nI i < 10 from nI_nlt (b := 10) (by omega) (by omega))]
    simp only [G_gI, G_sI, sbd, h4]
    rw [e0]
  | k + 1, i, f + 1, s, h5, h4, hi, hf => by
    have i34 : i < 34 := by omega
    have i10 : i < 10 := by omega
    obtain ⟨g, g1, g2⟩ := mread_w hc k (i + 1) f (us s 40 (upd (s 40) i (nI (pg i - 48)))) h5 h4 (by omega) (by omega)
    have e : nI (pg i) - 48 = nI (pg i - 48) := n_subn (b := 48) (hc.2.1 i i10).1
    refine ⟨g, fun j => ?_, ?_⟩
    · rw [g1 j, us_self]
      by_cases w : j = i
      · subst w
        rw [if_neg (by omega), if_pos (by omega), upd_s]
      · by_cases w2 : i + 1 ≤ j ∧ j < 10
        · rw [if_pos w2, if_pos (by omega)]
        · rw [if_neg w2, if_neg (by omega), upd_n _ w]
    · rw [us_us] at g2
      rw [F_X12_court_B17, if_pos (show nI i < 10 from nI_lt (b := 10) (by omega) (by omega))]
      simp only [G_gR, G_ga, G_sa, i34, i10, sbd, h5, e, nr, nI_1]
      exact g2
theorem mread_p (hc : Cp pg n m) : ∀ (k x f : Nat) (s : Nat → Nat → Int32), (∀ j, pg j < 127) → (∀ j, s 50 j = nI (pg j)) → s 39 1 = nI m → x + k = m → k < f →
    ∃ (s' : Nat → Nat → Int32), (∀ a, a ≠ 39 → a ≠ 41 → a ≠ 42 → a ≠ 43 → s' a = s a) ∧ s' 39 = upd (upd (upd (upd (upd (upd (s 39) 6 0) 7 0) 8 0) 0 (s 39 0 + 1)) 11 0) 16 0 ∧ (∀ j, s' 41 j = if x ≤ j ∧ j < m then nI (kb (pg (11 + 4 * j))) else s 41 j) ∧ (∀ j, s' 42 j = if x ≤ j ∧ j < m then nI (pg (12 + 4 * j) - 48) else s 42 j) ∧ (∀ j, s' 43 j = if x ≤ j ∧ j < m then nI (pg (13 + 4 * j) - 48) else s 43 j) ∧ F_X12_court_B54 39 f (nI x) (hp s l q P) = some (nI m, hp s' l q P)
  | _, _, 0, _, _, _, _, _, hf => absurd hf (by omega)
  | 0, x, f + 1, s, hp1, h5, h6, hx, _ => by
    have hm := hc.1
    have hx : x = m := hx
    subst hx
    have u0 : ∀ a b c, upd (upd (upd (s 39) 6 a) 7 b) 8 c 0 = s 39 0 := fun a b c => by rw [upd_n _ (by omega), upd_n _ (by omega), upd_n _ (by omega)]
    have u1 : ∀ a b c d e f, upd (upd (upd (upd (upd (upd (s 39) 6 a) 7 b) 8 c) 0 d) 11 e) 16 f 1 = nI x := fun a b c d e f => by rw [upd_n _ (by omega), upd_n _ (by omega), upd_n _ (by omega), upd_n _ (by omega), upd_n _ (by omega), upd_n _ (by omega)]; exact h6
    refine ⟨us s 39 (upd (upd (upd (upd (upd (upd (s 39) 6 0) 7 0) 8 0) 0 (s 39 0 + 1)) 11 0) 16 0), fun a h1 _ _ _ => us_ne _ _ h1, us_self _ _ _, fun j => ?_, fun j => ?_, fun j => ?_, ?_⟩
    · rw [if_neg (by omega)]; rfl
    · rw [if_neg (by omega)]; rfl
    · rw [if_neg (by omega)]; rfl
    · rw [F_X12_court_B54]
      simp only [G_gI, G_sI, sbd, h6, if_neg (show ¬ nI x < nI x from nI_nlt (Nat.le_refl _) (by omega)), us_us, us_self, u0, u1]
  | k + 1, x, f + 1, s, hp1, h5, h6, hx, hf => by
    have hm := hc.1
    have x5 : x < 5 := by omega
    have x34 : 11 + 4 * x < 34 ∧ 12 + 4 * x < 34 ∧ 13 + 4 * x < 34 := by omega
    have hpx := hc.2.2 x (by omega)
    have ek := kindBy_all _ (hp1 (11 + 4 * x))
    rw [decide_eq_true hpx.1, if_pos rfl] at ek
    have e2 : nI (pg (12 + 4 * x)) - 48 = nI (pg (12 + 4 * x) - 48) := n_subn (b := 48) (by omega)
    have e3 : nI (pg (13 + 4 * x)) - 48 = nI (pg (13 + 4 * x) - 48) := n_subn (b := 48) (by omega)
    have w1 : (11 : Int32) + 4 * nI x = nI (11 + 4 * x) := p4 11 x
    have w2 : (12 : Int32) + 4 * nI x = nI (12 + 4 * x) := p4 12 x
    have w3 : (13 : Int32) + 4 * nI x = nI (13 + 4 * x) := p4 13 x
    obtain ⟨s', a1, a2, a3, a4, a5, a6⟩ := mread_p hc k (x + 1) f (us (us (us s 41 (upd (s 41) x (nI (kb (pg (11 + 4 * x)))))) 42 (upd (s 42) x (nI (pg (12 + 4 * x) - 48)))) 43 (upd (s 43) x (nI (pg (13 + 4 * x) - 48)))) hp1 h5 h6 (by omega) (by omega)
    have t1 : ∀ f, us s 41 f 50 (12 + 4 * x) = nI (pg (12 + 4 * x)) := fun _ => h5 _
    have t2 : ∀ f g, us (us s 41 f) 42 g 50 (13 + 4 * x) = nI (pg (13 + 4 * x)) := fun _ _ => h5 _
    have t3 : ∀ f, us s 41 f 42 = s 42 := fun _ => rfl
    have t4 : ∀ f g, us (us s 41 f) 42 g 43 = s 43 := fun _ _ => rfl
    refine ⟨s', fun a h1 h2 h3 h4 => ?_, a2, fun j => ?_, fun j => ?_, fun j => ?_, ?_⟩
    · rw [a1 a h1 h2 h3 h4, us_ne _ _ h4, us_ne _ _ h3, us_ne _ _ h2]
    · rw [a3 j]
      show (if x + 1 ≤ j ∧ j < m then _ else upd (s 41) x _ j) = _
      by_cases w : j = x
      · subst w
        rw [if_neg (by omega), if_pos (by omega), upd_s]
      · by_cases w2 : x + 1 ≤ j ∧ j < m
        · rw [if_pos w2, if_pos (by omega)]
        · rw [if_neg w2, if_neg (by omega), upd_n _ w]
    · rw [a4 j]
      show (if x + 1 ≤ j ∧ j < m then _ else upd (s 42) x _ j) = _
      by_cases w : j = x
      · subst w
        rw [if_neg (by omega), if_pos (by omega), upd_s]
      · by_cases w2 : x + 1 ≤ j ∧ j < m
        · rw [if_pos w2, if_pos (by omega)]
        · rw [if_neg w2, if_neg (by omega), upd_n _ w]
    · rw [a5 j]
      show (if x + 1 ≤ j ∧ j < m then _ else upd (s 43) x _ j) = _
      by_cases w : j = x
      · subst w
        rw [if_neg (by omega), if_pos (by omega), upd_s]
      · by_cases w2 : x + 1 ≤ j ∧ j < m
        · rw [if_pos w2, if_pos (by omega)]
        · rw [if_neg w2, if_neg (by omega), upd_n _ w]
    · rw [F_X12_court_B54]
      simp only [G_gI, G_gR, G_ga, G_sa, x34, x5, sbd, h6, if_pos (show nI x < nI m from nI_lt (by omega) (by omega)), w1, w2, w3, h5, ek, nr, t1, t2, t3, t4, e2, e3, nI_1]
      exact a6
theorem nI_if (m i a b : Nat) : (if 0 ≤ i ∧ i < m then nI a else nI b) = nI (if i < m then a else b) := by
  by_cases h : i < m
  · rw [if_pos ⟨Nat.zero_le _, h⟩, if_pos h]
  · rw [if_neg (fun w => h w.2), if_neg h]
end CU
section CV
variable {M : Nat}
set_option maxHeartbeats 4000000 in
theorem go_court : Go M (F_X11_court 3) (F_X12_court 39) := by
  rintro s l q P ⟨r, k, pg, n, c, b, hC, hM, hO⟩
  have hcc := court_c (l := l) (q := q) (P := P) hC.2.1.1 hC.2.1.2 hO.2.1.2 hO.2.1.1
  cases hI : isC pg n with
  | false =>
    obtain ⟨s', a1, a2, a3, _⟩ := read_ok (l := l) (q := q) (P := P) hO.2.1.2 hO.2.1.1 hM.2.1.1 hM.2.1.2
    rw [hI] at hcc a3
    refine ⟨-103, s, s', l, l, q, P, ?_, ?_, r, k, pg, n, c, b, hC.fr (fun a ha => a1.1 a (by omega)), hM.em a1, hO.up⟩
    · unfold F_X11_court
      simp only [G_gR, G_ko, sbd, hcc]
      rfl
    · unfold F_X12_court
      simp only [G_ko, sbd, a2, bd2_s, G_gI, a3]
      rfl
  | true =>
    have hc := Cp_of hI
    revert hc
    generalize hm : (n - 10) / 4 = m
    intro hc
    rw [hI] at hcc
    obtain ⟨g, g1, g2⟩ := read_w (l := l) (q := q) (P := P) hc 10 0 200 s hC.2.1.2 hC.2.1.1 rfl (by omega)
    obtain ⟨s', q', P', a1, a2, a3, a4, _, a6, _, a8⟩ := read_p (l := l) hc m 0 6 (us (us s 10 g) 6 (upd (s 6) 0 (nI m))) q P hC.2.1.2 (by rw [us_self, upd_s]) (by omega) (by have := hc.1; omega)
    have e3 : s' 3 = s 3 := a1 3 (by omega) (by omega) (by omega)
    have e4 : s' 4 = s 4 := a1 4 (by omega) (by omega) (by omega)
    have e60 : s' 6 0 = nI m := by
      rw [a2, upd_n _ (by omega), upd_n _ (by omega), upd_n _ (by omega), upd_n _ (by omega), us_self, upd_s]
    -- the class's end
    have hX : F_X11_court 3 (hp s l q P) = some (nI m, hp (us (us s' 4 (upd (s 4) 1 0)) 3 (upd (upd (s 3) 7 0) 8 (nI (c + 1)))) l q' P') := by
      have t0 : ∀ f, us s' 4 f 3 = s 3 := fun _ => e3
      have t1 : ∀ f g, us (us s' 4 f) 3 g 6 0 = nI m := fun _ _ => e60
      have t2 : upd (s 3) 7 0 8 = nI c := by rw [upd_n _ (by omega)]; exact hC.2.2.1
      have hr : F_X1_read 6 4 (hp s l q P) = some (hp s' l q' P') := g2.trans a8
      unfold F_X11_court
      simp only [G_gR, G_ko, G_gI, G_sI, sbd, hcc, b2_t, if_neg (show ¬ (1 : Int32) = 0 by decide), hr, e4, t0, us_us, us_self, t2, nI_1, t1]
    have hEq : ∀ a, 18 < a → us (us s' 4 (upd (s 4) 1 0)) 3 (upd (upd (s 3) 7 0) 8 (nI (c + 1))) a = s a := fun a ha => by
      rw [us_ne _ _ (by omega), us_ne _ _ (by omega), a1 a (by omega) (by omega) (by omega), us_ne _ _ (by omega), us_ne _ _ (by omega)]
    have b4 : us (us s' 4 (upd (s 4) 1 0)) 3 (upd (upd (s 3) 7 0) 8 (nI (c + 1))) 4 = upd (s 4) 1 0 := rfl
    have b3 : us (us s' 4 (upd (s 4) 1 0)) 3 (upd (upd (s 3) 7 0) 8 (nI (c + 1))) 3 = upd (upd (s 3) 7 0) 8 (nI (c + 1)) := rfl
    have bb : ∀ a, 4 < a → us (us s' 4 (upd (s 4) 1 0)) 3 (upd (upd (s 3) 7 0) 8 (nI (c + 1))) a = s' a := fun a ha => by rw [us_ne _ _ (by omega), us_ne _ _ (by omega)]
    revert hX hEq b4 b3 bb
    generalize us (us s' 4 (upd (s 4) 1 0)) 3 (upd (upd (s 3) 7 0) 8 (nI (c + 1))) = s1
    intro hX hEq b4 b3 bb
    -- the reference
    have m16 : s1 39 16 = nI n := by rw [hEq 39 (by omega)]; exact hM.2.1.1
    have m50 : ∀ i, s1 50 i = nI (pg i) := by rw [hEq 50 (by omega)]; exact hM.2.1.2
    obtain ⟨t, d1, d2, d3, d4⟩ := read_ok (l := l) (q := q') (P := P') hO.2.1.2 hO.2.1.1 m16 m50
    have d4 := d4 hI
    rw [hI] at d3
    rw [hm] at d4
    have t50 : ∀ i, t 50 i = nI (pg i) := by rw [d1.1 50 (by omega)]; exact m50
    obtain ⟨g', f1, f2⟩ := mread_w (l := l) (q := q') (P := P') hc 10 0 200 t t50 d4 rfl (by omega)
    obtain ⟨t', i1, i2, i3, i4, i5, i6⟩ := mread_p (l := l) (q := q') (P := P') hc m 0 200 (us (us t 40 g') 39 (upd (t 39) 1 (nI m))) hO.2.1.2 t50 (by rw [us_self, upd_s]) (by omega) (by have := hc.1; omega)
    have hY : F_X12_court 39 (hp s1 l q' P') = some (nI m, hp t' l q' P') := by
      unfold F_X12_court
      simp only [G_ko, sbd, d2, bd2_s, G_gI, d3, b2_t, if_neg (show ¬ (1 : Int32) = 0 by decide)]
      exact f2.trans i6
    have j39 : ∀ x, x ≠ 18 → x ≠ 19 → t 39 x = s 39 x := fun x h1 h2 => by rw [d1.2 x h1 h2, hEq 39 (by omega)]
    have jt : ∀ a, a < 39 ∨ (43 < a ∧ a < 51) ∨ 55 ≤ a → t' a = s1 a := fun a ha => by
      rw [i1 a (by omega) (by omega) (by omega) (by omega), us_ne _ _ (by omega), us_ne _ _ (by omega), d1.1 a (by omega)]
    have j9 : ∀ x, x ≠ 0 → x ≠ 1 → x ≠ 6 → x ≠ 7 → x ≠ 8 → x ≠ 11 → x ≠ 16 → x ≠ 18 → x ≠ 19 → t' 39 x = s 39 x := fun x h0 h1 h6 h7 h8 h11 h16 h18 h19 => by
      rw [i2, upd_n _ h16, upd_n _ h11, upd_n _ h0, upd_n _ h8, upd_n _ h7, upd_n _ h6, us_self, upd_n _ h1, j39 x h18 h19]
    have hO2 := ctR_ok hO.1 hc
    refine ⟨nI m, s1, t', l, l, q', P', hX, hY, ctR r pg m, k, pg, 0, c + 1, false, ?_, ?_, hO2, ⟨Nat.zero_le _, hO.2.1.2⟩, Nat.succ_le_succ hO.2.2.1, fun h => by cases h⟩
    · have w8 : ∀ a, 4 < a → a < 29 → t' a = s' a := fun a h1 h2 => by rw [jt a (by omega), bb a h1]
      have w9 : ∀ a, 4 < a → a < 29 → a ≠ 6 → a ≠ 8 → a ≠ 9 → a ≠ 10 → t' a = s a := fun a h1 h2 h6 h8 h9 h10 => by
        rw [w8 a h1 h2, a1 a h6 h8 h9, us_ne _ _ h6, us_ne _ _ h10]
      have hC1 := hC.1.2.1
      refine ⟨⟨?_, ?_, ?_⟩, ⟨?_, ?_⟩, ?_, ?_, (fun h => by cases h), ?_⟩
      · rw [w8 6 (by omega) (by omega), a2]
        refine ⟨?_, ?_, ?_, ?_, ?_⟩
        · rw [upd_n _ (by omega), upd_n _ (by omega), upd_n _ (by omega), upd_n _ (by omega), us_self, upd_s]; rfl
        · rw [upd_n _ (by omega), upd_n _ (by omega), upd_n _ (by omega), upd_s]; rfl
        · rw [upd_n _ (by omega), upd_n _ (by omega), upd_s]; rfl
        · rw [upd_n _ (by omega), upd_s]; rfl
        · rw [upd_s]; rfl
      · refine ⟨fun i => ?_, fun i => ?_, fun i => ?_, ?_, ?_, ?_, ?_, ?_, ?_⟩
        · rw [w8 8 (by omega) (by omega), a3 i]
          show (if 0 ≤ i ∧ i < m then nI (pg (12 + 4 * i) - 48) else s 8 i) = nI (if i < m then pg (12 + 4 * i) - 48 else r 2 i)
          rw [hC1.1 i]; exact nI_if _ _ _ _
        · rw [w8 9 (by omega) (by omega), a4 i]
          show (if 0 ≤ i ∧ i < m then nI (pg (13 + 4 * i) - 48) else s 9 i) = nI (if i < m then pg (13 + 4 * i) - 48 else r 3 i)
          rw [hC1.2.1 i]; exact nI_if _ _ _ _
        · rw [w8 10 (by omega) (by omega), a1 10 (by omega) (by omega) (by omega), us_ne _ _ (by omega), us_self, g1 i]
          show (if 0 ≤ i ∧ i < 10 then nI (pg i - 48) else s 10 i) = nI (if i < 10 then pg i - 48 else r 4 i)
          rw [hC1.2.2.1 i]; exact nI_if _ _ _ _
        · rw [w9 11 (by omega) (by omega) (by omega) (by omega) (by omega) (by omega)]; exact hC1.2.2.2.1
        · rw [w9 12 (by omega) (by omega) (by omega) (by omega) (by omega) (by omega)]; exact hC1.2.2.2.2.1
        · rw [w9 13 (by omega) (by omega) (by omega) (by omega) (by omega) (by omega)]; exact hC1.2.2.2.2.2.1
        · rw [w9 14 (by omega) (by omega) (by omega) (by omega) (by omega) (by omega)]; exact hC1.2.2.2.2.2.2.1
        · rw [w9 15 (by omega) (by omega) (by omega) (by omega) (by omega) (by omega)]; exact hC1.2.2.2.2.2.2.2.1
        · rw [w9 16 (by omega) (by omega) (by omega) (by omega) (by omega) (by omega)]; exact hC1.2.2.2.2.2.2.2.2
      · intro i hi
        have hi : i < m := hi
        obtain ⟨j, x1, x2⟩ := a6 i (by omega) hi
        refine ⟨j, x1, ?_⟩
        show P'[j]? = some (kcl (if i < m then kb (pg (11 + 4 * i)) else r 1 i))
        rw [if_pos hi]; exact x2
      · rw [jt 4 (by omega), b4, upd_s]; rfl
      · rw [w9 5 (by omega) (by omega) (by omega) (by omega) (by omega) (by omega)]; exact hC.2.1.2
      · rw [jt 3 (by omega), b3, upd_s]
      · rw [jt 3 (by omega), b3, upd_n _ (by omega), upd_s]; rfl
      · have w := hC.2.2.2.2.2
        unfold Kw
        rw [w9 19 (by omega) (by omega) (by omega) (by omega) (by omega) (by omega), w9 20 (by omega) (by omega) (by omega) (by omega) (by omega) (by omega), w9 21 (by omega) (by omega) (by omega) (by omega) (by omega) (by omega), w9 22 (by omega) (by omega) (by omega) (by omega) (by omega) (by omega), w9 23 (by omega) (by omega) (by omega) (by omega) (by omega) (by omega), w9 24 (by omega) (by omega) (by omega) (by omega) (by omega) (by omega), w9 25 (by omega) (by omega) (by omega) (by omega) (by omega) (by omega), w9 26 (by omega) (by omega) (by omega) (by omega) (by omega) (by omega), w9 27 (by omega) (by omega) (by omega) (by omega) (by omega) (by omega)]
        exact w
    · have hM1 := hM.1.2.1
      have w4 : ∀ a, 43 < a → a < 51 → t' a = s a := fun a h1 h2 => by rw [jt a (by omega), hEq a (by omega)]
      have v40 : ∀ a, 40 < a → a < 44 → (us (us t 40 g') 39 (upd (t 39) 1 (nI m))) a = s a := fun a h1 h2 => by
        rw [us_ne _ _ (by omega), us_ne _ _ (by omega), d1.1 a (by omega), hEq a (by omega)]
      refine ⟨⟨⟨?_, ?_, ?_, ?_, ?_⟩, ⟨?_, ?_, ?_, ?_, ?_, ?_, ?_, ?_, ?_⟩, ?_⟩, ⟨?_, ?_⟩, ?_, (fun h => by cases h), fun _ => ?_⟩
      · rw [i2, upd_n _ (by omega), upd_n _ (by omega), upd_n _ (by omega), upd_n _ (by omega), upd_n _ (by omega), upd_n _ (by omega), us_self, upd_s]; rfl
      · rw [i2, upd_n _ (by omega), upd_n _ (by omega), upd_n _ (by omega), upd_n _ (by omega), upd_n _ (by omega), upd_s]; rfl
      · rw [i2, upd_n _ (by omega), upd_n _ (by omega), upd_n _ (by omega), upd_n _ (by omega), upd_s]; rfl
      · rw [i2, upd_n _ (by omega), upd_n _ (by omega), upd_n _ (by omega), upd_s]; rfl
      · rw [i2, upd_n _ (by omega), upd_s]; rfl
      · intro i
        rw [i4 i, v40 42 (by omega) (by omega)]
        show _ = nI (if i < m then pg (12 + 4 * i) - 48 else r 2 i)
        rw [hM1.1 i]; exact nI_if _ _ _ _
      · intro i
        rw [i5 i, v40 43 (by omega) (by omega)]
        show _ = nI (if i < m then pg (13 + 4 * i) - 48 else r 3 i)
        rw [hM1.2.1 i]; exact nI_if _ _ _ _
      · intro i
        rw [i1 40 (by omega) (by omega) (by omega) (by omega), us_ne _ _ (by omega), us_self, f1 i, d1.1 40 (by omega), hEq 40 (by omega)]
        show _ = nI (if i < 10 then pg i - 48 else r 4 i)
        rw [hM1.2.2.1 i]; exact nI_if _ _ _ _
      · rw [w4 44 (by omega) (by omega)]; exact hM1.2.2.2.1
      · rw [w4 45 (by omega) (by omega)]; exact hM1.2.2.2.2.1
      · rw [w4 46 (by omega) (by omega)]; exact hM1.2.2.2.2.2.1
      · rw [w4 47 (by omega) (by omega)]; exact hM1.2.2.2.2.2.2.1
      · rw [w4 48 (by omega) (by omega)]; exact hM1.2.2.2.2.2.2.2.1
      · rw [w4 49 (by omega) (by omega)]; exact hM1.2.2.2.2.2.2.2.2
      · intro i
        rw [i3 i, v40 41 (by omega) (by omega)]
        show _ = nI (if i < m then kb (pg (11 + 4 * i)) else r 1 i)
        rw [hM.1.2.2 i]; exact nI_if _ _ _ _
      · rw [i2, upd_s]; rfl
      · rw [w4 50 (by omega) (by omega)]; exact hM.2.1.2
      · rw [i2, upd_n _ (by omega), upd_n _ (by omega), upd_s, us_self, upd_n _ (by omega), j39 0 (by omega) (by omega), hM.2.2.1, nI_1]
      · rw [j9 25 (by omega) (by omega) (by omega) (by omega) (by omega) (by omega) (by omega) (by omega) (by omega), j9 26 (by omega) (by omega) (by omega) (by omega) (by omega) (by omega) (by omega) (by omega) (by omega)]
        cases b with
        | true => exact Or.inr ⟨c, by omega, (hM.2.2.2.1 rfl).2.1⟩
        | false =>
          rcases hM.2.2.2.2 rfl with h | ⟨d, h1, h2⟩
          · exact Or.inl h
          · exact Or.inr ⟨d, by omega, h2⟩
end CV
