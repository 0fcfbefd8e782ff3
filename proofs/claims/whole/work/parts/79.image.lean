/-! IMAGE, RESTORE: both sides -/
/-- the table r, with what lies beyond the arrays' ends of z -/
def cpR (r z : Nat → Nat → Nat) : Nat → Nat → Nat := us (us (us (us (us (us (us (us (us r 2 (fun i => if i < 5 then r 2 i else z 2 i)) 3 (fun i => if i < 5 then r 3 i else z 3 i)) 4 (fun i => if i < 10 then r 4 i else z 4 i)) 8 (fun i => if i < 5 then r 8 i else z 8 i)) 9 (fun i => if i < 5 then r 9 i else z 9 i)) 11 (fun i => if i < 8 then r 11 i else z 11 i)) 12 (fun i => if i < 8 then r 12 i else z 12 i)) 13 (fun i => if i < 8 then r 13 i else z 13 i)) 14 (fun i => if i < 8 then r 14 i else z 14 i)
theorem Ok_0 : Ok (fun _ _ => 0) := ⟨Or.inl rfl, fun _ => Nat.succ_pos _, fun _ => Nat.succ_pos _, fun _ => Nat.succ_pos _, fun _ => Nat.succ_pos _, Nat.succ_pos _, Nat.succ_pos _, Nat.zero_le _, fun i hi => absurd hi (Nat.not_lt_zero _), Nat.zero_le _, fun _ => Nat.succ_pos _, fun _ => Nat.succ_pos _, fun _ => Nat.succ_pos _, fun _ => Nat.succ_pos _⟩
theorem if_lt {c : Prop} [Decidable c] {a b m : Nat} (h1 : a < m) (h2 : b < m) : (if c then a else b) < m := by split <;> assumption
theorem cpR_ok {r z : Nat → Nat → Nat} (hr : Ok r) (hz : Ok z) : Ok (cpR r z) := by
  have h7 := hr.2.2.2.2.2.2.2.1
  refine ⟨hr.1, hr.2.1, fun i => if_lt (hr.2.2.1 i) (hz.2.2.1 i), fun i => if_lt (hr.2.2.2.1 i) (hz.2.2.2.1 i), fun i => if_lt (hr.2.2.2.2.1 i) (hz.2.2.2.2.1 i), hr.2.2.2.2.2.1, hr.2.2.2.2.2.2.1, h7, fun i hi => ?_, hr.2.2.2.2.2.2.2.2.2.1, fun i => if_lt (hr.2.2.2.2.2.2.2.2.2.2.1 i) (hz.2.2.2.2.2.2.2.2.2.2.1 i), fun i => if_lt (hr.2.2.2.2.2.2.2.2.2.2.2.1 i) (hz.2.2.2.2.2.2.2.2.2.2.2.1 i), fun i => if_lt (hr.2.2.2.2.2.2.2.2.2.2.2.2.1 i) (hz.2.2.2.2.2.2.2.2.2.2.2.2.1 i), fun i => if_lt (hr.2.2.2.2.2.2.2.2.2.2.2.2.2 i) (hz.2.2.2.2.2.2.2.2.2.2.2.2.2 i)⟩
  have hi : i < r 7 0 := hi
  show (if i < 5 then r 8 i else z 8 i) < r 0 0 ∧ (if i < 5 then r 9 i else z 9 i) < r 0 0
  rw [if_pos (by omega), if_pos (by omega)]
  exact hr.2.2.2.2.2.2.2.2.1 i hi
theorem Ok.set1 {r : Nat → Nat → Nat} (h : Ok r) {f : Nat → Nat} (hf : ∀ i, f i < 5) : Ok (us r 1 f) := ⟨h.1, hf, h.2.2⟩
theorem cpy_at {α : Type} (f g : Nat → α) (n i : Nat) : va_cpy f g 0 0 n i = if i < n then f i else g i := by
  unfold va_cpy
  simp
theorem cpy_row {f g : Nat → Int32} {a z : Nat → Nat} {n : Nat} (h1 : ∀ i, i < n → f i = nI (a i)) (h2 : ∀ i, n ≤ i → g i = nI (z i)) (i : Nat) : va_cpy f g 0 0 n i = nI (if i < n then a i else z i) := by
  rw [cpy_at]
  split
  next h => exact h1 i h
  next h => exact h2 i (by omega)
theorem if_row {f g : Nat → Int32} {a z : Nat → Nat} {n : Nat} (h1 : ∀ i, i < n → f i = nI (a i)) (h2 : ∀ i, n ≤ i → g i = nI (z i)) (i : Nat) : (if i < n then f i else g i) = nI (if i < n then a i else z i) := by
  split
  next h => exact h1 i h
  next h => exact h2 i (by omega)
theorem cpy_far {f g : Nat → Int32} {n : Nat} (h : ∀ i, n ≤ i → g i = 0) : ∀ i, n ≤ i → va_cpy f g 0 0 n i = 0 := by
  intro i hi
  rw [cpy_at, if_neg (by omega)]
  exact h i hi
section CY
variable {M : Nat}
set_option maxRecDepth 100000 in
theorem go_image : Go M (F_X11_image 3) (F_X12_image 39) := by
  rintro s l q P ⟨r, k, pg, n, c, b, hC, hM, hO⟩
  have n5 := hO.1.n5
  by_cases g0 : r 0 0 = 0
  · refine ⟨-103, s, s, l, l, q, P, ?_, ?_, r, k, pg, n, c, b, hC, hM, hO.up⟩
    · unfold F_X11_image
      simp only [G_gR, G_ko, sbd, none_ok hC.1 hO.1, if_pos g0, if_neg (show ¬ (1 : Int32) = 0 by decide)]
    · unfold F_X12_image
      simp only [G_gI, sbd, hM.1.1.1, g0]
      rfl
  · have e0 : ¬ nI (r 0 0) = 0 := nI_ne0 (by omega) (by omega)
    have a3 := copy17_ok (s := s) (l := l) (q := q) (P := P)
    have z3 : cE17 s 3 = s 3 := rfl
    have z17 : us (cE17 s) 3 (upd (s 3) 7 1) 17 = upd (upd (upd (upd (s 17) 5 (s 6 5)) 6 (s 6 6)) 7 (s 6 7)) 10 (s 6 10) := rfl
    have y5 : us (cE17 s) 3 (upd (s 3) 7 1) 17 5 = nI (r 5 0) := by
      rw [z17, upd_n _ (by omega), upd_n _ (by omega), upd_n _ (by omega), upd_s]; exact hC.1.1.2.1
    have y6 : us (cE17 s) 3 (upd (s 3) 7 1) 17 6 = nI (r 6 0) := by
      rw [z17, upd_n _ (by omega), upd_n _ (by omega), upd_s]; exact hC.1.1.2.2.1
    have hX : F_X11_image 3 (hp s l q P) = some (nI (r 6 0) * 13 + nI (r 5 0), hp (us (cE17 s) 3 (upd (s 3) 7 1)) l q P) := by
      unfold F_X11_image F_X1_hoursInAll
      simp only [G_gR, G_ko, G_sI, G_gI, sbd, none_ok hC.1 hO.1, if_neg g0, reduceIte, a3, z3, y5, y6]
    have x4 : us (cE17 s) 3 (upd (s 3) 7 1) 3 = upd (s 3) 7 1 := rfl
    have xs : ∀ a, a ≠ 3 → a ≠ 17 → a ≠ 19 → a ≠ 20 → a ≠ 21 → a ≠ 22 → a ≠ 23 → a ≠ 24 → a ≠ 25 → a ≠ 26 → a ≠ 27 → us (cE17 s) 3 (upd (s 3) 7 1) a = s a := fun a h3 h17 h19 h20 h21 h22 h23 h24 h25 h26 h27 => by
      rw [us_ne _ _ h3]
      unfold cE17
      rw [us_ne _ _ h27, us_ne _ _ h26, us_ne _ _ h25, us_ne _ _ h24, us_ne _ _ h17, us_ne _ _ h23, us_ne _ _ h22, us_ne _ _ h17, us_ne _ _ h17, us_ne _ _ h17, us_ne _ _ h21, us_ne _ _ h20, us_ne _ _ h19]
    have xc : (us (cE17 s) 3 (upd (s 3) 7 1) 19 = va_cpy (s 8) (s 19) 0 0 5 ∧ us (cE17 s) 3 (upd (s 3) 7 1) 20 = va_cpy (s 9) (s 20) 0 0 5 ∧ us (cE17 s) 3 (upd (s 3) 7 1) 21 = va_cpy (s 10) (s 21) 0 0 10 ∧ us (cE17 s) 3 (upd (s 3) 7 1) 22 = va_cpy (s 11) (s 22) 0 0 5 ∧ us (cE17 s) 3 (upd (s 3) 7 1) 23 = va_cpy (s 12) (s 23) 0 0 5) ∧ (us (cE17 s) 3 (upd (s 3) 7 1) 24 = va_cpy (s 13) (s 24) 0 0 8 ∧ us (cE17 s) 3 (upd (s 3) 7 1) 25 = va_cpy (s 14) (s 25) 0 0 8 ∧ us (cE17 s) 3 (upd (s 3) 7 1) 26 = va_cpy (s 15) (s 26) 0 0 8 ∧ us (cE17 s) 3 (upd (s 3) 7 1) 27 = va_cpy (s 16) (s 27) 0 0 8) := ⟨⟨rfl, rfl, rfl, rfl, rfl⟩, rfl, rfl, rfl, rfl⟩
    revert hX z17 x4 xs xc
    clear y5 y6 z3
    generalize us (cE17 s) 3 (upd (s 3) 7 1) = s1
    intro z17 hX x4 xs xc
    have h39 : s1 39 = s 39 := xs 39 (by omega) (by omega) (by omega) (by omega) (by omega) (by omega) (by omega) (by omega) (by omega) (by omega) (by omega)
    have xl : ∀ a, a < 17 → a ≠ 3 → s1 a = s a := fun a h1 h2 => xs a h2 (by omega) (by omega) (by omega) (by omega) (by omega) (by omega) (by omega) (by omega) (by omega) (by omega)
    have xh : ∀ a, 27 < a → s1 a = s a := fun a h1 => xs a (by omega) (by omega) (by omega) (by omega) (by omega) (by omega) (by omega) (by omega) (by omega) (by omega) (by omega)
    obtain ⟨t, p0, p55, p56, p57, p58, p59, p60, p61, p62, p63, pz⟩ := im_all (l := l) (q := q) (P := P) (us s1 39 (upd (upd (upd (upd (upd (upd (s1 39) 25 1) 26 (nI c)) 27 (nI (r 5 0))) 28 (nI (r 6 0))) 29 (nI (r 7 0))) 30 (nI (r 10 0))))
    have i1 : s1 39 1 = nI (r 0 0) := by rw [h39]; exact hM.1.1.1
    have i0 : s1 39 0 = nI c := by rw [h39]; exact hM.2.2.1
    have i6 : s1 39 6 = nI (r 5 0) := by rw [h39]; exact hM.1.1.2.1
    have i7 : s1 39 7 = nI (r 6 0) := by rw [h39]; exact hM.1.1.2.2.1
    have i8 : s1 39 8 = nI (r 7 0) := by rw [h39]; exact hM.1.1.2.2.2.1
    have i11 : s1 39 11 = nI (r 10 0) := by rw [h39]; exact hM.1.1.2.2.2.2
    have v0 : ∀ x, upd (s1 39) 25 x 0 = nI c := fun x => by rw [upd_n _ (by omega)]; exact i0
    have v6 : ∀ x y, upd (upd (s1 39) 25 x) 26 y 6 = nI (r 5 0) := fun x y => by rw [upd_n _ (by omega), upd_n _ (by omega)]; exact i6
    have v7 : ∀ x y z, upd (upd (upd (s1 39) 25 x) 26 y) 27 z 7 = nI (r 6 0) := fun x y z => by rw [upd_n _ (by omega), upd_n _ (by omega), upd_n _ (by omega)]; exact i7
    have v8 : ∀ x y z w, upd (upd (upd (upd (s1 39) 25 x) 26 y) 27 z) 28 w 8 = nI (r 7 0) := fun x y z w => by rw [upd_n _ (by omega), upd_n _ (by omega), upd_n _ (by omega), upd_n _ (by omega)]; exact i8
    have v11 : ∀ x y z w u, upd (upd (upd (upd (upd (s1 39) 25 x) 26 y) 27 z) 28 w) 29 u 11 = nI (r 10 0) := fun x y z w u => by rw [upd_n _ (by omega), upd_n _ (by omega), upd_n _ (by omega), upd_n _ (by omega), upd_n _ (by omega)]; exact i11
    have vv : ∀ (x y z w u v : Int32) (j : Nat), j < 25 → upd (upd (upd (upd (upd (upd (s1 39) 25 x) 26 y) 27 z) 28 w) 29 u) 30 v j = s 39 j := fun x y z w u v j hj => by rw [upd_n _ (by omega), upd_n _ (by omega), upd_n _ (by omega), upd_n _ (by omega), upd_n _ (by omega), upd_n _ (by omega), h39]
    have hY : F_X12_image 39 (hp s1 l q P) = some (nI (r 6 0) * 13 + nI (r 5 0), hp t l q P) := by
      unfold F_X12_image
      simp only [G_gI, G_sI, sbd, i1, if_neg e0, us_us, us_self, v0, v6, v7, v8, v11]
      refine pz.trans ?_
      rw [us_self, vv _ _ _ _ _ _ 7 (by omega), vv _ _ _ _ _ _ 6 (by omega), Int32.mul_comm]
      show some (s 39 7 * 13 + s 39 6, _) = _
      rw [hM.1.1.2.2.1, hM.1.1.2.1]
    have jt : ∀ a, a < 39 ∨ (39 < a ∧ a < 55) → t a = s1 a := fun a ha => by
      rw [p0 a (by omega) (by omega) (by omega) (by omega) (by omega) (by omega) (by omega) (by omega) (by omega), us_ne _ _ (by omega)]
    have j39 : t 39 = upd (upd (upd (upd (upd (upd (s1 39) 25 1) 26 (nI c)) 27 (nI (r 5 0))) 28 (nI (r 6 0))) 29 (nI (r 7 0))) 30 (nI (r 10 0)) := by
      rw [p0 39 (by omega) (by omega) (by omega) (by omega) (by omega) (by omega) (by omega) (by omega) (by omega), us_self]
    have hw := hC.2.2.2.2.2
    have h1 := hC.1.2.1
    have h2 := hM.1.2.1
    refine ⟨nI (r 6 0) * 13 + nI (r 5 0), s1, t, l, l, q, P, hX, hY, r, cpR r (fun _ _ => 0), pg, n, c, true, ?_, ?_, hO.1, hO.2.1, Nat.le_succ_of_le hO.2.2.1, fun _ => ⟨cpR_ok hO.1 Ok_0, rfl, fun _ _ => rfl⟩⟩
    · have xx : ∀ a, a < 17 → a ≠ 3 → t a = s a := fun a h1 h2 => by rw [jt a (by omega), xl a h1 h2]
      refine ⟨⟨?_, ?_, ?_⟩, ⟨?_, ?_⟩, ?_, ?_, fun _ => ⟨?_, ?_⟩, ?_⟩
      · rw [xx 6 (by omega) (by omega)]; exact hC.1.1
      · show (∀ i, t 8 i = nI (r 2 i)) ∧ (∀ i, t 9 i = nI (r 3 i)) ∧ (∀ i, t 10 i = nI (r 4 i)) ∧ (∀ i, t 11 i = nI (r 8 i)) ∧ (∀ i, t 12 i = nI (r 9 i)) ∧ (∀ i, t 13 i = nI (r 11 i)) ∧ (∀ i, t 14 i = nI (r 12 i)) ∧ (∀ i, t 15 i = nI (r 13 i)) ∧ (∀ i, t 16 i = nI (r 14 i))
        rw [xx 8 (by omega) (by omega), xx 9 (by omega) (by omega), xx 10 (by omega) (by omega), xx 11 (by omega) (by omega), xx 12 (by omega) (by omega), xx 13 (by omega) (by omega), xx 14 (by omega) (by omega), xx 15 (by omega) (by omega), xx 16 (by omega) (by omega)]
        exact h1
      · exact hC.1.2.2
      · rw [xx 4 (by omega) (by omega)]; exact hC.2.1.1
      · rw [xx 5 (by omega) (by omega)]; exact hC.2.1.2
      · rw [jt 3 (by omega), x4, upd_n _ (by omega)]; exact hC.2.2.1
      · rw [jt 3 (by omega), x4, upd_s]; rfl
      · rw [jt 17 (by omega), z17]
        refine ⟨?_, ?_, ?_, ?_⟩
        · rw [upd_n _ (by omega), upd_n _ (by omega), upd_n _ (by omega), upd_s]; exact hC.1.1.2.1
        · rw [upd_n _ (by omega), upd_n _ (by omega), upd_s]; exact hC.1.1.2.2.1
        · rw [upd_n _ (by omega), upd_s]; exact hC.1.1.2.2.2.1
        · rw [upd_s]; exact hC.1.1.2.2.2.2
      · show (∀ i, t 19 i = nI (cpR r (fun _ _ => 0) 2 i)) ∧ (∀ i, t 20 i = nI (cpR r (fun _ _ => 0) 3 i)) ∧ (∀ i, t 21 i = nI (cpR r (fun _ _ => 0) 4 i)) ∧ (∀ i, t 22 i = nI (cpR r (fun _ _ => 0) 8 i)) ∧ (∀ i, t 23 i = nI (cpR r (fun _ _ => 0) 9 i)) ∧ (∀ i, t 24 i = nI (cpR r (fun _ _ => 0) 11 i)) ∧ (∀ i, t 25 i = nI (cpR r (fun _ _ => 0) 12 i)) ∧ (∀ i, t 26 i = nI (cpR r (fun _ _ => 0) 13 i)) ∧ (∀ i, t 27 i = nI (cpR r (fun _ _ => 0) 14 i))
        rw [jt 19 (by omega), jt 20 (by omega), jt 21 (by omega), jt 22 (by omega), jt 23 (by omega), jt 24 (by omega), jt 25 (by omega), jt 26 (by omega), jt 27 (by omega), xc.1.1, xc.1.2.1, xc.1.2.2.1, xc.1.2.2.2.1, xc.1.2.2.2.2, xc.2.1, xc.2.2.1, xc.2.2.2.1, xc.2.2.2.2]
        exact ⟨cpy_row (fun i _ => h1.1 i) hw.1, cpy_row (fun i _ => h1.2.1 i) hw.2.1, cpy_row (fun i _ => h1.2.2.1 i) hw.2.2.1, cpy_row (fun i _ => h1.2.2.2.1 i) hw.2.2.2.1, cpy_row (fun i _ => h1.2.2.2.2.1 i) hw.2.2.2.2.1, cpy_row (fun i _ => h1.2.2.2.2.2.1 i) hw.2.2.2.2.2.1, cpy_row (fun i _ => h1.2.2.2.2.2.2.1 i) hw.2.2.2.2.2.2.1, cpy_row (fun i _ => h1.2.2.2.2.2.2.2.1 i) hw.2.2.2.2.2.2.2.1, cpy_row (fun i _ => h1.2.2.2.2.2.2.2.2 i) hw.2.2.2.2.2.2.2.2⟩
      · unfold Kw
        rw [jt 19 (by omega), jt 20 (by omega), jt 21 (by omega), jt 22 (by omega), jt 23 (by omega), jt 24 (by omega), jt 25 (by omega), jt 26 (by omega), jt 27 (by omega), xc.1.1, xc.1.2.1, xc.1.2.2.1, xc.1.2.2.2.1, xc.1.2.2.2.2, xc.2.1, xc.2.2.1, xc.2.2.2.1, xc.2.2.2.2]
        exact ⟨cpy_far hw.1, cpy_far hw.2.1, cpy_far hw.2.2.1, cpy_far hw.2.2.2.1, cpy_far hw.2.2.2.2.1, cpy_far hw.2.2.2.2.2.1, cpy_far hw.2.2.2.2.2.2.1, cpy_far hw.2.2.2.2.2.2.2.1, cpy_far hw.2.2.2.2.2.2.2.2⟩
    · have v : ∀ j, j < 25 → t 39 j = s 39 j := fun j hj => by rw [j39, vv _ _ _ _ _ _ j hj]
      have w : ∀ a, 39 < a → a < 55 → t a = s a := fun a h1 h2 => by rw [jt a (by omega), xh a (by omega)]
      have u : ∀ a, 39 < a → a < 55 → (us s1 39 (upd (upd (upd (upd (upd (upd (s1 39) 25 1) 26 (nI c)) 27 (nI (r 5 0))) 28 (nI (r 6 0))) 29 (nI (r 7 0))) 30 (nI (r 10 0)))) a = s a := fun a h1 h2 => by rw [us_ne _ _ (by omega), xh a (by omega)]
      refine ⟨hM.1.mv (fun a h1 h2 => w a (by omega) (by omega)) (fun j hj => v j (by omega)), ⟨?_, ?_⟩, ?_, fun _ => ⟨?_, ?_, ⟨?_, ?_, ?_, ?_⟩, ?_, ?_, ?_, ?_, ?_, ?_, ?_, ?_, ?_⟩, (fun h => by cases h)⟩
      · rw [v 16 (by omega)]; exact hM.2.1.1
      · rw [w 50 (by omega) (by omega)]; exact hM.2.1.2
      · rw [v 0 (by omega)]; exact hM.2.2.1
      · rw [j39, upd_n _ (by omega), upd_n _ (by omega), upd_n _ (by omega), upd_n _ (by omega), upd_n _ (by omega), upd_s]
      · rw [j39, upd_n _ (by omega), upd_n _ (by omega), upd_n _ (by omega), upd_n _ (by omega), upd_s]
      · rw [j39, upd_n _ (by omega), upd_n _ (by omega), upd_n _ (by omega), upd_s]; rfl
      · rw [j39, upd_n _ (by omega), upd_n _ (by omega), upd_s]; rfl
      · rw [j39, upd_n _ (by omega), upd_s]; rfl
      · rw [j39, upd_s]; rfl
      · intro i hi
        rw [p56 i, if_pos hi, u 42 (by omega) (by omega), h2.1 i]
        show nI (r 2 i) = nI (if i < 5 then r 2 i else 0)
        rw [if_pos hi]
      · intro i hi
        rw [p57 i, if_pos hi, u 43 (by omega) (by omega), h2.2.1 i]
        show nI (r 3 i) = nI (if i < 5 then r 3 i else 0)
        rw [if_pos hi]
      · intro i hi
        rw [p55 i, if_pos hi, u 40 (by omega) (by omega), h2.2.2.1 i]
        show nI (r 4 i) = nI (if i < 10 then r 4 i else 0)
        rw [if_pos hi]
      · intro i hi
        rw [p58 i, if_pos hi, u 44 (by omega) (by omega), h2.2.2.2.1 i]
        show nI (r 8 i) = nI (if i < 5 then r 8 i else 0)
        rw [if_pos hi]
      · intro i hi
        rw [p59 i, if_pos hi, u 45 (by omega) (by omega), h2.2.2.2.2.1 i]
        show nI (r 9 i) = nI (if i < 5 then r 9 i else 0)
        rw [if_pos hi]
      · intro i hi
        rw [p60 i, if_pos hi, u 46 (by omega) (by omega), h2.2.2.2.2.2.1 i]
        show nI (r 11 i) = nI (if i < 8 then r 11 i else 0)
        rw [if_pos hi]
      · intro i hi
        rw [p61 i, if_pos hi, u 47 (by omega) (by omega), h2.2.2.2.2.2.2.1 i]
        show nI (r 12 i) = nI (if i < 8 then r 12 i else 0)
        rw [if_pos hi]
      · intro i hi
        rw [p62 i, if_pos hi, u 48 (by omega) (by omega), h2.2.2.2.2.2.2.2.1 i]
        show nI (r 13 i) = nI (if i < 8 then r 13 i else 0)
        rw [if_pos hi]
      · intro i hi
        rw [p63 i, if_pos hi, u 49 (by omega) (by omega), h2.2.2.2.2.2.2.2.2 i]
        show nI (r 14 i) = nI (if i < 8 then r 14 i else 0)
        rw [if_pos hi]
end CY
