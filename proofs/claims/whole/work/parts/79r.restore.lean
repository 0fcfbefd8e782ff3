/-! RESTORE: both sides -/
section CZ
variable {M : Nat}
set_option maxRecDepth 100000 in
theorem go_restore (hM31 : M < 2147483648) : Go M (F_X11_restore 3) (F_X12_restore 39) := by
  rintro s l q P ⟨r, k, pg, n, c, b, hC, hM, hO⟩
  have n5 := hO.1.n5
  cases b with
  | false =>
    refine ⟨-103, s, s, l, l, q, P, ?_, ?_, r, k, pg, n, c, false, hC, hM, hO.up⟩
    · have e7 : s 3 7 = 0 := hC.2.2.2.1
      unfold F_X11_restore
      simp only [G_gI, sbd, e7, reduceIte]
    · unfold F_X12_restore
      have ec : s 39 0 = nI c := hM.2.2.1
      have hc := hO.2.2.1
      simp only [G_gI, sbd, ec]
      rcases hM.2.2.2.2 rfl with h | ⟨d, h1, h2⟩
      · rw [if_pos h]
      · rw [h2, if_neg (show ¬ nI d = nI c by rw [nI_eq (by omega) (by omega)]; omega)]
        split <;> rfl
  | true =>
    obtain ⟨hOk, hk0, hk1⟩ := hO.2.2.2 rfl
    have hCk := hC.2.2.2.2.1 rfl
    have hMk := hM.2.2.2.1 rfl
    have e7 : s 3 7 = 1 := hC.2.2.2.1
    have a3 := copy6_ok (s := s) (l := l) (q := q) (P := P)
    have z6 : cE6 s 6 = upd (upd (upd (upd (s 6) 5 (s 17 5)) 6 (s 17 6)) 7 (s 17 7)) 10 (s 17 10) := rfl
    have y5 : cE6 s 6 5 = nI (k 5 0) := by
      rw [z6, upd_n _ (by omega), upd_n _ (by omega), upd_n _ (by omega), upd_s]; exact hCk.1.1
    have y6 : cE6 s 6 6 = nI (k 6 0) := by
      rw [z6, upd_n _ (by omega), upd_n _ (by omega), upd_s]; exact hCk.1.2.1
    have hX : F_X11_restore 3 (hp s l q P) = some (nI (k 6 0) * 13 + nI (k 5 0), hp (cE6 s) l q P) := by
      unfold F_X11_restore F_X1_hoursInAll
      simp only [G_gR, G_ko, G_sI, G_gI, sbd, e7, if_neg (show ¬ (1 : Int32) = 0 by decide), a3, y5, y6]
    have xs : ∀ a, a ≠ 6 → a ≠ 8 → a ≠ 9 → a ≠ 10 → a ≠ 11 → a ≠ 12 → a ≠ 13 → a ≠ 14 → a ≠ 15 → a ≠ 16 → cE6 s a = s a := fun a h17 h19 h20 h21 h22 h23 h24 h25 h26 h27 => by
      unfold cE6
      rw [us_ne _ _ h27, us_ne _ _ h26, us_ne _ _ h25, us_ne _ _ h24, us_ne _ _ h17, us_ne _ _ h23, us_ne _ _ h22, us_ne _ _ h17, us_ne _ _ h17, us_ne _ _ h17, us_ne _ _ h21, us_ne _ _ h20, us_ne _ _ h19]
    have xc : (cE6 s 8 = va_cpy (s 19) (s 8) 0 0 5 ∧ cE6 s 9 = va_cpy (s 20) (s 9) 0 0 5 ∧ cE6 s 10 = va_cpy (s 21) (s 10) 0 0 10 ∧ cE6 s 11 = va_cpy (s 22) (s 11) 0 0 5 ∧ cE6 s 12 = va_cpy (s 23) (s 12) 0 0 5) ∧ (cE6 s 13 = va_cpy (s 24) (s 13) 0 0 8 ∧ cE6 s 14 = va_cpy (s 25) (s 14) 0 0 8 ∧ cE6 s 15 = va_cpy (s 26) (s 15) 0 0 8 ∧ cE6 s 16 = va_cpy (s 27) (s 16) 0 0 8) := ⟨⟨rfl, rfl, rfl, rfl, rfl⟩, rfl, rfl, rfl, rfl⟩
    revert hX z6 xs xc
    clear y5 y6
    generalize cE6 s = s1
    intro z6 hX xs xc
    have xh : ∀ a, 16 < a ∨ a < 6 → s1 a = s a := fun a h1 => xs a (by omega) (by omega) (by omega) (by omega) (by omega) (by omega) (by omega) (by omega) (by omega) (by omega)
    have h39 : s1 39 = s 39 := xh 39 (by omega)
    have i25 : s1 39 25 = 1 := by rw [h39]; exact hMk.1
    have i26 : s1 39 26 = nI c := by rw [h39]; exact hMk.2.1
    have i0 : s1 39 0 = nI c := by rw [h39]; exact hM.2.2.1
    have i27 : s1 39 27 = nI (k 5 0) := by rw [h39]; exact hMk.2.2.1.1
    have i28 : s1 39 28 = nI (k 6 0) := by rw [h39]; exact hMk.2.2.1.2.1
    have i29 : s1 39 29 = nI (k 7 0) := by rw [h39]; exact hMk.2.2.1.2.2.1
    have i30 : s1 39 30 = nI (k 10 0) := by rw [h39]; exact hMk.2.2.1.2.2.2
    obtain ⟨t, p0, p40, p42, p43, p44, p45, p46, p47, p48, p49, pz⟩ := re_all (l := l) (q := q) (P := P) (us s1 39 (upd (upd (upd (upd (s1 39) 6 (nI (k 5 0))) 7 (nI (k 6 0))) 8 (nI (k 7 0))) 11 (nI (k 10 0))))
    have v28 : ∀ x, upd (s1 39) 6 x 28 = nI (k 6 0) := fun x => by rw [upd_n _ (by omega)]; exact i28
    have v29 : ∀ x y, upd (upd (s1 39) 6 x) 7 y 29 = nI (k 7 0) := fun x y => by rw [upd_n _ (by omega), upd_n _ (by omega)]; exact i29
    have v30 : ∀ x y z, upd (upd (upd (s1 39) 6 x) 7 y) 8 z 30 = nI (k 10 0) := fun x y z => by rw [upd_n _ (by omega), upd_n _ (by omega), upd_n _ (by omega)]; exact i30
    have hY : F_X12_restore 39 (hp s1 l q P) = some (nI (k 6 0) * 13 + nI (k 5 0), hp t l q P) := by
      unfold F_X12_restore
      simp only [G_gI, G_sI, sbd, i25, i26, i0, i27, if_neg (show ¬ (1 : Int32) = 0 by decide), reduceIte, us_us, us_self, v28, v29, v30]
      refine pz.trans ?_
      rw [us_self, upd_n (k := 11) (j := 7) _ (by omega), upd_n (k := 8) (j := 7) _ (by omega), upd_s, upd_n (k := 11) (j := 6) _ (by omega), upd_n (k := 8) (j := 6) _ (by omega), upd_n (k := 7) (j := 6) _ (by omega), upd_s, Int32.mul_comm]
    have jt : ∀ a, a < 39 ∨ a = 41 ∨ 49 < a → t a = s1 a := fun a ha => by
      rw [p0 a (by omega) (by omega) (by omega) (by omega) (by omega) (by omega) (by omega) (by omega) (by omega), us_ne _ _ (by omega)]
    have j39 : t 39 = upd (upd (upd (upd (s1 39) 6 (nI (k 5 0))) 7 (nI (k 6 0))) 8 (nI (k 7 0))) 11 (nI (k 10 0)) := by
      rw [p0 39 (by omega) (by omega) (by omega) (by omega) (by omega) (by omega) (by omega) (by omega) (by omega), us_self]
    have h1 := hC.1.2.1
    have h2 := hM.1.2.1
    have hc1 := hCk.2
    have hm2 := hMk.2.2.2
    have hw := hC.2.2.2.2.2
    refine ⟨nI (k 6 0) * 13 + nI (k 5 0), s1, t, l, l, q, P, hX, hY, us (cpR k r) 1 (r 1), k, pg, n, c, true, ?_, ?_, (cpR_ok hOk hO.1).set1 hO.1.2.1, hO.2.1, Nat.le_succ_of_le hO.2.2.1, fun _ => ⟨hOk, rfl, fun i hi => hk1 i (by have hi : i < k 0 0 := hi; omega)⟩⟩
    · have yy : ∀ a, a < 39 → t a = s1 a := fun a ha => jt a (by omega)
      have xx : ∀ a, a < 39 → (16 < a ∨ a < 6) → t a = s a := fun a h1 h2 => by rw [yy a h1, xh a h2]
      refine ⟨⟨?_, ?_, ?_⟩, ⟨?_, ?_⟩, ?_, ?_, fun _ => ⟨?_, ?_⟩, ?_⟩
      · rw [yy 6 (by omega), z6]
        refine ⟨?_, ?_, ?_, ?_, ?_⟩
        · rw [upd_n _ (by omega), upd_n _ (by omega), upd_n _ (by omega), upd_n _ (by omega)]
          show _ = nI (k 0 0)
          rw [hk0]; exact hC.1.1.1
        · rw [upd_n _ (by omega), upd_n _ (by omega), upd_n _ (by omega), upd_s]; exact hCk.1.1
        · rw [upd_n _ (by omega), upd_n _ (by omega), upd_s]; exact hCk.1.2.1
        · rw [upd_n _ (by omega), upd_s]; exact hCk.1.2.2.1
        · rw [upd_s]; exact hCk.1.2.2.2
      · show (∀ i, t 8 i = nI (cpR k r 2 i)) ∧ (∀ i, t 9 i = nI (cpR k r 3 i)) ∧ (∀ i, t 10 i = nI (cpR k r 4 i)) ∧ (∀ i, t 11 i = nI (cpR k r 8 i)) ∧ (∀ i, t 12 i = nI (cpR k r 9 i)) ∧ (∀ i, t 13 i = nI (cpR k r 11 i)) ∧ (∀ i, t 14 i = nI (cpR k r 12 i)) ∧ (∀ i, t 15 i = nI (cpR k r 13 i)) ∧ (∀ i, t 16 i = nI (cpR k r 14 i))
        rw [yy 8 (by omega), yy 9 (by omega), yy 10 (by omega), yy 11 (by omega), yy 12 (by omega), yy 13 (by omega), yy 14 (by omega), yy 15 (by omega), yy 16 (by omega), xc.1.1, xc.1.2.1, xc.1.2.2.1, xc.1.2.2.2.1, xc.1.2.2.2.2, xc.2.1, xc.2.2.1, xc.2.2.2.1, xc.2.2.2.2]
        exact ⟨cpy_row (fun i _ => hc1.1 i) (fun i _ => h1.1 i), cpy_row (fun i _ => hc1.2.1 i) (fun i _ => h1.2.1 i), cpy_row (fun i _ => hc1.2.2.1 i) (fun i _ => h1.2.2.1 i), cpy_row (fun i _ => hc1.2.2.2.1 i) (fun i _ => h1.2.2.2.1 i), cpy_row (fun i _ => hc1.2.2.2.2.1 i) (fun i _ => h1.2.2.2.2.1 i), cpy_row (fun i _ => hc1.2.2.2.2.2.1 i) (fun i _ => h1.2.2.2.2.2.1 i), cpy_row (fun i _ => hc1.2.2.2.2.2.2.1 i) (fun i _ => h1.2.2.2.2.2.2.1 i), cpy_row (fun i _ => hc1.2.2.2.2.2.2.2.1 i) (fun i _ => h1.2.2.2.2.2.2.2.1 i), cpy_row (fun i _ => hc1.2.2.2.2.2.2.2.2 i) (fun i _ => h1.2.2.2.2.2.2.2.2 i)⟩
      · intro i hi
        have hi : i < k 0 0 := hi
        exact hC.1.2.2 i (by omega)
      · rw [xx 4 (by omega) (by omega)]; exact hC.2.1.1
      · rw [xx 5 (by omega) (by omega)]; exact hC.2.1.2
      · rw [xx 3 (by omega) (by omega)]; exact hC.2.2.1
      · rw [xx 3 (by omega) (by omega)]; exact hC.2.2.2.1
      · rw [xx 17 (by omega) (by omega)]; exact hCk.1
      · show (∀ i, t 19 i = nI (k 2 i)) ∧ (∀ i, t 20 i = nI (k 3 i)) ∧ (∀ i, t 21 i = nI (k 4 i)) ∧ (∀ i, t 22 i = nI (k 8 i)) ∧ (∀ i, t 23 i = nI (k 9 i)) ∧ (∀ i, t 24 i = nI (k 11 i)) ∧ (∀ i, t 25 i = nI (k 12 i)) ∧ (∀ i, t 26 i = nI (k 13 i)) ∧ (∀ i, t 27 i = nI (k 14 i))
        rw [xx 19 (by omega) (by omega), xx 20 (by omega) (by omega), xx 21 (by omega) (by omega), xx 22 (by omega) (by omega), xx 23 (by omega) (by omega), xx 24 (by omega) (by omega), xx 25 (by omega) (by omega), xx 26 (by omega) (by omega), xx 27 (by omega) (by omega)]
        exact hc1
      · unfold Kw
        rw [xx 19 (by omega) (by omega), xx 20 (by omega) (by omega), xx 21 (by omega) (by omega), xx 22 (by omega) (by omega), xx 23 (by omega) (by omega), xx 24 (by omega) (by omega), xx 25 (by omega) (by omega), xx 26 (by omega) (by omega), xx 27 (by omega) (by omega)]
        exact hw
    · have w : ∀ a, 49 < a → t a = s a := fun a h1 => by rw [jt a (by omega), xh a (by omega)]
      have u : ∀ a, 39 < a → (us s1 39 (upd (upd (upd (upd (s1 39) 6 (nI (k 5 0))) 7 (nI (k 6 0))) 8 (nI (k 7 0))) 11 (nI (k 10 0)))) a = s a := fun a h1 => by rw [us_ne _ _ (by omega), xh a (by omega)]
      have v : ∀ j, j ≠ 6 → j ≠ 7 → j ≠ 8 → j ≠ 11 → t 39 j = s 39 j := fun j h6 h7 h8 h11 => by rw [j39, upd_n _ h11, upd_n _ h8, upd_n _ h7, upd_n _ h6, h39]
      refine ⟨⟨⟨?_, ?_, ?_, ?_, ?_⟩, ⟨?_, ?_, ?_, ?_, ?_, ?_, ?_, ?_, ?_⟩, ?_⟩, ⟨?_, ?_⟩, ?_, fun _ => ⟨?_, ?_, ?_⟩, (fun h => by cases h)⟩
      · rw [v 1 (by omega) (by omega) (by omega) (by omega)]
        show _ = nI (k 0 0)
        rw [hk0]; exact hM.1.1.1
      · rw [j39, upd_n _ (by omega), upd_n _ (by omega), upd_n _ (by omega), upd_s]; rfl
      · rw [j39, upd_n _ (by omega), upd_n _ (by omega), upd_s]; rfl
      · rw [j39, upd_n _ (by omega), upd_s]; rfl
      · rw [j39, upd_s]; rfl
      · intro i
        rw [p42 i, u 42 (by omega), u 56 (by omega)]
        exact if_row (fun i hi => hm2.1 i hi) (fun i _ => h2.1 i) i
      · intro i
        rw [p43 i, u 43 (by omega), u 57 (by omega)]
        exact if_row (fun i hi => hm2.2.1 i hi) (fun i _ => h2.2.1 i) i
      · intro i
        rw [p40 i, u 40 (by omega), u 55 (by omega)]
        exact if_row (fun i hi => hm2.2.2.1 i hi) (fun i _ => h2.2.2.1 i) i
      · intro i
        rw [p44 i, u 44 (by omega), u 58 (by omega)]
        exact if_row (fun i hi => hm2.2.2.2.1 i hi) (fun i _ => h2.2.2.2.1 i) i
      · intro i
        rw [p45 i, u 45 (by omega), u 59 (by omega)]
        exact if_row (fun i hi => hm2.2.2.2.2.1 i hi) (fun i _ => h2.2.2.2.2.1 i) i
      · intro i
        rw [p46 i, u 46 (by omega), u 60 (by omega)]
        exact if_row (fun i hi => hm2.2.2.2.2.2.1 i hi) (fun i _ => h2.2.2.2.2.2.1 i) i
      · intro i
        rw [p47 i, u 47 (by omega), u 61 (by omega)]
        exact if_row (fun i hi => hm2.2.2.2.2.2.2.1 i hi) (fun i _ => h2.2.2.2.2.2.2.1 i) i
      · intro i
        rw [p48 i, u 48 (by omega), u 62 (by omega)]
        exact if_row (fun i hi => hm2.2.2.2.2.2.2.2.1 i hi) (fun i _ => h2.2.2.2.2.2.2.2.1 i) i
      · intro i
        rw [p49 i, u 49 (by omega), u 63 (by omega)]
        exact if_row (fun i hi => hm2.2.2.2.2.2.2.2.2 i hi) (fun i _ => h2.2.2.2.2.2.2.2.2 i) i
      · intro i
        rw [jt 41 (by omega), xh 41 (by omega)]
        exact hM.1.2.2 i
      · rw [v 16 (by omega) (by omega) (by omega) (by omega)]; exact hM.2.1.1
      · rw [w 50 (by omega)]; exact hM.2.1.2
      · rw [v 0 (by omega) (by omega) (by omega) (by omega)]; exact hM.2.2.1
      · rw [v 25 (by omega) (by omega) (by omega) (by omega)]; exact hMk.1
      · rw [v 26 (by omega) (by omega) (by omega) (by omega)]; exact hMk.2.1
      · exact hMk.2.2.fr (fun a ha => w a (by omega)) (fun j hj => v j (by omega) (by omega) (by omega) (by omega))
end CZ
