/-! CALLS: step, covers, found, odds, terms -/
section CC
variable {s s' : Nat → Nat → Int32} {l l' : Nat → Nat → Int64} {q : Nat → Nat → Option Nat} {P : List Nat} {r k : Nat → Nat → Nat} {pg : Nat → Nat} {M n c : Nat} {b : Bool}
theorem go_step (a1 a2 : Int32) : Go M (F_X11_step 3 a1 a2) (F_X12_step 39 a1 a2) := by
  rintro s l q P ⟨r, k, pg, n, c, b, hC, hM, hO⟩
  have n5 := hO.1.n5
  have z : ¬ (1 : Int32) = 0 := by decide
  by_cases g : ∃ p, p < r 0 0 ∧ a1 = nI p
  · obtain ⟨p, hp1, rfl⟩ := g
    have p5 : p < 5 := by omega
    have e1 : s 9 p = nI (r 3 p) := hC.1.2.1.2.1 p
    have e2 : s 43 p = nI (r 3 p) := hM.1.2.1.2.1 p
    by_cases g2 : a2 = 1 ∨ a2 = -1
    · rcases wi_09 (nI (r 3 p) + a2) with h0 | ⟨h1, t, ht, h2⟩
      · have hz := isT0 (s := s) (l := l) (q := q) (P := P) h0
        refine ⟨-103, s, s, l, l, q, P, ?_, ?_, r, k, pg, n, c, b, hC, hM, hO.up⟩
        · have hB : F_X11_step_B27 3 (nI p) a2 (hp s l q P) = some (-103, hp s l q P) := by
            unfold F_X11_step_B27
            simp only [G_gR, G_ga, p5, sbd, e1, nm, hz.1, reduceIte]
          unfold F_X11_step
          simp only [G_gR, G_ko, sbd, has_1 hC.1 hO.1 hp1, if_neg z, hB]
          rcases g2 with rfl | rfl
          · rw [if_neg (by decide), if_pos rfl]
          · rw [if_pos rfl]
        · have hB : F_X12_step_B24 39 (nI p) a2 (hp s l q P) = some (-103, hp s l q P) := by
            unfold F_X12_step_B24
            simp only [G_gR, G_ga, p5, sbd, e2, nm, X12_within, h0, reduceIte]
          unfold F_X12_step
          simp only [G_gR, G_ko, sbd, isP_1 hM.1 hO.1 hp1, if_neg z, hB]
          rcases g2 with rfl | rfl
          · rw [if_pos rfl]
          · rw [if_neg (by decide), if_pos rfl]
      · have hM1 : Md (us s 9 (upd (s 9) p (nI t))) r := hM.1
        have hz := isT1 (s := s) (l := l) (q := q) (P := P) h1 hM.1 hO.1 (by omega)
        rw [h2] at hz h1
        refine ⟨nI t, us s 9 (upd (s 9) p (nI t)), us (us s 9 (upd (s 9) p (nI t))) 43 (upd (s 43) p (nI t)), l, l, q, P, ?_, ?_, us r 3 (va_up (r 3) p t), k, pg, n, c, b, ?_, ?_, ?_⟩
        · have hB : F_X11_step_B27 3 (nI p) a2 (hp s l q P) = some (nI t, hp (us s 9 (upd (s 9) p (nI t))) l q P) := by
            unfold F_X11_step_B27
            simp only [G_gR, G_ga, G_sa, p5, sbd, e1, nm, h2, hz.1, if_neg z, nr]
          unfold F_X11_step
          simp only [G_gR, G_ko, sbd, has_1 hC.1 hO.1 hp1, if_neg z, hB]
          rcases g2 with rfl | rfl
          · rw [if_neg (by decide), if_pos rfl]
          · rw [if_pos rfl]
        · have e3 : us s 9 (upd (s 9) p (nI t)) 43 p = nI (r 3 p) := e2
          have hB : F_X12_step_B24 39 (nI p) a2 (hp (us s 9 (upd (s 9) p (nI t))) l q P) = some (nI t, hp (us (us s 9 (upd (s 9) p (nI t))) 43 (upd (s 43) p (nI t))) l q P) := by
            unfold F_X12_step_B24
            simp only [G_gR, G_ga, G_sa, p5, sbd, e3, nm, h2, X12_within, h1, if_neg z, nr]
            rfl
          unfold F_X12_step
          simp only [G_gR, G_ko, sbd, isP_1 hM1 hO.1 hp1, if_neg z, hB]
          rcases g2 with rfl | rfl
          · rw [if_pos rfl]
          · rw [if_neg (by decide), if_pos rfl]
        · exact ⟨⟨hC.1.1, ⟨hC.1.2.1.1, upd_va hC.1.2.1.2.1 p t, hC.1.2.1.2.2⟩, hC.1.2.2⟩, hC.2.1, hC.2.2.1, hC.2.2.2.1, hC.2.2.2.2⟩
        · exact ⟨⟨hM.1.1, ⟨hM.1.2.1.1, upd_va hM.1.2.1.2.1 p t, hM.1.2.1.2.2⟩, hM.1.2.2⟩, hM.2.1, hM.2.2.1, hM.2.2.2.1, hM.2.2.2.2⟩
        · have w := hO.1
          exact ⟨⟨w.1, w.2.1, w.2.2.1, va_lt w.2.2.2.1 ht p, w.2.2.2.2⟩, hO.2.1, Nat.le_succ_of_le hO.2.2.1, hO.2.2.2⟩
    · have g3 : ¬ a2 = 1 := fun w => g2 (Or.inl w)
      have g4 : ¬ a2 = -1 := fun w => g2 (Or.inr w)
      refine ⟨-102, s, s, l, l, q, P, ?_, ?_, r, k, pg, n, c, b, hC, hM, hO.up⟩
      · unfold F_X11_step
        simp only [G_gR, G_ko, sbd, has_1 hC.1 hO.1 hp1, if_neg z, if_neg g3, if_neg g4]
      · unfold F_X12_step
        simp only [G_gR, G_ko, sbd, isP_1 hM.1 hO.1 hp1, if_neg z, if_neg g3, if_neg g4]
  · have g' : ∀ p, p < r 0 0 → a1 ≠ nI p := fun p hp1 e => g ⟨p, hp1, e⟩
    refine ⟨-101, s, s, l, l, q, P, ?_, ?_, r, k, pg, n, c, b, hC, hM, hO.up⟩
    · unfold F_X11_step
      simp only [G_gR, G_ko, sbd, has_0 hC.1 hO.1 g', reduceIte]
    · unfold F_X12_step
      simp only [G_gR, G_ko, sbd, isP_0 hM.1 hO.1 g', reduceIte]
/-- a call that only reads, on both sides -/
def Rd (M : Nat) (X Y : abH → Option Int32) : Prop := ∀ (s : Nat → Nat → Int32) (l : Nat → Nat → Int64) (q : Nat → Nat → Option Nat) (P : List Nat), Iv M s q P → ∃ v : Int32, X (hp s l q P) = some v ∧ Y (hp s l q P) = some v
theorem Iv.up {M : Nat} (h : Iv M s q P) : Iv (M + 1) s q P := by
  obtain ⟨r, k, pg, n, c, b, hC, hM, hO⟩ := h
  exact ⟨r, k, pg, n, c, b, hC, hM, hO.up⟩
theorem wi_012 (a : Int32) : wi a 0 12 = 0 ∨ (wi a 0 12 = 1 ∧ ∃ t, t < 13 ∧ a = nI t) := by
  rcases wi_cases a 0 12 (by omega) (by omega) with h | ⟨h, t, _, h2, h3⟩
  · exact Or.inl h
  · exact Or.inr ⟨h, t, by omega, h3⟩
theorem rz0 : rz 0 = some 0 := rfl
theorem rz1 : rz 1 = some 1 := rfl
theorem rd_covers (a1 a2 : Int32) : Rd M (F_X11_covers 3 a1 a2) (F_X12_covers 39 a1 a2) := by
  rintro s l q P ⟨r, k, pg, n, c, b, hC, hM, hO⟩
  have n5 := hO.1.n5
  have z : ¬ (1 : Int32) = 0 := by decide
  by_cases g : ∃ p, p < r 0 0 ∧ a1 = nI p
  · obtain ⟨p, hp1, rfl⟩ := g
    have p5 : p < 5 := by omega
    rcases wi_012 a2 with h0 | ⟨h1, e, he, rfl⟩
    · refine ⟨-102, ?_, ?_⟩
      · unfold F_X11_covers
        simp only [G_gR, G_ko, sbd, has_1 hC.1 hO.1 hp1, if_neg z, X11_within, X11_isTile, X11_isHour, h0, rz0, reduceIte]
      · unfold F_X12_covers
        simp only [G_gR, G_ko, sbd, isP_1 hM.1 hO.1 hp1, if_neg z, X12_within, h0, reduceIte]
    · refine ⟨nI (cv r p e), ?_, ?_⟩
      · unfold F_X11_covers
        simp only [G_gR, G_ko, sbd, has_1 hC.1 hO.1 hp1, if_neg z, X11_within, X11_isTile, X11_isHour, h1, rz1, shade_ok hC.1 hO.1 hp1 he]
      · unfold F_X12_covers
        simp only [G_gR, G_ko, sbd, isP_1 hM.1 hO.1 hp1, if_neg z, X12_within, h1, coversIn_ok hM.1 hO.1 p5 he]
  · have g' : ∀ p, p < r 0 0 → a1 ≠ nI p := fun p hp1 e => g ⟨p, hp1, e⟩
    refine ⟨-101, ?_, ?_⟩
    · unfold F_X11_covers
      simp only [G_gR, G_ko, sbd, has_0 hC.1 hO.1 g', reduceIte]
    · unfold F_X12_covers
      simp only [G_gR, G_ko, sbd, isP_0 hM.1 hO.1 g', reduceIte]
theorem rd_found (a1 a2 a3 : Int32) : Rd M (F_X11_found 3 a1 a2 a3) (F_X12_found 39 a1 a2 a3) := by
  rintro s l q P ⟨r, k, pg, n, c, b, hC, hM, hO⟩
  have n5 := hO.1.n5
  have z : ¬ (1 : Int32) = 0 := by decide
  by_cases g : ∃ x y, x < r 0 0 ∧ y < r 0 0 ∧ x ≠ y ∧ a1 = nI x ∧ a2 = nI y
  · obtain ⟨x, y, hx, hy, hxy, rfl, rfl⟩ := g
    have x5 : x < 5 := by omega
    have y5 : y < 5 := by omega
    rcases wi_012 a3 with h0 | ⟨h1, e, he, rfl⟩
    · refine ⟨-102, ?_, ?_⟩
      · unfold F_X11_found
        simp only [G_gR, G_ko, sbd, two_1 hC.1 hO.1 hx hy hxy, if_neg z, X11_within, X11_isTile, X11_isHour, h0, rz0, reduceIte]
      · unfold F_X12_found
        simp only [G_gR, G_ko, sbd, are_1 hM.1 hO.1 hx hy hxy, if_neg z, X12_within, h0, reduceIte]
    · refine ⟨wI (bal r x y e) + 100, ?_, ?_⟩
      · unfold F_X11_found
        simp only [G_gR, G_ko, sbd, two_1 hC.1 hO.1 hx hy hxy, if_neg z, X11_within, X11_isTile, X11_isHour, h1, rz1, balance_ok hC.1 hO.1 hx hy he]
      · unfold F_X12_found
        simp only [G_gR, G_ko, sbd, are_1 hM.1 hO.1 hx hy hxy, if_neg z, X12_within, h1, foundIn_ok hM.1 hO.1 x5 y5 he]
  · have g' : ∀ x y, x < r 0 0 → y < r 0 0 → x ≠ y → ¬ (a1 = nI x ∧ a2 = nI y) := fun x y hx hy hxy e => g ⟨x, y, hx, hy, hxy, e.1, e.2⟩
    refine ⟨-101, ?_, ?_⟩
    · unfold F_X11_found
      simp only [G_gR, G_ko, sbd, two_0 hC.1 hO.1 g', reduceIte]
    · unfold F_X12_found
      simp only [G_gR, G_ko, sbd, are_0 hM.1 hO.1 g', reduceIte]
end CC
