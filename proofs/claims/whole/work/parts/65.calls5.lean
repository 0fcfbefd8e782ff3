/-! CALLS: odds, terms, tile -/
section CE
variable {s s' : Nat → Nat → Int32} {l l' : Nat → Nat → Int64} {q : Nat → Nat → Option Nat} {P : List Nat} {r k : Nat → Nat → Nat} {pg : Nat → Nat} {M n c : Nat} {b : Bool}
theorem wi_16 (a : Int32) : wi a 1 6 = 0 ∨ (wi a 1 6 = 1 ∧ ∃ t, t < 7 ∧ a = nI t) := by
  rcases wi_cases a 1 6 (by omega) (by omega) with h | ⟨h, t, h1, h2, h3⟩
  · exact Or.inl h
  · exact Or.inr ⟨h, t, by omega, h3⟩
theorem wi_010 (a : Int32) : wi a 0 10 = 0 ∨ (wi a 0 10 = 1 ∧ ∃ t, t < 11 ∧ a = nI t) := by
  rcases wi_cases a 0 10 (by omega) (by omega) with h | ⟨h, t, _, h2, h3⟩
  · exact Or.inl h
  · exact Or.inr ⟨h, t, by omega, h3⟩
theorem wi_02 (a : Int32) : wi a 0 2 = 0 ∨ (wi a 0 2 = 1 ∧ ∃ t, t < 3 ∧ a = nI t) := by
  rcases wi_cases a 0 2 (by omega) (by omega) with h | ⟨h, t, _, h2, h3⟩
  · exact Or.inl h
  · exact Or.inr ⟨h, t, by omega, h3⟩
theorem wi_160 (a : Int32) : wi a 1 60 = 0 ∨ (wi a 1 60 = 1 ∧ ∃ t, t ≤ 60 ∧ a = nI t) := by
  rcases wi_cases a 1 60 (by omega) (by omega) with h | ⟨h, t, h1, h2, h3⟩
  · exact Or.inl h
  · exact Or.inr ⟨h, t, h2, h3⟩
theorem rd_odds (a1 a2 a3 a4 a5 : Int32) : Rd M (F_X11_odds 3 a1 a2 a3 a4 a5) (F_X12_odds 39 a1 a2 a3 a4 a5) := by
  rintro s l q P ⟨r, k, pg, n, c, b, hC, hM, hO⟩
  have n5 := hO.1.n5
  have z : ¬ (1 : Int32) = 0 := by decide
  by_cases g : ∃ x y, x < r 0 0 ∧ y < r 0 0 ∧ x ≠ y ∧ a1 = nI x ∧ a2 = nI y
  · obtain ⟨x, y, hx, hy, hxy, rfl, rfl⟩ := g
    rcases wi_16 a3 with h0 | ⟨h1, t, ht, rfl⟩
    · refine ⟨-102, ?_, ?_⟩
      · unfold F_X11_odds
        simp only [G_gR, G_ko, sbd, two_1 hC.1 hO.1 hx hy hxy, if_neg z, X11_within, X11_isTile, X11_isHour, h0, reduceIte]
      · unfold F_X12_odds F_X12_odds_B48
        simp only [G_gR, G_ko, sbd, are_1 hM.1 hO.1 hx hy hxy, if_neg z, X12_within, h0, reduceIte]
    · rcases wi_010 a4 with h0 | ⟨h2, u, hu, rfl⟩
      · refine ⟨-102, ?_, ?_⟩
        · unfold F_X11_odds
          simp only [G_gR, G_ko, sbd, two_1 hC.1 hO.1 hx hy hxy, if_neg z, X11_within, X11_isTile, X11_isHour, h0, h1, reduceIte]
        · unfold F_X12_odds F_X12_odds_B48
          simp only [G_gR, G_ko, sbd, are_1 hM.1 hO.1 hx hy hxy, if_neg z, X12_within, h0, h1, reduceIte]
      · rcases wi_01b a5 with h0 | ⟨h3, w, hw, rfl⟩
        · refine ⟨-102, ?_, ?_⟩
          · unfold F_X11_odds
            simp only [G_gR, G_ko, sbd, two_1 hC.1 hO.1 hx hy hxy, if_neg z, X11_within, X11_isTile, X11_isHour, h0, h1, h2, reduceIte]
          · unfold F_X12_odds F_X12_odds_B48
            simp only [G_gR, G_ko, sbd, are_1 hM.1 hO.1 hx hy hxy, if_neg z, X12_within, h0, h1, h2, reduceIte]
        · refine ⟨odV r x y t u w, ?_, ?_⟩
          · unfold F_X11_odds
            simp only [G_gR, G_ko, sbd, two_1 hC.1 hO.1 hx hy hxy, if_neg z, X11_within, X11_isTile, X11_isHour, h1, h2, h3, odds_ok hC.1 hO.1 hx hy ht hu hw]
          · unfold F_X12_odds F_X12_odds_B48
            simp only [G_gR, G_ko, sbd, are_1 hM.1 hO.1 hx hy hxy, if_neg z, X12_within, h1, h2, h3, oddsNow_ok hM.1 hO.1 (show x < 5 by omega) (show y < 5 by omega) ht hu hw]
  · have g' : ∀ x y, x < r 0 0 → y < r 0 0 → x ≠ y → ¬ (a1 = nI x ∧ a2 = nI y) := fun x y hx hy hxy e => g ⟨x, y, hx, hy, hxy, e.1, e.2⟩
    refine ⟨-101, ?_, ?_⟩
    · unfold F_X11_odds
      simp only [G_gR, G_ko, sbd, two_0 hC.1 hO.1 g', reduceIte]
    · unfold F_X12_odds
      simp only [G_gR, G_ko, sbd, are_0 hM.1 hO.1 g', reduceIte]
theorem go_terms (a1 a2 a3 : Int32) : Go M (F_X11_terms 3 a1 a2 a3) (F_X12_terms 39 a1 a2 a3) := by
  rintro s l q P ⟨r, k, pg, n, c, b, hC, hM, hO⟩
  have n5 := hO.1.n5
  have z : ¬ (1 : Int32) = 0 := by decide
  rcases wi_160 a1 with h0 | ⟨h1, T, hT, rfl⟩
  · refine ⟨-102, s, s, l, l, q, P, ?_, ?_, r, k, pg, n, c, b, hC, hM, hO.up⟩
    · unfold F_X11_terms
      simp only [X11_within, X11_isTile, X11_isHour, sbd, h0, reduceIte]
    · unfold F_X12_terms
      simp only [X12_within, sbd, h0, reduceIte]
  · by_cases g : a2 < 0
    · refine ⟨-102, s, s, l, l, q, P, ?_, ?_, r, k, pg, n, c, b, hC, hM, hO.up⟩
      · unfold F_X11_terms
        simp only [X11_within, X11_isTile, X11_isHour, sbd, h1, if_neg z, if_pos g]
      · unfold F_X12_terms
        simp only [X12_within, sbd, h1, if_neg z, if_pos g]
    · obtain ⟨j, hj, rfl⟩ := nI_of g
      rcases wi_02 a3 with h0 | ⟨h3, w, hw, rfl⟩
      · refine ⟨-102, s, s, l, l, q, P, ?_, ?_, r, k, pg, n, c, b, hC, hM, hO.up⟩
        · unfold F_X11_terms
          simp only [X11_within, X11_isTile, X11_isHour, sbd, h1, if_neg z, if_neg g, h0, reduceIte]
        · unfold F_X12_terms
          simp only [X12_within, sbd, h1, if_neg z, if_neg g, h0, reduceIte]
      · by_cases g0 : r 0 0 = 0
        · refine ⟨-103, s, s, l, l, q, P, ?_, ?_, r, k, pg, n, c, b, hC, hM, hO.up⟩
          · unfold F_X11_terms
            simp only [X11_within, X11_isTile, X11_isHour, sbd, h1, if_neg z, if_neg g, h3, G_gR, G_ko, none_ok hC.1 hO.1, if_pos g0]
          · unfold F_X12_terms
            simp only [X12_within, sbd, h1, if_neg z, if_neg g, h3, G_gI, hM.1.1.1, g0]
            rfl
        · have hp2 : 2 ≤ r 0 0 := by have := hO.1.1; omega
          obtain ⟨s1, l1, a1', a2', a3', a4', a5'⟩ := hold_ok (l := l) hC.1 hO.1 hp2 hT hj
          have hM1 := hM.eo a1'
          obtain ⟨l2, b2'⟩ := termsNow_ok (l := l1) (q := q) (P := P) hM1.1 hO.1 hp2 hT hw hj
          refine ⟨if w = 0 then nI (0 + tmF r nx dr T j) else if w = 1 then nI (0 + tmS r nx dr T j) else nI (tmN nx T j), s1, s1, l1, l2, q, P, ?_, ?_, r, k, pg, n, c, b, hC.fr (fun a ha => a1' a (by omega)), hM1, hO.up⟩
          · unfold F_X11_terms
            simp only [X11_within, X11_isTile, X11_isHour, sbd, h1, if_neg z, if_neg g, h3, G_gR, G_ko, none_ok hC.1 hO.1, if_neg g0, reduceIte, a2']
            rcases (by omega : w = 0 ∨ w = 1 ∨ w = 2) with rfl | rfl | rfl
            · rw [if_pos (show nI 0 = 0 from rfl), if_pos rfl]
              simp only [G_gI, sbd, a3']
            · rw [if_neg (show ¬ nI 1 = 0 by decide), if_pos (show nI 1 = 1 from rfl), if_neg (show ¬ (1 : Nat) = 0 by decide), if_pos rfl]
              simp only [G_gI, sbd, a4']
            · rw [if_neg (show ¬ nI 2 = 0 by decide), if_neg (show ¬ nI 2 = 1 by decide), if_neg (show ¬ (2 : Nat) = 0 by decide), if_neg (show ¬ (2 : Nat) = 1 by decide)]
              simp only [G_gJ, sbd, a5', lN_i]
          · have e0 : ¬ nI (r 0 0) = 0 := nI_ne0 (by omega) (by omega)
            unfold F_X12_terms
            simp only [X12_within, sbd, h1, if_neg z, if_neg g, h3, G_gI, G_ko, hM1.1.1.1, if_neg e0, b2', bd2_s]
theorem rd_tile (a1 a2 : Int32) : Rd M (F_X11_tile 3 a1 a2) (F_X12_tile 39 a1 a2) := by
  rintro s l q P ⟨r, k, pg, n, c, b, hC, hM, hO⟩
  have z : ¬ (1 : Int32) = 0 := by decide
  by_cases g : 0 < r 0 0 ∧ wi a1 0 9 = 1
  · have hz := hT1 (l := l) hC.1 hM.1 hO.1 g.1 g.2
    rcases wi_09 a1 with h0 | ⟨_, t, ht, rfl⟩
    · rw [h0] at g; exact absurd g.2 (by decide)
    · have e1 : s 10 t = nI (r 4 t) := hC.1.2.1.2.2.1 t
      rcases wi_02 a2 with h0 | ⟨h1, w, hw, rfl⟩
      · have k0 : ¬ a2 = 0 := fun e => by rw [e] at h0; exact absurd h0 (by decide)
        have k1 : ¬ a2 = 1 := fun e => by rw [e] at h0; exact absurd h0 (by decide)
        have k2 : ¬ a2 = 2 := fun e => by rw [e] at h0; exact absurd h0 (by decide)
        refine ⟨-102, ?_, ?_⟩
        · unfold F_X11_tile
          simp only [G_gR, G_ko, sbd, hz.1, if_neg z, if_neg k0, if_neg k1, if_neg k2]
        · unfold F_X12_tile
          simp only [G_gR, G_ko, sbd, hz.2, if_neg z, X12_within, h0, reduceIte]
      · rcases (by omega : w = 0 ∨ w = 1 ∨ w = 2) with rfl | rfl | rfl
        · refine ⟨nI (r 4 t), ?_, ?_⟩
          · unfold F_X11_tile
            simp only [G_gR, G_ko, G_ga, ht, sbd, hz.1, if_neg z, e1]
            rw [if_pos (show nI 0 = 0 from rfl)]
          · have e := tileNow0_ok (l := l) (q := q) (P := P) hM.1 hO.1 ht
            have e' : F_X12_tileNow 39 (nI t) (nI 0) (hp s l q P) = some (nI (r 4 t)) := e
            unfold F_X12_tile
            simp only [G_gR, G_ko, sbd, hz.2, if_neg z, X12_within, h1, e']
        · refine ⟨nI (onT r t), ?_, ?_⟩
          · unfold F_X11_tile
            simp only [G_gR, G_ko, G_ga, ht, sbd, hz.1, if_neg z, standing_ok hC.1 hO.1 ht]
            rw [if_neg (show ¬ nI 1 = 0 by decide), if_pos (show nI 1 = 1 from rfl)]
          · have e := tileNow1_ok (l := l) (q := q) (P := P) hM.1 hO.1 ht
            have e' : F_X12_tileNow 39 (nI t) (nI 1) (hp s l q P) = some (nI (onT r t)) := e
            unfold F_X12_tile
            simp only [G_gR, G_ko, sbd, hz.2, if_neg z, X12_within, h1, e']
        · refine ⟨nI (covT r t), ?_, ?_⟩
          · unfold F_X11_tile
            simp only [G_gR, G_ko, G_ga, ht, sbd, hz.1, if_neg z, covering_ok hC.1 hO.1 ht]
            rw [if_neg (show ¬ nI 2 = 0 by decide), if_neg (show ¬ nI 2 = 1 by decide), if_pos (show nI 2 = 2 from rfl)]
          · have e := tileNow2_ok (l := l) (q := q) (P := P) hM.1 hO.1 ht
            have e' : F_X12_tileNow 39 (nI t) (nI 2) (hp s l q P) = some (nI (covT r t)) := e
            unfold F_X12_tile
            simp only [G_gR, G_ko, sbd, hz.2, if_neg z, X12_within, h1, e']
  · have hz := hT0 (a := a1) (l := l) hC.1 hM.1 hO.1 (by
      rcases wi_01 a1 0 9 with w | w
      · exact Or.inr w
      · exact Or.inl (by have : ¬ 0 < r 0 0 := fun v => g ⟨v, w⟩; omega))
    refine ⟨-101, ?_, ?_⟩
    · unfold F_X11_tile
      simp only [G_gR, G_ko, sbd, hz.1, reduceIte]
    · unfold F_X12_tile
      simp only [G_gR, G_ko, sbd, hz.2, reduceIte]
end CE
