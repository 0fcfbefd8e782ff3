/-! CALLS: lay, tile, game, odds, terms -/
section CD
variable {s s' : Nat → Nat → Int32} {l l' : Nat → Nat → Int64} {q : Nat → Nat → Option Nat} {P : List Nat} {r k : Nat → Nat → Nat} {pg : Nat → Nat} {M n c : Nat} {b : Bool}
theorem none_ok (h : Ct s q P 6 r) (hO : Ok r) : F_X1_isNone 6 (hp s l q P) = some (if r 0 0 = 0 then 1 else 0) := by
  have n5 := hO.n5
  have e : nI (r 0 0) = 0 ↔ r 0 0 = 0 := by
    show nI (r 0 0) = nI 0 ↔ _
    exact nI_eq (by omega) (by omega)
  unfold F_X1_isNone
  simp only [G_gI, sbd, h.1.1]
  by_cases g : r 0 0 = 0
  · rw [if_pos (e.mpr g), if_pos g]
  · rw [if_neg (fun w => g (e.mp w)), if_neg g]
theorem hT0 {a : Int32} (h : Ct s q P 6 r) (hM : Md s r) (hO : Ok r) (hz : r 0 0 = 0 ∨ wi a 0 9 = 0) : F_X1_hasTile 6 a (hp s l q P) = some 0 ∧ F_X12_isTile 39 a (hp s l q P) = some 0 := by
  have z : ¬ (1 : Int32) = 0 := by decide
  by_cases g : r 0 0 = 0
  · constructor
    · unfold F_X1_hasTile
      simp only [G_ko, sbd, none_ok h hO, if_pos g, if_neg z]
    · unfold F_X12_isTile
      simp only [G_gI, sbd, hM.1.1, g]
      rfl
  · have hw : wi a 0 9 = 0 := by rcases hz with w | w; exact absurd w g; exact w
    have hi := isT0 (s := s) (l := l) (q := q) (P := P) hw
    refine ⟨?_, hi.2⟩
    unfold F_X1_hasTile
    simp only [G_ko, sbd, none_ok h hO, if_neg g, hi.1, reduceIte]
theorem hT1 {a : Int32} (h : Ct s q P 6 r) (hM : Md s r) (hO : Ok r) (h0 : 0 < r 0 0) (hw : wi a 0 9 = 1) : F_X1_hasTile 6 a (hp s l q P) = some 1 ∧ F_X12_isTile 39 a (hp s l q P) = some 1 := by
  have z : ¬ (1 : Int32) = 0 := by decide
  have hi := isT1 (s := s) (l := l) (q := q) (P := P) hw hM hO h0
  refine ⟨?_, hi.2⟩
  unfold F_X1_hasTile
  simp only [G_ko, sbd, none_ok h hO, if_neg (show ¬ r 0 0 = 0 by omega), hi.1, if_neg z, reduceIte]
theorem go_lay (a1 a2 : Int32) : Go M (F_X11_lay 3 a1 a2) (F_X12_lay 39 a1 a2) := by
  rintro s l q P ⟨r, k, pg, n, c, b, hC, hM, hO⟩
  have z : ¬ (1 : Int32) = 0 := by decide
  by_cases g : 0 < r 0 0 ∧ wi a1 0 9 = 1
  · have hz := hT1 (l := l) hC.1 hM.1 hO.1 g.1 g.2
    rcases wi_09 a1 with h0 | ⟨_, t, ht, rfl⟩
    · rw [h0] at g; exact absurd g.2 (by decide)
    · have e1 : s 10 t = nI (r 4 t) := hC.1.2.1.2.2.1 t
      have e2 : s 40 t = nI (r 4 t) := hM.1.2.1.2.2.1 t
      rcases wi_09 a2 with h0 | ⟨h1, w, hw, rfl⟩
      · refine ⟨-102, s, s, l, l, q, P, ?_, ?_, r, k, pg, n, c, b, hC, hM, hO.up⟩
        · unfold F_X11_lay
          simp only [G_gR, G_ko, sbd, hz.1, if_neg z, X11_within, X11_isTile, X11_isHour, h0, reduceIte]
        · unfold F_X12_lay
          simp only [G_gR, G_ko, sbd, hz.2, if_neg z, X12_within, h0, reduceIte]
      · have hM1 : Md (us s 10 (upd (s 10) t (nI w))) r := hM.1
        have hz2 := isT1 (s := us s 10 (upd (s 10) t (nI w))) (l := l) (q := q) (P := P) g.2 hM1 hO.1 g.1
        refine ⟨nI (r 4 t), us s 10 (upd (s 10) t (nI w)), us (us s 10 (upd (s 10) t (nI w))) 40 (upd (s 40) t (nI w)), l, l, q, P, ?_, ?_, us r 4 (va_up (r 4) t w), k, pg, n, c, b, ?_, ?_, ?_⟩
        · unfold F_X11_lay
          simp only [G_gR, G_ko, G_ga, G_sa, ht, sbd, hz.1, if_neg z, X11_within, X11_isTile, X11_isHour, h1, e1, nr]
        · have e3 : us s 10 (upd (s 10) t (nI w)) 40 t = nI (r 4 t) := e2
          unfold F_X12_lay
          simp only [G_gR, G_ko, G_ga, G_sa, ht, sbd, hz2.2, if_neg z, X12_within, h1, e3, nr]
          rfl
        · exact ⟨⟨hC.1.1, ⟨hC.1.2.1.1, hC.1.2.1.2.1, upd_va hC.1.2.1.2.2.1 t w, hC.1.2.1.2.2.2⟩, hC.1.2.2⟩, hC.2.1, hC.2.2.1, hC.2.2.2.1, hC.2.2.2.2⟩
        · exact ⟨⟨hM.1.1, ⟨hM.1.2.1.1, hM.1.2.1.2.1, upd_va hM.1.2.1.2.2.1 t w, hM.1.2.1.2.2.2⟩, hM.1.2.2⟩, hM.2.1, hM.2.2.1, hM.2.2.2.1, hM.2.2.2.2⟩
        · have v := hO.1
          exact ⟨⟨v.1, v.2.1, v.2.2.1, v.2.2.2.1, va_lt v.2.2.2.2.1 hw t, v.2.2.2.2.2⟩, hO.2.1, Nat.le_succ_of_le hO.2.2.1, hO.2.2.2⟩
  · have hz := hT0 (a := a1) (l := l) hC.1 hM.1 hO.1 (by
      rcases wi_01 a1 0 9 with w | w
      · exact Or.inr w
      · exact Or.inl (by have : ¬ 0 < r 0 0 := fun v => g ⟨v, w⟩; omega))
    refine ⟨-101, s, s, l, l, q, P, ?_, ?_, r, k, pg, n, c, b, hC, hM, hO.up⟩
    · unfold F_X11_lay
      simp only [G_gR, G_ko, sbd, hz.1, reduceIte]
    · unfold F_X12_lay
      simp only [G_gR, G_ko, sbd, hz.2, reduceIte]
theorem wi_14 (a : Int32) : wi a 1 4 = 0 ∨ (wi a 1 4 = 1 ∧ ∃ t, (1 ≤ t ∧ t ≤ 4) ∧ a = nI t) := by
  rcases wi_cases a 1 4 (by omega) (by omega) with h | ⟨h, t, h1, h2, h3⟩
  · exact Or.inl h
  · exact Or.inr ⟨h, t, ⟨h1, h2⟩, h3⟩
theorem wi_01b (a : Int32) : wi a 0 1 = 0 ∨ (wi a 0 1 = 1 ∧ ∃ t, t < 2 ∧ a = nI t) := by
  rcases wi_cases a 0 1 (by omega) (by omega) with h | ⟨h, t, _, h2, h3⟩
  · exact Or.inl h
  · exact Or.inr ⟨h, t, by omega, h3⟩
theorem go_game (a1 a2 a3 a4 : Int32) : Go M (F_X11_game 3 a1 a2 a3 a4) (F_X12_game 39 a1 a2 a3 a4) := by
  rintro s l q P ⟨r, k, pg, n, c, b, hC, hM, hO⟩
  have n5 := hO.1.n5
  have z : ¬ (1 : Int32) = 0 := by decide
  by_cases g : ∃ x y, x < r 0 0 ∧ y < r 0 0 ∧ x ≠ y ∧ a1 = nI x ∧ a2 = nI y
  · obtain ⟨x, y, hx, hy, hxy, rfl, rfl⟩ := g
    rcases wi_14 a3 with h0 | ⟨h1, t, ht, rfl⟩
    · refine ⟨-102, s, s, l, l, q, P, ?_, ?_, r, k, pg, n, c, b, hC, hM, hO.up⟩
      · unfold F_X11_game
        simp only [G_gR, G_ko, sbd, two_1 hC.1 hO.1 hx hy hxy, if_neg z, X11_within, X11_isTile, X11_isHour, h0, reduceIte]
      · unfold F_X12_game
        simp only [G_gR, G_ko, sbd, are_1 hM.1 hO.1 hx hy hxy, if_neg z, X12_within, h0, reduceIte]
    · rcases wi_01b a4 with h0 | ⟨h2, w, hw, rfl⟩
      · refine ⟨-102, s, s, l, l, q, P, ?_, ?_, r, k, pg, n, c, b, hC, hM, hO.up⟩
        · unfold F_X11_game
          simp only [G_gR, G_ko, sbd, two_1 hC.1 hO.1 hx hy hxy, if_neg z, X11_within, X11_isTile, X11_isHour, h0, h1, reduceIte]
        · unfold F_X12_game
          simp only [G_gR, G_ko, sbd, are_1 hM.1 hO.1 hx hy hxy, if_neg z, X12_within, h0, h1, reduceIte]
      · obtain ⟨s1, a1', a2', a3', a4'⟩ := solve_ok (l := l) hC.1 hO.1 hx hy ht
        have hM1 := hM.eo a1'
        obtain ⟨s2, b1', b2'⟩ := gameNow_ok (l := l) (q := q) (P := P) hM1.1 hO.1 (show x < 5 by omega) (show y < 5 by omega) ht hw
        refine ⟨if w = 0 then wI (gTot r x y t + 500) else nI (gStp r x y t), s1, s2, l, l, q, P, ?_, ?_, r, k, pg, n, c, b, ?_, hM1.em b1', hO.up⟩
        · unfold F_X11_game
          simp only [G_gR, G_ko, G_gI, sbd, two_1 hC.1 hO.1 hx hy hxy, if_neg z, X11_within, X11_isTile, X11_isHour, h2, h1, a2', a3', a4']
          rcases (by omega : w = 0 ∨ w = 1) with rfl | rfl
          · rw [if_pos (show nI 0 = 0 from rfl), if_pos rfl]
            show some (wI _ + wI 500, _) = _
            rw [wI_add]
          · rw [if_neg (show ¬ nI 1 = 0 by decide), if_neg (by omega)]
        · unfold F_X12_game
          simp only [G_gR, G_ko, sbd, are_1 hM1.1 hO.1 hx hy hxy, if_neg z, X12_within, h2, h1, b2', bd2_s]
        · exact (hC.fr (fun a ha => a1' a (by omega))).fr (fun a ha => b1'.1 a (by omega))
  · have g' : ∀ x y, x < r 0 0 → y < r 0 0 → x ≠ y → ¬ (a1 = nI x ∧ a2 = nI y) := fun x y hx hy hxy e => g ⟨x, y, hx, hy, hxy, e.1, e.2⟩
    refine ⟨-101, s, s, l, l, q, P, ?_, ?_, r, k, pg, n, c, b, hC, hM, hO.up⟩
    · unfold F_X11_game
      simp only [G_gR, G_ko, sbd, two_0 hC.1 hO.1 g', reduceIte]
    · unfold F_X12_game
      simp only [G_gR, G_ko, sbd, are_0 hM.1 hO.1 g', reduceIte]
end CD
