/-! CALLS: settle, forget, stand, rise -/
section CB
variable {s s' : Nat → Nat → Int32} {l l' : Nat → Nat → Int64} {q : Nat → Nat → Option Nat} {P : List Nat} {r k : Nat → Nat → Nat} {pg : Nat → Nat} {M n c : Nat} {b : Bool}
theorem go_settle : Go M (F_X11_settle 3) (F_X12_settle 39) := by
  rintro s l q P ⟨r, k, pg, n, c, b, hC, hM, hO⟩
  have e1 : s 6 7 = nI (r 7 0) := hC.1.1.2.2.2.1
  have e2 : s 39 8 = nI (r 7 0) := hM.1.1.2.2.2.1
  refine ⟨nI (r 7 0), us s 6 (upd (s 6) 7 0), us (us s 6 (upd (s 6) 7 0)) 39 (upd (s 39) 8 0), l, l, q, P, ?_, ?_, us r 7 (fun _ => 0), k, pg, n, c, b, ?_, ?_, ?_⟩
  · unfold F_X11_settle
    simp only [G_gR, G_gI, G_sI, sbd, e1]
  · have e3 : us s 6 (upd (s 6) 7 0) 39 8 = nI (r 7 0) := e2
    unfold F_X12_settle
    simp only [G_gR, G_gI, G_sI, sbd, e3]
    rfl
  · exact ⟨⟨⟨hC.1.1.1, hC.1.1.2.1, hC.1.1.2.2.1, rfl, hC.1.1.2.2.2.2⟩, hC.1.2.1, hC.1.2.2⟩, hC.2.1, hC.2.2.1, hC.2.2.2.1, hC.2.2.2.2⟩
  · exact ⟨⟨⟨hM.1.1.1, hM.1.1.2.1, hM.1.1.2.2.1, rfl, hM.1.1.2.2.2.2⟩, hM.1.2.1, hM.1.2.2⟩, hM.2.1, hM.2.2.1, hM.2.2.2.1, hM.2.2.2.2⟩
  · have h1 := hO.1
    exact ⟨⟨h1.1, h1.2.1, h1.2.2.1, h1.2.2.2.1, h1.2.2.2.2.1, h1.2.2.2.2.2.1, h1.2.2.2.2.2.2.1, Nat.zero_le _, fun i hi => absurd hi (Nat.not_lt_zero _), h1.2.2.2.2.2.2.2.2.2⟩, hO.2.1, Nat.le_succ_of_le hO.2.2.1, hO.2.2.2⟩
theorem go_forget : Go M (F_X11_forget 3) (F_X12_forget 39) := by
  rintro s l q P ⟨r, k, pg, n, c, b, hC, hM, hO⟩
  have e1 : s 6 10 = nI (r 10 0) := hC.1.1.2.2.2.2
  have e2 : s 39 11 = nI (r 10 0) := hM.1.1.2.2.2.2
  refine ⟨nI (r 10 0), us s 6 (upd (s 6) 10 0), us (us s 6 (upd (s 6) 10 0)) 39 (upd (s 39) 11 0), l, l, q, P, ?_, ?_, us r 10 (fun _ => 0), k, pg, n, c, b, ?_, ?_, ?_⟩
  · unfold F_X11_forget
    simp only [G_gR, G_gI, G_sI, sbd, e1]
  · have e3 : us s 6 (upd (s 6) 10 0) 39 11 = nI (r 10 0) := e2
    unfold F_X12_forget
    simp only [G_gR, G_gI, G_sI, sbd, e3]
    rfl
  · exact ⟨⟨⟨hC.1.1.1, hC.1.1.2.1, hC.1.1.2.2.1, hC.1.1.2.2.2.1, rfl⟩, hC.1.2.1, hC.1.2.2⟩, hC.2.1, hC.2.2.1, hC.2.2.2.1, hC.2.2.2.2⟩
  · exact ⟨⟨⟨hM.1.1.1, hM.1.1.2.1, hM.1.1.2.2.1, hM.1.1.2.2.2.1, rfl⟩, hM.1.2.1, hM.1.2.2⟩, hM.2.1, hM.2.2.1, hM.2.2.2.1, hM.2.2.2.2⟩
  · have h1 := hO.1
    exact ⟨⟨h1.1, h1.2.1, h1.2.2.1, h1.2.2.2.1, h1.2.2.2.2.1, h1.2.2.2.2.2.1, h1.2.2.2.2.2.2.1, h1.2.2.2.2.2.2.2.1, h1.2.2.2.2.2.2.2.2.1, Nat.zero_le _, h1.2.2.2.2.2.2.2.2.2.2⟩, hO.2.1, Nat.le_succ_of_le hO.2.2.1, hO.2.2.2⟩
theorem isT0 {a : Int32} (h : wi a 0 9 = 0) : F_X11_isTile a = some 0 ∧ F_X12_isTile 39 a (hp s l q P) = some 0 := by
  constructor
  · rw [X11_isTile, h]
  · unfold F_X12_isTile
    simp only [G_gI, X12_within, sbd, h, reduceIte]
    split <;> rfl
theorem isT1 {a : Int32} (h : wi a 0 9 = 1) (hM : Md s r) (hO : Ok r) (h0 : 0 < r 0 0) : F_X11_isTile a = some 1 ∧ F_X12_isTile 39 a (hp s l q P) = some 1 := by
  have n5 := hO.n5
  have z : ¬ (1 : Int32) = 0 := by decide
  constructor
  · rw [X11_isTile, h]
  · unfold F_X12_isTile
    simp only [G_gI, X12_within, sbd, h, hM.1.1, if_neg (nI_nle h0 (show r 0 0 < 2 ^ 31 by omega)), if_neg z]
theorem wi_09 (a : Int32) : wi a 0 9 = 0 ∨ (wi a 0 9 = 1 ∧ ∃ t, t < 10 ∧ a = nI t) := by
  rcases wi_cases a 0 9 (by omega) (by omega) with h | ⟨h, t, _, h2, h3⟩
  · exact Or.inl h
  · exact Or.inr ⟨h, t, by omega, h3⟩
theorem wi_19 (a : Int32) : wi a 1 9 = 0 ∨ (wi a 1 9 = 1 ∧ ∃ t, 1 ≤ t ∧ t < 10 ∧ a = nI t) := by
  rcases wi_cases a 1 9 (by omega) (by omega) with h | ⟨h, t, h1, h2, h3⟩
  · exact Or.inl h
  · exact Or.inr ⟨h, t, h1, by omega, h3⟩
theorem upd_va {f : Nat → Int32} {g : Nat → Nat} (h : ∀ i, f i = nI (g i)) (p t : Nat) : ∀ i, upd f p (nI t) i = nI (va_up g p t i) := by
  intro i
  unfold upd va_up
  split
  · rfl
  · exact h i
theorem va_lt {g : Nat → Nat} {m t : Nat} (h : ∀ i, g i < m) (ht : t < m) (p : Nat) : ∀ i, va_up g p t i < m := by
  intro i
  unfold va_up
  split
  · exact ht
  · exact h i
theorem go_stand (a1 a2 : Int32) : Go M (F_X11_stand 3 a1 a2) (F_X12_stand 39 a1 a2) := by
  rintro s l q P ⟨r, k, pg, n, c, b, hC, hM, hO⟩
  have n5 := hO.1.n5
  have z : ¬ (1 : Int32) = 0 := by decide
  by_cases g : ∃ p, p < r 0 0 ∧ a1 = nI p
  · obtain ⟨p, hp1, rfl⟩ := g
    have p5 : p < 5 := by omega
    have e1 : s 9 p = nI (r 3 p) := hC.1.2.1.2.1 p
    have e2 : s 43 p = nI (r 3 p) := hM.1.2.1.2.1 p
    rcases wi_09 a2 with h0 | ⟨h1, t, ht, rfl⟩
    · have hz := isT0 (s := s) (l := l) (q := q) (P := P) h0
      refine ⟨-101, s, s, l, l, q, P, ?_, ?_, r, k, pg, n, c, b, hC, hM, hO.up⟩
      · unfold F_X11_stand
        simp only [G_gR, G_ko, sbd, has_1 hC.1 hO.1 hp1, if_neg z, hz.1, reduceIte]
      · unfold F_X12_stand
        simp only [G_gR, G_ko, sbd, isP_1 hM.1 hO.1 hp1, if_neg z, hz.2, reduceIte]
    · have hM1 : Md (us s 9 (upd (s 9) p (nI t))) r := hM.1
      have hz := isT1 (s := s) (l := l) (q := q) (P := P) h1 hM.1 hO.1 (by omega)
      have hz2 := isT1 (s := us s 9 (upd (s 9) p (nI t))) (l := l) (q := q) (P := P) h1 hM1 hO.1 (by omega)
      refine ⟨nI (r 3 p), us s 9 (upd (s 9) p (nI t)), us (us s 9 (upd (s 9) p (nI t))) 43 (upd (s 43) p (nI t)), l, l, q, P, ?_, ?_, us r 3 (va_up (r 3) p t), k, pg, n, c, b, ?_, ?_, ?_⟩
      · unfold F_X11_stand
        simp only [G_gR, G_ko, G_ga, G_sa, p5, sbd, has_1 hC.1 hO.1 hp1, if_neg z, hz.1, e1, nr]
      · have e3 : us s 9 (upd (s 9) p (nI t)) 43 p = nI (r 3 p) := e2
        unfold F_X12_stand
        simp only [G_gR, G_ko, G_ga, G_sa, p5, sbd, isP_1 hM1 hO.1 hp1, if_neg z, hz2.2, e3, nr]
        rfl
      · exact ⟨⟨hC.1.1, ⟨hC.1.2.1.1, upd_va hC.1.2.1.2.1 p t, hC.1.2.1.2.2⟩, hC.1.2.2⟩, hC.2.1, hC.2.2.1, hC.2.2.2.1, hC.2.2.2.2⟩
      · exact ⟨⟨hM.1.1, ⟨hM.1.2.1.1, upd_va hM.1.2.1.2.1 p t, hM.1.2.1.2.2⟩, hM.1.2.2⟩, hM.2.1, hM.2.2.1, hM.2.2.2.1, hM.2.2.2.2⟩
      · have w := hO.1
        exact ⟨⟨w.1, w.2.1, w.2.2.1, va_lt w.2.2.2.1 ht p, w.2.2.2.2⟩, hO.2.1, Nat.le_succ_of_le hO.2.2.1, hO.2.2.2⟩
  · have g' : ∀ p, p < r 0 0 → a1 ≠ nI p := fun p hp1 e => g ⟨p, hp1, e⟩
    refine ⟨-101, s, s, l, l, q, P, ?_, ?_, r, k, pg, n, c, b, hC, hM, hO.up⟩
    · unfold F_X11_stand
      simp only [G_gR, G_ko, sbd, has_0 hC.1 hO.1 g', reduceIte]
    · unfold F_X12_stand
      simp only [G_gR, G_ko, sbd, isP_0 hM.1 hO.1 g', reduceIte]
theorem go_rise (a1 a2 : Int32) : Go M (F_X11_rise 3 a1 a2) (F_X12_rise 39 a1 a2) := by
  rintro s l q P ⟨r, k, pg, n, c, b, hC, hM, hO⟩
  have n5 := hO.1.n5
  have z : ¬ (1 : Int32) = 0 := by decide
  by_cases g : ∃ p, p < r 0 0 ∧ a1 = nI p
  · obtain ⟨p, hp1, rfl⟩ := g
    have p5 : p < 5 := by omega
    have e1 : s 8 p = nI (r 2 p) := hC.1.2.1.1 p
    have e2 : s 42 p = nI (r 2 p) := hM.1.2.1.1 p
    rcases wi_19 a2 with h0 | ⟨h1, t, _, ht, rfl⟩
    · refine ⟨-102, s, s, l, l, q, P, ?_, ?_, r, k, pg, n, c, b, hC, hM, hO.up⟩
      · unfold F_X11_rise
        simp only [G_gR, G_ko, sbd, has_1 hC.1 hO.1 hp1, if_neg z, X11_within, X11_isTile, X11_isHour, h0, reduceIte]
      · unfold F_X12_rise
        simp only [G_gR, G_ko, sbd, isP_1 hM.1 hO.1 hp1, if_neg z, X12_within, h0, reduceIte]
    · have hM1 : Md (us s 8 (upd (s 8) p (nI t))) r := hM.1
      refine ⟨nI (r 2 p), us s 8 (upd (s 8) p (nI t)), us (us s 8 (upd (s 8) p (nI t))) 42 (upd (s 42) p (nI t)), l, l, q, P, ?_, ?_, us r 2 (va_up (r 2) p t), k, pg, n, c, b, ?_, ?_, ?_⟩
      · unfold F_X11_rise
        simp only [G_gR, G_ko, G_ga, G_sa, p5, sbd, has_1 hC.1 hO.1 hp1, if_neg z, X11_within, X11_isTile, X11_isHour, h1, e1, nr]
      · have e3 : us s 8 (upd (s 8) p (nI t)) 42 p = nI (r 2 p) := e2
        unfold F_X12_rise
        simp only [G_gR, G_ko, G_ga, G_sa, p5, sbd, isP_1 hM1 hO.1 hp1, if_neg z, X12_within, h1, e3, nr]
        rfl
      · exact ⟨⟨hC.1.1, ⟨upd_va hC.1.2.1.1 p t, hC.1.2.1.2⟩, hC.1.2.2⟩, hC.2.1, hC.2.2.1, hC.2.2.2.1, hC.2.2.2.2⟩
      · exact ⟨⟨hM.1.1, ⟨upd_va hM.1.2.1.1 p t, hM.1.2.1.2⟩, hM.1.2.2⟩, hM.2.1, hM.2.2.1, hM.2.2.2.1, hM.2.2.2.2⟩
      · have w := hO.1
        exact ⟨⟨w.1, w.2.1, va_lt w.2.2.1 ht p, w.2.2.2⟩, hO.2.1, Nat.le_succ_of_le hO.2.2.1, hO.2.2.2⟩
  · have g' : ∀ p, p < r 0 0 → a1 ≠ nI p := fun p hp1 e => g ⟨p, hp1, e⟩
    refine ⟨-101, s, s, l, l, q, P, ?_, ?_, r, k, pg, n, c, b, hC, hM, hO.up⟩
    · unfold F_X11_rise
      simp only [G_gR, G_ko, sbd, has_0 hC.1 hO.1 g', reduceIte]
    · unfold F_X12_rise
      simp only [G_gR, G_ko, sbd, isP_0 hM.1 hO.1 g', reduceIte]
end CB
