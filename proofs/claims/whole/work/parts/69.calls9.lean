/-! CALLS: letter -/
section CI
variable {M : Nat}
theorem ch_1 : ∀ ch, ch < 127 → nr 1 (((nI ch).toUInt32 % 65536).toInt32) = nI ch := by decide +kernel
theorem ch_2 : ∀ ch, ch < 127 → nr 2 ((nI ch).toInt8.toInt32) = nI ch := by decide +kernel
theorem wi_ch (a : Int32) : wi a 32 126 = 0 ∨ (wi a 32 126 = 1 ∧ ∃ t, t < 127 ∧ a = nI t) := by
  rcases wi_cases a 32 126 (by omega) (by omega) with h | ⟨h, t, _, h2, h3⟩
  · exact Or.inl h
  · exact Or.inr ⟨h, t, by omega, h3⟩
theorem go_letter (a1 : Int32) : Go M (F_X11_letter 3 a1) (F_X12_letter 39 a1) := by
  rintro s l q P ⟨r, k, pg, n, c, b, hC, hM, hO⟩
  have z : ¬ (1 : Int32) = 0 := by decide
  have hn := hO.2.1.1
  have e1 : s 4 1 = nI n := hC.2.1.1
  have e2 : s 39 16 = nI n := hM.2.1.1
  rcases wi_ch a1 with h0 | ⟨h1, ch, hch, rfl⟩
  · refine ⟨-102, s, s, l, l, q, P, ?_, ?_, r, k, pg, n, c, b, hC, hM, hO.up⟩
    · unfold F_X11_letter
      simp only [X11_within, X11_isTile, X11_isHour, sbd, h0, reduceIte]
    · unfold F_X12_letter
      simp only [X12_within, sbd, h0, reduceIte]
  · have c34 : nI n < 34 ↔ n < 34 := by
      show nI n < nI 34 ↔ _
      exact nI_ltI (by omega) (by omega)
    have d34 : nI n = 34 ↔ n = 34 := by
      show nI n = nI 34 ↔ _
      exact nI_eq (by omega) (by omega)
    by_cases g : n < 34
    · have k1 := ch_1 ch hch
      have k2 := ch_2 ch hch
      have u1 : ∀ f, us s 5 f 4 1 = nI n := fun _ => e1
      have t50 : (us (us s 5 (upd (s 5) n (nI ch))) 4 (upd (s 4) 1 (nI (n + 1)))) 50 = s 50 := rfl
      have t39 : (us (us s 5 (upd (s 5) n (nI ch))) 4 (upd (s 4) 1 (nI (n + 1)))) 39 = s 39 := rfl
      have v0 : (us (us s 5 (upd (s 5) n (nI ch))) 4 (upd (s 4) 1 (nI (n + 1)))) 39 16 = nI n := e2
      refine ⟨nI (n + 1), us (us s 5 (upd (s 5) n (nI ch))) 4 (upd (s 4) 1 (nI (n + 1))), us (us (us (us s 5 (upd (s 5) n (nI ch))) 4 (upd (s 4) 1 (nI (n + 1)))) 50 (upd (s 50) n (nI ch))) 39 (upd (s 39) 16 (nI (n + 1))), l, l, q, P, ?_, ?_, r, k, va_up pg n ch, n + 1, c, b, ?_, ?_, ?_⟩
      · unfold F_X11_letter
        simp only [X11_within, X11_isTile, X11_isHour, sbd, h1, if_neg z, G_gR, G_gI, G_sI, G_sa, g, e1, if_pos (c34.mpr g), k1, u1, nI_1, u_up]
        rfl
      · revert t50 t39 v0
        generalize us (us s 5 (upd (s 5) n (nI ch))) 4 (upd (s 4) 1 (nI (n + 1))) = t
        intro t50 t39 v0
        have w1 : ∀ f, us t 50 f 39 16 = nI n := fun _ => v0
        rw [← t50, ← t39]
        unfold F_X12_letter
        simp only [X12_within, sbd, h1, if_neg z, G_gR, G_gI, G_sI, G_sa, g, v0, if_neg (show ¬ nI n = 34 from fun w => by have := d34.mp w; omega), k2, w1, nI_1, u_up]
        rfl
      · exact ⟨hC.1, ⟨rfl, upd_va hC.2.1.2 n ch⟩, hC.2.2.1, hC.2.2.2.1, hC.2.2.2.2⟩
      · exact ⟨hM.1, ⟨rfl, upd_va hM.2.1.2 n ch⟩, hM.2.2.1, hM.2.2.2.1, hM.2.2.2.2⟩
      · exact ⟨hO.1, ⟨by omega, va_lt hO.2.1.2 hch n⟩, Nat.le_succ_of_le hO.2.2.1, hO.2.2.2⟩
    · refine ⟨-104, s, s, l, l, q, P, ?_, ?_, r, k, pg, n, c, b, hC, hM, hO.up⟩
      · unfold F_X11_letter
        simp only [X11_within, X11_isTile, X11_isHour, sbd, h1, if_neg z, G_gR, G_gI, e1, if_neg (show ¬ nI n < 34 from fun w => g (c34.mp w))]
      · unfold F_X12_letter
        simp only [X12_within, sbd, h1, if_neg z, G_gR, G_gI, e2, if_pos (d34.mpr (show n = 34 by omega))]
end CI
