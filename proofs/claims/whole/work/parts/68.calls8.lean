/-! CALLS: tick -/
section CH
variable {M : Nat}
theorem go_tick : Go M (F_X11_tick 3) (F_X12_tick 39) := by
  rintro s l q P ⟨r, k, pg, n, c, b, hC, hM, hO⟩
  have n5 := hO.1.n5
  have z : ¬ (1 : Int32) = 0 := by decide
  have hh : r 5 0 < 13 := hO.1.2.2.2.2.2.1
  have hd : r 6 0 < 100 := hO.1.2.2.2.2.2.2.1
  have e5 : s 6 5 = nI (r 5 0) := hC.1.1.2.1
  have e6 : s 6 6 = nI (r 6 0) := hC.1.1.2.2.1
  have m5 : s 39 6 = nI (r 5 0) := hM.1.1.2.1
  have m6 : s 39 7 = nI (r 6 0) := hM.1.1.2.2.1
  by_cases g0 : r 0 0 = 0
  · refine ⟨-103, s, s, l, l, q, P, ?_, ?_, r, k, pg, n, c, b, hC, hM, hO.up⟩
    · unfold F_X11_tick
      simp only [G_gR, G_ko, sbd, none_ok hC.1 hO.1, if_pos g0, if_neg z]
    · unfold F_X12_tick
      simp only [G_gI, sbd, hM.1.1.1, g0]
      rfl
  · have e0 : ¬ nI (r 0 0) = 0 := nI_ne0 (by omega) (by omega)
    have c12 : nI (r 5 0) = 12 ↔ r 5 0 = 12 := by
      show nI (r 5 0) = nI 12 ↔ _
      exact nI_eq (by omega) (by omega)
    by_cases g1 : r 5 0 = 12
    · have c99 : nI (r 6 0) = 99 ↔ r 6 0 = 99 := by
        show nI (r 6 0) = nI 99 ↔ _
        exact nI_eq (by omega) (by omega)
      have c100 : nI (r 6 0 + 1) < 100 ↔ r 6 0 + 1 < 100 := by
        show nI (r 6 0 + 1) < nI 100 ↔ _
        exact nI_ltI (by omega) (by omega)
      by_cases g2 : r 6 0 = 99
      · refine ⟨-104, s, s, l, l, q, P, ?_, ?_, r, k, pg, n, c, b, hC, hM, hO.up⟩
        · unfold F_X11_tick F_X11_tick_B30
          simp only [G_gR, G_gI, G_ko, sbd, none_ok hC.1 hO.1, if_neg g0, reduceIte, e5, e6, if_pos (c12.mpr g1), if_neg z, nI_1, if_neg (show ¬ nI (r 6 0 + 1) < 100 from fun w => by have := c100.mp w; omega)]
        · unfold F_X12_tick
          simp only [G_gI, sbd, hM.1.1.1, if_neg e0, m5, m6, if_pos (c12.mpr g1), if_pos (c99.mpr g2)]
      · have u1 : ∀ v, us s 6 (upd (s 6) 6 v) 6 5 = nI (r 5 0) := fun v => by rw [us_self, upd_n _ (by omega)]; exact e5
        have hM1 : Md (us s 6 (upd (upd (s 6) 6 (nI (r 6 0 + 1))) 5 0)) r := hM.1
        have t39 : us s 6 (upd (upd (s 6) 6 (nI (r 6 0 + 1))) 5 0) 39 = s 39 := rfl
        refine ⟨0, us s 6 (upd (upd (s 6) 6 (nI (r 6 0 + 1))) 5 0), us (us s 6 (upd (upd (s 6) 6 (nI (r 6 0 + 1))) 5 0)) 39 (upd (upd (s 39) 7 (nI (r 6 0 + 1))) 6 0), l, l, q, P, ?_, ?_, us (us r 5 (fun _ => 0)) 6 (fun _ => r 6 0 + 1), k, pg, n, c, b, ?_, ?_, ?_⟩
        · unfold F_X11_tick F_X11_tick_B30 F_X11_tick_B52 F_X11_tick_B69
          simp only [G_gR, G_gI, G_sI, G_ko, sbd, none_ok hC.1 hO.1, if_neg g0, reduceIte, e5, e6, if_pos (c12.mpr g1), if_neg z, nI_1, if_pos (c100.mpr (show r 6 0 + 1 < 100 by omega)), us_self, us_us, upd_s]
        · have v5 : us s 6 (upd (upd (s 6) 6 (nI (r 6 0 + 1))) 5 0) 39 6 = nI (r 5 0) := m5
          have v6 : us s 6 (upd (upd (s 6) 6 (nI (r 6 0 + 1))) 5 0) 39 7 = nI (r 6 0) := m6
          have v0 : us s 6 (upd (upd (s 6) 6 (nI (r 6 0 + 1))) 5 0) 39 1 = nI (r 0 0) := hM.1.1.1
          have v7 : ∀ v, upd (s 39) 7 v 6 = nI (r 5 0) := fun v => by rw [upd_n _ (by omega)]; exact m5
          unfold F_X12_tick F_X12_tick_B31 F_X12_tick_B50
          simp only [G_gI, G_sI, sbd, v0, v5, v6, t39, if_neg e0, if_pos (c12.mpr g1), if_neg (fun w => g2 (c99.mp w)), nI_1, us_self, us_us, upd_s, v7]
        · exact ⟨⟨⟨hC.1.1.1, rfl, rfl, hC.1.1.2.2.2.1, hC.1.1.2.2.2.2⟩, hC.1.2.1, hC.1.2.2⟩, hC.2.1, hC.2.2.1, hC.2.2.2.1, hC.2.2.2.2⟩
        · exact ⟨⟨⟨hM.1.1.1, rfl, rfl, hM.1.1.2.2.2.1, hM.1.1.2.2.2.2⟩, hM.1.2.1, hM.1.2.2⟩, hM.2.1, hM.2.2.1, hM.2.2.2.1, hM.2.2.2.2⟩
        · have w := hO.1
          exact ⟨⟨w.1, w.2.1, w.2.2.1, w.2.2.2.1, w.2.2.2.2.1, Nat.succ_pos _, show r 6 0 + 1 < 100 by omega, w.2.2.2.2.2.2.2.1, w.2.2.2.2.2.2.2.2.1, w.2.2.2.2.2.2.2.2.2⟩, hO.2.1, Nat.le_succ_of_le hO.2.2.1, hO.2.2.2⟩
    · have g1' : ¬ nI (r 5 0) = 12 := fun w => g1 (c12.mp w)
      have t39 : us s 6 (upd (s 6) 5 (nI (r 5 0 + 1))) 39 = s 39 := rfl
      refine ⟨nI (r 5 0 + 1), us s 6 (upd (s 6) 5 (nI (r 5 0 + 1))), us (us s 6 (upd (s 6) 5 (nI (r 5 0 + 1)))) 39 (upd (upd (s 39) 7 (nI (r 6 0))) 6 (nI (r 5 0 + 1))), l, l, q, P, ?_, ?_, us r 5 (fun _ => r 5 0 + 1), k, pg, n, c, b, ?_, ?_, ?_⟩
      · unfold F_X11_tick F_X11_tick_B30 F_X11_tick_B52 F_X11_tick_B69
        simp only [G_gR, G_gI, G_sI, G_ko, sbd, none_ok hC.1 hO.1, if_neg g0, reduceIte, e5, if_neg g1', nI_1, us_self, upd_s]
      · have v5 : us s 6 (upd (s 6) 5 (nI (r 5 0 + 1))) 39 6 = nI (r 5 0) := m5
        have v6 : us s 6 (upd (s 6) 5 (nI (r 5 0 + 1))) 39 7 = nI (r 6 0) := m6
        have v0 : us s 6 (upd (s 6) 5 (nI (r 5 0 + 1))) 39 1 = nI (r 0 0) := hM.1.1.1
        have v7 : ∀ v, upd (s 39) 7 v 6 = nI (r 5 0) := fun v => by rw [upd_n _ (by omega)]; exact m5
        unfold F_X12_tick F_X12_tick_B31 F_X12_tick_B50
        simp only [G_gI, G_sI, sbd, v0, v5, v6, t39, if_neg e0, if_neg g1', Int32.add_zero, nI_1, us_self, us_us, upd_s, v7]
      · exact ⟨⟨⟨hC.1.1.1, rfl, hC.1.1.2.2.1, hC.1.1.2.2.2.1, hC.1.1.2.2.2.2⟩, hC.1.2.1, hC.1.2.2⟩, hC.2.1, hC.2.2.1, hC.2.2.2.1, hC.2.2.2.2⟩
      · exact ⟨⟨⟨hM.1.1.1, rfl, rfl, hM.1.1.2.2.2.1, hM.1.1.2.2.2.2⟩, hM.1.2.1, hM.1.2.2⟩, hM.2.1, hM.2.2.1, hM.2.2.2.1, hM.2.2.2.2⟩
      · have w := hO.1
        exact ⟨⟨w.1, w.2.1, w.2.2.1, w.2.2.2.1, w.2.2.2.2.1, show r 5 0 + 1 < 13 by omega, w.2.2.2.2.2.2⟩, hO.2.1, Nat.le_succ_of_le hO.2.2.1, hO.2.2.2⟩
end CH
