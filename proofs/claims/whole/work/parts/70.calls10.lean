/-! CALLS: see -/
section CJ
variable {M : Nat}
theorem go_see (a1 a2 a3 a4 : Int32) : Go M (F_X11_see 3 a1 a2 a3 a4) (F_X12_see 39 a1 a2 a3 a4) := by
  rintro s l q P ⟨r, k, pg, n, c, b, hC, hM, hO⟩
  have n5 := hO.1.n5
  have z : ¬ (1 : Int32) = 0 := by decide
  have hm : r 10 0 ≤ 8 := hO.1.2.2.2.2.2.2.2.2.2.1
  have e1 : s 6 10 = nI (r 10 0) := hC.1.1.2.2.2.2
  have e2 : s 39 11 = nI (r 10 0) := hM.1.1.2.2.2.2
  by_cases g : ∃ p, p < r 0 0 ∧ a1 = nI p
  · obtain ⟨p, hp1, rfl⟩ := g
    rcases wi_012 a2 with h0 | ⟨h1, e, he, rfl⟩
    · refine ⟨-102, s, s, l, l, q, P, ?_, ?_, r, k, pg, n, c, b, hC, hM, hO.up⟩
      · unfold F_X11_see
        simp only [G_gR, G_ko, sbd, has_1 hC.1 hO.1 hp1, if_neg z, X11_within, X11_isHour, h0, rz0, reduceIte]
      · unfold F_X12_see
        simp only [G_gR, G_ko, sbd, isP_1 hM.1 hO.1 hp1, if_neg z, X12_within, h0, reduceIte]
    · rcases wi_09 a3 with h0 | ⟨h2, t, ht, rfl⟩
      · have hz := isT0 (s := s) (l := l) (q := q) (P := P) h0
        refine ⟨-102, s, s, l, l, q, P, ?_, ?_, r, k, pg, n, c, b, hC, hM, hO.up⟩
        · unfold F_X11_see
          simp only [G_gR, G_ko, sbd, has_1 hC.1 hO.1 hp1, if_neg z, X11_within, X11_isHour, h1, rz1, hz.1, reduceIte]
        · unfold F_X12_see
          simp only [G_gR, G_ko, sbd, isP_1 hM.1 hO.1 hp1, if_neg z, X12_within, h1, h0, reduceIte]
      · have hz := isT1 (s := s) (l := l) (q := q) (P := P) h2 hM.1 hO.1 (by omega)
        rcases Nat.lt_or_ge (r 10 0) 8 with g8 | g8
        · have lt8 : nI (r 10 0) < 8 := nI_lt (b := 8) g8 (by omega)
          have ne8 : ¬ nI (r 10 0) = 8 := by
            show ¬ nI (r 10 0) = nI 8
            rw [nI_eq (by omega) (by omega)]; omega
          have hw : ∃ w, w < 2 ∧ ∀ {α : Type} (f : Int32 → α), (if a4 = 0 then f 0 else f 1) = f (nI w) := by
            by_cases ga : a4 = 0
            · exact ⟨0, by omega, fun f => by rw [if_pos ga]; rfl⟩
            · exact ⟨1, by omega, fun f => by rw [if_neg ga]; rfl⟩
          obtain ⟨w, hw2, hwf⟩ := hw
          have u1 : ∀ f, us s 13 f 6 10 = nI (r 10 0) := fun _ => e1
          have u2 : ∀ f h, us (us s 13 f) 14 h 6 10 = nI (r 10 0) := fun _ _ => e1
          have u3 : ∀ f h i, us (us (us s 13 f) 14 h) 15 i 6 10 = nI (r 10 0) := fun _ _ _ => e1
          have u4 : ∀ f h i j, us (us (us (us s 13 f) 14 h) 15 i) 16 j 6 10 = nI (r 10 0) := fun _ _ _ _ => e1
          have hM1 : Md (us (us (us (us (us s 13 (upd (s 13) (r 10 0) (nI p))) 14 (upd (s 14) (r 10 0) (nI e))) 15 (upd (s 15) (r 10 0) (nI t))) 16 (upd (s 16) (r 10 0) (nI w))) 6 (upd (s 6) 10 (nI (r 10 0 + 1)))) r := hM.1
          have v0 : (us (us (us (us (us s 13 (upd (s 13) (r 10 0) (nI p))) 14 (upd (s 14) (r 10 0) (nI e))) 15 (upd (s 15) (r 10 0) (nI t))) 16 (upd (s 16) (r 10 0) (nI w))) 6 (upd (s 6) 10 (nI (r 10 0 + 1)))) 39 11 = nI (r 10 0) := e2
          have t46 : (us (us (us (us (us s 13 (upd (s 13) (r 10 0) (nI p))) 14 (upd (s 14) (r 10 0) (nI e))) 15 (upd (s 15) (r 10 0) (nI t))) 16 (upd (s 16) (r 10 0) (nI w))) 6 (upd (s 6) 10 (nI (r 10 0 + 1)))) 46 = s 46 ∧ (us (us (us (us (us s 13 (upd (s 13) (r 10 0) (nI p))) 14 (upd (s 14) (r 10 0) (nI e))) 15 (upd (s 15) (r 10 0) (nI t))) 16 (upd (s 16) (r 10 0) (nI w))) 6 (upd (s 6) 10 (nI (r 10 0 + 1)))) 47 = s 47 ∧ (us (us (us (us (us s 13 (upd (s 13) (r 10 0) (nI p))) 14 (upd (s 14) (r 10 0) (nI e))) 15 (upd (s 15) (r 10 0) (nI t))) 16 (upd (s 16) (r 10 0) (nI w))) 6 (upd (s 6) 10 (nI (r 10 0 + 1)))) 48 = s 48 ∧ (us (us (us (us (us s 13 (upd (s 13) (r 10 0) (nI p))) 14 (upd (s 14) (r 10 0) (nI e))) 15 (upd (s 15) (r 10 0) (nI t))) 16 (upd (s 16) (r 10 0) (nI w))) 6 (upd (s 6) 10 (nI (r 10 0 + 1)))) 49 = s 49 ∧ (us (us (us (us (us s 13 (upd (s 13) (r 10 0) (nI p))) 14 (upd (s 14) (r 10 0) (nI e))) 15 (upd (s 15) (r 10 0) (nI t))) 16 (upd (s 16) (r 10 0) (nI w))) 6 (upd (s 6) 10 (nI (r 10 0 + 1)))) 39 = s 39 := ⟨rfl, rfl, rfl, rfl, rfl⟩
          refine ⟨nI (r 10 0 + 1), us (us (us (us (us s 13 (upd (s 13) (r 10 0) (nI p))) 14 (upd (s 14) (r 10 0) (nI e))) 15 (upd (s 15) (r 10 0) (nI t))) 16 (upd (s 16) (r 10 0) (nI w))) 6 (upd (s 6) 10 (nI (r 10 0 + 1))), us (us (us (us (us (us (us (us (us (us s 13 (upd (s 13) (r 10 0) (nI p))) 14 (upd (s 14) (r 10 0) (nI e))) 15 (upd (s 15) (r 10 0) (nI t))) 16 (upd (s 16) (r 10 0) (nI w))) 6 (upd (s 6) 10 (nI (r 10 0 + 1)))) 46 (upd (s 46) (r 10 0) (nI p))) 47 (upd (s 47) (r 10 0) (nI e))) 48 (upd (s 48) (r 10 0) (nI t))) 49 (upd (s 49) (r 10 0) (nI w))) 39 (upd (s 39) 11 (nI (r 10 0 + 1))), l, l, q, P, ?_, ?_, us (us (us (us (us r 11 (va_up (r 11) (r 10 0) p)) 12 (va_up (r 12) (r 10 0) e)) 13 (va_up (r 13) (r 10 0) t)) 14 (va_up (r 14) (r 10 0) w)) 10 (fun _ => r 10 0 + 1), k, pg, n, c, b, ?_, ?_, ?_⟩
          · unfold F_X11_see
            simp only [G_gR, G_gI, G_sI, G_sa, g8, G_ko, sbd, has_1 hC.1 hO.1 hp1, if_neg z, X11_within, X11_isHour, h1, rz1, hz.1, e1, if_pos lt8, u1, u2, u3, nr]
            refine (hwf (fun v => F_X11_see_B118 3 16 (nI (r 10 0)) v _)).trans ?_
            unfold F_X11_see_B118
            simp only [G_gR, G_gI, G_sI, G_sa, g8, sbd, nr, u4, nI_1, u_up]
            rfl
          · revert t46 v0 hM1
            generalize us (us (us (us (us s 13 (upd (s 13) (r 10 0) (nI p))) 14 (upd (s 14) (r 10 0) (nI e))) 15 (upd (s 15) (r 10 0) (nI t))) 16 (upd (s 16) (r 10 0) (nI w))) 6 (upd (s 6) 10 (nI (r 10 0 + 1))) = T
            intro hM1 v0 t46
            have w1 : ∀ f, us T 46 f 39 11 = nI (r 10 0) := fun _ => v0
            have w2 : ∀ f h, us (us T 46 f) 47 h 39 11 = nI (r 10 0) := fun _ _ => v0
            have w3 : ∀ f h i, us (us (us T 46 f) 47 h) 48 i 39 11 = nI (r 10 0) := fun _ _ _ => v0
            have w4 : ∀ f h i j, us (us (us (us T 46 f) 47 h) 48 i) 49 j 39 11 = nI (r 10 0) := fun _ _ _ _ => v0
            rw [← t46.1, ← t46.2.1, ← t46.2.2.1, ← t46.2.2.2.1, ← t46.2.2.2.2]
            unfold F_X12_see
            simp only [G_gR, G_gI, G_sI, G_sa, g8, G_ko, sbd, isP_1 hM1 hO.1 hp1, if_neg z, X12_within, h1, h2, v0, if_neg ne8, w1, w2, w3, nr]
            refine (hwf (fun v => F_X12_see_B94 39 49 (nI (r 10 0)) v _)).trans ?_
            unfold F_X12_see_B94
            simp only [G_gR, G_gI, G_sI, G_sa, g8, sbd, nr, w4, nI_1, u_up]
            rfl
          · exact ⟨⟨⟨hC.1.1.1, hC.1.1.2.1, hC.1.1.2.2.1, hC.1.1.2.2.2.1, rfl⟩, ⟨hC.1.2.1.1, hC.1.2.1.2.1, hC.1.2.1.2.2.1, hC.1.2.1.2.2.2.1, hC.1.2.1.2.2.2.2.1, upd_va hC.1.2.1.2.2.2.2.2.1 (r 10 0) p, upd_va hC.1.2.1.2.2.2.2.2.2.1 (r 10 0) e, upd_va hC.1.2.1.2.2.2.2.2.2.2.1 (r 10 0) t, upd_va hC.1.2.1.2.2.2.2.2.2.2.2 (r 10 0) w⟩, hC.1.2.2⟩, hC.2.1, hC.2.2.1, hC.2.2.2.1, hC.2.2.2.2⟩
          · exact ⟨⟨⟨hM.1.1.1, hM.1.1.2.1, hM.1.1.2.2.1, hM.1.1.2.2.2.1, rfl⟩, ⟨hM.1.2.1.1, hM.1.2.1.2.1, hM.1.2.1.2.2.1, hM.1.2.1.2.2.2.1, hM.1.2.1.2.2.2.2.1, upd_va hM.1.2.1.2.2.2.2.2.1 (r 10 0) p, upd_va hM.1.2.1.2.2.2.2.2.2.1 (r 10 0) e, upd_va hM.1.2.1.2.2.2.2.2.2.2.1 (r 10 0) t, upd_va hM.1.2.1.2.2.2.2.2.2.2.2 (r 10 0) w⟩, hM.1.2.2⟩, hM.2.1, hM.2.2.1, hM.2.2.2.1, hM.2.2.2.2⟩
          · have v := hO.1
            have v9 := v.2.2.2.2.2.2.2.2.2.2
            exact ⟨⟨v.1, v.2.1, v.2.2.1, v.2.2.2.1, v.2.2.2.2.1, v.2.2.2.2.2.1, v.2.2.2.2.2.2.1, v.2.2.2.2.2.2.2.1, v.2.2.2.2.2.2.2.2.1, g8, va_lt v9.1 (show p < 5 by omega) (r 10 0), va_lt v9.2.1 he (r 10 0), va_lt v9.2.2.1 ht (r 10 0), va_lt v9.2.2.2 hw2 (r 10 0)⟩, hO.2.1, Nat.le_succ_of_le hO.2.2.1, hO.2.2.2⟩
        · have h8 : r 10 0 = 8 := by omega
          rw [h8] at e1 e2
          refine ⟨-104, s, s, l, l, q, P, ?_, ?_, r, k, pg, n, c, b, hC, hM, hO.up⟩
          · unfold F_X11_see
            simp only [G_gR, G_gI, G_ko, sbd, has_1 hC.1 hO.1 hp1, if_neg z, X11_within, X11_isHour, h1, rz1, hz.1, e1]
            rfl
          · unfold F_X12_see
            simp only [G_gR, G_gI, G_ko, sbd, isP_1 hM.1 hO.1 hp1, if_neg z, X12_within, h1, h2, e2]
            rfl
  · have g' : ∀ p, p < r 0 0 → a1 ≠ nI p := fun p hp1 e => g ⟨p, hp1, e⟩
    refine ⟨-101, s, s, l, l, q, P, ?_, ?_, r, k, pg, n, c, b, hC, hM, hO.up⟩
    · unfold F_X11_see
      simp only [G_gR, G_ko, sbd, has_0 hC.1 hO.1 g', reduceIte]
    · unfold F_X12_see
      simp only [G_gR, G_ko, sbd, isP_0 hM.1 hO.1 g', reduceIte]
end CJ
