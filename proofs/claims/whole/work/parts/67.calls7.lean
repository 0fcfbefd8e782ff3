/-! CALLS: file, letter -/
section CG
variable {s s' : Nat → Nat → Int32} {l l' : Nat → Nat → Int64} {q : Nat → Nat → Option Nat} {P : List Nat} {r k : Nat → Nat → Nat} {pg : Nat → Nat} {M n c : Nat} {b : Bool}
theorem u_up (s : Nat → Nat → Int32) (a i : Nat) (v : Int32) : us s a (upd (s a) i v) a i = v := by rw [us_self]; exact upd_s _ _ _
theorem go_file (a1 a2 : Int32) : Go M (F_X11_file 3 a1 a2) (F_X12_file 39 a1 a2) := by
  rintro s l q P ⟨r, k, pg, n, c, b, hC, hM, hO⟩
  have n5 := hO.1.n5
  have z : ¬ (1 : Int32) = 0 := by decide
  have hm : r 7 0 ≤ 5 := hO.1.2.2.2.2.2.2.2.1
  have e1 : s 6 7 = nI (r 7 0) := hC.1.1.2.2.2.1
  have e2 : s 39 8 = nI (r 7 0) := hM.1.1.2.2.2.1
  by_cases g : ∃ x y, x < r 0 0 ∧ y < r 0 0 ∧ x ≠ y ∧ a1 = nI x ∧ a2 = nI y
  · obtain ⟨x, y, hx, hy, hxy, rfl, rfl⟩ := g
    rcases Nat.lt_or_ge (r 7 0) 5 with g5 | g5
    · have lt5 : nI (r 7 0) < 5 := nI_lt (b := 5) g5 (by omega)
      have ne5 : ¬ nI (r 7 0) = 5 := by
        show ¬ nI (r 7 0) = nI 5
        rw [nI_eq (by omega) (by omega)]; omega
      have hM1 : Md (us (us (us s 11 (upd (s 11) (r 7 0) (nI x))) 12 (upd (s 12) (r 7 0) (nI y))) 6 (upd (s 6) 7 (nI (r 7 0 + 1)))) r := hM.1
      have u1 : ∀ f, us s 11 f 6 7 = nI (r 7 0) := fun _ => e1
      have u2 : ∀ f h, us (us s 11 f) 12 h 6 7 = nI (r 7 0) := fun _ _ => e1
      have v0 : us (us (us s 11 (upd (s 11) (r 7 0) (nI x))) 12 (upd (s 12) (r 7 0) (nI y))) 6 (upd (s 6) 7 (nI (r 7 0 + 1))) 39 8 = nI (r 7 0) := e2
      refine ⟨nI (r 7 0 + 1), us (us (us s 11 (upd (s 11) (r 7 0) (nI x))) 12 (upd (s 12) (r 7 0) (nI y))) 6 (upd (s 6) 7 (nI (r 7 0 + 1))), us (us (us (us (us (us s 11 (upd (s 11) (r 7 0) (nI x))) 12 (upd (s 12) (r 7 0) (nI y))) 6 (upd (s 6) 7 (nI (r 7 0 + 1)))) 44 (upd (s 44) (r 7 0) (nI x))) 45 (upd (s 45) (r 7 0) (nI y))) 39 (upd (s 39) 8 (nI (r 7 0 + 1))), l, l, q, P, ?_, ?_, us (us (us r 8 (va_up (r 8) (r 7 0) x)) 9 (va_up (r 9) (r 7 0) y)) 7 (fun _ => r 7 0 + 1), k, pg, n, c, b, ?_, ?_, ?_⟩
      · unfold F_X11_file
        simp only [G_gR, G_gI, G_sI, G_sa, g5, G_ko, sbd, two_1 hC.1 hO.1 hx hy hxy, if_neg z, e1, if_pos lt5, u1, u2, u_up, nr, nI_1]
        rfl
      · have t44 : (us (us (us s 11 (upd (s 11) (r 7 0) (nI x))) 12 (upd (s 12) (r 7 0) (nI y))) 6 (upd (s 6) 7 (nI (r 7 0 + 1)))) 44 = s 44 := rfl
        have t45 : (us (us (us s 11 (upd (s 11) (r 7 0) (nI x))) 12 (upd (s 12) (r 7 0) (nI y))) 6 (upd (s 6) 7 (nI (r 7 0 + 1)))) 45 = s 45 := rfl
        have t39 : (us (us (us s 11 (upd (s 11) (r 7 0) (nI x))) 12 (upd (s 12) (r 7 0) (nI y))) 6 (upd (s 6) 7 (nI (r 7 0 + 1)))) 39 = s 39 := rfl
        revert t44 t45 t39 hM1 v0
        generalize us (us (us s 11 (upd (s 11) (r 7 0) (nI x))) 12 (upd (s 12) (r 7 0) (nI y))) 6 (upd (s 6) 7 (nI (r 7 0 + 1))) = t
        intro hM1 v0 t44 t45 t39
        have w1 : ∀ f, us t 44 f 39 8 = nI (r 7 0) := fun _ => v0
        have w2 : ∀ f h, us (us t 44 f) 45 h 39 8 = nI (r 7 0) := fun _ _ => v0
        rw [← t44, ← t45, ← t39]
        unfold F_X12_file
        simp only [G_gR, G_gI, G_sI, G_sa, g5, G_ko, sbd, are_1 hM1 hO.1 hx hy hxy, if_neg z, v0, if_neg ne5, w1, w2, u_up, nr, nI_1]
        rfl
      · exact ⟨⟨⟨hC.1.1.1, hC.1.1.2.1, hC.1.1.2.2.1, rfl, hC.1.1.2.2.2.2⟩, ⟨hC.1.2.1.1, hC.1.2.1.2.1, hC.1.2.1.2.2.1, upd_va hC.1.2.1.2.2.2.1 (r 7 0) x, upd_va hC.1.2.1.2.2.2.2.1 (r 7 0) y, hC.1.2.1.2.2.2.2.2⟩, hC.1.2.2⟩, hC.2.1, hC.2.2.1, hC.2.2.2.1, hC.2.2.2.2⟩
      · exact ⟨⟨⟨hM.1.1.1, hM.1.1.2.1, hM.1.1.2.2.1, rfl, hM.1.1.2.2.2.2⟩, ⟨hM.1.2.1.1, hM.1.2.1.2.1, hM.1.2.1.2.2.1, upd_va hM.1.2.1.2.2.2.1 (r 7 0) x, upd_va hM.1.2.1.2.2.2.2.1 (r 7 0) y, hM.1.2.1.2.2.2.2.2⟩, hM.1.2.2⟩, hM.2.1, hM.2.2.1, hM.2.2.2.1, hM.2.2.2.2⟩
      · have w := hO.1
        refine ⟨⟨w.1, w.2.1, w.2.2.1, w.2.2.2.1, w.2.2.2.2.1, w.2.2.2.2.2.1, w.2.2.2.2.2.2.1, g5, fun i hi => ?_, w.2.2.2.2.2.2.2.2.2⟩, hO.2.1, Nat.le_succ_of_le hO.2.2.1, hO.2.2.2⟩
        have hi : i < r 7 0 + 1 := hi
        show va_up (r 8) (r 7 0) x i < r 0 0 ∧ va_up (r 9) (r 7 0) y i < r 0 0
        unfold va_up
        by_cases gi : i = r 7 0
        · rw [if_pos gi, if_pos gi]; exact ⟨hx, hy⟩
        · rw [if_neg gi, if_neg gi]; exact w.2.2.2.2.2.2.2.2.1 i (by omega)
    · have h5 : r 7 0 = 5 := by omega
      rw [h5] at e1 e2
      refine ⟨-104, s, s, l, l, q, P, ?_, ?_, r, k, pg, n, c, b, hC, hM, hO.up⟩
      · unfold F_X11_file
        simp only [G_gR, G_gI, G_ko, sbd, two_1 hC.1 hO.1 hx hy hxy, if_neg z, e1]
        rfl
      · unfold F_X12_file
        simp only [G_gR, G_gI, G_ko, sbd, are_1 hM.1 hO.1 hx hy hxy, if_neg z, e2]
        rfl
  · have g' : ∀ x y, x < r 0 0 → y < r 0 0 → x ≠ y → ¬ (a1 = nI x ∧ a2 = nI y) := fun x y hx hy hxy e => g ⟨x, y, hx, hy, hxy, e.1, e.2⟩
    refine ⟨-101, s, s, l, l, q, P, ?_, ?_, r, k, pg, n, c, b, hC, hM, hO.up⟩
    · unfold F_X11_file
      simp only [G_gR, G_ko, sbd, two_0 hC.1 hO.1 g', reduceIte]
    · unfold F_X12_file
      simp only [G_gR, G_ko, sbd, are_0 hM.1 hO.1 g', reduceIte]
end CG
