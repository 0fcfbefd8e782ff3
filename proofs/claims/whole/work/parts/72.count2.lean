/-! COUNT: the reference -/
section CL
variable {s : Nat → Nat → Int32} {l : Nat → Nat → Int64} {q : Nat → Nat → Option Nat} {P : List Nat} {r k : Nat → Nat → Nat} {pg : Nat → Nat} {M n c : Nat} {b : Bool}
theorem count_m (hM : Ms s r k pg n c b) (hO : Ok r) (a : Int32) : F_X12_howMany 39 a (hp s l q P) = some (ctV r n c a) := by
  have e0 : s 39 1 = nI (r 0 0) := hM.1.1.1
  have e1 : s 39 6 = nI (r 5 0) := hM.1.1.2.1
  have e2 : s 39 7 = nI (r 6 0) := hM.1.1.2.2.1
  have e6 : s 39 8 = nI (r 7 0) := hM.1.1.2.2.2.1
  have e8 : s 39 11 = nI (r 10 0) := hM.1.1.2.2.2.2
  have e9 : s 39 16 = nI n := hM.2.1.1
  have e10 : s 39 0 = nI c := hM.2.2.1
  have e3 : F_X12_worthIn 39 1023 (hp s l q P) = some (nI (Ws (r 4) 1023)) := worthIn_ok (l := l) (q := q) (P := P) hM.1 (show 1023 < 2147483648 by omega)
  have e4 : F_X12_coveredBy 39 1 (hp s l q P) = some (nI (tcov r 1)) := mcov_ok (l := l) (q := q) (P := P) hM.1 hO (show 1 < 3 by omega)
  have e5 : F_X12_coveredBy 39 2 (hp s l q P) = some (nI (tcov r 2)) := mcov_ok (l := l) (q := q) (P := P) hM.1 hO (show 2 < 3 by omega)
  have e7 := mgood_ok (l := l) (q := q) (P := P) hM.1 hO
  have d4 : (4 : Int32) - 3 = 1 := rfl
  have d5 : (5 : Int32) - 3 = 2 := rfl
  unfold F_X12_howMany ctV
  simp only [G_gR, G_gI, G_ko, sbd, e0, e1, e2, e3, e6, e7, e8, e9, e10]
  by_cases h4 : a = 4
  · rw [h4, d4, e4]; rfl
  · by_cases h5 : a = 5
    · rw [h5, d5, e5]; rfl
    · simp only [if_neg h4, if_neg h5]
      repeat' (first | rfl | (split <;> first | rfl | skip))
theorem rd_count (a : Int32) : Rd M (F_X11_count 3 a) (F_X12_count 39 a) := by
  rintro s l q P ⟨r, k, pg, n, c, b, hC, hM, hO⟩
  refine ⟨ctV r n c a, count_c hC hO.1 a, ?_⟩
  unfold F_X12_count
  simp only [G_ko, sbd, count_m hM hO.1 a]
end CL
