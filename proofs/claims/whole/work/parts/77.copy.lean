/-! IMAGE, RESTORE: the class copies a court (made by wip/whole/tools/gencopy.py) -/
section CW
variable {s : Nat → Nat → Int32} {l : Nat → Nat → Int64} {q : Nat → Nat → Option Nat} {P : List Nat}
theorem cpy_8_19 : F_X1_copy 8 19 (hp s l q P) = some (hp (us s 19 (va_cpy (s 8) (s 19) 0 0 5)) l q P) := by
  unfold F_X1_copy
  simp only [G_gl, sbd]
  rw [if_neg (show ¬ (5 : Int32) < 5 by decide)]
  simp only [G_acp, sbd]
theorem cpy_9_20 : F_X1_copy 9 20 (hp s l q P) = some (hp (us s 20 (va_cpy (s 9) (s 20) 0 0 5)) l q P) := by
  unfold F_X1_copy
  simp only [G_gl, sbd]
  rw [if_neg (show ¬ (5 : Int32) < 5 by decide)]
  simp only [G_acp, sbd]
theorem cpy_10_21 : F_X1_copy 10 21 (hp s l q P) = some (hp (us s 21 (va_cpy (s 10) (s 21) 0 0 10)) l q P) := by
  unfold F_X1_copy
  simp only [G_gl, sbd]
  rw [if_neg (show ¬ (10 : Int32) < 10 by decide)]
  simp only [G_acp, sbd]
theorem cpy_11_22 : F_X1_copy 11 22 (hp s l q P) = some (hp (us s 22 (va_cpy (s 11) (s 22) 0 0 5)) l q P) := by
  unfold F_X1_copy
  simp only [G_gl, sbd]
  rw [if_neg (show ¬ (5 : Int32) < 5 by decide)]
  simp only [G_acp, sbd]
theorem cpy_12_23 : F_X1_copy 12 23 (hp s l q P) = some (hp (us s 23 (va_cpy (s 12) (s 23) 0 0 5)) l q P) := by
  unfold F_X1_copy
  simp only [G_gl, sbd]
  rw [if_neg (show ¬ (5 : Int32) < 5 by decide)]
  simp only [G_acp, sbd]
theorem cpy_13_24 : F_X1_copy 13 24 (hp s l q P) = some (hp (us s 24 (va_cpy (s 13) (s 24) 0 0 8)) l q P) := by
  unfold F_X1_copy
  simp only [G_gl, sbd]
  rw [if_neg (show ¬ (8 : Int32) < 8 by decide)]
  simp only [G_acp, sbd]
theorem cpy_14_25 : F_X1_copy 14 25 (hp s l q P) = some (hp (us s 25 (va_cpy (s 14) (s 25) 0 0 8)) l q P) := by
  unfold F_X1_copy
  simp only [G_gl, sbd]
  rw [if_neg (show ¬ (8 : Int32) < 8 by decide)]
  simp only [G_acp, sbd]
theorem cpy_15_26 : F_X1_copy 15 26 (hp s l q P) = some (hp (us s 26 (va_cpy (s 15) (s 26) 0 0 8)) l q P) := by
  unfold F_X1_copy
  simp only [G_gl, sbd]
  rw [if_neg (show ¬ (8 : Int32) < 8 by decide)]
  simp only [G_acp, sbd]
theorem cpy_16_27 : F_X1_copy 16 27 (hp s l q P) = some (hp (us s 27 (va_cpy (s 16) (s 27) 0 0 8)) l q P) := by
  unfold F_X1_copy
  simp only [G_gl, sbd]
  rw [if_neg (show ¬ (8 : Int32) < 8 by decide)]
  simp only [G_acp, sbd]
theorem cpy_19_8 : F_X1_copy 19 8 (hp s l q P) = some (hp (us s 8 (va_cpy (s 19) (s 8) 0 0 5)) l q P) := by
  unfold F_X1_copy
  simp only [G_gl, sbd]
  rw [if_neg (show ¬ (5 : Int32) < 5 by decide)]
  simp only [G_acp, sbd]
theorem cpy_20_9 : F_X1_copy 20 9 (hp s l q P) = some (hp (us s 9 (va_cpy (s 20) (s 9) 0 0 5)) l q P) := by
  unfold F_X1_copy
  simp only [G_gl, sbd]
  rw [if_neg (show ¬ (5 : Int32) < 5 by decide)]
  simp only [G_acp, sbd]
theorem cpy_21_10 : F_X1_copy 21 10 (hp s l q P) = some (hp (us s 10 (va_cpy (s 21) (s 10) 0 0 10)) l q P) := by
  unfold F_X1_copy
  simp only [G_gl, sbd]
  rw [if_neg (show ¬ (10 : Int32) < 10 by decide)]
  simp only [G_acp, sbd]
theorem cpy_22_11 : F_X1_copy 22 11 (hp s l q P) = some (hp (us s 11 (va_cpy (s 22) (s 11) 0 0 5)) l q P) := by
  unfold F_X1_copy
  simp only [G_gl, sbd]
  rw [if_neg (show ¬ (5 : Int32) < 5 by decide)]
  simp only [G_acp, sbd]
theorem cpy_23_12 : F_X1_copy 23 12 (hp s l q P) = some (hp (us s 12 (va_cpy (s 23) (s 12) 0 0 5)) l q P) := by
  unfold F_X1_copy
  simp only [G_gl, sbd]
  rw [if_neg (show ¬ (5 : Int32) < 5 by decide)]
  simp only [G_acp, sbd]
theorem cpy_24_13 : F_X1_copy 24 13 (hp s l q P) = some (hp (us s 13 (va_cpy (s 24) (s 13) 0 0 8)) l q P) := by
  unfold F_X1_copy
  simp only [G_gl, sbd]
  rw [if_neg (show ¬ (8 : Int32) < 8 by decide)]
  simp only [G_acp, sbd]
theorem cpy_25_14 : F_X1_copy 25 14 (hp s l q P) = some (hp (us s 14 (va_cpy (s 25) (s 14) 0 0 8)) l q P) := by
  unfold F_X1_copy
  simp only [G_gl, sbd]
  rw [if_neg (show ¬ (8 : Int32) < 8 by decide)]
  simp only [G_acp, sbd]
theorem cpy_26_15 : F_X1_copy 26 15 (hp s l q P) = some (hp (us s 15 (va_cpy (s 26) (s 15) 0 0 8)) l q P) := by
  unfold F_X1_copy
  simp only [G_gl, sbd]
  rw [if_neg (show ¬ (8 : Int32) < 8 by decide)]
  simp only [G_acp, sbd]
theorem cpy_27_16 : F_X1_copy 27 16 (hp s l q P) = some (hp (us s 16 (va_cpy (s 27) (s 16) 0 0 8)) l q P) := by
  unfold F_X1_copy
  simp only [G_gl, sbd]
  rw [if_neg (show ¬ (8 : Int32) < 8 by decide)]
  simp only [G_acp, sbd]
def cE17 (s : Nat → Nat → Int32) : Nat → Nat → Int32 := us (us (us (us (us (us (us (us (us (us (us (us (us (s) 19 (va_cpy (s 8) (s 19) 0 0 5)) 20 (va_cpy (s 9) (s 20) 0 0 5)) 21 (va_cpy (s 10) (s 21) 0 0 10)) 17 (upd (s 17) 5 (s 6 5))) 17 (upd (upd (s 17) 5 (s 6 5)) 6 (s 6 6))) 17 (upd (upd (upd (s 17) 5 (s 6 5)) 6 (s 6 6)) 7 (s 6 7))) 22 (va_cpy (s 11) (s 22) 0 0 5)) 23 (va_cpy (s 12) (s 23) 0 0 5)) 17 (upd (upd (upd (upd (s 17) 5 (s 6 5)) 6 (s 6 6)) 7 (s 6 7)) 10 (s 6 10))) 24 (va_cpy (s 13) (s 24) 0 0 8)) 25 (va_cpy (s 14) (s 25) 0 0 8)) 26 (va_cpy (s 15) (s 26) 0 0 8)) 27 (va_cpy (s 16) (s 27) 0 0 8)
set_option maxRecDepth 100000 in
theorem copy17_ok : F_X1_keepAllOf 17 6 (hp s l q P) = some (hp (cE17 s) l q P) := by
  unfold F_X1_keepAllOf
  simp only [G_gI, G_gR, G_sI, sbd, cpy_8_19, cpy_9_20, cpy_10_21, cpy_11_22, cpy_12_23, cpy_13_24, cpy_14_25, cpy_15_26, cpy_16_27]
  rfl
def cE6 (s : Nat → Nat → Int32) : Nat → Nat → Int32 := us (us (us (us (us (us (us (us (us (us (us (us (us (s) 8 (va_cpy (s 19) (s 8) 0 0 5)) 9 (va_cpy (s 20) (s 9) 0 0 5)) 10 (va_cpy (s 21) (s 10) 0 0 10)) 6 (upd (s 6) 5 (s 17 5))) 6 (upd (upd (s 6) 5 (s 17 5)) 6 (s 17 6))) 6 (upd (upd (upd (s 6) 5 (s 17 5)) 6 (s 17 6)) 7 (s 17 7))) 11 (va_cpy (s 22) (s 11) 0 0 5)) 12 (va_cpy (s 23) (s 12) 0 0 5)) 6 (upd (upd (upd (upd (s 6) 5 (s 17 5)) 6 (s 17 6)) 7 (s 17 7)) 10 (s 17 10))) 13 (va_cpy (s 24) (s 13) 0 0 8)) 14 (va_cpy (s 25) (s 14) 0 0 8)) 15 (va_cpy (s 26) (s 15) 0 0 8)) 16 (va_cpy (s 27) (s 16) 0 0 8)
set_option maxRecDepth 100000 in
theorem copy6_ok : F_X1_keepAllOf 6 17 (hp s l q P) = some (hp (cE6 s) l q P) := by
  unfold F_X1_keepAllOf
  simp only [G_gI, G_gR, G_sI, sbd, cpy_19_8, cpy_20_9, cpy_21_10, cpy_22_11, cpy_23_12, cpy_24_13, cpy_25_14, cpy_26_15, cpy_27_16]
  rfl
end CW
