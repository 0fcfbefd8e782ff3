/-! IMAGE, RESTORE: the class copies a court (made by wip/whole/tools/gencopy.py) -/
section CW
variable {s : Nat → Nat → Int32} {l : Nat → Nat → Int64} {q : Nat → Nat → Option Nat} {P : List Nat}
theorem cpy_8_19 : F_X1_copy 8 19 (hp s l q P) = some (hp (us s 19 (va_cpy (s 8) (s 19) 0 0 5)) l q P) := by
  unfold F_X1_copy
  simp only [G_gl, sbd]
  rw [if_neg (show ¬ (5 : Int32) < 5 by decide)]
  simp only [G_acp, sbd]
theorem cpy_9_20 : F_X1_copy 9 20 (hp s l q P) = some (hp (us s 20 (va_cpy (s 9) (s 20) 0 0 5)) l q P) := by
  unfold F_X1_copy
  simp only [G_gl, sbd]
  rw [if_neg (show ¬ (5 : Int32) < 5 by decide)]
  simp only [G_acp, sbd]
theorem cpy_10_21 : F_X1_copy 10 21 (hp s l q P) = some (hp (us s 21 (va_cpy (s 10) (s 21) 0 0 10)) l q P) := by
  unfold F_X1_copy
  simp only [G_gl, sbd]
  rw [if_neg (show ¬ (10 : Int32) < 10 by decide)]
  simp only [G_acp, sbd]
theorem cpy_11_22 : F_X1_copy 11 22 (hp s l q P) = some (hp (us s 22 (va_cpy (s 11) (s 22) 0 0 5)) l q P) := by
  unfold F_X1_copy
  simp only [G_gl, sbd]
  rw [if_neg (show ¬ (5 : Int32) < 5 by decide)]
  simp only [G_acp, sbd]
theorem cpy_12_23 : F_X1_copy 12 23 (hp s l q P) = some (hp (us s 23 (va_cpy (s 12) (s 23) 0 0 5)) l q P) := by
  unfold F_X1_copy
  simp only [G_gl, sbd]
  rw [if_neg (show ¬ (5 : Int32) < 5 by decide)]
  simp only [G_acp, sbd]
theorem cpy_13_24 : F_X1_copy 13 24 (hp s l q P) = some (hp (us s 24 (va_cpy (s 13) (s 24) 0 0 8)) l q P) := by
  unfold F_X1_copy
  simp only [G_gl, sbd]
  rw [if_neg (show ¬ (8 : Int32) < 8 by decide)]
  simp only [G_acp, sbd]
theorem cpy_14_25 : F_X1_copy 14 25 (hp s l q P) = some (hp (us s 25 (va_cpy (s 14) (s 25) 0 0 8)) l q P) := by
  unfold F_X1_copy
  simp only [G_gl, sbd]
  rw [if_neg (show ¬ (8 : Int32) < 8 by decide)]
  simp only [G_acp, sbd]
theorem cpy_15_26 : F_X1_copy 15 26 (hp s l q P) = some (hp (us s 26 (va_cpy (s 15) (s 26) 0 0 8)) l q P) := by
  unfold F_X1_copy
  simp only [G_gl, sbd]
  rw [if_neg (show ¬ (8 : Int32) < 8 by decide)]
  simp only [G_acp, sbd]
theorem cpy_16_27 : F_X1_copy 16 27 (hp s l q P) = some (hp (us s 27 (va_cpy (s 16) (s 27) 0 0 8)) l q P) := by
  unfold F_X1_copy
  simp only [G_gl, sbd]
  rw [if_neg (show ¬ (8 : Int32) < 8 by decide)]
  simp only [G_acp, sbd]
theorem cpy_19_8 : F_X1_copy 19 8 (hp s l q P) = some (hp (us s 8 (va_cpy (s 19) (s 8) 0 0 5)) l q P) := by
  unfold F_X1_copy
  simp only [G_gl, sbd]
  rw [if_neg (show ¬ (5 : Int32) < 5 by decide)]
  simp only [G_acp, sbd]
theorem cpy_20_9 : F_X1_copy 20 9 (hp s l q P) = some (hp (us s 9 (va_cpy (s 20) (s 9) 0 0 5)) l q P) := by
  unfold F_X1_copy
  simp only [G_gl, sbd]
  rw [if_neg (show ¬ (5 : Int32) < 5 by decide)]
  simp only [G_acp, sbd]
theorem cpy_21_10 : F_X1_copy 21 10 (hp s l q P) = some (hp (us s 10 (va_cpy (s 21) (s 10) 0 0 10)) l q P) := by
  unfold F_X1_copy
  simp only [G_gl, sbd]
  rw [if_neg (show ¬ (10 : Int32) < 10 by decide)]
  simp only [G_acp, sbd]
theorem cpy_22_11 : F_X1_copy 22 11 (hp s l q P) = some (hp (us s 11 (va_cpy (s 22) (s 11) 0 0 5)) l q P) := by
  unfold F_X1_copy
  simp only [G_gl, sbd]
  rw [if_neg (show ¬ (5 : Int32) < 5 by decide)]
  simp only [G_acp, sbd]
theorem cpy_23_12 : F_X1_copy 23 12 (hp s l q P) = some (hp (us s 12 (va_cpy (s 23) (s 12) 0 0 5)) l q P) := by
  unfold F_X1_copy
  simp only [G_gl, sbd]
  rw [if_neg (show ¬ (5 : Int32) < 5 by decide)]
  simp only [G_acp, sbd]
theorem cpy_24_13 : F_X1_copy 24 13 (hp s l q P) = some (hp (us s 13 (va_cpy (s 24) (s 13) 0 0 8)) l q P) := by
  unfold F_X1_copy
  simp only [G_gl, sbd]
  rw [if_neg (show ¬ (8 : Int32) < 8 by decide)]
  simp only [G_acp, sbd]
theorem cpy_25_14 : F_X1_copy 25 14 (hp s l q P) = some (hp (us s 14 (va_cpy (s 25) (s 14) 0 0 8)) l q P) := by
  unfold F_X1_copy
  simp only [G_gl, sbd]
  rw [if_neg (show ¬ (8 : Int32) < 8 by decide)]
  simp only [G_acp, sbd]
theorem cpy_26_15 : F_X1_copy 26 15 (hp s l q P) = some (hp (us s 15 (va_cpy (s 26) (s 15) 0 0 8)) l q P) := by
  unfold F_X1_copy
  simp only [G_gl, sbd]
  rw [if_neg (show ¬ (8 : Int32) < 8 by decide)]
  simp only [G_acp, sbd]
theorem cpy_27_16 : F_X1_copy 27 16 (hp s l q P) = some (hp (us s 16 (va_cpy (s 27) (s 16) 0 0 8)) l q P) := by
  unfold F_X1_copy
  simp only [G_gl, sbd]
  rw [if_neg (show ¬ (8 : Int32) < 8 by decide)]
  simp only [G_acp, sbd]
def cE17 (s : Nat → Nat → Int32) : Nat → Nat → Int32 := us (us (us (us (us (us (us (us (us (us s 17 (upd (upd (upd (upd (s 17) 5 (s 6 5)) 6 (s 6 6)) 7 (s 6 7)) 10 (s 6 10))) 19 (va_cpy (s 8) (s 19) 0 0 5)) 20 (va_cpy (s 9) (s 20) 0 0 5)) 21 (va_cpy (s 10) (s 21) 0 0 10)) 22 (va_cpy (s 11) (s 22) 0 0 5)) 23 (va_cpy (s 12) (s 23) 0 0 5)) 24 (va_cpy (s 13) (s 24) 0 0 8)) 25 (va_cpy (s 14) (s 25) 0 0 8)) 26 (va_cpy (s 15) (s 26) 0 0 8)) 27 (va_cpy (s 16) (s 27) 0 0 8)
set_option maxRecDepth 100000 in
theorem cE17_ok {f m : Nat} (hm : m < 6) (h0 : s 17 0 = nI m) : F_X1_copyOf_B10 17 6 (f + 1) (nI m) (hp s l q P) = some (hp (cE17 s) l q P) := by
  rw [F_X1_copyOf_B10]
  simp only [G_gI, G_gR, G_sI, sbd, h0, if_neg (show ¬ nI m < nI m from nI_nlt (Nat.le_refl _) (by omega)), cpy_8_19, cpy_9_20, cpy_10_21, cpy_11_22, cpy_12_23, cpy_13_24, cpy_14_25, cpy_15_26, cpy_16_27]
  rfl
theorem cL17 {m : Nat} {kd : Nat → Nat} (hm : m < 6) (hk : ∀ i, kd i < 5) (h0 : s 17 0 = nI m) : ∀ (k x f : Nat) (q : Nat → Nat → Option Nat), (∀ i, i < m → ∃ j, q 7 i = some (64 + j) ∧ P[j]? = some (kcl (kd i))) → x + k = m → k < f →
    ∃ (q' : Nat → Nat → Option Nat) (f' : Nat), (∀ a, a ≠ 18 → q' a = q a) ∧ (∀ i, x ≤ i → i < m → q' 18 i = q 7 i) ∧ (∀ i, i < x → q' 18 i = q 18 i) ∧ F_X1_copyOf_B10 17 6 f (nI x) (hp s l q P) = F_X1_copyOf_B10 17 6 (f' + 1) (nI m) (hp s l q' P)
  | _, _, 0, _, _, _, hf => absurd hf (by omega)
  | 0, x, f + 1, q, _, hx, _ => by
    have hx : x = m := hx
    subst hx
    exact ⟨q, f, fun _ _ => rfl, fun i h1 h2 => absurd h1 (by omega), fun _ _ => rfl, rfl⟩
  | k + 1, x, f + 1, q, hq, hx, hf => by
    have x5 : x < 5 := by omega
    obtain ⟨j, hj1, hj2⟩ := hq x (by omega)
    have hsq := (G_sq (s := s) (l := l) (q := q) hj2 (isKd_kcl _ (hk x))).2 x x5
    obtain ⟨q', f', a1, a2, a3, a4⟩ := cL17 hm hk h0 k (x + 1) f (us q 18 (va_up (q 18) x (some (64 + j)))) (fun i hi => by rw [us_ne _ _ (by omega)]; exact hq i hi) (by omega) (by omega)
    refine ⟨q', f', fun a ha => ?_, fun i h1 h2 => ?_, fun i h1 => ?_, ?_⟩
    · rw [a1 a ha, us_ne _ _ ha]
    · by_cases w : i = x
      · subst w
        rw [a3 i (by omega), us_self]
        unfold va_up
        rw [if_pos rfl, hj1]
      · rw [a2 i (by omega) h2, us_ne _ _ (by omega)]
    · rw [a3 i (by omega), us_self]
      unfold va_up
      rw [if_neg (by omega)]
    · rw [F_X1_copyOf_B10]
      simp only [G_gI, G_gR, G_gq, x5, sbd, h0, if_pos (show nI x < nI m from nI_lt (by omega) (by omega)), hj1, hsq, nI_1]
      exact a4
theorem copy17_ok {m : Nat} {kd : Nat → Nat} (hm : m < 6) (hk : ∀ i, kd i < 5) (h0 : s 6 0 = nI m) (hq : ∀ i, i < m → ∃ j, q 7 i = some (64 + j) ∧ P[j]? = some (kcl (kd i))) :
    ∃ (q' : Nat → Nat → Option Nat), (∀ a, a ≠ 18 → q' a = q a) ∧ (∀ i, i < m → q' 18 i = q 7 i) ∧ F_X1_copyOf 17 6 (hp s l q P) = some (hp (cE17 (us s 17 (upd (s 17) 0 (nI m)))) l q' P) := by
  have e0 : us s 17 (upd (s 17) 0 (nI m)) 17 0 = nI m := by rw [us_self, upd_s]
  obtain ⟨q', f', a1, a2, _, a4⟩ := cL17 (l := l) hm hk e0 m 0 200 q hq (by omega) (by omega)
  refine ⟨q', a1, fun i hi => a2 i (by omega) hi, ?_⟩
  unfold F_X1_copyOf
  simp only [G_gI, G_sI, sbd, h0]
  exact a4.trans (cE17_ok hm e0)
def cE6 (s : Nat → Nat → Int32) : Nat → Nat → Int32 := us (us (us (us (us (us (us (us (us (us s 6 (upd (upd (upd (upd (s 6) 5 (s 17 5)) 6 (s 17 6)) 7 (s 17 7)) 10 (s 17 10))) 8 (va_cpy (s 19) (s 8) 0 0 5)) 9 (va_cpy (s 20) (s 9) 0 0 5)) 10 (va_cpy (s 21) (s 10) 0 0 10)) 11 (va_cpy (s 22) (s 11) 0 0 5)) 12 (va_cpy (s 23) (s 12) 0 0 5)) 13 (va_cpy (s 24) (s 13) 0 0 8)) 14 (va_cpy (s 25) (s 14) 0 0 8)) 15 (va_cpy (s 26) (s 15) 0 0 8)) 16 (va_cpy (s 27) (s 16) 0 0 8)
set_option maxRecDepth 100000 in
theorem cE6_ok {f m : Nat} (hm : m < 6) (h0 : s 6 0 = nI m) : F_X1_copyOf_B10 6 17 (f + 1) (nI m) (hp s l q P) = some (hp (cE6 s) l q P) := by
  rw [F_X1_copyOf_B10]
  simp only [G_gI, G_gR, G_sI, sbd, h0, if_neg (show ¬ nI m < nI m from nI_nlt (Nat.le_refl _) (by omega)), cpy_19_8, cpy_20_9, cpy_21_10, cpy_22_11, cpy_23_12, cpy_24_13, cpy_25_14, cpy_26_15, cpy_27_16]
  rfl
theorem cL6 {m : Nat} {kd : Nat → Nat} (hm : m < 6) (hk : ∀ i, kd i < 5) (h0 : s 6 0 = nI m) : ∀ (k x f : Nat) (q : Nat → Nat → Option Nat), (∀ i, i < m → ∃ j, q 18 i = some (64 + j) ∧ P[j]? = some (kcl (kd i))) → x + k = m → k < f →
    ∃ (q' : Nat → Nat → Option Nat) (f' : Nat), (∀ a, a ≠ 7 → q' a = q a) ∧ (∀ i, x ≤ i → i < m → q' 7 i = q 18 i) ∧ (∀ i, i < x → q' 7 i = q 7 i) ∧ F_X1_copyOf_B10 6 17 f (nI x) (hp s l q P) = F_X1_copyOf_B10 6 17 (f' + 1) (nI m) (hp s l q' P)
  | _, _, 0, _, _, _, hf => absurd hf (by omega)
  | 0, x, f + 1, q, _, hx, _ => by
    have hx : x = m := hx
    subst hx
    exact ⟨q, f, fun _ _ => rfl, fun i h1 h2 => absurd h1 (by omega), fun _ _ => rfl, rfl⟩
  | k + 1, x, f + 1, q, hq, hx, hf => by
    have x5 : x < 5 := by omega
    obtain ⟨j, hj1, hj2⟩ := hq x (by omega)
    have hsq := (G_sq (s := s) (l := l) (q := q) hj2 (isKd_kcl _ (hk x))).1 x x5
    obtain ⟨q', f', a1, a2, a3, a4⟩ := cL6 hm hk h0 k (x + 1) f (us q 7 (va_up (q 7) x (some (64 + j)))) (fun i hi => by rw [us_ne _ _ (by omega)]; exact hq i hi) (by omega) (by omega)
    refine ⟨q', f', fun a ha => ?_, fun i h1 h2 => ?_, fun i h1 => ?_, ?_⟩
    · rw [a1 a ha, us_ne _ _ ha]
    · by_cases w : i = x
      · subst w
        rw [a3 i (by omega), us_self]
        unfold va_up
        rw [if_pos rfl, hj1]
      · rw [a2 i (by omega) h2, us_ne _ _ (by omega)]
    · rw [a3 i (by omega), us_self]
      unfold va_up
      rw [if_neg (by omega)]
    · rw [F_X1_copyOf_B10]
      simp only [G_gI, G_gR, G_gq, x5, sbd, h0, if_pos (show nI x < nI m from nI_lt (by omega) (by omega)), hj1, hsq, nI_1]
      exact a4
theorem copy6_ok {m : Nat} {kd : Nat → Nat} (hm : m < 6) (hk : ∀ i, kd i < 5) (h0 : s 17 0 = nI m) (hq : ∀ i, i < m → ∃ j, q 18 i = some (64 + j) ∧ P[j]? = some (kcl (kd i))) :
    ∃ (q' : Nat → Nat → Option Nat), (∀ a, a ≠ 7 → q' a = q a) ∧ (∀ i, i < m → q' 7 i = q 18 i) ∧ F_X1_copyOf 6 17 (hp s l q P) = some (hp (cE6 (us s 6 (upd (s 6) 0 (nI m)))) l q' P) := by
  have e0 : us s 6 (upd (s 6) 0 (nI m)) 6 0 = nI m := by rw [us_self, upd_s]
  obtain ⟨q', f', a1, a2, _, a4⟩ := cL6 (l := l) hm hk e0 m 0 200 q hq (by omega) (by omega)
  refine ⟨q', a1, fun i hi => a2 i (by omega) hi, ?_⟩
  unfold F_X1_copyOf
  simp only [G_gI, G_sI, sbd, h0]
  exact a4.trans (cE6_ok hm e0)
end CW
