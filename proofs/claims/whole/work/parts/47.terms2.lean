/-! TERMS: the loops, over any draws N (the seed), D (the number drawn) -/
def tB (r : Nat → Nat → Nat) (N : Nat → Nat) (D : Nat → Nat → Nat) (n : Nat) : Int := bal r (D n (r 0 0)) (D (N n) (r 0 0)) (D (N (N n)) 13)
def tF (r : Nat → Nat → Nat) (N : Nat → Nat) (D : Nat → Nat → Nat) (n : Nat) : Nat := if D n (r 0 0) = D (N n) (r 0 0) then 0 else if 0 < tB r N D n then 1 else 0
def tS (r : Nat → Nat → Nat) (N : Nat → Nat) (D : Nat → Nat → Nat) (n : Nat) : Nat := if D n (r 0 0) = D (N n) (r 0 0) then 0 else if tB r N D n = 0 then 1 else 0
def tmF (r : Nat → Nat → Nat) (N : Nat → Nat) (D : Nat → Nat → Nat) : Nat → Nat → Nat
  | 0, _ => 0
  | k + 1, n => tF r N D n + tmF r N D k (N (N (N n)))
def tmS (r : Nat → Nat → Nat) (N : Nat → Nat) (D : Nat → Nat → Nat) : Nat → Nat → Nat
  | 0, _ => 0
  | k + 1, n => tS r N D n + tmS r N D k (N (N (N n)))
def tmN (N : Nat → Nat) : Nat → Nat → Nat
  | 0, n => n
  | k + 1, n => tmN N k (N (N (N n)))
section TL
variable {s s' : Nat → Nat → Int32} {l : Nat → Nat → Int64} {q : Nat → Nat → Option Nat} {P : List Nat} {r : Nat → Nat → Nat} {N : Nat → Nat} {D : Nat → Nat → Nat}
def Dok (N : Nat → Nat) (D : Nat → Nat → Nat) : Prop := (∀ n d, 1 ≤ d → D n d < d) ∧ (∀ n, N n < 2147483648)
def Dm (s : Nat → Nat → Int32) (q : Nat → Nat → Option Nat) (P : List Nat) (N : Nat → Nat) (D : Nat → Nat → Nat) : Prop := ∀ (n d : Nat) (l : Nat → Nat → Int64), 1 ≤ d ∧ d < 14 → l 39 24 = lN n → ∃ l', l' 39 24 = lN (N n) ∧ F_X12_draw 39 (nI d) (hp s l q P) = some (nI (D n d), hp s l' q P)
theorem termsM_step {T w i f n x y : Nat} (hK : Dok N D) (hD : Dm s q P N D) (hO : Ok r) (hp2 : 2 ≤ r 0 0) (hi : i < T) (hT : T ≤ 60) (h : Md s r) (hl : l 39 24 = lN n) : ∃ l', l' 39 24 = lN (N (N (N n))) ∧ F_X12_termsNow_B15 39 (nI T) (nI w) (f + 1) (nI x) (nI y) (nI i) (hp s l q P) = F_X12_termsNow_B15 39 (nI T) (nI w) f (nI (x + tF r N D n)) (nI (y + tS r N D n)) (nI (i + 1)) (hp s l' q P) := by
  have n5 := hO.n5
  have e0 : s 39 1 = nI (r 0 0) := h.1.1
  obtain ⟨l1, m1, d1⟩ := hD n (r 0 0) l (by omega) hl
  obtain ⟨l2, m2, d2⟩ := hD (N n) (r 0 0) l1 (by omega) m1
  obtain ⟨l3, m3, d3⟩ := hD (N (N n)) 13 l2 (by omega) m2
  have q1 := hK.1 n (r 0 0) (by omega)
  have q2 := hK.1 (N n) (r 0 0) (by omega)
  have q3 := hK.1 (N (N n)) 13 (by omega)
  have hf1 := foundIn_ok (l := l3) (q := q) (P := P) h hO (show D n (r 0 0) < 5 by omega) (show D (N n) (r 0 0) < 5 by omega) q3
  have hbl := bal_le hO (D n (r 0 0)) (D (N n) (r 0 0)) (D (N (N n)) 13)
  have d3' : F_X12_draw 39 13 (hp s l2 q P) = some (nI (D (N (N n)) 13), hp s l3 q P) := d3
  refine ⟨l3, m3, ?_⟩
  rw [F_X12_termsNow_B15, if_pos (show nI i < nI T from nI_lt hi (by omega))]
  simp only [G_gI, G_ko, sbd, e0, d1, d2, d3', bd2_s, hf1]
  unfold F_X12_termsNow_B76 tF tS tB
  have c1 : (nI (D n (r 0 0)) = nI (D (N n) (r 0 0))) ↔ D n (r 0 0) = D (N n) (r 0 0) := nI_eq (by omega) (by omega)
  have c2 := w_le0 (z := bal r (D n (r 0 0)) (D (N n) (r 0 0)) (D (N (N n)) 13)) (by omega) (by omega)
  have c3 : wI (bal r (D n (r 0 0)) (D (N n) (r 0 0)) (D (N (N n)) 13)) = 0 ↔ bal r (D n (r 0 0)) (D (N n) (r 0 0)) (D (N (N n)) 13) = 0 := by
    show _ = wI 0 ↔ _
    exact wI_eq (by omega) (by omega) (by omega) (by omega)
  revert c1 c2 c3
  generalize bal r (D n (r 0 0)) (D (N n) (r 0 0)) (D (N (N n)) 13) = z
  generalize D n (r 0 0) = u
  generalize D (N n) (r 0 0) = v
  intro c1 c2 c3
  by_cases g1 : u = v
  · simp only [nm, if_pos (c1.mpr g1), if_pos g1, Int32.add_zero, nI_1, Nat.add_zero]
  · have g1' : ¬ nI u = nI v := fun w => g1 (c1.mp w)
    by_cases g2 : 0 < z
    · have g3 : ¬ z = 0 := by omega
      simp only [nm, if_neg g1', if_neg g1, if_pos g2, if_neg (show ¬ wI z ≤ 0 from fun w => (c2.mp w) g2), if_neg g3, if_neg (show ¬ wI z = 0 from fun w => g3 (c3.mp w)), Int32.add_zero, nI_1, Nat.add_zero]
    · by_cases g3 : z = 0
      · simp only [nm, if_neg g1', if_neg g1, if_neg g2, if_pos (c2.mpr g2), if_pos (c3.mpr g3), if_pos g3, Int32.add_zero, nI_1, Nat.add_zero]
      · simp only [nm, if_neg g1', if_neg g1, if_neg g2, if_pos (c2.mpr g2), if_neg (show ¬ wI z = 0 from fun w => g3 (c3.mp w)), if_neg g3, Int32.add_zero, nI_1, Nat.add_zero]
theorem termsM_loop {T w : Nat} (hK : Dok N D) (hD : Dm s q P N D) (hO : Ok r) (hp2 : 2 ≤ r 0 0) (hT : T ≤ 60) (hw : w < 3) (h : Md s r) : ∀ (k i f n x y : Nat) (l : Nat → Nat → Int64), l 39 24 = lN n → i + k = T → k < f → ∃ l', F_X12_termsNow_B15 39 (nI T) (nI w) f (nI x) (nI y) (nI i) (hp s l q P) = some (if w = 0 then nI (x + tmF r N D k n) else if w = 1 then nI (y + tmS r N D k n) else nI (tmN N k n), hp s l' q P) := by
  intro k
  induction k with
  | zero =>
    intro i f n x y l hl hi hf
    match f, hf with
    | f + 1, _ =>
      refine ⟨l, ?_⟩
      rw [F_X12_termsNow_B15, if_neg (show ¬ nI i < nI T from nI_nlt (by omega) (by omega))]
      rcases (by omega : w = 0 ∨ w = 1 ∨ w = 2) with rfl | rfl | rfl
      · rw [if_pos (show nI 0 = 0 from rfl)]; rfl
      · rw [if_neg (show ¬ nI 1 = 0 by decide), if_pos (show nI 1 = 1 from rfl)]; rfl
      · rw [if_neg (show ¬ nI 2 = 0 by decide), if_neg (show ¬ nI 2 = 1 by decide)]
        simp only [G_gJ, sbd, hl, lN_i]
        rfl
  | succ k ih =>
    intro i f n x y l hl hi hf
    match f, hf with
    | f + 1, hf =>
      obtain ⟨l3, m3, hs⟩ := termsM_step (w := w) (f := f) (x := x) (y := y) hK hD hO hp2 (show i < T by omega) hT h hl
      obtain ⟨l', hl'⟩ := ih (i + 1) f (N (N (N n))) (x + tF r N D n) (y + tS r N D n) l3 m3 (by omega) (by omega)
      refine ⟨l', hs.trans (hl'.trans ?_)⟩
      rw [tmF, tmS, tmN, Nat.add_assoc, Nat.add_assoc]
end TL
