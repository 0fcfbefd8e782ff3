/-! GAME: the class's tables -/
section GA
variable {s : Nat → Nat → Int32} {l : Nat → Nat → Int64} {q : Nat → Nat → Option Nat} {P : List Nat} {r : Nat → Nat → Nat} {wa wb : Nat → Nat} {G : Nat → Nat → Int} {B : Int}
theorem if01 {c : Bool} {α : Type} (a b : α) : (if (if c = true then (1 : Int32) else 0) = 0 then a else b) = (if c = true then b else a) := by
  cases c <;> rfl
theorem after_step (hW : Wg s wa wb G) (hB : Bd wa wb G B) (hB2 : B ≤ 300) {x y j n : Nat} {M : Int} (hx : x < 10) (hy : y < 10) (hj : j < 3) (hM : -500 ≤ M ∧ M ≤ 500) :
    F_X3_afterAStood_B9 30 (nI x) (nI y) (hp s l q P) (n + 1) (wI M) (wI ((y : Int) + j - 1)) = F_X3_afterAStood_B9 30 (nI x) (nI y) (hp s l q P) n (wI (anS (val wa wb G) x y j M)) (wI ((y : Int) + (j + 1 : Nat) - 1)) := by
  have e1 : wI ((y : Int) + j - 1) ≤ nI y + 1 := by
    rw [nI_1, wI_n, wI_le (by omega) (by omega) (by omega) (by omega)]; omega
  have e2 : wI ((y : Int) + j - 1) + 1 = wI ((y : Int) + (j + 1 : Nat) - 1) := by
    show _ + wI 1 = _
    rw [wI_add]; congr 1; omega
  have hm := mayStand_ok y hy j hj x hx
  rw [F_X3_afterAStood_B9, if_pos e1]
  simp only [hm, some_bind, if01, e2]
  unfold anS
  cases e : lg y j x with
  | false => rfl
  | true =>
    have ht := lg_T e
    have hv := hB.vl hx ht.1
    have hi : nI x * 10 + wI ((y : Int) + j - 1) = nI (x * 10 + T3 y j) := by
      rw [ht.2, ← wI_n, show (10 : Int32) = nI 10 from rfl, n_mul, nI_add]
    have h1 := hW.1 x hx
    have h2 := hW.2.1 _ ht.1
    have h3 := hW.2.2 x _ hx ht.1
    have k1 : x * 10 + T3 y j < 100 := by omega
    have k2 := ht.1
    rw [ht.2, ← wI_n] at hi
    simp only [reduceIte]
    rw [ht.2, ← wI_n]
    simp only [G_gR, G_ga, hx, k1, k2, some_bind, hi, h1, h2, h3, nm]
    have e5 : nI (wa x) - nI (wb (T3 y j)) + wI (G x (T3 y j)) = wI (val wa wb G x (T3 y j)) := by
      rw [n_sub, wI_add]; rfl
    rw [e5]
    unfold mn
    by_cases g : val wa wb G x (T3 y j) < M
    · rw [if_pos g, if_pos ((wI_lt (by omega) (by omega) (by omega) (by omega)).mpr g)]
    · rw [if_neg g, if_neg (fun z => g ((wI_lt (by omega) (by omega) (by omega) (by omega)).mp z))]
theorem after_ok (hW : Wg s wa wb G) (hB : Bd wa wb G B) (hB2 : B ≤ 300) {x y : Nat} (hx : x < 10) (hy : y < 10) : F_X3_afterAStood 30 (nI x) (nI y) (hp s l q P) = some (wI (an (val wa wb G) x y 500)) := by
  have lo : ∀ t, t < 10 → -500 ≤ val wa wb G x t := fun t ht => by have := hB.vl hx ht; omega
  have e0 : nI y - 1 = wI ((y : Int) + (0 : Nat) - 1) := by
    show nI y - nI 1 = _
    rw [n_sub]; congr 1
  have hM1 : -500 ≤ anS (val wa wb G) x y 0 500 ∧ anS (val wa wb G) x y 0 500 ≤ 500 := ⟨anS_lo (by omega) lo, anS_r _ _ _ _ _⟩
  have hM2 : -500 ≤ anS (val wa wb G) x y 1 (anS (val wa wb G) x y 0 500) ∧ anS (val wa wb G) x y 1 (anS (val wa wb G) x y 0 500) ≤ 500 := ⟨anS_lo hM1.1 lo, Int.le_trans (anS_r _ _ _ _ _) hM1.2⟩
  unfold F_X3_afterAStood
  show F_X3_afterAStood_B9 30 (nI x) (nI y) (hp s l q P) (196 + 1 + 1 + 1 + 1) (wI 500) (nI y - 1) = _
  rw [e0, after_step hW hB hB2 hx hy (by omega) (by omega), after_step hW hB hB2 hx hy (by omega) hM1, after_step hW hB hB2 hx hy (by omega) hM2]
  rw [F_X3_afterAStood_B9, if_neg]
  · rfl
  · rw [nI_1, wI_n, wI_le (by omega) (by omega) (by omega) (by omega)]; omega
def Aan (wa wb : Nat → Nat) (G : Nat → Nat → Int) (y x : Nat) : Int := an (val wa wb G) x y 500
theorem Aan_bd (hB : Bd wa wb G B) (hB2 : 0 ≤ B ∧ B ≤ 300) {x y : Nat} (hx : x < 10) (hy : y < 10) : -(B + 90) ≤ Aan wa wb G y x ∧ Aan wa wb G y x ≤ B + 90 := by
  refine ⟨an_lo (by omega) (fun t ht => (hB.vl hx ht).1), Int.le_trans (an_hi hy) (hB.vl hx hy).2⟩
theorem best_step (hW : Wg s wa wb G) (hB : Bd wa wb G B) (hB2 : 0 ≤ B ∧ B ≤ 300) {x y j n : Nat} {z : Nat × Int} (hx : x < 10) (hy : y < 10) (hj : j < 3) (hM : -500 ≤ z.2 ∧ z.2 ≤ 500) :
    F_X3_bestStep_B10 30 (nI x) (nI y) (hp s l q P) (n + 1) (nI z.1) (wI z.2) (nI j) = F_X3_bestStep_B10 30 (nI x) (nI y) (hp s l q P) n (nI (bsS (Aan wa wb G y) x y j z).1) (wI (bsS (Aan wa wb G y) x y j z).2) (nI (j + 1)) := by
  have e1 : nI j ≤ 2 := nI_le (b := 2) (by omega) (by omega)
  have e2 : nI x + nI j - 1 = wI ((x : Int) + j - 1) := by
    show nI x + nI j - wI 1 = _
    rw [nI_add, wI_n, wI_sub]; congr 1
  have hm := mayStand_ok x hx j hj y hy
  rw [F_X3_bestStep_B10, if_pos e1]
  simp only [nm, e2, hm, some_bind, if01, nI_1]
  unfold bsS
  cases e : lg x j y with
  | false => rfl
  | true =>
    have ht := lg_T e
    have ha := after_ok (l := l) (q := q) (P := P) hW hB hB2.2 ht.1 hy
    have hv := Aan_bd hB hB2 ht.1 hy
    simp only [reduceIte]
    rw [ht.2, ← wI_n]
    simp only [G_ko, some_bind, ha]
    show (if wI (Aan wa wb G y (T3 x j)) ≤ wI z.2 then _ else _) = _
    by_cases g : Aan wa wb G y (T3 x j) ≤ z.2
    · rw [if_pos g, if_pos ((wI_le (by omega) (by omega) (by omega) (by omega)).mpr g)]
    · rw [if_neg g, if_neg (fun w => g ((wI_le (by omega) (by omega) (by omega) (by omega)).mp w))]
      rfl
theorem bsS_bd {A : Nat → Int} {x y j : Nat} {z : Nat × Int} (hA : ∀ t, t < 10 → -500 ≤ A t ∧ A t ≤ 500) (hz : -500 ≤ z.2 ∧ z.2 ≤ 500) : -500 ≤ (bsS A x y j z).2 ∧ (bsS A x y j z).2 ≤ 500 := by
  unfold bsS
  split
  next h =>
    split
    · exact hz
    · exact hA _ (lg_T h).1
  · exact hz
theorem best_ok (hW : Wg s wa wb G) (hB : Bd wa wb G B) (hB2 : 0 ≤ B ∧ B ≤ 300) {x y : Nat} (hx : x < 10) (hy : y < 10) : F_X3_bestStep 30 (nI x) (nI y) (hp s l q P) = some (nI (bst (Aan wa wb G y) x y (-500)).1) := by
  have hA : ∀ t, t < 10 → -500 ≤ Aan wa wb G y t ∧ Aan wa wb G y t ≤ 500 := fun t ht => by have := Aan_bd hB hB2 ht hy; omega
  have h0 : -500 ≤ ((1, -500) : Nat × Int).2 ∧ ((1, -500) : Nat × Int).2 ≤ 500 := by decide
  have h1 := bsS_bd (x := x) (y := y) (j := 0) hA h0
  have h2 := bsS_bd (x := x) (y := y) (j := 1) hA h1
  unfold F_X3_bestStep
  show F_X3_bestStep_B10 30 (nI x) (nI y) (hp s l q P) (196 + 1 + 1 + 1 + 1) (nI ((1, -500) : Nat × Int).1) (wI ((1, -500) : Nat × Int).2) (nI 0) = _
  rw [best_step hW hB hB2 hx hy (by omega) h0, best_step hW hB hB2 hx hy (by omega) h1, best_step hW hB hB2 hx hy (by omega) h2]
  rw [F_X3_bestStep_B10, if_neg (show ¬ nI (0 + 1 + 1 + 1) ≤ 2 from nI_ge (a := 2) (b := 3) (by omega) (by omega))]
  rfl
/-- an hour back -/
def nxt (wa wb : Nat → Nat) (G : Nat → Nat → Int) (x y : Nat) : Int := (bst (Aan wa wb G y) x y (-500)).2
theorem Wg.set33 (h : Wg s wa wb G) (g : Nat → Int32) : Wg (us s 33 g) wa wb G := h
theorem best_ex (hB : Bd wa wb G B) (hB2 : 0 ≤ B ∧ B ≤ 300) {x y : Nat} (hx : x < 10) (hy : y < 10) : (bst (Aan wa wb G y) x y (-500)).1 < 3 ∧ lg x (bst (Aan wa wb G y) x y (-500)).1 y = true ∧ Aan wa wb G y (T3 x (bst (Aan wa wb G y) x y (-500)).1) = nxt wa wb G x y ∧ (∀ j, j < (bst (Aan wa wb G y) x y (-500)).1 → lg x j y = true → Aan wa wb G y (T3 x j) < nxt wa wb G x y) ∧ (∀ j, j < 3 → lg x j y = true → Aan wa wb G y (T3 x j) ≤ nxt wa wb G x y) :=
  bst_ok hx (fun t ht => by have := Aan_bd hB hB2 ht hy; omega)
theorem nxt_bd (hB : Bd wa wb G B) (hB2 : 0 ≤ B ∧ B ≤ 300) {x y : Nat} (hx : x < 10) (hy : y < 10) : -(B + 90) ≤ nxt wa wb G x y ∧ nxt wa wb G x y ≤ B + 90 := by
  have h := best_ex hB hB2 hx hy
  rw [← h.2.2.1]
  exact Aan_bd hB hB2 (lg_T h.2.1).1 hy
theorem back_in (hB : Bd wa wb G B) (hB2 : 0 ≤ B ∧ B ≤ 300) {x : Nat} {K : Int32 → abH → Option abH} (hx : x < 10) : ∀ (n y f : Nat) (s : Nat → Nat → Int32), Wg s wa wb G → y + n = 10 → n < f → ∃ g : Nat → Int32, (∀ k, k < x * 10 + y → g k = s 33 k) ∧ (∀ y', y ≤ y' → y' < 10 → g (x * 10 + y') = wI (nxt wa wb G x y')) ∧ F_X3_goBackAnHour_B10 30 (nI x) K f (nI y) (hp s l q P) = K (nI (x + 1)) (hp (us s 33 g) l q P)
  | _, _, 0, _, _, _, hf => absurd hf (by omega)
  | 0, y, f + 1, s, _, hy, _ => by
    refine ⟨s 33, fun _ _ => rfl, fun y' h1 h2 => absurd h1 (by omega), ?_⟩
    rw [us_id]
    unfold F_X3_goBackAnHour_B10
    rw [if_neg (show ¬ nI y < 10 from nI_nlt (b := 10) (by omega) (by omega)), nI_1]
  | n + 1, y, f + 1, s, hW, hy, hf => by
    have y10 : y < 10 := by omega
    have e1 : nI y < 10 := nI_lt (b := 10) (by omega) (by omega)
    have hb := best_ok (l := l) (q := q) (P := P) hW hB hB2 hx y10
    have hx2 := best_ex hB hB2 hx y10
    have ht := lg_T hx2.2.1
    have ha := after_ok (l := l) (q := q) (P := P) hW hB hB2.2 ht.1 y10
    have e2 : nI x + nI (bst (Aan wa wb G y) x y (-500)).1 - 1 = nI (T3 x (bst (Aan wa wb G y) x y (-500)).1) := by
      show nI x + nI _ - wI 1 = _
      rw [nI_add, wI_n, wI_sub, wI_n, ← ht.2]; congr 1
    have e3 : nI x * 10 + nI y = nI (x * 10 + y) := by
      rw [show (10 : Int32) = nI 10 from rfl, n_mul, nI_add]
    have k1 : x * 10 + y < 100 := by omega
    have e4 : an (val wa wb G) (T3 x (bst (Aan wa wb G y) x y (-500)).1) y 500 = nxt wa wb G x y := hx2.2.2.1
    rw [e4] at ha
    obtain ⟨g, g1, g2, g3⟩ := back_in hB hB2 (K := K) hx n (y + 1) f _ (hW.set33 (upd (s 33) (x * 10 + y) (wI (nxt wa wb G x y)))) (by omega) (by omega)
    rw [us_self] at g1
    rw [us_us] at g3
    refine ⟨g, fun k hk => ?_, fun y' h1 h2 => ?_, ?_⟩
    · rw [g1 k (by omega)]
      unfold upd; rw [if_neg (by omega)]
    · rcases Nat.lt_or_ge y y' with w | w
      · exact g2 y' (by omega) h2
      · have : y' = y := by omega
        subst this
        rw [g1 _ (by omega)]
        unfold upd; rw [if_pos rfl]
    · rw [F_X3_goBackAnHour_B10, if_pos e1]
      simp only [G_ko, G_gR, G_sa, k1, some_bind, hb, nm, e2, e3, ha, nr, nI_1]
      exact g3
theorem back_out (hB : Bd wa wb G B) (hB2 : 0 ≤ B ∧ B ≤ 300) : ∀ (n x f : Nat) (s : Nat → Nat → Int32), Wg s wa wb G → x + n = 10 → n < f → ∃ g : Nat → Int32, (∀ k, k < x * 10 → g k = s 33 k) ∧ (∀ x' y', x ≤ x' → x' < 10 → y' < 10 → g (x' * 10 + y') = wI (nxt wa wb G x' y')) ∧ F_X3_goBackAnHour_B2 30 f (nI x) (hp s l q P) = some (hp (us (us s 33 g) 34 (va_cpy g (s 34) 0 0 100)) l q P)
  | _, _, 0, _, _, _, hf => absurd hf (by omega)
  | 0, x, f + 1, s, _, hx, _ => by
    refine ⟨s 33, fun _ _ => rfl, fun x' y' h1 h2 => absurd h1 (by omega), ?_⟩
    rw [us_id, F_X3_goBackAnHour_B2, if_neg (show ¬ nI x < 10 from nI_nlt (b := 10) (by omega) (by omega))]
    simp only [G_gR, G_acp, some_bind]
  | n + 1, x, f + 1, s, hW, hx, hf => by
    have e1 : nI x < 10 := nI_lt (b := 10) (by omega) (by omega)
    obtain ⟨g, g1, g2, g3⟩ := back_in (l := l) (q := q) (P := P) hB hB2 (K := fun u1 hu => F_X3_goBackAnHour_B2 30 f u1 hu) (show x < 10 by omega) 10 0 200 s hW rfl (by omega)
    obtain ⟨g', k1, k2, k3⟩ := back_out hB hB2 n (x + 1) f _ (hW.set33 g) (by omega) (by omega)
    rw [us_self] at k1
    rw [us_us] at k3
    have e4 : us s 33 g 34 = s 34 := rfl
    rw [e4] at k3
    refine ⟨g', fun k hk => ?_, fun x' y' h1 h2 h3 => ?_, ?_⟩
    · rw [k1 k (by omega), g1 k (by omega)]
    · rcases Nat.lt_or_ge x x' with w | w
      · exact k2 x' y' (by omega) h2 h3
      · have : x' = x := by omega
        subst this
        rw [k1 _ (by omega)]
        exact g2 y' (by omega) h3
    · rw [F_X3_goBackAnHour_B2, if_pos e1]
      exact g3.trans k3
theorem back_ok (hB : Bd wa wb G B) (hB2 : 0 ≤ B ∧ B ≤ 300) (hW : Wg s wa wb G) : ∃ g g2 : Nat → Int32, F_X3_goBackAnHour 30 (hp s l q P) = some (hp (us (us s 33 g) 34 g2) l q P) ∧ ∀ x y, x < 10 → y < 10 → g2 (x * 10 + y) = wI (nxt wa wb G x y) := by
  obtain ⟨g, _, h2, h3⟩ := back_out (l := l) (q := q) (P := P) hB hB2 10 0 200 s hW rfl (by omega)
  refine ⟨g, _, h3, fun x y hx hy => ?_⟩
  unfold va_cpy
  rw [if_pos (by omega), ← h2 x y (by omega) hx hy]
  congr 1
  omega
end GA
