/-! GAME: the class -/
def lg (x j o : Nat) : Bool := decide (1 ≤ x + j ∧ x + j ≤ 10 ∧ (j = 1 ∨ x + j ≠ o + 1))
def T3 (x j : Nat) : Nat := x + j - 1
theorem mayStand_ok : ∀ x : Nat, x < 10 → ∀ j : Nat, j < 3 → ∀ o : Nat, o < 10 → F_X3_mayStand (nI x) (wI ((x : Int) + j - 1)) (nI o) = some (if lg x j o = true then 1 else 0) := by decide +kernel
theorem mayStep_ok : ∀ x : Nat, x < 10 → ∀ j : Nat, j < 3 → ∀ o : Nat, o < 10 → F_X12_mayStep (nI x) (wI ((j : Int) - 1)) (nI o) = some (if lg x j o = true then 1 else 0) := by decide +kernel
theorem lg_T {x j o : Nat} (h : lg x j o = true) : T3 x j < 10 ∧ ((x : Int) + j - 1) = ((T3 x j : Nat) : Int) := by
  unfold lg at h
  have h := of_decide_eq_true h
  unfold T3
  omega
theorem lg_1 {x : Nat} (o : Nat) (h : x < 10) : lg x 1 o = true := by
  unfold lg
  apply decide_eq_true
  omega
theorem T3_1 (x : Nat) : T3 x 1 = x := rfl
def mn (a b : Int) : Int := if a < b then a else b
def anS (g : Nat → Nat → Int) (x y j : Nat) (M : Int) : Int := if lg y j x = true then mn (g x (T3 y j)) M else M
def an (g : Nat → Nat → Int) (x y : Nat) (M : Int) : Int := anS g x y 2 (anS g x y 1 (anS g x y 0 M))
theorem mn_is {a b : Int} (h : a < b) : mn a b = a := by unfold mn; rw [if_pos h]
theorem mn_le {a b c : Int} (h1 : c ≤ a) (h2 : c ≤ b) : c ≤ mn a b := by unfold mn; split <;> omega
theorem mn_l (a b : Int) : mn a b ≤ a := by unfold mn; split <;> omega
theorem mn_r (a b : Int) : mn a b ≤ b := by unfold mn; split <;> omega
theorem anS_r (g : Nat → Nat → Int) (x y j : Nat) (M : Int) : anS g x y j M ≤ M := by
  unfold anS; split
  · exact mn_r _ _
  · exact Int.le_refl _
theorem anS_lo {g : Nat → Nat → Int} {x y j : Nat} {M L : Int} (hL : L ≤ M) (hg : ∀ t, t < 10 → L ≤ g x t) : L ≤ anS g x y j M := by
  unfold anS; split
  next h => exact mn_le (hg _ (lg_T h).1) hL
  · exact hL
theorem an_lo {g : Nat → Nat → Int} {x y : Nat} {M L : Int} (hL : L ≤ M) (hg : ∀ t, t < 10 → L ≤ g x t) : L ≤ an g x y M :=
  anS_lo (anS_lo (anS_lo hL hg) hg) hg
theorem an_hi {g : Nat → Nat → Int} {x y : Nat} {M : Int} (hy : y < 10) : an g x y M ≤ g x y := by
  refine Int.le_trans (anS_r _ _ _ _ _) ?_
  unfold anS
  rw [if_pos (lg_1 x hy)]
  exact mn_l _ _
theorem an_far {g : Nat → Nat → Int} {x y : Nat} {M N : Int} (hy : y < 10) (hM : ∀ t, t < 10 → g x t < M) (hN : ∀ t, t < 10 → g x t < N) : an g x y M = an g x y N := by
  unfold an
  congr 1
  unfold anS
  have hl1 := lg_1 x hy
  simp only [hl1, reduceIte]
  have a1 := hM y hy
  have a2 := hN y hy
  rw [T3_1]
  cases e : lg y 0 x with
  | true =>
    have b1 := hM _ (lg_T e).1
    have b2 := hN _ (lg_T e).1
    simp only [reduceIte]
    rw [mn_is b1, mn_is b2]
  | false =>
    simp only [Bool.false_eq_true, reduceIte]
    rw [mn_is a1, mn_is a2]
def bsS (A : Nat → Int) (x y j : Nat) (q : Nat × Int) : Nat × Int := if lg x j y = true then (if A (T3 x j) ≤ q.2 then q else (j, A (T3 x j))) else q
def bst (A : Nat → Int) (x y : Nat) (M : Int) : Nat × Int := bsS A x y 2 (bsS A x y 1 (bsS A x y 0 (1, M)))
/-- the best: legal, attained, not attained before, and no other above it -/
theorem bst_ok {A : Nat → Int} {x y : Nat} {M : Int} (hx : x < 10) (hM : ∀ t, t < 10 → M < A t) :
    (bst A x y M).1 < 3 ∧ lg x (bst A x y M).1 y = true ∧ A (T3 x (bst A x y M).1) = (bst A x y M).2 ∧ (∀ j, j < (bst A x y M).1 → lg x j y = true → A (T3 x j) < (bst A x y M).2) ∧ (∀ j, j < 3 → lg x j y = true → A (T3 x j) ≤ (bst A x y M).2) := by
  have h1 := lg_1 y hx
  have b1 := hM _ (lg_T h1).1
  unfold bst bsS
  rw [h1]
  cases e0 : lg x 0 y <;> cases e2 : lg x 2 y
  all_goals simp only [Bool.false_eq_true, reduceIte]
  · rw [if_neg (by omega)]
    refine ⟨by omega, h1, rfl, fun j hj hl => ?_, fun j hj hl => ?_⟩
    · have : j = 0 := by omega
      subst this; rw [e0] at hl; cases hl
    · rcases (by omega : j = 0 ∨ j = 1 ∨ j = 2) with rfl | rfl | rfl
      · rw [e0] at hl; cases hl
      · exact Int.le_refl _
      · rw [e2] at hl; cases hl
  · rw [if_neg (show ¬ A (T3 x 1) ≤ M by omega)]
    have b2 := hM _ (lg_T e2).1
    split
    next g =>
      refine ⟨by omega, h1, rfl, fun j hj hl => ?_, fun j hj hl => ?_⟩
      · have hj : j < 1 := hj
        have : j = 0 := by omega
        subst this; rw [e0] at hl; cases hl
      · rcases (by omega : j = 0 ∨ j = 1 ∨ j = 2) with rfl | rfl | rfl
        · rw [e0] at hl; cases hl
        · exact Int.le_refl _
        · exact g
    next g =>
      have g' : ¬ A (T3 x 2) ≤ A (T3 x 1) := g
      refine ⟨by omega, e2, rfl, fun j hj hl => ?_, fun j hj hl => ?_⟩
      · have hj : j < 2 := hj
        rcases (by omega : j = 0 ∨ j = 1) with rfl | rfl
        · rw [e0] at hl; cases hl
        · show A (T3 x 1) < A (T3 x 2); omega
      · rcases (by omega : j = 0 ∨ j = 1 ∨ j = 2) with rfl | rfl | rfl
        · rw [e0] at hl; cases hl
        · show A (T3 x 1) ≤ A (T3 x 2); omega
        · exact Int.le_refl _
  · have b0 := hM _ (lg_T e0).1
    rw [if_neg (show ¬ A (T3 x 0) ≤ M by omega)]
    split
    next g =>
      have g' : A (T3 x 1) ≤ A (T3 x 0) := g
      refine ⟨by omega, e0, rfl, fun j hj hl => ?_, fun j hj hl => ?_⟩
      · have hj : j < 0 := hj
        omega
      · rcases (by omega : j = 0 ∨ j = 1 ∨ j = 2) with rfl | rfl | rfl
        · exact Int.le_refl _
        · exact g
        · rw [e2] at hl; cases hl
    next g =>
      have g' : ¬ A (T3 x 1) ≤ A (T3 x 0) := g
      refine ⟨by omega, h1, rfl, fun j hj hl => ?_, fun j hj hl => ?_⟩
      · have hj : j < 1 := hj
        have : j = 0 := by omega
        subst this; show A (T3 x 0) < A (T3 x 1); omega
      · rcases (by omega : j = 0 ∨ j = 1 ∨ j = 2) with rfl | rfl | rfl
        · show A (T3 x 0) ≤ A (T3 x 1); omega
        · exact Int.le_refl _
        · rw [e2] at hl; cases hl
  · have b0 := hM _ (lg_T e0).1
    have b2 := hM _ (lg_T e2).1
    rw [if_neg (show ¬ A (T3 x 0) ≤ M by omega)]
    by_cases g : A (T3 x 1) ≤ A (T3 x 0)
    · rw [if_pos g]
      by_cases g2 : A (T3 x 2) ≤ A (T3 x 0)
      · rw [if_pos g2]
        refine ⟨by omega, e0, rfl, fun j hj hl => ?_, fun j hj hl => ?_⟩
        · have hj : j < 0 := hj
          omega
        · rcases (by omega : j = 0 ∨ j = 1 ∨ j = 2) with rfl | rfl | rfl
          · exact Int.le_refl _
          · exact g
          · exact g2
      · rw [if_neg g2]
        refine ⟨by omega, e2, rfl, fun j hj hl => ?_, fun j hj hl => ?_⟩
        · have hj : j < 2 := hj
          rcases (by omega : j = 0 ∨ j = 1) with rfl | rfl
          · show A (T3 x 0) < A (T3 x 2); omega
          · show A (T3 x 1) < A (T3 x 2); omega
        · rcases (by omega : j = 0 ∨ j = 1 ∨ j = 2) with rfl | rfl | rfl
          · show A (T3 x 0) ≤ A (T3 x 2); omega
          · show A (T3 x 1) ≤ A (T3 x 2); omega
          · exact Int.le_refl _
    · rw [if_neg g]
      by_cases g2 : A (T3 x 2) ≤ A (T3 x 1)
      · rw [if_pos g2]
        refine ⟨by omega, h1, rfl, fun j hj hl => ?_, fun j hj hl => ?_⟩
        · have hj : j < 1 := hj
          have : j = 0 := by omega
          subst this; show A (T3 x 0) < A (T3 x 1); omega
        · rcases (by omega : j = 0 ∨ j = 1 ∨ j = 2) with rfl | rfl | rfl
          · show A (T3 x 0) ≤ A (T3 x 1); omega
          · exact Int.le_refl _
          · exact g2
      · rw [if_neg g2]
        refine ⟨by omega, e2, rfl, fun j hj hl => ?_, fun j hj hl => ?_⟩
        · have hj : j < 2 := hj
          rcases (by omega : j = 0 ∨ j = 1) with rfl | rfl
          · show A (T3 x 0) < A (T3 x 2); omega
          · show A (T3 x 1) < A (T3 x 2); omega
        · rcases (by omega : j = 0 ∨ j = 1 ∨ j = 2) with rfl | rfl | rfl
          · show A (T3 x 0) ≤ A (T3 x 2); omega
          · show A (T3 x 1) ≤ A (T3 x 2); omega
          · exact Int.le_refl _
theorem bst_far {A : Nat → Int} {x y : Nat} {M N : Int} (hx : x < 10) (hM : ∀ t, t < 10 → M < A t) (hN : ∀ t, t < 10 → N < A t) : bst A x y M = bst A x y N := by
  have h1 := lg_1 y hx
  have b1 := hM _ (lg_T h1).1
  have c1 := hN _ (lg_T h1).1
  unfold bst
  congr 1
  unfold bsS
  rw [h1]
  cases e0 : lg x 0 y with
  | false =>
    simp only [Bool.false_eq_true, reduceIte]
    rw [if_neg (show ¬ A (T3 x 1) ≤ M by omega), if_neg (show ¬ A (T3 x 1) ≤ N by omega)]
  | true =>
    have b0 := hM _ (lg_T e0).1
    have c0 := hN _ (lg_T e0).1
    simp only [reduceIte]
    rw [if_neg (show ¬ A (T3 x 0) ≤ M by omega), if_neg (show ¬ A (T3 x 0) ≤ N by omega)]
def val (wa wb : Nat → Nat) (G : Nat → Nat → Int) (x y : Nat) : Int := (wa x : Int) - wb y + G x y
/-- what the tables of the class hold -/
def Wg (s : Nat → Nat → Int32) (wa wb : Nat → Nat) (G : Nat → Nat → Int) : Prop := (∀ x, x < 10 → s 31 x = nI (wa x)) ∧ (∀ x, x < 10 → s 32 x = nI (wb x)) ∧ (∀ x y, x < 10 → y < 10 → s 34 (x * 10 + y) = wI (G x y))
def Bd (wa wb : Nat → Nat) (G : Nat → Nat → Int) (B : Int) : Prop := (∀ x, x < 10 → wa x ≤ 90) ∧ (∀ x, x < 10 → wb x ≤ 90) ∧ (∀ x y, x < 10 → y < 10 → -B ≤ G x y ∧ G x y ≤ B)
theorem Bd.vl {wa wb : Nat → Nat} {G : Nat → Nat → Int} {B : Int} (h : Bd wa wb G B) {x y : Nat} (hx : x < 10) (hy : y < 10) : -(B + 90) ≤ val wa wb G x y ∧ val wa wb G x y ≤ B + 90 := by
  have h1 := h.1 x hx
  have h2 := h.2.1 y hy
  have h3 := h.2.2 x y hx hy
  unfold val
  omega
