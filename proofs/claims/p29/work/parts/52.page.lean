/-! THE PAGE: the first letter that no COURT has there -/
def fit (i ch : Nat) : Bool :=
  if i < 10 then decide (48 ≤ ch ∧ ch ≤ 57) else if i = 10 then decide (ch = 59) else if i < 30 then
    (if (i - 11) % 4 = 0 then decide (ch = 112 ∨ ch = 104 ∨ ch = 116 ∨ ch = 99 ∨ ch = 117) else if (i - 11) % 4 = 1 then decide (49 ≤ ch ∧ ch ≤ 57) else if (i - 11) % 4 = 2 then decide (48 ≤ ch ∧ ch ≤ 57) else decide (ch = 44))
  else false
def fwr (pg : Nat → Nat) : Nat → Nat → Nat
  | 0, i => i
  | m + 1, i => if fit i (pg i) = true then fwr pg m (i + 1) else i
def kb (ch : Nat) : Nat := if ch = 104 then 1 else if ch = 116 then 2 else if ch = 99 then 3 else if ch = 117 then 4 else 0
theorem kb_lt (ch : Nat) : kb ch < 5 := by
  unfold kb
  repeat' split
  all_goals omega
def pa (pg : Nat → Nat) (n i : Nat) : Nat := if i < n then pg i else 0
theorem pa_lt {pg : Nat → Nat} (h : ∀ i, pg i < 127) (n i : Nat) : pa pg n i < 127 := by
  unfold pa; split
  · exact h i
  · omega
theorem fit_0 : ∀ i, i < 31 → fit i 0 = false := by decide +kernel
theorem fit_30 (ch : Nat) {i : Nat} (h : 30 ≤ i) : fit i ch = false := by
  unfold fit
  rw [if_neg (by omega), if_neg (by omega), if_neg (by omega)]
theorem fwr_pa (pg : Nat → Nat) (n : Nat) : ∀ m i, i + m = n → i ≤ 30 → fwr (pa pg n) (31 - i) i = fwr pg m i
  | 0, i, h, h2 => by
    have e : 31 - i = (30 - i) + 1 := by omega
    rw [e, fwr, fwr, pa, if_neg (show ¬ i < n by omega), fit_0 i (by omega)]
    rfl
  | m + 1, i, h, h2 => by
    have e : 31 - i = (30 - i) + 1 := by omega
    rw [e, fwr, fwr, pa, if_pos (show i < n by omega)]
    cases g : fit i (pg i) with
    | false => rfl
    | true =>
      have h30 : i < 30 := by
        rcases Nat.lt_or_ge i 30 with w | w
        · exact w
        · rw [fit_30 _ w] at g; cases g
      have ih := fwr_pa pg n m (i + 1) (by omega) (by omega)
      rw [show 31 - (i + 1) = 30 - i by omega] at ih
      simp only [reduceIte]
      exact ih
theorem fwr_le (pg : Nat → Nat) : ∀ m i, fwr pg m i ≤ i + m ∧ i ≤ fwr pg m i
  | 0, i => ⟨Nat.le_refl _, Nat.le_refl _⟩
  | m + 1, i => by
    have ih := fwr_le pg m (i + 1)
    unfold fwr; split
    · omega
    · omega
theorem fwr_all (pg : Nat → Nat) : ∀ m i, fwr pg m i = i + m → ∀ j, i ≤ j → j < i + m → fit j (pg j) = true
  | 0, i, _, j, h1, h2 => absurd h1 (by omega)
  | m + 1, i, h, j, h1, h2 => by
    unfold fwr at h
    cases g : fit i (pg i) with
    | false => rw [g] at h; simp at h
    | true =>
      rw [g] at h
      simp only [reduceIte] at h
      rcases Nat.lt_or_ge i j with w | w
      · exact fwr_all pg m (i + 1) (by omega) j (by omega) (by omega)
      · have : j = i := by omega
        rw [this]; exact g
/-- the page is a court -/
def isC (pg : Nat → Nat) (n : Nat) : Bool := decide (fwr pg n 0 = n ∧ 18 ≤ n ∧ n % 4 = 2)
section PG
variable {s s' : Nat → Nat → Int32} {l l' : Nat → Nat → Int64} {q : Nat → Nat → Option Nat} {P : List Nat} {pg : Nat → Nat} {n : Nat}
set_option maxRecDepth 100000 in
theorem fits_all : ∀ i, i < 34 → ∀ ch, ch < 127 → (if nI i < 10 then (F_X11_within (nI ch) 48 57).bind fun v7 => rz v7 else if nI i = 10 then (if nI ch = 59 then some 1 else some 0) else if nI i < 30 then dz 4 (nm ((nI i - 11) - (nI i - 11) / 4 * 4) fun v3 => if v3 = 0 then (F_J0_indexOf_0f7a4 (nI ch)).bind fun v4 => (if v4 < 0 then some 0 else some 1) else if v3 = 1 then (F_X11_within (nI ch) 49 57).bind fun v5 => rz v5 else if v3 = 2 then (F_X11_within (nI ch) 48 57).bind fun v6 => rz v6 else if nI ch = 44 then some 1 else some 0) else some 0) = some (b2 (fit i ch)) := by decide +kernel
theorem fits_ok (h5 : ∀ i, s 5 i = nI (pg i)) (hp1 : ∀ i, pg i < 127) {i : Nat} (hi : i < 34) : F_X6_fits 4 (nI i) (hp s l q P) = some (b2 (fit i (pg i))) := by
  unfold F_X6_fits
  simp only [G_gR, G_ga, hi, sbd, h5 i]
  exact fits_all i hi (pg i) (hp1 i)
theorem fw_loop (h4 : s 4 1 = nI n) (h5 : ∀ i, s 5 i = nI (pg i)) (hp1 : ∀ i, pg i < 127) (hn : n ≤ 34) : ∀ (m i f : Nat), i + m = n → m < f → F_X6_firstWrong_B2 4 (hp s l q P) f (nI i) = some (nI (fwr pg m i))
  | _, _, 0, _, hf => absurd hf (by omega)
  | 0, i, f + 1, hi, _ => by
    rw [F_X6_firstWrong_B2, fwr]
    simp only [G_gI, sbd, h4, if_neg (show ¬ nI i < nI n from nI_nlt (by omega) (by omega))]
  | m + 1, i, f + 1, hi, hf => by
    have ih := fw_loop h4 h5 hp1 hn m (i + 1) f (by omega) (by omega)
    have hz := fits_ok (l := l) (q := q) (P := P) h5 hp1 (show i < 34 by omega)
    rw [F_X6_firstWrong_B2, fwr]
    simp only [G_gI, G_ko, sbd, h4, if_pos (show nI i < nI n from nI_lt (by omega) (by omega)), hz]
    cases fit i (pg i) with
    | false => rw [b2_f, if_pos rfl]; rfl
    | true => rw [b2_t, if_neg (by decide), nI_1, ih]; rfl
theorem fw_ok (h4 : s 4 1 = nI n) (h5 : ∀ i, s 5 i = nI (pg i)) (hp1 : ∀ i, pg i < 127) (hn : n ≤ 34) : F_X6_firstWrong 4 (hp s l q P) = some (nI (fwr pg n 0)) :=
  fw_loop h4 h5 hp1 hn n 0 200 (by omega) (by omega)
theorem whole_p : ∀ n, n < 35 → (dz 4 (if (((nI n + 1) - 11) - ((nI n + 1) - 11) / 4 * 4) = 0 then some 1 else some 0) : Option Int32) = some (b2 (decide (n % 4 = 2 ∧ 10 ≤ n ∨ n = 6 ∨ n = 2))) := by decide +kernel
theorem court_c (h4 : s 4 1 = nI n) (h5 : ∀ i, s 5 i = nI (pg i)) (hp1 : ∀ i, pg i < 127) (hn : n ≤ 34) : F_X6_isCourt 4 (hp s l q P) = some (b2 (isC pg n)) := by
  have hw := fw_ok (l := l) (q := q) (P := P) h4 h5 hp1 hn
  have hh : F_X6_hasWholeParties 4 (hp s l q P) = some (b2 (decide (n % 4 = 2 ∧ 10 ≤ n ∨ n = 6 ∨ n = 2))) := by
    unfold F_X6_hasWholeParties
    simp only [G_gI, sbd, h4]
    exact whole_p n (by omega)
  have hfl := fwr_le pg n 0
  unfold F_X6_isCourt isC
  simp only [G_gI, G_ko, sbd, h4, hh, hw]
  rcases Nat.lt_or_ge n 18 with g | g
  · rw [if_pos (show nI n < 18 from nI_lt (b := 18) g (by omega)), decide_eq_false (by omega)]; rfl
  · rw [if_neg (show ¬ nI n < 18 from nI_nlt (b := 18) g (by omega))]
    by_cases g2 : n % 4 = 2
    · rw [decide_eq_true (show n % 4 = 2 ∧ 10 ≤ n ∨ n = 6 ∨ n = 2 by omega), b2_t, if_neg (by decide)]
      by_cases g3 : fwr pg n 0 = n
      · rw [if_pos (by rw [g3]), decide_eq_true (by omega)]; rfl
      · rw [if_neg, decide_eq_false (by omega)]
        · rfl
        · rw [nI_eq (by omega) (by omega)]; exact g3
    · rw [decide_eq_false (show ¬ (n % 4 = 2 ∧ 10 ≤ n ∨ n = 6 ∨ n = 2) by omega), b2_f, if_pos rfl, decide_eq_false (by omega)]; rfl
/-! the reference reads -/
theorem m1_kb : ∀ k, k < 5 → ¬ nI k = -1 := by decide
theorem fwr_s (f : Nat → Nat) (m i : Nat) : fwr f (m + 1) i = if fit i (f i) = true then fwr f m (i + 1) else i := rfl
theorem fit_k {j c : Nat} (hj : j < 5) : fit (11 + 4 * j) c = decide (c = 112 ∨ c = 104 ∨ c = 116 ∨ c = 99 ∨ c = 117) ∧ fit (12 + 4 * j) c = decide (49 ≤ c ∧ c ≤ 57) ∧ fit (13 + 4 * j) c = decide (48 ≤ c ∧ c ≤ 57) := by
  refine ⟨?_, ?_, ?_⟩
  · unfold fit
    rw [if_neg (by omega), if_neg (by omega), if_pos (by omega), if_pos (by omega)]
  · unfold fit
    rw [if_neg (by omega), if_neg (by omega), if_pos (by omega), if_neg (by omega), if_pos (by omega)]
  · unfold fit
    rw [if_neg (by omega), if_neg (by omega), if_pos (by omega), if_neg (by omega), if_neg (by omega), if_pos (by omega)]
theorem fit_c {j c : Nat} (hj : j < 4) : fit (14 + 4 * j) c = decide (c = 44) := by
  unfold fit
  rw [if_neg (by omega), if_neg (by omega), if_pos (by omega), if_neg (by omega), if_neg (by omega), if_neg (by omega)]
end PG
/-! THE PAGE: what the reference reads -/
theorem fwr_add (f : Nat → Nat) (k : Nat) : ∀ m i, fwr f (m + k) i = if fwr f m i = i + m then fwr f k (i + m) else fwr f m i
  | 0, i => by
    rw [Nat.zero_add]
    exact (if_pos (show fwr f 0 i = i + 0 from rfl)).symm
  | m + 1, i => by
    have ih := fwr_add f k m (i + 1)
    rw [show m + 1 + k = (m + k) + 1 by omega, fwr_s, fwr_s]
    cases fit i (f i) with
    | false =>
      simp only [Bool.false_eq_true, reduceIte]
      rw [if_neg (by omega)]
    | true =>
      simp only [reduceIte]
      rw [ih, show i + 1 + m = i + (m + 1) by omega]
def Rs (s' : Nat → Nat → Int32) (n W : Nat) : Prop := s' 39 18 = b2 (decide (W = n ∧ 18 ≤ n ∧ n % 4 = 2)) ∧ (W = n ∧ 18 ≤ n ∧ n % 4 = 2 → s' 39 19 = nI ((n - 10) / 4))
theorem rz_n {y : Nat} (h : y < 2) : rz (nI y) = some (nI y) := by
  rcases (by omega : y = 0 ∨ y = 1) with rfl | rfl <;> rfl
section PH
variable {l : Nat → Nat → Int64} {q : Nat → Nat → Option Nat} {P : List Nat} {pg : Nat → Nat} {n : Nat}
theorem em_us2 (s : Nat → Nat → Int32) (v w : Int32) : us (us s 39 (upd (s 39) 19 v)) 39 (upd (us s 39 (upd (s 39) 19 v) 39) 18 w) = us s 39 (upd (upd (s 39) 19 v) 18 w) := by rw [us_us, us_self]
theorem fit_d {i c : Nat} (hi : i < 10) : fit i c = decide (48 ≤ c ∧ c ≤ 57) := by
  unfold fit; rw [if_pos hi]
theorem fit_10 (c : Nat) : fit 10 c = decide (c = 59) := by
  unfold fit; rw [if_neg (by omega), if_pos rfl]
end PH
section PI
variable {M : Nat}
end PI
