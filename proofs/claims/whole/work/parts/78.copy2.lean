/-! IMAGE, RESTORE: the reference's loops (made by wip/whole/tools/gencopy2.py) -/
section CX
variable {l : Nat → Nat → Int64} {q : Nat → Nat → Option Nat} {P : List Nat}
theorem im55 : ∀ (k i f : Nat) (s : Nat → Nat → Int32), i + k = 10 → k < f → ∃ s' : Nat → Nat → Int32, (∀ a, a ≠ 55 → s' a = s a) ∧ (∀ j, s' 55 j = if i ≤ j ∧ j < 10 then s 40 j else s 55 j) ∧ F_X12_image_B57 39 f (nI i) (hp s l q P) = F_X12_image_B83 39 200 0 (hp s' l q P)
  | _, _, 0, _, _, hf => absurd hf (by omega)
  | 0, i, f + 1, s, hi, _ => by
    refine ⟨s, fun a _ => rfl, fun j => by rw [if_neg (by omega)], ?_⟩
    rw [F_X12_image_B57, if_neg (show ¬ nI i < 10 from nI_nlt (b := 10) (by omega) (by omega))]
  | k + 1, i, f + 1, s, hi, hf => by
    have iN : i < 10 := by omega
    obtain ⟨s', a0, a1, az⟩ := im55 k (i + 1) f (us s 55 (upd (s 55) i (s 40 i))) (by omega) (by omega)
    refine ⟨s', fun a h55 => ?_, fun j => ?_, ?_⟩
    · rw [a0 a h55, us_ne _ _ h55]
    · rw [a1 j]
      show (if i + 1 ≤ j ∧ j < 10 then s 40 j else upd (s 55) i (s 40 i) j) = _
      by_cases w : j = i
      · subst w
        rw [if_neg (by omega), if_pos (by omega), upd_s]
      · by_cases w2 : i + 1 ≤ j ∧ j < 10
        · rw [if_pos w2, if_pos (by omega)]
        · rw [if_neg w2, if_neg (by omega), upd_n _ w]
    rw [F_X12_image_B57, if_pos (show nI i < 10 from nI_lt (b := 10) (by omega) (by omega))]
    simp only [G_gR, G_ga, G_sa, iN, sbd, nr, nI_1]
    exact az
theorem im56 : ∀ (k i f : Nat) (s : Nat → Nat → Int32), i + k = 5 → k < f → ∃ s' : Nat → Nat → Int32, (∀ a, a ≠ 56 → a ≠ 57 → a ≠ 58 → a ≠ 59 → s' a = s a) ∧ (∀ j, s' 56 j = if i ≤ j ∧ j < 5 then s 42 j else s 56 j) ∧ (∀ j, s' 57 j = if i ≤ j ∧ j < 5 then s 43 j else s 57 j) ∧ (∀ j, s' 58 j = if i ≤ j ∧ j < 5 then s 44 j else s 58 j) ∧ (∀ j, s' 59 j = if i ≤ j ∧ j < 5 then s 45 j else s 59 j) ∧ F_X12_image_B83 39 f (nI i) (hp s l q P) = F_X12_image_B144 39 200 0 (hp s' l q P)
  | _, _, 0, _, _, hf => absurd hf (by omega)
  | 0, i, f + 1, s, hi, _ => by
    refine ⟨s, fun a _ _ _ _ => rfl, fun j => by rw [if_neg (by omega)], fun j => by rw [if_neg (by omega)], fun j => by rw [if_neg (by omega)], fun j => by rw [if_neg (by omega)], ?_⟩
    rw [F_X12_image_B83, if_neg (show ¬ nI i < 5 from nI_nlt (b := 5) (by omega) (by omega))]
  | k + 1, i, f + 1, s, hi, hf => by
    have iN : i < 5 := by omega
    obtain ⟨s', a0, a1, a2, a3, a4, az⟩ := im56 k (i + 1) f (us (us (us (us s 56 (upd (s 56) i (s 42 i))) 57 (upd (s 57) i (s 43 i))) 58 (upd (s 58) i (s 44 i))) 59 (upd (s 59) i (s 45 i))) (by omega) (by omega)
    refine ⟨s', fun a h56 h57 h58 h59 => ?_, fun j => ?_, fun j => ?_, fun j => ?_, fun j => ?_, ?_⟩
    · rw [a0 a h56 h57 h58 h59, us_ne _ _ h59, us_ne _ _ h58, us_ne _ _ h57, us_ne _ _ h56]
    · rw [a1 j]
      show (if i + 1 ≤ j ∧ j < 5 then s 42 j else upd (s 56) i (s 42 i) j) = _
      by_cases w : j = i
      · subst w
        rw [if_neg (by omega), if_pos (by omega), upd_s]
      · by_cases w2 : i + 1 ≤ j ∧ j < 5
        · rw [if_pos w2, if_pos (by omega)]
        · rw [if_neg w2, if_neg (by omega), upd_n _ w]
    · rw [a2 j]
      show (if i + 1 ≤ j ∧ j < 5 then s 43 j else upd (s 57) i (s 43 i) j) = _
      by_cases w : j = i
      · subst w
        rw [if_neg (by omega), if_pos (by omega), upd_s]
      · by_cases w2 : i + 1 ≤ j ∧ j < 5
        · rw [if_pos w2, if_pos (by omega)]
        · rw [if_neg w2, if_neg (by omega), upd_n _ w]
    · rw [a3 j]
      show (if i + 1 ≤ j ∧ j < 5 then s 44 j else upd (s 58) i (s 44 i) j) = _
      by_cases w : j = i
      · subst w
        rw [if_neg (by omega), if_pos (by omega), upd_s]
      · by_cases w2 : i + 1 ≤ j ∧ j < 5
        · rw [if_pos w2, if_pos (by omega)]
        · rw [if_neg w2, if_neg (by omega), upd_n _ w]
    · rw [a4 j]
      show (if i + 1 ≤ j ∧ j < 5 then s 45 j else upd (s 59) i (s 45 i) j) = _
      by_cases w : j = i
      · subst w
        rw [if_neg (by omega), if_pos (by omega), upd_s]
      · by_cases w2 : i + 1 ≤ j ∧ j < 5
        · rw [if_pos w2, if_pos (by omega)]
        · rw [if_neg w2, if_neg (by omega), upd_n _ w]
    have t1 : ∀ f0 : Nat → Int32, (us s 56 f0) 43 i = s 43 i := fun _ => rfl
    have u1 : ∀ f0 : Nat → Int32, (us s 56 f0) 57 = s 57 := fun _ => rfl
    have t2 : ∀ f0 f1 : Nat → Int32, (us (us s 56 f0) 57 f1) 44 i = s 44 i := fun _ _ => rfl
    have u2 : ∀ f0 f1 : Nat → Int32, (us (us s 56 f0) 57 f1) 58 = s 58 := fun _ _ => rfl
    have t3 : ∀ f0 f1 f2 : Nat → Int32, (us (us (us s 56 f0) 57 f1) 58 f2) 45 i = s 45 i := fun _ _ _ => rfl
    have u3 : ∀ f0 f1 f2 : Nat → Int32, (us (us (us s 56 f0) 57 f1) 58 f2) 59 = s 59 := fun _ _ _ => rfl
    rw [F_X12_image_B83, if_pos (show nI i < 5 from nI_lt (b := 5) (by omega) (by omega))]
    simp only [G_gR, G_ga, G_sa, iN, sbd, nr, nI_1, t1, u1, t2, u2, t3, u3]
    exact az
theorem im60 : ∀ (k i f : Nat) (s : Nat → Nat → Int32), i + k = 8 → k < f → ∃ s' : Nat → Nat → Int32, (∀ a, a ≠ 60 → a ≠ 61 → a ≠ 62 → a ≠ 63 → s' a = s a) ∧ (∀ j, s' 60 j = if i ≤ j ∧ j < 8 then s 46 j else s 60 j) ∧ (∀ j, s' 61 j = if i ≤ j ∧ j < 8 then s 47 j else s 61 j) ∧ (∀ j, s' 62 j = if i ≤ j ∧ j < 8 then s 48 j else s 62 j) ∧ (∀ j, s' 63 j = if i ≤ j ∧ j < 8 then s 49 j else s 63 j) ∧ F_X12_image_B144 39 f (nI i) (hp s l q P) = some (13 * s 39 7 + s 39 6, hp s' l q P)
  | _, _, 0, _, _, hf => absurd hf (by omega)
  | 0, i, f + 1, s, hi, _ => by
    refine ⟨s, fun a _ _ _ _ => rfl, fun j => by rw [if_neg (by omega)], fun j => by rw [if_neg (by omega)], fun j => by rw [if_neg (by omega)], fun j => by rw [if_neg (by omega)], ?_⟩
    rw [F_X12_image_B144, if_neg (show ¬ nI i < 8 from nI_nlt (b := 8) (by omega) (by omega))]
    simp only [G_gI, sbd]
  | k + 1, i, f + 1, s, hi, hf => by
    have iN : i < 8 := by omega
    obtain ⟨s', a0, a1, a2, a3, a4, az⟩ := im60 k (i + 1) f (us (us (us (us s 60 (upd (s 60) i (s 46 i))) 61 (upd (s 61) i (s 47 i))) 62 (upd (s 62) i (s 48 i))) 63 (upd (s 63) i (s 49 i))) (by omega) (by omega)
    refine ⟨s', fun a h60 h61 h62 h63 => ?_, fun j => ?_, fun j => ?_, fun j => ?_, fun j => ?_, ?_⟩
    · rw [a0 a h60 h61 h62 h63, us_ne _ _ h63, us_ne _ _ h62, us_ne _ _ h61, us_ne _ _ h60]
    · rw [a1 j]
      show (if i + 1 ≤ j ∧ j < 8 then s 46 j else upd (s 60) i (s 46 i) j) = _
      by_cases w : j = i
      · subst w
        rw [if_neg (by omega), if_pos (by omega), upd_s]
      · by_cases w2 : i + 1 ≤ j ∧ j < 8
        · rw [if_pos w2, if_pos (by omega)]
        · rw [if_neg w2, if_neg (by omega), upd_n _ w]
    · rw [a2 j]
      show (if i + 1 ≤ j ∧ j < 8 then s 47 j else upd (s 61) i (s 47 i) j) = _
      by_cases w : j = i
      · subst w
        rw [if_neg (by omega), if_pos (by omega), upd_s]
      · by_cases w2 : i + 1 ≤ j ∧ j < 8
        · rw [if_pos w2, if_pos (by omega)]
        · rw [if_neg w2, if_neg (by omega), upd_n _ w]
    · rw [a3 j]
      show (if i + 1 ≤ j ∧ j < 8 then s 48 j else upd (s 62) i (s 48 i) j) = _
      by_cases w : j = i
      · subst w
        rw [if_neg (by omega), if_pos (by omega), upd_s]
      · by_cases w2 : i + 1 ≤ j ∧ j < 8
        · rw [if_pos w2, if_pos (by omega)]
        · rw [if_neg w2, if_neg (by omega), upd_n _ w]
    · rw [a4 j]
      show (if i + 1 ≤ j ∧ j < 8 then s 49 j else upd (s 63) i (s 49 i) j) = _
      by_cases w : j = i
      · subst w
        rw [if_neg (by omega), if_pos (by omega), upd_s]
      · by_cases w2 : i + 1 ≤ j ∧ j < 8
        · rw [if_pos w2, if_pos (by omega)]
        · rw [if_neg w2, if_neg (by omega), upd_n _ w]
    have t1 : ∀ f0 : Nat → Int32, (us s 60 f0) 47 i = s 47 i := fun _ => rfl
    have u1 : ∀ f0 : Nat → Int32, (us s 60 f0) 61 = s 61 := fun _ => rfl
    have t2 : ∀ f0 f1 : Nat → Int32, (us (us s 60 f0) 61 f1) 48 i = s 48 i := fun _ _ => rfl
    have u2 : ∀ f0 f1 : Nat → Int32, (us (us s 60 f0) 61 f1) 62 = s 62 := fun _ _ => rfl
    have t3 : ∀ f0 f1 f2 : Nat → Int32, (us (us (us s 60 f0) 61 f1) 62 f2) 49 i = s 49 i := fun _ _ _ => rfl
    have u3 : ∀ f0 f1 f2 : Nat → Int32, (us (us (us s 60 f0) 61 f1) 62 f2) 63 = s 63 := fun _ _ _ => rfl
    rw [F_X12_image_B144, if_pos (show nI i < 8 from nI_lt (b := 8) (by omega) (by omega))]
    simp only [G_gR, G_ga, G_sa, iN, sbd, nr, nI_1, t1, u1, t2, u2, t3, u3]
    exact az
theorem re40 : ∀ (k i f : Nat) (s : Nat → Nat → Int32), i + k = 10 → k < f → ∃ s' : Nat → Nat → Int32, (∀ a, a ≠ 40 → s' a = s a) ∧ (∀ j, s' 40 j = if i ≤ j ∧ j < 10 then s 55 j else s 40 j) ∧ F_X12_restore_B55 39 f (nI i) (hp s l q P) = F_X12_restore_B81 39 200 0 (hp s' l q P)
  | _, _, 0, _, _, hf => absurd hf (by omega)
  | 0, i, f + 1, s, hi, _ => by
    refine ⟨s, fun a _ => rfl, fun j => by rw [if_neg (by omega)], ?_⟩
    rw [F_X12_restore_B55, if_neg (show ¬ nI i < 10 from nI_nlt (b := 10) (by omega) (by omega))]
  | k + 1, i, f + 1, s, hi, hf => by
    have iN : i < 10 := by omega
    obtain ⟨s', a0, a1, az⟩ := re40 k (i + 1) f (us s 40 (upd (s 40) i (s 55 i))) (by omega) (by omega)
    refine ⟨s', fun a h40 => ?_, fun j => ?_, ?_⟩
    · rw [a0 a h40, us_ne _ _ h40]
    · rw [a1 j]
      show (if i + 1 ≤ j ∧ j < 10 then s 55 j else upd (s 40) i (s 55 i) j) = _
      by_cases w : j = i
      · subst w
        rw [if_neg (by omega), if_pos (by omega), upd_s]
      · by_cases w2 : i + 1 ≤ j ∧ j < 10
        · rw [if_pos w2, if_pos (by omega)]
        · rw [if_neg w2, if_neg (by omega), upd_n _ w]
    rw [F_X12_restore_B55, if_pos (show nI i < 10 from nI_lt (b := 10) (by omega) (by omega))]
    simp only [G_gR, G_ga, G_sa, iN, sbd, nr, nI_1]
    exact az
theorem re42 : ∀ (k i f : Nat) (s : Nat → Nat → Int32), i + k = 5 → k < f → ∃ s' : Nat → Nat → Int32, (∀ a, a ≠ 42 → a ≠ 43 → a ≠ 44 → a ≠ 45 → s' a = s a) ∧ (∀ j, s' 42 j = if i ≤ j ∧ j < 5 then s 56 j else s 42 j) ∧ (∀ j, s' 43 j = if i ≤ j ∧ j < 5 then s 57 j else s 43 j) ∧ (∀ j, s' 44 j = if i ≤ j ∧ j < 5 then s 58 j else s 44 j) ∧ (∀ j, s' 45 j = if i ≤ j ∧ j < 5 then s 59 j else s 45 j) ∧ F_X12_restore_B81 39 f (nI i) (hp s l q P) = F_X12_restore_B142 39 200 0 (hp s' l q P)
  | _, _, 0, _, _, hf => absurd hf (by omega)
  | 0, i, f + 1, s, hi, _ => by
    refine ⟨s, fun a _ _ _ _ => rfl, fun j => by rw [if_neg (by omega)], fun j => by rw [if_neg (by omega)], fun j => by rw [if_neg (by omega)], fun j => by rw [if_neg (by omega)], ?_⟩
    rw [F_X12_restore_B81, if_neg (show ¬ nI i < 5 from nI_nlt (b := 5) (by omega) (by omega))]
  | k + 1, i, f + 1, s, hi, hf => by
    have iN : i < 5 := by omega
    obtain ⟨s', a0, a1, a2, a3, a4, az⟩ := re42 k (i + 1) f (us (us (us (us s 42 (upd (s 42) i (s 56 i))) 43 (upd (s 43) i (s 57 i))) 44 (upd (s 44) i (s 58 i))) 45 (upd (s 45) i (s 59 i))) (by omega) (by omega)
    refine ⟨s', fun a h42 h43 h44 h45 => ?_, fun j => ?_, fun j => ?_, fun j => ?_, fun j => ?_, ?_⟩
    · rw [a0 a h42 h43 h44 h45, us_ne _ _ h45, us_ne _ _ h44, us_ne _ _ h43, us_ne _ _ h42]
    · rw [a1 j]
      show (if i + 1 ≤ j ∧ j < 5 then s 56 j else upd (s 42) i (s 56 i) j) = _
      by_cases w : j = i
      · subst w
        rw [if_neg (by omega), if_pos (by omega), upd_s]
      · by_cases w2 : i + 1 ≤ j ∧ j < 5
        · rw [if_pos w2, if_pos (by omega)]
        · rw [if_neg w2, if_neg (by omega), upd_n _ w]
    · rw [a2 j]
      show (if i + 1 ≤ j ∧ j < 5 then s 57 j else upd (s 43) i (s 57 i) j) = _
      by_cases w : j = i
      · subst w
        rw [if_neg (by omega), if_pos (by omega), upd_s]
      · by_cases w2 : i + 1 ≤ j ∧ j < 5
        · rw [if_pos w2, if_pos (by omega)]
        · rw [if_neg w2, if_neg (by omega), upd_n _ w]
    · rw [a3 j]
      show (if i + 1 ≤ j ∧ j < 5 then s 58 j else upd (s 44) i (s 58 i) j) = _
      by_cases w : j = i
      · subst w
        rw [if_neg (by omega), if_pos (by omega), upd_s]
      · by_cases w2 : i + 1 ≤ j ∧ j < 5
        · rw [if_pos w2, if_pos (by omega)]
        · rw [if_neg w2, if_neg (by omega), upd_n _ w]
    · rw [a4 j]
      show (if i + 1 ≤ j ∧ j < 5 then s 59 j else upd (s 45) i (s 59 i) j) = _
      by_cases w : j = i
      · subst w
        rw [if_neg (by omega), if_pos (by omega), upd_s]
      · by_cases w2 : i + 1 ≤ j ∧ j < 5
        · rw [if_pos w2, if_pos (by omega)]
        · rw [if_neg w2, if_neg (by omega), upd_n _ w]
    have t1 : ∀ f0 : Nat → Int32, (us s 42 f0) 57 i = s 57 i := fun _ => rfl
    have u1 : ∀ f0 : Nat → Int32, (us s 42 f0) 43 = s 43 := fun _ => rfl
    have t2 : ∀ f0 f1 : Nat → Int32, (us (us s 42 f0) 43 f1) 58 i = s 58 i := fun _ _ => rfl
    have u2 : ∀ f0 f1 : Nat → Int32, (us (us s 42 f0) 43 f1) 44 = s 44 := fun _ _ => rfl
    have t3 : ∀ f0 f1 f2 : Nat → Int32, (us (us (us s 42 f0) 43 f1) 44 f2) 59 i = s 59 i := fun _ _ _ => rfl
    have u3 : ∀ f0 f1 f2 : Nat → Int32, (us (us (us s 42 f0) 43 f1) 44 f2) 45 = s 45 := fun _ _ _ => rfl
    rw [F_X12_restore_B81, if_pos (show nI i < 5 from nI_lt (b := 5) (by omega) (by omega))]
    simp only [G_gR, G_ga, G_sa, iN, sbd, nr, nI_1, t1, u1, t2, u2, t3, u3]
    exact az
theorem re46 : ∀ (k i f : Nat) (s : Nat → Nat → Int32), i + k = 8 → k < f → ∃ s' : Nat → Nat → Int32, (∀ a, a ≠ 46 → a ≠ 47 → a ≠ 48 → a ≠ 49 → s' a = s a) ∧ (∀ j, s' 46 j = if i ≤ j ∧ j < 8 then s 60 j else s 46 j) ∧ (∀ j, s' 47 j = if i ≤ j ∧ j < 8 then s 61 j else s 47 j) ∧ (∀ j, s' 48 j = if i ≤ j ∧ j < 8 then s 62 j else s 48 j) ∧ (∀ j, s' 49 j = if i ≤ j ∧ j < 8 then s 63 j else s 49 j) ∧ F_X12_restore_B142 39 f (nI i) (hp s l q P) = some (13 * s 39 7 + s 39 6, hp s' l q P)
  | _, _, 0, _, _, hf => absurd hf (by omega)
  | 0, i, f + 1, s, hi, _ => by
    refine ⟨s, fun a _ _ _ _ => rfl, fun j => by rw [if_neg (by omega)], fun j => by rw [if_neg (by omega)], fun j => by rw [if_neg (by omega)], fun j => by rw [if_neg (by omega)], ?_⟩
    rw [F_X12_restore_B142, if_neg (show ¬ nI i < 8 from nI_nlt (b := 8) (by omega) (by omega))]
    simp only [G_gI, sbd]
  | k + 1, i, f + 1, s, hi, hf => by
    have iN : i < 8 := by omega
    obtain ⟨s', a0, a1, a2, a3, a4, az⟩ := re46 k (i + 1) f (us (us (us (us s 46 (upd (s 46) i (s 60 i))) 47 (upd (s 47) i (s 61 i))) 48 (upd (s 48) i (s 62 i))) 49 (upd (s 49) i (s 63 i))) (by omega) (by omega)
    refine ⟨s', fun a h46 h47 h48 h49 => ?_, fun j => ?_, fun j => ?_, fun j => ?_, fun j => ?_, ?_⟩
    · rw [a0 a h46 h47 h48 h49, us_ne _ _ h49, us_ne _ _ h48, us_ne _ _ h47, us_ne _ _ h46]
    · rw [a1 j]
      show (if i + 1 ≤ j ∧ j < 8 then s 60 j else upd (s 46) i (s 60 i) j) = _
      by_cases w : j = i
      · subst w
        rw [if_neg (by omega), if_pos (by omega), upd_s]
      · by_cases w2 : i + 1 ≤ j ∧ j < 8
        · rw [if_pos w2, if_pos (by omega)]
        · rw [if_neg w2, if_neg (by omega), upd_n _ w]
    · rw [a2 j]
      show (if i + 1 ≤ j ∧ j < 8 then s 61 j else upd (s 47) i (s 61 i) j) = _
      by_cases w : j = i
      · subst w
        rw [if_neg (by omega), if_pos (by omega), upd_s]
      · by_cases w2 : i + 1 ≤ j ∧ j < 8
        · rw [if_pos w2, if_pos (by omega)]
        · rw [if_neg w2, if_neg (by omega), upd_n _ w]
    · rw [a3 j]
      show (if i + 1 ≤ j ∧ j < 8 then s 62 j else upd (s 48) i (s 62 i) j) = _
      by_cases w : j = i
      · subst w
        rw [if_neg (by omega), if_pos (by omega), upd_s]
      · by_cases w2 : i + 1 ≤ j ∧ j < 8
        · rw [if_pos w2, if_pos (by omega)]
        · rw [if_neg w2, if_neg (by omega), upd_n _ w]
    · rw [a4 j]
      show (if i + 1 ≤ j ∧ j < 8 then s 63 j else upd (s 49) i (s 63 i) j) = _
      by_cases w : j = i
      · subst w
        rw [if_neg (by omega), if_pos (by omega), upd_s]
      · by_cases w2 : i + 1 ≤ j ∧ j < 8
        · rw [if_pos w2, if_pos (by omega)]
        · rw [if_neg w2, if_neg (by omega), upd_n _ w]
    have t1 : ∀ f0 : Nat → Int32, (us s 46 f0) 61 i = s 61 i := fun _ => rfl
    have u1 : ∀ f0 : Nat → Int32, (us s 46 f0) 47 = s 47 := fun _ => rfl
    have t2 : ∀ f0 f1 : Nat → Int32, (us (us s 46 f0) 47 f1) 62 i = s 62 i := fun _ _ => rfl
    have u2 : ∀ f0 f1 : Nat → Int32, (us (us s 46 f0) 47 f1) 48 = s 48 := fun _ _ => rfl
    have t3 : ∀ f0 f1 f2 : Nat → Int32, (us (us (us s 46 f0) 47 f1) 48 f2) 63 i = s 63 i := fun _ _ _ => rfl
    have u3 : ∀ f0 f1 f2 : Nat → Int32, (us (us (us s 46 f0) 47 f1) 48 f2) 49 = s 49 := fun _ _ _ => rfl
    rw [F_X12_restore_B142, if_pos (show nI i < 8 from nI_lt (b := 8) (by omega) (by omega))]
    simp only [G_gR, G_ga, G_sa, iN, sbd, nr, nI_1, t1, u1, t2, u2, t3, u3]
    exact az
theorem im_all (s : Nat → Nat → Int32) : ∃ s' : Nat → Nat → Int32, (∀ a, a ≠ 55 → a ≠ 56 → a ≠ 57 → a ≠ 58 → a ≠ 59 → a ≠ 60 → a ≠ 61 → a ≠ 62 → a ≠ 63 → s' a = s a) ∧ (∀ j, s' 55 j = if j < 10 then s 40 j else s 55 j) ∧ (∀ j, s' 56 j = if j < 5 then s 42 j else s 56 j) ∧ (∀ j, s' 57 j = if j < 5 then s 43 j else s 57 j) ∧ (∀ j, s' 58 j = if j < 5 then s 44 j else s 58 j) ∧ (∀ j, s' 59 j = if j < 5 then s 45 j else s 59 j) ∧ (∀ j, s' 60 j = if j < 8 then s 46 j else s 60 j) ∧ (∀ j, s' 61 j = if j < 8 then s 47 j else s 61 j) ∧ (∀ j, s' 62 j = if j < 8 then s 48 j else s 62 j) ∧ (∀ j, s' 63 j = if j < 8 then s 49 j else s 63 j) ∧ F_X12_image_B57 39 200 0 (hp s l q P) = some (13 * s 39 7 + s 39 6, hp s' l q P) := by
  obtain ⟨t, a0, a1, az⟩ := im55 (l := l) (q := q) (P := P) 10 0 200 s rfl (by omega)
  obtain ⟨t', b0, b1, b2', b3, b4, bz⟩ := im56 (l := l) (q := q) (P := P) 5 0 200 t rfl (by omega)
  obtain ⟨t'', c0, c1, c2, c3, c4, cz⟩ := im60 (l := l) (q := q) (P := P) 8 0 200 t' rfl (by omega)
  have z : ∀ (j N : Nat) (x y : Int32), (if 0 ≤ j ∧ j < N then x else y) = if j < N then x else y := fun j N x y => by simp
  refine ⟨t'', fun a h55 h56 h57 h58 h59 h60 h61 h62 h63 => ?_, fun j => ?_, fun j => ?_, fun j => ?_, fun j => ?_, fun j => ?_, fun j => ?_, fun j => ?_, fun j => ?_, fun j => ?_, ?_⟩
  · rw [c0 a h60 h61 h62 h63, b0 a h56 h57 h58 h59, a0 a h55]
  · rw [c0 55 (by omega) (by omega) (by omega) (by omega), b0 55 (by omega) (by omega) (by omega) (by omega), a1 j, z]
  · rw [c0 56 (by omega) (by omega) (by omega) (by omega), b1 j, z, a0 56 (by omega), a0 42 (by omega)]
  · rw [c0 57 (by omega) (by omega) (by omega) (by omega), b2' j, z, a0 57 (by omega), a0 43 (by omega)]
  · rw [c0 58 (by omega) (by omega) (by omega) (by omega), b3 j, z, a0 58 (by omega), a0 44 (by omega)]
  · rw [c0 59 (by omega) (by omega) (by omega) (by omega), b4 j, z, a0 59 (by omega), a0 45 (by omega)]
  · rw [c1 j, z, b0 60 (by omega) (by omega) (by omega) (by omega), b0 46 (by omega) (by omega) (by omega) (by omega), a0 60 (by omega), a0 46 (by omega)]
  · rw [c2 j, z, b0 61 (by omega) (by omega) (by omega) (by omega), b0 47 (by omega) (by omega) (by omega) (by omega), a0 61 (by omega), a0 47 (by omega)]
  · rw [c3 j, z, b0 62 (by omega) (by omega) (by omega) (by omega), b0 48 (by omega) (by omega) (by omega) (by omega), a0 62 (by omega), a0 48 (by omega)]
  · rw [c4 j, z, b0 63 (by omega) (by omega) (by omega) (by omega), b0 49 (by omega) (by omega) (by omega) (by omega), a0 63 (by omega), a0 49 (by omega)]
  · rw [b0 39 (by omega) (by omega) (by omega) (by omega), a0 39 (by omega)] at cz
    exact az.trans (bz.trans cz)
theorem re_all (s : Nat → Nat → Int32) : ∃ s' : Nat → Nat → Int32, (∀ a, a ≠ 40 → a ≠ 42 → a ≠ 43 → a ≠ 44 → a ≠ 45 → a ≠ 46 → a ≠ 47 → a ≠ 48 → a ≠ 49 → s' a = s a) ∧ (∀ j, s' 40 j = if j < 10 then s 55 j else s 40 j) ∧ (∀ j, s' 42 j = if j < 5 then s 56 j else s 42 j) ∧ (∀ j, s' 43 j = if j < 5 then s 57 j else s 43 j) ∧ (∀ j, s' 44 j = if j < 5 then s 58 j else s 44 j) ∧ (∀ j, s' 45 j = if j < 5 then s 59 j else s 45 j) ∧ (∀ j, s' 46 j = if j < 8 then s 60 j else s 46 j) ∧ (∀ j, s' 47 j = if j < 8 then s 61 j else s 47 j) ∧ (∀ j, s' 48 j = if j < 8 then s 62 j else s 48 j) ∧ (∀ j, s' 49 j = if j < 8 then s 63 j else s 49 j) ∧ F_X12_restore_B55 39 200 0 (hp s l q P) = some (13 * s 39 7 + s 39 6, hp s' l q P) := by
  obtain ⟨t, a0, a1, az⟩ := re40 (l := l) (q := q) (P := P) 10 0 200 s rfl (by omega)
  obtain ⟨t', b0, b1, b2', b3, b4, bz⟩ := re42 (l := l) (q := q) (P := P) 5 0 200 t rfl (by omega)
  obtain ⟨t'', c0, c1, c2, c3, c4, cz⟩ := re46 (l := l) (q := q) (P := P) 8 0 200 t' rfl (by omega)
  have z : ∀ (j N : Nat) (x y : Int32), (if 0 ≤ j ∧ j < N then x else y) = if j < N then x else y := fun j N x y => by simp
  refine ⟨t'', fun a h40 h42 h43 h44 h45 h46 h47 h48 h49 => ?_, fun j => ?_, fun j => ?_, fun j => ?_, fun j => ?_, fun j => ?_, fun j => ?_, fun j => ?_, fun j => ?_, fun j => ?_, ?_⟩
  · rw [c0 a h46 h47 h48 h49, b0 a h42 h43 h44 h45, a0 a h40]
  · rw [c0 40 (by omega) (by omega) (by omega) (by omega), b0 40 (by omega) (by omega) (by omega) (by omega), a1 j, z]
  · rw [c0 42 (by omega) (by omega) (by omega) (by omega), b1 j, z, a0 42 (by omega), a0 56 (by omega)]
  · rw [c0 43 (by omega) (by omega) (by omega) (by omega), b2' j, z, a0 43 (by omega), a0 57 (by omega)]
  · rw [c0 44 (by omega) (by omega) (by omega) (by omega), b3 j, z, a0 44 (by omega), a0 58 (by omega)]
  · rw [c0 45 (by omega) (by omega) (by omega) (by omega), b4 j, z, a0 45 (by omega), a0 59 (by omega)]
  · rw [c1 j, z, b0 46 (by omega) (by omega) (by omega) (by omega), b0 60 (by omega) (by omega) (by omega) (by omega), a0 46 (by omega), a0 60 (by omega)]
  · rw [c2 j, z, b0 47 (by omega) (by omega) (by omega) (by omega), b0 61 (by omega) (by omega) (by omega) (by omega), a0 47 (by omega), a0 61 (by omega)]
  · rw [c3 j, z, b0 48 (by omega) (by omega) (by omega) (by omega), b0 62 (by omega) (by omega) (by omega) (by omega), a0 48 (by omega), a0 62 (by omega)]
  · rw [c4 j, z, b0 49 (by omega) (by omega) (by omega) (by omega), b0 63 (by omega) (by omega) (by omega) (by omega), a0 49 (by omega), a0 63 (by omega)]
  · rw [b0 39 (by omega) (by omega) (by omega) (by omega), a0 39 (by omega)] at cz
    exact az.trans (bz.trans cz)
end CX
