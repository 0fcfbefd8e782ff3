/-! DOCKET: the class -/
/-- the right hours of a case -/
def rh (r : Nat → Nat → Nat) (i : Nat) : Nat := Mk (fun e => decide (0 < bal r (r 8 i) (r 9 i) e)) 13 0 0
theorem rh_lt (r : Nat → Nat → Nat) (i : Nat) : rh r i < 8192 := Mk_lt _ 13 0 0 (by decide)
/-- the hours of a group of cases -/
def uR (R : Nat → Nat) (g : Nat) : Nat → Nat → Nat → Nat
  | 0, _, acc => acc
  | n + 1, i, acc => uR R g n (i + 1) (if g.testBit i = true then acc ||| R i else acc)
theorem uR_lt {R : Nat → Nat} (hR : ∀ i, R i < 8192) (g : Nat) : ∀ n i acc, acc < 8192 → uR R g n i acc < 8192
  | 0, _, _, h => h
  | n + 1, i, acc, h => by
    unfold uR
    apply uR_lt hR g n (i + 1)
    split
    · exact Nat.or_lt_two_pow (n := 13) h (hR i)
    · exact h
theorem uR_bit (R : Nat → Nat) (g e : Nat) : ∀ n i acc, (uR R g n i acc).testBit e = (acc.testBit e || anyB (fun j => g.testBit j && (R j).testBit e) n i)
  | 0, _, acc => by
    show acc.testBit e = (acc.testBit e || false)
    rw [Bool.or_false]
  | n + 1, i, acc => by
    unfold uR
    rw [uR_bit R g e n (i + 1)]
    show _ = (acc.testBit e || ((g.testBit i && (R i).testBit e) || anyB _ n (i + 1)))
    cases hg : g.testBit i with
    | false =>
      simp only [Bool.false_eq_true, reduceIte, Bool.false_and, Bool.false_or]
    | true =>
      simp only [reduceIte, Bool.true_and]
      rw [Nat.testBit_or, Bool.or_assoc]
/-- the least of acc and φ g .. -/
def mnl (φ : Nat → Nat) : Nat → Nat → Nat → Nat
  | 0, _, acc => acc
  | k + 1, g, acc => mnl φ k (g + 1) (if φ g < acc then φ g else acc)
theorem mnl_le (φ : Nat → Nat) : ∀ k g acc, mnl φ k g acc ≤ acc ∧ (∀ j, g ≤ j → j < g + k → mnl φ k g acc ≤ φ j) ∧ (mnl φ k g acc = acc ∨ ∃ j, g ≤ j ∧ j < g + k ∧ mnl φ k g acc = φ j)
  | 0, g, acc => ⟨Nat.le_refl _, fun j h1 h2 => absurd h1 (by omega), Or.inl rfl⟩
  | k + 1, g, acc => by
    have ih := mnl_le φ k (g + 1) (if φ g < acc then φ g else acc)
    unfold mnl
    revert ih
    generalize mnl φ k (g + 1) (if φ g < acc then φ g else acc) = v
    intro ih
    by_cases h : φ g < acc
    · rw [if_pos h] at ih
      refine ⟨by omega, fun j h1 h2 => ?_, ?_⟩
      · by_cases e : j = g
        · rw [e]; exact ih.1
        · exact ih.2.1 j (by omega) (by omega)
      · rcases ih.2.2 with w | ⟨j, w1, w2, w3⟩
        · exact Or.inr ⟨g, by omega, by omega, w⟩
        · exact Or.inr ⟨j, by omega, by omega, w3⟩
    · rw [if_neg h] at ih
      refine ⟨ih.1, fun j h1 h2 => ?_, ?_⟩
      · by_cases e : j = g
        · rw [e]; omega
        · exact ih.2.1 j (by omega) (by omega)
      · rcases ih.2.2 with w | ⟨j, w1, w2, w3⟩
        · exact Or.inl w
        · exact Or.inr ⟨j, by omega, by omega, w3⟩
def ph (N : Nat) (R : Nat → Nat) (a F g : Nat) : Nat := (N - a) + pc (uR (fun m => R (a + m)) g (N - a) 0 0 &&& F) - pc g
def mx (N : Nat) (R : Nat → Nat) (a F : Nat) : Nat := mnl (ph N R a F) (2 ^ (N - a) - 1) 1 (N - a)
theorem Cn_cut {c : Nat → Bool} (m : Nat) : ∀ n i, (∀ j, i + n ≤ j → j < i + (n + m) → c j = false) → Cn c (n + m) i = Cn c n i
  | 0, i, h => by
    rw [Nat.zero_add]
    exact Cn_no m i (fun j h1 h2 => h j (by omega) (by omega))
  | n + 1, i, h => by
    have ih := Cn_cut m n (i + 1) (fun j h1 h2 => h j (by omega) (by omega))
    rw [show n + 1 + m = (n + m) + 1 by omega, Cn_s, Cn_s, ih]
theorem Cn_app (c : Nat → Bool) (m : Nat) : ∀ n i, Cn c (n + m) i = Cn c n i + Cn c m (i + n)
  | 0, i => by
    rw [Nat.zero_add]
    show _ = 0 + _
    rw [Nat.zero_add]; rfl
  | n + 1, i => by
    have ih := Cn_app c m n (i + 1)
    rw [show n + 1 + m = (n + m) + 1 by omega, Cn_s, Cn_s, ih, show i + 1 + n = i + (n + 1) by omega, Nat.add_assoc]
theorem Cn_sh (c : Nat → Bool) (d : Nat) : ∀ n i, Cn c n (d + i) = Cn (fun j => c (d + j)) n i
  | 0, _ => rfl
  | n + 1, i => by
    have ih := Cn_sh c d n (i + 1)
    rw [Cn_s, Cn_s, ← ih]; rfl
theorem bit_hi {g k j : Nat} (hg : g < 2 ^ k) (hj : k ≤ j) : g.testBit j = false :=
  Nat.testBit_lt_two_pow (Nat.lt_of_lt_of_le hg (Nat.pow_le_pow_right (by decide) hj))
theorem pc_cut {g k : Nat} (hg : g < 2 ^ k) (hk : k ≤ 13) : pc g = Cn (fun i => g.testBit i) k 0 := by
  have h := Cn_cut (c := fun i => g.testBit i) (13 - k) k 0 (fun j h1 _ => bit_hi hg (by omega))
  rw [show k + (13 - k) = 13 by omega] at h
  exact h
theorem pc_lek {g k : Nat} (hg : g < 2 ^ k) (hk : k ≤ 13) : pc g ≤ k := by
  rw [pc_cut hg hk]; exact Cn_le _ _ _
/-- the group g of the cases from a on, as a set -/
def gT (a g i : Nat) : Bool := Nat.ble a i && g.testBit (i - a)
theorem gT_in {N a g : Nat} (ha : a ≤ N) (hg : g < 2 ^ (N - a)) : In a N (gT a g) := by
  intro i hi
  have hi := Bool.and_eq_true_iff.mp hi
  have h1 := Nat.le_of_ble_eq_true hi.1
  refine ⟨h1, ?_⟩
  rcases Nat.lt_or_ge i N with w | w
  · exact w
  · rw [bit_hi hg (by omega)] at hi
    cases hi.2
theorem gT_pc {N a g : Nat} (ha : a ≤ N) (hN : N ≤ 13) (hg : g < 2 ^ (N - a)) : Cn (gT a g) N 0 = pc g := by
  have h1 := Cn_app (gT a g) (N - a) a 0
  rw [show a + (N - a) = N by omega, Nat.zero_add] at h1
  have h2 : Cn (gT a g) a 0 = 0 := Cn_no a 0 (fun j _ hj => by
    cases w : gT a g j with
    | false => rfl
    | true => have := (gT_in ha hg j w).1; omega)
  have h3 := Cn_sh (gT a g) a (N - a) 0
  rw [Nat.add_zero] at h3
  have h4 : Cn (fun j => gT a g (a + j)) (N - a) 0 = Cn (fun i => g.testBit i) (N - a) 0 := Cn_ext (N - a) 0 (fun j _ _ => by
    show (Nat.ble a (a + j) && g.testBit (a + j - a)) = g.testBit j
    rw [Nat.ble_eq_true_of_le (by omega), Nat.add_sub_cancel_left, Bool.true_and])
  rw [h1, h2, h3, h4, pc_cut hg (by omega), Nat.zero_add]
theorem gT_f {N a g F : Nat} {R : Nat → Nat} (ha : a ≤ N) (hg : g < 2 ^ (N - a)) : pc (uR (fun m => R (a + m)) g (N - a) 0 0 &&& F) = fN N R F (gT a g) := by
  refine Cn_ext 13 0 (fun e _ _ => beq_of ?_)
  show (uR (fun m => R (a + m)) g (N - a) 0 0 &&& F).testBit e = true ↔ _
  rw [Nat.testBit_and, uR_bit, Nat.zero_testBit, Bool.false_or, Bool.and_eq_true_iff, anyB_iff, nb_iff]
  constructor
  · rintro ⟨⟨j, _, h2, h3⟩, h4⟩
    have h3 := Bool.and_eq_true_iff.mp h3
    refine ⟨h4, a + j, by omega, ?_, h3.2⟩
    show (Nat.ble a (a + j) && g.testBit (a + j - a)) = true
    rw [Nat.ble_eq_true_of_le (by omega), Nat.add_sub_cancel_left, h3.1]; rfl
  · rintro ⟨h4, j, h2, h3, h5⟩
    have h6 := (gT_in ha hg j h3).1
    have h3 := Bool.and_eq_true_iff.mp h3
    refine ⟨⟨j - a, by omega, by omega, ?_⟩, h4⟩
    show (g.testBit (j - a) && (R (a + (j - a))).testBit e) = true
    rw [h3.2, show a + (j - a) = j by omega, h5]; rfl
theorem gT_of {N a : Nat} {G : Nat → Bool} (hG : In a N G) : ∃ g, g < 2 ^ (N - a) ∧ ∀ i, i < N → gT a g i = G i := by
  refine ⟨Mk (fun m => G (a + m)) (N - a) 0 0, ?_, fun i hi => ?_⟩
  · have := Mk_lt (fun m => G (a + m)) (N - a) 0 0 (by decide)
    rw [Nat.zero_add] at this
    exact this
  · unfold gT
    rw [Mk_bit, Nat.zero_testBit, Bool.false_or]
    rcases Nat.lt_or_ge i a with w | w
    · have h1 : Nat.ble a i = false := by
        cases q : Nat.ble a i with
        | false => rfl
        | true => have := Nat.le_of_ble_eq_true q; omega
      rw [h1, Bool.false_and]
      cases q : G i with
      | false => rfl
      | true => have := (hG i q).1; omega
    · rw [Nat.ble_eq_true_of_le w, decide_eq_true (show 0 ≤ i - a by omega), decide_eq_true (show i - a < 0 + (N - a) by omega), show a + (i - a) = i by omega]
      simp
theorem fN_ext {N F : Nat} {R : Nat → Nat} {A B : Nat → Bool} (h : ∀ i, i < N → A i = B i) : fN N R F A = fN N R F B :=
  Nat.le_antisymm (fN_mono (fun _ _ h => h) (fun i hi ha => by rw [← h i hi]; exact ha)) (fN_mono (fun _ _ h => h) (fun i hi ha => by rw [h i hi]; exact ha))
theorem Hx_mx {N a F : Nat} (R : Nat → Nat) (ha : a ≤ N) (hN : N ≤ 13) : Hx N R a F (mx N R a F) := by
  have hp1 : 0 < 2 ^ (N - a) := Nat.pow_pos (by decide)
  have hm := mnl_le (ph N R a F) (2 ^ (N - a) - 1) 1 (N - a)
  refine ⟨fun G hG => ?_, ?_⟩
  · obtain ⟨g, h1, h2⟩ := gT_of hG
    have e1 : Cn G N 0 = pc g := by
      rw [← gT_pc ha hN h1]
      exact Cn_ext N 0 (fun j _ hj => (h2 j (by omega)).symm)
    have e2 : fN N R F G = pc (uR (fun m => R (a + m)) g (N - a) 0 0 &&& F) := by
      rw [gT_f ha h1]
      exact fN_ext (fun i hi => (h2 i hi).symm)
    have e3 := pc_lek h1 (by omega)
    rw [e1, e2]
    rcases Nat.eq_zero_or_pos g with w | w
    · have e4 : pc g = 0 := by rw [w]; rfl
      have := hm.1
      unfold mx
      omega
    · have h3 := hm.2.1 g (by omega) (by omega)
      unfold mx
      unfold ph at h3 ⊢
      omega
  · rcases hm.2.2 with w | ⟨g, w1, w2, w3⟩
    · refine ⟨fun _ => false, (fun i hi => by cases hi), ?_⟩
      rw [(SubM_fN N R F).2.2, Cn_no N 0 (fun _ _ _ => rfl)]
      exact w
    · have h1 : g < 2 ^ (N - a) := by omega
      refine ⟨gT a g, gT_in ha h1, ?_⟩
      have e3 := pc_lek h1 (by omega)
      rw [gT_pc ha hN h1, ← gT_f ha h1]
      unfold mx
      rw [w3]
      unfold ph
      omega
section DK
variable {s : Nat → Nat → Int32} {l : Nat → Nat → Int64} {q : Nat → Nat → Option Nat} {P : List Nat} {r : Nat → Nat → Nat}
theorem right_loop (h : Ct s q P 6 r) (hO : Ok r) {a b : Nat} (ha : a < r 0 0) (hb : b < r 0 0) : ∀ (n e acc f : Nat), e + n = 13 → n < f → F_X2_hoursForFirst_B5 6 (nI a) (nI b) (hp s l q P) f (nI acc) (nI e) = some (nI (Mk (fun e => decide (0 < bal r a b e)) n e acc))
  | _, _, _, 0, _, hf => absurd hf (by omega)
  | 0, e, acc, f + 1, he, _ => by
    unfold F_X2_hoursForFirst_B5 Mk
    rw [if_neg (show ¬ nI e < 13 from nI_nlt (b := 13) (by omega) (by omega))]
  | n + 1, e, acc, f + 1, he, hf => by
    have ih := fun x => right_loop h hO ha hb n (e + 1) x f (by omega) (by omega)
    have hb1 := balance_ok (l := l) h hO ha hb (show e < 13 by omega)
    have hl := bal_le hO a b e
    have e31 : e < 31 := by omega
    unfold F_X2_hoursForFirst_B5 Mk
    rw [if_pos (show nI e < 13 from nI_lt (b := 13) (by omega) (by omega))]
    simp only [G_ko, sbd, hb1, nm, n_shl e e31, n_or, nI_1, ih]
    by_cases g : 0 < bal r a b e
    · rw [if_neg (fun w => (w_le0 (by omega) (by omega)).mp w g), if_pos (decide_eq_true g)]
    · rw [if_pos ((w_le0 (by omega) (by omega)).mpr g), if_neg (fun w => g (of_decide_eq_true w))]
theorem right_ok (h : Ct s q P 6 r) (hO : Ok r) {i : Nat} (hi : i < r 7 0) : F_X2_hoursForFirst 6 (nI (r 8 i)) (nI (r 9 i)) (hp s l q P) = some (nI (rh r i)) :=
  right_loop h hO (hO.2.2.2.2.2.2.2.2.1 i hi).1 (hO.2.2.2.2.2.2.2.2.1 i hi).2 13 0 0 200 rfl (by omega)
/-- the docket's tables in the class -/
def Dt (s : Nat → Nat → Int32) (N : Nat) (R : Nat → Nat) : Prop := s 35 1 = nI N ∧ ∀ j, j < N → s 36 j = nI (R j)
theorem set_right (hO : Ok r) : ∀ (k i f : Nat) (s : Nat → Nat → Int32), Ct s q P 6 r → s 35 1 = nI (r 7 0) → i + k = r 7 0 → k < f → ∃ g : Nat → Int32, (∀ j, g j = if i ≤ j ∧ j < r 7 0 then nI (rh r j) else s 36 j) ∧ F_X2_set_B10 35 6 f (nI i) (hp s l q P) = ((F_X2_mostFrom 35 0 8191 (hp (us s 36 g) l q P)).bind fun v4 => (sV 2 (hp (us s 36 g) l q P) 35 3 (.int v4)).bind fun h5 => (gI 2 h5 35 3).bind fun v6 => F_X2_set_B68 35 200 8191 v6 0 h5)
  | _, _, 0, _, _, _, _, hf => absurd hf (by omega)
  | 0, i, f + 1, s, h, h1, hi, _ => by
    have h5 : r 7 0 ≤ 5 := hO.2.2.2.2.2.2.2.1
    refine ⟨s 36, fun j => by rw [if_neg (by omega)], ?_⟩
    rw [us_id, F_X2_set_B10]
    simp only [G_gI, G_ko, sbd, h1, if_neg (show ¬ nI i < nI (r 7 0) from nI_nlt (by omega) (by omega))]
  | k + 1, i, f + 1, s, h, h1, hi, hf => by
    have h5 : r 7 0 ≤ 5 := hO.2.2.2.2.2.2.2.1
    have i5 : i < 5 := by omega
    have e1 : s 11 i = nI (r 8 i) := h.2.1.2.2.2.1 i
    have e2 : s 12 i = nI (r 9 i) := h.2.1.2.2.2.2.1 i
    have hr := right_ok (l := l) h hO (show i < r 7 0 by omega)
    have h2 : Ct (us s 36 (upd (s 36) i (nI (rh r i)))) q P 6 r := h
    obtain ⟨g, g1, g2⟩ := set_right hO k (i + 1) f _ h2 h1 (by omega) (by omega)
    rw [us_us] at g2
    refine ⟨g, fun j => ?_, ?_⟩
    · rw [g1 j, us_self]
      by_cases w : j = i
      · subst w
        rw [if_neg (by omega), if_pos (by omega), upd_s]
      · by_cases w2 : i + 1 ≤ j ∧ j < r 7 0
        · rw [if_pos w2, if_pos (by omega)]
        · rw [if_neg w2, if_neg (by omega), upd_n _ w]
    · rw [F_X2_set_B10]
      simp only [G_gI, G_gR, G_ga, G_sa, i5, G_ko, sbd, h1, if_pos (show nI i < nI (r 7 0) from nI_lt (by omega) (by omega)), e1, e2, hr, nr, nI_1]
      exact g2
end DK
