/-! COURT: a court is read -/
def ctR (r : Nat → Nat → Nat) (pg : Nat → Nat) (m : Nat) : Nat → Nat → Nat := fun a i => match a with
  | 0 => m
  | 1 => if i < m then kb (pg (11 + 4 * i)) else r 1 i
  | 2 => if i < m then pg (12 + 4 * i) - 48 else r 2 i
  | 3 => if i < m then pg (13 + 4 * i) - 48 else r 3 i
  | 4 => if i < 10 then pg i - 48 else r 4 i
  | 5 => 0
  | 6 => 0
  | 7 => 0
  | 8 => r 8 i
  | 9 => r 9 i
  | 10 => 0
  | 11 => r 11 i
  | 12 => r 12 i
  | 13 => r 13 i
  | 14 => r 14 i
  | a + 15 => r (a + 15) i
/-- what stands on the page of a court with m parties -/
def Cp (pg : Nat → Nat) (n m : Nat) : Prop := (m = (n - 10) / 4 ∧ 18 ≤ n ∧ n ≤ 30 ∧ n % 4 = 2 ∧ 2 ≤ m ∧ m ≤ 5) ∧ (∀ j, j < 10 → 48 ≤ pg j ∧ pg j ≤ 57) ∧ (∀ j, j < m → (pg (11 + 4 * j) = 112 ∨ pg (11 + 4 * j) = 104 ∨ pg (11 + 4 * j) = 116 ∨ pg (11 + 4 * j) = 99 ∨ pg (11 + 4 * j) = 117) ∧ (49 ≤ pg (12 + 4 * j) ∧ pg (12 + 4 * j) ≤ 57) ∧ (48 ≤ pg (13 + 4 * j) ∧ pg (13 + 4 * j) ≤ 57))
theorem Cp_of {pg : Nat → Nat} {n : Nat} (h : isC pg n = true) : Cp pg n ((n - 10) / 4) := by
  have h := of_decide_eq_true h
  have ha := fwr_all pg n 0 (by omega)
  have h30 : n ≤ 30 := by
    rcases Nat.lt_or_ge 30 n with w | w
    · have := ha 30 (by omega) (by omega)
      rw [fit_30 _ (by omega)] at this; cases this
    · exact w
  refine ⟨⟨rfl, by omega, h30, by omega, by omega, by omega⟩, fun j hj => ?_, fun j hj => ?_⟩
  · have := ha j (by omega) (by omega)
    rw [fit_d hj] at this
    exact of_decide_eq_true this
  · have h0 := ha (11 + 4 * j) (by omega) (by omega)
    have h1 := ha (12 + 4 * j) (by omega) (by omega)
    have h2 := ha (13 + 4 * j) (by omega) (by omega)
    have hj5 : j < 5 := by omega
    rw [(fit_k hj5).1] at h0
    rw [(fit_k hj5).2.1] at h1
    rw [(fit_k hj5).2.2] at h2
    exact ⟨of_decide_eq_true h0, of_decide_eq_true h1, of_decide_eq_true h2⟩
theorem ctR_ok {r : Nat → Nat → Nat} {pg : Nat → Nat} {n m : Nat} (hO : Ok r) (h : Cp pg n m) : Ok (ctR r pg m) := by
  refine ⟨Or.inr ⟨h.1.2.2.2.2.1, h.1.2.2.2.2.2⟩, fun i => ?_, fun i => ?_, fun i => ?_, fun i => ?_, Nat.succ_pos _, Nat.succ_pos _, Nat.zero_le _, fun i hi => absurd hi (Nat.not_lt_zero _), Nat.zero_le _, hO.2.2.2.2.2.2.2.2.2.2⟩
  · show (if i < m then kb (pg (11 + 4 * i)) else r 1 i) < 5
    split
    · exact kb_lt _
    · exact hO.2.1 i
  · show (if i < m then pg (12 + 4 * i) - 48 else r 2 i) < 10
    split
    next g => have := (h.2.2 i g).2.1; omega
    · exact hO.2.2.1 i
  · show (if i < m then pg (13 + 4 * i) - 48 else r 3 i) < 10
    split
    next g => have := (h.2.2 i g).2.2; omega
    · exact hO.2.2.2.1 i
  · show (if i < 10 then pg i - 48 else r 4 i) < 10
    split
    next g => have := h.2.1 i g; omega
    · exact hO.2.2.2.2.1 i
theorem pool_app {P P2 : List Nat} {i c : Nat} (h : P[i]? = some c) : (P ++ P2)[i]? = some c := by
  rw [List.getElem?_append_left (List.getElem?_eq_some_iff.mp h).1]
  exact h
section CT
variable {l : Nat → Nat → Int64} {pg : Nat → Nat} {n m : Nat}
theorem p11 (x : Nat) : (11 : Int32) + nI x * 4 = nI (11 + 4 * x) := by
  show nI 11 + nI x * nI 4 = _
  rw [n_mul, nI_add]; congr 1; omega
theorem p11b (x d : Nat) : (11 : Int32) + nI x * 4 + nI d = nI (11 + d + 4 * x) := by
  rw [p11, nI_add]; congr 1; omega
theorem hp_new0 {s : Nat → Nat → Int32} {q : Nat → Nat → Option Nat} {P : List Nat} : F_X5_init (40 + P.length) 3 0 (hp s l q P ++ [.inr (.inr (0, [.int 0, .int 0]))]) = some (hp s l q (P ++ [0])) := hp_new rfl (by decide) (by decide)
theorem hp_new4 {s : Nat → Nat → Int32} {q : Nat → Nat → Option Nat} {P : List Nat} : F_X5_init (40 + P.length) 1 2 (hp s l q P ++ [.inr (.inr (4, [.int 0, .int 0]))]) = some (hp s l q (P ++ [4])) := hp_new rfl (by decide) (by decide)
theorem hp_new10 {s : Nat → Nat → Int32} {q : Nat → Nat → Option Nat} {P : List Nat} : F_X5_init (40 + P.length) 2 0 (hp s l q P ++ [.inr (.inr (10, [.int 0, .int 0]))]) = some (hp s l q (P ++ [10])) := hp_new rfl (by decide) (by decide)
theorem hp_new7 {s : Nat → Nat → Int32} {q : Nat → Nat → Option Nat} {P : List Nat} : F_X5_init (40 + P.length) 4 4 (hp s l q P ++ [.inr (.inr (7, [.int 0, .int 0]))]) = some (hp s l q (P ++ [7])) := hp_new rfl (by decide) (by decide)
theorem hp_new5 {s : Nat → Nat → Int32} {q : Nat → Nat → Option Nat} {P : List Nat} : F_X5_init (40 + P.length) 0 0 (hp s l q P ++ [.inr (.inr (5, [.int 0, .int 0]))]) = some (hp s l q (P ++ [5])) := hp_new rfl (by decide) (by decide)
theorem kindOf_ok {s : Nat → Nat → Int32} {q : Nat → Nat → Option Nat} {P : List Nat} {x : Nat} (h5 : ∀ i, s 5 i = nI (pg i)) (hx : x < 5) (h : pg (11 + 4 * x) = 112 ∨ pg (11 + 4 * x) = 104 ∨ pg (11 + 4 * x) = 116 ∨ pg (11 + 4 * x) = 99 ∨ pg (11 + 4 * x) = 117) :
    F_X6_kindOf 4 (nI x) (hp s l q P) = some (40 + P.length, hp s l q (P ++ [kcl (kb (pg (11 + 4 * x)))])) := by
  have i34 : 11 + 4 * x < 34 := by omega
  unfold F_X6_kindOf
  simp only [G_gR, p11, G_ga, i34, sbd, h5, nm, F_X0_init, F_X4_init, F_X4_init_, F_X7_init, F_X10_init, hp_len, hp_new0, hp_new4, hp_new5, hp_new7, hp_new10]
  rcases h with h | h | h | h | h <;> rw [h]
  · rw [if_neg (show ¬ nI 112 = 99 by decide), if_neg (show ¬ nI 112 = 104 by decide), if_neg (show ¬ nI 112 = 116 by decide), if_neg (show ¬ nI 112 = 117 by decide)]; rfl
  · rw [if_neg (show ¬ nI 104 = 99 by decide), if_pos (show nI 104 = 104 by decide)]; rfl
  · rw [if_neg (show ¬ nI 116 = 99 by decide), if_neg (show ¬ nI 116 = 104 by decide), if_pos (show nI 116 = 116 by decide)]; rfl
  · rw [if_pos (show nI 99 = 99 by decide)]; rfl
  · rw [if_neg (show ¬ nI 117 = 99 by decide), if_neg (show ¬ nI 117 = 104 by decide), if_neg (show ¬ nI 117 = 116 by decide), if_pos (show nI 117 = 117 by decide)]; rfl
theorem digitOf_ok {s : Nat → Nat → Int32} {q : Nat → Nat → Option Nat} {P : List Nat} {x d : Nat} (h5 : ∀ i, s 5 i = nI (pg i)) (hx : x < 5) (hd : d < 3) (h : 48 ≤ pg (11 + d + 4 * x)) :
    F_X6_digitOf 4 (nI x) (nI d) (hp s l q P) = some (nI (pg (11 + d + 4 * x) - 48)) := by
  have i34 : 11 + d + 4 * x < 34 := by omega
  have e : nI (pg (11 + d + 4 * x)) - 48 = nI (pg (11 + d + 4 * x) - 48) := n_subn (b := 48) h
  unfold F_X6_digitOf
  simp only [G_gR, p11b, G_ga, i34, sbd, h5, e]
theorem read_w {q : Nat → Nat → Option Nat} {P : List Nat} (hc : Cp pg n m) : ∀ (k i f : Nat) (s : Nat → Nat → Int32), (∀ j, s 5 j = nI (pg j)) → s 4 1 = nI n → i + k = 10 → k < f →
    ∃ g : Nat → Int32, (∀ j, g j = if i ≤ j ∧ j < 10 then nI (pg j - 48) else s 10 j) ∧ F_X1_read_B2 6 4 f (nI i) (hp s l q P) = F_X1_read_B43 6 4 6 0 (hp (us (us s 10 g) 6 (upd (s 6) 0 (nI m))) l q P)
  | _, _, 0, _, _, _, _, hf => absurd hf (by omega)
  | 0, i, f + 1, s, h5, h4, hi, _ => by
    have hp1 : ∀ n, n < 31 → 18 ≤ n → n % 4 = 2 → (nI n + 1 - 11) / 4 = nI ((n - 10) / 4) ∧ ¬ 5 < nI ((n - 10) / 4) := by decide +kernel
    have hm := hc.1
    have e := hp1 n (by omega) (by omega) (by omega)
    rw [← hc.1.1] at e
    have e0 : ∀ v, us s 6 (upd (s 6) 0 v) = us (us s 10 (s 10)) 6 (upd (s 6) 0 v) := fun v => by rw [us_id]
    refine ⟨s 10, fun j => by rw [if_neg (by omega)], ?_⟩
    rw [F_X1_read_B2, if_neg (show ¬ nI i < 10 from nI_nlt (b := 10) (by omega) (by omega))]
    unfold F_X6_parties
    simp only [G_ko, G_gI, G_sI, sbd, h4, dz_ne (show ¬ (4 : Int32) = 0 by decide), e.1, if_neg e.2]
    rw [e0]
  | k + 1, i, f + 1, s, h5, h4, hi, hf => by
    have i34 : i < 34 := by omega
    have i10 : i < 10 := by omega
    obtain ⟨g, g1, g2⟩ := read_w hc k (i + 1) f (us s 10 (upd (s 10) i (nI (pg i - 48)))) h5 h4 (by omega) (by omega)
    have e : nI (pg i) - 48 = nI (pg i - 48) := n_subn (b := 48) (hc.2.1 i i10).1
    refine ⟨g, fun j => ?_, ?_⟩
    · rw [g1 j, us_self]
      by_cases w : j = i
      · subst w
        rw [if_neg (by omega), if_pos (by omega), upd_s]
      · by_cases w2 : i + 1 ≤ j ∧ j < 10
        · rw [if_pos w2, if_pos (by omega)]
        · rw [if_neg w2, if_neg (by omega), upd_n _ w]
    · rw [us_us] at g2
      rw [F_X1_read_B2, if_pos (show nI i < 10 from nI_lt (b := 10) (by omega) (by omega))]
      simp only [G_gR, G_ga, G_sa, i34, i10, sbd, h5, e, nr, nI_1]
      exact g2
theorem read_p (hc : Cp pg n m) : ∀ (k x f : Nat) (s : Nat → Nat → Int32) (q : Nat → Nat → Option Nat) (P : List Nat), (∀ j, s 5 j = nI (pg j)) → s 6 0 = nI m → x + k = m → k < f →
    ∃ (s' : Nat → Nat → Int32) (q' : Nat → Nat → Option Nat) (P' : List Nat), (∀ a, a ≠ 6 → a ≠ 8 → a ≠ 9 → s' a = s a) ∧ s' 6 = upd (upd (upd (upd (s 6) 5 0) 6 0) 7 0) 10 0 ∧ (∀ j, s' 8 j = if x ≤ j ∧ j < m then nI (pg (12 + 4 * j) - 48) else s 8 j) ∧ (∀ j, s' 9 j = if x ≤ j ∧ j < m then nI (pg (13 + 4 * j) - 48) else s 9 j) ∧ (∀ j, j < x → q' 7 j = q 7 j) ∧ (∀ j, x ≤ j → j < m → ∃ i, q' 7 j = some (40 + i) ∧ P'[i]? = some (kcl (kb (pg (11 + 4 * j))))) ∧ (∃ P2, P' = P ++ P2) ∧ F_X1_read_B43 6 4 f (nI x) (hp s l q P) = some (hp s' l q' P')
  | _, _, 0, _, _, _, _, _, _, hf => absurd hf (by omega)
  | 0, x, f + 1, s, q, P, h5, h6, hx, _ => by
    have hm := hc.1
    have hx : x = m := hx
    subst hx
    refine ⟨us s 6 (upd (upd (upd (upd (s 6) 5 0) 6 0) 7 0) 10 0), q, P, fun a h1 _ _ => us_ne _ _ h1, us_self _ _ _, fun j => ?_, fun j => ?_, fun _ _ => rfl, fun j h1 h2 => absurd h1 (by omega), ⟨[], (List.append_nil P).symm⟩, ?_⟩
    · rw [if_neg (by omega)]; rfl
    · rw [if_neg (by omega)]; rfl
    · rw [F_X1_read_B43]
      simp only [G_gI, G_sI, sbd, h6, if_neg (show ¬ nI x < nI x from nI_nlt (Nat.le_refl _) (by omega)), us_us, us_self]
  | k + 1, x, f + 1, s, q, P, h5, h6, hx, hf => by
    have hm := hc.1
    have x5 : x < 5 := by omega
    have hpx := hc.2.2 x (by omega)
    have hK := kindOf_ok (l := l) (q := q) (P := P) h5 x5 hpx.1
    have hg : (P ++ [kcl (kb (pg (11 + 4 * x)))])[P.length]? = some (kcl (kb (pg (11 + 4 * x)))) := by simp
    have hi := isKd_kcl (kb (pg (11 + 4 * x)))
    revert hK hg hi
    generalize hcl : kcl (kb (pg (11 + 4 * x))) = cl
    intro hK hg hi
    have hsq := fun (s : Nat → Nat → Int32) => (G_sq (s := s) (l := l) (q := q) hg hi).1 x x5
    have d1 : F_X6_digitOf 4 (nI x) 1 (hp s l (us q 7 (va_up (q 7) x (some (40 + P.length)))) (P ++ [cl])) = some (nI (pg (12 + 4 * x) - 48)) := digitOf_ok (d := 1) h5 x5 (by omega) (show 48 ≤ pg (12 + 4 * x) by omega)
    have d2 : F_X6_digitOf 4 (nI x) 2 (hp (us s 8 (upd (s 8) x (nI (pg (12 + 4 * x) - 48)))) l (us q 7 (va_up (q 7) x (some (40 + P.length)))) (P ++ [cl])) = some (nI (pg (13 + 4 * x) - 48)) := digitOf_ok (d := 2) (s := us s 8 (upd (s 8) x (nI (pg (12 + 4 * x) - 48)))) h5 x5 (by omega) (show 48 ≤ pg (13 + 4 * x) by omega)
    have e9 : us s 8 (upd (s 8) x (nI (pg (12 + 4 * x) - 48))) 9 = s 9 := rfl
    obtain ⟨s', q', P', a1, a2, a3, a4, a5, a6, ⟨P2, a7⟩, a8⟩ := read_p hc k (x + 1) f (us (us s 8 (upd (s 8) x (nI (pg (12 + 4 * x) - 48)))) 9 (upd (s 9) x (nI (pg (13 + 4 * x) - 48)))) (us q 7 (va_up (q 7) x (some (40 + P.length)))) (P ++ [cl]) h5 h6 (by omega) (by omega)
    refine ⟨s', q', P', fun a h1 h2 h3 => ?_, a2, fun j => ?_, fun j => ?_, fun j hj => ?_, fun j h1 h2 => ?_, ⟨[cl] ++ P2, by rw [a7, List.append_assoc]⟩, ?_⟩
    · rw [a1 a h1 h2 h3, us_ne _ _ h3, us_ne _ _ h2]
    · rw [a3 j]
      show (if x + 1 ≤ j ∧ j < m then _ else upd (s 8) x _ j) = _
      by_cases w : j = x
      · subst w
        rw [if_neg (by omega), if_pos (by omega), upd_s]
      · by_cases w2 : x + 1 ≤ j ∧ j < m
        · rw [if_pos w2, if_pos (by omega)]
        · rw [if_neg w2, if_neg (by omega), upd_n _ w]
    · rw [a4 j]
      show (if x + 1 ≤ j ∧ j < m then _ else upd (s 9) x _ j) = _
      by_cases w : j = x
      · subst w
        rw [if_neg (by omega), if_pos (by omega), upd_s]
      · by_cases w2 : x + 1 ≤ j ∧ j < m
        · rw [if_pos w2, if_pos (by omega)]
        · rw [if_neg w2, if_neg (by omega), upd_n _ w]
    · rw [a5 j (by omega), us_self]
      unfold va_up
      rw [if_neg (by omega)]
    · by_cases w : j = x
      · subst w
        refine ⟨P.length, ?_, ?_⟩
        · rw [a5 j (by omega), us_self]
          unfold va_up
          rw [if_pos rfl]
        · rw [a7, hcl]
          exact pool_app hg
      · exact a6 j (by omega) h2
    · rw [F_X1_read_B43]
      simp only [G_gI, G_gR, G_ko, sbd, h6, if_pos (show nI x < nI m from nI_lt (by omega) (by omega)), hK, bd2_s, hsq, d1, G_sa, x5, nr, d2, nI_1, e9]
      exact a8
end CT
/-! COURT: both sides -/
section CU
variable {l : Nat → Nat → Int64} {q : Nat → Nat → Option Nat} {P : List Nat} {pg : Nat → Nat} {n m : Nat}
theorem p4 (d x : Nat) : nI d + 4 * nI x = nI (d + 4 * x) := by
  show nI d + nI 4 * nI x = _
  rw [n_mul, nI_add]
theorem nI_if (m i a b : Nat) : (if 0 ≤ i ∧ i < m then nI a else nI b) = nI (if i < m then a else b) := by
  by_cases h : i < m
  · rw [if_pos ⟨Nat.zero_le _, h⟩, if_pos h]
  · rw [if_neg (fun w => h w.2), if_neg h]
end CU
section CV
variable {M : Nat}
end CV
