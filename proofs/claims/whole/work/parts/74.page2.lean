/-! THE PAGE: what the reference reads -/
theorem fwr_add (f : Nat → Nat) (k : Nat) : ∀ m i, fwr f (m + k) i = if fwr f m i = i + m then fwr f k (i + m) else fwr f m i
  | 0, i => by
    rw [Nat.zero_add]
    exact (if_pos (show fwr f 0 i = i + 0 from rfl)).symm
  | m + 1, i => by
    have ih := fwr_add f k m (i + 1)
    rw [show m + 1 + k = (m + k) + 1 by omega, fwr_s, fwr_s]
    cases fit i (f i) with
    | false =>
      simp only [Bool.false_eq_true, reduceIte]
      rw [if_neg (by omega)]
    | true =>
      simp only [reduceIte]
      rw [ih, show i + 1 + m = i + (m + 1) by omega]
def Rs (s' : Nat → Nat → Int32) (n W : Nat) : Prop := s' 39 18 = b2 (decide (W = n ∧ 18 ≤ n ∧ n % 4 = 2)) ∧ (W = n ∧ 18 ≤ n ∧ n % 4 = 2 → s' 39 19 = nI ((n - 10) / 4))
theorem rz_n {y : Nat} (h : y < 2) : rz (nI y) = some (nI y) := by
  rcases (by omega : y = 0 ∨ y = 1) with rfl | rfl <;> rfl
section PH
variable {l : Nat → Nat → Int64} {q : Nat → Nat → Option Nat} {P : List Nat} {pg : Nat → Nat} {n : Nat}
theorem Em.set39 (s : Nat → Nat → Int32) (k : Nat) (v : Int32) (h : k = 18 ∨ k = 19) : Em s (us s 39 (upd (s 39) k v)) :=
  ⟨fun a ha => us_ne s _ (by omega), fun j h1 h2 => by rw [us_self, upd_n _ (by omega)]⟩
theorem B107_ok {s : Nat → Nat → Int32} {K : Int32 → abH → Option (Int32 × abH)} {v y j : Nat} (h16 : s 39 16 = nI n) (h50 : ∀ i, s 50 i = nI (pg i)) (hp1 : ∀ i, pg i < 127) (hn : n ≤ 34) (h19 : s 39 19 = nI (j + 1)) (hj : j < 5) (hy : y < 2) (hv : v < 100) :
    F_X12_read_B107 39 (nI v) 39 (nI y) (hp s l q P) K = if j + 1 = 5 then some (nI v, hp (us s 39 (upd (s 39) 18 (nI y))) l q P) else if pa pg n v = 44 then K (nI (v + 1)) (hp (us s 39 (upd (s 39) 18 (nI y))) l q P) else some (nI v, hp (us s 39 (upd (s 39) 18 (nI y))) l q P) := by
  have e19 : us s 39 (upd (s 39) 18 (nI y)) 39 19 = nI (j + 1) := by rw [us_self, upd_n _ (by omega)]; exact h19
  have e16 : us s 39 (upd (s 39) 18 (nI y)) 39 16 = nI n := by rw [us_self, upd_n _ (by omega)]; exact h16
  have e50 : ∀ i, us s 39 (upd (s 39) 18 (nI y)) 50 i = nI (pg i) := h50
  have ea := at_ok (l := l) (q := q) (P := P) e16 e50 hn hv
  have c5 : nI (j + 1) = 5 ↔ j + 1 = 5 := by
    show nI (j + 1) = nI 5 ↔ _
    exact nI_eq (by omega) (by omega)
  have hpl := pa_lt hp1 n v
  unfold F_X12_read_B107
  simp only [rz_n hy, sbd, G_sI, G_gI, G_ko, e19, ea]
  by_cases g : j + 1 = 5
  · rw [if_pos (c5.mpr g), if_pos g]
  · rw [if_neg (fun w => g (c5.mp w)), if_neg g, nI_1]
    by_cases g2 : pa pg n v = 44
    · rw [if_pos (by rw [g2]; rfl), if_pos g2]
    · rw [if_neg, if_neg g2]
      intro w
      exact g2 ((nI_eq (by omega) (by omega)).mp (show nI (pa pg n v) = nI 44 from w))
theorem em_us2 (s : Nat → Nat → Int32) (v w : Int32) : us (us s 39 (upd (s 39) 19 v)) 39 (upd (us s 39 (upd (s 39) 19 v) 39) 18 w) = us s 39 (upd (upd (s 39) 19 v) 18 w) := by rw [us_us, us_self]
theorem read_B50 (hp1 : ∀ i, pg i < 127) (hn : n ≤ 34) : ∀ (m j f : Nat) (s : Nat → Nat → Int32), j + m = 5 → j < 5 → m < f → s 39 16 = nI n → (∀ i, s 50 i = nI (pg i)) → s 39 18 = 0 → s 39 19 = nI j →
    ∃ s', Em s s' ∧ F_X12_read_B50 39 f (nI (11 + 4 * j)) (hp s l q P) = some (nI (fwr (pa pg n) (20 - 4 * j) (11 + 4 * j)), hp s' l q P) ∧ Rs s' n (fwr (pa pg n) (20 - 4 * j) (11 + 4 * j))
  | _, _, 0, _, _, _, hf, _, _, _, _ => absurd hf (by omega)
  | 0, j, f + 1, s, hj, hj2, _, _, _, _, _ => absurd hj (by omega)
  | m + 1, j, f + 1, s, hj, hj5, hf, h16, h50, h18, h19 => by
    have lt5 : nI j < 5 := nI_lt (b := 5) hj5 (by omega)
    have hr := readParty_ok (l := l) (q := q) (P := P) h16 h50 hp1 hn hj5
    have hv := fwr_le (pa pg n) 3 (11 + 4 * j)
    have hW := fwr_add (pa pg n) (17 - 4 * j) 3 (11 + 4 * j)
    rw [show 3 + (17 - 4 * j) = 20 - 4 * j by omega, show 11 + 4 * j + 3 = 14 + 4 * j by omega] at hW
    have w3 : nI (11 + 4 * j) + 3 = nI (14 + 4 * j) := by
      show nI (11 + 4 * j) + nI 3 = _
      rw [nI_add]; congr 1; omega
    rw [F_X12_read_B50]
    simp only [G_gI, G_ko, sbd, h19, if_pos lt5, hr, w3]
    revert hv hW
    generalize fwr (pa pg n) 3 (11 + 4 * j) = v
    intro hv hW
    by_cases g : v = 14 + 4 * j
    · subst g
      rw [if_pos rfl] at hW
      rw [if_pos rfl]
      have e16 : us s 39 (upd (s 39) 19 (nI (j + 1))) 39 16 = nI n := by rw [us_self, upd_n _ (by omega)]; exact h16
      have e19 : us s 39 (upd (s 39) 19 (nI (j + 1))) 39 19 = nI (j + 1) := by rw [us_self, upd_s]
      have e50 : ∀ i, us s 39 (upd (s 39) 19 (nI (j + 1))) 50 i = nI (pg i) := h50
      simp only [G_sI, G_gI, sbd, nI_1, e16, e19]
      by_cases g2 : n = 14 + 4 * j
      · have hp0 : pa pg n (14 + 4 * j) = 0 := by unfold pa; rw [if_neg (by omega)]
        have hW2 : fwr (pa pg n) (20 - 4 * j) (11 + 4 * j) = 14 + 4 * j := by
          rw [hW, show 17 - 4 * j = (16 - 4 * j) + 1 by omega, fwr_s, hp0, fit_0 _ (by omega)]
          rfl
        rw [hW2]
        rw [if_pos (show nI (14 + 4 * j) = nI n by rw [g2])]
        have hB : ∀ (y : Nat) (K : Int32 → abH → Option (Int32 × abH)), y < 2 → F_X12_read_B107 39 (nI (14 + 4 * j)) 39 (nI y) (hp (us s 39 (upd (s 39) 19 (nI (j + 1)))) l q P) K = some (nI (14 + 4 * j), hp (us s 39 (upd (upd (s 39) 19 (nI (j + 1))) 18 (nI y))) l q P) := fun y K hy => by
          rw [B107_ok (l := l) (q := q) (P := P) (K := K) e16 e50 hp1 hn e19 hj5 hy (show 14 + 4 * j < 100 by omega), em_us2, hp0]
          by_cases g5 : j + 1 = 5
          · rw [if_pos g5]
          · rw [if_neg g5, if_neg (by omega)]
        have hE : ∀ y, Em s (us s 39 (upd (upd (s 39) 19 (nI (j + 1))) 18 (nI y))) := fun y => by
          rw [← em_us2]
          exact (Em.set39 s 19 _ (Or.inr rfl)).trans (Em.set39 _ 18 _ (Or.inl rfl))
        rcases Nat.lt_or_ge 0 j with g0 | g0
        · rw [if_neg (show ¬ nI (j + 1) ≤ 1 from nI_ge (a := 1) (by omega) (by omega))]
          refine ⟨_, hE 1, hB 1 _ (by omega), ?_, fun _ => ?_⟩
          · rw [us_self, upd_s, decide_eq_true (by omega)]; rfl
          · rw [us_self, upd_n _ (by omega), upd_s]; congr 1; omega
        · rw [if_pos (show nI (j + 1) ≤ 1 from nI_le (b := 1) (by omega) (by omega))]
          refine ⟨_, hE 0, hB 0 _ (by omega), ?_, fun w => absurd w (by omega)⟩
          rw [us_self, upd_s, decide_eq_false (by omega)]; rfl
      · rw [if_neg (show ¬ nI (14 + 4 * j) = nI n by rw [nI_eq (by omega) (by omega)]; omega)]
        have hE : Em s (us s 39 (upd (upd (s 39) 19 (nI (j + 1))) 18 (nI 0))) := by
          rw [← em_us2]
          exact (Em.set39 s 19 _ (Or.inr rfl)).trans (Em.set39 _ 18 _ (Or.inl rfl))
        have hB := B107_ok (l := l) (q := q) (P := P) (K := fun u1 hu => F_X12_read_B50 39 f u1 hu) (y := 0) e16 e50 hp1 hn e19 hj5 (by omega) (show 14 + 4 * j < 100 by omega)
        rw [em_us2] at hB
        have hR : ∀ W, W = 14 + 4 * j → Rs (us s 39 (upd (upd (s 39) 19 (nI (j + 1))) 18 (nI 0))) n W := fun W hW => by
          refine ⟨?_, fun w => absurd w (by omega)⟩
          rw [us_self, upd_s, decide_eq_false (by omega)]; rfl
        by_cases g5 : j + 1 = 5
        · rw [if_pos g5] at hB
          have hW2 : fwr (pa pg n) (20 - 4 * j) (11 + 4 * j) = 14 + 4 * j := by
            rw [hW, show 17 - 4 * j = 0 + 1 by omega, fwr_s, fit_30 _ (by omega)]
            rfl
          rw [hW2]
          exact ⟨_, hE, hB, hR _ rfl⟩
        · rw [if_neg g5] at hB
          have hfc := fit_c (c := pa pg n (14 + 4 * j)) (show j < 4 by omega)
          rw [show 17 - 4 * j = (16 - 4 * j) + 1 by omega, fwr_s, hfc] at hW
          by_cases g4 : pa pg n (14 + 4 * j) = 44
          · rw [if_pos g4] at hB
            rw [if_pos (decide_eq_true g4)] at hW
            obtain ⟨s', a1, a2, a3⟩ := read_B50 hp1 hn m (j + 1) f (us s 39 (upd (upd (s 39) 19 (nI (j + 1))) 18 (nI 0))) (by omega) (by omega) (by omega) (by rw [us_self, upd_n _ (by omega), upd_n _ (by omega)]; exact h16) h50 (by rw [us_self, upd_s]; rfl) (by rw [us_self, upd_n _ (by omega), upd_s])
            rw [show 20 - 4 * (j + 1) = 16 - 4 * j by omega, show 11 + 4 * (j + 1) = 14 + 4 * j + 1 by omega] at a2 a3
            rw [hW]
            exact ⟨s', hE.trans a1, hB.trans a2, a3⟩
          · rw [if_neg g4] at hB
            rw [decide_eq_false g4, if_neg (by decide)] at hW
            rw [hW]
            exact ⟨_, hE, hB, hR _ rfl⟩
    · rw [if_neg (by omega)] at hW
      rw [if_neg (show ¬ nI v = nI (14 + 4 * j) by rw [nI_eq (by omega) (by omega)]; exact g), hW]
      refine ⟨s, Em.rfl, rfl, ?_, fun w => absurd w (by omega)⟩
      rw [decide_eq_false (by omega)]; exact h18
theorem fit_d {i c : Nat} (hi : i < 10) : fit i c = decide (48 ≤ c ∧ c ≤ 57) := by
  unfold fit; rw [if_pos hi]
theorem fit_10 (c : Nat) : fit 10 c = decide (c = 59) := by
  unfold fit; rw [if_neg (by omega), if_pos rfl]
theorem read_B12 (hp1 : ∀ i, pg i < 127) (hn : n ≤ 34) {s : Nat → Nat → Int32} (h16 : s 39 16 = nI n) (h50 : ∀ i, s 50 i = nI (pg i)) (h18 : s 39 18 = 0) (h19 : s 39 19 = nI 0) : ∀ (m i f : Nat), i + m = 10 → m < f →
    ∃ s', Em s s' ∧ F_X12_read_B12 39 f (nI i) (hp s l q P) = some (nI (fwr (pa pg n) (21 + m) i), hp s' l q P) ∧ Rs s' n (fwr (pa pg n) (21 + m) i)
  | _, _, 0, _, hf => absurd hf (by omega)
  | 0, i, f + 1, hi, _ => by
    have hi : i = 10 := hi
    subst hi
    have ea := at_ok (l := l) (q := q) (P := P) h16 h50 hn (show 10 < 100 by omega)
    have hpl := pa_lt hp1 n 10
    rw [F_X12_read_B12, if_neg (show ¬ nI 10 < 10 by decide), show 21 + 0 = 20 + 1 from rfl, fwr_s, fit_10]
    simp only [G_ko, sbd, ea, nI_1]
    by_cases g : pa pg n 10 = 59
    · obtain ⟨s', a1, a2, a3⟩ := read_B50 (l := l) (q := q) (P := P) hp1 hn 5 0 200 s rfl (by omega) (by omega) h16 h50 h18 h19
      rw [if_pos (show nI (pa pg n 10) = 59 by rw [g]; rfl), if_pos (decide_eq_true g)]
      exact ⟨s', a1, a2, a3⟩
    · rw [if_neg (show ¬ nI (pa pg n 10) = 59 from fun w => g ((nI_eq (by omega) (by omega)).mp (show nI (pa pg n 10) = nI 59 from w))), decide_eq_false g, if_neg (by decide)]
      refine ⟨s, Em.rfl, rfl, ?_, fun w => absurd w (by omega)⟩
      rw [decide_eq_false (by omega)]; exact h18
  | m + 1, i, f + 1, hi, hf => by
    have ea := fig0 (l := l) (q := q) (P := P) h16 h50 hp1 hn (show i < 100 by omega)
    obtain ⟨s', a1, a2, a3⟩ := read_B12 hp1 hn h16 h50 h18 h19 m (i + 1) f (by omega) (by omega)
    rw [F_X12_read_B12, if_pos (show nI i < 10 from nI_lt (b := 10) (by omega) (by omega)), show 21 + (m + 1) = (21 + m) + 1 by omega, fwr_s, fit_d (by omega)]
    simp only [G_ko, sbd, ea, nI_1]
    cases g : decide (48 ≤ pa pg n i ∧ pa pg n i ≤ 57) with
    | true =>
      simp only [reduceIte]
      rw [if_neg (show ¬ b2 true = 0 by decide)]
      exact ⟨s', a1, a2, a3⟩
    | false =>
      rw [if_pos (show b2 false = 0 from rfl), if_neg (by decide)]
      refine ⟨s, Em.rfl, rfl, ?_, fun w => absurd w (by omega)⟩
      rw [decide_eq_false (by omega)]; exact h18
theorem read_ok (hp1 : ∀ i, pg i < 127) (hn : n ≤ 34) {s : Nat → Nat → Int32} (h16 : s 39 16 = nI n) (h50 : ∀ i, s 50 i = nI (pg i)) :
    ∃ s', Em s s' ∧ F_X12_read 39 (hp s l q P) = some (nI (fwr pg n 0), hp s' l q P) ∧ s' 39 18 = b2 (isC pg n) ∧ (isC pg n = true → s' 39 19 = nI ((n - 10) / 4)) := by
  have e : us (us s 39 (upd (s 39) 18 0)) 39 (upd (us s 39 (upd (s 39) 18 0) 39) 19 0) = us s 39 (upd (upd (s 39) 18 0) 19 0) := by rw [us_us, us_self]
  obtain ⟨s', a1, a2, a3⟩ := read_B12 (l := l) (q := q) (P := P) hp1 hn (s := us s 39 (upd (upd (s 39) 18 0) 19 0)) (by rw [us_self, upd_n _ (by omega), upd_n _ (by omega)]; exact h16) h50 (by rw [us_self, upd_n _ (by omega), upd_s]) (by rw [us_self, upd_s]; rfl) 10 0 200 rfl (by omega)
  have hW := fwr_pa pg n n 0 (by omega) (by omega)
  rw [show 31 - 0 = 21 + 10 from rfl] at hW
  rw [hW] at a2 a3
  have hE : Em s (us s 39 (upd (upd (s 39) 18 0) 19 0)) := by
    rw [← e]
    exact (Em.set39 s 18 _ (Or.inl rfl)).trans (Em.set39 _ 19 _ (Or.inr rfl))
  refine ⟨s', hE.trans a1, ?_, a3.1, fun w => a3.2 (of_decide_eq_true w)⟩
  unfold F_X12_read
  simp only [G_sI, sbd, e]
  exact a2
end PH
section PI
variable {M : Nat}
theorem go_fault : Go M (fun h => (F_X11_fault 3 h).bind fun v => some (v, h)) (F_X12_fault 39) := by
  rintro s l q P ⟨r, k, pg, n, c, b, hC, hM, hO⟩
  have hw := fw_ok (l := l) (q := q) (P := P) hC.2.1.1 hC.2.1.2 hO.2.1.2 hO.2.1.1
  obtain ⟨s', a1, a2, _⟩ := read_ok (l := l) (q := q) (P := P) hO.2.1.2 hO.2.1.1 hM.2.1.1 hM.2.1.2
  refine ⟨nI (fwr pg n 0), s, s', l, l, q, P, ?_, ?_, r, k, pg, n, c, b, hC.fr (fun a ha => a1.1 a (by omega)), hM.em a1, hO.up⟩
  · show (F_X11_fault 3 (hp s l q P)).bind _ = _
    unfold F_X11_fault
    simp only [G_gR, G_ko, sbd, hw]
  · unfold F_X12_fault
    simp only [G_ko, sbd, a2, bd2_s]
end PI
