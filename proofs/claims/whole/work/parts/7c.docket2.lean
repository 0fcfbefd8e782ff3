/-! DOCKET: the class's answers -/
def fst (c : Nat → Bool) : Nat → Nat → Nat
  | 0, i => i
  | n + 1, i => if c i = true then i else fst c n (i + 1)
theorem fst_ok (c : Nat → Bool) : ∀ n i, (∃ e, i ≤ e ∧ e < i + n ∧ c e = true) → fst c n i < i + n ∧ c (fst c n i) = true ∧ i ≤ fst c n i
  | 0, i, h => by obtain ⟨e, h1, h2, _⟩ := h; omega
  | n + 1, i, h => by
    unfold fst
    cases g : c i with
    | true => rw [if_pos rfl]; exact ⟨by omega, g, Nat.le_refl _⟩
    | false =>
      rw [if_neg (by decide)]
      have ih := fst_ok c n (i + 1) (by
        obtain ⟨e, h1, h2, h3⟩ := h
        refine ⟨e, ?_, by omega, h3⟩
        rcases Nat.lt_or_ge i e with w | w
        · omega
        · rw [show e = i by omega, g] at h3; cases h3)
      exact ⟨by omega, ih.2.1, by omega⟩
def hq (N : Nat) (R : Nat → Nat) (a F left e : Nat) : Bool := (R a).testBit e && F.testBit e && Nat.ble left (1 + mx N R (a + 1) (andn F (2 ^ e)))
def fh (N : Nat) (R : Nat → Nat) (a F left : Nat) : Nat := fst (hq N R a F left) 13 0
/-- in which hours they are heard, from the case a on -/
def dks (N : Nat) (R : Nat → Nat) : Nat → Nat → Nat → Nat → Nat → Int32
  | 0, _, _, _, _ => -1
  | k + 1, a, F, left, i => if left ≤ mx N R (a + 1) F then (if i = a then -1 else dks N R k (a + 1) F left i) else (if i = a then nI (fh N R a F left) else dks N R k (a + 1) (andn F (2 ^ fh N R a F left)) (left - 1) i)
theorem mx_le {N a F : Nat} (R : Nat → Nat) (ha : a ≤ N) (hN : N ≤ 13) : mx N R a F ≤ N - a := by
  have h := (Hx_mx (F := F) R ha hN).1 (fun _ => false) (fun i hi => by cases hi)
  rw [(SubM_fN N R F).2.2, Cn_no N 0 (fun _ _ _ => rfl)] at h
  exact h
/-- where the case is heard in every best docket, there is an hour for it -/
theorem fh_ok {N a F left : Nat} {R : Nat → Nat} (ha : a < N) (hN : N ≤ 13) (hl : left = mx N R a F) (h : mx N R (a + 1) F < left) : fh N R a F left < 13 ∧ hq N R a F left (fh N R a F left) = true := by
  obtain ⟨e, h1, h2, h3, h4⟩ := exch (u := fun e => mx N R (a + 1) (andn F (2 ^ e))) ha (Hx_mx R (by omega) hN) (Hx_mx R (by omega) hN) (by rw [← hl]; exact h) (fun e _ => Hx_mx R (by omega) hN)
  have hx := fst_ok (hq N R a F left) 13 0 ⟨e, by omega, by omega, by
    unfold hq
    rw [h2, h3, Nat.ble_eq_true_of_le (by rw [hl]; exact h4)]; rfl⟩
  exact ⟨by have := hx.1; unfold fh; omega, hx.2.1⟩
theorem mx_next {N a F left e : Nat} {R : Nat → Nat} (ha : a < N) (hN : N ≤ 13) (h : mx N R (a + 1) F < left) (hq1 : hq N R a F left e = true) : left - 1 = mx N R (a + 1) (andn F (2 ^ e)) := by
  have h1 := Bool.and_eq_true_iff.mp hq1
  have h2 := Nat.le_of_ble_eq_true h1.2
  have h3 := Hx_mono (F := andn F (2 ^ e)) (F' := F) (fun j hj hb => by
    rw [bit_less hj] at hb
    exact (Bool.and_eq_true_iff.mp hb).1) (Hx_mx (a := a + 1) R (by omega) hN) (Hx_mx R (by omega) hN)
  omega
theorem mx_same {N a F left : Nat} {R : Nat → Nat} (ha : a < N) (hN : N ≤ 13) (hl : left = mx N R a F) (h : left ≤ mx N R (a + 1) F) : left = mx N R (a + 1) F := by
  have h1 := Hx_first ha (Hx_mx (F := F) R (by omega) hN) (Hx_mx R (by omega) hN)
  omega
section DL
variable {l : Nat → Nat → Int64} {q : Nat → Nat → Option Nat} {P : List Nat} {N : Nat} {R : Nat → Nat}
theorem ph_num {a b d : Nat} (h : d ≤ a) : nI a - (nI d - nI b) = nI (a + b - d) := by
  rw [n_sub, wI_n, wI_sub, wI_n]; congr 1; omega
theorem most_in {s : Nat → Nat → Int32} {K : Int32 → Int32 → Option Int32} (hD : Dt s N R) (hN : N ≤ 5) (hR : ∀ i, R i < 8192) {a F g v : Nat} (ha : a ≤ N) (hF : F < 8192) (hg : g < 2 ^ (N - a)) (hv : v ≤ N - a) : ∀ (k m acc f : Nat), acc < 8192 → m + k = N - a → k < f →
    F_X2_mostFrom_B31 35 (nI a) (nI F) (nI (N - a)) (nI v) (nI g) (hp s l q P) K f (nI acc) (nI m) = K (nI (if (N - a) + pc (uR (fun m => R (a + m)) g k m acc &&& F) - pc g < v then (N - a) + pc (uR (fun m => R (a + m)) g k m acc &&& F) - pc g else v)) (nI (g + 1))
  | _, _, _, 0, _, _, hf => absurd hf (by omega)
  | 0, m, acc, f + 1, hacc, hm, _ => by
    have h32 : 2 ^ (N - a) ≤ 2 ^ 5 := Nat.pow_le_pow_right (by decide) (by omega)
    have hand : acc &&& F < 8192 := Nat.lt_of_le_of_lt Nat.and_le_left hacc
    have e1 := bitC_ok (m := g) (by omega)
    have e2 := bitC_ok hand
    have e3 := pc_lek hg (by omega)
    have e4 := pc_le (acc &&& F)
    rw [F_X2_mostFrom_B31, if_neg (show ¬ nI m < nI (N - a) from nI_nlt (by omega) (by omega)), uR]
    simp only [e1, sbd, n_and, e2, nm, ph_num e3, nI_1]
    by_cases g2 : (N - a) + pc (acc &&& F) - pc g < v
    · rw [if_pos (nI_lt g2 (by omega)), if_pos g2]
    · rw [if_neg (nI_nlt (by omega) (by omega)), if_neg g2]
  | k + 1, m, acc, f + 1, hacc, hm, hf => by
    have h32 : 2 ^ (N - a) ≤ 2 ^ 5 := Nat.pow_le_pow_right (by decide) (by omega)
    have j5 : a + m < 5 := by omega
    have e1 : s 36 (a + m) = nI (R (a + m)) := hD.2 (a + m) (by omega)
    have ih := fun x hx => most_in (K := K) hD hN hR ha hF hg hv k (m + 1) x f hx (by omega) (by omega)
    rw [F_X2_mostFrom_B31, if_pos (show nI m < nI (N - a) from nI_lt (by omega) (by omega)), uR]
    cases hb : g.testBit m with
    | false =>
      rw [if_pos ((n_bit0 (by omega) (by omega)).mpr hb), nI_1, ih acc hacc]
      simp only [Bool.false_eq_true, reduceIte]
    | true =>
      rw [if_neg (fun w => by rw [(n_bit0 (by omega) (by omega)).mp w] at hb; cases hb)]
      simp only [G_gR, nI_add, G_ga, j5, sbd, e1, nm, n_or, nI_1, reduceIte]
      exact ih _ (Nat.or_lt_two_pow (n := 13) hacc (hR _))
theorem most_out {s : Nat → Nat → Int32} (hD : Dt s N R) (hN : N ≤ 5) (hR : ∀ i, R i < 8192) {a F : Nat} (ha : a ≤ N) (hF : F < 8192) : ∀ (k g v f : Nat), v ≤ N - a → g + k = 2 ^ (N - a) → k < f →
    F_X2_mostFrom_B17 35 (nI a) (nI F) (nI (N - a)) (hp s l q P) f (nI v) (nI g) = some (nI (mnl (ph N R a F) k g v))
  | _, _, _, 0, _, _, hf => absurd hf (by omega)
  | 0, g, v, f + 1, hv, hg, _ => by
    have h32 : 2 ^ (N - a) ≤ 2 ^ 5 := Nat.pow_le_pow_right (by decide) (by omega)
    rw [F_X2_mostFrom_B17, n_shl _ (by omega), if_neg (show ¬ nI g < nI (2 ^ (N - a)) from nI_nlt (by omega) (by omega))]
    rfl
  | k + 1, g, v, f + 1, hv, hg, hf => by
    have h32 : 2 ^ (N - a) ≤ 2 ^ 5 := Nat.pow_le_pow_right (by decide) (by omega)
    have e := most_in (l := l) (q := q) (P := P) (K := fun u4 u5 => F_X2_mostFrom_B17 35 (nI a) (nI F) (nI (N - a)) (hp s l q P) f u4 u5) hD hN hR ha hF (show g < 2 ^ (N - a) by omega) hv (N - a) 0 0 200 (by omega) (by omega) (by omega)
    rw [F_X2_mostFrom_B17, n_shl _ (by omega), if_pos (show nI g < nI (2 ^ (N - a)) from nI_lt (by omega) (by omega)), mnl]
    refine e.trans ?_
    refine most_out hD hN hR ha hF k (g + 1) _ f ?_ (by omega) (by omega)
    split <;> omega
theorem most_ok {s : Nat → Nat → Int32} (hD : Dt s N R) (hN : N ≤ 5) (hR : ∀ i, R i < 8192) {a F : Nat} (ha : a ≤ N) (hF : F < 8192) : F_X2_mostFrom 35 (nI a) (nI F) (hp s l q P) = some (nI (mx N R a F)) := by
  have h32 : 2 ^ (N - a) ≤ 2 ^ 5 := Nat.pow_le_pow_right (by decide) (by omega)
  have hp1 : 0 < 2 ^ (N - a) := Nat.pow_pos (by decide)
  unfold F_X2_mostFrom
  simp only [G_gI, sbd, hD.1, nm, n_subn ha, if_neg (nI_pos (show N - a < 2 ^ 31 by omega))]
  exact most_out (l := l) (q := q) (P := P) hD hN hR ha hF (2 ^ (N - a) - 1) 1 (N - a) 200 (Nat.le_refl _) (by omega) (by omega)
theorem and_p0 : ∀ e, e < 13 → ∀ x, x < 8192 → (nI x &&& nI (2 ^ e) = 0 ↔ x.testBit e = false) := by
  intro e he x hx
  have h1 : x &&& 2 ^ e < 2 ^ 31 := Nat.lt_of_le_of_lt Nat.and_le_left (by omega)
  rw [n_and]
  show nI (x &&& 2 ^ e) = nI 0 ↔ _
  rw [nI_eq h1 (by omega)]
  constructor
  · intro h
    have h2 : (x &&& 2 ^ e).testBit e = false := by rw [h]; exact Nat.zero_testBit e
    rw [Nat.testBit_and, Nat.testBit_two_pow_self, Bool.and_true] at h2
    exact h2
  · intro h
    apply Nat.eq_of_testBit_eq
    intro j
    rw [Nat.testBit_and, Nat.zero_testBit]
    by_cases e2 : e = j
    · rw [← e2, h]; rfl
    · rw [Nat.testBit_two_pow_of_ne e2, Bool.and_false]
theorem p2_lt {e : Nat} (he : e < 13) : 2 ^ e < 8192 := Nat.pow_lt_pow_right (a := 2) (by decide) (show e < 13 from he)
theorem first_loop {s : Nat → Nat → Int32} (hD : Dt s N R) (hN : N ≤ 5) (hR : ∀ i, R i < 8192) {a F left : Nat} (ha : a < N) (hF : F < 8192) (hl : left ≤ 5) : ∀ (k e f : Nat), e + k = 13 → k < f → (∃ e2, e ≤ e2 ∧ e2 < e + k ∧ hq N R a F left e2 = true) →
    F_X2_firstHour_B17 35 (nI a) (nI F) (nI left) (hp s l q P) f (nI e) = some (nI (fst (hq N R a F left) k e))
  | _, _, 0, _, hf, _ => absurd hf (by omega)
  | 0, e, f + 1, he, _, hx => by obtain ⟨e2, h1, h2, _⟩ := hx; omega
  | k + 1, e, f + 1, he, hf, hx => by
    have e31 : e < 31 := by omega
    have a5 : a < 5 := by omega
    have e13 : e < 13 := by omega
    have e1 : s 36 a = nI (R a) := hD.2 a ha
    have hRF : R a &&& F < 8192 := Nat.lt_of_le_of_lt Nat.and_le_left (hR a)
    have hm := most_ok (l := l) (q := q) (P := P) hD hN hR (show a + 1 ≤ N by omega) (andn_lt (x := F) (y := 2 ^ e) hF)
    have hml := mx_le (F := andn F (2 ^ e)) R (show a + 1 ≤ N by omega) (by omega)
    rw [F_X2_firstHour_B17, if_pos (show nI e < 13 from nI_lt (b := 13) (by omega) (by omega)), fst]
    simp only [nm, G_gR, G_ga, a5, G_ko, sbd, e1, n_shl e e31, n_and, n_andn hF, nI_1, hm]
    have c0 : nI (R a &&& F &&& 2 ^ e) = 0 ↔ (R a &&& F).testBit e = false := by rw [← n_and]; exact and_p0 e e13 _ hRF
    have w1 : (1 : Int32) + nI (mx N R (a + 1) (andn F (2 ^ e))) = nI (1 + mx N R (a + 1) (andn F (2 ^ e))) := nI_add 1 _
    have ih := fun hh => first_loop hD hN hR ha hF hl k (e + 1) f (by omega) (by omega) hh
    have hmove : hq N R a F left e = false → ∃ e2, e + 1 ≤ e2 ∧ e2 < e + 1 + k ∧ hq N R a F left e2 = true := fun hn => by
      obtain ⟨e2, h1, h2, h3⟩ := hx
      refine ⟨e2, ?_, by omega, h3⟩
      rcases Nat.lt_or_ge e e2 with w | w
      · omega
      · rw [show e2 = e by omega, hn] at h3; cases h3
    cases hb : (R a &&& F).testBit e with
    | false =>
      have hn : hq N R a F left e = false := by
        unfold hq
        rw [← Nat.testBit_and, hb]; rfl
      rw [if_pos (c0.mpr hb), hn, if_neg (by decide)]
      exact ih (hmove hn)
    | true =>
      rw [if_neg (fun w => by rw [c0.mp w] at hb; cases hb), w1]
      by_cases g : left ≤ 1 + mx N R (a + 1) (andn F (2 ^ e))
      · have hn : hq N R a F left e = true := by
          unfold hq
          rw [← Nat.testBit_and, hb, Nat.ble_eq_true_of_le g]; rfl
        rw [if_neg (nI_nlt g (by omega)), hn, if_pos rfl]
      · have hn : hq N R a F left e = false := by
          unfold hq
          cases q : Nat.ble left (1 + mx N R (a + 1) (andn F (2 ^ e))) with
          | false => rw [Bool.and_false]
          | true => exact absurd (Nat.le_of_ble_eq_true q) g
        rw [if_pos (nI_lt (by omega) (by omega)), hn, if_neg (by decide)]
        exact ih (hmove hn)
theorem firstHour_ok {s : Nat → Nat → Int32} (hD : Dt s N R) (hN : N ≤ 5) (hR : ∀ i, R i < 8192) {a F left : Nat} (ha : a < N) (hF : F < 8192) (hl : left = mx N R a F) :
    F_X2_firstHour 35 (nI a) (nI F) (nI left) (hp s l q P) = some (if left ≤ mx N R (a + 1) F then -1 else nI (fh N R a F left)) := by
  have hml := mx_le (F := F) R (show a ≤ N by omega) (by omega)
  have hml2 := mx_le (F := F) R (show a + 1 ≤ N by omega) (by omega)
  have hm := most_ok (l := l) (q := q) (P := P) hD hN hR (show a + 1 ≤ N by omega) hF
  unfold F_X2_firstHour
  simp only [G_ko, sbd, nI_1, hm]
  by_cases g : left ≤ mx N R (a + 1) F
  · rw [if_neg (nI_nlt g (by omega)), if_pos g]
  · rw [if_pos (nI_lt (by omega) (by omega)), if_neg g]
    have h2 := fh_ok ha (by omega) hl (by omega)
    exact first_loop hD hN hR ha hF (by omega) 13 0 200 rfl (by omega) ⟨fh N R a F left, by omega, by omega, h2.2⟩
theorem m1_ne {e : Nat} (h : e < 13) : ¬ nI e = -1 := by
  revert h; revert e; decide
theorem set_loop (hN : N ≤ 5) (hR : ∀ i, R i < 8192) : ∀ (k a F left f : Nat) (s : Nat → Nat → Int32), Dt s N R → a + k = N → k < f → F < 8192 → left = mx N R a F →
    ∃ g : Nat → Int32, (∀ i, a ≤ i → i < N → g i = dks N R k a F left i) ∧ (∀ i, i < a → g i = s 37 i) ∧ F_X2_set_B68 35 f (nI F) (nI left) (nI a) (hp s l q P) = some (hp (us s 37 g) l q P)
  | _, _, _, _, 0, _, _, _, hf, _, _ => absurd hf (by omega)
  | 0, a, F, left, f + 1, s, hD, ha, _, _, _ => by
    refine ⟨s 37, fun i h1 h2 => absurd h1 (by omega), fun _ _ => rfl, ?_⟩
    rw [us_id, F_X2_set_B68]
    simp only [G_gI, sbd, hD.1, if_neg (show ¬ nI a < nI N from nI_nlt (by omega) (by omega))]
  | k + 1, a, F, left, f + 1, s, hD, ha, hf, hF, hl => by
    have a5 : a < 5 := by omega
    have h1 := firstHour_ok (l := l) (q := q) (P := P) hD hN hR (show a < N by omega) hF hl
    have lt : nI a < nI N := nI_lt (by omega) (by omega)
    have hD2 : ∀ v, Dt (us s 37 (upd (s 37) a v)) N R := fun _ => hD
    by_cases g : left ≤ mx N R (a + 1) F
    · rw [if_pos g] at h1
      obtain ⟨gg, g1, g2, g3⟩ := set_loop hN hR k (a + 1) F left f _ (hD2 (-1)) (by omega) (by omega) hF (mx_same (by omega) (by omega) hl g)
      rw [us_us] at g3
      refine ⟨gg, fun i h3 h4 => ?_, fun i h3 => ?_, ?_⟩
      · rw [dks, if_pos g]
        by_cases w : i = a
        · rw [if_pos w, g2 i (by omega), us_self, w, upd_s]
        · rw [if_neg w]; exact g1 i (by omega) h4
      · rw [g2 i (by omega), us_self, upd_n _ (by omega)]
      · rw [F_X2_set_B68]
        simp only [G_gI, G_gR, G_ga, G_sa, a5, G_ko, sbd, hD.1, if_pos lt, h1, nr, u_up, reduceIte, nI_1]
        exact g3
    · rw [if_neg g] at h1
      have h2 := fh_ok (show a < N by omega) (by omega) hl (by omega)
      have hnx := mx_next (show a < N by omega) (by omega) (by omega) h2.2
      have e31 : fh N R a F left < 31 := by omega
      obtain ⟨gg, g1, g2, g3⟩ := set_loop hN hR k (a + 1) (andn F (2 ^ fh N R a F left)) (left - 1) f _ (hD2 (nI (fh N R a F left))) (by omega) (by omega) (andn_lt hF) hnx
      rw [us_us] at g3
      have w1 : nI left + (-1) = nI (left - 1) := by
        have := n_m1 (left - 1)
        rw [show left - 1 + 1 = left by omega] at this
        exact this
      refine ⟨gg, fun i h3 h4 => ?_, fun i h3 => ?_, ?_⟩
      · rw [dks, if_neg g]
        by_cases w : i = a
        · rw [if_pos w, g2 i (by omega), us_self, w, upd_s]
        · rw [if_neg w]; exact g1 i (by omega) h4
      · rw [g2 i (by omega), us_self, upd_n _ (by omega)]
      · rw [F_X2_set_B68]
        simp only [G_gI, G_gR, G_ga, G_sa, a5, G_ko, sbd, hD.1, if_pos lt, h1, nr, u_up, if_neg (m1_ne h2.1), nm, n_shl _ e31, n_andn hF, w1, nI_1]
        exact g3
end DL
section DM
variable {s : Nat → Nat → Int32} {l : Nat → Nat → Int64} {q : Nat → Nat → Option Nat} {P : List Nat} {r : Nat → Nat → Nat}
def dkH (r : Nat → Nat → Nat) : Nat := mx (r 7 0) (rh r) 0 8191
def dkI (r : Nat → Nat → Nat) (i : Nat) : Int32 := if i < r 7 0 then dks (r 7 0) (rh r) (r 7 0) 0 8191 (dkH r) i else -1
theorem set_ok (h : Ct s q P 6 r) (hO : Ok r) : ∃ s', Eo s s' ∧ F_X2_set 35 6 (hp s l q P) = some (hp s' l q P) ∧ s' 35 3 = nI (dkH r) ∧ ∀ i, i < r 7 0 → s' 37 i = dkI r i := by
  have h5 : r 7 0 ≤ 5 := hO.2.2.2.2.2.2.2.1
  have e7 : s 6 7 = nI (r 7 0) := h.1.2.2.2.1
  have h1 : Ct (us s 35 (upd (s 35) 1 (nI (r 7 0)))) q P 6 r := h
  obtain ⟨g, g1, g2⟩ := set_right (l := l) hO (r 7 0) 0 200 _ h1 (by rw [us_self, upd_s]) (by omega) (by omega)
  have hD : ∀ v, Dt (us (us (us s 35 (upd (s 35) 1 (nI (r 7 0)))) 36 g) 35 (upd (upd (s 35) 1 (nI (r 7 0))) 3 v)) (r 7 0) (rh r) := fun v => by
    refine ⟨?_, fun j hj => ?_⟩
    · rw [us_self, upd_n _ (by omega), upd_s]
    · rw [us_ne _ _ (by omega), us_self, g1 j, if_pos ⟨Nat.zero_le _, hj⟩]
  have hD0 : Dt (us (us s 35 (upd (s 35) 1 (nI (r 7 0)))) 36 g) (r 7 0) (rh r) := by
    refine ⟨?_, fun j hj => ?_⟩
    · rw [us_ne _ _ (by omega), us_self, upd_s]
    · rw [us_self, g1 j, if_pos ⟨Nat.zero_le _, hj⟩]
  have hm : F_X2_mostFrom 35 0 8191 (hp (us (us s 35 (upd (s 35) 1 (nI (r 7 0)))) 36 g) l q P) = some (nI (dkH r)) := most_ok (a := 0) (F := 8191) hD0 h5 (rh_lt r) (Nat.zero_le _) (by omega)
  obtain ⟨g', k1, _, k3⟩ := set_loop (l := l) (q := q) (P := P) h5 (rh_lt r) (r 7 0) 0 8191 (dkH r) 200 _ (hD (nI (dkH r))) (by omega) (by omega) (by omega) rfl
  refine ⟨us (us (us (us s 35 (upd (s 35) 1 (nI (r 7 0)))) 36 g) 35 (upd (upd (s 35) 1 (nI (r 7 0))) 3 (nI (dkH r)))) 37 g', ?_, ?_, ?_, fun i hi => ?_⟩
  · exact (((Eo.set 35 _ (by omega)).trans (Eo.set 36 _ (by omega))).trans (Eo.set 35 _ (by omega))).trans (Eo.set 37 _ (by omega))
  · have t35 : us (us s 35 (upd (s 35) 1 (nI (r 7 0)))) 36 g 35 = upd (s 35) 1 (nI (r 7 0)) := rfl
    have u3 : us (us (us s 35 (upd (s 35) 1 (nI (r 7 0)))) 36 g) 35 (upd (upd (s 35) 1 (nI (r 7 0))) 3 (nI (dkH r))) 35 3 = nI (dkH r) := by rw [us_self, upd_s]
    unfold F_X2_set
    simp only [G_gI, G_sI, sbd, e7]
    refine g2.trans ?_
    simp only [hm, sbd, G_sI, G_gI, t35, u3]
    exact k3
  · rw [us_ne _ _ (by omega), us_self, upd_s]
  · rw [us_self, k1 i (Nat.zero_le _) hi, dkI, if_pos hi]
end DM
