/-! DOCKET: the reference's answers, both sides -/
theorem mxl_le (φ : Nat → Bool) {B : Nat} (hp1 : ∀ g, pc g ≤ B) (k g acc : Nat) (h : acc ≤ B) : mxl φ k g acc ≤ B := by
  rcases (mxl_ok φ k g acc).2.2 with w | ⟨j, _, _, _, w⟩
  · omega
  · rw [w]; exact hp1 j
/-- the reference's tables -/
def Dr (s : Nat → Nat → Int32) (N : Nat) (R : Nat → Nat) : Prop := s 39 8 = nI N ∧ ∀ j, j < N → s 53 j = nI (R j)
section DO
variable {l : Nat → Nat → Int64} {q : Nat → Nat → Option Nat} {P : List Nat} {N : Nat} {R : Nat → Nat}
theorem b1_01 (m i : Nat) : b1 m i = if m.testBit i = true then 1 else 0 := rfl
theorem hoursFor_loop {s : Nat → Nat → Int32} (hD : Dr s N R) (hN : N ≤ 5) (hR : ∀ i, R i < 8192) {T K : Nat} (hT : T < 8192) (hK : K < 8192) : ∀ (k i acc f : Nat), acc < 8192 → i + k = N → k < f →
    F_X12_hoursFor_B5 39 (nI T) (nI K) (hp s l q P) f (nI acc) (nI i) = some (nI (pc (andn (uR R T k i acc) K)))
  | _, _, _, 0, _, _, hf => absurd hf (by omega)
  | 0, i, acc, f + 1, hacc, hi, _ => by
    have hs := size_ok (m := andn acc K) (by have := andn_lt (x := acc) (y := K) (by omega); omega)
    rw [F_X12_hoursFor_B5, uR]
    simp only [G_gI, sbd, hD.1, if_neg (show ¬ nI i < nI N from nI_nlt (by omega) (by omega)), n_andn hacc, hs]
  | k + 1, i, acc, f + 1, hacc, hi, hf => by
    have i5 : i < 5 := by omega
    have e1 : s 53 i = nI (R i) := hD.2 i (by omega)
    have ih := fun x hx => hoursFor_loop hD hN hR hT hK k (i + 1) x f hx (by omega) (by omega)
    rw [F_X12_hoursFor_B5, uR]
    simp only [G_gI, sbd, hD.1, if_pos (show nI i < nI N from nI_lt (by omega) (by omega)), isIn_ok (show T < 2147483648 by omega) (show i < 31 by omega), b1_01]
    cases hb : T.testBit i with
    | false =>
      rw [if_neg (show ¬ false = true by decide), if_pos (show nI 0 = 0 from rfl), if_neg (show ¬ false = true by decide)]
      simp only [nm, Int32.or_zero, nI_1]
      exact ih acc hacc
    | true =>
      rw [if_pos (show true = true from rfl), if_neg (show ¬ nI 1 = 0 by decide), if_pos (show true = true from rfl)]
      simp only [G_gR, G_ga, i5, sbd, e1, nm, n_or, nI_1]
      exact ih _ (Nat.or_lt_two_pow (n := 13) hacc (hR i))
theorem hoursFor_ok {s : Nat → Nat → Int32} (hD : Dr s N R) (hN : N ≤ 5) (hR : ∀ i, R i < 8192) {T K : Nat} (hT : T < 8192) (hK : K < 8192) : F_X12_hoursFor 39 (nI T) (nI K) (hp s l q P) = some (nI (pc (andn (uR R T N 0 0) K))) :=
  hoursFor_loop hD hN hR hT hK N 0 0 200 (by omega) (by omega) (by omega)
theorem canBe_loop {s : Nat → Nat → Int32} (hD : Dr s N R) (hN : N ≤ 5) (hR : ∀ i, R i < 8192) {x1 K : Nat} (h1 : x1 < 32) (hK : K < 8192) : ∀ (f : Nat) (c : Bool) (x4 : Nat), x4 < f → x4 < 32 →
    F_X12_canBe_B5 39 (nI x1) (nI K) (hp s l q P) f (b2 c) (nI x4) = some (b2 (cbl (phm N R K) x1 f c x4))
  | 0, _, _, hf, _ => absurd hf (Nat.not_lt_zero _)
  | f + 1, c, x4, hf, h4 => by
    rw [F_X12_canBe_B5, cbl]
    rcases Nat.eq_zero_or_pos x4 with w | w
    · rw [if_pos (show nI x4 ≤ 0 by rw [w]; decide), if_pos w]
      cases c <;> rfl
    · have hle : (x4 - 1) &&& x1 ≤ x4 - 1 := Nat.and_le_left
      have ih := fun c => canBe_loop hD hN hR h1 hK f c ((x4 - 1) &&& x1) (by omega) (by omega)
      have hh := hoursFor_ok (l := l) (q := q) (P := P) hD hN hR (show x4 < 8192 by omega) hK
      have hs := size_ok (m := x4) (by omega)
      have e1 : nI x4 - 1 = nI (x4 - 1) := n_subn (b := 1) (by omega)
      have z1 := pc_le x4
      have z2 := pc_le (andn (uR R x4 N 0 0) K)
      rw [if_neg (show ¬ nI x4 ≤ 0 from nI_nle w (by omega)), if_neg (show ¬ x4 = 0 by omega)]
      unfold F_X12_canBe_B34
      simp only [G_ko, sbd, hh, hs, nm, e1, n_and]
      cases c with
      | false =>
        rw [if_pos (show b2 false = 0 from rfl), Bool.false_and]
        exact ih false
      | true =>
        rw [if_neg (show ¬ b2 true = 0 by decide), Bool.true_and]
        by_cases g : pc x4 ≤ pc (andn (uR R x4 N 0 0) K)
        · have hp1 : phm N R K x4 = true := Nat.ble_eq_true_of_le g
          rw [if_neg (nI_nlt g (by omega)), hp1]
          exact ih true
        · have hp1 : phm N R K x4 = false := by
            unfold phm
            cases q : Nat.ble (pc x4) (pc (andn (uR R x4 N 0 0) K)) with
            | false => rfl
            | true => exact absurd (Nat.le_of_ble_eq_true q) g
          rw [if_pos (nI_lt (by omega) (by omega)), hp1]
          exact ih false
theorem canBe_ok {s : Nat → Nat → Int32} (hD : Dr s N R) (hN : N ≤ 5) (hR : ∀ i, R i < 8192) {x1 K : Nat} (h1 : x1 < 32) (hK : K < 8192) : F_X12_canBe 39 (nI x1) (nI K) (hp s l q P) = some (b2 (cbl (phm N R K) x1 200 true x1)) :=
  canBe_loop hD hN hR h1 hK 200 true x1 (by omega) h1
theorem rest_loop {s : Nat → Nat → Int32} (hD : Dr s N R) (hN : N ≤ 5) (hR : ∀ i, R i < 8192) {a K : Nat} (ha : a ≤ 5) (hK : K < 8192) : ∀ (k g v f : Nat), v ≤ 13 → g + k = 2 ^ N → k < f →
    F_X12_restFrom_B5 39 (nI a) (nI K) (hp s l q P) f (nI v) (nI g) = some (nI (mxl (cw N R a K) k g v))
  | _, _, _, 0, _, _, hf => absurd hf (by omega)
  | 0, g, v, f + 1, hv, hg, _ => by
    have h32 : 2 ^ N ≤ 2 ^ 5 := Nat.pow_le_pow_right (by decide) hN
    rw [F_X12_restFrom_B5, mxl]
    simp only [G_gI, sbd, hD.1, n_shl N (by omega), if_neg (show ¬ nI g < nI (2 ^ N) from nI_nlt (by omega) (by omega))]
  | k + 1, g, v, f + 1, hv, hg, hf => by
    have h32 : 2 ^ N ≤ 2 ^ 5 := Nat.pow_le_pow_right (by decide) hN
    have ha32 : 2 ^ a ≤ 2 ^ 5 := Nat.pow_le_pow_right (by decide) ha
    have hap : 0 < 2 ^ a := Nat.pow_pos (by decide)
    have ih := fun v hv => rest_loop hD hN hR ha hK k (g + 1) v f hv (by omega) (by omega)
    have e1 : nI (2 ^ a) - 1 = nI (2 ^ a - 1) := n_subn (b := 1) (by omega)
    have hs := size_ok (m := g) (by omega)
    have hc := canBe_ok (l := l) (q := q) (P := P) hD hN hR (show g < 32 by omega) hK
    have z1 := pc_le g
    have hmod : g % 2 ^ a < 2 ^ a := Nat.mod_lt _ hap
    rw [F_X12_restFrom_B5, mxl]
    unfold F_X12_restFrom_B32
    simp only [G_gI, G_ko, sbd, hD.1, n_shl N (show N < 31 by omega), n_shl a (show a < 31 by omega), if_pos (show nI g < nI (2 ^ N) from nI_lt (by omega) (by omega)), e1, n_and, Nat.and_two_pow_sub_one_eq_mod, hs, hc, nI_1, reduceIte, if_neg (show ¬ (1 : Int32) = 0 by decide)]
    have c0 : nI (g % 2 ^ a) = 0 ↔ g % 2 ^ a = 0 := by
      show nI (g % 2 ^ a) = nI 0 ↔ _
      exact nI_eq (by omega) (by omega)
    by_cases g0 : g % 2 ^ a = 0
    · rw [if_pos (c0.mpr g0)]
      by_cases g1 : v < pc g
      · rw [if_neg (nI_ge g1 (by omega))]
        cases g2 : cbl (phm N R K) g 200 true g with
        | false =>
          have hw : ¬ (v < pc g ∧ cw N R a K g = true) := fun w => by
            have := (Bool.and_eq_true_iff.mp w.2).2
            rw [g2] at this; cases this
          rw [if_pos (show b2 false = 0 from rfl), if_neg hw]
          exact ih v hv
        | true =>
          have hw : v < pc g ∧ cw N R a K g = true := ⟨g1, by unfold cw; rw [beq_t g0, g2]; rfl⟩
          rw [if_neg (show ¬ b2 true = 0 by decide), if_pos hw]
          exact ih _ z1
      · rw [if_pos (nI_le (by omega) (by omega)), if_neg (fun w => g1 w.1)]
        exact ih v hv
    · have hw : ¬ (v < pc g ∧ cw N R a K g = true) := fun w => g0 (Nat.eq_of_beq_eq_true (Bool.and_eq_true_iff.mp w.2).1)
      rw [if_neg (fun w => g0 (c0.mp w)), if_neg hw]
      exact ih v hv
theorem rest_ok {s : Nat → Nat → Int32} (hD : Dr s N R) (hN : N ≤ 5) (hR : ∀ i, R i < 8192) {a F K : Nat} (ha : a ≤ N) (hF : Fr F K) : F_X12_restFrom 39 (nI a) (nI K) (hp s l q P) = some (nI (mx N R a F)) := by
  have h32 : 2 ^ N ≤ 2 ^ 5 := Nat.pow_le_pow_right (by decide) hN
  rw [← rf_mx ha hN hF]
  exact rest_loop hD hN hR (by omega) hF.2.1 (2 ^ N) 0 0 200 (by omega) (by omega) (by omega)
theorem Fr_next {F K e : Nat} (h : Fr F K) (he : e < 13) : Fr (andn F (2 ^ e)) (K ||| 2 ^ e) := by
  refine ⟨andn_lt h.1, Nat.or_lt_two_pow (n := 13) h.2.1 (p2_lt he), fun j hj => ?_⟩
  rw [bit_less hj, Nat.testBit_or, h.2.2 j hj]
  by_cases w : j = e
  · rw [w, decide_eq_true rfl, Nat.testBit_two_pow_self]; simp
  · rw [decide_eq_false w, Nat.testBit_two_pow_of_ne (fun x => w x.symm)]; simp
theorem hour_loop {s : Nat → Nat → Int32} (hD : Dr s N R) (hN : N ≤ 5) (hR : ∀ i, R i < 8192) {a F K left : Nat} (ha : a < N) (hF : Fr F K) (hl : left ≤ 5) (hlt : mx N R (a + 1) F < left) : ∀ (k e f : Nat), e + k = 13 → k < f → (∃ e2, e ≤ e2 ∧ e2 < e + k ∧ hq N R a F left e2 = true) →
    F_X12_hourFor_B3 39 (nI a) (nI K) (nI left) (hp s l q P) f (nI e) = some (nI (fst (hq N R a F left) k e))
  | _, _, 0, _, hf, _ => absurd hf (by omega)
  | 0, e, f + 1, he, _, hx => by obtain ⟨e2, h1, h2, _⟩ := hx; omega
  | k + 1, e, f + 1, he, hf, hx => by
    have e31 : e < 31 := by omega
    have e13 : e < 13 := by omega
    have a5 : a < 5 := by omega
    have e1 : s 53 a = nI (R a) := hD.2 a ha
    have hm := rest_ok (l := l) (q := q) (P := P) hD hN hR (show a + 1 ≤ N by omega) (Fr_next hF e13)
    have hml := mx_le (F := andn F (2 ^ e)) R (show a + 1 ≤ N by omega) (by omega)
    have hmo := Hx_mono (F := andn F (2 ^ e)) (F' := F) (fun j hj hb => by
      rw [bit_less hj] at hb
      exact (Bool.and_eq_true_iff.mp hb).1) (Hx_mx (N := N) (a := a + 1) (F := andn F (2 ^ e)) R (by omega) (by omega)) (Hx_mx (N := N) (a := a + 1) (F := F) R (by omega) (by omega))
    have e2 : nI left - 1 = nI (left - 1) := n_subn (b := 1) (by omega)
    have hi := isIn_ok (m := andn (R a) K) (i := e) (by have := andn_lt (x := R a) (y := K) (hR a); omega) (by omega)
    have hbit : (andn (R a) K).testBit e = ((R a).testBit e && F.testBit e) := by rw [andn_bit e13, hF.2.2 e e13]
    rw [b1_01, hbit] at hi
    rw [F_X12_hourFor_B3, fst]
    simp only [G_gR, G_ga, a5, G_ko, sbd, e1, n_andn (hR a), hi, n_shl e e31, n_or, nI_1, hm, e2]
    have c1 : nI (mx N R (a + 1) (andn F (2 ^ e))) = nI (left - 1) ↔ left ≤ 1 + mx N R (a + 1) (andn F (2 ^ e)) := by
      rw [nI_eq (by omega) (by omega)]; omega
    have ih := fun hh => hour_loop hD hN hR ha hF hl hlt k (e + 1) f (by omega) (by omega) hh
    have hmove : hq N R a F left e = false → ∃ e2, e + 1 ≤ e2 ∧ e2 < e + 1 + k ∧ hq N R a F left e2 = true := fun hn => by
      obtain ⟨e2, h1, h2, h3⟩ := hx
      refine ⟨e2, ?_, by omega, h3⟩
      rcases Nat.lt_or_ge e e2 with w | w
      · omega
      · rw [show e2 = e by omega, hn] at h3; cases h3
    cases hb : ((R a).testBit e && F.testBit e) with
    | false =>
      have hn : hq N R a F left e = false := by
        unfold hq
        rw [hb]; rfl
      rw [if_neg (show ¬ false = true by decide), if_pos (show nI 0 = 0 from rfl), hn, if_neg (show ¬ false = true by decide)]
      exact ih (hmove hn)
    | true =>
      rw [if_pos (show true = true from rfl), if_neg (show ¬ nI 1 = 0 by decide)]
      by_cases g : left ≤ 1 + mx N R (a + 1) (andn F (2 ^ e))
      · have hn : hq N R a F left e = true := by
          unfold hq
          rw [hb, Nat.ble_eq_true_of_le g]; rfl
        rw [if_pos (c1.mpr g), hn, if_pos rfl]
      · have hn : hq N R a F left e = false := by
          unfold hq
          cases q : Nat.ble left (1 + mx N R (a + 1) (andn F (2 ^ e))) with
          | false => rw [Bool.and_false]
          | true => exact absurd (Nat.le_of_ble_eq_true q) g
        rw [if_neg (fun w => g (c1.mp w)), hn, if_neg (show ¬ false = true by decide)]
        exact ih (hmove hn)
theorem lay_loop2 (hN : N ≤ 5) (hR : ∀ i, R i < 8192) {V : Int32} : ∀ (k a F K left f : Nat) (s : Nat → Nat → Int32), Dr s N R → a + k = N → k < f → Fr F K → left = mx N R a F → (∀ i, a ≤ i → s 54 i = -1 ∨ 5 ≤ i) →
    ∃ g : Nat → Int32, (∀ i, a ≤ i → i < N → g i = dks N R k a F left i) ∧ (∀ i, i < a ∨ N ≤ i → g i = s 54 i) ∧ F_X12_layDocket_B38 39 V f (nI left) (nI K) (nI a) (hp s l q P) = some (V, hp (us s 54 g) l q P)
  | _, _, _, _, _, 0, _, _, _, hf, _, _, _ => absurd hf (by omega)
  | 0, a, F, K, left, f + 1, s, hD, ha, _, _, _, _ => by
    refine ⟨s 54, fun i h1 h2 => absurd h1 (by omega), fun _ _ => rfl, ?_⟩
    rw [us_id, F_X12_layDocket_B38]
    simp only [G_gI, sbd, hD.1, if_neg (show ¬ nI a < nI N from nI_nlt (by omega) (by omega))]
  | k + 1, a, F, K, left, f + 1, s, hD, ha, hf, hF, hl, h54 => by
    have a5 : a < 5 := by omega
    have lt : nI a < nI N := nI_lt (by omega) (by omega)
    have hm := rest_ok (l := l) (q := q) (P := P) hD hN hR (show a + 1 ≤ N by omega) hF
    have hml := mx_le (F := F) R (show a ≤ N by omega) (by omega)
    have hml2 := mx_le (F := F) R (show a + 1 ≤ N by omega) (by omega)
    have hD2 : ∀ v, Dr (us s 54 (upd (s 54) a v)) N R := fun _ => hD
    rw [F_X12_layDocket_B38]
    simp only [G_gI, G_gR, G_ko, sbd, hD.1, if_pos lt, nI_1, hm]
    by_cases g : left ≤ mx N R (a + 1) F
    · rw [if_neg (nI_nlt g (by omega))]
      obtain ⟨gg, g1, g2, g3⟩ := lay_loop2 hN hR (V := V) k (a + 1) F K left f s hD (by omega) (by omega) hF (mx_same (by omega) (by omega) hl g) (fun i hi => h54 i (by omega))
      refine ⟨gg, fun i h3 h4 => ?_, fun i h3 => g2 i (by omega), g3⟩
      rw [dks, if_pos g]
      by_cases w : i = a
      · rw [if_pos w, g2 i (by omega)]
        rcases h54 i (by omega) with x | x
        · exact x
        · omega
      · rw [if_neg w]; exact g1 i (by omega) h4
    · rw [if_pos (nI_lt (by omega) (by omega))]
      have h2 := fh_ok (show a < N by omega) (by omega) hl (by omega)
      have hnx := mx_next (show a < N by omega) (by omega) (by omega) h2.2
      have e31 : fh N R a F left < 31 := by omega
      have hh : F_X12_hourFor 39 (nI a) (nI K) (nI left) (hp s l q P) = some (nI (fh N R a F left)) := hour_loop hD hN hR (show a < N by omega) hF (by omega) (by omega) 13 0 200 rfl (by omega) ⟨fh N R a F left, by omega, by omega, h2.2⟩
      obtain ⟨gg, g1, g2, g3⟩ := lay_loop2 hN hR (V := V) k (a + 1) (andn F (2 ^ fh N R a F left)) (K ||| 2 ^ fh N R a F left) (left - 1) f _ (hD2 (nI (fh N R a F left))) (by omega) (by omega) (Fr_next hF h2.1) hnx (fun i hi => by
        rw [us_self, upd_n _ (by omega)]
        exact h54 i (by omega))
      rw [us_us] at g3
      have w1 : nI left + (-1) = nI (left - 1) := by
        have := n_m1 (left - 1)
        rw [show left - 1 + 1 = left by omega] at this
        exact this
      refine ⟨gg, fun i h3 h4 => ?_, fun i h3 => ?_, ?_⟩
      · rw [dks, if_neg g]
        by_cases w : i = a
        · rw [if_pos w, g2 i (by omega), us_self, w, upd_s]
        · rw [if_neg w]; exact g1 i (by omega) h4
      · rw [g2 i (by omega), us_self, upd_n _ (by omega)]
      · simp only [hh, sbd, G_sa, G_ga, G_gR, a5, nr, u_up, nm, n_shl _ e31, n_or, w1]
        exact g3
end DO
section DP
variable {s : Nat → Nat → Int32} {l : Nat → Nat → Int64} {q : Nat → Nat → Option Nat} {P : List Nat} {r : Nat → Nat → Nat}
theorem lay_none (hO : Ok r) : ∀ (k i f : Nat) (s : Nat → Nat → Int32), Dr s (r 7 0) (rh r) → i + k = 5 → k < f → ∃ g : Nat → Int32, (∀ j, g j = if i ≤ j ∧ j < 5 then -1 else s 54 j) ∧ F_X12_layDocket_B6 39 f (nI i) (hp s l q P) = F_X12_layDocket_B38 39 (nI (dkH r)) 200 (nI (dkH r)) 0 0 (hp (us s 54 g) l q P)
  | _, _, 0, _, _, _, hf => absurd hf (by omega)
  | 0, i, f + 1, s, hD, hi, _ => by
    have hm : F_X12_restFrom 39 0 0 (hp s l q P) = some (nI (dkH r)) := rest_ok (a := 0) (F := 8191) (K := 0) hD hO.2.2.2.2.2.2.2.1 (rh_lt r) (Nat.zero_le _) ⟨by omega, by omega, fun e he => by
      rw [Nat.zero_testBit, show (8191 : Nat) = 2 ^ 13 - 1 from rfl, Nat.testBit_two_pow_sub_one]; simp [he]⟩
    refine ⟨s 54, fun j => by rw [if_neg (by omega)], ?_⟩
    rw [us_id, F_X12_layDocket_B6, if_neg (show ¬ nI i < 5 from nI_nlt (b := 5) (by omega) (by omega))]
    simp only [G_ko, sbd, hm]
  | k + 1, i, f + 1, s, hD, hi, hf => by
    have i5 : i < 5 := by omega
    have hD2 : Dr (us s 54 (upd (s 54) i (-1))) (r 7 0) (rh r) := hD
    obtain ⟨g, g1, g2⟩ := lay_none hO k (i + 1) f _ hD2 (by omega) (by omega)
    rw [us_us] at g2
    refine ⟨g, fun j => ?_, ?_⟩
    · rw [g1 j, us_self]
      by_cases w : j = i
      · subst w
        rw [if_neg (by omega), if_pos (by omega), upd_s]
      · by_cases w2 : i + 1 ≤ j ∧ j < 5
        · rw [if_pos w2, if_pos (by omega)]
        · rw [if_neg w2, if_neg (by omega), upd_n _ w]
    · rw [F_X12_layDocket_B6, if_pos (show nI i < 5 from nI_lt (b := 5) (by omega) (by omega))]
      simp only [G_gR, G_sa, i5, sbd, nr, nI_1]
      exact g2
theorem layDocket_ok (hM : Md s r) (hO : Ok r) : ∃ s', Em s s' ∧ F_X12_layDocket 39 (hp s l q P) = some (nI (dkH r), hp s' l q P) ∧ ∀ i, i < 5 → s' 54 i = dkI r i := by
  have h5 : r 7 0 ≤ 5 := hO.2.2.2.2.2.2.2.1
  obtain ⟨g, g1, g2⟩ := lay_right (l := l) (q := q) (P := P) hO (r 7 0) 0 200 s hM (by omega) (by omega)
  have hM1 : Md (us s 53 g) r := hM
  have hD : Dr (us s 53 g) (r 7 0) (rh r) := ⟨hM.1.2.2.2.1, fun j hj => by rw [us_self, g1 j, if_pos ⟨Nat.zero_le _, hj⟩]⟩
  obtain ⟨g', k1, k2⟩ := lay_none (l := l) (q := q) (P := P) hO 5 0 200 _ hD rfl (by omega)
  have hD2 : Dr (us (us s 53 g) 54 g') (r 7 0) (rh r) := hD
  obtain ⟨g3, m1, m2, m3⟩ := lay_loop2 (l := l) (q := q) (P := P) (V := nI (dkH r)) h5 (rh_lt r) (r 7 0) 0 8191 0 (dkH r) 200 _ hD2 (by omega) (by omega) ⟨by omega, by omega, fun e he => by
      rw [Nat.zero_testBit, show (8191 : Nat) = 2 ^ 13 - 1 from rfl, Nat.testBit_two_pow_sub_one]; simp [he]⟩ rfl (fun i _ => by
    rw [us_self, k1 i]
    rcases Nat.lt_or_ge i 5 with w | w
    · left; rw [if_pos ⟨Nat.zero_le _, w⟩]
    · exact Or.inr w)
  rw [us_us] at m3
  refine ⟨us (us s 53 g) 54 g3, (Em.set 53 g (by omega)).trans (Em.set 54 g3 (by omega)), ?_, fun i hi => ?_⟩
  · unfold F_X12_layDocket
    have hg : F_X12_layGood 39 (hp s l q P) = some (hp (us s 53 g) l q P) := g2
    simp only [G_ko, sbd, hg]
    exact k2.trans m3
  · rw [us_self]
    unfold dkI
    rcases Nat.lt_or_ge i (r 7 0) with w | w
    · rw [if_pos w]; exact m1 i (Nat.zero_le _) w
    · rw [if_neg (by omega), m2 i (Or.inr w), us_self, k1 i, if_pos ⟨Nat.zero_le _, hi⟩]
/-- what docket answers -/
def dkV (r : Nat → Nat → Nat) (w : Nat) : Int32 := if w = 0 then nI (dkH r) else dkI r (w - 10)
theorem docket_c (hC : Ct s q P 6 r) (hO : Ok r) (h0 : 0 < r 0 0) {w : Nat} (hw : w = 0 ∨ (10 ≤ w ∧ w ≤ 14)) : ∃ s', Eo s s' ∧ F_X11_docket 3 (nI w) (hp s l q P) = some (dkV r w, hp s' l q P) := by
  have h5 : r 7 0 ≤ 5 := hO.2.2.2.2.2.2.2.1
  obtain ⟨s', a1, a2, a3, a4⟩ := set_ok (l := l) hC hO
  have e7 : s' 6 7 = nI (r 7 0) := by rw [a1 6 (by omega)]; exact hC.1.2.2.2.1
  refine ⟨s', a1, ?_⟩
  unfold F_X11_docket F_X11_docket_B20 dkV
  simp only [X11_within, X11_isTile, X11_isHour, sbd, G_gR, G_ko, G_gI, none_ok hC hO, if_neg (show ¬ r 0 0 = 0 by omega), reduceIte, a2, a3, e7]
  rcases hw with w0 | ⟨w1, w2⟩
  · subst w0
    rw [if_pos (show nI 0 = 0 from rfl), if_pos (show wi (nI 0) 10 14 = 0 from rfl), if_pos rfl]
  · have e1 : wi (nI w) 10 14 = 1 := wi_one (lo := 10) (hi := 14) w1 w2 (by omega)
    have e2 : nI w - 10 = nI (w - 10) := n_subn (b := 10) w1
    have i5 : w - 10 < 5 := by omega
    have z : ¬ (1 : Int32) = 0 := by decide
    rw [e1, if_neg (nI_ne0 (by omega) (by omega)), if_neg z, if_neg (show ¬ w = 0 by omega)]
    simp only [if_neg z, e2]
    by_cases g : w - 10 < r 7 0
    · rw [if_pos (nI_lt g (by omega))]
      simp only [G_ga, i5, sbd, a4 _ g]
    · rw [if_neg (nI_nlt (by omega) (by omega))]
      unfold dkI
      rw [if_neg g]
end DP
section DQ
variable {M : Nat}
theorem wi_1014 (a : Int32) : wi a 10 14 = 0 ∨ (wi a 10 14 = 1 ∧ ∃ t, (10 ≤ t ∧ t ≤ 14) ∧ a = nI t) := by
  rcases wi_cases a 10 14 (by omega) (by omega) with h | ⟨h, t, h1, h2, h3⟩
  · exact Or.inl h
  · exact Or.inr ⟨h, t, ⟨h1, h2⟩, h3⟩
theorem go_docket (a : Int32) : Go M (F_X11_docket 3 a) (F_X12_docket 39 a) := by
  rintro s l q P ⟨r, k, pg, n, c, b, hC, hM, hO⟩
  have n5 := hO.1.n5
  have z : ¬ (1 : Int32) = 0 := by decide
  have hin : (∃ w, (w = 0 ∨ (10 ≤ w ∧ w ≤ 14)) ∧ a = nI w) ∨ (¬ a = 0 ∧ wi a 10 14 = 0) := by
    by_cases h0 : a = 0
    · exact Or.inl ⟨0, Or.inl rfl, h0⟩
    · rcases wi_1014 a with h1 | ⟨h1, t, h2, h3⟩
      · exact Or.inr ⟨h0, h1⟩
      · exact Or.inl ⟨t, Or.inr h2, h3⟩
  rcases hin with ⟨w, hw, rfl⟩ | ⟨h0, h1⟩
  · by_cases g0 : r 0 0 = 0
    · have e0 : s 39 1 = 0 := by
        rw [hM.1.1.1, g0]; rfl
      refine ⟨-103, s, s, l, l, q, P, ?_, ?_, r, k, pg, n, c, b, hC, hM, hO.up⟩
      · have hB : ∀ v, F_X11_docket_B20 3 (nI w) v (hp s l q P) = some (-103, hp s l q P) := fun v => by
          unfold F_X11_docket_B20
          simp only [G_gR, G_ko, sbd, none_ok hC.1 hO.1, if_pos g0, if_neg z]
        unfold F_X11_docket
        simp only [X11_within, X11_isTile, X11_isHour, sbd, hB]
        rcases hw with w0 | ⟨w1, w2⟩
        · rw [if_pos (by rw [w0]; rfl)]
        · rw [if_neg (nI_ne0 (by omega) (by omega)), if_neg (by rw [show wi (nI w) 10 14 = 1 from wi_one (lo := 10) (hi := 14) w1 w2 (by omega)]; decide)]
      · have hB : F_X12_docket_B18 39 (nI w) (hp s l q P) = some (-103, hp s l q P) := by
          unfold F_X12_docket_B18
          simp only [G_gI, sbd, e0, reduceIte]
        unfold F_X12_docket
        simp only [X12_within, sbd, hB]
        rcases hw with w0 | ⟨w1, w2⟩
        · rw [if_pos (by rw [w0]; rfl)]
        · rw [if_neg (nI_ne0 (by omega) (by omega)), if_neg (by rw [show wi (nI w) 10 14 = 1 from wi_one (lo := 10) (hi := 14) w1 w2 (by omega)]; decide)]
    · obtain ⟨s1, a1, a2⟩ := docket_c (l := l) hC.1 hO.1 (show 0 < r 0 0 by omega) hw
      have hM1 := hM.eo a1
      obtain ⟨s2, b1, b2', b3⟩ := layDocket_ok (l := l) (q := q) (P := P) hM1.1 hO.1
      have e0 : ¬ nI (r 0 0) = 0 := nI_ne0 (by omega) (by omega)
      refine ⟨dkV r w, s1, s2, l, l, q, P, a2, ?_, r, k, pg, n, c, b, (hC.fr (fun a ha => a1 a (by omega))).fr (fun a ha => b1.1 a (by omega)), hM1.em b1, hO.up⟩
      have hB : F_X12_docket_B18 39 (nI w) (hp s1 l q P) = some (dkV r w, hp s2 l q P) := by
        unfold F_X12_docket_B18 dkV
        simp only [G_gI, G_ko, sbd, hM1.1.1.1, if_neg e0, b2', bd2_s]
        rcases hw with w0 | ⟨w1, w2⟩
        · rw [if_pos (show nI w = 0 by rw [w0]; rfl), if_pos w0]
        · have e2 : nI w - 10 = nI (w - 10) := n_subn (b := 10) w1
          have i5 : w - 10 < 5 := by omega
          rw [if_neg (nI_ne0 (by omega) (by omega)), if_neg (show ¬ w = 0 by omega)]
          simp only [G_gR, e2, G_ga, i5, sbd, b3 _ i5]
      unfold F_X12_docket
      simp only [X12_within, sbd, hB]
      rcases hw with w0 | ⟨w1, w2⟩
      · rw [if_pos (by rw [w0]; rfl)]
      · rw [if_neg (nI_ne0 (by omega) (by omega)), if_neg (by rw [show wi (nI w) 10 14 = 1 from wi_one (lo := 10) (hi := 14) w1 w2 (by omega)]; decide)]
  · refine ⟨-102, s, s, l, l, q, P, ?_, ?_, r, k, pg, n, c, b, hC, hM, hO.up⟩
    · unfold F_X11_docket
      simp only [X11_within, X11_isTile, X11_isHour, sbd, if_neg h0, h1, reduceIte]
    · unfold F_X12_docket
      simp only [X12_within, sbd, if_neg h0, h1, reduceIte]
end DQ
