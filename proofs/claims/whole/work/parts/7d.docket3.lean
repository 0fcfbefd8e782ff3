/-! DOCKET: the reference -/
/-- all submasks of x1 from x4 down -/
def cbl (φ : Nat → Bool) (x1 : Nat) : Nat → Bool → Nat → Bool
  | 0, c, _ => c
  | f + 1, c, x4 => if x4 = 0 then c else cbl φ x1 f (c && φ x4) ((x4 - 1) &&& x1)
set_option maxRecDepth 100000 in
theorem sub_le0 : ∀ x1, x1 < 32 → ∀ x4, x4 < 32 → ∀ T, T < 32 → (Nat.blt T x4 && Nat.beq (x4 &&& x1) x4 && Nat.beq (T &&& x1) T && Nat.blt ((x4 - 1) &&& x1) T) = false := by decide +kernel
theorem sub_le (x1 : Nat) (h1 : x1 < 32) (x4 : Nat) (h4 : x4 < 32) (T : Nat) (hT : T < 32) (hlt : T < x4) (ha : x4 &&& x1 = x4) (hb : T &&& x1 = T) : T ≤ (x4 - 1) &&& x1 := by
  have h := sub_le0 x1 h1 x4 h4 T hT
  have e1 : Nat.blt T x4 = true := Nat.ble_eq_true_of_le hlt
  rw [e1, beq_t ha, beq_t hb] at h
  rcases Nat.lt_or_ge ((x4 - 1) &&& x1) T with w | w
  · have e2 : Nat.blt ((x4 - 1) &&& x1) T = true := Nat.ble_eq_true_of_le w
    rw [e2] at h
    cases h
  · exact w
theorem cbl_ok (φ : Nat → Bool) {x1 : Nat} (h1 : x1 < 32) : ∀ (f : Nat) (c : Bool) (x4 : Nat), x4 < f → x4 &&& x1 = x4 → (cbl φ x1 f c x4 = true ↔ c = true ∧ ∀ T, 0 < T → T ≤ x4 → T &&& x1 = T → φ T = true)
  | 0, _, _, hf, _ => absurd hf (Nat.not_lt_zero _)
  | f + 1, c, x4, hf, hs => by
    have hx : x4 ≤ x1 := by rw [← hs]; exact Nat.and_le_right
    unfold cbl
    by_cases h0 : x4 = 0
    · rw [if_pos h0]
      constructor
      · intro h
        exact ⟨h, fun T t1 t2 => absurd t1 (by omega)⟩
      · intro h; exact h.1
    · rw [if_neg h0]
      have hle : (x4 - 1) &&& x1 ≤ x4 - 1 := Nat.and_le_left
      have hs2 : ((x4 - 1) &&& x1) &&& x1 = (x4 - 1) &&& x1 := by rw [Nat.and_assoc, Nat.and_self]
      rw [cbl_ok φ h1 f _ _ (by omega) hs2, Bool.and_eq_true_iff]
      constructor
      · rintro ⟨⟨a1, a2⟩, a3⟩
        refine ⟨a1, fun T t1 t2 t3 => ?_⟩
        by_cases e : T = x4
        · rw [e]; exact a2
        · exact a3 T t1 (sub_le x1 h1 x4 (by omega) T (by omega) (by omega) hs t3) t3
      · rintro ⟨a1, a2⟩
        exact ⟨⟨a1, a2 x4 (by omega) (Nat.le_refl _) hs⟩, fun T t1 t2 t3 => a2 T t1 (by omega) t3⟩
def phm (N : Nat) (R : Nat → Nat) (K T : Nat) : Bool := Nat.ble (pc T) (pc (andn (uR R T N 0 0) K))
def cw (N : Nat) (R : Nat → Nat) (a K g : Nat) : Bool := Nat.beq (g % 2 ^ a) 0 && cbl (phm N R K) g 200 true g
def mxl (φ : Nat → Bool) : Nat → Nat → Nat → Nat
  | 0, _, acc => acc
  | k + 1, g, acc => mxl φ k (g + 1) (if acc < pc g ∧ φ g = true then pc g else acc)
theorem mxl_ok (φ : Nat → Bool) : ∀ k g acc, acc ≤ mxl φ k g acc ∧ (∀ j, g ≤ j → j < g + k → φ j = true → pc j ≤ mxl φ k g acc) ∧ (mxl φ k g acc = acc ∨ ∃ j, g ≤ j ∧ j < g + k ∧ φ j = true ∧ mxl φ k g acc = pc j)
  | 0, g, acc => ⟨Nat.le_refl _, fun j h1 h2 => absurd h1 (by omega), Or.inl rfl⟩
  | k + 1, g, acc => by
    have ih := mxl_ok φ k (g + 1) (if acc < pc g ∧ φ g = true then pc g else acc)
    unfold mxl
    revert ih
    generalize mxl φ k (g + 1) (if acc < pc g ∧ φ g = true then pc g else acc) = v
    intro ih
    by_cases h : acc < pc g ∧ φ g = true
    · rw [if_pos h] at ih
      refine ⟨by omega, fun j h1 h2 h3 => ?_, ?_⟩
      · by_cases e : j = g
        · rw [e]; exact ih.1
        · exact ih.2.1 j (by omega) (by omega) h3
      · rcases ih.2.2 with w | ⟨j, w1, w2, w3, w4⟩
        · exact Or.inr ⟨g, by omega, by omega, h.2, w⟩
        · exact Or.inr ⟨j, by omega, by omega, w3, w4⟩
    · rw [if_neg h] at ih
      refine ⟨ih.1, fun j h1 h2 h3 => ?_, ?_⟩
      · by_cases e : j = g
        · rw [e] at h3 ⊢
          have : ¬ acc < pc g := fun w => h ⟨w, h3⟩
          omega
        · exact ih.2.1 j (by omega) (by omega) h3
      · rcases ih.2.2 with w | ⟨j, w1, w2, w3, w4⟩
        · exact Or.inl w
        · exact Or.inr ⟨j, by omega, by omega, w3, w4⟩
/-- what is free and what is taken -/
def Fr (F K : Nat) : Prop := F < 8192 ∧ K < 8192 ∧ ∀ e, e < 13 → F.testBit e = !(K.testBit e)
theorem gR_f {N g F K : Nat} {R : Nat → Nat} (hg : g < 2 ^ N) (hF : Fr F K) : pc (andn (uR R g N 0 0) K) = fN N R F (fun i => g.testBit i) := by
  refine Cn_ext 13 0 (fun e _ he => beq_of ?_)
  show (andn (uR R g N 0 0) K).testBit e = true ↔ _
  rw [andn_bit (by omega), uR_bit, Nat.zero_testBit, Bool.false_or, Bool.and_eq_true_iff, anyB_iff, nb_iff, hF.2.2 e (by omega)]
  constructor
  · rintro ⟨⟨j, _, h2, h3⟩, h4⟩
    have h3 := Bool.and_eq_true_iff.mp h3
    exact ⟨h4, j, by omega, h3.1, h3.2⟩
  · rintro ⟨h4, j, h2, h3, h5⟩
    refine ⟨⟨j, by omega, by omega, ?_⟩, h4⟩
    show (g.testBit j && (R j).testBit e) = true
    rw [h3, h5]; rfl
theorem Mk_set {N : Nat} {X : Nat → Bool} : Mk X N 0 0 < 2 ^ N ∧ ∀ i, i < N → (Mk X N 0 0).testBit i = X i := by
  have := Mk_lt X N 0 0 (by decide)
  rw [Nat.zero_add] at this
  refine ⟨this, fun i hi => ?_⟩
  rw [Mk_bit, Nat.zero_testBit, Bool.false_or, decide_eq_true (show 0 ≤ i by omega), decide_eq_true (show i < 0 + N by omega)]
  simp
def rf (N : Nat) (R : Nat → Nat) (a K : Nat) : Nat := mxl (cw N R a K) (2 ^ N) 0 0
theorem Rx_rf {N a F K : Nat} {R : Nat → Nat} (hN : N ≤ 5) (hF : Fr F K) : Rx N R a F (rf N R a K) := by
  have h32 : 2 ^ N ≤ 2 ^ 5 := Nat.pow_le_pow_right (by decide) hN
  have hm := mxl_ok (cw N R a K) (2 ^ N) 0 0
  refine ⟨fun X hX hI => ?_, ?_⟩
  · obtain ⟨g1, g2⟩ := Mk_set (N := N) (X := X)
    revert g1 g2
    generalize Mk X N 0 0 = g
    intro g1 g2
    have e1 : Cn X N 0 = pc g := by
      rw [pc_cut g1 (by omega)]
      exact Cn_ext N 0 (fun j _ hj => (g2 j (by omega)).symm)
    rw [e1]
    refine hm.2.1 g (by omega) (by omega) ?_
    unfold cw
    rw [Bool.and_eq_true_iff]
    constructor
    · apply beq_t
      apply Nat.eq_of_testBit_eq
      intro j
      rw [Nat.testBit_mod_two_pow, Nat.zero_testBit]
      rcases Nat.lt_or_ge j a with w | w
      · rcases Nat.lt_or_ge j N with w2 | w2
        · rw [g2 j w2]
          cases q : X j with
          | false => simp
          | true => have := (hX j q).1; omega
        · rw [bit_hi g1 w2]; simp
      · rw [decide_eq_false (by omega)]; rfl
    · refine (cbl_ok _ (by omega) 200 true g (by omega) (Nat.and_self _)).mpr ⟨rfl, fun T t1 t2 t3 => ?_⟩
      refine Nat.ble_eq_true_of_le ?_
      have hT : T < 2 ^ N := by omega
      rw [gR_f hT hF, pc_cut hT (by omega)]
      refine hI (fun i => T.testBit i) (fun i hi => ?_)
      have hi : T.testBit i = true := hi
      have hiN : i < N := by
        rcases Nat.lt_or_ge i N with w | w
        · exact w
        · rw [bit_hi hT w] at hi; cases hi
      rw [← g2 i hiN]
      rw [← t3, Nat.testBit_and] at hi
      exact (Bool.and_eq_true_iff.mp hi).2
  · rcases hm.2.2 with w | ⟨g, w1, w2, w3, w4⟩
    · refine ⟨fun _ => false, (fun i hi => by cases hi), fun T hT => ?_, ?_⟩
      · rw [Cn_no N 0 (fun j _ _ => by
          cases q : T j with
          | false => rfl
          | true => cases hT j q)]
        exact Nat.zero_le _
      · rw [Cn_no N 0 (fun _ _ _ => rfl)]
        exact w.symm
    · have g1 : g < 2 ^ N := by omega
      have w3 := Bool.and_eq_true_iff.mp w3
      have c := (cbl_ok (phm N R K) (show g < 32 by omega) 200 true g (by omega) (Nat.and_self _)).mp w3.2
      refine ⟨fun i => g.testBit i, fun i hi => ?_, fun T hT => ?_, ?_⟩
      · have hi : g.testBit i = true := hi
        constructor
        · rcases Nat.lt_or_ge i a with w | w
          · have h0 : (g % 2 ^ a).testBit i = false := by rw [Nat.eq_of_beq_eq_true w3.1]; exact Nat.zero_testBit i
            rw [Nat.testBit_mod_two_pow, decide_eq_true w, hi] at h0
            cases h0
          · exact w
        · rcases Nat.lt_or_ge i N with w | w
          · exact w
          · rw [bit_hi g1 w] at hi; cases hi
      · obtain ⟨t1, t2⟩ := Mk_set (N := N) (X := T)
        revert t1 t2
        generalize Mk T N 0 0 = t
        intro t1 t2
        have e1 : Cn T N 0 = pc t := by
          rw [pc_cut t1 (by omega)]
          exact Cn_ext N 0 (fun j _ hj => (t2 j (by omega)).symm)
        have e2 : fN N R F T = fN N R F (fun i => t.testBit i) := fN_ext (fun i hi => (t2 i hi).symm)
        rw [e1, e2, ← gR_f t1 hF]
        have t3 : t &&& g = t := by
          apply Nat.eq_of_testBit_eq
          intro j
          rw [Nat.testBit_and]
          cases q : t.testBit j with
          | false => rfl
          | true =>
            have hjN : j < N := by
              rcases Nat.lt_or_ge j N with w | w
              · exact w
              · rw [bit_hi t1 w] at q; cases q
            rw [t2 j hjN] at q
            have := hT j q
            have : g.testBit j = true := this
            rw [this]; rfl
        rcases Nat.eq_zero_or_pos t with w | w
        · rw [w]; exact Nat.zero_le _
        · exact Nat.le_of_ble_eq_true (c.2 t w (by rw [← t3]; exact Nat.and_le_right) t3)
      · rw [← pc_cut g1 (by omega)]
        exact w4.symm
theorem rf_mx {N a F K : Nat} {R : Nat → Nat} (ha : a ≤ N) (hN : N ≤ 5) (hF : Fr F K) : rf N R a K = mx N R a F :=
  (HR ha (Hx_mx R ha (by omega)) (Rx_rf hN hF)).symm
theorem upd_2 (f : Nat → Int32) (k : Nat) (x y : Int32) : upd (upd f k x) k y = upd f k y := by
  funext j
  unfold upd
  split <;> rfl
section DN
variable {l : Nat → Nat → Int64} {q : Nat → Nat → Option Nat} {P : List Nat} {r : Nat → Nat → Nat}
theorem Md.set53 {s : Nat → Nat → Int32} (h : Md s r) (g : Nat → Int32) : Md (us s 53 g) r := h
theorem lay_hours {K : Int32 → abH → Option abH} (hO : Ok r) {i : Nat} (hi : i < r 7 0) : ∀ (n e acc f : Nat) (s : Nat → Nat → Int32), Md s r → s 53 i = nI acc → e + n = 13 → n < f →
    F_X12_layGood_B19 39 (nI i) K f (nI e) (hp s l q P) = K (nI (i + 1)) (hp (us s 53 (upd (s 53) i (nI (Mk (fun e => decide (0 < bal r (r 8 i) (r 9 i) e)) n e acc)))) l q P)
  | _, _, _, 0, _, _, _, _, hf => absurd hf (by omega)
  | 0, e, acc, f + 1, s, hM, h53, he, _ => by
    have e0 : us s 53 (upd (s 53) i (nI acc)) = s := by
      have : upd (s 53) i (nI acc) = s 53 := by
        funext j
        unfold upd
        split
        next w => rw [w, h53]
        next => rfl
      rw [this, us_id]
    rw [F_X12_layGood_B19, if_neg (show ¬ nI e < 13 from nI_nlt (b := 13) (by omega) (by omega)), Mk, e0, nI_1]
  | n + 1, e, acc, f + 1, s, hM, h53, he, hf => by
    have h5 : r 7 0 ≤ 5 := hO.2.2.2.2.2.2.2.1
    have n5 := hO.n5
    have i5 : i < 5 := by omega
    have e31 : e < 31 := by omega
    have hc := hO.2.2.2.2.2.2.2.2.1 i hi
    have e1 : s 44 i = nI (r 8 i) := hM.2.1.2.2.2.1 i
    have e2 : s 45 i = nI (r 9 i) := hM.2.1.2.2.2.2.1 i
    have hb1 := foundIn_ok (l := l) (q := q) (P := P) hM hO (show r 8 i < 5 by omega) (show r 9 i < 5 by omega) (show e < 13 by omega)
    have hl := bal_le hO (r 8 i) (r 9 i) e
    have ih := fun x => lay_hours (K := K) hO hi n (e + 1) x f (us s 53 (upd (s 53) i (nI x))) (hM.set53 _) (by rw [us_self, upd_s]) (by omega) (by omega)
    rw [F_X12_layGood_B19, if_pos (show nI e < 13 from nI_lt (b := 13) (by omega) (by omega)), Mk]
    simp only [G_gR, G_ga, G_sa, i5, G_ko, sbd, h53, e1, e2, hb1, n_shl e e31, n_or, Int32.or_zero, nr, nI_1]
    by_cases g : 0 < bal r (r 8 i) (r 9 i) e
    · rw [if_neg (fun w => (w_le0 (by omega) (by omega)).mp w g), if_pos (decide_eq_true g), ih, us_us, us_self, upd_2]
    · rw [if_pos ((w_le0 (by omega) (by omega)).mpr g), if_neg (fun w => g (of_decide_eq_true w)), ih, us_us, us_self, upd_2]
theorem lay_right (hO : Ok r) : ∀ (k i f : Nat) (s : Nat → Nat → Int32), Md s r → i + k = r 7 0 → k < f → ∃ g : Nat → Int32, (∀ j, g j = if i ≤ j ∧ j < r 7 0 then nI (rh r j) else s 53 j) ∧ F_X12_layGood_B2 39 f (nI i) (hp s l q P) = some (hp (us s 53 g) l q P)
  | _, _, 0, _, _, _, hf => absurd hf (by omega)
  | 0, i, f + 1, s, hM, hi, _ => by
    have h5 : r 7 0 ≤ 5 := hO.2.2.2.2.2.2.2.1
    have e8 : s 39 8 = nI (r 7 0) := hM.1.2.2.2.1
    refine ⟨s 53, fun j => by rw [if_neg (by omega)], ?_⟩
    rw [us_id, F_X12_layGood_B2]
    simp only [G_gI, sbd, e8, if_neg (show ¬ nI i < nI (r 7 0) from nI_nlt (by omega) (by omega))]
  | k + 1, i, f + 1, s, hM, hi, hf => by
    have h5 : r 7 0 ≤ 5 := hO.2.2.2.2.2.2.2.1
    have i5 : i < 5 := by omega
    have e8 : s 39 8 = nI (r 7 0) := hM.1.2.2.2.1
    have e := lay_hours (l := l) (q := q) (P := P) (K := fun u1 hu => F_X12_layGood_B2 39 f u1 hu) hO (show i < r 7 0 by omega) 13 0 0 200 (us s 53 (upd (s 53) i 0)) (hM.set53 _) (by rw [us_self, upd_s]; rfl) rfl (by omega)
    rw [us_us, us_self, upd_2] at e
    obtain ⟨g, g1, g2⟩ := lay_right hO k (i + 1) f _ (hM.set53 (upd (s 53) i (nI (rh r i)))) (by omega) (by omega)
    rw [us_us] at g2
    refine ⟨g, fun j => ?_, ?_⟩
    · rw [g1 j, us_self]
      by_cases w : j = i
      · subst w
        rw [if_neg (by omega), if_pos (by omega), upd_s]
      · by_cases w2 : i + 1 ≤ j ∧ j < r 7 0
        · rw [if_pos w2, if_pos (by omega)]
        · rw [if_neg w2, if_neg (by omega), upd_n _ w]
    · rw [F_X12_layGood_B2]
      simp only [G_gI, G_gR, G_sa, i5, sbd, e8, if_pos (show nI i < nI (r 7 0) from nI_lt (by omega) (by omega)), nr]
      exact e.trans g2
end DN
