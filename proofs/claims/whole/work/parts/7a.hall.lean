/-! DOCKET: as many as can be heard, by sets of cases (a greedy choice, Hall) -/
def bn (x : Bool) : Nat := cond x 1 0
theorem Cn_s (c : Nat → Bool) (n i : Nat) : Cn c (n + 1) i = bn (c i) + Cn c n (i + 1) := by
  show (if c i = true then 1 else 0) + Cn c n (i + 1) = _
  cases c i <;> rfl
theorem bn_oa : ∀ x y : Bool, bn (x || y) + bn (x && y) = bn x + bn y := by decide
theorem bn_1 : ∀ x : Bool, bn x ≤ 1 := by decide
theorem Cn_oa (a b : Nat → Bool) : ∀ n i, Cn (fun j => a j || b j) n i + Cn (fun j => a j && b j) n i = Cn a n i + Cn b n i
  | 0, _ => rfl
  | n + 1, i => by
    have ih := Cn_oa a b n (i + 1)
    have h := bn_oa (a i) (b i)
    rw [Cn_s, Cn_s, Cn_s, Cn_s]
    show bn (a i || b i) + _ + (bn (a i && b i) + _) = _
    omega
theorem Cn_mo {a b : Nat → Bool} : ∀ n i, (∀ j, i ≤ j → j < i + n → a j = true → b j = true) → Cn a n i ≤ Cn b n i
  | 0, _, _ => Nat.le_refl _
  | n + 1, i, h => by
    have ih := Cn_mo n (i + 1) (fun j h1 h2 => h j (by omega) (by omega))
    have h0 := h i (by omega) (by omega)
    rw [Cn_s, Cn_s]
    cases ha : a i with
    | false => 
      have : bn false = 0 := rfl
      omega
    | true => rw [h0 ha]; omega
theorem Cn_no {a : Nat → Bool} : ∀ n i, (∀ j, i ≤ j → j < i + n → a j = false) → Cn a n i = 0
  | 0, _, _ => rfl
  | n + 1, i, h => by
    have ih := Cn_no n (i + 1) (fun j h1 h2 => h j (by omega) (by omega))
    rw [Cn_s, h i (by omega) (by omega), ih]; rfl
theorem Cn_one (k : Nat) : ∀ n i, (k < i → Cn (fun j => decide (j = k)) n i = 0) ∧ Cn (fun j => decide (j = k)) n i ≤ 1 ∧ (i ≤ k → k < i + n → Cn (fun j => decide (j = k)) n i = 1)
  | 0, _ => ⟨fun _ => rfl, Nat.zero_le _, fun h1 h2 => absurd h1 (by omega)⟩
  | n + 1, i => by
    have ih := Cn_one k n (i + 1)
    rw [Cn_s]
    show (k < i → bn (decide (i = k)) + _ = 0) ∧ bn (decide (i = k)) + _ ≤ 1 ∧ (i ≤ k → k < i + (n + 1) → bn (decide (i = k)) + _ = 1)
    by_cases e : i = k
    · have h1 : bn (decide (i = k)) = 1 := by rw [decide_eq_true e]; rfl
      have := ih.1 (by omega)
      rw [h1, this]
      exact ⟨fun h => absurd h (by omega), Nat.le_refl _, fun _ _ => rfl⟩
    · have h0 : bn (decide (i = k)) = 0 := by rw [decide_eq_false e]; rfl
      rw [h0, Nat.zero_add]
      exact ⟨fun h => ih.1 (by omega), ih.2.1, fun h4 h5 => ih.2.2 (by omega) (by omega)⟩
theorem Cn_sp (a b : Nat → Bool) (n i : Nat) : Cn (fun j => b j && a j) n i + Cn (fun j => a j && !(b j)) n i = Cn a n i := by
  have h := Cn_oa (fun j => b j && a j) (fun j => a j && !(b j)) n i
  have h1 : Cn (fun j => (b j && a j) || (a j && !(b j))) n i = Cn a n i := Cn_ext n i (fun j _ _ => by cases a j <;> cases b j <;> rfl)
  have h2 : Cn (fun j => (b j && a j) && (a j && !(b j))) n i = 0 := Cn_no n i (fun j _ _ => by cases a j <;> cases b j <;> rfl)
  rw [h1, h2] at h
  omega
def SubM (N : Nat) (f : (Nat → Bool) → Nat) : Prop := (∀ A B : Nat → Bool, (∀ i, i < N → A i = true → B i = true) → f A ≤ f B) ∧ (∀ A B : Nat → Bool, f (fun i => A i || B i) + f (fun i => A i && B i) ≤ f A + f B) ∧ f (fun _ => false) = 0
def Ind (N : Nat) (f : (Nat → Bool) → Nat) (X : Nat → Bool) : Prop := ∀ T : Nat → Bool, (∀ i, T i = true → X i = true) → Cn T N 0 ≤ f T
theorem greedy {N : Nat} {f : (Nat → Bool) → Nat} (h : SubM N f) (E : Nat → Bool) : ∀ k, k ≤ N → ∃ X G : Nat → Bool, (∀ i, X i = true → i < k ∧ E i = true) ∧ (∀ i, G i = true → i < k ∧ E i = true) ∧ Ind N f X ∧ f G ≤ Cn (fun i => G i && X i) N 0 ∧ (∀ i, i < k → E i = true → X i = true ∨ G i = true)
  | 0, _ => by
    refine ⟨fun _ => false, fun _ => false, (fun i hi => by cases hi), (fun i hi => by cases hi), fun T hT => ?_, ?_, fun i hi => absurd hi (Nat.not_lt_zero _)⟩
    · rw [Cn_no N 0 (fun j _ _ => by
        cases g : T j with
        | false => rfl
        | true => cases hT j g)]
      exact Nat.zero_le _
    · rw [h.2.2]; exact Nat.zero_le _
  | k + 1, hk => by
    obtain ⟨X, G, hX, hG, hI, hf, hc⟩ := greedy h E k (by omega)
    cases hE : E k with
    | false =>
      refine ⟨X, G, fun i hi => ⟨by have := (hX i hi).1; omega, (hX i hi).2⟩, fun i hi => ⟨by have := (hG i hi).1; omega, (hG i hi).2⟩, hI, hf, fun i hi hE2 => ?_⟩
      by_cases e : i = k
      · rw [e, hE] at hE2; cases hE2
      · exact hc i (by omega) hE2
    | true =>
      by_cases hind : Ind N f (fun i => X i || decide (i = k))
      · refine ⟨fun i => X i || decide (i = k), G, fun i hi => ?_, fun i hi => ⟨by have := (hG i hi).1; omega, (hG i hi).2⟩, hind, ?_, fun i hi hE2 => ?_⟩
        · rcases Bool.or_eq_true_iff.mp hi with w | w
          · exact ⟨by have := (hX i w).1; omega, (hX i w).2⟩
          · have e := of_decide_eq_true w
            rw [e]; exact ⟨by omega, hE⟩
        · refine Nat.le_trans hf (Cn_mo N 0 (fun j _ _ hj => ?_))
          have hj := Bool.and_eq_true_iff.mp hj
          show (G j && (X j || decide (j = k))) = true
          rw [hj.1, hj.2]; rfl
        · by_cases e : i = k
          · left
            rw [e]; simp
          · rcases hc i (by omega) hE2 with w | w
            · left; show (X i || decide (i = k)) = true; rw [w]; rfl
            · exact Or.inr w
      · obtain ⟨T, hT, hlt⟩ : ∃ T : Nat → Bool, (∀ i, T i = true → (X i || decide (i = k)) = true) ∧ f T < Cn T N 0 := by
          apply Classical.byContradiction
          intro hn
          apply hind
          intro T hT
          exact Nat.le_of_not_lt (fun hlt => hn ⟨T, hT, hlt⟩)
        have hTX : ∀ i, i ≠ k → T i = true → X i = true := fun i hi ht => by
          have := hT i ht
          rw [decide_eq_false hi, Bool.or_false] at this
          exact this
        refine ⟨X, fun i => G i || T i, fun i hi => ⟨by have := (hX i hi).1; omega, (hX i hi).2⟩, fun i hi => ?_, hI, ?_, fun i hi hE2 => ?_⟩
        · rcases Bool.or_eq_true_iff.mp hi with w | w
          · exact ⟨by have := (hG i w).1; omega, (hG i w).2⟩
          · by_cases e : i = k
            · rw [e]; exact ⟨by omega, hE⟩
            · have := hX i (hTX i e w)
              exact ⟨by omega, this.2⟩
        · have hGT : ∀ i, (G i && T i) = true → X i = true := fun i hi => by
            have hi := Bool.and_eq_true_iff.mp hi
            exact hTX i (by have := (hG i hi.1).1; omega) hi.2
          have a1 := h.2.1 G T
          have a2 := hI (fun i => G i && T i) hGT
          have a3 : Cn T N 0 ≤ Cn (fun i => T i && X i) N 0 + 1 := by
            have b1 : Cn T N 0 ≤ Cn (fun i => (T i && X i) || decide (i = k)) N 0 := Cn_mo N 0 (fun j _ _ hj => by
              by_cases e : j = k
              · simp [e]
              · simp [hj, hTX j e hj])
            have b2 := Cn_oa (fun i => T i && X i) (fun i => decide (i = k)) N 0
            have b3 := (Cn_one k N 0).2.1
            omega
          have a4 := Cn_oa (fun i => G i && X i) (fun i => T i && X i) N 0
          have a5 : Cn (fun i => (G i && X i) || (T i && X i)) N 0 = Cn (fun i => (G i || T i) && X i) N 0 := Cn_ext N 0 (fun j _ _ => by cases G j <;> cases T j <;> cases X j <;> rfl)
          have a6 : Cn (fun i => (G i && X i) && (T i && X i)) N 0 = Cn (fun i => G i && T i) N 0 := Cn_ext N 0 (fun j _ _ => by
            have := hGT j
            revert this
            cases G j <;> cases T j <;> cases X j <;> simp)
          show f (fun i => G i || T i) ≤ Cn (fun i => (G i || T i) && X i) N 0
          omega
        · by_cases e : i = k
          · right
            rw [e]
            show (G k || T k) = true
            cases hTk : T k with
            | true => simp
            | false =>
              exfalso
              have := hI T (fun i ht => hTX i (fun e2 => by rw [e2, hTk] at ht; cases ht) ht)
              omega
          · rcases hc i (by omega) hE2 with w | w
            · exact Or.inl w
            · right; show (G i || T i) = true; rw [w]; rfl
theorem hall {N : Nat} {f : (Nat → Bool) → Nat} (h : SubM N f) (E : Nat → Bool) : ∃ X G : Nat → Bool, (∀ i, X i = true → i < N ∧ E i = true) ∧ (∀ i, G i = true → i < N ∧ E i = true) ∧ Ind N f X ∧ Cn (fun i => E i && !(G i)) N 0 + f G ≤ Cn X N 0 := by
  obtain ⟨X, G, hX, hG, hI, hf, hc⟩ := greedy h E N (Nat.le_refl _)
  refine ⟨X, G, hX, hG, hI, ?_⟩
  have a1 := Cn_sp X G N 0
  have a2 : Cn (fun i => E i && !(G i)) N 0 ≤ Cn (fun i => X i && !(G i)) N 0 := Cn_mo N 0 (fun j _ hj hh => by
    have hh := Bool.and_eq_true_iff.mp hh
    rcases hc j (by omega) hh.1 with w | w
    · rw [w, hh.2]; rfl
    · rw [w] at hh; cases hh.2)
  omega
theorem weak {N : Nat} {f : (Nat → Bool) → Nat} (h : SubM N f) {E X : Nat → Bool} (G : Nat → Bool) (hX : ∀ i, X i = true → E i = true) (hI : Ind N f X) : Cn X N 0 ≤ Cn (fun i => E i && !(G i)) N 0 + f G := by
  have a1 := Cn_sp X G N 0
  have a2 := hI (fun i => G i && X i) (fun i hi => (Bool.and_eq_true_iff.mp hi).2)
  have a3 := h.1 (fun i => G i && X i) G (fun i _ hi => (Bool.and_eq_true_iff.mp hi).1)
  have a4 : Cn (fun i => X i && !(G i)) N 0 ≤ Cn (fun i => E i && !(G i)) N 0 := Cn_mo N 0 (fun j _ _ hh => by
    have hh := Bool.and_eq_true_iff.mp hh
    rw [hX j hh.1, hh.2]; rfl)
  omega
/-! hours that a set of cases has -/
def anyB (c : Nat → Bool) : Nat → Nat → Bool
  | 0, _ => false
  | n + 1, i => c i || anyB c n (i + 1)
theorem anyB_iff (c : Nat → Bool) : ∀ n i, anyB c n i = true ↔ ∃ j, i ≤ j ∧ j < i + n ∧ c j = true
  | 0, i => by
    constructor
    · intro h; cases h
    · rintro ⟨j, h1, h2, _⟩; omega
  | n + 1, i => by
    have ih := anyB_iff c n (i + 1)
    show (c i || anyB c n (i + 1)) = true ↔ _
    rw [Bool.or_eq_true_iff, ih]
    constructor
    · rintro (h | ⟨j, h1, h2, h3⟩)
      · exact ⟨i, by omega, by omega, h⟩
      · exact ⟨j, by omega, by omega, h3⟩
    · rintro ⟨j, h1, h2, h3⟩
      by_cases e : j = i
      · rw [e] at h3; exact Or.inl h3
      · exact Or.inr ⟨j, by omega, by omega, h3⟩
def nb (N : Nat) (R : Nat → Nat) (F : Nat) (T : Nat → Bool) (h : Nat) : Bool := F.testBit h && anyB (fun i => T i && (R i).testBit h) N 0
theorem nb_iff {N : Nat} {R : Nat → Nat} {F : Nat} {T : Nat → Bool} {h : Nat} : nb N R F T h = true ↔ F.testBit h = true ∧ ∃ j, j < N ∧ T j = true ∧ (R j).testBit h = true := by
  unfold nb
  rw [Bool.and_eq_true_iff, anyB_iff]
  constructor
  · rintro ⟨h1, j, _, h2, h3⟩
    have h3 := Bool.and_eq_true_iff.mp h3
    exact ⟨h1, j, by omega, h3.1, h3.2⟩
  · rintro ⟨h1, j, h2, h3, h4⟩
    exact ⟨h1, j, by omega, by omega, by rw [h3, h4]; rfl⟩
def fN (N : Nat) (R : Nat → Nat) (F : Nat) (T : Nat → Bool) : Nat := Cn (nb N R F T) 13 0
theorem beq_of {a b : Bool} (h : a = true ↔ b = true) : a = b := Bool.eq_iff_iff.mpr h
theorem fN_mono {N : Nat} {R : Nat → Nat} {F F' : Nat} {A B : Nat → Bool} (hF : ∀ h, h < 13 → F.testBit h = true → F'.testBit h = true) (hA : ∀ i, i < N → A i = true → B i = true) : fN N R F A ≤ fN N R F' B :=
  Cn_mo 13 0 (fun j _ hj hn => by
    obtain ⟨h1, i, h2, h3, h4⟩ := nb_iff.mp hn
    exact nb_iff.mpr ⟨hF j (by omega) h1, i, h2, hA i h2 h3, h4⟩)
theorem SubM_fN (N : Nat) (R : Nat → Nat) (F : Nat) : SubM N (fN N R F) := by
  refine ⟨fun A B hA => fN_mono (fun _ _ h => h) hA, fun A B => ?_, ?_⟩
  · have a1 := Cn_oa (nb N R F A) (nb N R F B) 13 0
    have a2 : Cn (fun h => nb N R F A h || nb N R F B h) 13 0 = fN N R F (fun i => A i || B i) := Cn_ext 13 0 (fun j _ _ => beq_of (by
      rw [Bool.or_eq_true_iff, nb_iff, nb_iff, nb_iff]
      constructor
      · rintro (⟨h1, i, h2, h3, h4⟩ | ⟨h1, i, h2, h3, h4⟩)
        · exact ⟨h1, i, h2, by rw [h3]; rfl, h4⟩
        · exact ⟨h1, i, h2, by rw [h3]; simp, h4⟩
      · rintro ⟨h1, i, h2, h3, h4⟩
        rcases Bool.or_eq_true_iff.mp h3 with w | w
        · exact Or.inl ⟨h1, i, h2, w, h4⟩
        · exact Or.inr ⟨h1, i, h2, w, h4⟩))
    have a3 : fN N R F (fun i => A i && B i) ≤ Cn (fun h => nb N R F A h && nb N R F B h) 13 0 := Cn_mo 13 0 (fun j _ _ hn => by
      obtain ⟨h1, i, h2, h3, h4⟩ := nb_iff.mp hn
      have h3 := Bool.and_eq_true_iff.mp h3
      rw [nb_iff.mpr ⟨h1, i, h2, h3.1, h4⟩, nb_iff.mpr ⟨h1, i, h2, h3.2, h4⟩]; rfl)
    have a4 : Cn (nb N R F A) 13 0 = fN N R F A := rfl
    have a5 : Cn (nb N R F B) 13 0 = fN N R F B := rfl
    omega
  · exact Cn_no 13 0 (fun j _ _ => by
      cases g : nb N R F (fun _ => false) j with
      | false => rfl
      | true =>
        obtain ⟨_, i, _, h3, _⟩ := nb_iff.mp g
        cases h3)
/-! the number, by either side's words -/
def In (a N : Nat) (G : Nat → Bool) : Prop := ∀ i, G i = true → a ≤ i ∧ i < N
def Hx (N : Nat) (R : Nat → Nat) (a F v : Nat) : Prop := (∀ G, In a N G → v + Cn G N 0 ≤ (N - a) + fN N R F G) ∧ ∃ G, In a N G ∧ v + Cn G N 0 = (N - a) + fN N R F G
def Rx (N : Nat) (R : Nat → Nat) (a F w : Nat) : Prop := (∀ X, In a N X → Ind N (fN N R F) X → Cn X N 0 ≤ w) ∧ ∃ X, In a N X ∧ Ind N (fN N R F) X ∧ Cn X N 0 = w
theorem Cn_E (a N : Nat) : ∀ n i, i + n = N → a ≤ N → Cn (fun j => decide (a ≤ j ∧ j < N)) n i = N - (if a ≤ i then i else a)
  | 0, i, h, h2 => by
    show 0 = _
    split <;> omega
  | n + 1, i, h, h2 => by
    have ih := Cn_E a N n (i + 1) (by omega) h2
    rw [Cn_s, ih]
    show bn (decide (a ≤ i ∧ i < N)) + _ = _
    by_cases g : a ≤ i
    · have h1 : bn (decide (a ≤ i ∧ i < N)) = 1 := by rw [decide_eq_true (show a ≤ i ∧ i < N by omega)]; rfl
      rw [h1, if_pos g, if_pos (by omega)]; omega
    · have h0 : bn (decide (a ≤ i ∧ i < N)) = 0 := by rw [decide_eq_false (show ¬ (a ≤ i ∧ i < N) by omega)]; rfl
      rw [h0, if_neg g]
      split <;> omega
theorem Cn_mi {a N : Nat} (ha : a ≤ N) {G : Nat → Bool} (hG : In a N G) : Cn (fun i => decide (a ≤ i ∧ i < N) && !(G i)) N 0 + Cn G N 0 = N - a := by
  have h1 := Cn_sp (fun i => decide (a ≤ i ∧ i < N)) G N 0
  have h2 : Cn (fun j => G j && decide (a ≤ j ∧ j < N)) N 0 = Cn G N 0 := Cn_ext N 0 (fun j _ _ => by
    cases g : G j with
    | false => rfl
    | true => rw [decide_eq_true (hG j g)]; rfl)
  have h3 := Cn_E a N N 0 (by omega) ha
  rw [h2, h3] at h1
  split at h1 <;> omega
theorem HR {N : Nat} {R : Nat → Nat} {a F v w : Nat} (ha : a ≤ N) (hH : Hx N R a F v) (hR : Rx N R a F w) : v = w := by
  have hS := SubM_fN N R F
  obtain ⟨X, G, hX, hG, hI, hle⟩ := hall hS (fun i => decide (a ≤ i ∧ i < N))
  have hG' : In a N G := fun i hi => of_decide_eq_true (hG i hi).2
  have hX' : In a N X := fun i hi => of_decide_eq_true (hX i hi).2
  have a1 := hH.1 G hG'
  have a2 := Cn_mi ha hG'
  have a3 := hR.1 X hX' hI
  obtain ⟨X2, b1, b2, b3⟩ := hR.2
  obtain ⟨G2, c1, c2⟩ := hH.2
  have a4 := weak hS (E := fun i => decide (a ≤ i ∧ i < N)) G2 (fun i hi => decide_eq_true (b1 i hi)) b2
  have a5 := Cn_mi ha c1
  omega
theorem Hx_first {N : Nat} {R : Nat → Nat} {a F v v' : Nat} (ha : a < N) (h : Hx N R a F v) (h' : Hx N R (a + 1) F v') : v' ≤ v ∧ v ≤ v' + 1 := by
  constructor
  · obtain ⟨G, g1, g2⟩ := h.2
    have a1 := h'.1 (fun i => G i && !(decide (i = a))) (fun i hi => by
      have hi := Bool.and_eq_true_iff.mp hi
      have w := g1 i hi.1
      have : i ≠ a := fun e => by rw [decide_eq_true e] at hi; cases hi.2
      omega)
    have a2 := (SubM_fN N R F).1 (fun i => G i && !(decide (i = a))) G (fun i _ hi => (Bool.and_eq_true_iff.mp hi).1)
    have a3 := Cn_sp G (fun i => decide (i = a)) N 0
    have a4 : Cn (fun j => decide (j = a) && G j) N 0 ≤ Cn (fun j => decide (j = a)) N 0 := Cn_mo N 0 (fun j _ _ hj => (Bool.and_eq_true_iff.mp hj).1)
    have a5 := (Cn_one a N 0).2.1
    omega
  · obtain ⟨G, g1, g2⟩ := h'.2
    have a1 := h.1 G (fun i hi => by have := g1 i hi; omega)
    omega
theorem Hx_mono {N : Nat} {R : Nat → Nat} {a F F' v v' : Nat} (hF : ∀ h, h < 13 → F.testBit h = true → F'.testBit h = true) (h : Hx N R a F v) (h' : Hx N R a F' v') : v ≤ v' := by
  obtain ⟨G, g1, g2⟩ := h'.2
  have a1 := h.1 G g1
  have a2 := fN_mono (N := N) (R := R) (A := G) (B := G) hF (fun _ _ h => h)
  omega
theorem Hx_un {N : Nat} {R : Nat → Nat} {a F v v' : Nat} (h : Hx N R a F v) (h' : Hx N R a F v') : v = v' :=
  Nat.le_antisymm (Hx_mono (fun _ _ h => h) h h') (Hx_mono (fun _ _ h => h) h' h)
theorem bit_less {F h j : Nat} (hj : j < 13) : (andn F (2 ^ h)).testBit j = (F.testBit j && !(decide (j = h))) := by
  rw [andn_bit hj]
  by_cases e : j = h
  · rw [e, decide_eq_true rfl, Nat.testBit_two_pow_self]
  · rw [decide_eq_false e, Nat.testBit_two_pow_of_ne (fun e2 => e e2.symm)]
theorem exch {N : Nat} {R : Nat → Nat} {a F v v' : Nat} {u : Nat → Nat} (ha : a < N) (h : Hx N R a F v) (h' : Hx N R (a + 1) F v') (hlt : v' < v) (hu : ∀ e, e < 13 → Hx N R (a + 1) (andn F (2 ^ e)) (u e)) :
    ∃ e, e < 13 ∧ (R a).testBit e = true ∧ F.testBit e = true ∧ v ≤ 1 + u e := by
  apply Classical.byContradiction
  intro hn
  have hno : ∀ e, e < 13 → (R a).testBit e = true → F.testBit e = true → 1 + u e < v := fun e h1 h2 h3 => Nat.lt_of_not_le (fun h4 => hn ⟨e, h1, h2, h3, h4⟩)
  have hv := Hx_first ha h h'
  have hS := SubM_fN N R F
  have tight : ∀ A B : Nat → Bool, In (a + 1) N A → In (a + 1) N B → v' + Cn A N 0 = (N - (a + 1)) + fN N R F A → v' + Cn B N 0 = (N - (a + 1)) + fN N R F B → In (a + 1) N (fun i => A i || B i) ∧ v' + Cn (fun i => A i || B i) N 0 = (N - (a + 1)) + fN N R F (fun i => A i || B i) := fun A B hA hB tA tB => by
    have hU : In (a + 1) N (fun i => A i || B i) := fun i hi => by
      rcases Bool.or_eq_true_iff.mp hi with w | w
      · exact hA i w
      · exact hB i w
    have hN : In (a + 1) N (fun i => A i && B i) := fun i hi => hA i (Bool.and_eq_true_iff.mp hi).1
    have b1 := h'.1 _ hU
    have b2 := h'.1 _ hN
    have b3 := hS.2.1 A B
    have b4 := Cn_oa A B N 0
    exact ⟨hU, by omega⟩
  have all : ∀ k, k ≤ 13 → ∃ G, In (a + 1) N G ∧ v' + Cn G N 0 = (N - (a + 1)) + fN N R F G ∧ ∀ e, e < k → (R a).testBit e = true → F.testBit e = true → nb N R F G e = true := by
    intro k
    induction k with
    | zero =>
      intro _
      obtain ⟨G, g1, g2⟩ := h'.2
      exact ⟨G, g1, g2, fun e he => absurd he (Nat.not_lt_zero _)⟩
    | succ k ih =>
      intro hk
      obtain ⟨G, g1, g2, g3⟩ := ih (by omega)
      by_cases hh : (R a).testBit k = true ∧ F.testBit k = true
      · obtain ⟨B, b1, b2⟩ := (hu k (by omega)).2
        have b3 := hno k (by omega) hh.1 hh.2
        have b4 := h'.1 B b1
        have b5 : fN N R F B ≤ fN N R (andn F (2 ^ k)) B + (if nb N R F B k = true then 1 else 0) := by
          have c1 := Cn_sp (nb N R F B) (fun j => decide (j = k)) 13 0
          have c2 : Cn (fun j => nb N R F B j && !(decide (j = k))) 13 0 ≤ fN N R (andn F (2 ^ k)) B := Cn_mo 13 0 (fun j _ hj hh2 => by
            have hh2 := Bool.and_eq_true_iff.mp hh2
            obtain ⟨d1, i, d2, d3, d4⟩ := nb_iff.mp hh2.1
            exact nb_iff.mpr ⟨by rw [bit_less (by omega), d1, hh2.2]; rfl, i, d2, d3, d4⟩)
          have c3 : Cn (fun j => decide (j = k) && nb N R F B j) 13 0 ≤ (if nb N R F B k = true then 1 else 0) := by
            cases g : nb N R F B k with
            | true =>
              have c4 : Cn (fun j => decide (j = k) && nb N R F B j) 13 0 ≤ Cn (fun j => decide (j = k)) 13 0 := Cn_mo 13 0 (fun j _ _ hj => (Bool.and_eq_true_iff.mp hj).1)
              have c5 := (Cn_one k 13 0).2.1
              simp only [reduceIte]
              omega
            | false =>
              rw [Cn_no 13 0 (fun j _ _ => by
                by_cases e : j = k
                · rw [e, g]; simp
                · rw [decide_eq_false e]; rfl)]
              exact Nat.zero_le _
          have c6 : fN N R F B = Cn (nb N R F B) 13 0 := rfl
          omega
        have hB : nb N R F B k = true := by
          cases g : nb N R F B k with
          | true => rfl
          | false =>
            rw [g] at b5
            simp only [Bool.false_eq_true, reduceIte] at b5
            omega
        rw [hB] at b5
        simp only [reduceIte] at b5
        obtain ⟨t1, t2⟩ := tight G B g1 b1 g2 (by omega)
        refine ⟨fun i => G i || B i, t1, t2, fun e he x1 x2 => ?_⟩
        by_cases e2 : e = k
        · rw [e2]
          obtain ⟨d1, i, d2, d3, d4⟩ := nb_iff.mp hB
          exact nb_iff.mpr ⟨d1, i, d2, by rw [d3]; simp, d4⟩
        · obtain ⟨d1, i, d2, d3, d4⟩ := nb_iff.mp (g3 e (by omega) x1 x2)
          exact nb_iff.mpr ⟨d1, i, d2, by rw [d3]; rfl, d4⟩
      · refine ⟨G, g1, g2, fun e he x1 x2 => ?_⟩
        by_cases e2 : e = k
        · rw [e2] at x1 x2; exact absurd ⟨x1, x2⟩ hh
        · exact g3 e (by omega) x1 x2
  obtain ⟨G, g1, g2, g3⟩ := all 13 (Nat.le_refl _)
  have b1 := h.1 (fun i => G i || decide (i = a)) (fun i hi => by
    rcases Bool.or_eq_true_iff.mp hi with w | w
    · have := g1 i w; omega
    · have := of_decide_eq_true w; omega)
  have b2 : fN N R F (fun i => G i || decide (i = a)) ≤ fN N R F G := Cn_mo 13 0 (fun j _ hj hh => by
    obtain ⟨d1, i, d2, d3, d4⟩ := nb_iff.mp hh
    rcases Bool.or_eq_true_iff.mp d3 with w | w
    · exact nb_iff.mpr ⟨d1, i, d2, w, d4⟩
    · rw [of_decide_eq_true w] at d4
      exact g3 j (by omega) d4 d1)
  have b3 := Cn_oa G (fun i => decide (i = a)) N 0
  have b4 : Cn (fun i => G i && decide (i = a)) N 0 = 0 := Cn_no N 0 (fun j _ _ => by
    by_cases e : j = a
    · cases g : G j with
      | false => rfl
      | true => have := g1 j g; omega
    · rw [decide_eq_false e]; simp)
  have b5 := (Cn_one a N 0).2.2 (Nat.zero_le _) (by omega)
  omega
