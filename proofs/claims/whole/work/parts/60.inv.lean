/-! THE INVARIANT between two calls: the court's table r, the kept one k (b: the class keeps one), the page pg of n letters, c courts so far (at most M) -/
def Mk2 (s : Nat → Nat → Int32) (k : Nat → Nat → Nat) : Prop :=
  (s 39 27 = nI (k 5 0) ∧ s 39 28 = nI (k 6 0) ∧ s 39 29 = nI (k 7 0) ∧ s 39 30 = nI (k 10 0)) ∧
  ((∀ i, i < 5 → s 56 i = nI (k 2 i)) ∧ (∀ i, i < 5 → s 57 i = nI (k 3 i)) ∧ (∀ i, i < 10 → s 55 i = nI (k 4 i)) ∧ (∀ i, i < 5 → s 58 i = nI (k 8 i)) ∧ (∀ i, i < 5 → s 59 i = nI (k 9 i)) ∧ (∀ i, i < 8 → s 60 i = nI (k 11 i)) ∧ (∀ i, i < 8 → s 61 i = nI (k 12 i)) ∧ (∀ i, i < 8 → s 62 i = nI (k 13 i)) ∧ (∀ i, i < 8 → s 63 i = nI (k 14 i)))
/-- what the kept court's arrays hold beyond their ends: nothing -/
def Kw (s : Nat → Nat → Int32) : Prop := (∀ i, 5 ≤ i → s 19 i = 0) ∧ (∀ i, 5 ≤ i → s 20 i = 0) ∧ (∀ i, 10 ≤ i → s 21 i = 0) ∧ (∀ i, 5 ≤ i → s 22 i = 0) ∧ (∀ i, 5 ≤ i → s 23 i = 0) ∧ (∀ i, 8 ≤ i → s 24 i = 0) ∧ (∀ i, 8 ≤ i → s 25 i = 0) ∧ (∀ i, 8 ≤ i → s 26 i = 0) ∧ (∀ i, 8 ≤ i → s 27 i = 0)
/-- the court that the class keeps at 17 for an IMAGE: all but PARTIES and KINDS -/
def Ck (s : Nat → Nat → Int32) (k : Nat → Nat → Nat) : Prop :=
  (s 17 5 = nI (k 5 0) ∧ s 17 6 = nI (k 6 0) ∧ s 17 7 = nI (k 7 0) ∧ s 17 10 = nI (k 10 0)) ∧
  ((∀ i, s 19 i = nI (k 2 i)) ∧ (∀ i, s 20 i = nI (k 3 i)) ∧ (∀ i, s 21 i = nI (k 4 i)) ∧ (∀ i, s 22 i = nI (k 8 i)) ∧ (∀ i, s 23 i = nI (k 9 i)) ∧ (∀ i, s 24 i = nI (k 11 i)) ∧ (∀ i, s 25 i = nI (k 12 i)) ∧ (∀ i, s 26 i = nI (k 13 i)) ∧ (∀ i, s 27 i = nI (k 14 i)))
def Cs (s : Nat → Nat → Int32) (q : Nat → Nat → Option Nat) (P : List Nat) (r k : Nat → Nat → Nat) (pg : Nat → Nat) (n c : Nat) (b : Bool) : Prop :=
  Ct s q P 6 r ∧ (s 4 1 = nI n ∧ ∀ i, s 5 i = nI (pg i)) ∧ s 3 8 = nI c ∧ s 3 7 = b2 b ∧ (b = true → Ck s k) ∧ Kw s
def Ms (s : Nat → Nat → Int32) (r k : Nat → Nat → Nat) (pg : Nat → Nat) (n c : Nat) (b : Bool) : Prop :=
  Md s r ∧ (s 39 16 = nI n ∧ ∀ i, s 50 i = nI (pg i)) ∧ s 39 0 = nI c ∧ (b = true → s 39 25 = 1 ∧ s 39 26 = nI c ∧ Mk2 s k) ∧ (b = false → s 39 25 = 0 ∨ ∃ d, d < c ∧ s 39 26 = nI d)
def Os (M : Nat) (r k : Nat → Nat → Nat) (pg : Nat → Nat) (n c : Nat) (b : Bool) : Prop :=
  Ok r ∧ (n ≤ 34 ∧ ∀ i, pg i < 127) ∧ c ≤ M ∧ (b = true → Ok k ∧ k 0 0 = r 0 0 ∧ ∀ i, i < r 0 0 → k 1 i = r 1 i)
section IN
variable {s s' : Nat → Nat → Int32} {l l' : Nat → Nat → Int64} {q : Nat → Nat → Option Nat} {P : List Nat} {r k : Nat → Nat → Nat} {pg : Nat → Nat} {M n c : Nat} {b : Bool}
theorem Ck.fr (h : Ck s k) (e : ∀ a, 17 ≤ a → a < 28 → s' a = s a) : Ck s' k := by
  have w := h
  unfold Ck at w ⊢
  rw [e 17 (by omega) (by omega), e 19 (by omega) (by omega), e 20 (by omega) (by omega), e 21 (by omega) (by omega), e 22 (by omega) (by omega), e 23 (by omega) (by omega), e 24 (by omega) (by omega), e 25 (by omega) (by omega), e 26 (by omega) (by omega), e 27 (by omega) (by omega)]
  exact w
theorem Cs.fr (h : Cs s q P r k pg n c b) (e : ∀ a, a < 29 → s' a = s a) : Cs s' q P r k pg n c b := by
  refine ⟨h.1.mv (by omega) (fun a ha => e a (by omega)), ?_, ?_, ?_, fun hb => (h.2.2.2.2.1 hb).fr (fun a h1 h2 => e a (by omega)), ?_⟩
  · rw [e 4 (by omega), e 5 (by omega)]; exact h.2.1
  · rw [e 3 (by omega)]; exact h.2.2.1
  · rw [e 3 (by omega)]; exact h.2.2.2.1
  · have w := h.2.2.2.2.2
    unfold Kw
    rw [e 19 (by omega), e 20 (by omega), e 21 (by omega), e 22 (by omega), e 23 (by omega), e 24 (by omega), e 25 (by omega), e 26 (by omega), e 27 (by omega)]
    exact w
theorem Mk2.fr (h : Mk2 s k) (e : ∀ a, 55 ≤ a → s' a = s a) (e9 : ∀ j, 27 ≤ j → s' 39 j = s 39 j) : Mk2 s' k := by
  refine ⟨?_, ?_⟩
  · rw [e9 27 (by omega), e9 28 (by omega), e9 29 (by omega), e9 30 (by omega)]; exact h.1
  · rw [e 56 (by omega), e 57 (by omega), e 55 (by omega), e 58 (by omega), e 59 (by omega), e 60 (by omega), e 61 (by omega), e 62 (by omega), e 63 (by omega)]; exact h.2
theorem Ms.em (h : Ms s r k pg n c b) (e : Em s s') : Ms s' r k pg n c b := by
  refine ⟨h.1.em e, ?_, ?_, fun hb => ?_, fun hb => ?_⟩
  · rw [e.2 16 (by omega) (by omega), e.1 50 (by omega)]; exact h.2.1
  · rw [e.2 0 (by omega) (by omega)]; exact h.2.2.1
  · have h2 := h.2.2.2.1 hb
    rw [e.2 25 (by omega) (by omega), e.2 26 (by omega) (by omega)]
    exact ⟨h2.1, h2.2.1, h2.2.2.fr (fun a ha => e.1 a (by omega)) (fun j hj => e.2 j (by omega) (by omega))⟩
  · rw [e.2 25 (by omega) (by omega), e.2 26 (by omega) (by omega)]; exact h.2.2.2.2 hb
theorem Ms.lo (h : Ms s r k pg n c b) (e : ∀ a, 39 ≤ a → s' a = s a) : Ms s' r k pg n c b := by
  refine ⟨h.1.mv (fun a h1 h2 => e a (by omega)) (fun j _ => by rw [e 39 (by omega)]), ?_, ?_, fun hb => ?_, fun hb => ?_⟩
  · rw [e 39 (by omega), e 50 (by omega)]; exact h.2.1
  · rw [e 39 (by omega)]; exact h.2.2.1
  · have h2 := h.2.2.2.1 hb
    rw [e 39 (by omega)]
    exact ⟨h2.1, h2.2.1, h2.2.2.fr (fun a ha => e a (by omega)) (fun j hj => by rw [e 39 (by omega)])⟩
  · rw [e 39 (by omega)]; exact h.2.2.2.2 hb
theorem Ms.eo (h : Ms s r k pg n c b) (e : Eo s s') : Ms s' r k pg n c b := h.lo (fun a ha => e a (Or.inr ha))
def Iv (M : Nat) (s : Nat → Nat → Int32) (q : Nat → Nat → Option Nat) (P : List Nat) : Prop := ∃ (r k : Nat → Nat → Nat) (pg : Nat → Nat) (n c : Nat) (b : Bool), Cs s q P r k pg n c b ∧ Ms s r k pg n c b ∧ Os M r k pg n c b
theorem Iv_0 : Iv 0 (fun _ _ => 0) (fun _ _ => none) [] := by
  refine ⟨fun _ _ => 0, fun _ _ => 0, fun _ => 0, 0, 0, false, ⟨⟨⟨rfl, rfl, rfl, rfl, rfl⟩, ⟨fun _ => rfl, fun _ => rfl, fun _ => rfl, fun _ => rfl, fun _ => rfl, fun _ => rfl, fun _ => rfl, fun _ => rfl, fun _ => rfl⟩, fun i hi => absurd hi (Nat.not_lt_zero _)⟩, ⟨rfl, fun _ => rfl⟩, rfl, rfl, fun h => absurd h (by decide), ⟨fun _ _ => rfl, fun _ _ => rfl, fun _ _ => rfl, fun _ _ => rfl, fun _ _ => rfl, fun _ _ => rfl, fun _ _ => rfl, fun _ _ => rfl, fun _ _ => rfl⟩⟩, ⟨⟨⟨rfl, rfl, rfl, rfl, rfl⟩, ⟨fun _ => rfl, fun _ => rfl, fun _ => rfl, fun _ => rfl, fun _ => rfl, fun _ => rfl, fun _ => rfl, fun _ => rfl, fun _ => rfl⟩, fun _ => rfl⟩, ⟨rfl, fun _ => rfl⟩, rfl, fun h => absurd h (by decide), fun _ => Or.inl rfl⟩, ⟨⟨Or.inl rfl, fun _ => Nat.succ_pos _, fun _ => Nat.succ_pos _, fun _ => Nat.succ_pos _, fun _ => Nat.succ_pos _, Nat.succ_pos _, Nat.succ_pos _, Nat.zero_le _, fun i hi => absurd hi (Nat.not_lt_zero _), Nat.zero_le _, fun _ => Nat.succ_pos _, fun _ => Nat.succ_pos _, fun _ => Nat.succ_pos _, fun _ => Nat.succ_pos _⟩, ⟨Nat.zero_le _, fun _ => Nat.succ_pos _⟩, Nat.zero_le _, fun h => absurd h (by decide)⟩⟩
/-- a call on both sides: the same answer, the invariant again -/
def Go (M : Nat) (X Y : abH → Option (Int32 × abH)) : Prop := ∀ (s : Nat → Nat → Int32) (l : Nat → Nat → Int64) (q : Nat → Nat → Option Nat) (P : List Nat), Iv M s q P → ∃ (v : Int32) (s1 s2 : Nat → Nat → Int32) (l1 l2 : Nat → Nat → Int64) (q2 : Nat → Nat → Option Nat) (P2 : List Nat), X (hp s l q P) = some (v, hp s1 l1 q2 P2) ∧ Y (hp s1 l1 q2 P2) = some (v, hp s2 l2 q2 P2) ∧ Iv (M + 1) s2 q2 P2
theorem Os.up (h : Os M r k pg n c b) : Os (M + 1) r k pg n c b := ⟨h.1, h.2.1, Nat.le_succ_of_le h.2.2.1, h.2.2.2⟩
end IN
