/-! the picture: one table r of naturals for the court (0 parties, 1 kind, 2 high, 3 tile, 4 worth, 5 hour, 6 days, 7 cases, 8 first, 9 other, 10 seen, 11 .. 14 what was seen), held by the class at object o and by the reference -/
def Ct (s : Nat → Nat → Int32) (q : Nat → Nat → Option Nat) (P : List Nat) (o : Nat) (r : Nat → Nat → Nat) : Prop :=
  (s o 0 = nI (r 0 0) ∧ s o 5 = nI (r 5 0) ∧ s o 6 = nI (r 6 0) ∧ s o 7 = nI (r 7 0) ∧ s o 10 = nI (r 10 0)) ∧
  ((∀ i, s (o + 2) i = nI (r 2 i)) ∧ (∀ i, s (o + 3) i = nI (r 3 i)) ∧ (∀ i, s (o + 4) i = nI (r 4 i)) ∧ (∀ i, s (o + 5) i = nI (r 8 i)) ∧ (∀ i, s (o + 6) i = nI (r 9 i)) ∧ (∀ i, s (o + 7) i = nI (r 11 i)) ∧ (∀ i, s (o + 8) i = nI (r 12 i)) ∧ (∀ i, s (o + 9) i = nI (r 13 i)) ∧ (∀ i, s (o + 10) i = nI (r 14 i))) ∧
  (∀ i, i < r 0 0 → ∃ j, q (o + 1) i = some (40 + j) ∧ P[j]? = some (kcl (r 1 i)))
def Ok (r : Nat → Nat → Nat) : Prop :=
  (r 0 0 = 0 ∨ (2 ≤ r 0 0 ∧ r 0 0 ≤ 5)) ∧ (∀ i, r 1 i < 5) ∧ (∀ i, r 2 i < 10) ∧ (∀ i, r 3 i < 10) ∧ (∀ i, r 4 i < 10) ∧ r 5 0 < 13 ∧ r 6 0 < 100 ∧ r 7 0 ≤ 5 ∧
  (∀ i, i < r 7 0 → r 8 i < r 0 0 ∧ r 9 i < r 0 0) ∧ r 10 0 ≤ 8 ∧ (∀ i, r 11 i < 5) ∧ (∀ i, r 12 i < 13) ∧ (∀ i, r 13 i < 10) ∧ (∀ i, r 14 i < 2)
section RL
variable {s : Nat → Nat → Int32} {l : Nat → Nat → Int64} {q : Nat → Nat → Option Nat} {P : List Nat} {r : Nat → Nat → Nat}
theorem Ok.n5 (h : Ok r) : r 0 0 ≤ 5 := by have := h.1; omega
/-! within -/
def wi (a b c : Int32) : Int32 := if a < b then 0 else if a ≤ c then 1 else 0
theorem X11_within (a b c : Int32) : F_X11_within a b c = some (wi a b c) := by
  unfold F_X11_within wi; split
  · rfl
  · split <;> rfl
theorem lt_le9 (a : Int32) (k : Nat) (hk : k < 1000) : a < nI (k + 1) ↔ a ≤ nI k := by
  rw [Int32.lt_iff_toInt_lt, Int32.le_iff_toInt_le, nI_toInt (by omega), nI_toInt (by omega)]
  omega
theorem X11_isTile (a : Int32) : F_X11_isTile a = some (wi a 0 9) := by
  have e : a < 10 ↔ a ≤ 9 := lt_le9 a 9 (by omega)
  unfold F_X11_isTile wi; split
  · rfl
  · by_cases g : a < 10
    · rw [if_pos g, if_pos (e.mp g)]
    · rw [if_neg g, if_neg (fun w => g (e.mpr w))]
theorem X11_isHour (a : Int32) : F_X11_isHour a = some (wi a 0 12) := by
  have e : a < 13 ↔ a ≤ 12 := lt_le9 a 12 (by omega)
  unfold F_X11_isHour wi; split
  · rfl
  · by_cases g : a < 13
    · rw [if_pos g, if_pos (e.mp g)]
    · rw [if_neg g, if_neg (fun w => g (e.mpr w))]
theorem wi_01 (a b c : Int32) : wi a b c = 0 ∨ wi a b c = 1 := by
  unfold wi; split
  · exact Or.inl rfl
  · split
    · exact Or.inr rfl
    · exact Or.inl rfl
theorem rz_wi (a b c : Int32) : rz (wi a b c) = some (wi a b c) := by
  unfold rz; rw [if_pos (wi_01 a b c)]
theorem wi_one {k lo hi : Nat} (h1 : lo ≤ k) (h2 : k ≤ hi) (h3 : hi < 2147483648) : wi (nI k) (nI lo) (nI hi) = 1 := by
  unfold wi
  rw [if_neg (nI_nlt h1 (by omega)), if_pos (nI_le h2 h3)]
theorem wi_zero {k lo hi : Nat} (h : k < lo ∨ hi < k) (h3 : hi < 2147483648) (h4 : lo < 2147483648) (h5 : k < 2147483648) : wi (nI k) (nI lo) (nI hi) = 0 := by
  unfold wi
  rcases h with h | h
  · rw [if_pos (nI_lt h h4)]
  · split
    · rfl
    · rw [if_neg (nI_ge h h5)]
theorem wi_cases (a : Int32) (lo hi : Nat) (h3 : hi < 2147483648) (h4 : lo < 2147483648) : wi a (nI lo) (nI hi) = 0 ∨ (wi a (nI lo) (nI hi) = 1 ∧ ∃ k, lo ≤ k ∧ k ≤ hi ∧ a = nI k) := by
  rcases wi_01 a (nI lo) (nI hi) with h | h
  · exact Or.inl h
  · refine Or.inr ⟨h, ?_⟩
    unfold wi at h
    split at h
    · exact absurd h (by decide)
    next g1 =>
      split at h
      next g2 =>
        have hz : ¬ a < 0 := by
          intro hc
          apply g1
          rw [Int32.lt_iff_toInt_lt] at hc ⊢
          rw [nI_toInt h4]
          have : (0 : Int32).toInt = 0 := by decide
          omega
        obtain ⟨j, hj, rfl⟩ := nI_of hz
        refine ⟨j, ?_, ?_, rfl⟩
        · rcases Nat.lt_or_ge j lo with g | g
          · exact absurd (nI_lt g h4) g1
          · exact g
        · rcases Nat.lt_or_ge hi j with g | g
          · exact absurd g2 (nI_ge g hj)
          · exact g
      · exact absurd h (by decide)
/-! parties -/
theorem has_1 (h : Ct s q P 6 r) (hO : Ok r) {p : Nat} (hp1 : p < r 0 0) : F_X1_has 6 (nI p) (hp s l q P) = some 1 := by
  have h5 := hO.n5
  obtain ⟨j, hj, _⟩ := h.2.2 p hp1
  have hj' : q 7 p = some (40 + j) := hj
  have hlt : nI p < nI (r 0 0) := nI_lt hp1 (by omega)
  have hp5 : p < 5 := by omega
  unfold F_X1_has
  rw [if_neg (nI_pos (by omega))]
  simp only [G_gI, G_gR, some_bind, h.1.1, if_pos hlt, G_gq, hp5, hj']
theorem has_0 (h : Ct s q P 6 r) (hO : Ok r) {a : Int32} (hn : ∀ p, p < r 0 0 → a ≠ nI p) : F_X1_has 6 a (hp s l q P) = some 0 := by
  have h5 := hO.n5
  unfold F_X1_has
  split
  · rfl
  next g =>
    obtain ⟨j, hj, rfl⟩ := nI_of g
    have hlt : ¬ nI j < nI (r 0 0) := by
      refine nI_nlt ?_ hj
      rcases Nat.lt_or_ge j (r 0 0) with g2 | g2
      · exact absurd rfl (hn j g2)
      · exact g2
    simp only [G_gI, some_bind, h.1.1, if_neg hlt]
theorem two_1 (h : Ct s q P 6 r) (hO : Ok r) {a b : Nat} (ha : a < r 0 0) (hb : b < r 0 0) (hab : a ≠ b) : F_X1_hasTwo 6 (nI a) (nI b) (hp s l q P) = some 1 := by
  have h5 := hO.n5
  have e : ¬ nI a = nI b := by rw [nI_eq (by omega) (by omega)]; exact hab
  have z : ¬ (1 : Int32) = 0 := by decide
  unfold F_X1_hasTwo
  simp only [G_ko, some_bind, has_1 h hO ha, has_1 h hO hb, if_neg e, if_neg z]
theorem two_0 (h : Ct s q P 6 r) (hO : Ok r) {a b : Int32} (hn : ∀ x y, x < r 0 0 → y < r 0 0 → x ≠ y → ¬ (a = nI x ∧ b = nI y)) : F_X1_hasTwo 6 a b (hp s l q P) = some 0 := by
  have z : ¬ (1 : Int32) = 0 := by decide
  unfold F_X1_hasTwo
  simp only [G_ko, some_bind]
  by_cases g1 : ∃ x, x < r 0 0 ∧ a = nI x
  · obtain ⟨x, hx, rfl⟩ := g1
    simp only [has_1 h hO hx, some_bind, if_neg z]
    by_cases g2 : ∃ y, y < r 0 0 ∧ b = nI y
    · obtain ⟨y, hy, rfl⟩ := g2
      simp only [has_1 h hO hy, some_bind, if_neg z]
      rw [if_pos]
      by_cases g3 : x = y
      · rw [g3]
      · exact absurd ⟨rfl, rfl⟩ (hn x y hx hy g3)
    · rw [has_0 h hO (fun p hp1 e => g2 ⟨p, hp1, e⟩)]
      simp only [some_bind, reduceIte]
  · rw [has_0 h hO (fun p hp1 e => g1 ⟨p, hp1, e⟩)]
    simp only [some_bind, reduceIte]
end RL
