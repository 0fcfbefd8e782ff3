/-! CALLS: blank, settle, forget, letter -/
section CA
variable {s s' : Nat → Nat → Int32} {l l' : Nat → Nat → Int64} {q : Nat → Nat → Option Nat} {P : List Nat} {r k : Nat → Nat → Nat} {pg : Nat → Nat} {M n c : Nat} {b : Bool}
theorem upd_s (f : Nat → Int32) (k : Nat) (x : Int32) : upd f k x k = x := by unfold upd; rw [if_pos rfl]
theorem upd_n {f : Nat → Int32} {k j : Nat} (x : Int32) (h : j ≠ k) : upd f k x j = f j := by unfold upd; rw [if_neg h]
end CA
/-! CALLS: settle, forget, stand, rise -/
section CB
variable {s s' : Nat → Nat → Int32} {l l' : Nat → Nat → Int64} {q : Nat → Nat → Option Nat} {P : List Nat} {r k : Nat → Nat → Nat} {pg : Nat → Nat} {M n c : Nat} {b : Bool}
theorem wi_09 (a : Int32) : wi a 0 9 = 0 ∨ (wi a 0 9 = 1 ∧ ∃ t, t < 10 ∧ a = nI t) := by
  rcases wi_cases a 0 9 (by omega) (by omega) with h | ⟨h, t, _, h2, h3⟩
  · exact Or.inl h
  · exact Or.inr ⟨h, t, by omega, h3⟩
theorem wi_19 (a : Int32) : wi a 1 9 = 0 ∨ (wi a 1 9 = 1 ∧ ∃ t, 1 ≤ t ∧ t < 10 ∧ a = nI t) := by
  rcases wi_cases a 1 9 (by omega) (by omega) with h | ⟨h, t, h1, h2, h3⟩
  · exact Or.inl h
  · exact Or.inr ⟨h, t, h1, by omega, h3⟩
theorem upd_va {f : Nat → Int32} {g : Nat → Nat} (h : ∀ i, f i = nI (g i)) (p t : Nat) : ∀ i, upd f p (nI t) i = nI (va_up g p t i) := by
  intro i
  unfold upd va_up
  split
  · rfl
  · exact h i
theorem va_lt {g : Nat → Nat} {m t : Nat} (h : ∀ i, g i < m) (ht : t < m) (p : Nat) : ∀ i, va_up g p t i < m := by
  intro i
  unfold va_up
  split
  · exact ht
  · exact h i
end CB
/-! CALLS: step, covers, found, odds, terms -/
section CC
variable {s s' : Nat → Nat → Int32} {l l' : Nat → Nat → Int64} {q : Nat → Nat → Option Nat} {P : List Nat} {r k : Nat → Nat → Nat} {pg : Nat → Nat} {M n c : Nat} {b : Bool}
theorem wi_012 (a : Int32) : wi a 0 12 = 0 ∨ (wi a 0 12 = 1 ∧ ∃ t, t < 13 ∧ a = nI t) := by
  rcases wi_cases a 0 12 (by omega) (by omega) with h | ⟨h, t, _, h2, h3⟩
  · exact Or.inl h
  · exact Or.inr ⟨h, t, by omega, h3⟩
theorem rz0 : rz 0 = some 0 := rfl
theorem rz1 : rz 1 = some 1 := rfl
end CC
/-! CALLS: lay, tile, game, odds, terms -/
section CD
variable {s s' : Nat → Nat → Int32} {l l' : Nat → Nat → Int64} {q : Nat → Nat → Option Nat} {P : List Nat} {r k : Nat → Nat → Nat} {pg : Nat → Nat} {M n c : Nat} {b : Bool}
theorem none_ok (h : Ct s q P 6 r) (hO : Ok r) : F_X1_isNone 6 (hp s l q P) = some (if r 0 0 = 0 then 1 else 0) := by
  have n5 := hO.n5
  have e : nI (r 0 0) = 0 ↔ r 0 0 = 0 := by
    show nI (r 0 0) = nI 0 ↔ _
    exact nI_eq (by omega) (by omega)
  unfold F_X1_isNone
  simp only [G_gI, sbd, h.1.1]
  by_cases g : r 0 0 = 0
  · rw [if_pos (e.mpr g), if_pos g]
  · rw [if_neg (fun w => g (e.mp w)), if_neg g]
end CD
/-! CALLS: odds, terms, tile -/
section CE
variable {s s' : Nat → Nat → Int32} {l l' : Nat → Nat → Int64} {q : Nat → Nat → Option Nat} {P : List Nat} {r k : Nat → Nat → Nat} {pg : Nat → Nat} {M n c : Nat} {b : Bool}
theorem wi_02 (a : Int32) : wi a 0 2 = 0 ∨ (wi a 0 2 = 1 ∧ ∃ t, t < 3 ∧ a = nI t) := by
  rcases wi_cases a 0 2 (by omega) (by omega) with h | ⟨h, t, _, h2, h3⟩
  · exact Or.inl h
  · exact Or.inr ⟨h, t, by omega, h3⟩
theorem wi_160 (a : Int32) : wi a 1 60 = 0 ∨ (wi a 1 60 = 1 ∧ ∃ t, t ≤ 60 ∧ a = nI t) := by
  rcases wi_cases a 1 60 (by omega) (by omega) with h | ⟨h, t, h1, h2, h3⟩
  · exact Or.inl h
  · exact Or.inr ⟨h, t, h2, h3⟩
end CE
/-! CALLS: as, party -/
section CF
variable {s s' : Nat → Nat → Int32} {l l' : Nat → Nat → Int64} {q : Nat → Nat → Option Nat} {P : List Nat} {r k : Nat → Nat → Nat} {pg : Nat → Nat} {M n c : Nat} {b : Bool}
theorem wi_04 (a : Int32) : wi a 0 4 = 0 ∨ (wi a 0 4 = 1 ∧ ∃ t, t < 5 ∧ a = nI t) := by
  rcases wi_cases a 0 4 (by omega) (by omega) with h | ⟨h, t, _, h2, h3⟩
  · exact Or.inl h
  · exact Or.inr ⟨h, t, by omega, h3⟩
theorem wi_06 (a : Int32) : wi a 0 6 = 0 ∨ (wi a 0 6 = 1 ∧ ∃ t, t < 7 ∧ a = nI t) := by
  rcases wi_cases a 0 6 (by omega) (by omega) with h | ⟨h, t, _, h2, h3⟩
  · exact Or.inl h
  · exact Or.inr ⟨h, t, by omega, h3⟩
def asB (k w : Nat) : Bool := Nat.beq w 0 || Nat.beq k w || (Nat.beq w 1 && Nat.beq k 4)
end CF
/-! CALLS: file, letter -/
section CG
variable {s s' : Nat → Nat → Int32} {l l' : Nat → Nat → Int64} {q : Nat → Nat → Option Nat} {P : List Nat} {r k : Nat → Nat → Nat} {pg : Nat → Nat} {M n c : Nat} {b : Bool}
theorem u_up (s : Nat → Nat → Int32) (a i : Nat) (v : Int32) : us s a (upd (s a) i v) a i = v := by rw [us_self]; exact upd_s _ _ _
end CG
/-! CALLS: letter -/
section CI
variable {M : Nat}
theorem ch_1 : ∀ ch, ch < 127 → nr 1 (((nI ch).toUInt32 % 65536).toInt32) = nI ch := by decide +kernel
theorem wi_ch (a : Int32) : wi a 32 126 = 0 ∨ (wi a 32 126 = 1 ∧ ∃ t, t < 127 ∧ a = nI t) := by
  rcases wi_cases a 32 126 (by omega) (by omega) with h | ⟨h, t, _, h2, h3⟩
  · exact Or.inl h
  · exact Or.inr ⟨h, t, by omega, h3⟩
end CI
