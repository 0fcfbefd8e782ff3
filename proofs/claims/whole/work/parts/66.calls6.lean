/-! CALLS: as, party -/
section CF
variable {s s' : Nat → Nat → Int32} {l l' : Nat → Nat → Int64} {q : Nat → Nat → Option Nat} {P : List Nat} {r k : Nat → Nat → Nat} {pg : Nat → Nat} {M n c : Nat} {b : Bool}
theorem wi_04 (a : Int32) : wi a 0 4 = 0 ∨ (wi a 0 4 = 1 ∧ ∃ t, t < 5 ∧ a = nI t) := by
  rcases wi_cases a 0 4 (by omega) (by omega) with h | ⟨h, t, _, h2, h3⟩
  · exact Or.inl h
  · exact Or.inr ⟨h, t, by omega, h3⟩
theorem wi_06 (a : Int32) : wi a 0 6 = 0 ∨ (wi a 0 6 = 1 ∧ ∃ t, t < 7 ∧ a = nI t) := by
  rcases wi_cases a 0 6 (by omega) (by omega) with h | ⟨h, t, _, h2, h3⟩
  · exact Or.inl h
  · exact Or.inr ⟨h, t, by omega, h3⟩
def asB (k w : Nat) : Bool := Nat.beq w 0 || Nat.beq k w || (Nat.beq w 1 && Nat.beq k 4)
theorem rd_as (a1 a2 : Int32) : Rd M (F_X11_as 3 a1 a2) (F_X12_as 39 a1 a2) := by
  rintro s l q P ⟨r, k, pg, n, c, b, hC, hM, hO⟩
  have n5 := hO.1.n5
  have z : ¬ (1 : Int32) = 0 := by decide
  by_cases g : ∃ p, p < r 0 0 ∧ a1 = nI p
  · obtain ⟨p, hp1, rfl⟩ := g
    have p5 : p < 5 := by omega
    have e1 : s 41 p = nI (r 1 p) := hM.1.2.2 p
    have hk5 := hO.1.2.1 p
    obtain ⟨a, hq, hk⟩ := kd (l := l) hC.1 hp1
    rcases wi_04 a2 with h0 | ⟨h1, w, hw, rfl⟩
    · have k0 : ¬ a2 = 0 := fun e => by rw [e] at h0; exact absurd h0 (by decide)
      have k1 : ¬ a2 = 1 := fun e => by rw [e] at h0; exact absurd h0 (by decide)
      have k2 : ¬ a2 = 2 := fun e => by rw [e] at h0; exact absurd h0 (by decide)
      have k3 : ¬ a2 = 3 := fun e => by rw [e] at h0; exact absurd h0 (by decide)
      have k4 : ¬ a2 = 4 := fun e => by rw [e] at h0; exact absurd h0 (by decide)
      refine ⟨-102, ?_, ?_⟩
      · unfold F_X11_as
        simp only [G_gR, G_ko, sbd, has_1 hC.1 hO.1 hp1, if_neg z, if_neg k0, if_neg k1, if_neg k2, if_neg k3, if_neg k4]
      · unfold F_X12_as
        simp only [G_gR, G_ko, sbd, isP_1 hM.1 hO.1 hp1, if_neg z, X12_within, h0, reduceIte]
    · refine ⟨if asB (r 1 p) w = true then nI p else -1, ?_, ?_⟩
      · unfold F_X11_as
        simp only [G_gR, G_ko, G_gq, p5, sbd, has_1 hC.1 hO.1 hp1, if_neg z, hq, hk]
        revert hk5
        generalize r 1 p = kk
        intro hk5
        rcases (by omega : kk = 0 ∨ kk = 1 ∨ kk = 2 ∨ kk = 3 ∨ kk = 4) with rfl | rfl | rfl | rfl | rfl <;>
          rcases (by omega : w = 0 ∨ w = 1 ∨ w = 2 ∨ w = 3 ∨ w = 4) with rfl | rfl | rfl | rfl | rfl <;> rfl
      · unfold F_X12_as
        simp only [G_gR, G_ko, G_ga, p5, sbd, isP_1 hM.1 hO.1 hp1, if_neg z, X12_within, h1, e1]
        revert hk5
        generalize r 1 p = kk
        intro hk5
        rcases (by omega : kk = 0 ∨ kk = 1 ∨ kk = 2 ∨ kk = 3 ∨ kk = 4) with rfl | rfl | rfl | rfl | rfl <;>
          rcases (by omega : w = 0 ∨ w = 1 ∨ w = 2 ∨ w = 3 ∨ w = 4) with rfl | rfl | rfl | rfl | rfl <;> rfl
  · have g' : ∀ p, p < r 0 0 → a1 ≠ nI p := fun p hp1 e => g ⟨p, hp1, e⟩
    refine ⟨-101, ?_, ?_⟩
    · unfold F_X11_as
      simp only [G_gR, G_ko, sbd, has_0 hC.1 hO.1 g', reduceIte]
    · unfold F_X12_as
      simp only [G_gR, G_ko, sbd, isP_0 hM.1 hO.1 g', reduceIte]
/-- what party answers -/
def ptV (r : Nat → Nat → Nat) (p w : Nat) : Int32 :=
  if w = 0 then nI (r 1 p) else if w = 1 then nI (r 2 p) else if w = 2 then nI (r 3 p) else if w = 3 then nI (cv r p (r 5 0)) else if w = 4 then nI (Ws (r 4) (cv r p (r 5 0))) else if w = 5 then nI (hts r p) else wI (lkP r p)
theorem party_c (hC : Ct s q P 6 r) (hO : Ok r) {p w : Nat} (hp1 : p < r 0 0) (hw : w < 7) : ∃ g : Nat → Int32, F_X11_party 3 (nI p) (nI w) (hp s l q P) = some (ptV r p w, hp (us s 29 g) l q P) := by
  have n5 := hO.n5
  have z : ¬ (1 : Int32) = 0 := by decide
  have p5 : p < 5 := by omega
  have he : r 5 0 < 13 := hO.2.2.2.2.2.1
  have hl := cv_lt hO p he
  have hk5 := hO.2.1 p
  have e2 : s 8 p = nI (r 2 p) := hC.2.1.1 p
  have e3 : s 9 p = nI (r 3 p) := hC.2.1.2.1 p
  have e5 : s 6 5 = nI (r 5 0) := hC.1.2.1
  obtain ⟨a, hq, -, -, hk⟩ := kd (l := l) hC hp1
  rw [kcn_kcl _ hk5] at hk
  obtain ⟨g6, h6⟩ := look_ok (l := l) hC hO hp1
  have hh := heights_ok (l := l) hC hO hp1
  have hs := shade_ok (l := l) hC hO hp1 he
  have hw2 := worthOf_ok (l := l) hC (show cv r p (r 5 0) < 2147483648 by omega)
  rcases (by omega : w = 0 ∨ w = 1 ∨ w = 2 ∨ w = 3 ∨ w = 4 ∨ w = 5 ∨ w = 6) with rfl | rfl | rfl | rfl | rfl | rfl | rfl
  · refine ⟨s 29, ?_⟩
    rw [us_id]
    unfold F_X11_party
    simp only [G_gR, G_ko, G_gq, p5, sbd, has_1 hC hO hp1, if_neg z, hq, hk]
    rw [if_pos (show nI 0 = 0 from rfl)]
    rfl
  · refine ⟨s 29, ?_⟩
    rw [us_id]
    unfold F_X11_party
    simp only [G_gR, G_ko, G_ga, p5, sbd, has_1 hC hO hp1, if_neg z, e2]
    rfl
  · refine ⟨s 29, ?_⟩
    rw [us_id]
    unfold F_X11_party
    simp only [G_gR, G_ko, G_ga, p5, sbd, has_1 hC hO hp1, if_neg z, e3]
    rfl
  · refine ⟨s 29, ?_⟩
    rw [us_id]
    unfold F_X11_party
    simp only [G_gR, G_gI, G_ko, G_ga, p5, sbd, has_1 hC hO hp1, if_neg z, e5, hs]
    rfl
  · refine ⟨s 29, ?_⟩
    rw [us_id]
    unfold F_X11_party
    simp only [G_gR, G_gI, G_ko, G_ga, p5, sbd, has_1 hC hO hp1, if_neg z, e5, hs, hw2]
    rfl
  · refine ⟨s 29, ?_⟩
    rw [us_id]
    unfold F_X11_party
    simp only [G_gR, G_gI, G_ko, G_ga, p5, sbd, has_1 hC hO hp1, if_neg z, hh]
    rfl
  · refine ⟨g6, ?_⟩
    unfold F_X11_party
    simp only [G_gR, G_gI, G_ko, G_ga, p5, sbd, has_1 hC hO hp1, if_neg z, h6, bd2_s]
    rfl
theorem party_m (hM : Md s r) (hO : Ok r) {p w : Nat} (p5 : p < 5) (hw : w < 7) : F_X12_partyNow 39 (nI p) (nI w) (hp s l q P) = some (ptV r p w, hp s l q P) := by
  have he : r 5 0 < 13 := hO.2.2.2.2.2.1
  have hl := cv_lt hO p he
  have e1 : s 41 p = nI (r 1 p) := hM.2.2 p
  have e2 : s 42 p = nI (r 2 p) := hM.2.1.1 p
  have e3 : s 43 p = nI (r 3 p) := hM.2.1.2.1 p
  have e5 : s 39 6 = nI (r 5 0) := hM.1.2.1
  have hs := coversIn_ok (l := l) (q := q) (P := P) hM hO p5 he
  have hw2 := worthIn_ok (l := l) (q := q) (P := P) hM (show cv r p (r 5 0) < 2147483648 by omega)
  have hh := heightsOf_ok (l := l) (q := q) (P := P) hM hO p5
  have hk := lookFor_ok (l := l) (q := q) (P := P) hM hO p5
  unfold F_X12_partyNow
  simp only [G_gR, G_gI, G_ko, G_ga, p5, sbd, e1, e2, e3, e5, hs, hw2, hh, hk, bd2_s]
  rcases (by omega : w = 0 ∨ w = 1 ∨ w = 2 ∨ w = 3 ∨ w = 4 ∨ w = 5 ∨ w = 6) with rfl | rfl | rfl | rfl | rfl | rfl | rfl <;> rfl
theorem go_party (a1 a2 : Int32) : Go M (F_X11_party 3 a1 a2) (F_X12_party 39 a1 a2) := by
  rintro s l q P ⟨r, k, pg, n, c, b, hC, hM, hO⟩
  have n5 := hO.1.n5
  have z : ¬ (1 : Int32) = 0 := by decide
  by_cases g : ∃ p, p < r 0 0 ∧ a1 = nI p
  · obtain ⟨p, hp1, rfl⟩ := g
    rcases wi_06 a2 with h0 | ⟨h1, w, hw, rfl⟩
    · have k0 : ¬ a2 = 0 := fun e => by rw [e] at h0; exact absurd h0 (by decide)
      have k1 : ¬ a2 = 1 := fun e => by rw [e] at h0; exact absurd h0 (by decide)
      have k2 : ¬ a2 = 2 := fun e => by rw [e] at h0; exact absurd h0 (by decide)
      have k3 : ¬ a2 = 3 := fun e => by rw [e] at h0; exact absurd h0 (by decide)
      have k4 : ¬ a2 = 4 := fun e => by rw [e] at h0; exact absurd h0 (by decide)
      have k5 : ¬ a2 = 5 := fun e => by rw [e] at h0; exact absurd h0 (by decide)
      have k6 : ¬ a2 = 6 := fun e => by rw [e] at h0; exact absurd h0 (by decide)
      refine ⟨-102, s, s, l, l, q, P, ?_, ?_, r, k, pg, n, c, b, hC, hM, hO.up⟩
      · unfold F_X11_party
        simp only [G_gR, G_ko, sbd, has_1 hC.1 hO.1 hp1, if_neg z, if_neg k0, if_neg k1, if_neg k2, if_neg k3, if_neg k4, if_neg k5, if_neg k6]
      · unfold F_X12_party
        simp only [G_gR, G_ko, sbd, isP_1 hM.1 hO.1 hp1, if_neg z, X12_within, h0, reduceIte]
    · obtain ⟨g1, e1⟩ := party_c (l := l) hC.1 hO.1 hp1 hw
      have hE : Eo s (us s 29 g1) := Eo.set 29 g1 (by omega)
      have hM1 := hM.eo hE
      have e2 := party_m (l := l) (q := q) (P := P) hM1.1 hO.1 (show p < 5 by omega) hw
      refine ⟨ptV r p w, us s 29 g1, us s 29 g1, l, l, q, P, e1, ?_, r, k, pg, n, c, b, hC.fr (fun a ha => hE a (by omega)), hM1, hO.up⟩
      unfold F_X12_party
      simp only [G_gR, G_ko, sbd, isP_1 hM1.1 hO.1 hp1, if_neg z, X12_within, h1, e2, bd2_s]
  · have g' : ∀ p, p < r 0 0 → a1 ≠ nI p := fun p hp1 e => g ⟨p, hp1, e⟩
    refine ⟨-101, s, s, l, l, q, P, ?_, ?_, r, k, pg, n, c, b, hC, hM, hO.up⟩
    · unfold F_X11_party
      simp only [G_gR, G_ko, sbd, has_0 hC.1 hO.1 g', reduceIte]
    · unfold F_X12_party
      simp only [G_gR, G_ko, sbd, isP_0 hM.1 hO.1 g', reduceIte]
end CF
