/-! tiles covered, cases as they should be -/
section SE
variable {s : Nat → Nat → Int32} {l : Nat → Nat → Int64} {q : Nat → Nat → Option Nat} {P : List Nat} {r : Nat → Nat → Nat}
theorem sbd {α β : Type} (x : α) (f : α → Option β) : (some x).bind f = f x := Eq.trans (Option.bind_some x f) (Eq.refl _)
/-- tiles covered by so many, and cases as they should be -/
def cge (r : Nat → Nat → Nat) (k t : Nat) : Bool := Nat.ble k (pc (covT r t))
theorem cge_t {k t : Nat} (h : k ≤ pc (covT r t)) : cge r k t = true := Nat.ble_eq_true_of_le h
theorem cge_f {k t : Nat} (h : pc (covT r t) < k) : cge r k t = false := by
  unfold cge
  cases e : Nat.ble k (pc (covT r t)) with
  | false => rfl
  | true => exact absurd (Nat.le_of_ble_eq_true e) (by omega)
def tcov (r : Nat → Nat → Nat) (k : Nat) : Nat := Cn (cge r k) 10 0
theorem tcov_loop (h : Ct s q P 6 r) (hO : Ok r) {k : Nat} (hk : k < 3) : ∀ (n i acc f : Nat), i + n = 10 → n < f → F_X1_tilesCoveredBy_B4 6 (nI k) (hp s l q P) f (nI acc) (nI i) = some (nI (acc + Cn (cge r k) n i))
  | _, _, _, 0, _, hf => absurd hf (by omega)
  | 0, i, acc, f + 1, hi, _ => by
    have e : ¬ nI i < 10 := nI_nlt (b := 10) (by omega) (by omega)
    unfold F_X1_tilesCoveredBy_B4 Cn
    rw [if_neg e]; rfl
  | n + 1, i, acc, f + 1, hi, hf => by
    have e : nI i < 10 := nI_lt (b := 10) (by omega) (by omega)
    have i10 : i < 10 := by omega
    have hl := covT_lt hO i
    have hp1 := pc_le (covT r i)
    have ih := fun a => tcov_loop h hO hk n (i + 1) a f (by omega) (by omega)
    have hs := bitC_ok (show covT r i < 8192 by omega)
    have hcv := covering_ok (l := l) h hO i10
    unfold F_X1_tilesCoveredBy_B4 Cn
    rw [if_pos e]
    simp only [G_ko, sbd, hcv, hs]
    rcases Nat.lt_or_ge (pc (covT r i)) k with g | g
    · rw [if_pos (nI_lt g (by omega)), cge_f g, nI_1, ih]; simp
    · rw [if_neg (nI_nlt g (by omega)), cge_t g, nI_1, nI_1, ih]; simp [Nat.add_assoc]
theorem tcov_ok (h : Ct s q P 6 r) (hO : Ok r) {k : Nat} (hk : k < 3) : F_X1_tilesCoveredBy 6 (nI k) (hp s l q P) = some (nI (tcov r k)) := by
  have e := tcov_loop (l := l) h hO hk 10 0 0 200 rfl (by omega)
  rw [Nat.zero_add] at e
  exact e
def good (r : Nat → Nat → Nat) : Nat := Cn (fun i => decide (0 < bal r (r 8 i) (r 9 i) (r 5 0))) (r 7 0) 0
theorem w_le0 {z : Int} (h1 : -1000 ≤ z) (h2 : z ≤ 1000) : wI z ≤ 0 ↔ ¬ 0 < z := by
  show wI z ≤ wI 0 ↔ _
  rw [wI_le (by omega) (by omega) (by omega) (by omega)]; omega
theorem good_loop (h : Ct s q P 6 r) (hO : Ok r) : ∀ (n i acc f : Nat), i + n = r 7 0 → n < f → F_X1_casesAsTheyShouldBe_B4 6 (hp s l q P) f (nI acc) (nI i) = some (nI (acc + Cn (fun i => decide (0 < bal r (r 8 i) (r 9 i) (r 5 0))) n i))
  | _, _, _, 0, _, hf => absurd hf (by omega)
  | 0, i, acc, f + 1, hi, _ => by
    have h5 : r 7 0 ≤ 5 := hO.2.2.2.2.2.2.2.1
    have e : ¬ nI i < nI (r 7 0) := nI_nlt (by omega) (by omega)
    unfold F_X1_casesAsTheyShouldBe_B4 Cn
    simp only [G_gI, some_bind, h.1.2.2.2.1, if_neg e]
    rfl
  | n + 1, i, acc, f + 1, hi, hf => by
    have h5 : r 7 0 ≤ 5 := hO.2.2.2.2.2.2.2.1
    have e : nI i < nI (r 7 0) := nI_lt (by omega) (by omega)
    have i5 : i < 5 := by omega
    have e1 : s 11 i = nI (r 8 i) := h.2.1.2.2.2.1 i
    have e2 : s 12 i = nI (r 9 i) := h.2.1.2.2.2.2.1 i
    have hc := hO.2.2.2.2.2.2.2.2.1 i (by omega)
    have he : r 5 0 < 13 := hO.2.2.2.2.2.1
    have hb := bal_le hO (r 8 i) (r 9 i) (r 5 0)
    have ih := fun a => good_loop h hO n (i + 1) a f (by omega) (by omega)
    unfold F_X1_casesAsTheyShouldBe_B4 Cn
    simp only [G_gI, G_gR, G_ga, G_ko, i5, some_bind, h.1.2.2.2.1, h.1.2.1, e1, e2, if_pos e, balance_ok h hO hc.1 hc.2 he, w_le0 (show -1000 ≤ bal r (r 8 i) (r 9 i) (r 5 0) by omega) (show bal r (r 8 i) (r 9 i) (r 5 0) ≤ 1000 by omega), nI_1, ih, decide_eq_true_eq]
    split
    next g => simp only [if_neg g, Nat.zero_add]
    next g => rw [if_pos (Decidable.not_not.mp g), Nat.add_assoc]
theorem good_ok (h : Ct s q P 6 r) (hO : Ok r) : F_X1_casesAsTheyShouldBe 6 (hp s l q P) = some (nI (good r)) := by
  have e := good_loop (l := l) h hO (r 7 0) 0 0 200 (by omega) (by have : r 7 0 ≤ 5 := hO.2.2.2.2.2.2.2.1; omega)
  rw [Nat.zero_add] at e
  exact e
end SE
