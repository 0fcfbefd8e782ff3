/-! HEIGHTS and LOOK -/
def Al (c : Nat → Bool) : Nat → Nat → Bool
  | 0, _ => true
  | n + 1, i => c i && Al c n (i + 1)
def sOk (r : Nat → Nat → Nat) (p hi k : Nat) : Bool := !(Nat.beq (r 11 k) p) || Nat.beq (b1 (sh (r 1 p) hi (r 3 p) (r 12 k)) (r 13 k)) (r 14 k)
def asS (r : Nat → Nat → Nat) (p hi : Nat) : Bool := Al (sOk r p hi) (r 10 0) 0
def hts (r : Nat → Nat → Nat) (p : Nat) : Nat := Mk (fun j => asS r p (j + 1)) 9 0 0
theorem hts_lt (r : Nat → Nat → Nat) (p : Nat) : hts r p < 512 := Mk_lt _ 9 0 0 (by decide)
theorem beq_t {a b : Nat} (h : a = b) : Nat.beq a b = true := by subst h; exact Nat.beq_refl a
theorem beq_f {a b : Nat} (h : ¬ a = b) : Nat.beq a b = false := by
  cases e : Nat.beq a b with
  | false => rfl
  | true => exact absurd (Nat.eq_of_beq_eq_true e) h
theorem us_us {α : Type} (s : Nat → Nat → α) (a : Nat) (f g : Nat → α) : us (us s a f) a g = us s a g := by
  funext b
  by_cases e : b = a
  · subst e; rw [us_self, us_self]
  · rw [us_ne _ _ e, us_ne _ _ e, us_ne _ _ e]
theorem us_id {α : Type} (s : Nat → Nat → α) (a : Nat) : us s a (s a) = s := by
  funext b
  by_cases e : b = a
  · subst e; rw [us_self]
  · rw [us_ne _ _ e]
theorem upd_upd (f : Nat → Int32) (k : Nat) (x : Int32) : upd (upd f k x) k (f k) = f := by
  funext j
  unfold upd
  split
  next e => rw [e]
  next e => rfl
def b2 (x : Bool) : Int32 := if x = true then 1 else 0
theorem b2_t : b2 true = 1 := rfl
theorem b2_f : b2 false = 0 := rfl
section LO
variable {s : Nat → Nat → Int32} {l : Nat → Nat → Int64} {q : Nat → Nat → Option Nat} {P : List Nat} {r : Nat → Nat → Nat}
theorem bd2_s {α β γ : Type} (a : α) (b : β) (K : α → β → Option γ) : bd2 (some (a, b)) K = K a b := rfl
theorem dsh_k (h : Ct s q P 6 r) (hO : Ok r) {p hi t e : Nat} (hp1 : p < r 0 0) (h1 : hi < 10) (h2 : t < 10) (h3 : e < 13) : ∃ a, q 7 p = some a ∧ dsh (hp s l q P) a (nI hi) (nI t) (nI e) = some (nI (sh (r 1 p) hi t e)) := by
  obtain ⟨a, h4, h5, h6, -⟩ := kd (l := l) h hp1
  exact ⟨a, h4, dsh_ok h5 h6 (hO.2.1 p) _ h1 _ h2 _ h3⟩
theorem asSeen_loop (h : Ct s q P 6 r) (hO : Ok r) {p hi : Nat} (hp1 : p < r 0 0) (h9 : hi < 10) : ∀ (n i f : Nat), i + n = r 10 0 → n < f → F_X8_isAsSeen_B3 6 (nI p) (nI hi) (hp s l q P) f (nI i) = some (b2 (Al (sOk r p hi) n i))
  | _, _, 0, _, hf => absurd hf (by omega)
  | 0, i, f + 1, hi1, _ => by
    have h8 : r 10 0 ≤ 8 := hO.2.2.2.2.2.2.2.2.2.1
    have e : ¬ nI i < nI (r 10 0) := nI_nlt (by omega) (by omega)
    unfold F_X8_isAsSeen_B3 Al
    simp only [G_gI, some_bind, h.1.2.2.2.2, if_neg e]; rfl
  | n + 1, i, f + 1, hi1, hf => by
    have n5 := hO.n5
    have h8 : r 10 0 ≤ 8 := hO.2.2.2.2.2.2.2.2.2.1
    have e : nI i < nI (r 10 0) := nI_lt (by omega) (by omega)
    have i8 : i < 8 := by omega
    have p5 : p < 5 := by omega
    have e1 : s 13 i = nI (r 11 i) := h.2.1.2.2.2.2.2.1 i
    have e2 : s 14 i = nI (r 12 i) := h.2.1.2.2.2.2.2.2.1 i
    have e3 : s 15 i = nI (r 13 i) := h.2.1.2.2.2.2.2.2.2.1 i
    have e4 : s 16 i = nI (r 14 i) := h.2.1.2.2.2.2.2.2.2.2 i
    have e5 : s 9 p = nI (r 3 p) := h.2.1.2.1 p
    have hb := hO.2.2.2.2.2.2.2.2.2.2
    have hb1 := hb.1 i
    have hb2 := hb.2.1 i
    have hb3 := hb.2.2.1 i
    have hb4 := hb.2.2.2 i
    have hs1 := sh_lt _ (hO.2.1 p) hi h9 _ (hO.2.2.2.1 p) _ hb2
    have hd := shadeIf_ok (l := l) h hO hp1 h9 (hO.2.2.2.1 p) hb2
    have ih := asSeen_loop h hO hp1 h9 n (i + 1) f (by omega) (by omega)
    unfold F_X8_isAsSeen_B3 Al
    simp only [G_ko, G_gI, G_gR, G_ga, G_gq, i8, p5, some_bind, h.1.2.2.2.2, if_pos e, e1, e2, e3, e4, e5, hd, n_bit (show sh (r 1 p) hi (r 3 p) (r 12 i) < 2147483648 by omega) (show r 13 i < 31 by omega), nI_1, ih]
    unfold sOk
    by_cases g1 : r 11 i = p
    · rw [if_pos (by rw [g1]), beq_t g1]
      by_cases g2 : b1 (sh (r 1 p) hi (r 3 p) (r 12 i)) (r 13 i) = r 14 i
      · rw [if_pos (by rw [g2]), beq_t g2]; rfl
      · rw [if_neg, beq_f g2]
        · rfl
        · have : b1 (sh (r 1 p) hi (r 3 p) (r 12 i)) (r 13 i) < 2 := by unfold b1; split <;> omega
          rw [nI_eq (by omega) (by omega)]; exact g2
    · rw [if_neg, beq_f g1]
      · rfl
      · rw [nI_eq (by omega) (by omega)]; exact g1
theorem heights_loop (h : Ct s q P 6 r) (hO : Ok r) {p : Nat} (hp1 : p < r 0 0) : ∀ (n j acc f : Nat), j + n = 9 → n < f → F_X8_heights_B5 28 6 (nI p) (hp s l q P) f (nI acc) (nI (j + 1)) = some (nI (Mk (fun j => asS r p (j + 1)) n j acc))
  | _, _, _, 0, _, hf => absurd hf (by omega)
  | 0, i, acc, f + 1, hi, _ => by
    have e : ¬ nI (i + 1) ≤ 9 := nI_ge (a := 9) (by omega) (by omega)
    unfold F_X8_heights_B5 Mk
    rw [if_neg e]
  | n + 1, i, acc, f + 1, hi, hf => by
    have h8 : r 10 0 ≤ 8 := hO.2.2.2.2.2.2.2.2.2.1
    have e : nI (i + 1) ≤ 9 := nI_le (b := 9) (by omega) (by omega)
    have i31 : i < 31 := by omega
    have ha := asSeen_loop (l := l) h hO hp1 (show i + 1 < 10 by omega) (r 10 0) 0 200 (by omega) (by omega)
    have ih := fun a => heights_loop h hO hp1 n (i + 1) a f (by omega) (by omega)
    have ha' : F_X8_isAsSeen 28 6 (nI p) (nI (i + 1)) (hp s l q P) = some (b2 (asS r p (i + 1))) := ha
    unfold F_X8_heights_B5 Mk
    rw [if_pos e]
    simp only [G_ko, some_bind, ha', nI_pred, nm, n_shl i i31, n_or, nI_1, ih]
    cases asS r p (i + 1)
    · rw [b2_f, if_pos rfl]; rfl
    · rw [b2_t, if_neg (by decide)]; rfl
theorem heights_ok (h : Ct s q P 6 r) (hO : Ok r) {p : Nat} (hp1 : p < r 0 0) : F_X8_heights 28 6 (nI p) (hp s l q P) = some (nI (hts r p)) :=
  heights_loop h hO hp1 9 0 0 200 rfl (by omega)
theorem Ok.set2 (h : Ok r) {p hi : Nat} (h1 : hi < 10) : Ok (us r 2 (va_up (r 2) p hi)) := by
  refine ⟨h.1, h.2.1, fun i => ?_, h.2.2.2⟩
  have e := h.2.2.1 i
  show va_up (r 2) p hi i < 10
  unfold va_up
  split
  · exact h1
  · exact e
theorem b1_beq {m t k : Nat} (hk : k < 2) : (nI (b1 m t) = (if nI k = 1 then 1 else 0)) ↔ b1 m t = k := by
  have : b1 m t < 2 := by unfold b1; split <;> omega
  rcases (by omega : k = 0 ∨ k = 1) with rfl | rfl
  · rw [if_neg (by decide)]
    show nI (b1 m t) = nI 0 ↔ _
    exact nI_eq (by omega) (by omega)
  · rw [if_pos (show nI 1 = 1 from rfl)]
    show nI (b1 m t) = nI 1 ↔ _
    exact nI_eq (by omega) (by omega)
end LO
