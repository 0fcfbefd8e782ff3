/-! GAME: the reference -/
section GC
variable {s s' s1 s2 : Nat → Nat → Int32} {l : Nat → Nat → Int64} {q : Nat → Nat → Option Nat} {P : List Nat} {r : Nat → Nat → Nat} {G : Nat → Nat → Int} {B : Int}
def Em (s s' : Nat → Nat → Int32) : Prop := (∀ a, a < 39 ∨ (40 ≤ a ∧ a < 51) ∨ 55 ≤ a → s' a = s a) ∧ ∀ k, k ≠ 18 → k ≠ 19 → s' 39 k = s 39 k
theorem Em.rfl : Em s s := ⟨fun _ _ => Eq.refl _, fun _ _ _ => Eq.refl _⟩
theorem Em.trans (h1 : Em s s1) (h2 : Em s1 s2) : Em s s2 := ⟨fun a ha => (h2.1 a ha).trans (h1.1 a ha), fun k h3 h4 => (h2.2 k h3 h4).trans (h1.2 k h3 h4)⟩
theorem Em.set (a : Nat) (f : Nat → Int32) (h : 51 ≤ a ∧ a < 55) : Em s (us s a f) := ⟨fun b hb => us_ne s f (by omega), fun k _ _ => by rw [us_ne s f (by omega)]⟩
theorem Md.em (h : Md s r) (e : Em s s') : Md s' r := h.mv (fun a h1 h2 => e.1 a (by omega)) (fun k hk => e.2 k (by omega) (by omega))
def Mg (s : Nat → Nat → Int32) (G : Nat → Nat → Int) : Prop := ∀ x y, x < 10 → y < 10 → s 51 (x * 10 + y) = wI (G x y)
def Bg (G : Nat → Nat → Int) (B : Int) : Prop := ∀ x y, x < 10 → y < 10 → -B ≤ G x y ∧ G x y ≤ B
theorem Bg.bd (hO : Ok r) (h : Bg G B) (a b e : Nat) : Bd (wx r a e) (wx r b e) G B := ⟨fun x _ => wx_le hO a _ x, fun x _ => wx_le hO b _ x, h⟩
theorem behind_ok {a b e x y : Nat} (h : Md s r) (hO : Ok r) (hG : Mg s G) (a5 : a < 5) (b5 : b < 5) (he : e < 13) (hx : x < 10) (hy : y < 10) : F_X12_behind 39 (nI a) (nI b) (nI e) (nI x) (nI y) (hp s l q P) = some (wI (val (wx r a e) (wx r b e) G x y)) := by
  have c1 := coversAt_ok (l := l) (q := q) (P := P) h hO a5 he hx
  have c2 := coversAt_ok (l := l) (q := q) (P := P) h hO b5 he hy
  have l1 := sh_lt _ (hO.2.1 a) _ (hO.2.2.1 a) x hx e he
  have l2 := sh_lt _ (hO.2.1 b) _ (hO.2.2.1 b) y hy e he
  have c3 := foundBy_ok (l := l) (q := q) (P := P) h l1 l2
  have k1 : x * 10 + y < 100 := by omega
  have e1 : 10 * nI x + nI y = nI (x * 10 + y) := by
    rw [show (10 : Int32) = nI 10 from rfl, n_mul, nI_add, Nat.mul_comm]
  unfold F_X12_behind
  simp only [G_ko, some_bind, c1, c2, c3, G_gR, e1, G_ga, k1, hG x y hx hy, wI_add]
  rfl
theorem ans_step {a b e x y j n : Nat} {M : Int} (h : Md s r) (hO : Ok r) (hG : Mg s G) (hB : Bg G B) (hB2 : B ≤ 300) (a5 : a < 5) (b5 : b < 5) (he : e < 13) (hx : x < 10) (hy : y < 10) (hj : j < 3) (hM : -500 ≤ M ∧ M ≤ 268435456) :
    F_X12_answered_B7 39 (nI a) (nI b) (nI e) (nI x) (nI y) (hp s l q P) (n + 1) (wI M) (wI ((j : Int) - 1)) = F_X12_answered_B7 39 (nI a) (nI b) (nI e) (nI x) (nI y) (hp s l q P) n (wI (anS (val (wx r a e) (wx r b e) G) x y j M)) (wI (((j + 1 : Nat) : Int) - 1)) := by
  have e1 : wI ((j : Int) - 1) ≤ 1 := by
    show _ ≤ wI 1
    rw [wI_le (by omega) (by omega) (by omega) (by omega)]; omega
  have e2 : wI ((j : Int) - 1) + 1 = wI (((j + 1 : Nat) : Int) - 1) := by
    show _ + wI 1 = _
    rw [wI_add]; congr 1; omega
  have hm := mayStep_ok y hy j hj x hx
  rw [F_X12_answered_B7, if_pos e1]
  simp only [hm, some_bind, if01, e2]
  unfold anS
  cases c : lg y j x with
  | false => rfl
  | true =>
    have ht := lg_T c
    have hv := (hB.bd hO a b e).vl hx ht.1
    have e3 : nI y + wI ((j : Int) - 1) = nI (T3 y j) := by
      rw [wI_n, wI_add, wI_n, ← ht.2]; congr 1; omega
    have hb := behind_ok (l := l) (q := q) (P := P) h hO hG a5 b5 he hx ht.1
    simp only [reduceIte]
    simp only [G_ko, some_bind, e3, hb]
    unfold mn
    by_cases g : val (wx r a e) (wx r b e) G x (T3 y j) < M
    · rw [if_pos g, if_pos ((wI_lt (by omega) (by omega) (by omega) (by omega)).mpr g)]
    · rw [if_neg g, if_neg (fun z => g ((wI_lt (by omega) (by omega) (by omega) (by omega)).mp z))]
theorem answered_ok {a b e x y : Nat} (h : Md s r) (hO : Ok r) (hG : Mg s G) (hB : Bg G B) (hB2 : B ≤ 300) (a5 : a < 5) (b5 : b < 5) (he : e < 13) (hx : x < 10) (hy : y < 10) : F_X12_answered 39 (nI a) (nI b) (nI e) (nI x) (nI y) (hp s l q P) = some (wI (Aan (wx r a e) (wx r b e) G y x)) := by
  have vl := fun t ht => (hB.bd hO a b e).vl hx (y := t) ht
  have lo : ∀ t, t < 10 → -500 ≤ val (wx r a e) (wx r b e) G x t := fun t ht => by have := vl t ht; omega
  have hM1 : -500 ≤ anS (val (wx r a e) (wx r b e) G) x y 0 268435456 ∧ anS (val (wx r a e) (wx r b e) G) x y 0 268435456 ≤ 268435456 := ⟨anS_lo (by omega) lo, anS_r _ _ _ _ _⟩
  have hM2 : -500 ≤ anS (val (wx r a e) (wx r b e) G) x y 1 (anS (val (wx r a e) (wx r b e) G) x y 0 268435456) ∧ anS (val (wx r a e) (wx r b e) G) x y 1 (anS (val (wx r a e) (wx r b e) G) x y 0 268435456) ≤ 268435456 := ⟨anS_lo hM1.1 lo, Int.le_trans (anS_r _ _ _ _ _) hM1.2⟩
  unfold F_X12_answered
  show F_X12_answered_B7 39 (nI a) (nI b) (nI e) (nI x) (nI y) (hp s l q P) (196 + 1 + 1 + 1 + 1) (wI 268435456) (wI (((0 : Nat) : Int) - 1)) = _
  rw [ans_step h hO hG hB hB2 a5 b5 he hx hy (by omega) (by omega), ans_step h hO hG hB hB2 a5 b5 he hx hy (by omega) hM1, ans_step h hO hG hB hB2 a5 b5 he hx hy (by omega) hM2]
  rw [F_X12_answered_B7, if_neg (show ¬ wI (((0 + 1 + 1 + 1 : Nat) : Int) - 1) ≤ 1 by decide)]
  show some (wI (an (val (wx r a e) (wx r b e) G) x y 268435456)) = _
  unfold Aan
  rw [an_far (N := 500) hy (fun t ht => by have := vl t ht; omega) (fun t ht => by have := vl t ht; omega)]
theorem bfr_step {a b e x y j n c : Nat} {M : Int} (h : Md s r) (hO : Ok r) (hG : Mg s G) (hB : Bg G B) (hB2 : 0 ≤ B ∧ B ≤ 300) (a5 : a < 5) (b5 : b < 5) (he : e < 13) (hx : x < 10) (hy : y < 10) (hj : j < 3) (hM : -268435456 ≤ M ∧ M ≤ 500) :
    F_X12_bestFrom_B7 39 (nI a) (nI b) (nI e) (nI x) (nI y) (hp s l q P) (n + 1) (wI M) (wI ((j : Int) - 1)) = F_X12_bestFrom_B7 39 (nI a) (nI b) (nI e) (nI x) (nI y) (hp s l q P) n (wI (bsS (Aan (wx r a e) (wx r b e) G y) x y j (c, M)).2) (wI (((j + 1 : Nat) : Int) - 1)) := by
  have e1 : wI ((j : Int) - 1) ≤ 1 := by
    show _ ≤ wI 1
    rw [wI_le (by omega) (by omega) (by omega) (by omega)]; omega
  have e2 : wI ((j : Int) - 1) + 1 = wI (((j + 1 : Nat) : Int) - 1) := by
    show _ + wI 1 = _
    rw [wI_add]; congr 1; omega
  have hm := mayStep_ok x hx j hj y hy
  rw [F_X12_bestFrom_B7, if_pos e1]
  simp only [hm, some_bind, if01, e2]
  unfold bsS
  cases cc : lg x j y with
  | false => rfl
  | true =>
    have ht := lg_T cc
    have hv := Aan_bd (hB.bd hO a b e) hB2 ht.1 hy
    have e3 : nI x + wI ((j : Int) - 1) = nI (T3 x j) := by
      rw [wI_n, wI_add, wI_n, ← ht.2]; congr 1; omega
    have hb := answered_ok (l := l) (q := q) (P := P) h hO hG hB hB2.2 a5 b5 he ht.1 hy
    simp only [reduceIte]
    simp only [G_ko, some_bind, e3, hb]
    by_cases g : Aan (wx r a e) (wx r b e) G y (T3 x j) ≤ M
    · rw [if_pos g, if_pos ((wI_le (by omega) (by omega) (by omega) (by omega)).mpr g)]
    · rw [if_neg g, if_neg (fun z => g ((wI_le (by omega) (by omega) (by omega) (by omega)).mp z))]
theorem bsS_bdm {A : Nat → Int} {x y j : Nat} {z : Nat × Int} (hA : ∀ t, t < 10 → -500 ≤ A t ∧ A t ≤ 500) (hz : -268435456 ≤ z.2 ∧ z.2 ≤ 500) : -268435456 ≤ (bsS A x y j z).2 ∧ (bsS A x y j z).2 ≤ 500 := by
  unfold bsS
  split
  next h =>
    split
    · exact hz
    · have := hA _ (lg_T h).1
      exact ⟨Int.le_trans (by omega) this.1, this.2⟩
  · exact hz
theorem bestFrom_ok {a b e x y : Nat} (h : Md s r) (hO : Ok r) (hG : Mg s G) (hB : Bg G B) (hB2 : 0 ≤ B ∧ B ≤ 300) (a5 : a < 5) (b5 : b < 5) (he : e < 13) (hx : x < 10) (hy : y < 10) : F_X12_bestFrom 39 (nI a) (nI b) (nI e) (nI x) (nI y) (hp s l q P) = some (wI (nxt (wx r a e) (wx r b e) G x y)) := by
  have hA : ∀ t, t < 10 → -500 ≤ Aan (wx r a e) (wx r b e) G y t ∧ Aan (wx r a e) (wx r b e) G y t ≤ 500 := fun t ht => by have := Aan_bd (hB.bd hO a b e) hB2 ht hy; omega
  have hA2 : ∀ t, t < 10 → -(500 : Int) < Aan (wx r a e) (wx r b e) G y t := fun t ht => by have := Aan_bd (hB.bd hO a b e) hB2 ht hy; omega
  have h0 : -268435456 ≤ ((1, -268435456) : Nat × Int).2 ∧ ((1, -268435456) : Nat × Int).2 ≤ 500 := by decide
  have h1 := bsS_bdm (x := x) (y := y) (j := 0) hA h0
  have h2 := bsS_bdm (x := x) (y := y) (j := 1) hA h1
  unfold F_X12_bestFrom
  show F_X12_bestFrom_B7 39 (nI a) (nI b) (nI e) (nI x) (nI y) (hp s l q P) (196 + 1 + 1 + 1 + 1) (wI (-268435456)) (wI (((0 : Nat) : Int) - 1)) = _
  rw [bfr_step (c := 1) h hO hG hB hB2 a5 b5 he hx hy (by omega) (by omega), bfr_step (c := (bsS (Aan (wx r a e) (wx r b e) G y) x y 0 (1, -268435456)).1) h hO hG hB hB2 a5 b5 he hx hy (by omega) h1, bfr_step (c := (bsS (Aan (wx r a e) (wx r b e) G y) x y 1 (bsS (Aan (wx r a e) (wx r b e) G y) x y 0 (1, -268435456))).1) h hO hG hB hB2 a5 b5 he hx hy (by omega) h2]
  rw [F_X12_bestFrom_B7, if_neg (show ¬ wI (((0 + 1 + 1 + 1 : Nat) : Int) - 1) ≤ 1 by decide)]
  show some (wI (bst (Aan (wx r a e) (wx r b e) G y) x y (-268435456)).2) = _
  unfold nxt
  rw [bst_far (N := -500) hx (fun t ht => by have := hA2 t ht; omega) hA2]
end GC
