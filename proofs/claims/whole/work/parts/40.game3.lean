/-! GAME: the class's solve -/
theorem n_m1 (k : Nat) : nI (k + 1) + (-1) = nI k := by
  show nI (k + 1) + wI (-1) = nI k
  rw [wI_n, wI_add, wI_n]; congr 1; omega
theorem n_mod13 : ∀ c, c < 26 → nI c - nI c / 13 * 13 = nI (c % 13) := by decide +kernel
theorem dz_ne {α : Type} {y : Int32} (h : ¬ y = 0) (K : Option α) : dz y K = K := by unfold dz; rw [if_neg h]
theorem dz_13 {α : Type} (K : Option α) : dz 13 K = K := dz_ne (by decide) K
def wx (r : Nat → Nat → Nat) (a e x : Nat) : Nat := Ws (r 4) (sh (r 1 a) (r 2 a) x e)
def Gi (r : Nat → Nat → Nat) (a b : Nat) : Nat → (Nat → Nat → Int) → Nat → Nat → Int
  | 0, G => G
  | k + 1, G => Gi r a b k (nxt (wx r a ((r 5 0 + (k + 1)) % 13)) (wx r b ((r 5 0 + (k + 1)) % 13)) G)
def gTot (r : Nat → Nat → Nat) (a b n : Nat) : Int := nxt (wx r a (r 5 0)) (wx r b (r 5 0)) (Gi r a b (n - 1) (fun _ _ => 0)) (r 3 a) (r 3 b)
def gStp (r : Nat → Nat → Nat) (a b n : Nat) : Nat := (bst (Aan (wx r a (r 5 0)) (wx r b (r 5 0)) (Gi r a b (n - 1) (fun _ _ => 0)) (r 3 b)) (r 3 a) (r 3 b) (-500)).1
section GB
variable {s s' s1 s2 : Nat → Nat → Int32} {l : Nat → Nat → Int64} {q : Nat → Nat → Option Nat} {P : List Nat} {r : Nat → Nat → Nat} {G : Nat → Nat → Int} {B : Int}
theorem Ct.mv {o : Nat} (ho : o ≤ 17) (h : Ct s q P o r) (e : ∀ a, a < 28 → s' a = s a) : Ct s' q P o r := by
  refine ⟨?_, ?_, h.2.2⟩
  · rw [e o (by omega)]; exact h.1
  · rw [e (o + 2) (by omega), e (o + 3) (by omega), e (o + 4) (by omega), e (o + 5) (by omega), e (o + 6) (by omega), e (o + 7) (by omega), e (o + 8) (by omega), e (o + 9) (by omega), e (o + 10) (by omega)]; exact h.2.1
theorem Md.mv (h : Md s r) (e : ∀ a, 40 ≤ a → a < 51 → s' a = s a) (e9 : ∀ k, k < 18 → s' 39 k = s 39 k) : Md s' r := by
  refine ⟨?_, ?_, ?_⟩
  · rw [e9 1 (by omega), e9 6 (by omega), e9 7 (by omega), e9 8 (by omega), e9 11 (by omega)]; exact h.1
  · rw [e 42 (by omega) (by omega), e 43 (by omega) (by omega), e 40 (by omega) (by omega), e 44 (by omega) (by omega), e 45 (by omega) (by omega), e 46 (by omega) (by omega), e 47 (by omega) (by omega), e 48 (by omega) (by omega), e 49 (by omega) (by omega)]; exact h.2.1
  · rw [e 41 (by omega) (by omega)]; exact h.2.2
def Eo (s s' : Nat → Nat → Int32) : Prop := ∀ a, a < 29 ∨ 39 ≤ a → s' a = s a
theorem Eo.rfl : Eo s s := fun _ _ => Eq.refl _
theorem Eo.trans (h1 : Eo s s1) (h2 : Eo s1 s2) : Eo s s2 := fun a ha => (h2 a ha).trans (h1 a ha)
theorem Eo.set (a : Nat) (f : Nat → Int32) (h : 29 ≤ a ∧ a < 39) : Eo s (us s a f) := fun b hb => us_ne s f (by omega)
theorem Ct.eo {o : Nat} (ho : o ≤ 17) (h : Ct s q P o r) (e : Eo s s') : Ct s' q P o r := h.mv ho (fun a ha => e a (by omega))
theorem wx_le (hO : Ok r) (a e x : Nat) : wx r a e x ≤ 90 := Ws_le hO.2.2.2.2.1 _
theorem weigh_loop {a b e : Nat} (hO : Ok r) (ha : a < r 0 0) (hb : b < r 0 0) (he : e < 13) : ∀ (n x f : Nat) (s : Nat → Nat → Int32), Ct s q P 6 r → x + n = 10 → n < f → ∃ s', (∀ i, i ≠ 31 → i ≠ 32 → s' i = s i) ∧ (∀ y, x ≤ y → y < 10 → s' 31 y = nI (wx r a e y) ∧ s' 32 y = nI (wx r b e y)) ∧ (∀ y, y < x → s' 31 y = s 31 y ∧ s' 32 y = s 32 y) ∧ F_X3_weigh_B3 30 6 (nI a) (nI b) (nI e) f (nI x) (hp s l q P) = some (hp s' l q P)
  | _, _, 0, _, _, _, hf => absurd hf (by omega)
  | 0, x, f + 1, s, _, hx, _ => by
    refine ⟨s, fun _ _ _ => rfl, fun y h1 h2 => absurd h1 (by omega), fun _ _ => ⟨rfl, rfl⟩, ?_⟩
    rw [F_X3_weigh_B3, if_neg (show ¬ nI x < 10 from nI_nlt (b := 10) (by omega) (by omega))]
  | n + 1, x, f + 1, s, h, hx, hf => by
    have n5 := hO.n5
    have x10 : x < 10 := by omega
    have a5 : a < 5 := by omega
    have b5 : b < 5 := by omega
    have e1 : nI x < 10 := nI_lt (b := 10) (by omega) (by omega)
    have ea : s 8 a = nI (r 2 a) := h.2.1.1 a
    have eb : s 8 b = nI (r 2 b) := h.2.1.1 b
    have d1 := shadeIf_ok (l := l) h hO ha (hO.2.2.1 a) x10 he
    have l1 := sh_lt _ (hO.2.1 a) _ (hO.2.2.1 a) x x10 e he
    have l2 := sh_lt _ (hO.2.1 b) _ (hO.2.2.1 b) x x10 e he
    have w1 := worthOf_ok (l := l) h (show sh (r 1 a) (r 2 a) x e < 2147483648 by omega)
    have h1 : Ct (us s 31 (upd (s 31) x (nI (wx r a e x)))) q P 6 r := h
    have d2 := shadeIf_ok (l := l) h1 hO hb (hO.2.2.1 b) x10 he
    have w2 := worthOf_ok (l := l) h1 (show sh (r 1 b) (r 2 b) x e < 2147483648 by omega)
    have h2 : Ct (us (us s 31 (upd (s 31) x (nI (wx r a e x)))) 32 (upd (s 32) x (nI (wx r b e x)))) q P 6 r := h
    obtain ⟨s', g1, g2, g3, g4⟩ := weigh_loop hO ha hb he n (x + 1) f _ h2 (by omega) (by omega)
    have ew : nI (Ws (r 4) (sh (r 1 a) (r 2 a) x e)) = nI (wx r a e x) := rfl
    have eb' : us s 31 (upd (s 31) x (nI (wx r a e x))) 8 b = nI (r 2 b) := eb
    refine ⟨s', fun i h3 h4 => ?_, fun y h3 h4 => ?_, fun y h3 => ?_, ?_⟩
    · rw [g1 i h3 h4, us_ne _ _ h4, us_ne _ _ h3]
    · rcases Nat.lt_or_ge x y with w | w
      · exact g2 y (by omega) h4
      · have : y = x := by omega
        subst this
        have g5 := g3 y (by omega)
        rw [g5.1, g5.2]
        constructor
        · show upd (s 31) y (nI (wx r a e y)) y = _
          unfold upd; rw [if_pos rfl]
        · show upd (s 32) y (nI (wx r b e y)) y = _
          unfold upd; rw [if_pos rfl]
    · have g5 := g3 y (by omega)
      rw [g5.1, g5.2]
      constructor
      · show upd (s 31) x (nI (wx r a e x)) y = _
        unfold upd; rw [if_neg (by omega)]
      · show upd (s 32) x (nI (wx r b e x)) y = _
        unfold upd; rw [if_neg (by omega)]
    · rw [F_X3_weigh_B3, if_pos e1]
      simp only [G_ko, G_gR, G_ga, G_gq, G_sa, a5, b5, x10, some_bind, ea, d1, w1, nr, ew]
      simp only [G_ko, G_gR, G_ga, G_gq, G_sa, a5, b5, x10, some_bind, eb', d2, w2, nr, nI_1]
      exact g4
theorem weigh_ok {a b e : Nat} (h : Ct s q P 6 r) (hO : Ok r) (ha : a < r 0 0) (hb : b < r 0 0) (he : e < 13) : ∃ s', (∀ i, i ≠ 31 → i ≠ 32 → s' i = s i) ∧ (∀ y, y < 10 → s' 31 y = nI (wx r a e y)) ∧ (∀ y, y < 10 → s' 32 y = nI (wx r b e y)) ∧ F_X3_weigh 30 6 (nI a) (nI b) (nI e) (hp s l q P) = some (hp s' l q P) := by
  obtain ⟨s', h1, h2, _, h4⟩ := weigh_loop (l := l) hO ha hb he 10 0 200 s h rfl (by omega)
  exact ⟨s', h1, fun y hy => (h2 y (by omega) hy).1, fun y hy => (h2 y (by omega) hy).2, h4⟩
theorem solve_loop {a b : Nat} (hO : Ok r) (ha : a < r 0 0) (hb : b < r 0 0) : ∀ (k f : Nat) (s : Nat → Nat → Int32) (G : Nat → Nat → Int) (B : Int), Ct s q P 6 r → (∀ x y, x < 10 → y < 10 → s 34 (x * 10 + y) = wI (G x y)) → (∀ x y, x < 10 → y < 10 → -B ≤ G x y ∧ G x y ≤ B) → 0 ≤ B → B + 90 * (k : Int) ≤ 300 → k < f → k < 13 →
    ∃ s', Eo s s' ∧ F_X3_solve_B30 30 6 (nI a) (nI b) f (nI k) (hp s l q P) = some (hp s' l q P) ∧ s' 30 5 = nI (bst (Aan (wx r a (r 5 0)) (wx r b (r 5 0)) (Gi r a b k G) (r 3 b)) (r 3 a) (r 3 b) (-500)).1 ∧ s' 30 4 = wI (nxt (wx r a (r 5 0)) (wx r b (r 5 0)) (Gi r a b k G) (r 3 a) (r 3 b))
  | _, 0, _, _, _, _, _, _, _, _, hf, _ => absurd hf (by omega)
  | 0, f + 1, s, G, B, h, hG, hB, h0, h3, _, _ => by
    have n5 := hO.n5
    have a5 : a < 5 := by omega
    have b5 : b < 5 := by omega
    have he : r 5 0 < 13 := hO.2.2.2.2.2.1
    obtain ⟨s1, k1, k2, k3, k4⟩ := weigh_ok (l := l) h hO ha hb he
    have hW : Wg s1 (wx r a (r 5 0)) (wx r b (r 5 0)) G := ⟨k2, k3, fun x y hx hy => by rw [k1 34 (by omega) (by omega)]; exact hG x y hx hy⟩
    have hBd : Bd (wx r a (r 5 0)) (wx r b (r 5 0)) G B := ⟨fun x _ => wx_le hO a _ x, fun x _ => wx_le hO b _ x, hB⟩
    have hB2 : 0 ≤ B ∧ B ≤ 300 := ⟨h0, by omega⟩
    have ta := hO.2.2.2.1 a
    have tb := hO.2.2.2.1 b
    have e9a : s1 9 a = nI (r 3 a) := by rw [k1 9 (by omega) (by omega)]; exact h.2.1.2.1 a
    have e9b : s1 9 b = nI (r 3 b) := by rw [k1 9 (by omega) (by omega)]; exact h.2.1.2.1 b
    have hbest := best_ok (l := l) (q := q) (P := P) hW hBd hB2 ta tb
    have hex := best_ex hBd hB2 ta tb
    have ht := lg_T hex.2.1
    have e2 : nI (r 3 a) + nI (bst (Aan (wx r a (r 5 0)) (wx r b (r 5 0)) G (r 3 b)) (r 3 a) (r 3 b) (-500)).1 - 1 = nI (T3 (r 3 a) (bst (Aan (wx r a (r 5 0)) (wx r b (r 5 0)) G (r 3 b)) (r 3 a) (r 3 b) (-500)).1) := by
      show nI (r 3 a) + nI _ - wI 1 = _
      rw [nI_add, wI_n, wI_sub, wI_n, ← ht.2]; congr 1
    have hW2 : Wg (us s1 30 (upd (s1 30) 5 (nI (bst (Aan (wx r a (r 5 0)) (wx r b (r 5 0)) G (r 3 b)) (r 3 a) (r 3 b) (-500)).1))) (wx r a (r 5 0)) (wx r b (r 5 0)) G := hW
    have haft := after_ok (l := l) (q := q) (P := P) hW2 hBd hB2.2 ht.1 tb
    have e4 : an (val (wx r a (r 5 0)) (wx r b (r 5 0)) G) (T3 (r 3 a) (bst (Aan (wx r a (r 5 0)) (wx r b (r 5 0)) G (r 3 b)) (r 3 a) (r 3 b) (-500)).1) (r 3 b) 500 = nxt (wx r a (r 5 0)) (wx r b (r 5 0)) G (r 3 a) (r 3 b) := hex.2.2.1
    rw [e4] at haft
    have e5 : s 6 5 = nI (r 5 0) := h.1.2.1
    have z0 : nI 0 ≤ 0 := by decide
    have u9 : ∀ f, us s1 30 f 9 = s1 9 := fun f => rfl
    have u5 : ∀ v, us s1 30 (upd (s1 30) 5 v) 30 5 = v := fun v => by rw [us_self]; unfold upd; rw [if_pos rfl]
    refine ⟨us (us s1 30 (upd (s1 30) 5 (nI (bst (Aan (wx r a (r 5 0)) (wx r b (r 5 0)) G (r 3 b)) (r 3 a) (r 3 b) (-500)).1))) 30 (upd (us s1 30 (upd (s1 30) 5 (nI (bst (Aan (wx r a (r 5 0)) (wx r b (r 5 0)) G (r 3 b)) (r 3 a) (r 3 b) (-500)).1)) 30) 4 (wI (nxt (wx r a (r 5 0)) (wx r b (r 5 0)) G (r 3 a) (r 3 b)))), fun i hi => ?_, ?_, ?_, ?_⟩
    · rw [us_us, us_ne _ _ (by omega), k1 i (by omega) (by omega)]
    · rw [F_X3_solve_B30, if_pos z0]
      simp only [G_gI, G_ko, some_bind, e5, k4, G_gR, G_ga, a5, b5, e9a, e9b, hbest, G_sI, u9, u5, e2, haft]
    · rw [us_self, us_self]
      unfold upd
      rw [if_neg (by omega), if_pos rfl]
      rfl
    · rw [us_self]
      unfold upd
      rw [if_pos rfl]
      rfl
  | k + 1, f + 1, s, G, B, h, hG, hB, h0, h3, hf, h13 => by
    have he : r 5 0 < 13 := hO.2.2.2.2.2.1
    have hm : (r 5 0 + (k + 1)) % 13 < 13 := Nat.mod_lt _ (by omega)
    obtain ⟨s1, k1, k2, k3, k4⟩ := weigh_ok (l := l) h hO ha hb hm
    have hW : Wg s1 (wx r a ((r 5 0 + (k + 1)) % 13)) (wx r b ((r 5 0 + (k + 1)) % 13)) G := ⟨k2, k3, fun x y hx hy => by rw [k1 34 (by omega) (by omega)]; exact hG x y hx hy⟩
    have hBd : Bd (wx r a ((r 5 0 + (k + 1)) % 13)) (wx r b ((r 5 0 + (k + 1)) % 13)) G B := ⟨fun x _ => wx_le hO a _ x, fun x _ => wx_le hO b _ x, hB⟩
    have hB2 : 0 ≤ B ∧ B ≤ 300 := ⟨h0, by omega⟩
    obtain ⟨g, g2, b1, b2⟩ := back_ok (l := l) (q := q) (P := P) hBd hB2 hW
    have hE : Eo s (us (us s1 33 g) 34 g2) := fun i hi => by rw [us_ne _ _ (by omega), us_ne _ _ (by omega), k1 i (by omega) (by omega)]
    obtain ⟨s', c1, c2, c3, c4⟩ := solve_loop hO ha hb k f (us (us s1 33 g) 34 g2) (nxt (wx r a ((r 5 0 + (k + 1)) % 13)) (wx r b ((r 5 0 + (k + 1)) % 13)) G) (B + 90) (h.eo (by omega) hE) (fun x y hx hy => by rw [us_self]; exact b2 x y hx hy) (fun x y hx hy => nxt_bd hBd hB2 hx hy) (by omega) (by omega) (by omega) (by omega)
    have e5 : s 6 5 = nI (r 5 0) := h.1.2.1
    have hmod := n_mod13 (r 5 0 + (k + 1)) (by omega)
    refine ⟨s', hE.trans c1, ?_, c3, c4⟩
    rw [F_X3_solve_B30, if_neg (nI_nle (by omega) (by omega))]
    simp only [G_gI, G_ko, some_bind, e5, nI_add, dz_13, hmod, k4, b1, n_m1]
    exact c2
theorem solve_zero {a b n : Nat} (hn : 1 ≤ n) : ∀ (m k f : Nat) (s : Nat → Nat → Int32), k + m = 100 → m < f → ∃ g : Nat → Int32, (∀ i, k ≤ i → i < 100 → g i = 0) ∧ (∀ i, i < k → g i = s 34 i) ∧ F_X3_solve_B3 30 6 (nI a) (nI b) (nI n) f (nI k) (hp s l q P) = F_X3_solve_B30 30 6 (nI a) (nI b) 200 (nI (n - 1)) (hp (us s 34 g) l q P)
  | _, _, 0, _, _, hf => absurd hf (by omega)
  | 0, k, f + 1, s, hk, _ => by
    refine ⟨s 34, fun i h1 h2 => absurd h1 (by omega), fun _ _ => rfl, ?_⟩
    have e : nI n - 1 = nI (n - 1) := n_subn (a := n) (b := 1) hn
    rw [us_id, F_X3_solve_B3, if_neg (show ¬ nI k < 100 from nI_nlt (b := 100) (by omega) (by omega))]
    simp only [nm, e]
  | m + 1, k, f + 1, s, hk, hf => by
    have k100 : k < 100 := by omega
    obtain ⟨g, g1, g2, g3⟩ := solve_zero (a := a) (b := b) hn m (k + 1) f (us s 34 (upd (s 34) k 0)) (by omega) (by omega)
    rw [us_us] at g3
    rw [us_self] at g2
    refine ⟨g, fun i h1 h2 => ?_, fun i h1 => ?_, ?_⟩
    · rcases Nat.lt_or_ge k i with w | w
      · exact g1 i (by omega) h2
      · have : i = k := by omega
        subst this
        rw [g2 i (by omega)]; unfold upd; rw [if_pos rfl]
    · rw [g2 i (by omega)]; unfold upd; rw [if_neg (by omega)]
    · rw [F_X3_solve_B3, if_pos (show nI k < 100 from nI_lt (b := 100) (by omega) (by omega))]
      simp only [G_gR, G_sa, k100, some_bind, nr, nI_1]
      exact g3
theorem solve_ok {a b n : Nat} (h : Ct s q P 6 r) (hO : Ok r) (ha : a < r 0 0) (hb : b < r 0 0) (hn : 1 ≤ n ∧ n ≤ 4) : ∃ s', Eo s s' ∧ F_X3_solve 30 6 (nI a) (nI b) (nI n) (hp s l q P) = some (hp s' l q P) ∧ s' 30 5 = nI (gStp r a b n) ∧ s' 30 4 = wI (gTot r a b n) := by
  obtain ⟨g, g1, _, g3⟩ := solve_zero (a := a) (b := b) (l := l) (q := q) (P := P) hn.1 100 0 200 s rfl (by omega)
  have hE : Eo s (us s 34 g) := Eo.set 34 g (by omega)
  obtain ⟨s', c1, c2, c3, c4⟩ := solve_loop (l := l) hO ha hb (n - 1) 200 (us s 34 g) (fun _ _ => 0) 0 (h.eo (by omega) hE) (fun x y hx hy => by rw [us_self]; exact g1 _ (by omega) (by omega)) (fun _ _ _ _ => ⟨by omega, by omega⟩) (by omega) (by omega) (by omega) (by omega)
  exact ⟨s', hE.trans c1, g3.trans c2, c3, c4⟩
end GB
