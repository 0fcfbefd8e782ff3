/-! GAME: the reference's answer -/
section GD
variable {s s' s1 s2 : Nat → Nat → Int32} {l : Nat → Nat → Int64} {q : Nat → Nat → Option Nat} {P : List Nat} {r : Nat → Nat → Nat} {G : Nat → Nat → Int} {B : Int}
theorem lay_out {a b k : Nat} {K : Int32 → abH → Option abH} (hO : Ok r) (hB : Bg G B) (hB2 : 0 ≤ B ∧ B ≤ 300) (a5 : a < 5) (b5 : b < 5) (hk : k < 13) : ∀ (n x f : Nat) (s : Nat → Nat → Int32), Md s r → Mg s G → x + n = 10 → n < f → ∃ g : Nat → Int32, (∀ i, i < x * 10 → g i = s 52 i) ∧ (∀ x' y', x ≤ x' → x' < 10 → y' < 10 → g (x' * 10 + y') = wI (nxt (wx r a ((r 5 0 + k) % 13)) (wx r b ((r 5 0 + k) % 13)) G x' y')) ∧ F_X12_layGame_B37 39 (nI a) (nI b) (nI k) K f (nI x) (hp s l q P) = F_X12_layGame_B102 39 (nI a) (nI b) (nI k) K 200 0 (hp (us s 52 g) l q P)
  | _, _, 0, _, _, _, _, hf => absurd hf (by omega)
  | 0, x, f + 1, s, _, _, hx, _ => by
    refine ⟨s 52, fun _ _ => rfl, fun x' y' h1 h2 => absurd h1 (by omega), ?_⟩
    rw [us_id, F_X12_layGame_B37, if_neg (show ¬ nI x < 10 from nI_nlt (b := 10) (by omega) (by omega))]
  | n + 1, x, f + 1, s, h, hG, hx, hf => by
    obtain ⟨g, g1, g2, g3⟩ := lay_in (l := l) (q := q) (P := P) (K := K) (K2 := fun u5 hu => F_X12_layGame_B37 39 (nI a) (nI b) (nI k) K f u5 hu) hO hB hB2 a5 b5 hk (show x < 10 by omega) 10 0 200 s h hG rfl (by omega)
    obtain ⟨g', k1, k2, k3⟩ := lay_out (K := K) hO hB hB2 a5 b5 hk n (x + 1) f _ (h.set52 g) (hG.set52 g) (by omega) (by omega)
    rw [us_self] at k1
    rw [us_us] at k3
    refine ⟨g', fun i hi => ?_, fun x' y' h1 h2 h3 => ?_, ?_⟩
    · rw [k1 i (by omega), g1 i (by omega)]
    · rcases Nat.lt_or_ge x x' with w | w
      · exact k2 x' y' (by omega) h2 h3
      · have : x' = x := by omega
        subst this
        rw [k1 _ (by omega)]
        exact g2 y' (by omega) h3
    · rw [F_X12_layGame_B37, if_pos (show nI x < 10 from nI_lt (b := 10) (by omega) (by omega))]
      exact g3.trans k3
theorem lay_copy {a b k : Nat} {K : Int32 → abH → Option abH} : ∀ (n i f : Nat) (s : Nat → Nat → Int32), i + n = 100 → n < f → ∃ g : Nat → Int32, (∀ j, i ≤ j → j < 100 → g j = s 52 j) ∧ (∀ j, j < i → g j = s 51 j) ∧ F_X12_layGame_B102 39 (nI a) (nI b) (nI (k + 1)) K f (nI i) (hp s l q P) = K (nI k) (hp (us s 51 g) l q P)
  | _, _, 0, _, _, hf => absurd hf (by omega)
  | 0, i, f + 1, s, hi, _ => by
    refine ⟨s 51, fun j h1 h2 => absurd h1 (by omega), fun _ _ => rfl, ?_⟩
    rw [us_id, F_X12_layGame_B102, if_neg (show ¬ nI i < 100 from nI_nlt (b := 100) (by omega) (by omega)), n_m1]
  | n + 1, i, f + 1, s, hi, hf => by
    have i100 : i < 100 := by omega
    obtain ⟨g, g1, g2, g3⟩ := lay_copy (a := a) (b := b) (k := k) (K := K) n (i + 1) f (us s 51 (upd (s 51) i (s 52 i))) (by omega) (by omega)
    rw [us_us] at g3
    rw [us_self] at g2
    refine ⟨g, fun j h1 h2 => ?_, fun j h1 => ?_, ?_⟩
    · rcases Nat.lt_or_ge i j with w | w
      · exact g1 j (by omega) h2
      · have : j = i := by omega
        subst this
        rw [g2 j (by omega)]; unfold upd; rw [if_pos rfl]
    · rw [g2 j (by omega)]; unfold upd; rw [if_neg (by omega)]
    · rw [F_X12_layGame_B102, if_pos (show nI i < 100 from nI_lt (b := 100) (by omega) (by omega))]
      simp only [G_gR, G_ga, G_sa, i100, sbd, nr, nI_1]
      exact g3
theorem lay_loop {a b : Nat} (hO : Ok r) (a5 : a < 5) (b5 : b < 5) : ∀ (k f : Nat) (s : Nat → Nat → Int32) (G : Nat → Nat → Int) (B : Int), Md s r → Mg s G → Bg G B → 0 ≤ B → B + 90 * (k : Int) ≤ 300 → k < f → k < 13 →
    ∃ s', Em s s' ∧ F_X12_layGame_B29 39 (nI a) (nI b) f (nI k) (hp s l q P) = some (hp s' l q P) ∧ Mg s' (Gi r a b k G)
  | _, 0, _, _, _, _, _, _, _, _, hf, _ => absurd hf (by omega)
  | 0, f + 1, s, G, B, h, hG, hB, h0, h3, _, _ => ⟨s, Em.rfl, by rw [F_X12_layGame_B29, if_pos (show nI 0 ≤ 0 by decide)], hG⟩
  | k + 1, f + 1, s, G, B, h, hG, hB, h0, h3, hf, h13 => by
    have hB2 : 0 ≤ B ∧ B ≤ 300 := ⟨h0, by omega⟩
    obtain ⟨g, _, g2, g3⟩ := lay_out (l := l) (q := q) (P := P) (k := k + 1) (K := fun u4 hu => F_X12_layGame_B29 39 (nI a) (nI b) f u4 hu) hO hB hB2 a5 b5 h13 10 0 200 s h hG rfl (by omega)
    obtain ⟨g', c1, _, c3⟩ := lay_copy (l := l) (q := q) (P := P) (a := a) (b := b) (k := k) (K := fun u4 hu => F_X12_layGame_B29 39 (nI a) (nI b) f u4 hu) 100 0 200 (us s 52 g) rfl (by omega)
    have hE : Em s (us (us s 52 g) 51 g') := (Em.set 52 g (by omega)).trans (Em.set 51 g' (by omega))
    have hG' : Mg (us (us s 52 g) 51 g') (nxt (wx r a ((r 5 0 + (k + 1)) % 13)) (wx r b ((r 5 0 + (k + 1)) % 13)) G) := fun x y hx hy => by
      rw [us_self, c1 _ (by omega) (by omega), us_self]
      exact g2 x y (by omega) hx hy
    obtain ⟨s', d1, d2, d3⟩ := lay_loop hO a5 b5 k f _ _ (B + 90) (h.em hE) hG' (fun x y hx hy => nxt_bd (hB.bd hO a b _) hB2 hx hy) (by omega) (by omega) (by omega) (by omega)
    refine ⟨s', hE.trans d1, ?_, d3⟩
    rw [F_X12_layGame_B29, if_neg (nI_nle (by omega) (by omega))]
    exact g3.trans (c3.trans d2)
theorem lay_zero {a b n : Nat} (hn : 1 ≤ n) : ∀ (m k f : Nat) (s : Nat → Nat → Int32), k + m = 100 → m < f → ∃ g : Nat → Int32, (∀ i, k ≤ i → i < 100 → g i = 0) ∧ (∀ i, i < k → g i = s 51 i) ∧ F_X12_layGame_B3 39 (nI a) (nI b) (nI n) f (nI k) (hp s l q P) = F_X12_layGame_B29 39 (nI a) (nI b) 200 (nI (n - 1)) (hp (us s 51 g) l q P)
  | _, _, 0, _, _, hf => absurd hf (by omega)
  | 0, k, f + 1, s, hk, _ => by
    refine ⟨s 51, fun i h1 h2 => absurd h1 (by omega), fun _ _ => rfl, ?_⟩
    have e : nI n - 1 = nI (n - 1) := n_subn (a := n) (b := 1) hn
    rw [us_id, F_X12_layGame_B3, if_neg (show ¬ nI k < 100 from nI_nlt (b := 100) (by omega) (by omega))]
    simp only [nm, e]
  | m + 1, k, f + 1, s, hk, hf => by
    have k100 : k < 100 := by omega
    obtain ⟨g, g1, g2, g3⟩ := lay_zero (a := a) (b := b) hn m (k + 1) f (us s 51 (upd (s 51) k 0)) (by omega) (by omega)
    rw [us_us] at g3
    rw [us_self] at g2
    refine ⟨g, fun i h1 h2 => ?_, fun i h1 => ?_, ?_⟩
    · rcases Nat.lt_or_ge k i with w | w
      · exact g1 i (by omega) h2
      · have : i = k := by omega
        subst this
        rw [g2 i (by omega)]; unfold upd; rw [if_pos rfl]
    · rw [g2 i (by omega)]; unfold upd; rw [if_neg (by omega)]
    · rw [F_X12_layGame_B3, if_pos (show nI k < 100 from nI_lt (b := 100) (by omega) (by omega))]
      simp only [G_gR, G_sa, k100, sbd, nr, nI_1]
      exact g3
theorem layGame_ok {a b n : Nat} (h : Md s r) (hO : Ok r) (a5 : a < 5) (b5 : b < 5) (hn : 1 ≤ n ∧ n ≤ 4) : ∃ s', Em s s' ∧ F_X12_layGame 39 (nI a) (nI b) (nI n) (hp s l q P) = some (hp s' l q P) ∧ Mg s' (Gi r a b (n - 1) (fun _ _ => 0)) := by
  obtain ⟨g, g1, _, g3⟩ := lay_zero (a := a) (b := b) (l := l) (q := q) (P := P) hn.1 100 0 200 s rfl (by omega)
  have hE : Em s (us s 51 g) := Em.set 51 g (by omega)
  obtain ⟨s', c1, c2, c3⟩ := lay_loop (l := l) (q := q) (P := P) hO a5 b5 (n - 1) 200 (us s 51 g) (fun _ _ => 0) 0 (h.em hE) (fun x y hx hy => by rw [us_self]; exact g1 _ (by omega) (by omega)) Bg0 (by omega) (by omega) (by omega) (by omega)
  exact ⟨s', hE.trans c1, g3.trans c2, c3⟩
theorem Gi_bd (hO : Ok r) (a b : Nat) : ∀ (k : Nat) (G : Nat → Nat → Int) (B : Int), Bg G B → 0 ≤ B → B + 90 * (k : Int) ≤ 300 → Bg (Gi r a b k G) (B + 90 * k)
  | 0, G, B, h, _, _ => by
    have e : B + 90 * ((0 : Nat) : Int) = B := by omega
    rw [e]; exact h
  | k + 1, G, B, h, h0, h3 => by
    have h1 := Gi_bd hO a b k (nxt (wx r a ((r 5 0 + (k + 1)) % 13)) (wx r b ((r 5 0 + (k + 1)) % 13)) G) (B + 90) (fun x y hx hy => nxt_bd (h.bd hO a b _) ⟨h0, by omega⟩ hx hy) (by omega) (by omega)
    have e : B + 90 * ((k + 1 : Nat) : Int) = B + 90 + 90 * (k : Int) := by omega
    rw [e]; exact h1
theorem Gi_bd4 (hO : Ok r) (a b : Nat) {n : Nat} (hn : 1 ≤ n ∧ n ≤ 4) : Bg (Gi r a b (n - 1) (fun _ _ => 0)) 270 := by
  have h := Gi_bd hO a b (n - 1) (fun _ _ => 0) 0 Bg0 (by omega) (by omega)
  intro x y hx hy
  have := h x y hx hy
  omega
theorem find_loop {a b x y : Nat} (h : Md s r) (hO : Ok r) (hG : Mg s G) (hB : Bg G 270) (a5 : a < 5) (b5 : b < 5) (hx : x < 10) (hy : y < 10) : ∀ (d j f : Nat), j + d = (bst (Aan (wx r a (r 5 0)) (wx r b (r 5 0)) G y) x y (-500)).1 → d < f → F_X12_gameNow_B54 39 (nI a) (nI b) (nI x) (nI y) (wI (nxt (wx r a (r 5 0)) (wx r b (r 5 0)) G x y)) f (wI ((j : Int) - 1)) (hp s l q P) = some (nI (bst (Aan (wx r a (r 5 0)) (wx r b (r 5 0)) G y) x y (-500)).1, hp s l q P) := by
  have he : r 5 0 < 13 := hO.2.2.2.2.2.1
  have hBd := hB.bd hO a b (r 5 0)
  have hB2 : (0 : Int) ≤ 270 ∧ (270 : Int) ≤ 300 := by decide
  have hex := best_ex hBd hB2 hx hy
  have hnb := nxt_bd hBd hB2 hx hy
  have e5 : s 39 6 = nI (r 5 0) := h.1.2.1
  intro d
  induction d with
  | zero =>
    intro j f hj hf
    match f, hf with
    | f + 1, _ =>
      have hj : j = (bst (Aan (wx r a (r 5 0)) (wx r b (r 5 0)) G y) x y (-500)).1 := hj
      have hl := hex.2.1
      have hA := hex.2.2.1
      rw [← hj] at hl hA ⊢
      have hj3 : j < 3 := by rw [hj]; exact hex.1
      have ht := lg_T hl
      have hm := mayStep_ok x hx j hj3 y hy
      have e3 : nI x + wI ((j : Int) - 1) = nI (T3 x j) := by
        rw [wI_n, wI_add, wI_n, ← ht.2]; congr 1; omega
      have e4 : wI ((j : Int) - 1) + 1 = nI j := by
        show _ + wI 1 = _
        rw [wI_add, wI_n]; congr 1; omega
      have hans := answered_ok (l := l) (q := q) (P := P) h hO hG hB hB2.2 a5 b5 he ht.1 hy
      rw [hA] at hans
      have z : ¬ (1 : Int32) = 0 := by decide
      rw [F_X12_gameNow_B54]
      simp only [hm, sbd, if01, hl, reduceIte, if_neg z, G_gI, G_ko, e5, e3, hans, e4]
  | succ d ih =>
    intro j f hj hf
    match f, hf with
    | f + 1, hf =>
      have hj2 : j < (bst (Aan (wx r a (r 5 0)) (wx r b (r 5 0)) G y) x y (-500)).1 := by omega
      have hj3 : j < 3 := by have := hex.1; omega
      have hm := mayStep_ok x hx j hj3 y hy
      have e2 : wI ((j : Int) - 1) + 1 = wI (((j + 1 : Nat) : Int) - 1) := by
        show _ + wI 1 = _
        rw [wI_add]; congr 1; omega
      have ih := ih (j + 1) f (by omega) (by omega)
      rw [F_X12_gameNow_B54]
      simp only [hm, sbd, if01, e2, ih]
      cases hl : lg x j y with
      | false => rfl
      | true =>
        have ht := lg_T hl
        have e3 : nI x + wI ((j : Int) - 1) = nI (T3 x j) := by
          rw [wI_n, wI_add, wI_n, ← ht.2]; congr 1; omega
        have hans := answered_ok (l := l) (q := q) (P := P) h hO hG hB hB2.2 a5 b5 he ht.1 hy
        have hlt := hex.2.2.2.1 j hj2 hl
        have hAb := Aan_bd hBd hB2 ht.1 hy
        simp only [reduceIte]
        simp only [G_gI, G_ko, sbd, e5, e3, hans]
        rw [if_neg]
        rw [wI_eq (by omega) (by omega) (by omega) (by omega)]
        omega
theorem gameNow_ok {a b n w : Nat} (h : Md s r) (hO : Ok r) (a5 : a < 5) (b5 : b < 5) (hn : 1 ≤ n ∧ n ≤ 4) (hw : w < 2) : ∃ s', Em s s' ∧ F_X12_gameNow 39 (nI a) (nI b) (nI n) (nI w) (hp s l q P) = some (if w = 0 then wI (gTot r a b n + 500) else nI (gStp r a b n), hp s' l q P) := by
  have he : r 5 0 < 13 := hO.2.2.2.2.2.1
  obtain ⟨s', c1, c2, c3⟩ := layGame_ok (l := l) (q := q) (P := P) h hO a5 b5 hn
  have h' := h.em c1
  have hB := Gi_bd4 hO a b hn
  have hB2 : (0 : Int) ≤ 270 ∧ (270 : Int) ≤ 300 := by decide
  have ta := hO.2.2.2.1 a
  have tb := hO.2.2.2.1 b
  have ea : s' 43 a = nI (r 3 a) := h'.2.1.2.1 a
  have eb : s' 43 b = nI (r 3 b) := h'.2.1.2.1 b
  have e5 : s' 39 6 = nI (r 5 0) := h'.1.2.1
  have hb := bestFrom_ok (l := l) (q := q) (P := P) h' hO c3 hB hB2 a5 b5 he ta tb
  have hf := find_loop (l := l) (q := q) (P := P) h' hO c3 hB a5 b5 ta tb (bst (Aan (wx r a (r 5 0)) (wx r b (r 5 0)) (Gi r a b (n - 1) (fun _ _ => 0)) (r 3 b)) (r 3 a) (r 3 b) (-500)).1 0 200 (by omega) (by have := (best_ex (hB.bd hO a b (r 5 0)) hB2 ta tb).1; omega)
  refine ⟨s', c1, ?_⟩
  unfold F_X12_gameNow
  simp only [G_ko, G_gR, G_gI, G_ga, sbd, c2, a5, b5, ea, eb, e5, hb]
  rcases (by omega : w = 0 ∨ w = 1) with rfl | rfl
  · rw [if_pos (show nI 0 = 0 from rfl), if_pos rfl]
    show some (wI _ + wI 500, _) = _
    rw [wI_add]; rfl
  · rw [if_neg (show ¬ nI 1 = 0 by decide), if_neg (by omega)]
    exact hf
end GD
