/-! THE LAW -/
theorem nI_tn (v : Int32) : v = nI v.toBitVec.toNat := by
  apply Int32.toBitVec_inj.1
  show v.toBitVec = BitVec.ofNat 32 v.toBitVec.toNat
  rw [BitVec.ofNat_toNat, BitVec.setWidth_eq]
theorem msk_ok (v : Int32) : ∃ c, c < 2147483648 ∧ v &&& 2147483647 = nI c := by
  refine ⟨v.toBitVec.toNat &&& 2147483647, Nat.lt_of_le_of_lt Nat.and_le_right (by omega), ?_⟩
  have e := n_and v.toBitVec.toNat 2147483647
  rw [← nI_tn v] at e
  exact e
theorem cell_ok {L : Nat} (hL : L ≤ 260) (xs : Nat → Int32) {a : Nat} (ha : a < 2147483648) : ∃ c, c < 2147483648 ∧ F_L_cell L xs (nI a) = some (nI c) := by
  unfold F_L_cell
  by_cases g : a < L
  · have h1 : nI a < Int32.ofNat L := nI_lt g (by omega)
    have h2 : sx L xs (nI a) = some (xs a) := by
      have c1 : (nI a).toNatClampNeg = a := nI_clamp (by omega)
      have c2 : (0 : Int32) ≤ nI a := nI_pos' (by omega)
      simp [sx, abin, c1, c2, g]
    obtain ⟨c, hc, e⟩ := msk_ok (xs a)
    refine ⟨c, hc, ?_⟩
    rw [if_pos h1, h2]
    simp only [sbd, e]
  · have h1 : ¬ nI a < Int32.ofNat L := nI_nlt (b := L) (by omega) (by omega)
    obtain ⟨c, hc, e⟩ := msk_ok ((7919 * nI a) + 13)
    refine ⟨c, hc, ?_⟩
    rw [if_neg h1, e]
theorem lcg_l {n : Nat} (h : n < 2147483648) : (1103515245 * lN n + 12345) - (1103515245 * lN n + 12345) / 2147483648 * 2147483648 = lN (nx n) := by
  rw [Int64.mul_comm 1103515245 (lN n)]
  exact lcg_c h
theorem dr13 (n : Nat) : ((lN (nx n) / 65536) - (lN (nx n) / 65536) / 13 * 13).toInt32 = nI (dr n 13) := by
  have e := drw (n := n) (d := 13) (by omega)
  have e2 : (nI 13).toInt64 = 13 := by decide
  rw [e2] at e
  exact e
theorem z13 : ¬ (13 : Int64) = 0 := by decide
theorem lgc (x : Int64) : lg_cmp x x = 0 := by
  unfold lg_cmp
  rw [if_neg (show ¬ x < x from Int64.lt_irrefl), if_pos rfl]
theorem tmN_b {N : Nat → Nat} {B : Nat} (hN : ∀ n, N n < B) : ∀ k n, 1 ≤ k → tmN N k n < B
  | 0, _, h => absurd h (by omega)
  | 1, n, _ => hN (N (N n))
  | k + 2, n, _ => tmN_b hN (k + 1) (N (N (N n))) (by omega)
theorem tmN_lt (k n : Nat) (h : 1 ≤ k) : tmN nx k n < 2147483648 := tmN_b nx_lt k n h
theorem p100 (x : Int) : wI x + 100 = wI (x + 100) := wI_add x 100
section LL
variable {s : Nat → Nat → Int32} {l : Nat → Nat → Int64} {q : Nat → Nat → Option Nat} {P : List Nat} {r : Nat → Nat → Nat} {L : Nat} {xs : Nat → Int32}
theorem St.eo {s' : Nat → Nat → Int32} (h : St s q P r) (e : Eo s s') : St s' q P r := by
  obtain ⟨hC, hO, hL, h2, h10, h4, pg, h5, hp1⟩ := h
  refine ⟨hC.eo (by omega) e, hO, ?_, h2, h10, by rw [e 4 (by omega)]; exact h4, pg, fun i => by rw [e 5 (by omega)]; exact h5 i, hp1⟩
  unfold Lw
  rw [e 39 (by omega)]
  exact hL
set_option maxRecDepth 100000 in
theorem t_step {T i f n a b : Nat} {X3 X4 X5 X8 : Int32} {K15 K70 : Int32 → abH → Option (Int32 × abH)} (h : St s q P r) (hi : i < T) (hT : T ≤ 60) (hn : n < 2147483648) :
    F_L_law_B170 L xs 3 39 X3 X4 X5 (nI T) X8 K15 K70 (f + 1) (lN n) (nI a) (nI b) (nI i) (hp s l q P) = F_L_law_B170 L xs 3 39 X3 X4 X5 (nI T) X8 K15 K70 f (lN (nx (nx (nx n)))) (nI (a + tF r nx dr n)) (nI (b + tS r nx dr n)) (nI (i + 1)) (hp s l q P) := by
  have n5 := h.2.1.n5
  have hm2 := h.2.2.2.1
  have h0 : s 39 0 = nI (r 0 0) := h.2.2.1.1.1
  have q1 := dr_lt n (show 1 ≤ r 0 0 by omega)
  have q2 := dr_lt (nx n) (show 1 ≤ r 0 0 by omega)
  have q3 := dr_lt (nx (nx n)) (show 1 ≤ 13 by omega)
  have hf := find_ok (l := l) (q := q) (P := P) h.2.2.1 h.2.1 q1 q2 q3
  have hbl := bal_le h.2.1 (dr n (r 0 0)) (dr (nx n) (r 0 0)) (dr (nx (nx n)) 13)
  have c1 : (nI (dr n (r 0 0)) = nI (dr (nx n) (r 0 0))) ↔ dr n (r 0 0) = dr (nx n) (r 0 0) := nI_eq (by omega) (by omega)
  have c2 := w_le0 (z := bal r (dr n (r 0 0)) (dr (nx n) (r 0 0)) (dr (nx (nx n)) 13)) (by omega) (by omega)
  have c3 : wI (bal r (dr n (r 0 0)) (dr (nx n) (r 0 0)) (dr (nx (nx n)) 13)) = 0 ↔ bal r (dr n (r 0 0)) (dr (nx n) (r 0 0)) (dr (nx (nx n)) 13) = 0 := by
    show _ = wI 0 ↔ _
    exact wI_eq (by omega) (by omega) (by omega) (by omega)
  rw [F_L_law_B170, if_pos (show nI i < nI T from nI_lt hi (by omega))]
  simp only [dzl_ne z31, dzl_ne z65, dzl_ne z13, nme, lcg_l hn, lcg_l (nx_lt n), lcg_l (nx_lt (nx n)), gw, sbd, h0, dzl_ne (zd (show 1 ≤ r 0 0 ∧ r 0 0 < 2147483648 by omega)), drw (n := n) (show 1 ≤ r 0 0 ∧ r 0 0 < 2147483648 by omega), drw (n := nx n) (show 1 ≤ r 0 0 ∧ r 0 0 < 2147483648 by omega), dr13, hf, F_L_law_B293, Int32.add_zero, nI_1]
  unfold tF tS tB
  clear hf hbl
  revert c1 c2 c3
  generalize bal r (dr n (r 0 0)) (dr (nx n) (r 0 0)) (dr (nx (nx n)) 13) = z
  generalize dr n (r 0 0) = u
  generalize dr (nx n) (r 0 0) = v
  intro c1 c2 c3
  by_cases g1 : u = v
  · simp only [if_pos (c1.mpr g1), if_pos g1, Nat.add_zero]
  · have g1' : ¬ nI u = nI v := fun w => g1 (c1.mp w)
    by_cases g2 : 0 < z
    · have g3 : ¬ z = 0 := by omega
      simp only [if_neg g1', if_neg g1, if_pos g2, if_neg (show ¬ wI z ≤ 0 from fun w => (c2.mp w) g2), if_neg g3, if_neg (show ¬ wI z = 0 from fun w => g3 (c3.mp w)), Nat.add_zero]
    · by_cases g3 : z = 0
      · simp only [if_neg g1', if_neg g1, if_neg g2, if_pos (c2.mpr g2), if_pos (c3.mpr g3), if_pos g3, Nat.add_zero]
      · simp only [if_neg g1', if_neg g1, if_neg g2, if_pos (c2.mpr g2), if_neg (show ¬ wI z = 0 from fun w => g3 (c3.mp w)), if_neg g3, Nat.add_zero]
theorem t_loop {T : Nat} {X3 X4 X5 X8 : Int32} {K15 K70 : Int32 → abH → Option (Int32 × abH)} (h : St s q P r) (hT : T ≤ 60) : ∀ (k i f n a b : Nat), i + k = T → k < f → n < 2147483648 →
    F_L_law_B170 L xs 3 39 X3 X4 X5 (nI T) X8 K15 K70 f (lN n) (nI a) (nI b) (nI i) (hp s l q P) = F_L_law_B170 L xs 3 39 X3 X4 X5 (nI T) X8 K15 K70 1 (lN (tmN nx k n)) (nI (a + tmF r nx dr k n)) (nI (b + tmS r nx dr k n)) (nI T) (hp s l q P)
  | _, _, 0, _, _, _, _, hf, _ => absurd hf (by omega)
  | 0, i, f + 1, n, a, b, hi, _, _ => by
    have hi : i = T := hi
    subst hi
    rw [F_L_law_B170, F_L_law_B170]
    simp only [if_neg (show ¬ nI i < nI i from nI_nlt (Nat.le_refl _) (by omega))]
    rfl
  | k + 1, i, f + 1, n, a, b, hi, hf, hn => by
    rw [t_step h (by omega) hT hn, t_loop h hT k (i + 1) f (nx (nx (nx n))) _ _ (by omega) (by omega) (nx_lt _), tmF, tmS, tmN, Nat.add_assoc, Nat.add_assoc]
theorem terms_ok {T j t : Nat} {X3 X4 : Int32} {K15 K70 : Int32 → abH → Option (Int32 × abH)} (h : St s q P r) (h1 : 1 ≤ T) (hT : T ≤ 60) (hj : j < 2147483648) :
    ∃ s' l', St s' q P r ∧ F_L_law_B170 L xs 3 39 X3 X4 (nI t) (nI T) (nI j) K15 K70 200 (lN j) 0 0 0 (hp s l q P) = K70 (nI (t + 1)) (hp s' l' q P) := by
  have e1 := t_loop (l := l) (L := L) (xs := xs) (X3 := X3) (X4 := X4) (X5 := nI t) (X8 := nI j) (K15 := K15) (K70 := K70) h hT T 0 200 j 0 0 (by omega) (by omega) hj
  rw [Nat.zero_add, Nat.zero_add] at e1
  obtain ⟨s1, l1, a1, a2⟩ := c_terms (l := l) h.1 h.2.1 (w := 0) h.2.2.2.1 h1 hT hj (by omega)
  have hS1 := h.eo a1
  obtain ⟨s2, l2, b1, b2⟩ := c_terms (l := l1) hS1.1 hS1.2.1 (w := 1) hS1.2.2.2.1 h1 hT hj (by omega)
  have hS2 := hS1.eo b1
  obtain ⟨s3, l3, c1, c2⟩ := c_terms (l := l2) hS2.1 hS2.2.1 (w := 2) hS2.2.2.2.1 h1 hT hj (by omega)
  have a2' : F_X11_terms 3 (nI T) (nI j) 0 (hp s l q P) = some (nI (tmF r nx dr T j), hp s1 l1 q P) := a2
  have b2' : F_X11_terms 3 (nI T) (nI j) 1 (hp s1 l1 q P) = some (nI (tmS r nx dr T j), hp s2 l2 q P) := b2
  have c2' : F_X11_terms 3 (nI T) (nI j) 2 (hp s2 l2 q P) = some (nI (tmN nx T j), hp s3 l3 q P) := c2
  have hl := nI_l (tmN_lt T j h1)
  refine ⟨s3, l3, hS2.eo c1, e1.trans ?_⟩
  rw [F_L_law_B170]
  simp only [if_neg (show ¬ nI T < nI T from nI_nlt (Nat.le_refl _) (by omega)), G_ko, sbd, a2', b2', c2', bd2_s, reduceIte, hl, lgc, nI_1]
theorem notp (h5 : r 0 0 ≤ 5) : ∀ p, p < r 0 0 → nI (r 0 0) ≠ nI p := fun p hp w => by
  have := (nI_eq (by omega) (by omega)).mp w
  omega
theorem notm (h5 : r 0 0 ≤ 5) : ∀ p, p < r 0 0 → (-1 : Int32) ≠ nI p := fun p hp w => m1_n (show p < 2147483648 by omega) w
end LL
