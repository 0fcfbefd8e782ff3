/-! A COURT BY CELLS: written, read -/
theorem nme {α β : Type} (a : α) (f : α → Option β) : nm a f = f a := Eq.trans (Eq.refl (nm a f)) (Eq.refl _)
theorem n_div {a b : Nat} (ha : a < 2147483648) (hb : b < 2147483648) : nI a / nI b = nI (a / b) := (Int32.ofNat_div ha hb).symm
theorem n_mod {a d : Nat} (ha : a < 2147483648) (hd : d < 2147483648) : nI a - nI a / nI d * nI d = nI (a % d) := by
  have h2 : a / d * d ≤ a := Nat.div_mul_le_self a d
  rw [n_div ha hd, n_mul, n_subn h2]
  congr 1
  have h3 := Nat.div_add_mod a d
  rw [Nat.mul_comm] at h3
  omega
theorem md4 {a : Nat} (ha : a < 2147483648) : nI a - nI a / 4 * 4 = nI (a % 4) := n_mod (d := 4) ha (by omega)
theorem md5 {a : Nat} (ha : a < 2147483648) : nI a - nI a / 5 * 5 = nI (a % 5) := n_mod (d := 5) ha (by omega)
theorem md9 {a : Nat} (ha : a < 2147483648) : nI a - nI a / 9 * 9 = nI (a % 9) := n_mod (d := 9) ha (by omega)
theorem md10 {a : Nat} (ha : a < 2147483648) : nI a - nI a / 10 * 10 = nI (a % 10) := n_mod (d := 10) ha (by omega)
theorem a15 (a : Nat) : nI a &&& 15 = nI (a &&& 15) := n_and a 15
theorem a7 (a : Nat) : nI a &&& 7 = nI (a &&& 7) := n_and a 7
theorem t2 (a : Nat) : (2 : Int32) * nI a = nI (2 * a) := n_mul 2 a
theorem t3 (a : Nat) : (3 : Int32) * nI a = nI (3 * a) := n_mul 3 a
theorem m3d (x : Nat) : (2 : Int32) + 3 * nI x = nI (2 + 3 * x) := m3 2 x
theorem p48a (x : Nat) : (48 : Int32) + nI x = nI (48 + x) := nI_add 48 x
theorem p1a (x : Nat) : (1 : Int32) + nI x = nI (1 + x) := nI_add 1 x
theorem p2a (x : Nat) : (2 : Int32) + nI x = nI (2 + x) := nI_add 2 x
theorem p14a (x : Nat) : (14 : Int32) + nI x = nI (14 + x) := nI_add 14 x
theorem p2b (x : Nat) : nI x + 2 = nI (x + 2) := nI_add x 2
theorem d4 {α : Type} (K : Option α) : dz 4 K = K := dz_ne (by decide) K
theorem d5 {α : Type} (K : Option α) : dz 5 K = K := dz_ne (by decide) K
theorem d9 {α : Type} (K : Option α) : dz 9 K = K := dz_ne (by decide) K
theorem d10 {α : Type} (K : Option α) : dz 10 K = K := dz_ne (by decide) K
def wz (z k : Nat) : Nat := (z >>> (2 * k) &&& 15) % 10
def kx (x p : Nat) : Nat := (x >>> (2 + 3 * p) &&& 7) % 5
def hy (y p : Nat) : Nat := 1 + (y >>> (3 * p) &&& 15) % 9
def ty (y p : Nat) : Nat := (y >>> (14 + 3 * p) &&& 15) % 10
def lt5 (k : Nat) : Nat := if k = 0 then 112 else if k = 1 then 104 else if k = 2 then 116 else if k = 3 then 99 else 117
theorem lt5_in (k : Nat) : lt5 k = 112 ∨ lt5 k = 104 ∨ lt5 k = 116 ∨ lt5 k = 99 ∨ lt5 k = 117 := by
  unfold lt5
  repeat' split
  all_goals omega
theorem kb_lt5 : ∀ k, k < 5 → kb (lt5 k) = k := by decide
theorem wz_lt (z k : Nat) : wz z k < 10 := Nat.mod_lt _ (by omega)
theorem kx_lt (x p : Nat) : kx x p < 5 := Nat.mod_lt _ (by omega)
theorem hy_lt (y p : Nat) : 1 ≤ hy y p ∧ hy y p < 10 := by
  have : (y >>> (3 * p) &&& 15) % 9 < 9 := Nat.mod_lt _ (by omega)
  unfold hy; omega
theorem ty_lt (y p : Nat) : ty y p < 10 := Nat.mod_lt _ (by omega)
/-- the court's text -/
def tx (x y z i : Nat) : Nat :=
  if i < 10 then 48 + wz z i else if i = 10 then 59 else if (i - 11) % 4 = 0 then lt5 (kx x ((i - 11) / 4)) else if (i - 11) % 4 = 1 then 48 + hy y ((i - 11) / 4) else if (i - 11) % 4 = 2 then 48 + ty y ((i - 11) / 4) else 44
theorem tx_w {x y z i : Nat} (h : i < 10) : tx x y z i = 48 + wz z i := by unfold tx; rw [if_pos h]
theorem tx_10 (x y z : Nat) : tx x y z 10 = 59 := rfl
theorem tx_k (x y z p : Nat) : tx x y z (11 + 4 * p) = lt5 (kx x p) := by
  unfold tx
  rw [if_neg (by omega), if_neg (by omega), if_pos (by omega), show (11 + 4 * p - 11) / 4 = p by omega]
theorem tx_h (x y z p : Nat) : tx x y z (12 + 4 * p) = 48 + hy y p := by
  unfold tx
  rw [if_neg (by omega), if_neg (by omega), if_neg (by omega), if_pos (by omega), show (12 + 4 * p - 11) / 4 = p by omega]
theorem tx_t (x y z p : Nat) : tx x y z (13 + 4 * p) = 48 + ty y p := by
  unfold tx
  rw [if_neg (by omega), if_neg (by omega), if_neg (by omega), if_neg (by omega), if_pos (by omega), show (13 + 4 * p - 11) / 4 = p by omega]
theorem tx_c (x y z p : Nat) (h : ¬ p = 0) : tx x y z (10 + 4 * p) = 44 := by
  unfold tx
  rw [if_neg (by omega), if_neg (by omega), if_neg (by omega), if_neg (by omega), if_neg (by omega)]
theorem tx_le (x y z i : Nat) : 32 ≤ tx x y z i ∧ tx x y z i ≤ 126 := by
  have h1 := wz_lt z i
  have h2 := hy_lt y ((i - 11) / 4)
  have h3 := ty_lt y ((i - 11) / 4)
  have h4 := lt5_in (kx x ((i - 11) / 4))
  unfold tx
  repeat' split
  all_goals omega
theorem tx_fit (x y z : Nat) {i : Nat} (hi : i < 30) : fit i (tx x y z i) = true := by
  have h1 := wz_lt z i
  have h2 := hy_lt y ((i - 11) / 4)
  have h3 := ty_lt y ((i - 11) / 4)
  have h4 := lt5_in (kx x ((i - 11) / 4))
  unfold fit tx
  by_cases g1 : i < 10
  · rw [if_pos g1, if_pos g1]; exact decide_eq_true (by omega)
  · rw [if_neg g1, if_neg g1]
    by_cases g2 : i = 10
    · rw [if_pos g2, if_pos g2]; rfl
    · rw [if_neg g2, if_neg g2, if_pos hi]
      by_cases g3 : (i - 11) % 4 = 0
      · rw [if_pos g3, if_pos g3]; exact decide_eq_true h4
      · rw [if_neg g3, if_neg g3]
        by_cases g4 : (i - 11) % 4 = 1
        · rw [if_pos g4, if_pos g4]; exact decide_eq_true (by omega)
        · rw [if_neg g4, if_neg g4]
          by_cases g5 : (i - 11) % 4 = 2
          · rw [if_pos g5, if_pos g5]; exact decide_eq_true (by omega)
          · rw [if_neg g5, if_neg g5]; rfl
theorem fwr_fit (pg : Nat → Nat) : ∀ m i, (∀ j, i ≤ j → j < i + m → fit j (pg j) = true) → fwr pg m i = i + m
  | 0, i, _ => rfl
  | m + 1, i, h => by
    have ih := fwr_fit pg m (i + 1) (fun j h1 h2 => h j (by omega) (by omega))
    unfold fwr
    rw [h i (by omega) (by omega), if_pos rfl, ih]
    omega
section GW
variable {s : Nat → Nat → Int32} {l : Nat → Nat → Int64} {q : Nat → Nat → Option Nat} {P : List Nat}
theorem gw : ga 0 (hp s l q P) 39 0 = some (s 39 0) ∧ ga 0 (hp s l q P) 39 1 = some (s 39 1) ∧ ga 0 (hp s l q P) 39 2 = some (s 39 2) ∧ ga 0 (hp s l q P) 39 3 = some (s 39 3) := ⟨rfl, rfl, rfl, rfl⟩
theorem sw : (∀ v, sa 0 (hp s l q P) 39 0 v = some (hp (us s 39 (upd (s 39) 0 v)) l q P)) ∧ (∀ v, sa 0 (hp s l q P) 39 1 v = some (hp (us s 39 (upd (s 39) 1 v)) l q P)) ∧ (∀ v, sa 0 (hp s l q P) 39 2 v = some (hp (us s 39 (upd (s 39) 2 v)) l q P)) ∧ (∀ v, sa 0 (hp s l q P) 39 3 v = some (hp (us s 39 (upd (s 39) 3 v)) l q P)) := ⟨fun _ => rfl, fun _ => rfl, fun _ => rfl, fun _ => rfl⟩
end GW
/-- a text of n letters on the page, the class's court r -/
def Cq (s : Nat → Nat → Int32) (q : Nat → Nat → Option Nat) (P : List Nat) (r : Nat → Nat → Nat) (T : Nat → Nat) (n : Nat) : Prop := Ct s q P 6 r ∧ Ok r ∧ s 4 1 = nI n ∧ ∃ pg : Nat → Nat, (∀ i, s 5 i = nI (pg i)) ∧ (∀ i, pg i < 127) ∧ ∀ i, i < n → pg i = T i
section WC
variable {s : Nat → Nat → Int32} {l : Nat → Nat → Int64} {q : Nat → Nat → Option Nat} {P : List Nat} {r : Nat → Nat → Nat} {T : Nat → Nat} {n : Nat}
theorem put_ok (h : Cq s q P r T n) (hn : n < 34) (h1 : 32 ≤ T n ∧ T n ≤ 126) : ∃ s', F_L_put 3 (nI (T n)) (hp s l q P) = some (1, hp s' l q P) ∧ Cq s' q P r T (n + 1) ∧ s' 39 = s 39 := by
  obtain ⟨hC, hO, h4, pg, h5, hp1, ht⟩ := h
  refine ⟨us (us s 5 (upd (s 5) n (nI (T n)))) 4 (upd (s 4) 1 (nI (n + 1))), ?_, ⟨hC, hO, rfl, va_up pg n (T n), upd_va h5 n (T n), va_lt hp1 (show T n < 127 by omega) n, fun i hi => ?_⟩, rfl⟩
  · have e := c_letter (l := l) (q := q) (P := P) h4 hn h1.1 h1.2
    unfold F_L_put
    simp only [G_ko, sbd, e, bd2_s, if_neg (nI_nle (show 0 < n + 1 by omega) (show n + 1 < 2 ^ 31 by omega))]
  · unfold va_up
    by_cases g : i = n
    · rw [if_pos g, g]
    · rw [if_neg g]; exact ht i (by omega)
theorem w_loop {x y z : Nat} (hz : z < 2147483648) : ∀ (k i f : Nat) (s : Nat → Nat → Int32), i + k = 10 → k < f → Cq s q P r (tx x y z) i → (∀ j, j < i → s 39 (4 + j) = nI (wz z j)) →
    ∃ s', Cq s' q P r (tx x y z) 11 ∧ (∀ j, j < 10 → s' 39 (4 + j) = nI (wz z j)) ∧ (∀ j, j < 4 → s' 39 j = s 39 j) ∧ F_L_court_B30 3 (nI x) (nI y) (nI z) 39 f 1 (nI i) (hp s l q P) = F_L_court_B115 3 (nI x) (nI y) 39 200 1 0 (hp s' l q P)
  | _, _, 0, _, _, hf, _, _ => absurd hf (by omega)
  | 0, i, f + 1, s, hi, _, hq, hw => by
    have hi : i = 10 := hi
    subst hi
    obtain ⟨s', a1, a2, a3⟩ := put_ok (l := l) hq (by omega) (tx_le x y z 10)
    rw [tx_10] at a1
    have a1' : F_L_put 3 59 (hp s l q P) = some (1, hp s' l q P) := a1
    refine ⟨s', a2, fun j hj => by rw [a3]; exact hw j hj, fun j hj => by rw [a3], ?_⟩
    rw [F_L_court_B30, if_neg (show ¬ nI 10 < 10 by decide), if_neg z1]
    simp only [a1', bd2_s, if_neg z1]
  | k + 1, i, f + 1, s, hi, hf, hq, hw => by
    have i10 : i < 10 := by omega
    have i39 : 4 + i < 39 := by omega
    have hq' : Cq (us s 39 (upd (s 39) (4 + i) (nI (wz z i)))) q P r (tx x y z) i := hq
    obtain ⟨s1, a1, a2, a3⟩ := put_ok (l := l) hq' (by omega) (tx_le x y z i)
    rw [tx_w i10] at a1
    obtain ⟨s', b1, b2, b3, b4⟩ := w_loop hz k (i + 1) f s1 (by omega) (by omega) a2 (fun j hj => by
      rw [a3, us_self]
      by_cases g : j = i
      · rw [g, upd_s]
      · rw [upd_n _ (by omega)]; exact hw j (by omega))
    refine ⟨s', b1, b2, fun j hj => by rw [b3 j hj, a3, us_self, upd_n _ (by omega)], ?_⟩
    have hz1 : z >>> (2 * i) &&& 15 ≤ 15 := Nat.and_le_right
    have hm := md10 (a := z >>> (2 * i) &&& 15) (by omega)
    have hwz : nI ((z >>> (2 * i) &&& 15) % 10) = nI (wz z i) := rfl
    rw [F_L_court_B30, if_pos (show nI i < 10 from nI_lt (b := 10) i10 (by omega))]
    simp only [d10, t2, n_shr hz (show 2 * i < 31 by omega), a15, hm, hwz, p4a, G_sa, G_ga, i39, sbd, nr, u_up, p48a, if_neg z1, a1, bd2_s, nI_1]
    exact b4
theorem B217_ok {X Y p v : Int32} {K : Int32 → Int32 → abH → Option (Int32 × abH)} {h : abH} : ∀ k, k < 5 → F_L_court_B217 3 X Y 39 p v (nI k) h K = F_L_court_B263 3 X Y 39 p v 3 (nI (lt5 k)) h K := by
  intro k hk
  rcases (by omega : k = 0 ∨ k = 1 ∨ k = 2 ∨ k = 3 ∨ k = 4) with rfl | rfl | rfl | rfl | rfl <;> rfl
theorem B263_ok {x y z p : Nat} {X Y : Int32} {K : Int32 → Int32 → abH → Option (Int32 × abH)} (hp5 : p < 5) (hq : Cq s q P r (tx x y z) (11 + 4 * p)) (e2 : s 39 (15 + 3 * p) = nI (hy y p)) (e3 : s 39 (16 + 3 * p) = nI (ty y p)) :
    ∃ s', Cq s' q P r (tx x y z) (10 + 4 * (p + 1)) ∧ s' 39 = s 39 ∧ F_L_court_B263 3 X Y 39 (nI p) (nI (14 + 3 * p)) 3 (nI (lt5 (kx x p))) (hp s l q P) K = K 1 (nI (p + 1)) (hp s' l q P) := by
  obtain ⟨s1, a1, a2, a3⟩ := put_ok (l := l) hq (by omega) (tx_le x y z _)
  rw [tx_k] at a1
  rw [show 11 + 4 * p + 1 = 12 + 4 * p by omega] at a2
  obtain ⟨s2, b1, b2, b3⟩ := put_ok (l := l) a2 (by omega) (tx_le x y z _)
  rw [tx_h] at b1
  rw [show 12 + 4 * p + 1 = 13 + 4 * p by omega] at b2
  obtain ⟨s3, c1, c2, c3⟩ := put_ok (l := l) b2 (by omega) (tx_le x y z _)
  rw [tx_t] at c1
  rw [show 13 + 4 * p + 1 = 10 + 4 * (p + 1) by omega] at c2
  have w1 : nI (14 + 3 * p) + 1 = nI (15 + 3 * p) := by rw [nI_1]; congr 1; omega
  have w2 : nI (14 + 3 * p) + 2 = nI (16 + 3 * p) := by rw [p2b]; congr 1; omega
  have i39 : 15 + 3 * p < 39 ∧ 16 + 3 * p < 39 := by omega
  have f1 : s1 39 (15 + 3 * p) = nI (hy y p) := by rw [a3]; exact e2
  have f2 : s2 39 (16 + 3 * p) = nI (ty y p) := by rw [b3, a3]; exact e3
  refine ⟨s3, c2, by rw [c3, b3, a3], ?_⟩
  unfold F_L_court_B263
  simp only [a1, bd2_s, if_neg z1, w1, w2, G_ga, i39, sbd, f1, f2, p48a, b1, c1, nI_1]
theorem p_step {x y z m p f : Nat} (hx : x < 2147483648) (hyy : y < 2147483648) (hm : m ≤ 5) (hpm : p < m) (hq : Cq s q P r (tx x y z) (if p = 0 then 11 else 10 + 4 * p)) (h0 : s 39 0 = nI m) :
    ∃ s', Cq s' q P r (tx x y z) (10 + 4 * (p + 1)) ∧ (∀ j, j < 14 + 3 * p → s' 39 j = s 39 j) ∧ s' 39 (14 + 3 * p) = nI (kx x p) ∧ s' 39 (15 + 3 * p) = nI (hy y p) ∧ s' 39 (16 + 3 * p) = nI (ty y p) ∧ F_L_court_B115 3 (nI x) (nI y) 39 (f + 1) 1 (nI p) (hp s l q P) = F_L_court_B115 3 (nI x) (nI y) 39 f 1 (nI (p + 1)) (hp s' l q P) := by
  have p5 : p < 5 := by omega
  have i39 : 14 + 3 * p < 39 ∧ 15 + 3 * p < 39 ∧ 16 + 3 * p < 39 := by omega
  have b1' : x >>> (2 + 3 * p) &&& 7 ≤ 7 := Nat.and_le_right
  have b2' : y >>> (3 * p) &&& 15 ≤ 15 := Nat.and_le_right
  have b3' : y >>> (14 + 3 * p) &&& 15 ≤ 15 := Nat.and_le_right
  have m1 := md5 (a := x >>> (2 + 3 * p) &&& 7) (by omega)
  have m2 := md9 (a := y >>> (3 * p) &&& 15) (by omega)
  have m3' := md10 (a := y >>> (14 + 3 * p) &&& 15) (by omega)
  have q1 : nI ((x >>> (2 + 3 * p) &&& 7) % 5) = nI (kx x p) := rfl
  have q2 : nI (1 + (y >>> (3 * p) &&& 15) % 9) = nI (hy y p) := rfl
  have q3 : nI ((y >>> (14 + 3 * p) &&& 15) % 10) = nI (ty y p) := rfl
  have w1 : nI (14 + 3 * p) + 1 = nI (15 + 3 * p) := by rw [nI_1]; congr 1; omega
  have w2 : nI (14 + 3 * p) + 2 = nI (16 + 3 * p) := by rw [p2b]; congr 1; omega
  -- the cells, written
  have hS : ∃ g : Nat → Int32, (∀ j, j < 14 + 3 * p → g j = s 39 j) ∧ g (14 + 3 * p) = nI (kx x p) ∧ g (15 + 3 * p) = nI (hy y p) ∧ g (16 + 3 * p) = nI (ty y p) ∧ us (us (us s 39 (upd (s 39) (14 + 3 * p) (nI (kx x p)))) 39 (upd (us s 39 (upd (s 39) (14 + 3 * p) (nI (kx x p))) 39) (15 + 3 * p) (nI (hy y p)))) 39 (upd (us (us s 39 (upd (s 39) (14 + 3 * p) (nI (kx x p)))) 39 (upd (us s 39 (upd (s 39) (14 + 3 * p) (nI (kx x p))) 39) (15 + 3 * p) (nI (hy y p))) 39) (16 + 3 * p) (nI (ty y p))) = us s 39 g := by
    refine ⟨upd (upd (upd (s 39) (14 + 3 * p) (nI (kx x p))) (15 + 3 * p) (nI (hy y p))) (16 + 3 * p) (nI (ty y p)), fun j hj => ?_, ?_, ?_, ?_, ?_⟩
    · rw [upd_n _ (by omega), upd_n _ (by omega), upd_n _ (by omega)]
    · rw [upd_n _ (by omega), upd_n _ (by omega), upd_s]
    · rw [upd_n _ (by omega), upd_s]
    · rw [upd_s]
    · simp only [us_us, us_self]
  obtain ⟨g, g1, g2, g3, g4, g5⟩ := hS
  -- behind them: the comma, the party's three letters
  have hT : ∃ s', Cq s' q P r (tx x y z) (10 + 4 * (p + 1)) ∧ s' 39 = g ∧ F_L_court_B115 3 (nI x) (nI y) 39 (f + 1) 1 (nI p) (hp s l q P) = F_L_court_B115 3 (nI x) (nI y) 39 f 1 (nI (p + 1)) (hp s' l q P) := by
    by_cases gp : p = 0
    · subst gp
      have hq' : Cq (us s 39 g) q P r (tx x y z) (11 + 4 * 0) := hq
      obtain ⟨s', c1, c2, c3⟩ := B263_ok (l := l) (K := fun u5 u6 hu => F_L_court_B115 3 (nI x) (nI y) 39 f u5 u6 hu) (X := nI x) (Y := nI y) p5 hq' (by rw [us_self]; exact g3) (by rw [us_self]; exact g4)
      refine ⟨s', c1, by rw [c2, us_self], ?_⟩
      rw [F_L_court_B115]
      simp only [gw, h0, sbd, if_pos (show nI 0 < nI m from nI_lt (by omega) (by omega)), nme, d5, d9, d10, p14a, p2a, t3, n_shr hx (show 2 + 3 * 0 < 31 by omega), n_shr hyy (show 3 * 0 < 31 by omega), n_shr hyy (show 14 + 3 * 0 < 31 by omega), a7, a15, m1, m2, m3', p1a, q1, q2, q3, G_sa, i39, nr, w1, w2, if_neg z1, g5]
      rw [if_pos (show nI 0 = 0 from rfl), B217_ok _ (kx_lt x 0)]
      exact c3
    · rw [if_neg gp] at hq
      have hq' : Cq (us s 39 g) q P r (tx x y z) (10 + 4 * p) := hq
      obtain ⟨s1, d1, d2, d3⟩ := put_ok (l := l) hq' (by omega) (tx_le x y z _)
      rw [tx_c x y z p gp] at d1
      rw [show 10 + 4 * p + 1 = 11 + 4 * p by omega] at d2
      have d1' : F_L_put 3 44 (hp (us s 39 g) l q P) = some (1, hp s1 l q P) := d1
      have d4' : s1 39 = g := by rw [d3, us_self]
      obtain ⟨s', c1, c2, c3⟩ := B263_ok (l := l) (K := fun u5 u6 hu => F_L_court_B115 3 (nI x) (nI y) 39 f u5 u6 hu) (X := nI x) (Y := nI y) p5 d2 (by rw [d4']; exact g3) (by rw [d4']; exact g4)
      refine ⟨s', c1, by rw [c2, d4'], ?_⟩
      rw [F_L_court_B115]
      simp only [gw, h0, sbd, if_pos (show nI p < nI m from nI_lt (by omega) (by omega)), nme, d5, d9, d10, p14a, p2a, t3, n_shr hx (show 2 + 3 * p < 31 by omega), n_shr hyy (show 3 * p < 31 by omega), n_shr hyy (show 14 + 3 * p < 31 by omega), a7, a15, m1, m2, m3', p1a, q1, q2, q3, G_sa, i39, nr, w1, w2, if_neg z1, g5, if_neg (nI_ne0 (show 0 < p by omega) (show p < 2 ^ 31 by omega)), d1', bd2_s]
      rw [B217_ok _ (kx_lt x p)]
      exact c3
  obtain ⟨s1, c1, c2, c3⟩ := hT
  exact ⟨s1, c1, by rw [c2]; exact g1, by rw [c2]; exact g2, by rw [c2]; exact g3, by rw [c2]; exact g4, c3⟩
theorem p_loop {x y z m : Nat} (hx : x < 2147483648) (hyy : y < 2147483648) (hm : m ≤ 5) : ∀ (k p f : Nat) (s : Nat → Nat → Int32), p + k = m → k < f → Cq s q P r (tx x y z) (if p = 0 then 11 else 10 + 4 * p) → s 39 0 = nI m → (∀ j, j < p → s 39 (14 + 3 * j) = nI (kx x j) ∧ s 39 (15 + 3 * j) = nI (hy y j) ∧ s 39 (16 + 3 * j) = nI (ty y j)) →
    ∃ s' f', Cq s' q P r (tx x y z) (if m = 0 then 11 else 10 + 4 * m) ∧ (∀ j, j < m → s' 39 (14 + 3 * j) = nI (kx x j) ∧ s' 39 (15 + 3 * j) = nI (hy y j) ∧ s' 39 (16 + 3 * j) = nI (ty y j)) ∧ (∀ j, j < 14 → s' 39 j = s 39 j) ∧ F_L_court_B115 3 (nI x) (nI y) 39 f 1 (nI p) (hp s l q P) = F_L_court_B115 3 (nI x) (nI y) 39 (f' + 1) 1 (nI m) (hp s' l q P)
  | _, _, 0, _, _, hf, _, _, _ => absurd hf (by omega)
  | 0, p, f + 1, s, hi, _, hq, _, hw => by
    have hi : p = m := hi
    subst hi
    exact ⟨s, f, hq, hw, fun _ _ => rfl, rfl⟩
  | k + 1, p, f + 1, s, hi, hf, hq, h0, hw => by
    obtain ⟨s1, c1, g1, g2, g3, g4, c3⟩ := p_step (l := l) (f := f) hx hyy hm (show p < m by omega) hq h0
    obtain ⟨s', f', e1, e2, e3, e4⟩ := p_loop hx hyy hm k (p + 1) f s1 (by omega) (by omega) (by rw [if_neg (by omega)]; exact c1) (by rw [g1 0 (by omega)]; exact h0) (fun j hj => by
      by_cases gj : j = p
      · rw [gj]; exact ⟨g2, g3, g4⟩
      · rw [g1 _ (by omega), g1 _ (by omega), g1 _ (by omega)]; exact hw j (by omega))
    refine ⟨s', f', e1, e2, fun j hj => ?_, c3.trans e4⟩
    rw [e3 j hj, g1 j (by omega)]
end WC
