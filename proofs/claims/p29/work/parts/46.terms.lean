/-! TERMS -/
def nx (n : Nat) : Nat := (n * 1103515245 + 12345) % 2147483648
def dr (n d : Nat) : Nat := (nx n / 65536) % d
theorem nx_lt (n : Nat) : nx n < 2147483648 := Nat.mod_lt _ (by decide)
theorem l_div {a b : Nat} (ha : a < 9223372036854775808) (hb : b < 9223372036854775808) : lN a / lN b = lN (a / b) := (Int64.ofNat_div ha hb).symm
theorem l_and (a b : Nat) : lN a &&& lN b = lN (a &&& b) := by
  apply Int64.toBitVec_inj.1
  show BitVec.ofNat 64 a &&& BitVec.ofNat 64 b = BitVec.ofNat 64 (a &&& b)
  rw [BitVec.ofNat_and]
theorem l_sub {a b : Nat} (h : b ≤ a) : lN a - lN b = lN (a - b) := (Int64.ofNat_sub a b h).symm
theorem l_mod {a d : Nat} (ha : a < 9223372036854775808) (hd : d < 9223372036854775808) : lN a - lN a / lN d * lN d = lN (a % d) := by
  have h2 : a / d * d ≤ a := Nat.div_mul_le_self a d
  rw [l_div ha hd, lN_mul, l_sub h2]
  congr 1
  have h3 := Nat.div_add_mod a d
  rw [Nat.mul_comm] at h3
  omega
theorem dzl_ne {α : Type} {y : Int64} (h : ¬ y = 0) (K : Option α) : dzl y K = K := by unfold dzl; rw [if_neg h]
theorem lcg_c {n : Nat} (h : n < 2147483648) : (lN n * 1103515245 + 12345) - (lN n * 1103515245 + 12345) / 2147483648 * 2147483648 = lN (nx n) := by
  have e : lN n * 1103515245 + 12345 = lN (n * 1103515245 + 12345) := by
    rw [show (1103515245 : Int64) = lN 1103515245 from rfl, show (12345 : Int64) = lN 12345 from rfl, lN_mul, lN_add]
  rw [e]
  exact l_mod (a := n * 1103515245 + 12345) (d := 2147483648) (by omega) (by omega)
theorem lcg_m (n : Nat) : (1103515245 * lN n + 12345) &&& 2147483647 = lN (nx n) := by
  have e : 1103515245 * lN n + 12345 = lN (n * 1103515245 + 12345) := by
    rw [show (1103515245 : Int64) = lN 1103515245 from rfl, show (12345 : Int64) = lN 12345 from rfl, lN_mul, lN_add, Nat.mul_comm]
  rw [e, show (2147483647 : Int64) = lN 2147483647 from rfl, l_and, show (2147483647 : Nat) = 2 ^ 31 - 1 from rfl, Nat.and_two_pow_sub_one_eq_mod]
  rfl
theorem drw {n d : Nat} (hd : 1 ≤ d ∧ d < 2147483648) : ((lN (nx n) / 65536) - (lN (nx n) / 65536) / (nI d).toInt64 * (nI d).toInt64).toInt32 = nI (dr n d) := by
  have h := nx_lt n
  rw [nI_l hd.2, show (65536 : Int64) = lN 65536 from rfl, l_div (by omega) (by omega), l_mod (Nat.lt_of_le_of_lt (Nat.div_le_self _ _) (by omega)) (by omega), lN_i]
  rfl
section TE
variable {s s' : Nat → Nat → Int32} {l : Nat → Nat → Int64} {q : Nat → Nat → Option Nat} {P : List Nat} {r : Nat → Nat → Nat}
theorem z65 : ¬ (65536 : Int64) = 0 := by decide
theorem z31 : ¬ (2147483648 : Int64) = 0 := by decide
theorem zd {d : Nat} (hd : 1 ≤ d ∧ d < 2147483648) : ¬ (nI d).toInt64 = 0 := by
  rw [nI_l hd.2]
  show ¬ lN d = lN 0
  rw [lN_eq hd.2 (by omega)]; omega
theorem draw_c {n d : Nat} (hn : n < 2147483648) (hd : 1 ≤ d ∧ d < 2147483648) (h : l 38 0 = lN n) : F_X9_draw 38 (nI d) (hp s l q P) = some (nI (dr n d), hp s (us l 38 (va_up (l 38) 0 (lN (nx n)))) q P) := by
  have e1 : ¬ nI d < 1 := by
    intro w
    rw [show (1 : Int32) = nI 1 from rfl, nI_ltI hd.2 (by omega)] at w
    omega
  have e2 : us l 38 (va_up (l 38) 0 (lN (nx n))) 38 0 = lN (nx n) := by rw [us_self]; exact va_up_self _ _ _
  unfold F_X9_draw
  simp only [G_gJ, G_sJ, sbd, h, lcg_c hn, dzl_ne z31, dzl_ne z65, dzl_ne (zd hd), if_neg e1, e2, drw hd]
end TE
/-! TERMS: the loops, over any draws N (the seed), D (the number drawn) -/
def tB (r : Nat → Nat → Nat) (N : Nat → Nat) (D : Nat → Nat → Nat) (n : Nat) : Int := bal r (D n (r 0 0)) (D (N n) (r 0 0)) (D (N (N n)) 13)
def tF (r : Nat → Nat → Nat) (N : Nat → Nat) (D : Nat → Nat → Nat) (n : Nat) : Nat := if D n (r 0 0) = D (N n) (r 0 0) then 0 else if 0 < tB r N D n then 1 else 0
def tS (r : Nat → Nat → Nat) (N : Nat → Nat) (D : Nat → Nat → Nat) (n : Nat) : Nat := if D n (r 0 0) = D (N n) (r 0 0) then 0 else if tB r N D n = 0 then 1 else 0
def tmF (r : Nat → Nat → Nat) (N : Nat → Nat) (D : Nat → Nat → Nat) : Nat → Nat → Nat
  | 0, _ => 0
  | k + 1, n => tF r N D n + tmF r N D k (N (N (N n)))
def tmS (r : Nat → Nat → Nat) (N : Nat → Nat) (D : Nat → Nat → Nat) : Nat → Nat → Nat
  | 0, _ => 0
  | k + 1, n => tS r N D n + tmS r N D k (N (N (N n)))
def tmN (N : Nat → Nat) : Nat → Nat → Nat
  | 0, n => n
  | k + 1, n => tmN N k (N (N (N n)))
section TL
variable {s s' : Nat → Nat → Int32} {l : Nat → Nat → Int64} {q : Nat → Nat → Option Nat} {P : List Nat} {r : Nat → Nat → Nat} {N : Nat → Nat} {D : Nat → Nat → Nat}
def Dok (N : Nat → Nat) (D : Nat → Nat → Nat) : Prop := (∀ n d, 1 ≤ d → D n d < d) ∧ (∀ n, N n < 2147483648)
end TL
/-! TERMS: the class -/
section TC
variable {s s' : Nat → Nat → Int32} {l : Nat → Nat → Int64} {q : Nat → Nat → Option Nat} {P : List Nat} {r : Nat → Nat → Nat} {N : Nat → Nat} {D : Nat → Nat → Nat}
def Dc (q : Nat → Nat → Option Nat) (P : List Nat) (N : Nat → Nat) (D : Nat → Nat → Nat) : Prop := ∀ (s : Nat → Nat → Int32) (n d : Nat) (l : Nat → Nat → Int64), 1 ≤ d ∧ d < 14 → n < 2147483648 → l 38 0 = lN n → ∃ l', l' 38 0 = lN (N n) ∧ F_X9_draw 38 (nI d) (hp s l q P) = some (nI (D n d), hp s l' q P)
theorem u38a (s : Nat → Nat → Int32) (v : Int32) : us s 38 (upd (s 38) 1 v) 38 1 = v ∧ us s 38 (upd (s 38) 1 v) 38 2 = s 38 2 := by
  rw [us_self]; exact ⟨by unfold upd; rw [if_pos rfl], by unfold upd; rw [if_neg (by omega)]⟩
theorem u38b (s : Nat → Nat → Int32) (v : Int32) : us s 38 (upd (s 38) 2 v) 38 2 = v ∧ us s 38 (upd (s 38) 2 v) 38 1 = s 38 1 := by
  rw [us_self]; exact ⟨by unfold upd; rw [if_pos rfl], by unfold upd; rw [if_neg (by omega)]⟩
theorem hold_step {T i f n x y : Nat} (hK : Dok N D) (hD : Dc q P N D) (hO : Ok r) (hp2 : 2 ≤ r 0 0) (hi : i < T) (hT : T ≤ 60) (h : Ct s q P 6 r) (hn : n < 2147483648) (hl : l 38 0 = lN n) (hx : s 38 1 = nI x) (hy : s 38 2 = nI y) :
    ∃ s' l', Eo s s' ∧ s' 38 1 = nI (x + tF r N D n) ∧ s' 38 2 = nI (y + tS r N D n) ∧ l' 38 0 = lN (N (N (N n))) ∧ F_X9_hold_B19 38 6 (nI T) (f + 1) (nI i) (hp s l q P) = F_X9_hold_B19 38 6 (nI T) f (nI (i + 1)) (hp s' l' q P) := by
  have n5 := hO.n5
  have e0 : s 6 0 = nI (r 0 0) := h.1.1
  obtain ⟨l1, m1, d1⟩ := hD s n (r 0 0) l (by omega) hn hl
  obtain ⟨l2, m2, d2⟩ := hD s (N n) (r 0 0) l1 (by omega) (hK.2 _) m1
  obtain ⟨l3, m3, d3⟩ := hD s (N (N n)) 13 l2 (by omega) (hK.2 _) m2
  have q1 := hK.1 n (r 0 0) (by omega)
  have q2 := hK.1 (N n) (r 0 0) (by omega)
  have q3 := hK.1 (N (N n)) 13 (by omega)
  have hf1 := balance_ok (l := l3) h hO q1 q2 q3
  have hbl := bal_le hO (D n (r 0 0)) (D (N n) (r 0 0)) (D (N (N n)) 13)
  have d3' : F_X9_draw 38 13 (hp s l2 q P) = some (nI (D (N (N n)) 13), hp s l3 q P) := d3
  have hstart : F_X9_hold_B19 38 6 (nI T) (f + 1) (nI i) (hp s l q P) = (if nI (D n (r 0 0)) = nI (D (N n) (r 0 0)) then F_X9_hold_B19 38 6 (nI T) f (nI (i + 1)) (hp s l3 q P) else if wI (bal r (D n (r 0 0)) (D (N n) (r 0 0)) (D (N (N n)) 13)) ≤ 0 then F_X9_hold_B90 38 6 (nI T) (nI i) (wI (bal r (D n (r 0 0)) (D (N n) (r 0 0)) (D (N (N n)) 13))) (hp s l3 q P) (fun u4 hu => F_X9_hold_B19 38 6 (nI T) f u4 hu) else F_X9_hold_B90 38 6 (nI T) (nI i) (wI (bal r (D n (r 0 0)) (D (N n) (r 0 0)) (D (N (N n)) 13))) (hp (us s 38 (upd (s 38) 1 (nI (x + 1)))) l3 q P) (fun u4 hu => F_X9_hold_B19 38 6 (nI T) f u4 hu)) := by
    rw [F_X9_hold_B19, if_pos (show nI i < nI T from nI_lt hi (by omega))]
    simp only [G_gI, G_sI, G_ko, sbd, e0, d1, d2, d3', bd2_s, hf1, hx, nI_1]
  rw [hstart]
  unfold F_X9_hold_B90 tF tS tB
  have c1 : (nI (D n (r 0 0)) = nI (D (N n) (r 0 0))) ↔ D n (r 0 0) = D (N n) (r 0 0) := nI_eq (by omega) (by omega)
  have c2 := w_le0 (z := bal r (D n (r 0 0)) (D (N n) (r 0 0)) (D (N (N n)) 13)) (by omega) (by omega)
  have c3 : wI (bal r (D n (r 0 0)) (D (N n) (r 0 0)) (D (N (N n)) 13)) = 0 ↔ bal r (D n (r 0 0)) (D (N n) (r 0 0)) (D (N (N n)) 13) = 0 := by
    show _ = wI 0 ↔ _
    exact wI_eq (by omega) (by omega) (by omega) (by omega)
  clear hstart hf1 hbl d1 d2 d3 d3'
  revert c1 c2 c3
  generalize bal r (D n (r 0 0)) (D (N n) (r 0 0)) (D (N (N n)) 13) = z
  generalize D n (r 0 0) = u
  generalize D (N n) (r 0 0) = v
  intro c1 c2 c3
  by_cases g1 : u = v
  · refine ⟨s, l3, Eo.rfl, ?_, ?_, m3, ?_⟩
    · rw [if_pos g1]; exact hx
    · rw [if_pos g1]; exact hy
    · rw [if_pos (c1.mpr g1)]
  · have g1' : ¬ nI u = nI v := fun w => g1 (c1.mp w)
    rw [if_neg g1', if_neg g1, if_neg g1]
    by_cases g2 : 0 < z
    · have g3 : ¬ z = 0 := by omega
      refine ⟨us s 38 (upd (s 38) 1 (nI (x + 1))), l3, Eo.set 38 _ (by omega), ?_, ?_, m3, ?_⟩
      · rw [if_pos g2]; exact (u38a s _).1
      · rw [if_neg g3]; exact (u38a s _).2.trans hy
      · rw [if_neg (show ¬ wI z ≤ 0 from fun w => (c2.mp w) g2), if_neg (show ¬ wI z = 0 from fun w => g3 (c3.mp w)), nI_1]
    · by_cases g3 : z = 0
      · refine ⟨us s 38 (upd (s 38) 2 (nI (y + 1))), l3, Eo.set 38 _ (by omega), ?_, ?_, m3, ?_⟩
        · rw [if_neg g2]; exact (u38b s _).2.trans hx
        · rw [if_pos g3]; exact (u38b s _).1
        · rw [if_pos (c2.mpr g2), if_pos (c3.mpr g3)]
          simp only [G_gI, G_sI, sbd, hy, nI_1]
      · refine ⟨s, l3, Eo.rfl, ?_, ?_, m3, ?_⟩
        · rw [if_neg g2]; exact hx
        · rw [if_neg g3]; exact hy
        · rw [if_pos (c2.mpr g2), if_neg (show ¬ wI z = 0 from fun w => g3 (c3.mp w)), nI_1]
theorem hold_loop {T : Nat} (hK : Dok N D) (hD : Dc q P N D) (hO : Ok r) (hp2 : 2 ≤ r 0 0) (hT : T ≤ 60) : ∀ (k i f n x y : Nat) (s : Nat → Nat → Int32) (l : Nat → Nat → Int64), Ct s q P 6 r → n < 2147483648 → l 38 0 = lN n → s 38 1 = nI x → s 38 2 = nI y → i + k = T → k < f → ∃ s' l', Eo s s' ∧ F_X9_hold_B19 38 6 (nI T) f (nI i) (hp s l q P) = some (hp s' l' q P) ∧ s' 38 1 = nI (x + tmF r N D k n) ∧ s' 38 2 = nI (y + tmS r N D k n) ∧ l' 38 0 = lN (tmN N k n) := by
  intro k
  induction k with
  | zero =>
    intro i f n x y s l h hn hl hx hy hi hf
    match f, hf with
    | f + 1, _ =>
      refine ⟨s, l, Eo.rfl, ?_, hx, hy, hl⟩
      rw [F_X9_hold_B19, if_neg (show ¬ nI i < nI T from nI_nlt (by omega) (by omega))]
  | succ k ih =>
    intro i f n x y s l h hn hl hx hy hi hf
    match f, hf with
    | f + 1, hf =>
      obtain ⟨s1, l1, a1, a2, a3, a4, a5⟩ := hold_step (f := f) hK hD hO hp2 (show i < T by omega) hT h hn hl hx hy
      obtain ⟨s2, l2, b1, b2, b3, b4, b5⟩ := ih (i + 1) f (N (N (N n))) (x + tF r N D n) (y + tS r N D n) s1 l1 (h.eo (by omega) a1) (hK.2 _) a4 a2 a3 (by omega) (by omega)
      refine ⟨s2, l2, a1.trans b1, a5.trans b2, ?_, ?_, b5⟩
      · rw [tmF, ← Nat.add_assoc]; exact b3
      · rw [tmS, ← Nat.add_assoc]; exact b4
theorem dr_lt (n : Nat) {d : Nat} (hd : 1 ≤ d) : dr n d < d := Nat.mod_lt _ (by omega)
theorem Dok_nx : Dok nx dr := ⟨fun n _ h => dr_lt n h, nx_lt⟩
theorem Dc_nx : Dc q P nx dr := fun _ _ d l hd hn hl => ⟨us l 38 (va_up (l 38) 0 (lN (nx _))), by rw [us_self]; exact va_up_self _ _ _, draw_c hn (by omega) hl⟩
theorem hold_ok {T n : Nat} (h : Ct s q P 6 r) (hO : Ok r) (hp2 : 2 ≤ r 0 0) (hT : T ≤ 60) (hn : n < 2147483648) : ∃ s' l', Eo s s' ∧ F_X9_hold 38 6 (nI T) (nI n) (hp s l q P) = some (hp s' l' q P) ∧ s' 38 1 = nI (0 + tmF r nx dr T n) ∧ s' 38 2 = nI (0 + tmS r nx dr T n) ∧ l' 38 0 = lN (tmN nx T n) := by
  have hE : Eo s (us (us s 38 (upd (s 38) 1 0)) 38 (upd (us s 38 (upd (s 38) 1 0) 38) 2 0)) := (Eo.set 38 _ (by omega)).trans (Eo.set 38 _ (by omega))
  obtain ⟨s', l', a1, a2, a3, a4, a5⟩ := hold_loop (q := q) (P := P) Dok_nx Dc_nx hO hp2 hT T 0 200 n 0 0 (us (us s 38 (upd (s 38) 1 0)) 38 (upd (us s 38 (upd (s 38) 1 0) 38) 2 0)) (us l 38 (va_up (l 38) 0 (lN n))) (h.eo (by omega) hE) hn (by rw [us_self]; exact va_up_self _ _ _) ((u38b _ _).2.trans (u38a s _).1) (u38b _ _).1 (by omega) (by omega)
  refine ⟨s', l', hE.trans a1, ?_, a3, a4, a5⟩
  unfold F_X9_hold
  simp only [G_sJ, G_sI, sbd, nI_l hn]
  exact a2
end TC
