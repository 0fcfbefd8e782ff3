/-! A COURT BY CELLS: the class reads it; the law's cells hold the same table -/
section CV
variable {s : Nat → Nat → Int32} {l : Nat → Nat → Int64} {q : Nat → Nat → Option Nat} {P : List Nat} {r : Nat → Nat → Nat}
theorem c_court {pg : Nat → Nat} {n m : Nat} (hC : Ct s q P 6 r) (hO : Ok r) (h4 : s 4 1 = nI n) (h5 : ∀ i, s 5 i = nI (pg i)) (hp1 : ∀ i, pg i < 127) (hn : n ≤ 34) (hI : isC pg n = true) (hm : (n - 10) / 4 = m) :
    ∃ s1 q1 P1, F_X11_court 3 (hp s l q P) = some (nI m, hp s1 l q1 P1) ∧ Ct s1 q1 P1 6 (ctR r pg m) ∧ Ok (ctR r pg m) ∧ s1 4 1 = nI 0 ∧ (∀ i, s1 5 i = nI (pg i)) ∧ s1 39 = s 39 := by
  have hcc := court_c (l := l) (q := q) (P := P) h4 h5 hp1 hn
  have hc := Cp_of hI
  rw [hm] at hc
  rw [hI] at hcc
  obtain ⟨g, g1, g2⟩ := read_w (l := l) (q := q) (P := P) hc 10 0 200 s h5 h4 rfl (by omega)
  obtain ⟨s', q', P', a1, a2, a3, a4, _, a6, _, a8⟩ := read_p (l := l) hc m 0 6 (us (us s 10 g) 6 (upd (s 6) 0 (nI m))) q P h5 (by rw [us_self, upd_s]) (by omega) (by have := hc.1; omega)
  have e3 : s' 3 = s 3 := a1 3 (by omega) (by omega) (by omega)
  have e4 : s' 4 = s 4 := a1 4 (by omega) (by omega) (by omega)
  have e60 : s' 6 0 = nI m := by
    rw [a2, upd_n _ (by omega), upd_n _ (by omega), upd_n _ (by omega), upd_n _ (by omega), us_self, upd_s]
  have hX : F_X11_court 3 (hp s l q P) = some (nI m, hp (us (us s' 4 (upd (s 4) 1 0)) 3 (upd (upd (s 3) 7 0) 8 (s 3 8 + 1))) l q' P') := by
    have t0 : ∀ f, us s' 4 f 3 = s 3 := fun _ => e3
    have t1 : ∀ f g, us (us s' 4 f) 3 g 6 0 = nI m := fun _ _ => e60
    have t2 : upd (s 3) 7 0 8 = s 3 8 := by rw [upd_n _ (by omega)]
    have hr : F_X1_read 6 4 (hp s l q P) = some (hp s' l q' P') := g2.trans a8
    unfold F_X11_court
    simp only [G_gR, G_ko, G_gI, G_sI, sbd, hcc, b2_t, if_neg (show ¬ (1 : Int32) = 0 by decide), hr, e4, t0, us_us, us_self, t2, t1]
  have bb : ∀ a, 4 < a → us (us s' 4 (upd (s 4) 1 0)) 3 (upd (upd (s 3) 7 0) 8 (s 3 8 + 1)) a = s' a := fun a ha => by rw [us_ne _ _ (by omega), us_ne _ _ (by omega)]
  have b4 : us (us s' 4 (upd (s 4) 1 0)) 3 (upd (upd (s 3) 7 0) 8 (s 3 8 + 1)) 4 = upd (s 4) 1 0 := rfl
  revert hX bb b4
  generalize us (us s' 4 (upd (s 4) 1 0)) 3 (upd (upd (s 3) 7 0) 8 (s 3 8 + 1)) = t'
  intro hX bb b4
  have w9 : ∀ a, 4 < a → a ≠ 6 → a ≠ 8 → a ≠ 9 → a ≠ 10 → t' a = s a := fun a h1 h6 h8 h9 h10 => by
    rw [bb a h1, a1 a h6 h8 h9, us_ne _ _ h6, us_ne _ _ h10]
  have hO2 := ctR_ok hO hc
  have hC1 := hC.2.1
  refine ⟨t', q', P', hX, ⟨?_, ?_, ?_⟩, hO2, by rw [b4, upd_s]; rfl, by rw [w9 5 (by omega) (by omega) (by omega) (by omega) (by omega)]; exact h5, w9 39 (by omega) (by omega) (by omega) (by omega) (by omega)⟩
  · rw [bb 6 (by omega), a2]
    refine ⟨?_, ?_, ?_, ?_, ?_⟩
    · rw [upd_n _ (by omega), upd_n _ (by omega), upd_n _ (by omega), upd_n _ (by omega), us_self, upd_s]; rfl
    · rw [upd_n _ (by omega), upd_n _ (by omega), upd_n _ (by omega), upd_s]; rfl
    · rw [upd_n _ (by omega), upd_n _ (by omega), upd_s]; rfl
    · rw [upd_n _ (by omega), upd_s]; rfl
    · rw [upd_s]; rfl
  · refine ⟨fun i => ?_, fun i => ?_, fun i => ?_, ?_, ?_, ?_, ?_, ?_, ?_⟩
    · rw [bb 8 (by omega), a3 i]
      show (if 0 ≤ i ∧ i < m then nI (pg (12 + 4 * i) - 48) else s 8 i) = nI (if i < m then pg (12 + 4 * i) - 48 else r 2 i)
      rw [hC1.1 i]; exact nI_if _ _ _ _
    · rw [bb 9 (by omega), a4 i]
      show (if 0 ≤ i ∧ i < m then nI (pg (13 + 4 * i) - 48) else s 9 i) = nI (if i < m then pg (13 + 4 * i) - 48 else r 3 i)
      rw [hC1.2.1 i]; exact nI_if _ _ _ _
    · rw [bb 10 (by omega), a1 10 (by omega) (by omega) (by omega), us_ne _ _ (by omega), us_self, g1 i]
      show (if 0 ≤ i ∧ i < 10 then nI (pg i - 48) else s 10 i) = nI (if i < 10 then pg i - 48 else r 4 i)
      rw [hC1.2.2.1 i]; exact nI_if _ _ _ _
    · rw [w9 11 (by omega) (by omega) (by omega) (by omega) (by omega)]; exact hC1.2.2.2.1
    · rw [w9 12 (by omega) (by omega) (by omega) (by omega) (by omega)]; exact hC1.2.2.2.2.1
    · rw [w9 13 (by omega) (by omega) (by omega) (by omega) (by omega)]; exact hC1.2.2.2.2.2.1
    · rw [w9 14 (by omega) (by omega) (by omega) (by omega) (by omega)]; exact hC1.2.2.2.2.2.2.1
    · rw [w9 15 (by omega) (by omega) (by omega) (by omega) (by omega)]; exact hC1.2.2.2.2.2.2.2.1
    · rw [w9 16 (by omega) (by omega) (by omega) (by omega) (by omega)]; exact hC1.2.2.2.2.2.2.2.2
  · intro i hi
    have hi : i < m := hi
    obtain ⟨j, x1, x2⟩ := a6 i (by omega) hi
    refine ⟨j, x1, ?_⟩
    show P'[j]? = some (kcl (if i < m then kb (pg (11 + 4 * i)) else r 1 i))
    rw [if_pos hi]; exact x2
/-- between two acts: the class holds the table r, the law's cells hold it too -/
def St (s : Nat → Nat → Int32) (q : Nat → Nat → Option Nat) (P : List Nat) (r : Nat → Nat → Nat) : Prop :=
  Ct s q P 6 r ∧ Ok r ∧ Lw s r ∧ 2 ≤ r 0 0 ∧ r 10 0 = 0 ∧ s 4 1 = nI 0 ∧ ∃ pg : Nat → Nat, (∀ i, s 5 i = nI (pg i)) ∧ ∀ i, pg i < 127
/-- ahead of a court: the page is blank -/
def Bl (s : Nat → Nat → Int32) (q : Nat → Nat → Option Nat) (P : List Nat) (r : Nat → Nat → Nat) : Prop :=
  Ct s q P 6 r ∧ Ok r ∧ s 4 1 = nI 0 ∧ ∃ pg : Nat → Nat, (∀ i, s 5 i = nI (pg i)) ∧ ∀ i, pg i < 127
theorem St.bl (h : St s q P r) : Bl s q P r := ⟨h.1, h.2.1, h.2.2.2.2.2.1, h.2.2.2.2.2.2⟩
theorem Bl_0 : Bl (fun _ _ => 0) (fun _ _ => none) [] (fun _ _ => 0) :=
  ⟨⟨⟨rfl, rfl, rfl, rfl, rfl⟩, ⟨fun _ => rfl, fun _ => rfl, fun _ => rfl, fun _ => rfl, fun _ => rfl, fun _ => rfl, fun _ => rfl, fun _ => rfl, fun _ => rfl⟩, fun i hi => absurd hi (Nat.not_lt_zero _)⟩,
   ⟨Or.inl rfl, fun _ => Nat.succ_pos _, fun _ => Nat.succ_pos _, fun _ => Nat.succ_pos _, fun _ => Nat.succ_pos _, by decide, by decide, by decide, fun i hi => absurd hi (Nat.not_lt_zero _), by decide, fun _ => Nat.succ_pos _, fun _ => Nat.succ_pos _, fun _ => Nat.succ_pos _, fun _ => Nat.succ_pos _⟩, rfl, fun _ => 0, fun _ => rfl, fun _ => Nat.succ_pos _⟩
theorem mod_ge2 (x : Nat) : 2 ≤ 2 + x % 4 ∧ 2 + x % 4 ≤ 5 := by omega
theorem court_ok {x y z : Nat} (hx : x < 2147483648) (hyy : y < 2147483648) (hz : z < 2147483648) (h : Bl s q P r) :
    ∃ s1 q1 P1 r1, F_L_court 3 (nI x) (nI y) (nI z) 39 (hp s l q P) = some (1, hp s1 l q1 P1) ∧ St s1 q1 P1 r1 ∧ r1 6 0 = 0 := by
  obtain ⟨hC, hO, h4, pg0, h50, hpg0⟩ := h
  obtain ⟨hm2, hm5⟩ := mod_ge2 x
  have hmx := md4 hx
  -- the four counts
  have hS : ∃ g : Nat → Int32, g 0 = nI (2 + x % 4) ∧ g 1 = 0 ∧ g 2 = 0 ∧ g 3 = 0 ∧ F_L_court 3 (nI x) (nI y) (nI z) 39 (hp s l q P) = F_L_court_B30 3 (nI x) (nI y) (nI z) 39 200 1 (nI 0) (hp (us s 39 g) l q P) := by
    refine ⟨upd (upd (upd (upd (s 39) 0 (nI (2 + x % 4))) 1 0) 2 0) 3 0, ?_, ?_, ?_, ?_, ?_⟩
    · rw [upd_n _ (by omega), upd_n _ (by omega), upd_n _ (by omega), upd_s]
    · rw [upd_n _ (by omega), upd_n _ (by omega), upd_s]
    · rw [upd_n _ (by omega), upd_s]
    · rw [upd_s]
    · unfold F_L_court
      simp only [d4, hmx, p2a, sw, sbd, us_us, us_self]
      rfl
  obtain ⟨g, k0, k1, k2, k3, kF⟩ := hS
  revert hm2 hm5 k0
  generalize 2 + x % 4 = m
  intro hm2 hm5 k0
  have hq : Cq (us s 39 g) q P r (tx x y z) 0 := ⟨hC, hO, h4, pg0, h50, hpg0, fun i hi => absurd hi (Nat.not_lt_zero _)⟩
  obtain ⟨s1, a1, a2, a3, a4⟩ := w_loop (l := l) (x := x) (y := y) hz 10 0 200 (us s 39 g) rfl (by omega) hq (fun j hj => absurd hj (Nat.not_lt_zero _))
  have c0 : s1 39 0 = nI m := by rw [a3 0 (by omega), us_self]; exact k0
  obtain ⟨s2, f', b1, b2, b3, b4⟩ := p_loop (l := l) hx hyy hm5 m 0 200 s1 (by omega) (by omega) a1 c0 (fun j hj => absurd hj (Nat.not_lt_zero _))
  rw [if_neg (by omega)] at b1
  obtain ⟨hC2, hO2, h42, pg, h5, hp1, hpt⟩ := b1
  have c02 : s2 39 0 = nI m := by rw [b3 0 (by omega)]; exact c0
  have hfw : fwr pg (10 + 4 * m) 0 = 10 + 4 * m := by
    rw [fwr_fit pg (10 + 4 * m) 0 (fun j _ hj => by rw [hpt j (by omega)]; exact tx_fit x y z (by omega))]
    omega
  have hI : isC pg (10 + 4 * m) = true := decide_eq_true ⟨hfw, by omega, by omega⟩
  have hF := c_fault (l := l) (q := q) (P := P) h42 h5 hp1 (show 10 + 4 * m ≤ 34 by omega)
  rw [hfw] at hF
  obtain ⟨s3, q3, P3, e1, e2, e3, e4, e5, e6⟩ := c_court (l := l) hC2 hO2 h42 h5 hp1 (by omega) hI (show (10 + 4 * m - 10) / 4 = m by omega)
  have c03 : s3 39 0 = nI m := by rw [e6]; exact c02
  have m4 : (10 : Int32) + 4 * nI m = nI (10 + 4 * m) := by
    show nI 10 + nI 4 * nI m = _
    rw [n_mul, nI_add]
  refine ⟨s3, q3, P3, ctR r pg m, ?_, ⟨e2, e3, ⟨⟨c03, ?_, ?_, ?_⟩, ?_, ?_, fun i hi => absurd hi (Nat.not_lt_zero _)⟩, hm2, rfl, e4, pg, e5, hp1⟩, rfl⟩
  · have b4' : F_L_court_B115 3 (nI x) (nI y) 39 200 1 0 (hp s1 l q P) = F_L_court_B115 3 (nI x) (nI y) 39 (f' + 1) 1 (nI m) (hp s2 l q P) := b4
    rw [kF, a4, b4', F_L_court_B115]
    simp only [gw, c02, sbd, if_neg (show ¬ nI m < nI m from nI_nlt (Nat.le_refl _) (by omega)), if_neg z1, G_ko, hF, m4, e1, bd2_s, c03, reduceIte]
  · show s3 39 1 = nI 0
    rw [e6, b3 1 (by omega), a3 1 (by omega), us_self, k1]; rfl
  · show s3 39 2 = nI 0
    rw [e6, b3 2 (by omega), a3 2 (by omega), us_self, k2]; rfl
  · show s3 39 3 = nI 0
    rw [e6, b3 3 (by omega), a3 3 (by omega), us_self, k3]; rfl
  · intro i hi
    show s3 39 (4 + i) = nI (if i < 10 then pg i - 48 else r 4 i)
    rw [if_pos hi, e6, b3 _ (by omega), a2 i hi, hpt i (by omega), tx_w hi]
    congr 1; omega
  · intro p hp
    have hp : p < m := hp
    have w := b2 p hp
    have hk := kb_lt5 _ (kx_lt x p)
    rw [e6]
    refine ⟨?_, ?_, ?_⟩
    · show s2 39 (14 + 3 * p) = nI (if p < m then kb (pg (11 + 4 * p)) else r 1 p)
      rw [if_pos hp, w.1, hpt _ (by omega), tx_k, hk]
    · show s2 39 (15 + 3 * p) = nI (if p < m then pg (12 + 4 * p) - 48 else r 2 p)
      rw [if_pos hp, w.2.1, hpt _ (by omega), tx_h]
      congr 1; omega
    · show s2 39 (16 + 3 * p) = nI (if p < m then pg (13 + 4 * p) - 48 else r 3 p)
      rw [if_pos hp, w.2.2, hpt _ (by omega), tx_t]
      congr 1; omega
end CV
