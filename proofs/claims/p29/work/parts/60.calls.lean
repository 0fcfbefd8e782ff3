/-! THE CLASS'S CALLS, one by one, over the table r -/
section CB
variable {s s' : Nat → Nat → Int32} {l l' : Nat → Nat → Int64} {q : Nat → Nat → Option Nat} {P : List Nat} {r : Nat → Nat → Nat} {n : Nat}
theorem z1 : ¬ (1 : Int32) = 0 := by decide
theorem c_letter {ch : Nat} (e1 : s 4 1 = nI n) (g : n < 34) (h1 : 32 ≤ ch) (h2 : ch ≤ 126) : F_X11_letter 3 (nI ch) (hp s l q P) = some (nI (n + 1), hp (us (us s 5 (upd (s 5) n (nI ch))) 4 (upd (s 4) 1 (nI (n + 1)))) l q P) := by
  have hw : wi (nI ch) 32 126 = 1 := wi_one (lo := 32) (hi := 126) h1 h2 (by omega)
  have c34 : nI n < 34 := nI_lt (b := 34) g (by omega)
  have k1 := ch_1 ch (by omega)
  have u1 : ∀ f, us s 5 f 4 1 = nI n := fun _ => e1
  unfold F_X11_letter
  simp only [X11_within, X11_isTile, X11_isHour, sbd, hw, if_neg z1, G_gR, G_gI, G_sI, G_sa, g, e1, if_pos c34, k1, u1, nI_1, u_up]
  rfl
theorem c_fault {pg : Nat → Nat} (h4 : s 4 1 = nI n) (h5 : ∀ i, s 5 i = nI (pg i)) (hp1 : ∀ i, pg i < 127) (hn : n ≤ 34) : F_X11_fault 3 (hp s l q P) = some (nI (fwr pg n 0)) := by
  have hw := fw_ok (l := l) (q := q) (P := P) h4 h5 hp1 hn
  unfold F_X11_fault
  simp only [G_gR, G_ko, sbd, hw]
theorem c_settle (h : Ct s q P 6 r) : F_X11_settle 3 (hp s l q P) = some (nI (r 7 0), hp (us s 6 (upd (s 6) 7 0)) l q P) := by
  have e1 : s 6 7 = nI (r 7 0) := h.1.2.2.2.1
  unfold F_X11_settle
  simp only [G_gR, G_gI, G_sI, sbd, e1]
theorem c_stand (h : Ct s q P 6 r) (hO : Ok r) {p t : Nat} (hp1 : p < r 0 0) (ht : t < 10) : F_X11_stand 3 (nI p) (nI t) (hp s l q P) = some (nI (r 3 p), hp (us s 9 (upd (s 9) p (nI t))) l q P) := by
  have n5 := hO.n5
  have p5 : p < 5 := by omega
  have e1 : s 9 p = nI (r 3 p) := h.2.1.2.1 p
  have hw : wi (nI t) 0 9 = 1 := wi_one (lo := 0) (hi := 9) (by omega) (by omega) (by omega)
  unfold F_X11_stand
  simp only [G_gR, G_ko, G_ga, G_sa, p5, sbd, has_1 h hO hp1, if_neg z1, X11_isTile, hw, e1, nr]
theorem c_stand_p {a1 a2 : Int32} (h : Ct s q P 6 r) (hO : Ok r) (g : ∀ p, p < r 0 0 → a1 ≠ nI p) : F_X11_stand 3 a1 a2 (hp s l q P) = some (-101, hp s l q P) := by
  unfold F_X11_stand
  simp only [G_gR, G_ko, sbd, has_0 h hO g, reduceIte]
theorem c_stand_t {p : Nat} {a2 : Int32} (h : Ct s q P 6 r) (hO : Ok r) (hp1 : p < r 0 0) (hw : wi a2 0 9 = 0) : F_X11_stand 3 (nI p) a2 (hp s l q P) = some (-101, hp s l q P) := by
  unfold F_X11_stand
  simp only [G_gR, G_ko, sbd, has_1 h hO hp1, if_neg z1, X11_isTile, hw, reduceIte]
theorem c_rise (h : Ct s q P 6 r) (hO : Ok r) {p t : Nat} (hp1 : p < r 0 0) (h1 : 1 ≤ t) (ht : t < 10) : F_X11_rise 3 (nI p) (nI t) (hp s l q P) = some (nI (r 2 p), hp (us s 8 (upd (s 8) p (nI t))) l q P) := by
  have n5 := hO.n5
  have p5 : p < 5 := by omega
  have e1 : s 8 p = nI (r 2 p) := h.2.1.1 p
  have hw : wi (nI t) 1 9 = 1 := wi_one (lo := 1) (hi := 9) (by omega) (by omega) (by omega)
  unfold F_X11_rise
  simp only [G_gR, G_ko, G_ga, G_sa, p5, sbd, has_1 h hO hp1, if_neg z1, X11_within, hw, e1, nr]
theorem c_rise_p {a1 a2 : Int32} (h : Ct s q P 6 r) (hO : Ok r) (g : ∀ p, p < r 0 0 → a1 ≠ nI p) : F_X11_rise 3 a1 a2 (hp s l q P) = some (-101, hp s l q P) := by
  unfold F_X11_rise
  simp only [G_gR, G_ko, sbd, has_0 h hO g, reduceIte]
theorem c_rise_h {p : Nat} {a2 : Int32} (h : Ct s q P 6 r) (hO : Ok r) (hp1 : p < r 0 0) (hw : wi a2 1 9 = 0) : F_X11_rise 3 (nI p) a2 (hp s l q P) = some (-102, hp s l q P) := by
  unfold F_X11_rise
  simp only [G_gR, G_ko, sbd, has_1 h hO hp1, if_neg z1, X11_within, hw, reduceIte]
theorem c_step (h : Ct s q P 6 r) (hO : Ok r) {p t : Nat} {a2 : Int32} (hp1 : p < r 0 0) (g2 : a2 = 1 ∨ a2 = -1) (ht : t < 10) (h2 : nI (r 3 p) + a2 = nI t) : F_X11_step 3 (nI p) a2 (hp s l q P) = some (nI t, hp (us s 9 (upd (s 9) p (nI t))) l q P) := by
  have n5 := hO.n5
  have p5 : p < 5 := by omega
  have e1 : s 9 p = nI (r 3 p) := h.2.1.2.1 p
  have hw : wi (nI t) 0 9 = 1 := wi_one (lo := 0) (hi := 9) (by omega) (by omega) (by omega)
  have hB : F_X11_step_B27 3 (nI p) a2 (hp s l q P) = some (nI t, hp (us s 9 (upd (s 9) p (nI t))) l q P) := by
    unfold F_X11_step_B27
    simp only [G_gR, G_ga, G_sa, p5, sbd, e1, nm, h2, X11_isTile, hw, if_neg z1, nr]
  unfold F_X11_step
  simp only [G_gR, G_ko, sbd, has_1 h hO hp1, if_neg z1, hB]
  rcases g2 with rfl | rfl
  · rw [if_neg (by decide), if_pos rfl]
  · rw [if_pos rfl]
theorem c_step_w (h : Ct s q P 6 r) (hO : Ok r) {p : Nat} {a2 : Int32} (hp1 : p < r 0 0) (g2 : a2 = 1 ∨ a2 = -1) (h2 : wi (nI (r 3 p) + a2) 0 9 = 0) : F_X11_step 3 (nI p) a2 (hp s l q P) = some (-103, hp s l q P) := by
  have n5 := hO.n5
  have p5 : p < 5 := by omega
  have e1 : s 9 p = nI (r 3 p) := h.2.1.2.1 p
  have hB : F_X11_step_B27 3 (nI p) a2 (hp s l q P) = some (-103, hp s l q P) := by
    unfold F_X11_step_B27
    simp only [G_gR, G_ga, p5, sbd, e1, nm, X11_isTile, h2, reduceIte]
  unfold F_X11_step
  simp only [G_gR, G_ko, sbd, has_1 h hO hp1, if_neg z1, hB]
  rcases g2 with rfl | rfl
  · rw [if_neg (by decide), if_pos rfl]
  · rw [if_pos rfl]
theorem c_step_p {a1 a2 : Int32} (h : Ct s q P 6 r) (hO : Ok r) (g : ∀ p, p < r 0 0 → a1 ≠ nI p) : F_X11_step 3 a1 a2 (hp s l q P) = some (-101, hp s l q P) := by
  unfold F_X11_step
  simp only [G_gR, G_ko, sbd, has_0 h hO g, reduceIte]
theorem c_step_b {p : Nat} {a2 : Int32} (h : Ct s q P 6 r) (hO : Ok r) (hp1 : p < r 0 0) (g3 : ¬ a2 = 1) (g4 : ¬ a2 = -1) : F_X11_step 3 (nI p) a2 (hp s l q P) = some (-102, hp s l q P) := by
  unfold F_X11_step
  simp only [G_gR, G_ko, sbd, has_1 h hO hp1, if_neg z1, if_neg g3, if_neg g4]
theorem c_covers (h : Ct s q P 6 r) (hO : Ok r) {p e : Nat} (hp1 : p < r 0 0) (he : e < 13) : F_X11_covers 3 (nI p) (nI e) (hp s l q P) = some (nI (cv r p e)) := by
  have hw : wi (nI e) 0 12 = 1 := wi_one (lo := 0) (hi := 12) (by omega) (by omega) (by omega)
  unfold F_X11_covers
  simp only [G_gR, G_ko, sbd, has_1 h hO hp1, if_neg z1, X11_isHour, hw, rz1, shade_ok h hO hp1 he]
theorem c_covers_p {a1 a2 : Int32} (h : Ct s q P 6 r) (hO : Ok r) (g : ∀ p, p < r 0 0 → a1 ≠ nI p) : F_X11_covers 3 a1 a2 (hp s l q P) = some (-101) := by
  unfold F_X11_covers
  simp only [G_gR, G_ko, sbd, has_0 h hO g, reduceIte]
theorem c_covers_h {p : Nat} {a2 : Int32} (h : Ct s q P 6 r) (hO : Ok r) (hp1 : p < r 0 0) (hw : wi a2 0 12 = 0) : F_X11_covers 3 (nI p) a2 (hp s l q P) = some (-102) := by
  unfold F_X11_covers
  simp only [G_gR, G_ko, sbd, has_1 h hO hp1, if_neg z1, X11_isHour, hw, rz0, reduceIte]
theorem c_found (h : Ct s q P 6 r) (hO : Ok r) {x y e : Nat} (hx : x < r 0 0) (hy : y < r 0 0) (hxy : x ≠ y) (he : e < 13) : F_X11_found 3 (nI x) (nI y) (nI e) (hp s l q P) = some (wI (bal r x y e) + 100) := by
  have hw : wi (nI e) 0 12 = 1 := wi_one (lo := 0) (hi := 12) (by omega) (by omega) (by omega)
  unfold F_X11_found
  simp only [G_gR, G_ko, sbd, two_1 h hO hx hy hxy, if_neg z1, X11_isHour, hw, rz1, balance_ok h hO hx hy he]
theorem c_found_p {a1 a2 a3 : Int32} (h : Ct s q P 6 r) (hO : Ok r) (g : ∀ x y, x < r 0 0 → y < r 0 0 → x ≠ y → ¬ (a1 = nI x ∧ a2 = nI y)) : F_X11_found 3 a1 a2 a3 (hp s l q P) = some (-101) := by
  unfold F_X11_found
  simp only [G_gR, G_ko, sbd, two_0 h hO g, reduceIte]
theorem c_found_h {x y : Nat} {a3 : Int32} (h : Ct s q P 6 r) (hO : Ok r) (hx : x < r 0 0) (hy : y < r 0 0) (hxy : x ≠ y) (hw : wi a3 0 12 = 0) : F_X11_found 3 (nI x) (nI y) a3 (hp s l q P) = some (-102) := by
  unfold F_X11_found
  simp only [G_gR, G_ko, sbd, two_1 h hO hx hy hxy, if_neg z1, X11_isHour, hw, rz0, reduceIte]
theorem hT0 {a : Int32} (h : Ct s q P 6 r) (hO : Ok r) (h0 : 0 < r 0 0) (hw : wi a 0 9 = 0) : F_X1_hasTile 6 a (hp s l q P) = some 0 := by
  unfold F_X1_hasTile
  simp only [G_ko, sbd, none_ok h hO, if_neg (show ¬ r 0 0 = 0 by omega), X11_isTile, hw, reduceIte]
theorem hT1 {a : Int32} (h : Ct s q P 6 r) (hO : Ok r) (h0 : 0 < r 0 0) (hw : wi a 0 9 = 1) : F_X1_hasTile 6 a (hp s l q P) = some 1 := by
  unfold F_X1_hasTile
  simp only [G_ko, sbd, none_ok h hO, if_neg (show ¬ r 0 0 = 0 by omega), X11_isTile, hw, if_neg z1, reduceIte]
theorem c_lay (h : Ct s q P 6 r) (hO : Ok r) {t w : Nat} (h0 : 0 < r 0 0) (ht : t < 10) (hw : w < 10) : F_X11_lay 3 (nI t) (nI w) (hp s l q P) = some (nI (r 4 t), hp (us s 10 (upd (s 10) t (nI w))) l q P) := by
  have w1 : wi (nI t) 0 9 = 1 := wi_one (lo := 0) (hi := 9) (by omega) (by omega) (by omega)
  have w2 : wi (nI w) 0 9 = 1 := wi_one (lo := 0) (hi := 9) (by omega) (by omega) (by omega)
  have e1 : s 10 t = nI (r 4 t) := h.2.1.2.2.1 t
  unfold F_X11_lay
  simp only [G_gR, G_ko, G_ga, G_sa, ht, sbd, hT1 h hO h0 w1, if_neg z1, X11_within, w2, e1, nr]
theorem c_lay_t {a1 a2 : Int32} (h : Ct s q P 6 r) (hO : Ok r) (h0 : 0 < r 0 0) (hw : wi a1 0 9 = 0) : F_X11_lay 3 a1 a2 (hp s l q P) = some (-101, hp s l q P) := by
  unfold F_X11_lay
  simp only [G_gR, G_ko, sbd, hT0 h hO h0 hw, reduceIte]
theorem c_lay_w {a1 a2 : Int32} (h : Ct s q P 6 r) (hO : Ok r) (h0 : 0 < r 0 0) (hw : wi a1 0 9 = 1) (hw2 : wi a2 0 9 = 0) : F_X11_lay 3 a1 a2 (hp s l q P) = some (-102, hp s l q P) := by
  unfold F_X11_lay
  simp only [G_gR, G_ko, sbd, hT1 h hO h0 hw, if_neg z1, X11_within, hw2, reduceIte]
theorem c_tile (h : Ct s q P 6 r) (hO : Ok r) {t : Nat} (h0 : 0 < r 0 0) (ht : t < 10) : F_X11_tile 3 (nI t) 0 (hp s l q P) = some (nI (r 4 t)) ∧ F_X11_tile 3 (nI t) 1 (hp s l q P) = some (nI (onT r t)) ∧ F_X11_tile 3 (nI t) 2 (hp s l q P) = some (nI (covT r t)) := by
  have w1 : wi (nI t) 0 9 = 1 := wi_one (lo := 0) (hi := 9) (by omega) (by omega) (by omega)
  have e1 : s 10 t = nI (r 4 t) := h.2.1.2.2.1 t
  refine ⟨?_, ?_, ?_⟩
  · unfold F_X11_tile
    simp only [G_gR, G_ko, G_ga, ht, sbd, hT1 h hO h0 w1, if_neg z1, e1]
    rfl
  · unfold F_X11_tile
    simp only [G_gR, G_ko, G_ga, ht, sbd, hT1 h hO h0 w1, if_neg z1, standing_ok h hO ht]
    rfl
  · unfold F_X11_tile
    simp only [G_gR, G_ko, G_ga, ht, sbd, hT1 h hO h0 w1, if_neg z1, covering_ok h hO ht]
    rfl
theorem c_tile_t {a1 a2 : Int32} (h : Ct s q P 6 r) (hO : Ok r) (h0 : 0 < r 0 0) (hw : wi a1 0 9 = 0) : F_X11_tile 3 a1 a2 (hp s l q P) = some (-101) := by
  unfold F_X11_tile
  simp only [G_gR, G_ko, sbd, hT0 h hO h0 hw, reduceIte]
theorem c_tile_w {a1 : Int32} (h : Ct s q P 6 r) (hO : Ok r) (h0 : 0 < r 0 0) (hw : wi a1 0 9 = 1) : F_X11_tile 3 a1 3 (hp s l q P) = some (-102) := by
  unfold F_X11_tile
  simp only [G_gR, G_ko, sbd, hT1 h hO h0 hw, if_neg z1]
  rfl
theorem c_as (h : Ct s q P 6 r) (hO : Ok r) {p w : Nat} (hp1 : p < r 0 0) (hw : w < 5) : F_X11_as 3 (nI p) (nI w) (hp s l q P) = some (if asB (r 1 p) w = true then nI p else -1) := by
  have n5 := hO.n5
  have p5 : p < 5 := by omega
  have hk5 := hO.2.1 p
  obtain ⟨a, hq, hk⟩ := kd (l := l) h hp1
  unfold F_X11_as
  simp only [G_gR, G_ko, G_gq, p5, sbd, has_1 h hO hp1, if_neg z1, hq, hk]
  revert hk5
  generalize r 1 p = kk
  intro hk5
  rcases (by omega : kk = 0 ∨ kk = 1 ∨ kk = 2 ∨ kk = 3 ∨ kk = 4) with rfl | rfl | rfl | rfl | rfl <;>
    rcases (by omega : w = 0 ∨ w = 1 ∨ w = 2 ∨ w = 3 ∨ w = 4) with rfl | rfl | rfl | rfl | rfl <;> rfl
theorem c_as_p {a1 a2 : Int32} (h : Ct s q P 6 r) (hO : Ok r) (g : ∀ p, p < r 0 0 → a1 ≠ nI p) : F_X11_as 3 a1 a2 (hp s l q P) = some (-101) := by
  unfold F_X11_as
  simp only [G_gR, G_ko, sbd, has_0 h hO g, reduceIte]
theorem c_as_5 {p : Nat} (h : Ct s q P 6 r) (hO : Ok r) (hp1 : p < r 0 0) : F_X11_as 3 (nI p) 5 (hp s l q P) = some (-102) := by
  unfold F_X11_as
  simp only [G_gR, G_ko, sbd, has_1 h hO hp1, if_neg z1]
  rfl
/-- what party answers of 0 .. 5 -/
def ptV (r : Nat → Nat → Nat) (p w : Nat) : Int32 :=
  if w = 0 then nI (r 1 p) else if w = 1 then nI (r 2 p) else if w = 2 then nI (r 3 p) else if w = 3 then nI (cv r p (r 5 0)) else if w = 4 then nI (Ws (r 4) (cv r p (r 5 0))) else nI (hts r p)
theorem c_party (hC : Ct s q P 6 r) (hO : Ok r) {p w : Nat} (hp1 : p < r 0 0) (hw : w < 6) : F_X11_party 3 (nI p) (nI w) (hp s l q P) = some (ptV r p w, hp s l q P) := by
  have n5 := hO.n5
  have z : ¬ (1 : Int32) = 0 := by decide
  have p5 : p < 5 := by omega
  have he : r 5 0 < 13 := hO.2.2.2.2.2.1
  have hl := cv_lt hO p he
  have hk5 := hO.2.1 p
  have e2 : s 8 p = nI (r 2 p) := hC.2.1.1 p
  have e3 : s 9 p = nI (r 3 p) := hC.2.1.2.1 p
  have e5 : s 6 5 = nI (r 5 0) := hC.1.2.1
  obtain ⟨a, hq, -, -, hk⟩ := kd (l := l) hC hp1
  rw [kcn_kcl _ hk5] at hk
  have hh := heights_ok (l := l) hC hO hp1
  have hs := shade_ok (l := l) hC hO hp1 he
  have hw2 := worthOf_ok (l := l) hC (show cv r p (r 5 0) < 2147483648 by omega)
  rcases (by omega : w = 0 ∨ w = 1 ∨ w = 2 ∨ w = 3 ∨ w = 4 ∨ w = 5) with rfl | rfl | rfl | rfl | rfl | rfl
  · unfold F_X11_party
    simp only [G_gR, G_ko, G_gq, p5, sbd, has_1 hC hO hp1, if_neg z, hq, hk]
    rw [if_pos (show nI 0 = 0 from rfl)]
    rfl
  · unfold F_X11_party
    simp only [G_gR, G_ko, G_ga, p5, sbd, has_1 hC hO hp1, if_neg z, e2]
    rfl
  · unfold F_X11_party
    simp only [G_gR, G_ko, G_ga, p5, sbd, has_1 hC hO hp1, if_neg z, e3]
    rfl
  · unfold F_X11_party
    simp only [G_gR, G_gI, G_ko, G_ga, p5, sbd, has_1 hC hO hp1, if_neg z, e5, hs]
    rfl
  · unfold F_X11_party
    simp only [G_gR, G_gI, G_ko, G_ga, p5, sbd, has_1 hC hO hp1, if_neg z, e5, hs, hw2]
    rfl
  · unfold F_X11_party
    simp only [G_gR, G_gI, G_ko, G_ga, p5, sbd, has_1 hC hO hp1, if_neg z, hh]
    rfl
theorem c_party_p {a1 a2 : Int32} (h : Ct s q P 6 r) (hO : Ok r) (g : ∀ p, p < r 0 0 → a1 ≠ nI p) : F_X11_party 3 a1 a2 (hp s l q P) = some (-101, hp s l q P) := by
  unfold F_X11_party
  simp only [G_gR, G_ko, sbd, has_0 h hO g, reduceIte]
theorem c_party_7 {p : Nat} (h : Ct s q P 6 r) (hO : Ok r) (hp1 : p < r 0 0) : F_X11_party 3 (nI p) 7 (hp s l q P) = some (-102, hp s l q P) := by
  unfold F_X11_party
  simp only [G_gR, G_ko, sbd, has_1 h hO hp1, if_neg z1]
  rfl
theorem c_file (h : Ct s q P 6 r) (hO : Ok r) {x y : Nat} (hx : x < r 0 0) (hy : y < r 0 0) (hxy : x ≠ y) (g5 : r 7 0 < 5) : F_X11_file 3 (nI x) (nI y) (hp s l q P) = some (nI (r 7 0 + 1), hp (us (us (us s 11 (upd (s 11) (r 7 0) (nI x))) 12 (upd (s 12) (r 7 0) (nI y))) 6 (upd (s 6) 7 (nI (r 7 0 + 1)))) l q P) := by
  have e1 : s 6 7 = nI (r 7 0) := h.1.2.2.2.1
  have lt5 : nI (r 7 0) < 5 := nI_lt (b := 5) g5 (by omega)
  have u1 : ∀ f, us s 11 f 6 7 = nI (r 7 0) := fun _ => e1
  have u2 : ∀ f h, us (us s 11 f) 12 h 6 7 = nI (r 7 0) := fun _ _ => e1
  unfold F_X11_file
  simp only [G_gR, G_gI, G_sI, G_sa, g5, G_ko, sbd, two_1 h hO hx hy hxy, if_neg z1, e1, if_pos lt5, u1, u2, u_up, nr, nI_1]
  rfl
theorem c_file_f (h : Ct s q P 6 r) (hO : Ok r) {x y : Nat} (hx : x < r 0 0) (hy : y < r 0 0) (hxy : x ≠ y) (g5 : r 7 0 = 5) : F_X11_file 3 (nI x) (nI y) (hp s l q P) = some (-104, hp s l q P) := by
  have e1 : s 6 7 = nI (r 7 0) := h.1.2.2.2.1
  rw [g5] at e1
  unfold F_X11_file
  simp only [G_gR, G_gI, G_ko, sbd, two_1 h hO hx hy hxy, if_neg z1, e1]
  rfl
theorem c_file_p {a1 a2 : Int32} (h : Ct s q P 6 r) (hO : Ok r) (g : ∀ x y, x < r 0 0 → y < r 0 0 → x ≠ y → ¬ (a1 = nI x ∧ a2 = nI y)) : F_X11_file 3 a1 a2 (hp s l q P) = some (-101, hp s l q P) := by
  unfold F_X11_file
  simp only [G_gR, G_ko, sbd, two_0 h hO g, reduceIte]
theorem c_tick1 (h : Ct s q P 6 r) (hO : Ok r) (h0 : 0 < r 0 0) (g1 : ¬ r 5 0 = 12) : F_X11_tick 3 (hp s l q P) = some (nI (r 5 0 + 1), hp (us s 6 (upd (s 6) 5 (nI (r 5 0 + 1)))) l q P) := by
  have hh : r 5 0 < 13 := hO.2.2.2.2.2.1
  have e5 : s 6 5 = nI (r 5 0) := h.1.2.1
  have g1' : ¬ nI (r 5 0) = 12 := by
    show ¬ nI (r 5 0) = nI 12
    rw [nI_eq (by omega) (by omega)]; exact g1
  unfold F_X11_tick F_X11_tick_B30 F_X11_tick_B52 F_X11_tick_B69
  simp only [G_gR, G_gI, G_sI, G_ko, sbd, none_ok h hO, if_neg (show ¬ r 0 0 = 0 by omega), reduceIte, e5, if_neg g1', nI_1, us_self, upd_s]
theorem c_tick2 (h : Ct s q P 6 r) (hO : Ok r) (h0 : 0 < r 0 0) (g1 : r 5 0 = 12) (g2 : r 6 0 < 99) : F_X11_tick 3 (hp s l q P) = some (0, hp (us s 6 (upd (upd (s 6) 6 (nI (r 6 0 + 1))) 5 0)) l q P) := by
  have e5 : s 6 5 = nI (r 5 0) := h.1.2.1
  have e6 : s 6 6 = nI (r 6 0) := h.1.2.2.1
  have c12 : nI (r 5 0) = 12 := by rw [g1]; rfl
  have c100 : nI (r 6 0 + 1) < 100 := nI_lt (b := 100) (by omega) (by omega)
  unfold F_X11_tick F_X11_tick_B30 F_X11_tick_B52 F_X11_tick_B69
  simp only [G_gR, G_gI, G_sI, G_ko, sbd, none_ok h hO, if_neg (show ¬ r 0 0 = 0 by omega), reduceIte, e5, e6, if_pos c12, if_neg z1, nI_1, if_pos c100, us_self, us_us, upd_s]
theorem c_terms_t {a1 a2 a3 : Int32} (h0 : wi a1 1 60 = 0) : F_X11_terms 3 a1 a2 a3 (hp s l q P) = some (-102, hp s l q P) := by
  unfold F_X11_terms
  simp only [X11_within, X11_isTile, X11_isHour, sbd, h0, reduceIte]
theorem c_terms_s {a1 a2 a3 : Int32} (h1 : wi a1 1 60 = 1) (g : a2 < 0) : F_X11_terms 3 a1 a2 a3 (hp s l q P) = some (-102, hp s l q P) := by
  unfold F_X11_terms
  simp only [X11_within, X11_isTile, X11_isHour, sbd, h1, if_neg z1, if_pos g]
theorem c_terms_w {a1 a2 a3 : Int32} (h1 : wi a1 1 60 = 1) (g : ¬ a2 < 0) (h0 : wi a3 0 2 = 0) : F_X11_terms 3 a1 a2 a3 (hp s l q P) = some (-102, hp s l q P) := by
  unfold F_X11_terms
  simp only [X11_within, X11_isTile, X11_isHour, sbd, h1, if_neg z1, if_neg g, h0, reduceIte]
theorem c_terms (h : Ct s q P 6 r) (hO : Ok r) {T j w : Nat} (hp2 : 2 ≤ r 0 0) (h1 : 1 ≤ T) (hT : T ≤ 60) (hj : j < 2147483648) (hw : w < 3) : ∃ s1 l1, Eo s s1 ∧ F_X11_terms 3 (nI T) (nI j) (nI w) (hp s l q P) = some (if w = 0 then nI (tmF r nx dr T j) else if w = 1 then nI (tmS r nx dr T j) else nI (tmN nx T j), hp s1 l1 q P) := by
  have w1 : wi (nI T) 1 60 = 1 := wi_one (lo := 1) (hi := 60) (by omega) (by omega) (by omega)
  have w2 : wi (nI w) 0 2 = 1 := wi_one (lo := 0) (hi := 2) (by omega) (by omega) (by omega)
  have g : ¬ nI j < 0 := nI_pos (by omega)
  obtain ⟨s1, l1, a1', a2', a3', a4', a5'⟩ := hold_ok (l := l) h hO hp2 hT hj
  rw [Nat.zero_add] at a3' a4'
  refine ⟨s1, l1, a1', ?_⟩
  unfold F_X11_terms
  simp only [X11_within, X11_isTile, X11_isHour, sbd, w1, if_neg z1, if_neg g, w2, G_gR, G_ko, none_ok h hO, if_neg (show ¬ r 0 0 = 0 by omega), reduceIte, a2']
  rcases (by omega : w = 0 ∨ w = 1 ∨ w = 2) with rfl | rfl | rfl
  · rw [if_pos (show nI 0 = 0 from rfl), if_pos rfl]
    simp only [G_gI, sbd, a3']
  · rw [if_neg (show ¬ nI 1 = 0 by decide), if_pos (show nI 1 = 1 from rfl), if_neg (show ¬ (1 : Nat) = 0 by decide), if_pos rfl]
    simp only [G_gI, sbd, a4']
  · rw [if_neg (show ¬ nI 2 = 0 by decide), if_neg (show ¬ nI 2 = 1 by decide), if_neg (show ¬ (2 : Nat) = 0 by decide), if_neg (show ¬ (2 : Nat) = 1 by decide)]
    simp only [G_gJ, sbd, a5', lN_i]
/-- what count answers of 0 .. 7 -/
theorem c_count (h : Ct s q P 6 r) (hO : Ok r) : F_X11_count 3 0 (hp s l q P) = some (nI (r 0 0)) ∧ F_X11_count 3 1 (hp s l q P) = some (nI (r 5 0)) ∧ F_X11_count 3 2 (hp s l q P) = some (nI (r 6 0)) ∧ F_X11_count 3 3 (hp s l q P) = some (nI (Ws (r 4) 1023)) ∧ F_X11_count 3 4 (hp s l q P) = some (nI (tcov r 1)) ∧ F_X11_count 3 5 (hp s l q P) = some (nI (tcov r 2)) ∧ F_X11_count 3 6 (hp s l q P) = some (nI (r 7 0)) ∧ F_X11_count 3 7 (hp s l q P) = some (nI (good r)) := by
  have e0 : s 6 0 = nI (r 0 0) := h.1.1
  have e1 : s 6 5 = nI (r 5 0) := h.1.2.1
  have e2 : s 6 6 = nI (r 6 0) := h.1.2.2.1
  have e6 : s 6 7 = nI (r 7 0) := h.1.2.2.2.1
  have e3 : F_X1_worthOf 6 1023 (hp s l q P) = some (nI (Ws (r 4) 1023)) := worthOf_ok (l := l) h (show 1023 < 2147483648 by omega)
  have e4 : F_X1_tilesCoveredBy 6 1 (hp s l q P) = some (nI (tcov r 1)) := tcov_ok (l := l) h hO (show 1 < 3 by omega)
  have e5 : F_X1_tilesCoveredBy 6 2 (hp s l q P) = some (nI (tcov r 2)) := tcov_ok (l := l) h hO (show 2 < 3 by omega)
  have e7 := good_ok (l := l) h hO
  unfold F_X11_count
  simp only [G_gR, G_gI, G_ko, sbd, e0, e1, e2, e3, e4, e5, e6, e7]
  exact ⟨rfl, rfl, rfl, rfl, rfl, rfl, rfl, rfl⟩
end CB
