/-! DIGEST: the class -/
def mxv (V : Nat → Int32) : Nat → Nat → Int64 → Int64
  | 0, _, h => h
  | n + 1, i, h => mxv V n (i + 1) (h * 31 + (V i).toInt64)
def wpV (r : Nat → Nat → Nat) (p : Nat) (h : Int64) : Int64 := (h * 31 + (nI (cv r p 3)).toInt64) * 31 + (nI (cv r p 10)).toInt64
def pts (r : Nat → Nat → Nat) : Nat → Nat → Int64 → Int64
  | 0, _, h => h
  | n + 1, p, h => pts r n (p + 1) (wpV r p (mxv (ptV r p) 7 0 h))
def tlV (r : Nat → Nat → Nat) (t w : Nat) : Int32 := if w = 0 then nI (r 4 t) else if w = 1 then nI (onT r t) else nI (covT r t)
def tvs (r : Nat → Nat → Nat) : Nat → Nat → Int64 → Int64
  | 0, _, h => h
  | n + 1, t, h => tvs r n (t + 1) (mxv (tlV r t) 3 0 h)
def fdV (r : Nat → Nat → Nat) (e : Nat) : Int32 := wI (bal r 0 1 e) + 100
def gmV (r : Nat → Nat → Nat) (w : Nat) : Int32 := if w = 0 then wI (gTot r 0 1 2 + 500) else nI (gStp r 0 1 2)
def odW (r : Nat → Nat → Nat) (w : Nat) : Int32 := odV r 0 1 4 3 w
def dcV (r : Nat → Nat → Nat) (h : Int64) : Int64 := mxv (dkI r) 5 0 (h * 31 + (nI (dkH r)).toInt64)
def gcV (r : Nat → Nat → Nat) (h : Int64) : Int64 := dcV r (mxv (odW r) 2 0 (mxv (gmV r) 2 0 h))
def crV (r : Nat → Nat → Nat) (h : Int64) : Int64 := gcV r (mxv (fdV r) 13 0 (tvs r 10 0 h))
def edV (r : Nat → Nat → Nat) (pg : Nat → Nat) (n c : Nat) (h : Int64) : Int64 := mxv (fun i => ctV r n c (nI i)) 11 0 (mxv (fun i => nI (pg i)) n 0 h)
def dgV (r : Nat → Nat → Nat) (pg : Nat → Nat) (n c : Nat) : Int64 := edV r pg n c (if r 0 0 = 0 then pts r (r 0 0) 0 1217 else crV r (pts r (r 0 0) 0 1217))
section DG
variable {l : Nat → Nat → Int64} {q : Nat → Nat → Option Nat} {P : List Nat} {r k : Nat → Nat → Nat} {pg : Nat → Nat} {n c : Nat} {b : Bool}
theorem covers_c {s : Nat → Nat → Int32} (hC : Ct s q P 6 r) (hO : Ok r) {p e : Nat} (hp1 : p < r 0 0) (he : e < 13) : F_X11_covers 3 (nI p) (nI e) (hp s l q P) = some (nI (cv r p e)) := by
  have z : ¬ (1 : Int32) = 0 := by decide
  have h1 : wi (nI e) 0 12 = 1 := wi_one (lo := 0) (hi := 12) (by omega) (by omega) (by omega)
  unfold F_X11_covers
  simp only [G_gR, G_ko, sbd, has_1 hC hO hp1, if_neg z, X11_within, X11_isTile, X11_isHour, h1, rz1, shade_ok hC hO hp1 he]
theorem wp_loop {K : Int64 → Int32 → abH → Option (Int64 × abH)} (hO : Ok r) {p : Nat} (hp1 : p < r 0 0) : ∀ (m i f : Nat) (h : Int64) (s : Nat → Nat → Int32), Ct s q P 6 r → i + m = 7 → m < f → ∃ s', Eo s s' ∧ F_X11_digest_B20 3 (nI p) K f h (nI i) (hp s l q P) = K (wpV r p (mxv (ptV r p) m i h)) (nI (p + 1)) (hp s' l q P)
  | _, _, 0, _, _, _, _, hf => absurd hf (by omega)
  | 0, i, f + 1, h, s, hC, hi, _ => by
    have e3 : F_X11_covers 3 (nI p) 3 (hp s l q P) = some (nI (cv r p 3)) := covers_c (e := 3) hC hO hp1 (by omega)
    have e10 : F_X11_covers 3 (nI p) 10 (hp s l q P) = some (nI (cv r p 10)) := covers_c (e := 10) hC hO hp1 (by omega)
    refine ⟨s, Eo.rfl, ?_⟩
    rw [F_X11_digest_B20, if_neg (show ¬ nI i ≤ 6 from nI_ge (a := 6) (by omega) (by omega))]
    simp only [G_ko, sbd, e3, e10, nm, nI_1]
    rfl
  | m + 1, i, f + 1, h, s, hC, hi, hf => by
    obtain ⟨g, e1⟩ := party_c (l := l) hC hO hp1 (show i < 7 by omega)
    have hE : Eo s (us s 29 g) := Eo.set 29 g (by omega)
    obtain ⟨s', a1, a2⟩ := wp_loop (K := K) hO hp1 m (i + 1) f (h * 31 + (ptV r p i).toInt64) (us s 29 g) (hC.eo (by omega) hE) (by omega) (by omega)
    refine ⟨s', hE.trans a1, ?_⟩
    rw [F_X11_digest_B20, if_pos (show nI i ≤ 6 from nI_le (b := 6) (by omega) (by omega)), mxv]
    simp only [G_ko, sbd, e1, bd2_s, nm, nI_1]
    exact a2
theorem tile_c {s : Nat → Nat → Int32} (hC : Ct s q P 6 r) (hM : Md s r) (hO : Ok r) (h0 : 0 < r 0 0) {t w : Nat} (ht : t < 10) (hw : w < 3) : F_X11_tile 3 (nI t) (nI w) (hp s l q P) = some (tlV r t w) := by
  have z : ¬ (1 : Int32) = 0 := by decide
  have hz := hT1 (l := l) hC hM hO h0 (show wi (nI t) 0 9 = 1 from wi_one (lo := 0) (hi := 9) (by omega) (by omega) (by omega))
  have e1 : s 10 t = nI (r 4 t) := hC.2.1.2.2.1 t
  unfold F_X11_tile tlV
  simp only [G_gR, G_ko, G_ga, ht, sbd, hz.1, if_neg z, e1, standing_ok hC hO ht, covering_ok hC hO ht]
  rcases (by omega : w = 0 ∨ w = 1 ∨ w = 2) with rfl | rfl | rfl
  · rw [if_pos (show nI 0 = 0 from rfl), if_pos rfl]
  · rw [if_neg (show ¬ nI 1 = 0 by decide), if_pos (show nI 1 = 1 from rfl), if_neg (show ¬ (1 : Nat) = 0 by decide), if_pos rfl]
  · rw [if_neg (show ¬ nI 2 = 0 by decide), if_neg (show ¬ nI 2 = 1 by decide), if_pos (show nI 2 = 2 from rfl), if_neg (show ¬ (2 : Nat) = 0 by decide), if_neg (show ¬ (2 : Nat) = 1 by decide)]
theorem found_c {s : Nat → Nat → Int32} (hC : Ct s q P 6 r) (hO : Ok r) (h0 : 2 ≤ r 0 0) {e : Nat} (he : e < 13) : F_X11_found 3 0 1 (nI e) (hp s l q P) = some (fdV r e) := by
  have z : ¬ (1 : Int32) = 0 := by decide
  have h1 : wi (nI e) 0 12 = 1 := wi_one (lo := 0) (hi := 12) (by omega) (by omega) (by omega)
  have h2 : F_X1_hasTwo 6 0 1 (hp s l q P) = some 1 := two_1 (a := 0) (b := 1) hC hO (by omega) (by omega) (by omega)
  have h3 : F_X1_balance 6 0 1 (nI e) (hp s l q P) = some (wI (bal r 0 1 e)) := balance_ok (a := 0) (b := 1) hC hO (by omega) (by omega) he
  unfold F_X11_found fdV
  simp only [G_gR, G_ko, sbd, h2, if_neg z, X11_within, X11_isTile, X11_isHour, h1, rz1, h3]
theorem game_c {s : Nat → Nat → Int32} (hC : Ct s q P 6 r) (hO : Ok r) (h0 : 2 ≤ r 0 0) {w : Nat} (hw : w < 2) : ∃ s', Eo s s' ∧ F_X11_game 3 0 1 2 (nI w) (hp s l q P) = some (gmV r w, hp s' l q P) := by
  have z : ¬ (1 : Int32) = 0 := by decide
  have h1 : wi (nI w) 0 1 = 1 := wi_one (lo := 0) (hi := 1) (by omega) (by omega) (by omega)
  have h2 : F_X1_hasTwo 6 0 1 (hp s l q P) = some 1 := two_1 (a := 0) (b := 1) hC hO (by omega) (by omega) (by omega)
  have h3 : wi 2 1 4 = 1 := rfl
  obtain ⟨s1, a1, a2, a3, a4⟩ := solve_ok (l := l) (a := 0) (b := 1) (n := 2) hC hO (by omega) (by omega) (by omega)
  have a2' : F_X3_solve 30 6 0 1 2 (hp s l q P) = some (hp s1 l q P) := a2
  refine ⟨s1, a1, ?_⟩
  unfold F_X11_game gmV
  simp only [G_gR, G_ko, G_gI, sbd, h2, if_neg z, X11_within, X11_isTile, X11_isHour, h3, h1, a2', a3, a4]
  rcases (by omega : w = 0 ∨ w = 1) with rfl | rfl
  · rw [if_pos (show nI 0 = 0 from rfl), if_pos rfl]
    show some (wI _ + wI 500, _) = _
    rw [wI_add]
  · rw [if_neg (show ¬ nI 1 = 0 by decide), if_neg (by omega)]
theorem odds_c {s : Nat → Nat → Int32} (hC : Ct s q P 6 r) (hO : Ok r) (h0 : 2 ≤ r 0 0) {w : Nat} (hw : w < 2) : F_X11_odds 3 0 1 4 3 (nI w) (hp s l q P) = some (odW r w) := by
  have z : ¬ (1 : Int32) = 0 := by decide
  have h1 : wi (nI w) 0 1 = 1 := wi_one (lo := 0) (hi := 1) (by omega) (by omega) (by omega)
  have h2 : F_X1_hasTwo 6 0 1 (hp s l q P) = some 1 := two_1 (a := 0) (b := 1) hC hO (by omega) (by omega) (by omega)
  have h3 : wi 4 1 6 = 1 := rfl
  have h4 : wi 3 0 10 = 1 := rfl
  have h5 : F_X11_odds_B61 3 0 1 4 3 (nI w) (hp s l q P) 200 0 1 1 0 = some (odV r 0 1 4 3 w) := odds_ok (a := 0) (b := 1) (N := 4) (t := 3) hC hO (by omega) (by omega) (by omega) (by omega) hw
  unfold F_X11_odds odW
  simp only [G_gR, G_ko, sbd, h2, if_neg z, X11_within, X11_isTile, X11_isHour, h3, h4, h1, h5]
theorem dg163 (hO : Ok r) (h0 : 0 < r 0 0) : ∀ (m i f : Nat) (h : Int64) (s : Nat → Nat → Int32), Ct s q P 6 r → i + m = 5 → m < f → ∃ s', Eo s s' ∧ F_X11_digest_B241 3 f h (nI (10 + i)) (hp s l q P) = F_X11_digest_B268 3 200 (mxv (dkI r) m i h) 0 (hp s' l q P)
  | _, _, 0, _, _, _, _, hf => absurd hf (by omega)
  | 0, i, f + 1, h, s, hC, hi, _ => by
    refine ⟨s, Eo.rfl, ?_⟩
    rw [F_X11_digest_B241, if_neg (show ¬ nI (10 + i) ≤ 14 from nI_ge (a := 14) (by omega) (by omega))]
    rfl
  | m + 1, i, f + 1, h, s, hC, hi, hf => by
    obtain ⟨s1, a1, a2⟩ := docket_c (l := l) hC hO h0 (w := 10 + i) (Or.inr (by omega))
    have e : dkV r (10 + i) = dkI r i := by
      unfold dkV
      rw [if_neg (by omega), Nat.add_sub_cancel_left]
    rw [e] at a2
    obtain ⟨s', b1, b2'⟩ := dg163 hO h0 m (i + 1) f (h * 31 + (dkI r i).toInt64) s1 (hC.eo (by omega) a1) (by omega) (by omega)
    refine ⟨s', a1.trans b1, ?_⟩
    rw [F_X11_digest_B241, if_pos (show nI (10 + i) ≤ 14 from nI_le (b := 14) (by omega) (by omega)), mxv]
    simp only [G_ko, sbd, a2, bd2_s, nm, nI_1]
    exact b2'
theorem dg116 (hO : Ok r) (h0 : 2 ≤ r 0 0) : ∀ (m i f : Nat) (h : Int64) (s : Nat → Nat → Int32), Ct s q P 6 r → i + m = 2 → m < f → ∃ s', Eo s s' ∧ F_X11_digest_B197 3 f h (nI i) (hp s l q P) = F_X11_digest_B268 3 200 (dcV r (mxv (odW r) m i h)) 0 (hp s' l q P)
  | _, _, 0, _, _, _, _, hf => absurd hf (by omega)
  | 0, i, f + 1, h, s, hC, hi, _ => by
    obtain ⟨s1, a1, a2⟩ := docket_c (l := l) hC hO (show 0 < r 0 0 by omega) (w := 0) (Or.inl rfl)
    have a2' : F_X11_docket 3 0 (hp s l q P) = some (nI (dkH r), hp s1 l q P) := a2
    obtain ⟨s', b1, b2'⟩ := dg163 (l := l) hO (show 0 < r 0 0 by omega) 5 0 200 (h * 31 + (nI (dkH r)).toInt64) s1 (hC.eo (by omega) a1) rfl (by omega)
    refine ⟨s', a1.trans b1, ?_⟩
    rw [F_X11_digest_B197, if_neg (show ¬ nI i ≤ 1 from nI_ge (a := 1) (by omega) (by omega))]
    simp only [G_ko, sbd, a2', bd2_s, nm]
    exact b2'
  | m + 1, i, f + 1, h, s, hC, hi, hf => by
    have a2 := odds_c (l := l) hC hO h0 (show i < 2 by omega)
    obtain ⟨s', b1, b2'⟩ := dg116 hO h0 m (i + 1) f (h * 31 + (odW r i).toInt64) s hC (by omega) (by omega)
    refine ⟨s', b1, ?_⟩
    rw [F_X11_digest_B197, if_pos (show nI i ≤ 1 from nI_le (b := 1) (by omega) (by omega)), mxv]
    simp only [G_ko, sbd, a2, nm, nI_1]
    exact b2'
theorem dg84 (hO : Ok r) (h0 : 2 ≤ r 0 0) : ∀ (m i f : Nat) (h : Int64) (s : Nat → Nat → Int32), Ct s q P 6 r → i + m = 2 → m < f → ∃ s', Eo s s' ∧ F_X11_digest_B168 3 f h (nI i) (hp s l q P) = F_X11_digest_B268 3 200 (dcV r (mxv (odW r) 2 0 (mxv (gmV r) m i h))) 0 (hp s' l q P)
  | _, _, 0, _, _, _, _, hf => absurd hf (by omega)
  | 0, i, f + 1, h, s, hC, hi, _ => by
    obtain ⟨s', b1, b2'⟩ := dg116 (l := l) hO h0 2 0 200 h s hC rfl (by omega)
    refine ⟨s', b1, ?_⟩
    rw [F_X11_digest_B168, if_neg (show ¬ nI i ≤ 1 from nI_ge (a := 1) (by omega) (by omega))]
    exact b2'
  | m + 1, i, f + 1, h, s, hC, hi, hf => by
    obtain ⟨s1, a1, a2⟩ := game_c (l := l) hC hO h0 (show i < 2 by omega)
    obtain ⟨s', b1, b2'⟩ := dg84 hO h0 m (i + 1) f (h * 31 + (gmV r i).toInt64) s1 (hC.eo (by omega) a1) (by omega) (by omega)
    refine ⟨s', a1.trans b1, ?_⟩
    rw [F_X11_digest_B168, if_pos (show nI i ≤ 1 from nI_le (b := 1) (by omega) (by omega)), mxv]
    simp only [G_ko, sbd, a2, bd2_s, nm, nI_1]
    exact b2'
theorem dg52 (hO : Ok r) (h0 : 2 ≤ r 0 0) : ∀ (m i f : Nat) (h : Int64) (s : Nat → Nat → Int32), Ct s q P 6 r → i + m = 13 → m < f → ∃ s', Eo s s' ∧ F_X11_digest_B139 3 f h (nI i) (hp s l q P) = F_X11_digest_B268 3 200 (gcV r (mxv (fdV r) m i h)) 0 (hp s' l q P)
  | _, _, 0, _, _, _, _, hf => absurd hf (by omega)
  | 0, i, f + 1, h, s, hC, hi, _ => by
    obtain ⟨s', b1, b2'⟩ := dg84 (l := l) hO h0 2 0 200 h s hC rfl (by omega)
    refine ⟨s', b1, ?_⟩
    rw [F_X11_digest_B139, if_neg (show ¬ nI i < 13 from nI_nlt (b := 13) (by omega) (by omega))]
    exact b2'
  | m + 1, i, f + 1, h, s, hC, hi, hf => by
    have a2 := found_c (l := l) hC hO h0 (show i < 13 by omega)
    obtain ⟨s', b1, b2'⟩ := dg52 hO h0 m (i + 1) f (h * 31 + (fdV r i).toInt64) s hC (by omega) (by omega)
    refine ⟨s', b1, ?_⟩
    rw [F_X11_digest_B139, if_pos (show nI i < 13 from nI_lt (b := 13) (by omega) (by omega)), mxv]
    simp only [G_ko, sbd, a2, nm, nI_1]
    exact b2'
theorem dg15 {s : Nat → Nat → Int32} {K : Int64 → Int32 → abH → Option (Int64 × abH)} (hC : Ct s q P 6 r) (hM : Md s r) (hO : Ok r) (h0 : 2 ≤ r 0 0) {t : Nat} (ht : t < 10) : ∀ (m i f : Nat) (h : Int64), i + m = 3 → m < f → F_X11_digest_B104 3 (nI t) K f h (nI i) (hp s l q P) = K (mxv (tlV r t) m i h) (nI (t + 1)) (hp s l q P)
  | _, _, 0, _, _, hf => absurd hf (by omega)
  | 0, i, f + 1, h, hi, _ => by
    rw [F_X11_digest_B104, if_neg (show ¬ nI i ≤ 2 from nI_ge (a := 2) (by omega) (by omega)), nI_1]
    rfl
  | m + 1, i, f + 1, h, hi, hf => by
    have a2 := tile_c (l := l) hC hM hO (show 0 < r 0 0 by omega) ht (show i < 3 by omega)
    have ih := dg15 (K := K) hC hM hO h0 ht m (i + 1) f (h * 31 + (tlV r t i).toInt64) (by omega) (by omega)
    rw [F_X11_digest_B104, if_pos (show nI i ≤ 2 from nI_le (b := 2) (by omega) (by omega)), mxv]
    simp only [G_ko, sbd, a2, nm, nI_1]
    exact ih
theorem dg5 {s : Nat → Nat → Int32} (hC : Ct s q P 6 r) (hM : Md s r) (hO : Ok r) (h0 : 2 ≤ r 0 0) : ∀ (m t f : Nat) (h : Int64), t + m = 10 → m < f → ∃ s', Eo s s' ∧ F_X11_digest_B95 3 f h (nI t) (hp s l q P) = F_X11_digest_B268 3 200 (gcV r (mxv (fdV r) 13 0 (tvs r m t h))) 0 (hp s' l q P)
  | _, _, 0, _, _, hf => absurd hf (by omega)
  | 0, t, f + 1, h, ht, _ => by
    obtain ⟨s', b1, b2'⟩ := dg52 (l := l) hO h0 13 0 200 h s hC rfl (by omega)
    refine ⟨s', b1, ?_⟩
    rw [F_X11_digest_B95, if_neg (show ¬ nI t < 10 from nI_nlt (b := 10) (by omega) (by omega))]
    exact b2'
  | m + 1, t, f + 1, h, ht, hf => by
    have a2 := dg15 (l := l) (K := fun u3 u5 hu => F_X11_digest_B95 3 f u3 u5 hu) hC hM hO h0 (show t < 10 by omega) 3 0 200 h rfl (by omega)
    obtain ⟨s', b1, b2'⟩ := dg5 hC hM hO h0 m (t + 1) f (mxv (tlV r t) 3 0 h) (by omega) (by omega)
    refine ⟨s', b1, ?_⟩
    rw [F_X11_digest_B95, if_pos (show nI t < 10 from nI_lt (b := 10) (by omega) (by omega))]
    exact a2.trans b2'
theorem dgc84 {s : Nat → Nat → Int32} (hC : Cs s q P r k pg n c b) (hO : Ok r) : ∀ (m i f : Nat) (h : Int64), i + m = 11 → m < f → F_X11_digest_B304 3 f h (nI i) (hp s l q P) = some (mxv (fun i => ctV r n c (nI i)) m i h, hp s l q P)
  | _, _, 0, _, _, hf => absurd hf (by omega)
  | 0, i, f + 1, h, hi, _ => by
    rw [F_X11_digest_B304, if_neg (show ¬ nI i ≤ 10 from nI_ge (a := 10) (by omega) (by omega))]
    rfl
  | m + 1, i, f + 1, h, hi, hf => by
    have a2 := count_c (l := l) hC hO (nI i)
    have ih := dgc84 hC hO m (i + 1) f (h * 31 + (ctV r n c (nI i)).toInt64) (by omega) (by omega)
    rw [F_X11_digest_B304, if_pos (show nI i ≤ 10 from nI_le (b := 10) (by omega) (by omega)), mxv]
    simp only [G_ko, sbd, a2, nm, nI_1]
    exact ih
theorem dgc48 {s : Nat → Nat → Int32} (hC : Cs s q P r k pg n c b) (hO : Ok r) (hn : n ≤ 34) : ∀ (m i f : Nat) (h : Int64), i + m = n → m < f → F_X11_digest_B268 3 f h (nI i) (hp s l q P) = some (mxv (fun i => ctV r n c (nI i)) 11 0 (mxv (fun i => nI (pg i)) m i h), hp s l q P)
  | _, _, 0, _, _, hf => absurd hf (by omega)
  | 0, i, f + 1, h, hi, _ => by
    have e1 : s 4 1 = nI n := hC.2.1.1
    have a2 := dgc84 (l := l) hC hO 11 0 200 h rfl (by omega)
    rw [F_X11_digest_B268]
    simp only [G_gR, G_gI, sbd, e1, if_neg (show ¬ nI i < nI n from nI_nlt (by omega) (by omega))]
    exact a2
  | m + 1, i, f + 1, h, hi, hf => by
    have e1 : s 4 1 = nI n := hC.2.1.1
    have e2 : s 5 i = nI (pg i) := hC.2.1.2 i
    have i34 : i < 34 := by omega
    have ih := dgc48 hC hO hn m (i + 1) f (h * 31 + (nI (pg i)).toInt64) (by omega) (by omega)
    rw [F_X11_digest_B268]
    simp only [G_gR, G_gI, G_ga, i34, sbd, e1, if_pos (show nI i < nI n from nI_lt (by omega) (by omega)), e2, nm, nI_1]
    exact ih
theorem dgc6 (hO : Ok r) (hn : n ≤ 34) : ∀ (m p f : Nat) (h : Int64) (s : Nat → Nat → Int32), Cs s q P r k pg n c b → Md s r → p + m = r 0 0 → m < f → ∃ s', Eo s s' ∧ F_X11_digest_B6 3 f h (nI p) (hp s l q P) = some (edV r pg n c (if r 0 0 = 0 then pts r m p h else crV r (pts r m p h)), hp s' l q P)
  | _, _, 0, _, _, _, _, _, hf => absurd hf (by omega)
  | 0, p, f + 1, h, s, hC, hM, hi, _ => by
    have n5 := hO.n5
    have e1 : s 6 0 = nI (r 0 0) := hC.1.1.1
    have hor := hO.1
    by_cases g0 : r 0 0 = 0
    · have a2 := dgc48 (l := l) hC hO hn n 0 200 h (by omega) (by omega)
      refine ⟨s, Eo.rfl, ?_⟩
      rw [F_X11_digest_B6, if_pos g0]
      simp only [G_gR, G_gI, G_ko, sbd, e1, if_neg (show ¬ nI p < nI (r 0 0) from nI_nlt (by omega) (by omega)), none_ok hC.1 hO, if_pos g0, if_neg (show ¬ (1 : Int32) = 0 by decide)]
      exact a2
    · obtain ⟨s', b1, b2'⟩ := dg5 (l := l) hC.1 hM hO (show 2 ≤ r 0 0 by omega) 10 0 200 h rfl (by omega)
      have hC' : Cs s' q P r k pg n c b := hC.fr (fun a ha => b1 a (by omega))
      have a2 := dgc48 (l := l) hC' hO hn n 0 200 (crV r h) (by omega) (by omega)
      refine ⟨s', b1, ?_⟩
      rw [F_X11_digest_B6, if_neg g0]
      simp only [G_gR, G_gI, G_ko, sbd, e1, if_neg (show ¬ nI p < nI (r 0 0) from nI_nlt (by omega) (by omega)), none_ok hC.1 hO, if_neg g0, reduceIte]
      exact b2'.trans a2
  | m + 1, p, f + 1, h, s, hC, hM, hi, hf => by
    have n5 := hO.n5
    have e1 : s 6 0 = nI (r 0 0) := hC.1.1.1
    obtain ⟨s1, a1, a2⟩ := wp_loop (l := l) (q := q) (P := P) (K := fun u1 u3 hu => F_X11_digest_B6 3 f u1 u3 hu) hO (show p < r 0 0 by omega) 7 0 200 h s hC.1 rfl (by omega)
    obtain ⟨s', b1, b2'⟩ := dgc6 hO hn m (p + 1) f (wpV r p (mxv (ptV r p) 7 0 h)) s1 (hC.fr (fun a ha => a1 a (by omega))) (hM.mv (fun a h1 h2 => a1 a (by omega)) (fun j _ => by rw [a1 39 (by omega)])) (by omega) (by omega)
    refine ⟨s', a1.trans b1, ?_⟩
    rw [F_X11_digest_B6, pts]
    simp only [G_gR, G_gI, G_ko, sbd, e1, if_pos (show nI p < nI (r 0 0) from nI_lt (by omega) (by omega))]
    exact a2.trans b2'
theorem digest_c {s : Nat → Nat → Int32} (hC : Cs s q P r k pg n c b) (hM : Md s r) (hO : Ok r) (hn : n ≤ 34) : ∃ s', Eo s s' ∧ F_X11_digest 3 (hp s l q P) = some (dgV r pg n c, hp s' l q P) :=
  dgc6 hO hn (r 0 0) 0 200 1217 s hC hM (by omega) (by have := hO.n5; omega)
end DG
