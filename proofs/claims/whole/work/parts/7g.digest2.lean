/-! DIGEST: the reference, both sides -/
def ld (l : Nat → Nat → Int64) (h : Int64) : Nat → Nat → Int64 := us l 39 (va_up (l 39) 40 h)
theorem va_up2 {α : Type} (f : Nat → α) (k : Nat) (x y : α) : va_up (va_up f k x) k y = va_up f k y := by
  funext j
  unfold va_up
  split <;> rfl
theorem ld_ld (l : Nat → Nat → Int64) (a b : Int64) : ld (ld l a) b = ld l b := by
  unfold ld
  rw [us_us, us_self, va_up2]
theorem ld_at (l : Nat → Nat → Int64) (a : Int64) : ld l a 39 40 = a := by
  unfold ld
  rw [us_self]
  unfold va_up
  rw [if_pos rfl]
section DR
variable {l : Nat → Nat → Int64} {q : Nat → Nat → Option Nat} {P : List Nat} {r k : Nat → Nat → Nat} {pg : Nat → Nat} {n c : Nat} {b : Bool}
theorem mix_ok {s : Nat → Nat → Int32} (h v : Int64) : F_X12_mix 39 v (hp s (ld l h) q P) = some (hp s (ld l (h * 31 + v)) q P) := by
  have e : us (ld l h) 39 (va_up (ld l h 39) 40 (h * 31 + v)) = ld l (h * 31 + v) := ld_ld l h _
  unfold F_X12_mix
  simp only [G_gJ, G_sJ, sbd, ld_at, Int64.mul_comm 31 h, e]
theorem mg111 {s : Nat → Nat → Int32} (hM : Ms s r k pg n c b) (hO : Ok r) : ∀ (m i f : Nat) (h : Int64), i + m = 11 → m < f → F_X12_digest_B111 39 f (nI i) (hp s (ld l h) q P) = some (mxv (fun i => ctV r n c (nI i)) m i h, hp s (ld l (mxv (fun i => ctV r n c (nI i)) m i h)) q P)
  | _, _, 0, _, _, hf => absurd hf (by omega)
  | 0, i, f + 1, h, hi, _ => by
    rw [F_X12_digest_B111, if_neg (show ¬ nI i < 11 from nI_nlt (b := 11) (by omega) (by omega))]
    simp only [G_gJ, sbd, ld_at]
    rfl
  | m + 1, i, f + 1, h, hi, hf => by
    have a2 := count_m (l := ld l h) (q := q) (P := P) hM hO (nI i)
    have ih := mg111 hM hO m (i + 1) f (h * 31 + (ctV r n c (nI i)).toInt64) (by omega) (by omega)
    rw [F_X12_digest_B111, if_pos (show nI i < 11 from nI_lt (b := 11) (by omega) (by omega)), mxv]
    simp only [G_ko, sbd, a2, mix_ok, nI_1]
    exact ih
theorem mg84 {s : Nat → Nat → Int32} (hM : Ms s r k pg n c b) (hO : Ok r) (hn : n ≤ 34) : ∀ (m i f : Nat) (h : Int64), i + m = n → m < f → F_X12_digest_B84 39 f (nI i) (hp s (ld l h) q P) = some (mxv (fun i => ctV r n c (nI i)) 11 0 (mxv (fun i => nI (pg i)) m i h), hp s (ld l (mxv (fun i => ctV r n c (nI i)) 11 0 (mxv (fun i => nI (pg i)) m i h))) q P)
  | _, _, 0, _, _, hf => absurd hf (by omega)
  | 0, i, f + 1, h, hi, _ => by
    have e1 : s 39 16 = nI n := hM.2.1.1
    have a2 := mg111 (l := l) (q := q) (P := P) hM hO 11 0 200 h rfl (by omega)
    rw [F_X12_digest_B84]
    simp only [G_gI, sbd, e1, if_neg (show ¬ nI i < nI n from nI_nlt (by omega) (by omega))]
    exact a2
  | m + 1, i, f + 1, h, hi, hf => by
    have e1 : s 39 16 = nI n := hM.2.1.1
    have e2 : s 50 i = nI (pg i) := hM.2.1.2 i
    have i34 : i < 34 := by omega
    have ih := mg84 hM hO hn m (i + 1) f (h * 31 + (nI (pg i)).toInt64) (by omega) (by omega)
    rw [F_X12_digest_B84]
    simp only [G_gR, G_gI, G_ga, G_ko, i34, sbd, e1, if_pos (show nI i < nI n from nI_lt (by omega) (by omega)), e2, mix_ok, nI_1]
    exact ih
theorem mg132 {s : Nat → Nat → Int32} (h54 : ∀ i, i < 5 → s 54 i = dkI r i) : ∀ (m i f : Nat) (h : Int64), i + m = 5 → m < f → F_X12_mixCourt_B132 39 f (nI i) (hp s (ld l h) q P) = some (hp s (ld l (mxv (dkI r) m i h)) q P)
  | _, _, 0, _, _, hf => absurd hf (by omega)
  | 0, i, f + 1, h, hi, _ => by
    rw [F_X12_mixCourt_B132, if_neg (show ¬ nI i < 5 from nI_nlt (b := 5) (by omega) (by omega))]
    rfl
  | m + 1, i, f + 1, h, hi, hf => by
    have i5 : i < 5 := by omega
    have ih := mg132 h54 m (i + 1) f (h * 31 + (dkI r i).toInt64) (by omega) (by omega)
    rw [F_X12_mixCourt_B132, if_pos (show nI i < 5 from nI_lt (b := 5) (by omega) (by omega)), mxv]
    simp only [G_gR, G_ga, G_ko, i5, sbd, h54 i i5, mix_ok, nI_1]
    exact ih
theorem mg40 (hO : Ok r) (h0 : 2 ≤ r 0 0) : ∀ (m i f : Nat) (h : Int64) (s : Nat → Nat → Int32), Md s r → i + m = 13 → m < f → ∃ s', Em s s' ∧ F_X12_mixCourt_B40 39 f (nI i) (hp s (ld l h) q P) = some (hp s' (ld l (gcV r (mxv (fdV r) m i h))) q P)
  | _, _, 0, _, _, _, _, hf => absurd hf (by omega)
  | 0, i, f + 1, h, s, hM, hi, _ => by
    obtain ⟨s1, a1, a2⟩ := gameNow_ok (l := ld l h) (q := q) (P := P) (a := 0) (b := 1) (n := 2) (w := 0) hM hO (by omega) (by omega) (by omega) (by omega)
    have hM1 := hM.em a1
    have a2' : F_X12_gameNow 39 0 1 2 0 (hp s (ld l h) q P) = some (gmV r 0, hp s1 (ld l h) q P) := a2
    obtain ⟨s2, b1, b2'⟩ := gameNow_ok (l := ld l (h * 31 + (gmV r 0).toInt64)) (q := q) (P := P) (a := 0) (b := 1) (n := 2) (w := 1) hM1 hO (by omega) (by omega) (by omega) (by omega)
    have hM2 := hM1.em b1
    have b3 : F_X12_gameNow 39 0 1 2 1 (hp s1 (ld l (h * 31 + (gmV r 0).toInt64)) q P) = some (gmV r 1, hp s2 (ld l (h * 31 + (gmV r 0).toInt64)) q P) := b2'
    have o0 : ∀ h, F_X12_oddsNow 39 0 1 4 3 0 (hp s2 (ld l h) q P) = some (odW r 0) := fun h => oddsNow_ok (l := ld l h) (q := q) (P := P) (a := 0) (b := 1) (N := 4) (t := 3) (w := 0) hM2 hO (by omega) (by omega) (by omega) (by omega) (by omega)
    have o1 : ∀ h, F_X12_oddsNow 39 0 1 4 3 1 (hp s2 (ld l h) q P) = some (odW r 1) := fun h => oddsNow_ok (l := ld l h) (q := q) (P := P) (a := 0) (b := 1) (N := 4) (t := 3) (w := 1) hM2 hO (by omega) (by omega) (by omega) (by omega) (by omega)
    obtain ⟨s3, c1, c2, c3⟩ := layDocket_ok (l := ld l ((((h * 31 + (gmV r 0).toInt64) * 31 + (gmV r 1).toInt64) * 31 + (odW r 0).toInt64) * 31 + (odW r 1).toInt64)) (q := q) (P := P) hM2 hO
    have d := mg132 (l := l) (q := q) (P := P) c3 5 0 200 (((((h * 31 + (gmV r 0).toInt64) * 31 + (gmV r 1).toInt64) * 31 + (odW r 0).toInt64) * 31 + (odW r 1).toInt64) * 31 + (nI (dkH r)).toInt64) rfl (by omega)
    refine ⟨s3, (a1.trans b1).trans c1, ?_⟩
    rw [F_X12_mixCourt_B40, if_neg (show ¬ nI i < 13 from nI_nlt (b := 13) (by omega) (by omega))]
    simp only [G_ko, sbd, a2', bd2_s, mix_ok, b3, o0, o1, c2]
    exact d
  | m + 1, i, f + 1, h, s, hM, hi, hf => by
    have a2 : F_X12_foundIn 39 0 1 (nI i) (hp s (ld l h) q P) = some (wI (bal r 0 1 i)) := foundIn_ok (l := ld l h) (q := q) (P := P) (a := 0) (b := 1) hM hO (by omega) (by omega) (by omega)
    obtain ⟨s', b1, b2'⟩ := mg40 hO h0 m (i + 1) f (h * 31 + (fdV r i).toInt64) s hM (by omega) (by omega)
    refine ⟨s', b1, ?_⟩
    rw [F_X12_mixCourt_B40, if_pos (show nI i < 13 from nI_lt (b := 13) (by omega) (by omega)), mxv]
    simp only [G_ko, sbd, a2, mix_ok, nI_1]
    exact b2'
theorem tile_m {s : Nat → Nat → Int32} (hM : Md s r) (hO : Ok r) {t w : Nat} (ht : t < 10) (hw : w < 3) : F_X12_tileNow 39 (nI t) (nI w) (hp s l q P) = some (tlV r t w) := by
  rcases (by omega : w = 0 ∨ w = 1 ∨ w = 2) with rfl | rfl | rfl
  · exact tileNow0_ok hM hO ht
  · exact tileNow1_ok hM hO ht
  · exact tileNow2_ok hM hO ht
theorem mg10 {s : Nat → Nat → Int32} {K : Int32 → abH → Option abH} (hM : Md s r) (hO : Ok r) {t : Nat} (ht : t < 10) : ∀ (m i f : Nat) (h : Int64), i + m = 3 → m < f → F_X12_mixCourt_B10 39 (nI t) K f (nI i) (hp s (ld l h) q P) = K (nI (t + 1)) (hp s (ld l (mxv (tlV r t) m i h)) q P)
  | _, _, 0, _, _, hf => absurd hf (by omega)
  | 0, i, f + 1, h, hi, _ => by
    rw [F_X12_mixCourt_B10, if_neg (show ¬ nI i < 3 from nI_nlt (b := 3) (by omega) (by omega)), nI_1]
    rfl
  | m + 1, i, f + 1, h, hi, hf => by
    have a2 := tile_m (l := ld l h) (q := q) (P := P) hM hO ht (show i < 3 by omega)
    have ih := mg10 (K := K) hM hO ht m (i + 1) f (h * 31 + (tlV r t i).toInt64) (by omega) (by omega)
    rw [F_X12_mixCourt_B10, if_pos (show nI i < 3 from nI_lt (b := 3) (by omega) (by omega)), mxv]
    simp only [G_ko, sbd, a2, mix_ok, nI_1]
    exact ih
theorem mg2 {s : Nat → Nat → Int32} (hM : Md s r) (hO : Ok r) (h0 : 2 ≤ r 0 0) : ∀ (m t f : Nat) (h : Int64), t + m = 10 → m < f → ∃ s', Em s s' ∧ F_X12_mixCourt_B2 39 f (nI t) (hp s (ld l h) q P) = some (hp s' (ld l (gcV r (mxv (fdV r) 13 0 (tvs r m t h)))) q P)
  | _, _, 0, _, _, hf => absurd hf (by omega)
  | 0, t, f + 1, h, ht, _ => by
    obtain ⟨s', b1, b2'⟩ := mg40 (l := l) (q := q) (P := P) hO h0 13 0 200 h s hM rfl (by omega)
    refine ⟨s', b1, ?_⟩
    rw [F_X12_mixCourt_B2, if_neg (show ¬ nI t < 10 from nI_nlt (b := 10) (by omega) (by omega))]
    exact b2'
  | m + 1, t, f + 1, h, ht, hf => by
    have a2 := mg10 (l := l) (q := q) (P := P) (K := fun u1 hu => F_X12_mixCourt_B2 39 f u1 hu) hM hO (show t < 10 by omega) 3 0 200 h rfl (by omega)
    obtain ⟨s', b1, b2'⟩ := mg2 hM hO h0 m (t + 1) f (mxv (tlV r t) 3 0 h) (by omega) (by omega)
    refine ⟨s', b1, ?_⟩
    rw [F_X12_mixCourt_B2, if_pos (show nI t < 10 from nI_lt (b := 10) (by omega) (by omega))]
    exact a2.trans b2'
theorem mg19 {s : Nat → Nat → Int32} {K : Int32 → abH → Option (Int64 × abH)} (hM : Md s r) (hO : Ok r) {p : Nat} (p5 : p < 5) : ∀ (m i f : Nat) (h : Int64), i + m = 7 → m < f → F_X12_digest_B19 39 (nI p) K f (nI i) (hp s (ld l h) q P) = K (nI (p + 1)) (hp s (ld l (wpV r p (mxv (ptV r p) m i h))) q P)
  | _, _, 0, _, _, hf => absurd hf (by omega)
  | 0, i, f + 1, h, hi, _ => by
    have e3 : ∀ h, F_X12_coversIn 39 (nI p) 3 (hp s (ld l h) q P) = some (nI (cv r p 3)) := fun h => coversIn_ok (l := ld l h) (q := q) (P := P) (e := 3) hM hO p5 (by omega)
    have e10 : ∀ h, F_X12_coversIn 39 (nI p) 10 (hp s (ld l h) q P) = some (nI (cv r p 10)) := fun h => coversIn_ok (l := ld l h) (q := q) (P := P) (e := 10) hM hO p5 (by omega)
    rw [F_X12_digest_B19, if_neg (show ¬ nI i < 7 from nI_nlt (b := 7) (by omega) (by omega))]
    simp only [G_ko, sbd, e3, e10, mix_ok, nI_1]
    rfl
  | m + 1, i, f + 1, h, hi, hf => by
    have a2 := party_m (l := ld l h) (q := q) (P := P) hM hO p5 (show i < 7 by omega)
    have ih := mg19 (K := K) hM hO p5 m (i + 1) f (h * 31 + (ptV r p i).toInt64) (by omega) (by omega)
    rw [F_X12_digest_B19, if_pos (show nI i < 7 from nI_lt (b := 7) (by omega) (by omega)), mxv]
    simp only [G_ko, sbd, a2, bd2_s, mix_ok, nI_1]
    exact ih
theorem mg9 {s : Nat → Nat → Int32} (hM : Ms s r k pg n c b) (hO : Ok r) (hn : n ≤ 34) : ∀ (m p f : Nat) (h : Int64), p + m = r 0 0 → m < f → ∃ s', Em s s' ∧ F_X12_digest_B9 39 f (nI p) (hp s (ld l h) q P) = some (edV r pg n c (if r 0 0 = 0 then pts r m p h else crV r (pts r m p h)), hp s' (ld l (edV r pg n c (if r 0 0 = 0 then pts r m p h else crV r (pts r m p h)))) q P)
  | _, _, 0, _, _, hf => absurd hf (by omega)
  | 0, p, f + 1, h, hi, _ => by
    have n5 := hO.n5
    have hor := hO.1
    have e1 : s 39 1 = nI (r 0 0) := hM.1.1.1
    by_cases g0 : r 0 0 = 0
    · have a2 := mg84 (l := l) (q := q) (P := P) hM hO hn n 0 200 h (by omega) (by omega)
      refine ⟨s, Em.rfl, ?_⟩
      rw [F_X12_digest_B9, if_pos g0]
      simp only [G_gI, G_ko, sbd, e1, if_neg (show ¬ nI p < nI (r 0 0) from nI_nlt (by omega) (by omega)), if_pos (show nI (r 0 0) ≤ 0 by rw [g0]; decide)]
      exact a2
    · obtain ⟨s', b1, b2'⟩ := mg2 (l := l) (q := q) (P := P) hM.1 hO (show 2 ≤ r 0 0 by omega) 10 0 200 h rfl (by omega)
      have a2 := mg84 (l := l) (q := q) (P := P) (hM.em b1) hO hn n 0 200 (crV r h) (by omega) (by omega)
      have hw : F_X12_mixCourt 39 (hp s (ld l h) q P) = some (hp s' (ld l (crV r h)) q P) := b2'
      refine ⟨s', b1, ?_⟩
      rw [F_X12_digest_B9, if_neg g0]
      simp only [G_gI, G_ko, sbd, e1, if_neg (show ¬ nI p < nI (r 0 0) from nI_nlt (by omega) (by omega)), if_neg (nI_nle (show 0 < r 0 0 by omega) (show r 0 0 < 2 ^ 31 by omega)), hw]
      exact a2
  | m + 1, p, f + 1, h, hi, hf => by
    have n5 := hO.n5
    have e1 : s 39 1 = nI (r 0 0) := hM.1.1.1
    have a2 := mg19 (l := l) (q := q) (P := P) (K := fun u1 hu => F_X12_digest_B9 39 f u1 hu) hM.1 hO (show p < 5 by omega) 7 0 200 h rfl (by omega)
    obtain ⟨s', b1, b2'⟩ := mg9 hM hO hn m (p + 1) f (wpV r p (mxv (ptV r p) 7 0 h)) (by omega) (by omega)
    refine ⟨s', b1, ?_⟩
    rw [F_X12_digest_B9, pts]
    simp only [G_gI, G_ko, sbd, e1, if_pos (show nI p < nI (r 0 0) from nI_lt (by omega) (by omega))]
    exact a2.trans b2'
theorem digest_m {s : Nat → Nat → Int32} (hM : Ms s r k pg n c b) (hO : Ok r) (hn : n ≤ 34) : ∃ s' l', Em s s' ∧ F_X12_digest 39 (hp s l q P) = some (dgV r pg n c, hp s' l' q P) := by
  obtain ⟨s', b1, b2'⟩ := mg9 (l := l) (q := q) (P := P) hM hO hn (r 0 0) 0 200 1217 (by omega) (by have := hO.n5; omega)
  refine ⟨s', ld l (dgV r pg n c), b1, ?_⟩
  have e : us l 39 (va_up (l 39) 40 1217) = ld l 1217 := rfl
  unfold F_X12_digest
  simp only [G_sJ, sbd, e]
  exact b2'
end DR
/-- digest, on both sides -/
def GoL (M : Nat) (X Y : abH → Option (Int64 × abH)) : Prop := ∀ (s : Nat → Nat → Int32) (l : Nat → Nat → Int64) (q : Nat → Nat → Option Nat) (P : List Nat), Iv M s q P → ∃ (v : Int64) (s1 s2 : Nat → Nat → Int32) (l1 l2 : Nat → Nat → Int64) (q2 : Nat → Nat → Option Nat) (P2 : List Nat), X (hp s l q P) = some (v, hp s1 l1 q2 P2) ∧ Y (hp s1 l1 q2 P2) = some (v, hp s2 l2 q2 P2) ∧ Iv (M + 1) s2 q2 P2
theorem go_digest {M : Nat} : GoL M (F_X11_digest 3) (F_X12_digest 39) := by
  rintro s l q P ⟨r, k, pg, n, c, b, hC, hM, hO⟩
  obtain ⟨s1, a1, a2⟩ := digest_c (l := l) hC hM.1 hO.1 hO.2.1.1
  have hM1 := hM.eo a1
  obtain ⟨s2, l2, b1, b2'⟩ := digest_m (l := l) (q := q) (P := P) hM1 hO.1 hO.2.1.1
  exact ⟨dgV r pg n c, s1, s2, l, l2, q, P, a2, b2', r, k, pg, n, c, b, (hC.fr (fun a ha => a1 a (by omega))).fr (fun a ha => b1.1 a (by omega)), hM1.em b1, hO.up⟩
