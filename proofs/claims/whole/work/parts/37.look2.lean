/-! LOOK: the search -/
def ctH (r : Nat → Nat → Nat) (p H e t : Nat) : Nat := Cn (fun j => H.testBit j && (sh (r 1 p) (j + 1) (r 3 p) e).testBit t) 9 0
def wst (r : Nat → Nat → Nat) (p H e t : Nat) : Nat := if ctH r p H e t ≤ pc H - ctH r p H e t then pc H - ctH r p H e t else ctH r p H e t
theorem ctH_le (r : Nat → Nat → Nat) (p H e t : Nat) : ctH r p H e t ≤ 9 := Cn_le _ 9 0
theorem Cn_mono {c d : Nat → Bool} : ∀ n i, (∀ j, c j = true → d j = true) → Cn c n i ≤ Cn d n i
  | 0, _, _ => Nat.le_refl _
  | n + 1, i, h => by
    have h1 := Cn_mono n (i + 1) h
    unfold Cn
    cases e : c i with
    | false => simp; omega
    | true => rw [h i e]; simp; omega
theorem Cn_add (c : Nat → Bool) : ∀ a b i, Cn c (a + b) i = Cn c a i + Cn c b (i + a)
  | 0, b, i => by simp [Cn]
  | a + 1, b, i => by
    have h1 := Cn_add c a b (i + 1)
    have e : a + 1 + b = (a + b) + 1 := by omega
    rw [e]
    simp only [Cn]
    rw [h1, show i + 1 + a = i + (a + 1) by omega, Nat.add_assoc]
theorem ctH_pc (r : Nat → Nat → Nat) (p H e t : Nat) : ctH r p H e t ≤ pc H := by
  have h1 := Cn_mono (c := fun j => H.testBit j && (sh (r 1 p) (j + 1) (r 3 p) e).testBit t) (d := fun j => H.testBit j) 9 0 (fun j hj => by simp at hj; exact hj.1)
  have h2 : Cn (fun i => H.testBit i) 13 0 = _ := Cn_add (fun i => H.testBit i) 9 4 0
  unfold ctH pc
  omega
theorem pc_9 {H : Nat} (h : H < 512) : pc H ≤ 9 := by
  have h2 := Cn_add (fun i => H.testBit i) 9 4 0
  have h1 := Cn_le (fun i => H.testBit i) 9 0
  have h3 : Cn (fun i => H.testBit i) 4 (0 + 9) = Cn (fun _ => false) 4 (0 + 9) := Cn_ext 4 9 (fun j hj _ => Nat.testBit_lt_two_pow (Nat.lt_of_lt_of_le h (show 2 ^ 9 ≤ 2 ^ j from Nat.pow_le_pow_right (by decide) hj)))
  have h4 : Cn (fun _ => false) 4 (0 + 9) = 0 := rfl
  unfold pc
  rw [show (13 : Nat) = 9 + 4 from rfl, h2, h3, h4]
  exact h1
theorem wst_le {H : Nat} (h : H < 512) (r : Nat → Nat → Nat) (p e t : Nat) : wst r p H e t ≤ 9 := by
  have h1 := ctH_le r p H e t
  have h2 := pc_9 h
  unfold wst
  split <;> omega
/-- the first least of so many -/
def Lk (w : Nat → Nat) : Nat → Nat → Int → Nat → Int
  | 0, _, best, _ => best
  | n + 1, i, best, least => if w i < least then Lk w n (i + 1) i (w i) else Lk w n (i + 1) best least
def LkL (w : Nat → Nat) : Nat → Nat → Nat → Nat
  | 0, _, least => least
  | n + 1, i, least => if w i < least then LkL w n (i + 1) (w i) else LkL w n (i + 1) least
theorem Lk_add (w : Nat → Nat) : ∀ a b i best least, Lk w (a + b) i best least = Lk w b (i + a) (Lk w a i best least) (LkL w a i least)
  | 0, b, i, best, least => by simp [Lk, LkL]
  | a + 1, b, i, best, least => by
    rw [show a + 1 + b = (a + b) + 1 by omega]
    simp only [Lk, LkL]
    split
    · rw [Lk_add w a b (i + 1), show i + 1 + a = i + (a + 1) by omega]
    · rw [Lk_add w a b (i + 1), show i + 1 + a = i + (a + 1) by omega]
theorem LkL_add (w : Nat → Nat) : ∀ a b i least, LkL w (a + b) i least = LkL w b (i + a) (LkL w a i least)
  | 0, b, i, least => by simp [LkL]
  | a + 1, b, i, least => by
    rw [show a + 1 + b = (a + b) + 1 by omega]
    simp only [LkL]
    split
    · rw [LkL_add w a b (i + 1), show i + 1 + a = i + (a + 1) by omega]
    · rw [LkL_add w a b (i + 1), show i + 1 + a = i + (a + 1) by omega]
theorem LkL_le (w : Nat → Nat) : ∀ n i least, LkL w n i least ≤ least
  | 0, _, _ => Nat.le_refl _
  | n + 1, i, least => by
    unfold LkL
    split
    · have := LkL_le w n (i + 1) (w i); omega
    · exact LkL_le w n (i + 1) least
def wC (r : Nat → Nat → Nat) (p H : Nat) (code : Nat) : Nat := wst r p H (code / 10) (code % 10)
def lkP (r : Nat → Nat → Nat) (p : Nat) : Int := if hts r p = 0 then -1 else Lk (wC r p (hts r p)) 130 0 (-1) 10
theorem lk_far {w : Nat → Nat} (h : w 0 < 10) : Lk w 130 0 (-1) 268435456 = Lk w 130 0 (-1) 10 := by
  have h2 : w 0 < 268435456 := by omega
  have e : ∀ b, w 0 < b → Lk w (129 + 1) 0 (-1) b = Lk w 129 (0 + 1) ((0 : Nat) : Int) (w 0) := fun b hb => by rw [Lk, if_pos hb]
  show Lk w (129 + 1) 0 (-1) 268435456 = Lk w (129 + 1) 0 (-1) 10
  rw [e _ h, e _ h2]
section LP
variable {s : Nat → Nat → Int32} {l : Nat → Nat → Int64} {q : Nat → Nat → Option Nat} {P : List Nat} {r : Nat → Nat → Nat}
theorem n_and1 (m : Nat) : nI m &&& 1 = nI (m % 2) := by
  show nI m &&& nI 1 = _
  rw [n_and, Nat.and_one_is_mod]
theorem bb (H x j t : Nat) (hH : H < 2147483648) (hx : x < 2147483648) (hj : j < 31) (ht : t < 31) : (nI H >>> (nI j &&& 31)) &&& (nI x >>> (nI t &&& 31)) &&& 1 = nI (if (H.testBit j && x.testBit t) = true then 1 else 0) := by
  rw [n_shr hH hj, n_shr hx ht, n_and, n_and1]
  congr 1
  have e : ∀ (m b : Nat), (m >>> b) % 2 = if m.testBit b = true then 1 else 0 := by
    intro m b
    rw [Nat.testBit_eq_decide_div_mod_eq, Nat.shiftRight_eq_div_pow]
    generalize m / 2 ^ b = z
    simp only [decide_eq_true_eq]
    split <;> omega
  have e2 : (H >>> j &&& x >>> t) % 2 = ((H >>> j) % 2) &&& ((x >>> t) % 2) := by
    rw [show (2 : Nat) = 2 ^ 1 from rfl, Nat.and_mod_two_pow]
  rw [e2, e, e]
  cases H.testBit j <;> cases x.testBit t <;> rfl
theorem left_loop {H e t : Nat} {r : Nat → Nat → Nat} {p : Nat} (hO : Ok r) (hH : H < 512) (ht : t < 10) (he : e < 13) (hs : ∀ j, j < 9 → s 29 (j + 1) = nI (sh (r 1 p) (j + 1) (r 3 p) e)) : ∀ (n j acc f : Nat), j + n = 9 → n < f → F_X8_leftAtWorst_B5 28 (nI H) (nI t) (hp s l q P) f (nI acc) (nI (j + 1)) = some (if nI (acc + Cn (fun j => H.testBit j && (sh (r 1 p) (j + 1) (r 3 p) e).testBit t) n j) < nI (pc H) - nI (acc + Cn (fun j => H.testBit j && (sh (r 1 p) (j + 1) (r 3 p) e).testBit t) n j) then nI (pc H) - nI (acc + Cn (fun j => H.testBit j && (sh (r 1 p) (j + 1) (r 3 p) e).testBit t) n j) else nI (acc + Cn (fun j => H.testBit j && (sh (r 1 p) (j + 1) (r 3 p) e).testBit t) n j))
  | _, _, _, 0, _, hf => absurd hf (by omega)
  | 0, i, acc, f + 1, hi, _ => by
    have e : ¬ nI (i + 1) ≤ 9 := nI_ge (a := 9) (by omega) (by omega)
    have hb := bitC_ok (show H < 8192 by omega)
    unfold F_X8_leftAtWorst_B5 Cn
    rw [if_neg e, hb, sbd]
    rfl
  | n + 1, i, acc, f + 1, hi, hf => by
    have e1 : nI (i + 1) ≤ 9 := nI_le (b := 9) (by omega) (by omega)
    have i9 : i < 9 := by omega
    have i10 : i + 1 < 10 := by omega
    have hl := sh_lt _ (hO.2.1 p) (i + 1) i10 _ (hO.2.2.2.1 p) _ he
    have ih := fun a => left_loop hO hH ht he hs n (i + 1) a f (by omega) (by omega)
    have hb := bb H (sh (r 1 p) (i + 1) (r 3 p) e) i t (by omega) (by omega) (by omega) (by omega)
    unfold F_X8_leftAtWorst_B5 Cn
    rw [if_pos e1]
    simp only [G_gR, G_ga, i10, some_bind, hs i i9, nI_pred, hb, nm, nI_add, nI_1, ih, Nat.add_assoc]
theorem left_ok {H e t p : Nat} (hO : Ok r) (hH : H < 512) (ht : t < 10) (he : e < 13) (hs : ∀ j, j < 9 → s 29 (j + 1) = nI (sh (r 1 p) (j + 1) (r 3 p) e)) : F_X8_leftAtWorst 28 (nI H) (nI t) (hp s l q P) = some (nI (wst r p H e t)) := by
  have h1 := left_loop (l := l) (q := q) (P := P) hO hH ht he hs 9 0 0 200 rfl (by omega)
  simp only [Nat.zero_add] at h1
  have h2 := ctH_pc r p H e t
  have h3 := pc_9 hH
  refine Eq.trans h1 ?_
  show some (if nI (ctH r p H e t) < nI (pc H) - nI (ctH r p H e t) then nI (pc H) - nI (ctH r p H e t) else nI (ctH r p H e t)) = _
  unfold wst
  revert h2 h3
  generalize ctH r p H e t = c
  generalize pc H = d
  intro h2 h3
  rw [n_subn h2]
  rcases Nat.lt_or_ge c (d - c) with g | g
  · rw [if_pos (nI_lt g (by omega)), if_pos (by omega)]
  · rw [if_neg (nI_nlt g (by omega))]
    split
    · congr 2; omega
    · rfl
theorem look_tiles {p H e : Nat} {K : Int32 → Int32 → Int32 → abH → Option (Int32 × abH)} (hO : Ok r) (hH : H < 512) (he : e < 13) (hs : ∀ j, j < 9 → s 29 (j + 1) = nI (sh (r 1 p) (j + 1) (r 3 p) e)) : ∀ (n t f : Nat) (best : Int) (least : Nat), t + n = 10 → n < f → least ≤ 10 → F_X8_look_B71 28 6 (nI p) (nI H) (nI e) K f (wI best) (nI least) (nI t) (hp s l q P) = K (wI (Lk (wC r p H) n (e * 10 + t) best least)) (nI (LkL (wC r p H) n (e * 10 + t) least)) (nI (e + 1)) (hp s l q P)
  | _, _, 0, _, _, _, hf, _ => absurd hf (by omega)
  | 0, i, f + 1, best, least, hi, _, _ => by
    have e : ¬ nI i < 10 := nI_nlt (b := 10) (by omega) (by omega)
    unfold F_X8_look_B71 Lk LkL
    rw [if_neg e, nI_1]
  | n + 1, i, f + 1, best, least, hi, hf, hle => by
    have e1 : nI i < 10 := nI_lt (b := 10) (by omega) (by omega)
    have ih := fun b c hc => look_tiles (K := K) hO hH he hs n (i + 1) f b c (by omega) (by omega) hc
    have hw := wst_le hH r p e i
    have h1 := left_ok (l := l) (q := q) (P := P) hO hH (show i < 10 by omega) he hs
    have e3 : wC r p H (e * 10 + i) = wst r p H e i := by
      unfold wC; rw [show (e * 10 + i) / 10 = e by omega, show (e * 10 + i) % 10 = i by omega]
    have e4 : nI e * 10 + nI i = wI ((e * 10 + i : Nat) : Int) := by
      rw [show (10 : Int32) = nI 10 from rfl, n_mul, nI_add, wI_n]
    unfold F_X8_look_B71 Lk LkL
    rw [if_pos e1]
    simp only [G_ko, some_bind, h1, nm, e3, e4, nI_1]
    rcases Nat.lt_or_ge (wst r p H e i) least with g | g
    · rw [if_pos (nI_lt g (by omega)), if_pos g, if_pos g, ih _ _ (by omega)]; rfl
    · rw [if_neg (nI_nlt g (by omega)), if_neg (by omega), if_neg (by omega), ih _ _ hle]; rfl
theorem look_fill {p H e : Nat} {best : Int} {least : Nat} {K : Int32 → Int32 → Int32 → abH → Option (Int32 × abH)} (he : e < 13) (hp1 : p < r 0 0) (hO : Ok r) : ∀ (n j f : Nat) (s : Nat → Nat → Int32), Ct s q P 6 r → j + n = 9 → n < f → ∃ g : Nat → Int32, (∀ i, j ≤ i → i < 9 → g (i + 1) = nI (sh (r 1 p) (i + 1) (r 3 p) e)) ∧ (∀ i, i ≤ j → g i = s 29 i) ∧ F_X8_look_B33 28 6 (nI p) (nI H) (wI best) (nI least) (nI e) K f (nI (j + 1)) (hp s l q P) = F_X8_look_B71 28 6 (nI p) (nI H) (nI e) K 200 (wI best) (nI least) 0 (hp (us s 29 g) l q P)
  | _, _, 0, _, _, _, hf => absurd hf (by omega)
  | 0, j, f + 1, s, _, hj, _ => by
    have e : ¬ nI (j + 1) ≤ 9 := nI_ge (a := 9) (by omega) (by omega)
    refine ⟨s 29, fun i h1 h2 => absurd h1 (by omega), fun _ _ => rfl, ?_⟩
    rw [us_id]
    unfold F_X8_look_B33
    rw [if_neg e]
  | n + 1, j, f + 1, s, h, hj, hf => by
    have n5 := hO.n5
    have e1 : nI (j + 1) ≤ 9 := nI_le (b := 9) (by omega) (by omega)
    have j10 : j + 1 < 10 := by omega
    have p5 : p < 5 := by omega
    have e2 : s 9 p = nI (r 3 p) := h.2.1.2.1 p
    have hd := shadeIf_ok (l := l) h hO hp1 j10 (hO.2.2.2.1 p) he
    have h' : Ct (us s 29 (upd (s 29) (j + 1) (nI (sh (r 1 p) (j + 1) (r 3 p) e)))) q P 6 r := h
    obtain ⟨g, g1, g2, g3⟩ := look_fill (best := best) (least := least) (K := K) (H := H) he hp1 hO n (j + 1) f _ h' (by omega) (by omega)
    rw [us_self] at g2
    rw [us_us] at g3
    refine ⟨g, fun i h1 h2 => ?_, fun i h1 => ?_, ?_⟩
    · rcases Nat.lt_or_ge j i with w | w
      · exact g1 i (by omega) h2
      · have : i = j := by omega
        subst this
        rw [g2 (i + 1) (by omega)]
        unfold upd; rw [if_pos rfl]
    · rw [g2 i (by omega)]
      unfold upd; rw [if_neg (by omega)]
    · unfold F_X8_look_B33
      rw [if_pos e1]
      simp only [G_ko, G_gR, G_ga, G_gq, G_sa, p5, j10, some_bind, e2, hd, nr, nI_1]
      exact g3
theorem look_hours {p H : Nat} (hp1 : p < r 0 0) (hO : Ok r) (hH : H < 512) : ∀ (n e f : Nat) (best : Int) (least : Nat) (s : Nat → Nat → Int32), Ct s q P 6 r → e + n = 13 → n < f → least ≤ 10 → ∃ g : Nat → Int32, F_X8_look_B23 28 6 (nI p) (nI H) f (wI best) (nI least) (nI e) (hp s l q P) = some (wI (Lk (wC r p H) (n * 10) (e * 10) best least), hp (us s 29 g) l q P)
  | _, _, 0, _, _, _, _, _, hf, _ => absurd hf (by omega)
  | 0, e, f + 1, best, least, s, _, he, _, _ => by
    have e1 : ¬ nI e < 13 := nI_nlt (b := 13) (by omega) (by omega)
    refine ⟨s 29, ?_⟩
    rw [us_id]
    unfold F_X8_look_B23
    rw [if_neg e1]; simp [Lk]
  | n + 1, e, f + 1, best, least, s, h, he, hf, hle => by
    have e1 : nI e < 13 := nI_lt (b := 13) (by omega) (by omega)
    obtain ⟨g, g1, _, g3⟩ := look_fill (l := l) (best := best) (least := least) (K := fun u4 u5 u6 hu => F_X8_look_B23 28 6 (nI p) (nI H) f u4 u5 u6 hu) (H := H) (show e < 13 by omega) hp1 hO 9 0 200 s h rfl (by omega)
    have h' : Ct (us s 29 g) q P 6 r := h
    have ht := look_tiles (s := us s 29 g) (l := l) (q := q) (P := P) (K := fun u4 u5 u6 hu => F_X8_look_B23 28 6 (nI p) (nI H) f u4 u5 u6 hu) (p := p) hO hH (show e < 13 by omega) (fun j hj => by rw [us_self]; exact g1 j (by omega) hj) 10 0 200 best least rfl (by omega) hle
    have hl2 := LkL_le (wC r p H) 10 (e * 10) least
    obtain ⟨g4, h4⟩ := look_hours hp1 hO hH n (e + 1) f (Lk (wC r p H) 10 (e * 10) best least) (LkL (wC r p H) 10 (e * 10) least) _ h' (by omega) (by omega) (by omega)
    rw [us_us] at h4
    refine ⟨g4, ?_⟩
    unfold F_X8_look_B23
    rw [if_pos e1]
    refine g3.trans (ht.trans ?_)
    rw [show (n + 1) * 10 = 10 + n * 10 by omega, Lk_add]
    rw [show (e + 1) * 10 = e * 10 + 10 by omega] at h4
    exact h4
theorem look_ok (h : Ct s q P 6 r) (hO : Ok r) {p : Nat} (hp1 : p < r 0 0) : ∃ g : Nat → Int32, F_X8_look 28 6 (nI p) (hp s l q P) = some (wI (lkP r p), hp (us s 29 g) l q P) := by
  have hh := heights_ok (l := l) h hO hp1
  have hl := hts_lt r p
  unfold F_X8_look lkP
  simp only [G_ko, some_bind, hh]
  by_cases g : hts r p = 0
  · refine ⟨s 29, ?_⟩
    rw [us_id, if_pos g, if_pos (by rw [g]; rfl)]; rfl
  · obtain ⟨g1, h1⟩ := look_hours (l := l) hp1 hO hl 13 0 200 (-1) 10 s h rfl (by omega) (by omega)
    refine ⟨g1, ?_⟩
    rw [if_neg g, if_neg (nI_ne0 (by omega) (by omega))]
    exact h1
theorem worst_loop (h : Md s r) (hO : Ok r) {p H e t : Nat} (p5 : p < 5) (hH : H < 512) (he : e < 13) (ht : t < 10) : ∀ (n j acc f : Nat), j + n = 9 → n < f → F_X12_worstBy_B6 39 (nI p) (nI H) (nI e) (nI t) f (nI acc) (nI (j + 1)) (hp s l q P) = (if nI (acc + Cn (fun j => H.testBit j && (sh (r 1 p) (j + 1) (r 3 p) e).testBit t) n j) ≤ nI (pc H) - nI (acc + Cn (fun j => H.testBit j && (sh (r 1 p) (j + 1) (r 3 p) e).testBit t) n j) then some (nI (pc H) - nI (acc + Cn (fun j => H.testBit j && (sh (r 1 p) (j + 1) (r 3 p) e).testBit t) n j), hp s l q P) else some (nI (acc + Cn (fun j => H.testBit j && (sh (r 1 p) (j + 1) (r 3 p) e).testBit t) n j), hp s l q P))
  | _, _, _, 0, _, hf => absurd hf (by omega)
  | 0, i, acc, f + 1, hi, _ => by
    have e : ¬ nI (i + 1) ≤ 9 := nI_ge (a := 9) (by omega) (by omega)
    have hb := size_ok (show H < 2147483648 by omega)
    unfold F_X12_worstBy_B6 Cn
    rw [if_neg e, hb, sbd]
    rfl
  | n + 1, i, acc, f + 1, hi, hf => by
    have e1 : nI (i + 1) ≤ 9 := nI_le (b := 9) (by omega) (by omega)
    have i10 : i + 1 < 10 := by omega
    have ih := fun a => worst_loop h hO p5 hH he ht n (i + 1) a f (by omega) (by omega)
    have hc := coversWith_ok (l := l) (q := q) (P := P) h hO p5 i10 he ht
    have hin := isIn_ok (m := H) (i := i) (by omega) (by omega)
    unfold F_X12_worstBy_B6 Cn
    rw [if_pos e1]
    simp only [G_ko, nI_pred, some_bind, hin, hc, bd2_s, nm, Int32.add_zero, nI_1, ih]
    unfold b1
    cases H.testBit i with
    | false => rw [if_pos (show nI (if false = true then 1 else 0) = 0 from rfl)]; simp
    | true =>
      rw [if_neg (show ¬ nI (if true = true then 1 else 0) = 0 by decide)]
      cases (sh (r 1 p) (i + 1) (r 3 p) e).testBit t with
      | false => rw [if_pos (show nI (if false = true then 1 else 0) = 0 from rfl)]; simp
      | true => rw [if_neg (show ¬ nI (if true = true then 1 else 0) = 0 by decide)]; simp [Nat.add_assoc]
theorem worst_ok (h : Md s r) (hO : Ok r) {p H e t : Nat} (p5 : p < 5) (hH : H < 512) (he : e < 13) (ht : t < 10) : F_X12_worstBy 39 (nI p) (nI H) (nI e) (nI t) (hp s l q P) = some (nI (wst r p H e t), hp s l q P) := by
  have h1 := worst_loop (l := l) (q := q) (P := P) h hO p5 hH he ht 9 0 0 200 rfl (by omega)
  simp only [Nat.zero_add] at h1
  have h2 := ctH_pc r p H e t
  have h3 := pc_9 hH
  refine Eq.trans h1 ?_
  show (if nI (ctH r p H e t) ≤ nI (pc H) - nI (ctH r p H e t) then some (nI (pc H) - nI (ctH r p H e t), hp s l q P) else some (nI (ctH r p H e t), hp s l q P)) = _
  unfold wst
  revert h2 h3
  generalize ctH r p H e t = c
  generalize pc H = d
  intro h2 h3
  rw [n_subn h2]
  rcases Nat.lt_or_ge (d - c) c with g | g
  · rw [if_neg (nI_ge g (by omega)), if_neg (by omega)]
  · rw [if_pos (nI_le g (by omega)), if_pos g]
theorem n_divc : ∀ c, c < 130 → nI c / 10 = nI (c / 10) ∧ nI c - nI (c / 10) * 10 = nI (c % 10) := by decide +kernel
theorem lookFor_loop (h : Md s r) (hO : Ok r) {p H : Nat} (p5 : p < 5) (hH : H < 512) (h0 : ¬ H = 0) : ∀ (n c f : Nat) (best : Int) (least : Nat), c + n = 130 → n < f → least ≤ 268435456 → F_X12_lookFor_B15 39 (nI p) (nI H) f (wI best) (nI least) (nI c) (hp s l q P) = some (wI (Lk (wC r p H) n c best least), hp s l q P)
  | _, _, 0, _, _, _, hf, _ => absurd hf (by omega)
  | 0, c, f + 1, best, least, hc, _, _ => by
    have e1 : ¬ nI c < 130 := nI_nlt (b := 130) (by omega) (by omega)
    unfold F_X12_lookFor_B15 Lk
    rw [if_neg e1]
  | n + 1, c, f + 1, best, least, hc, hf, hle => by
    have e1 : nI c < 130 := nI_lt (b := 130) (by omega) (by omega)
    have ih := fun b d hd => lookFor_loop h hO p5 hH h0 n (c + 1) f b d (by omega) (by omega) hd
    have hd := n_divc c (by omega)
    have hw := worst_ok (l := l) (q := q) (P := P) h hO p5 hH (show c / 10 < 13 by omega) (show c % 10 < 10 by omega)
    have hwl := wst_le hH r p (c / 10) (c % 10)
    have z10 : ¬ (10 : Int32) = 0 := by decide
    have e3 : wC r p H c = wst r p H (c / 10) (c % 10) := rfl
    unfold F_X12_lookFor_B15 Lk
    rw [if_pos e1, if_neg (nI_ne0 (by omega) (by omega))]
    simp only [dz, if_neg z10, G_ko, some_bind, hd.2, hd.1, hw, bd2_s, F_X12_lookFor_B58, e3, nI_1]
    rcases Nat.lt_or_ge (wst r p H (c / 10) (c % 10)) least with g | g
    · rw [if_pos (nI_lt g (by omega)), if_pos g, if_pos (nI_lt g (by omega)), wI_n c, ih _ _ (by omega)]
    · rw [if_neg (nI_nlt g (by omega)), if_neg (Nat.not_lt.mpr g), if_neg (nI_nlt g (by omega)), ih _ _ hle]
theorem lookFor_ok (h : Md s r) (hO : Ok r) {p : Nat} (p5 : p < 5) : F_X12_lookFor 39 (nI p) (hp s l q P) = some (wI (lkP r p), hp s l q P) := by
  have hh := heightsOf_ok (l := l) (q := q) (P := P) h hO p5
  have hl := hts_lt r p
  unfold F_X12_lookFor lkP
  simp only [G_ko, some_bind, hh, bd2_s]
  by_cases g : hts r p = 0
  · rw [if_pos g, g]
    show F_X12_lookFor_B15 39 (nI p) (nI 0) (199 + 1) (-1) 268435456 (nI 0) (hp s l q P) = _
    unfold F_X12_lookFor_B15
    rw [if_pos (show nI 0 < 130 from nI_lt (a := 0) (b := 130) (by omega) (by omega)), if_pos (show nI 0 = 0 from rfl)]
    rfl
  · rw [if_neg g]
    have h1 := lookFor_loop (l := l) (q := q) (P := P) h hO p5 hl g 130 0 200 (-1) 268435456 rfl (by omega) (by omega)
    rw [lk_far (by have := wst_le hl r p 0 0; show wst r p (hts r p) 0 0 < 10; omega)] at h1
    exact h1
end LP
