/-! THE LAW: its blocks, its loop (made by wip/whole/tools/genlaw.py) -/
theorem sx_ok {L k : Nat} {xs : Nat → Int32} (hL : L ≤ 3072) (h : k < L) : sx L xs (nI k) = some (xs k) := by
  have h1 : (nI k).toNatClampNeg = k := nI_clamp (by omega)
  have h2 : (0 : Int32) ≤ nI k := nI_pos' (by omega)
  simp [sx, abin, h1, h2, h]
theorem lg_same (v : Int64) : lg_cmp v v = 0 := (lg_cmp_eq v v).mpr (Eq.refl v)
section LW
variable {s : Nat → Nat → Int32} {l : Nat → Nat → Int64} {q : Nat → Nat → Option Nat} {P : List Nat} {L M i : Nat} {xs : Nat → Int32} {K : Int32 → abH → Option (Int32 × abH)}
def Kg (M i : Nat) (K : Int32 → abH → Option (Int32 × abH)) : Prop := ∀ (s : Nat → Nat → Int32) (l : Nat → Nat → Int64) (q : Nat → Nat → Option Nat) (P : List Nat), Iv M s q P → ∃ hz : abH, K (nI (i + 6)) (hp s l q P) = some (1, hz)
/-- the six places of a call -/
def Sx (L i : Nat) (xs : Nat → Int32) : Prop := (nI i + 2 = nI (i + 2) ∧ nI i + 3 = nI (i + 3) ∧ nI i + 4 = nI (i + 4) ∧ nI i + 5 = nI (i + 5) ∧ nI i + 6 = nI (i + 6)) ∧ sx L xs (nI (i + 1)) = some (xs (i + 1)) ∧ sx L xs (nI (i + 2)) = some (xs (i + 2)) ∧ sx L xs (nI (i + 3)) = some (xs (i + 3)) ∧ sx L xs (nI (i + 4)) = some (xs (i + 4)) ∧ sx L xs (nI (i + 5)) = some (xs (i + 5))
theorem Sx_ok (hL : L ≤ 3072) (h : i + 6 ≤ L) : Sx L i xs := ⟨⟨nI_add i 2, nI_add i 3, nI_add i 4, nI_add i 5, nI_add i 6⟩, sx_ok hL (by omega), sx_ok hL (by omega), sx_ok hL (by omega), sx_ok hL (by omega), sx_ok hL (by omega)⟩
theorem blk_letter (hX : Sx L i xs) (hI : Iv M s q P) (hK : Kg (M + 1) i K) : ∃ hz : abH, F_L_law_B152 L xs 3 39 (nI i) (hp s l q P) K = some (1, hz) := by
  obtain ⟨⟨w2, w3, w4, w5, w6⟩, x1, x2, x3, x4, x5⟩ := hX
  obtain ⟨v, s1, s2, l1, l2, q2, P2, a1, a2, a3⟩ := go_letter (M := M) (xs (i + 1)) s l q P hI
  obtain ⟨hz, e⟩ := hK s2 l2 q2 P2 a3
  refine ⟨hz, ?_⟩
  unfold F_L_law_B152
  simp only [nI_1, w2, w3, w4, w5, w6, x1, x2, x3, x4, x5, sbd, G_ko, a1, bd2_s, a2, reduceIte]
  exact e
theorem blk_blank (hX : Sx L i xs) (hI : Iv M s q P) (hK : Kg (M + 1) i K) : ∃ hz : abH, F_L_law_B175 L xs 3 39 (nI i) (hp s l q P) K = some (1, hz) := by
  obtain ⟨⟨w2, w3, w4, w5, w6⟩, x1, x2, x3, x4, x5⟩ := hX
  obtain ⟨v, s1, s2, l1, l2, q2, P2, a1, a2, a3⟩ := go_blank (M := M) s l q P hI
  obtain ⟨hz, e⟩ := hK s2 l2 q2 P2 a3
  refine ⟨hz, ?_⟩
  unfold F_L_law_B175
  simp only [nI_1, w2, w3, w4, w5, w6, x1, x2, x3, x4, x5, sbd, G_ko, a1, bd2_s, a2, reduceIte]
  exact e
theorem blk_fault (hX : Sx L i xs) (hI : Iv M s q P) (hK : Kg (M + 1) i K) : ∃ hz : abH, F_L_law_B188 L xs 3 39 (nI i) (hp s l q P) K = some (1, hz) := by
  obtain ⟨⟨w2, w3, w4, w5, w6⟩, x1, x2, x3, x4, x5⟩ := hX
  obtain ⟨v, s1, s2, l1, l2, q2, P2, a1, a2, a3⟩ := go_fault (M := M) s l q P hI
  obtain ⟨hz, e⟩ := hK s2 l2 q2 P2 a3
  obtain ⟨v', b1, b2'⟩ := Option.bind_eq_some_iff.mp a1
  injection b2' with b3
  injection b3 with b4 b5
  subst b4
  rw [← b5] at a2
  refine ⟨hz, ?_⟩
  unfold F_L_law_B188
  simp only [w6, sbd, G_ko, b1, a2, bd2_s, reduceIte]
  exact e
theorem blk_court (hX : Sx L i xs) (hI : Iv M s q P) (hK : Kg (M + 1) i K) : ∃ hz : abH, F_L_law_B201 L xs 3 39 (nI i) (hp s l q P) K = some (1, hz) := by
  obtain ⟨⟨w2, w3, w4, w5, w6⟩, x1, x2, x3, x4, x5⟩ := hX
  obtain ⟨v, s1, s2, l1, l2, q2, P2, a1, a2, a3⟩ := go_court (M := M) s l q P hI
  obtain ⟨hz, e⟩ := hK s2 l2 q2 P2 a3
  refine ⟨hz, ?_⟩
  unfold F_L_law_B201
  simp only [nI_1, w2, w3, w4, w5, w6, x1, x2, x3, x4, x5, sbd, G_ko, a1, bd2_s, a2, reduceIte]
  exact e
theorem blk_party (hX : Sx L i xs) (hI : Iv M s q P) (hK : Kg (M + 1) i K) : ∃ hz : abH, F_L_law_B214 L xs 3 39 (nI i) (hp s l q P) K = some (1, hz) := by
  obtain ⟨⟨w2, w3, w4, w5, w6⟩, x1, x2, x3, x4, x5⟩ := hX
  obtain ⟨v, s1, s2, l1, l2, q2, P2, a1, a2, a3⟩ := go_party (M := M) (xs (i + 1)) (xs (i + 2)) s l q P hI
  obtain ⟨hz, e⟩ := hK s2 l2 q2 P2 a3
  refine ⟨hz, ?_⟩
  unfold F_L_law_B214
  simp only [nI_1, w2, w3, w4, w5, w6, x1, x2, x3, x4, x5, sbd, G_ko, a1, bd2_s, a2, reduceIte]
  exact e
theorem blk_as (hX : Sx L i xs) (hI : Iv M s q P) (hK : Kg (M + 1) i K) : ∃ hz : abH, F_L_law_B247 L xs 3 39 (nI i) (hp s l q P) K = some (1, hz) := by
  obtain ⟨⟨w2, w3, w4, w5, w6⟩, x1, x2, x3, x4, x5⟩ := hX
  obtain ⟨v, a1, a2⟩ := rd_as (M := M) (xs (i + 1)) (xs (i + 2)) s l q P hI
  obtain ⟨hz, e⟩ := hK s l q P hI.up
  refine ⟨hz, ?_⟩
  unfold F_L_law_B247
  simp only [nI_1, w2, w3, w4, w5, w6, x1, x2, x3, x4, x5, sbd, G_ko, a1, a2, reduceIte]
  exact e
theorem blk_covers (hX : Sx L i xs) (hI : Iv M s q P) (hK : Kg (M + 1) i K) : ∃ hz : abH, F_L_law_B280 L xs 3 39 (nI i) (hp s l q P) K = some (1, hz) := by
  obtain ⟨⟨w2, w3, w4, w5, w6⟩, x1, x2, x3, x4, x5⟩ := hX
  obtain ⟨v, a1, a2⟩ := rd_covers (M := M) (xs (i + 1)) (xs (i + 2)) s l q P hI
  obtain ⟨hz, e⟩ := hK s l q P hI.up
  refine ⟨hz, ?_⟩
  unfold F_L_law_B280
  simp only [nI_1, w2, w3, w4, w5, w6, x1, x2, x3, x4, x5, sbd, G_ko, a1, a2, reduceIte]
  exact e
theorem blk_tile (hX : Sx L i xs) (hI : Iv M s q P) (hK : Kg (M + 1) i K) : ∃ hz : abH, F_L_law_B313 L xs 3 39 (nI i) (hp s l q P) K = some (1, hz) := by
  obtain ⟨⟨w2, w3, w4, w5, w6⟩, x1, x2, x3, x4, x5⟩ := hX
  obtain ⟨v, a1, a2⟩ := rd_tile (M := M) (xs (i + 1)) (xs (i + 2)) s l q P hI
  obtain ⟨hz, e⟩ := hK s l q P hI.up
  refine ⟨hz, ?_⟩
  unfold F_L_law_B313
  simp only [nI_1, w2, w3, w4, w5, w6, x1, x2, x3, x4, x5, sbd, G_ko, a1, a2, reduceIte]
  exact e
theorem blk_found (hX : Sx L i xs) (hI : Iv M s q P) (hK : Kg (M + 1) i K) : ∃ hz : abH, F_L_law_B346 L xs 3 39 (nI i) (hp s l q P) K = some (1, hz) := by
  obtain ⟨⟨w2, w3, w4, w5, w6⟩, x1, x2, x3, x4, x5⟩ := hX
  obtain ⟨v, a1, a2⟩ := rd_found (M := M) (xs (i + 1)) (xs (i + 2)) (xs (i + 3)) s l q P hI
  obtain ⟨hz, e⟩ := hK s l q P hI.up
  refine ⟨hz, ?_⟩
  unfold F_L_law_B346
  simp only [nI_1, w2, w3, w4, w5, w6, x1, x2, x3, x4, x5, sbd, G_ko, a1, a2, reduceIte]
  exact e
theorem blk_tick (hX : Sx L i xs) (hI : Iv M s q P) (hK : Kg (M + 1) i K) : ∃ hz : abH, F_L_law_B389 L xs 3 39 (nI i) (hp s l q P) K = some (1, hz) := by
  obtain ⟨⟨w2, w3, w4, w5, w6⟩, x1, x2, x3, x4, x5⟩ := hX
  obtain ⟨v, s1, s2, l1, l2, q2, P2, a1, a2, a3⟩ := go_tick (M := M) s l q P hI
  obtain ⟨hz, e⟩ := hK s2 l2 q2 P2 a3
  refine ⟨hz, ?_⟩
  unfold F_L_law_B389
  simp only [nI_1, w2, w3, w4, w5, w6, x1, x2, x3, x4, x5, sbd, G_ko, a1, bd2_s, a2, reduceIte]
  exact e
theorem blk_step (hX : Sx L i xs) (hI : Iv M s q P) (hK : Kg (M + 1) i K) : ∃ hz : abH, F_L_law_B402 L xs 3 39 (nI i) (hp s l q P) K = some (1, hz) := by
  obtain ⟨⟨w2, w3, w4, w5, w6⟩, x1, x2, x3, x4, x5⟩ := hX
  obtain ⟨v, s1, s2, l1, l2, q2, P2, a1, a2, a3⟩ := go_step (M := M) (xs (i + 1)) (xs (i + 2)) s l q P hI
  obtain ⟨hz, e⟩ := hK s2 l2 q2 P2 a3
  refine ⟨hz, ?_⟩
  unfold F_L_law_B402
  simp only [nI_1, w2, w3, w4, w5, w6, x1, x2, x3, x4, x5, sbd, G_ko, a1, bd2_s, a2, reduceIte]
  exact e
theorem blk_stand (hX : Sx L i xs) (hI : Iv M s q P) (hK : Kg (M + 1) i K) : ∃ hz : abH, F_L_law_B435 L xs 3 39 (nI i) (hp s l q P) K = some (1, hz) := by
  obtain ⟨⟨w2, w3, w4, w5, w6⟩, x1, x2, x3, x4, x5⟩ := hX
  obtain ⟨v, s1, s2, l1, l2, q2, P2, a1, a2, a3⟩ := go_stand (M := M) (xs (i + 1)) (xs (i + 2)) s l q P hI
  obtain ⟨hz, e⟩ := hK s2 l2 q2 P2 a3
  refine ⟨hz, ?_⟩
  unfold F_L_law_B435
  simp only [nI_1, w2, w3, w4, w5, w6, x1, x2, x3, x4, x5, sbd, G_ko, a1, bd2_s, a2, reduceIte]
  exact e
theorem blk_rise (hX : Sx L i xs) (hI : Iv M s q P) (hK : Kg (M + 1) i K) : ∃ hz : abH, F_L_law_B468 L xs 3 39 (nI i) (hp s l q P) K = some (1, hz) := by
  obtain ⟨⟨w2, w3, w4, w5, w6⟩, x1, x2, x3, x4, x5⟩ := hX
  obtain ⟨v, s1, s2, l1, l2, q2, P2, a1, a2, a3⟩ := go_rise (M := M) (xs (i + 1)) (xs (i + 2)) s l q P hI
  obtain ⟨hz, e⟩ := hK s2 l2 q2 P2 a3
  refine ⟨hz, ?_⟩
  unfold F_L_law_B468
  simp only [nI_1, w2, w3, w4, w5, w6, x1, x2, x3, x4, x5, sbd, G_ko, a1, bd2_s, a2, reduceIte]
  exact e
theorem blk_lay (hX : Sx L i xs) (hI : Iv M s q P) (hK : Kg (M + 1) i K) : ∃ hz : abH, F_L_law_B501 L xs 3 39 (nI i) (hp s l q P) K = some (1, hz) := by
  obtain ⟨⟨w2, w3, w4, w5, w6⟩, x1, x2, x3, x4, x5⟩ := hX
  obtain ⟨v, s1, s2, l1, l2, q2, P2, a1, a2, a3⟩ := go_lay (M := M) (xs (i + 1)) (xs (i + 2)) s l q P hI
  obtain ⟨hz, e⟩ := hK s2 l2 q2 P2 a3
  refine ⟨hz, ?_⟩
  unfold F_L_law_B501
  simp only [nI_1, w2, w3, w4, w5, w6, x1, x2, x3, x4, x5, sbd, G_ko, a1, bd2_s, a2, reduceIte]
  exact e
theorem blk_file (hX : Sx L i xs) (hI : Iv M s q P) (hK : Kg (M + 1) i K) : ∃ hz : abH, F_L_law_B534 L xs 3 39 (nI i) (hp s l q P) K = some (1, hz) := by
  obtain ⟨⟨w2, w3, w4, w5, w6⟩, x1, x2, x3, x4, x5⟩ := hX
  obtain ⟨v, s1, s2, l1, l2, q2, P2, a1, a2, a3⟩ := go_file (M := M) (xs (i + 1)) (xs (i + 2)) s l q P hI
  obtain ⟨hz, e⟩ := hK s2 l2 q2 P2 a3
  refine ⟨hz, ?_⟩
  unfold F_L_law_B534
  simp only [nI_1, w2, w3, w4, w5, w6, x1, x2, x3, x4, x5, sbd, G_ko, a1, bd2_s, a2, reduceIte]
  exact e
theorem blk_settle (hX : Sx L i xs) (hI : Iv M s q P) (hK : Kg (M + 1) i K) : ∃ hz : abH, F_L_law_B567 L xs 3 39 (nI i) (hp s l q P) K = some (1, hz) := by
  obtain ⟨⟨w2, w3, w4, w5, w6⟩, x1, x2, x3, x4, x5⟩ := hX
  obtain ⟨v, s1, s2, l1, l2, q2, P2, a1, a2, a3⟩ := go_settle (M := M) s l q P hI
  obtain ⟨hz, e⟩ := hK s2 l2 q2 P2 a3
  refine ⟨hz, ?_⟩
  unfold F_L_law_B567
  simp only [nI_1, w2, w3, w4, w5, w6, x1, x2, x3, x4, x5, sbd, G_ko, a1, bd2_s, a2, reduceIte]
  exact e
theorem blk_game (hX : Sx L i xs) (hI : Iv M s q P) (hK : Kg (M + 1) i K) : ∃ hz : abH, F_L_law_B580 L xs 3 39 (nI i) (hp s l q P) K = some (1, hz) := by
  obtain ⟨⟨w2, w3, w4, w5, w6⟩, x1, x2, x3, x4, x5⟩ := hX
  obtain ⟨v, s1, s2, l1, l2, q2, P2, a1, a2, a3⟩ := go_game (M := M) (xs (i + 1)) (xs (i + 2)) (xs (i + 3)) (xs (i + 4)) s l q P hI
  obtain ⟨hz, e⟩ := hK s2 l2 q2 P2 a3
  refine ⟨hz, ?_⟩
  unfold F_L_law_B580
  simp only [nI_1, w2, w3, w4, w5, w6, x1, x2, x3, x4, x5, sbd, G_ko, a1, bd2_s, a2, reduceIte]
  exact e
theorem blk_docket (hX : Sx L i xs) (hI : Iv M s q P) (hK : Kg (M + 1) i K) : ∃ hz : abH, F_L_law_B633 L xs 3 39 (nI i) (hp s l q P) K = some (1, hz) := by
  obtain ⟨⟨w2, w3, w4, w5, w6⟩, x1, x2, x3, x4, x5⟩ := hX
  obtain ⟨v, s1, s2, l1, l2, q2, P2, a1, a2, a3⟩ := go_docket (M := M) (xs (i + 1)) s l q P hI
  obtain ⟨hz, e⟩ := hK s2 l2 q2 P2 a3
  refine ⟨hz, ?_⟩
  unfold F_L_law_B633
  simp only [nI_1, w2, w3, w4, w5, w6, x1, x2, x3, x4, x5, sbd, G_ko, a1, bd2_s, a2, reduceIte]
  exact e
theorem blk_odds (hX : Sx L i xs) (hI : Iv M s q P) (hK : Kg (M + 1) i K) : ∃ hz : abH, F_L_law_B656 L xs 3 39 (nI i) (hp s l q P) K = some (1, hz) := by
  obtain ⟨⟨w2, w3, w4, w5, w6⟩, x1, x2, x3, x4, x5⟩ := hX
  obtain ⟨v, a1, a2⟩ := rd_odds (M := M) (xs (i + 1)) (xs (i + 2)) (xs (i + 3)) (xs (i + 4)) (xs (i + 5)) s l q P hI
  obtain ⟨hz, e⟩ := hK s l q P hI.up
  refine ⟨hz, ?_⟩
  unfold F_L_law_B656
  simp only [nI_1, w2, w3, w4, w5, w6, x1, x2, x3, x4, x5, sbd, G_ko, a1, a2, reduceIte]
  exact e
theorem blk_forget (hX : Sx L i xs) (hI : Iv M s q P) (hK : Kg (M + 1) i K) : ∃ hz : abH, F_L_law_B788 L xs 3 39 (nI i) (hp s l q P) K = some (1, hz) := by
  obtain ⟨⟨w2, w3, w4, w5, w6⟩, x1, x2, x3, x4, x5⟩ := hX
  obtain ⟨v, s1, s2, l1, l2, q2, P2, a1, a2, a3⟩ := go_forget (M := M) s l q P hI
  obtain ⟨hz, e⟩ := hK s2 l2 q2 P2 a3
  refine ⟨hz, ?_⟩
  unfold F_L_law_B788
  simp only [nI_1, w2, w3, w4, w5, w6, x1, x2, x3, x4, x5, sbd, G_ko, a1, bd2_s, a2, reduceIte]
  exact e
theorem blk_terms (hX : Sx L i xs) (hI : Iv M s q P) (hK : Kg (M + 1) i K) : ∃ hz : abH, F_L_law_B801 L xs 3 39 (nI i) (hp s l q P) K = some (1, hz) := by
  obtain ⟨⟨w2, w3, w4, w5, w6⟩, x1, x2, x3, x4, x5⟩ := hX
  obtain ⟨v, s1, s2, l1, l2, q2, P2, a1, a2, a3⟩ := go_terms (M := M) (xs (i + 1)) (xs (i + 2)) (xs (i + 3)) s l q P hI
  obtain ⟨hz, e⟩ := hK s2 l2 q2 P2 a3
  refine ⟨hz, ?_⟩
  unfold F_L_law_B801
  simp only [nI_1, w2, w3, w4, w5, w6, x1, x2, x3, x4, x5, sbd, G_ko, a1, bd2_s, a2, reduceIte]
  exact e
theorem blk_image (hX : Sx L i xs) (hI : Iv M s q P) (hK : Kg (M + 1) i K) : ∃ hz : abH, F_L_law_B844 L xs 3 39 (nI i) (hp s l q P) K = some (1, hz) := by
  obtain ⟨⟨w2, w3, w4, w5, w6⟩, x1, x2, x3, x4, x5⟩ := hX
  obtain ⟨v, s1, s2, l1, l2, q2, P2, a1, a2, a3⟩ := go_image (M := M) s l q P hI
  obtain ⟨hz, e⟩ := hK s2 l2 q2 P2 a3
  refine ⟨hz, ?_⟩
  unfold F_L_law_B844
  simp only [nI_1, w2, w3, w4, w5, w6, x1, x2, x3, x4, x5, sbd, G_ko, a1, bd2_s, a2, reduceIte]
  exact e
theorem blk_restore (hX : Sx L i xs) (hM31 : M < 2147483648) (hI : Iv M s q P) (hK : Kg (M + 1) i K) : ∃ hz : abH, F_L_law_B857 L xs 3 39 (nI i) (hp s l q P) K = some (1, hz) := by
  obtain ⟨⟨w2, w3, w4, w5, w6⟩, x1, x2, x3, x4, x5⟩ := hX
  obtain ⟨v, s1, s2, l1, l2, q2, P2, a1, a2, a3⟩ := go_restore (M := M) hM31 s l q P hI
  obtain ⟨hz, e⟩ := hK s2 l2 q2 P2 a3
  refine ⟨hz, ?_⟩
  unfold F_L_law_B857
  simp only [nI_1, w2, w3, w4, w5, w6, x1, x2, x3, x4, x5, sbd, G_ko, a1, bd2_s, a2, reduceIte]
  exact e
theorem blk_count (hX : Sx L i xs) (hI : Iv M s q P) (hK : Kg (M + 1) i K) : ∃ hz : abH, F_L_law_B870 L xs 3 39 (nI i) (hp s l q P) K = some (1, hz) := by
  obtain ⟨⟨w2, w3, w4, w5, w6⟩, x1, x2, x3, x4, x5⟩ := hX
  obtain ⟨v, a1, a2⟩ := rd_count (M := M) (xs (i + 1)) s l q P hI
  obtain ⟨hz, e⟩ := hK s l q P hI.up
  refine ⟨hz, ?_⟩
  unfold F_L_law_B870
  simp only [nI_1, w2, w3, w4, w5, w6, x1, x2, x3, x4, x5, sbd, G_ko, a1, a2, reduceIte]
  exact e
theorem blk_digest (hX : Sx L i xs) (hI : Iv M s q P) (hK : Kg (M + 1) i K) : ∃ hz : abH, F_L_law_B893 L xs 3 39 (nI i) (hp s l q P) K = some (1, hz) := by
  obtain ⟨⟨w2, w3, w4, w5, w6⟩, x1, x2, x3, x4, x5⟩ := hX
  obtain ⟨v, s1, s2, l1, l2, q2, P2, a1, a2, a3⟩ := go_digest (M := M) s l q P hI
  obtain ⟨hz, e⟩ := hK s2 l2 q2 P2 a3
  refine ⟨hz, ?_⟩
  unfold F_L_law_B893
  simp only [w6, sbd, G_ko, a1, bd2_s, a2, lg_same, reduceIte]
  exact e
theorem blk_see (hX : Sx L i xs) (hI : Iv M s q P) (hK : Kg (M + 1) i K) : ∃ hz : abH, F_L_law_B719 L xs 3 39 (nI i) (hp s l q P) K = some (1, hz) := by
  obtain ⟨⟨w2, w3, w4, w5, w6⟩, x1, x2, x3, x4, x5⟩ := hX
  by_cases c : xs (i + 4) = 0
  · obtain ⟨v, s1, s2, l1, l2, q2, P2, a1, a2, a3⟩ := go_see (M := M) (xs (i + 1)) (xs (i + 2)) (xs (i + 3)) 0 s l q P hI
    obtain ⟨hz, e⟩ := hK s2 l2 q2 P2 a3
    refine ⟨hz, ?_⟩
    unfold F_L_law_B719 F_L_law_B748
    simp only [nI_1, w2, w3, w4, w6, x1, x2, x3, x4, sbd, if_pos c, G_ko, a1, bd2_s, a2, reduceIte]
    exact e
  · obtain ⟨v, s1, s2, l1, l2, q2, P2, a1, a2, a3⟩ := go_see (M := M) (xs (i + 1)) (xs (i + 2)) (xs (i + 3)) 1 s l q P hI
    obtain ⟨hz, e⟩ := hK s2 l2 q2 P2 a3
    refine ⟨hz, ?_⟩
    unfold F_L_law_B719 F_L_law_B748
    simp only [nI_1, w2, w3, w4, w6, x1, x2, x3, x4, sbd, if_neg c, G_ko, a1, bd2_s, a2, reduceIte]
    exact e
end LW
theorem law_loop {L : Nat} {xs : Nat → Int32} (hL : L ≤ 3072) : ∀ (f M : Nat) (s : Nat → Nat → Int32) (l : Nat → Nat → Int64) (q : Nat → Nat → Option Nat) (P : List Nat), f + M = 513 → 6 * M ≤ L → Iv M s q P → ∃ hz : abH, F_L_law_B18 L xs 3 39 f (nI (6 * M)) (hp s l q P) = some (1, hz)
  | 0, M, s, l, q, P, hf, hm, _ => absurd hf (by omega)
  | f + 1, M, s, l, q, P, hf, hm, hI => by
    have e0 : Int32.ofNat L - 6 = wI ((L : Int) - 6) := n_sub L 6
    have hc : nI (6 * M) ≤ Int32.ofNat L - 6 ↔ 6 * M + 6 ≤ L := by
      rw [e0, wI_n, wI_le (by omega) (by omega) (by omega) (by omega)]; omega
    rw [F_L_law_B18]
    by_cases g : 6 * M + 6 ≤ L
    · rw [if_pos (hc.mpr g)]
      have hX : Sx L (6 * M) xs := Sx_ok hL g
      have hK : Kg (M + 1) (6 * M) (fun u3 hu => F_L_law_B18 L xs 3 39 f u3 hu) := fun s l q P hI => law_loop hL f (M + 1) s l q P (by omega) (by omega) hI
      have hs : sx L xs (nI (6 * M)) = some (xs (6 * M)) := sx_ok hL (by omega)
      simp only [hs, sbd, nm]
      generalize xs (6 * M) &&& 31 = v6
      by_cases c0 : v6 = 0
      · rw [if_pos c0]; exact blk_letter hX hI hK
      rw [if_neg c0]
      by_cases c1 : v6 = 1
      · rw [if_pos c1]; exact blk_blank hX hI hK
      rw [if_neg c1]
      by_cases c2 : v6 = 2
      · rw [if_pos c2]; exact blk_fault hX hI hK
      rw [if_neg c2]
      by_cases c3 : v6 = 3
      · rw [if_pos c3]; exact blk_court hX hI hK
      rw [if_neg c3]
      by_cases c4 : v6 = 4
      · rw [if_pos c4]; exact blk_party hX hI hK
      rw [if_neg c4]
      by_cases c5 : v6 = 5
      · rw [if_pos c5]; exact blk_as hX hI hK
      rw [if_neg c5]
      by_cases c6 : v6 = 6
      · rw [if_pos c6]; exact blk_covers hX hI hK
      rw [if_neg c6]
      by_cases c7 : v6 = 7
      · rw [if_pos c7]; exact blk_tile hX hI hK
      rw [if_neg c7]
      by_cases c8 : v6 = 8
      · rw [if_pos c8]; exact blk_found hX hI hK
      rw [if_neg c8]
      by_cases c9 : v6 = 9
      · rw [if_pos c9]; exact blk_tick hX hI hK
      rw [if_neg c9]
      by_cases c10 : v6 = 10
      · rw [if_pos c10]; exact blk_step hX hI hK
      rw [if_neg c10]
      by_cases c11 : v6 = 11
      · rw [if_pos c11]; exact blk_stand hX hI hK
      rw [if_neg c11]
      by_cases c12 : v6 = 12
      · rw [if_pos c12]; exact blk_rise hX hI hK
      rw [if_neg c12]
      by_cases c13 : v6 = 13
      · rw [if_pos c13]; exact blk_lay hX hI hK
      rw [if_neg c13]
      by_cases c14 : v6 = 14
      · rw [if_pos c14]; exact blk_file hX hI hK
      rw [if_neg c14]
      by_cases c15 : v6 = 15
      · rw [if_pos c15]; exact blk_settle hX hI hK
      rw [if_neg c15]
      by_cases c16 : v6 = 16
      · rw [if_pos c16]; exact blk_game hX hI hK
      rw [if_neg c16]
      by_cases c17 : v6 = 17
      · rw [if_pos c17]; exact blk_docket hX hI hK
      rw [if_neg c17]
      by_cases c18 : v6 = 18
      · rw [if_pos c18]; exact blk_odds hX hI hK
      rw [if_neg c18]
      by_cases c19 : v6 = 19
      · rw [if_pos c19]; exact blk_see hX hI hK
      rw [if_neg c19]
      by_cases c20 : v6 = 20
      · rw [if_pos c20]; exact blk_forget hX hI hK
      rw [if_neg c20]
      by_cases c21 : v6 = 21
      · rw [if_pos c21]; exact blk_terms hX hI hK
      rw [if_neg c21]
      by_cases c22 : v6 = 22
      · rw [if_pos c22]; exact blk_image hX hI hK
      rw [if_neg c22]
      by_cases c23 : v6 = 23
      · rw [if_pos c23]; exact blk_restore hX (show M < 2147483648 by omega) hI hK
      rw [if_neg c23]
      by_cases c24 : v6 = 24
      · rw [if_pos c24]; exact blk_count hX hI hK
      rw [if_neg c24]
      by_cases c25 : v6 = 25
      · rw [if_pos c25]; exact blk_digest hX hI hK
      rw [if_neg c25]
      rw [hX.1.2.2.2.2]
      exact hK s l q P hI.up
    · rw [if_neg (fun w => g (hc.mp w))]
      exact ⟨_, rfl⟩
