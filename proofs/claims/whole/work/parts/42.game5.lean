/-! GAME: the reference's tables -/
section GD
variable {s s' s1 s2 : Nat → Nat → Int32} {l : Nat → Nat → Int64} {q : Nat → Nat → Option Nat} {P : List Nat} {r : Nat → Nat → Nat} {G : Nat → Nat → Int} {B : Int}
theorem Md.set52 (h : Md s r) (g : Nat → Int32) : Md (us s 52 g) r := h
theorem Mg.set52 (h : Mg s G) (g : Nat → Int32) : Mg (us s 52 g) G := h
theorem Bg0 : Bg (fun _ _ => 0) 0 := fun _ _ _ _ => ⟨Int.le_refl 0, Int.le_refl 0⟩
theorem lay_in {a b k x : Nat} {K K2 : Int32 → abH → Option abH} (hO : Ok r) (hB : Bg G B) (hB2 : 0 ≤ B ∧ B ≤ 300) (a5 : a < 5) (b5 : b < 5) (hk : k < 13) (hx : x < 10) : ∀ (n y f : Nat) (s : Nat → Nat → Int32), Md s r → Mg s G → y + n = 10 → n < f → ∃ g : Nat → Int32, (∀ i, i < x * 10 + y → g i = s 52 i) ∧ (∀ y', y ≤ y' → y' < 10 → g (x * 10 + y') = wI (nxt (wx r a ((r 5 0 + k) % 13)) (wx r b ((r 5 0 + k) % 13)) G x y')) ∧ F_X12_layGame_B47 39 (nI a) (nI b) (nI k) (nI x) K K2 f (nI y) (hp s l q P) = K2 (nI (x + 1)) (hp (us s 52 g) l q P)
  | _, _, 0, _, _, _, _, hf => absurd hf (by omega)
  | 0, y, f + 1, s, _, _, hy, _ => by
    refine ⟨s 52, fun _ _ => rfl, fun y' h1 h2 => absurd h1 (by omega), ?_⟩
    rw [us_id, F_X12_layGame_B47, if_neg (show ¬ nI y < 10 from nI_nlt (b := 10) (by omega) (by omega)), nI_1]
  | n + 1, y, f + 1, s, h, hG, hy, hf => by
    have y10 : y < 10 := by omega
    have he : r 5 0 < 13 := hO.2.2.2.2.2.1
    have hm : (r 5 0 + k) % 13 < 13 := Nat.mod_lt _ (by omega)
    have hmod := n_mod13 (r 5 0 + k) (by omega)
    have hb := bestFrom_ok (l := l) (q := q) (P := P) h hO hG hB hB2 a5 b5 hm hx y10
    have e5 : s 39 6 = nI (r 5 0) := h.1.2.1
    have e3 : 10 * nI x + nI y = nI (x * 10 + y) := by
      rw [show (10 : Int32) = nI 10 from rfl, n_mul, nI_add, Nat.mul_comm]
    have k1 : x * 10 + y < 100 := by omega
    obtain ⟨g, g1, g2, g3⟩ := lay_in (K := K) (K2 := K2) hO hB hB2 a5 b5 hk hx n (y + 1) f _ (h.set52 (upd (s 52) (x * 10 + y) (wI (nxt (wx r a ((r 5 0 + k) % 13)) (wx r b ((r 5 0 + k) % 13)) G x y)))) (hG.set52 _) (by omega) (by omega)
    rw [us_self] at g1
    rw [us_us] at g3
    refine ⟨g, fun i hi => ?_, fun y' h1 h2 => ?_, ?_⟩
    · rw [g1 i (by omega)]
      unfold upd; rw [if_neg (by omega)]
    · rcases Nat.lt_or_ge y y' with w | w
      · exact g2 y' (by omega) h2
      · have : y' = y := by omega
        subst this
        rw [g1 _ (by omega)]
        unfold upd; rw [if_pos rfl]
    · rw [F_X12_layGame_B47, if_pos (show nI y < 10 from nI_lt (b := 10) (by omega) (by omega))]
      simp only [G_ko, G_gR, G_gI, G_sa, k1, sbd, e5, nI_add, dz_13, hmod, hb, e3, nr, nI_1]
      exact g3
end GD
