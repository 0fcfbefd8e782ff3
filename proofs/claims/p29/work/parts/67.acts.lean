/-! THE ACTS -/
theorem md16 {a : Nat} (ha : a < 2147483648) : nI a - nI a / 16 * 16 = nI (a % 16) := n_mod (d := 16) ha (by omega)
theorem md2 {a : Nat} (ha : a < 2147483648) : nI a - nI a / 2 * 2 = nI (a % 2) := n_mod (d := 2) ha (by omega)
theorem md3 {a : Nat} (ha : a < 2147483648) : nI a - nI a / 3 * 3 = nI (a % 3) := n_mod (d := 3) ha (by omega)
theorem dv16 {a : Nat} (ha : a < 2147483648) : nI a / 16 = nI (a / 16) := n_div (b := 16) ha (by omega)
theorem dv64 {a : Nat} (ha : a < 2147483648) : nI a / 64 = nI (a / 64) := n_div (b := 64) ha (by omega)
theorem dv1024 {a : Nat} (ha : a < 2147483648) : nI a / 1024 = nI (a / 1024) := n_div (b := 1024) ha (by omega)
theorem d16 {α : Type} (K : Option α) : dz 16 K = K := dz_ne (by decide) K
theorem d64 {α : Type} (K : Option α) : dz 64 K = K := dz_ne (by decide) K
theorem d2 {α : Type} (K : Option α) : dz 2 K = K := dz_ne (by decide) K
theorem d3 {α : Type} (K : Option α) : dz 3 K = K := dz_ne (by decide) K
theorem d1024 {α : Type} (K : Option α) : dz 1024 K = K := dz_ne (by decide) K
section AC
variable {s s' : Nat → Nat → Int32} {l : Nat → Nat → Int64} {q : Nat → Nat → Option Nat} {P : List Nat} {r : Nat → Nat → Nat}
def Ac (X : Option (Int32 × abH)) (l : Nat → Nat → Int64) (q : Nat → Nat → Option Nat) (P : List Nat) (r : Nat → Nat → Nat) : Prop := ∃ s' r', X = some (1, hp s' l q P) ∧ St s' q P r' ∧ r' 6 0 ≤ r 6 0 + 1
theorem ac_tick (h : St s q P r) (hd : r 6 0 < 99) : Ac (if nI (r 5 0) = 12 then F_L_act_B48 3 39 39 1 0 (hp s l q P) else F_L_act_B48 3 39 39 1 (nI (r 5 0) + 1) (hp s l q P)) l q P r := by
  obtain ⟨hC, hO, hL, h2, h10, hPg⟩ := h
  have hh : r 5 0 < 13 := hO.2.2.2.2.2.1
  have h6 : s 39 2 = nI (r 6 0) := hL.1.2.2.1
  have x12 : nI (r 5 0) = 12 ↔ r 5 0 = 12 := nI_eq (b := 12) (by omega) (by omega)
  by_cases g : r 5 0 = 12
  · have e1 : ∀ f, us s 39 (upd f 1 0) 39 1 = 0 := fun f => by rw [us_self, upd_s]
    have hC2 : Ct (us s 39 (upd (upd (s 39) 1 0) 2 (nI (r 6 0 + 1)))) q P 6 r := hC
    have ht := c_tick2 (l := l) hC2 hO (by omega) g hd
    have e6 : us s 39 (upd (upd (s 39) 1 0) 2 (nI (r 6 0 + 1))) 6 = s 6 := rfl
    rw [e6] at ht
    refine ⟨us (us s 39 (upd (upd (s 39) 1 0) 2 (nI (r 6 0 + 1)))) 6 (upd (upd (s 6) 6 (nI (r 6 0 + 1))) 5 0), us (us r 5 (fun _ => 0)) 6 (fun _ => r 6 0 + 1), ?_, ⟨⟨⟨hC.1.1, rfl, rfl, hC.1.2.2.2.1, hC.1.2.2.2.2⟩, hC.2.1, hC.2.2⟩, ?_, ⟨⟨hL.1.1, rfl, rfl, hL.1.2.2.2⟩, fun i hi => ?_, fun p hp => ?_, fun i hi => ?_⟩, h2, h10, hPg⟩, Nat.le_refl _⟩
    · have e2 : upd (s 39) 1 0 2 = nI (r 6 0) := by rw [upd_n _ (by omega)]; exact h6
      have e3 : upd (upd (s 39) 1 0) 2 (nI (r 6 0 + 1)) 1 = 0 := by rw [upd_n _ (by omega), upd_s]
      have e4 : ∀ f, us (us s 39 (upd (upd (s 39) 1 0) 2 (nI (r 6 0 + 1)))) 6 f 39 = upd (upd (s 39) 1 0) 2 (nI (r 6 0 + 1)) := fun _ => rfl
      rw [if_pos (x12.mpr g)]
      unfold F_L_act_B48
      simp only [gw, sw, sbd, us_self, us_us, upd_s, e2, reduceIte, F_L_act_B64, nI_1, G_ko, ht, bd2_s, e4, e3]
    · exact ⟨hO.1, hO.2.1, hO.2.2.1, hO.2.2.2.1, hO.2.2.2.2.1, Nat.succ_pos _, show r 6 0 + 1 < 100 by omega, hO.2.2.2.2.2.2.2.1, hO.2.2.2.2.2.2.2.2.1, hO.2.2.2.2.2.2.2.2.2⟩
    · show upd (upd (s 39) 1 0) 2 (nI (r 6 0 + 1)) (4 + i) = nI (r 4 i)
      rw [upd_n _ (by omega), upd_n _ (by omega)]; exact hL.2.1 i hi
    · show upd (upd (s 39) 1 0) 2 (nI (r 6 0 + 1)) (14 + 3 * p) = nI (r 1 p) ∧ upd (upd (s 39) 1 0) 2 (nI (r 6 0 + 1)) (15 + 3 * p) = nI (r 2 p) ∧ upd (upd (s 39) 1 0) 2 (nI (r 6 0 + 1)) (16 + 3 * p) = nI (r 3 p)
      rw [upd_n _ (by omega), upd_n _ (by omega), upd_n _ (by omega), upd_n _ (by omega), upd_n _ (by omega), upd_n _ (by omega)]; exact hL.2.2.1 p hp
    · show upd (upd (s 39) 1 0) 2 (nI (r 6 0 + 1)) (29 + i) = nI (r 8 i) ∧ upd (upd (s 39) 1 0) 2 (nI (r 6 0 + 1)) (34 + i) = nI (r 9 i)
      rw [upd_n _ (by omega), upd_n _ (by omega), upd_n _ (by omega), upd_n _ (by omega)]; exact hL.2.2.2 i hi
  · have hC2 : Ct (us s 39 (upd (upd (s 39) 1 (nI (r 5 0 + 1))) 2 (nI (r 6 0)))) q P 6 r := hC
    have ht := c_tick1 (l := l) hC2 hO (by omega) g
    have e6 : us s 39 (upd (upd (s 39) 1 (nI (r 5 0 + 1))) 2 (nI (r 6 0))) 6 = s 6 := rfl
    rw [e6] at ht
    refine ⟨us (us s 39 (upd (upd (s 39) 1 (nI (r 5 0 + 1))) 2 (nI (r 6 0)))) 6 (upd (s 6) 5 (nI (r 5 0 + 1))), us r 5 (fun _ => r 5 0 + 1), ?_, ⟨⟨⟨hC.1.1, rfl, hC.1.2.2.1, hC.1.2.2.2.1, hC.1.2.2.2.2⟩, hC.2.1, hC.2.2⟩, ?_, ⟨⟨hL.1.1, rfl, rfl, hL.1.2.2.2⟩, fun i hi => ?_, fun p hp => ?_, fun i hi => ?_⟩, h2, h10, hPg⟩, Nat.le_succ _⟩
    · have e2 : upd (s 39) 1 (nI (r 5 0 + 1)) 2 = nI (r 6 0) := by rw [upd_n _ (by omega)]; exact h6
      have e3 : upd (upd (s 39) 1 (nI (r 5 0 + 1))) 2 (nI (r 6 0)) 1 = nI (r 5 0 + 1) := by rw [upd_n _ (by omega), upd_s]
      have e4 : ∀ f, us (us s 39 (upd (upd (s 39) 1 (nI (r 5 0 + 1))) 2 (nI (r 6 0)))) 6 f 39 = upd (upd (s 39) 1 (nI (r 5 0 + 1))) 2 (nI (r 6 0)) := fun _ => rfl
      rw [if_neg (fun w => g (x12.mp w)), nI_1]
      unfold F_L_act_B48
      simp only [gw, sw, sbd, us_self, us_us, upd_s, e2, if_neg (nI_ne0 (show 0 < r 5 0 + 1 by omega) (show r 5 0 + 1 < 2 ^ 31 by omega)), F_L_act_B64, Int32.add_zero, G_ko, ht, bd2_s, e4, e3, reduceIte]
    · exact ⟨hO.1, hO.2.1, hO.2.2.1, hO.2.2.2.1, hO.2.2.2.2.1, show r 5 0 + 1 < 13 by omega, hO.2.2.2.2.2.2⟩
    · show upd (upd (s 39) 1 (nI (r 5 0 + 1))) 2 (nI (r 6 0)) (4 + i) = nI (r 4 i)
      rw [upd_n _ (by omega), upd_n _ (by omega)]; exact hL.2.1 i hi
    · show upd (upd (s 39) 1 (nI (r 5 0 + 1))) 2 (nI (r 6 0)) (14 + 3 * p) = nI (r 1 p) ∧ upd (upd (s 39) 1 (nI (r 5 0 + 1))) 2 (nI (r 6 0)) (15 + 3 * p) = nI (r 2 p) ∧ upd (upd (s 39) 1 (nI (r 5 0 + 1))) 2 (nI (r 6 0)) (16 + 3 * p) = nI (r 3 p)
      rw [upd_n _ (by omega), upd_n _ (by omega), upd_n _ (by omega), upd_n _ (by omega), upd_n _ (by omega), upd_n _ (by omega)]; exact hL.2.2.1 p hp
    · show upd (upd (s 39) 1 (nI (r 5 0 + 1))) 2 (nI (r 6 0)) (29 + i) = nI (r 8 i) ∧ upd (upd (s 39) 1 (nI (r 5 0 + 1))) 2 (nI (r 6 0)) (34 + i) = nI (r 9 i)
      rw [upd_n _ (by omega), upd_n _ (by omega), upd_n _ (by omega), upd_n _ (by omega)]; exact hL.2.2.2 i hi
theorem Lw_tile {p t : Nat} (h : Lw s r) (h5 : r 0 0 ≤ 5) (hp1 : p < r 0 0) (e : s' 39 = upd (s 39) (16 + 3 * p) (nI t)) : Lw s' (us r 3 (va_up (r 3) p t)) := by
  have k : ∀ j, j ≠ 16 + 3 * p → s' 39 j = s 39 j := fun j hj => by rw [e, upd_n _ hj]
  refine ⟨⟨?_, ?_, ?_, ?_⟩, fun i hi => ?_, fun x hx => ⟨?_, ?_, ?_⟩, fun i hi => ?_⟩
  · rw [k 0 (by omega)]; exact h.1.1
  · rw [k 1 (by omega)]; exact h.1.2.1
  · rw [k 2 (by omega)]; exact h.1.2.2.1
  · rw [k 3 (by omega)]; exact h.1.2.2.2
  · rw [k _ (by omega)]; exact h.2.1 i hi
  · rw [k _ (by omega)]; exact (h.2.2.1 x hx).1
  · rw [k _ (by omega)]; exact (h.2.2.1 x hx).2.1
  · show s' 39 (16 + 3 * x) = nI (va_up (r 3) p t x)
    unfold va_up
    by_cases g : x = p
    · rw [if_pos g, g, e, upd_s]
    · rw [if_neg g, k _ (by omega)]; exact (h.2.2.1 x hx).2.2
  · have hi : i < r 7 0 := hi
    rw [k _ (by omega), k _ (by omega)]; exact h.2.2.2 i hi
theorem Lw_high {p t : Nat} (h : Lw s r) (h5 : r 0 0 ≤ 5) (hp1 : p < r 0 0) (e : s' 39 = upd (s 39) (15 + 3 * p) (nI t)) : Lw s' (us r 2 (va_up (r 2) p t)) := by
  have k : ∀ j, j ≠ 15 + 3 * p → s' 39 j = s 39 j := fun j hj => by rw [e, upd_n _ hj]
  refine ⟨⟨?_, ?_, ?_, ?_⟩, fun i hi => ?_, fun x hx => ⟨?_, ?_, ?_⟩, fun i hi => ?_⟩
  · rw [k 0 (by omega)]; exact h.1.1
  · rw [k 1 (by omega)]; exact h.1.2.1
  · rw [k 2 (by omega)]; exact h.1.2.2.1
  · rw [k 3 (by omega)]; exact h.1.2.2.2
  · rw [k _ (by omega)]; exact h.2.1 i hi
  · rw [k _ (by omega)]; exact (h.2.2.1 x hx).1
  · show s' 39 (15 + 3 * x) = nI (va_up (r 2) p t x)
    unfold va_up
    by_cases g : x = p
    · rw [if_pos g, g, e, upd_s]
    · rw [if_neg g, k _ (by omega)]; exact (h.2.2.1 x hx).2.1
  · rw [k _ (by omega)]; exact (h.2.2.1 x hx).2.2
  · have hi : i < r 7 0 := hi
    rw [k _ (by omega), k _ (by omega)]; exact h.2.2.2 i hi
theorem Lw_worth {t w : Nat} (h : Lw s r) (ht : t < 10) (e : s' 39 = upd (s 39) (4 + t) (nI w)) : Lw s' (us r 4 (va_up (r 4) t w)) := by
  have k : ∀ j, j ≠ 4 + t → s' 39 j = s 39 j := fun j hj => by rw [e, upd_n _ hj]
  refine ⟨⟨?_, ?_, ?_, ?_⟩, fun i hi => ?_, fun x hx => ?_, fun i hi => ?_⟩
  · rw [k 0 (by omega)]; exact h.1.1
  · rw [k 1 (by omega)]; exact h.1.2.1
  · rw [k 2 (by omega)]; exact h.1.2.2.1
  · rw [k 3 (by omega)]; exact h.1.2.2.2
  · show s' 39 (4 + i) = nI (va_up (r 4) t w i)
    unfold va_up
    by_cases g : i = t
    · rw [if_pos g, g, e, upd_s]
    · rw [if_neg g, k _ (by omega)]; exact h.2.1 i hi
  · rw [k _ (by omega), k _ (by omega), k _ (by omega)]; exact h.2.2.1 x hx
  · rw [k _ (by omega), k _ (by omega)]; exact h.2.2.2 i hi
theorem St_tile {p t : Nat} (h : St s q P r) (hp1 : p < r 0 0) (ht : t < 10) : St (us (us s 39 (upd (s 39) (16 + 3 * p) (nI t))) 9 (upd (s 9) p (nI t))) q P (us r 3 (va_up (r 3) p t)) := by
  obtain ⟨hC, hO, hL, h2, h10, hPg⟩ := h
  exact ⟨⟨hC.1, ⟨hC.2.1.1, upd_va hC.2.1.2.1 p t, hC.2.1.2.2⟩, hC.2.2⟩, ⟨hO.1, hO.2.1, hO.2.2.1, va_lt hO.2.2.2.1 ht p, hO.2.2.2.2⟩, Lw_tile hL hO.n5 hp1 rfl, h2, h10, hPg⟩
theorem ac_stand {p t : Nat} (h : St s q P r) (hp1 : p < r 0 0) (ht : t < 10) : Ac ((ga 0 (hp s l q P) 39 (nI (14 + 3 * p) + 2)).bind fun v35 => (sa 0 (hp s l q P) 39 (nI (14 + 3 * p) + 2) (nI t)).bind fun h36 => (ga 0 h36 39 (nI (14 + 3 * p) + 2)).bind fun v37 => (ko 11 h36 3).bind fun _ => bd2 (F_X11_stand 3 (nI p) v37 h36) fun v39 h38 => if v39 = v35 then some (1, h38) else some (0, h38)) l q P r := by
  have n5 := h.2.1.n5
  have w2 : nI (14 + 3 * p) + 2 = nI (16 + 3 * p) := by rw [p2b]; congr 1; omega
  have i39 : 16 + 3 * p < 39 := by omega
  have hw := (h.2.2.1.2.2.1 p hp1).2.2
  have hC2 : Ct (us s 39 (upd (s 39) (16 + 3 * p) (nI t))) q P 6 r := h.1
  have ht2 := c_stand (l := l) hC2 h.2.1 hp1 ht
  have e9 : us s 39 (upd (s 39) (16 + 3 * p) (nI t)) 9 = s 9 := rfl
  rw [e9] at ht2
  refine ⟨_, us r 3 (va_up (r 3) p t), ?_, St_tile h hp1 ht, Nat.le_succ _⟩
  simp only [w2, G_ga, G_sa, i39, sbd, hw, nr, u_up, G_ko, ht2, bd2_s, reduceIte]
theorem ac_rise {p t : Nat} (h : St s q P r) (hp1 : p < r 0 0) (h1 : 1 ≤ t) (ht : t < 10) : Ac ((ga 0 (hp s l q P) 39 (nI (14 + 3 * p) + 1)).bind fun v30 => (sa 0 (hp s l q P) 39 (nI (14 + 3 * p) + 1) (nI t)).bind fun h31 => (ga 0 h31 39 (nI (14 + 3 * p) + 1)).bind fun v32 => (ko 11 h31 3).bind fun _ => bd2 (F_X11_rise 3 (nI p) v32 h31) fun v34 h33 => if v34 = v30 then some (1, h33) else some (0, h33)) l q P r := by
  have n5 := h.2.1.n5
  have w2 : nI (14 + 3 * p) + 1 = nI (15 + 3 * p) := by rw [nI_1]; congr 1; omega
  have i39 : 15 + 3 * p < 39 := by omega
  have hw := (h.2.2.1.2.2.1 p hp1).2.1
  have hC2 : Ct (us s 39 (upd (s 39) (15 + 3 * p) (nI t))) q P 6 r := h.1
  have ht2 := c_rise (l := l) hC2 h.2.1 hp1 h1 ht
  have e9 : us s 39 (upd (s 39) (15 + 3 * p) (nI t)) 8 = s 8 := rfl
  rw [e9] at ht2
  obtain ⟨hC, hO, hL, h2, h10, hPg⟩ := h
  refine ⟨us (us s 39 (upd (s 39) (15 + 3 * p) (nI t))) 8 (upd (s 8) p (nI t)), us r 2 (va_up (r 2) p t), ?_, ⟨⟨hC.1, ⟨upd_va hC.2.1.1 p t, hC.2.1.2⟩, hC.2.2⟩, ⟨hO.1, hO.2.1, va_lt hO.2.2.1 ht p, hO.2.2.2⟩, Lw_high hL n5 hp1 rfl, h2, h10, hPg⟩, Nat.le_succ _⟩
  simp only [w2, G_ga, G_sa, i39, sbd, hw, nr, u_up, G_ko, ht2, bd2_s, reduceIte]
theorem ac_lay {t w : Nat} (h : St s q P r) (ht : t < 10) (hw : w < 10) : Ac ((ga 0 (hp s l q P) 39 (4 + nI t)).bind fun v25 => (sa 0 (hp s l q P) 39 (4 + nI t) (nI w)).bind fun h26 => (ga 0 h26 39 (4 + nI t)).bind fun v27 => (ko 11 h26 3).bind fun _ => bd2 (F_X11_lay 3 (nI t) v27 h26) fun v29 h28 => if v29 = v25 then some (1, h28) else some (0, h28)) l q P r := by
  have i39 : 4 + t < 39 := by omega
  have hv := h.2.2.1.2.1 t ht
  have hC2 : Ct (us s 39 (upd (s 39) (4 + t) (nI w))) q P 6 r := h.1
  have ht2 := c_lay (l := l) hC2 h.2.1 (show 0 < r 0 0 by have := h.2.2.2.1; omega) ht hw
  have e9 : us s 39 (upd (s 39) (4 + t) (nI w)) 10 = s 10 := rfl
  rw [e9] at ht2
  obtain ⟨hC, hO, hL, h2, h10, hPg⟩ := h
  refine ⟨us (us s 39 (upd (s 39) (4 + t) (nI w))) 10 (upd (s 10) t (nI w)), us r 4 (va_up (r 4) t w), ?_, ⟨⟨hC.1, ⟨hC.2.1.1, hC.2.1.2.1, upd_va hC.2.1.2.2.1 t w, hC.2.1.2.2.2⟩, hC.2.2⟩, ⟨hO.1, hO.2.1, hO.2.2.1, hO.2.2.2.1, va_lt hO.2.2.2.2.1 hw t, hO.2.2.2.2.2⟩, Lw_worth hL ht rfl, h2, h10, hPg⟩, Nat.le_succ _⟩
  simp only [p4a, G_ga, G_sa, i39, sbd, hv, nr, u_up, G_ko, ht2, bd2_s, reduceIte]
theorem ac_step {p : Nat} {d : Int32} (h : St s q P r) (hp1 : p < r 0 0) (hd : d = 1 ∨ d = -1) : Ac (F_L_act_B102 3 39 (nI p) (nI (14 + 3 * p)) d (hp s l q P)) l q P r := by
  have n5 := h.2.1.n5
  have w2 : nI (14 + 3 * p) + 2 = nI (16 + 3 * p) := by rw [p2b]; congr 1; omega
  have i39 : 16 + 3 * p < 39 := by omega
  have hw := (h.2.2.1.2.2.1 p hp1).2.2
  unfold F_L_act_B102
  rcases wi_09 (nI (r 3 p) + d) with h0 | ⟨_, t, ht, h2⟩
  · have hs := c_step_w (l := l) h.1 h.2.1 hp1 hd h0
    refine ⟨s, r, ?_, h, Nat.le_succ _⟩
    have hB : F_L_act_B127 3 (nI p) d (hp s l q P) = some (1, hp s l q P) := by
      unfold F_L_act_B127
      simp only [G_ko, sbd, hs, bd2_s, reduceIte]
    simp only [w2, G_ga, i39, sbd, hw, nme, hB]
    unfold wi at h0
    by_cases g1 : nI (r 3 p) + d < 0
    · rw [if_pos g1]
    · rw [if_neg g1]
      by_cases g2 : nI (r 3 p) + d ≤ 9
      · rw [if_neg g1, if_pos g2] at h0
        exact absurd h0 z1
      · rw [if_neg g2]
  · have hC2 : Ct (us s 39 (upd (s 39) (16 + 3 * p) (nI t))) q P 6 r := h.1
    have hs := c_step (l := l) hC2 h.2.1 hp1 hd ht h2
    have e9 : us s 39 (upd (s 39) (16 + 3 * p) (nI t)) 9 = s 9 := rfl
    rw [e9] at hs
    refine ⟨_, us r 3 (va_up (r 3) p t), ?_, St_tile h hp1 ht, Nat.le_succ _⟩
    simp only [w2, G_ga, G_sa, i39, sbd, hw, nme, nr, h2, if_neg (nI_pos (show t < 2 ^ 31 by omega)), if_pos (show nI t ≤ 9 from nI_le (b := 9) (by omega) (by omega)), G_ko, hs, bd2_s, reduceIte]
theorem ac_settle (h : St s q P r) : Ac ((sa 0 (hp s l q P) 39 3 0).bind fun h21 => (ko 11 h21 3).bind fun _ => bd2 (F_X11_settle 3 h21) fun v23 h22 => if v23 = s 39 3 then some (1, h22) else some (0, h22)) l q P r := by
  have hC2 : Ct (us s 39 (upd (s 39) 3 0)) q P 6 r := h.1
  have hs := c_settle (l := l) hC2
  have e6 : us s 39 (upd (s 39) 3 0) 6 = s 6 := rfl
  rw [e6] at hs
  obtain ⟨hC, hO, hL, h2, h10, hPg⟩ := h
  have h7 : s 39 3 = nI (r 7 0) := hL.1.2.2.2
  refine ⟨us (us s 39 (upd (s 39) 3 0)) 6 (upd (s 6) 7 0), us r 7 (fun _ => 0), ?_, ⟨⟨⟨hC.1.1, hC.1.2.1, hC.1.2.2.1, rfl, hC.1.2.2.2.2⟩, hC.2.1, hC.2.2⟩, ⟨hO.1, hO.2.1, hO.2.2.1, hO.2.2.2.1, hO.2.2.2.2.1, hO.2.2.2.2.2.1, hO.2.2.2.2.2.2.1, Nat.zero_le _, fun i hi => absurd hi (Nat.not_lt_zero _), hO.2.2.2.2.2.2.2.2.2⟩, ⟨⟨hL.1.1, hL.1.2.1, hL.1.2.2.1, rfl⟩, fun i hi => ?_, fun p hp => ?_, fun i hi => absurd hi (Nat.not_lt_zero _)⟩, h2, h10, hPg⟩, Nat.le_succ _⟩
  · simp only [gw, sw, sbd, h7, G_ko, hs, bd2_s, reduceIte]
  · show upd (s 39) 3 0 (4 + i) = nI (r 4 i)
    rw [upd_n _ (by omega)]; exact hL.2.1 i hi
  · show upd (s 39) 3 0 (14 + 3 * p) = nI (r 1 p) ∧ upd (s 39) 3 0 (15 + 3 * p) = nI (r 2 p) ∧ upd (s 39) 3 0 (16 + 3 * p) = nI (r 3 p)
    rw [upd_n _ (by omega), upd_n _ (by omega), upd_n _ (by omega)]; exact hL.2.2.1 p hp
theorem other_ok {p k m : Nat} (hp1 : p < m) (hk : k < m - 1) : (p + 1 + k) % m < m ∧ p ≠ (p + 1 + k) % m := by
  refine ⟨Nat.mod_lt _ (by omega), ?_⟩
  rcases Nat.lt_or_ge (p + 1 + k) m with g | g
  · rw [Nat.mod_eq_of_lt g]; omega
  · rw [Nat.mod_eq_sub_mod g, Nat.mod_eq_of_lt (by omega)]; omega
theorem ac_file {p X : Nat} (h : St s q P r) (hp1 : p < r 0 0) (hX : X < 2147483648) : Ac (F_L_act_B350 3 (nI X) 39 (nI p) (hp s l q P)) l q P r := by
  have n5 := h.2.1.n5
  have hm2 := h.2.2.2.1
  have h0 : s 39 0 = nI (r 0 0) := h.2.2.1.1.1
  have h7 : s 39 3 = nI (r 7 0) := h.2.2.1.1.2.2.2
  have h75 : r 7 0 ≤ 5 := h.2.1.2.2.2.2.2.2.2.1
  have ms : nI (r 0 0) - 1 = nI (r 0 0 - 1) := n_subn (b := 1) (by omega)
  have hd1 : ∀ {α : Type} (K : Option α), dz (nI (r 0 0 - 1)) K = K := fun K => dz_ne (nI_ne0 (by omega) (by omega)) K
  have hd2 : ∀ {α : Type} (K : Option α), dz (nI (r 0 0)) K = K := fun K => dz_ne (nI_ne0 (by omega) (by omega)) K
  have hX2 : X / 64 < 2147483648 := by omega
  have e1 := n_mod hX2 (show r 0 0 - 1 < 2147483648 by omega)
  have hk := Nat.mod_lt (X / 64) (show r 0 0 - 1 > 0 by omega)
  revert e1 hk
  generalize X / 64 % (r 0 0 - 1) = k
  intro e1 hk
  have e2 := n_mod (a := p + 1 + k) (d := r 0 0) (by omega) (by omega)
  obtain ⟨ho, hop⟩ := other_ok hp1 hk
  revert e2 ho hop
  generalize (p + 1 + k) % r 0 0 = o
  intro e2 ho hop
  have x5 : nI (r 7 0) = 5 ↔ r 7 0 = 5 := nI_eq (b := 5) (by omega) (by omega)
  unfold F_L_act_B350
  simp only [d64, gw, sbd, h0, ms, hd1, hd2, dv64 hX, e1, nI_1, nI_add, e2, nme, h7]
  by_cases g5 : r 7 0 = 5
  · have hf := c_file_f (l := l) h.1 h.2.1 hp1 ho hop g5
    refine ⟨s, r, ?_, h, Nat.le_succ _⟩
    rw [if_pos (x5.mpr g5)]
    simp only [G_ko, sbd, hf, bd2_s, reduceIte]
  · obtain ⟨hC, hO, hL, h2, h10, hPg⟩ := h
    have g5' : r 7 0 < 5 := by omega
    have i39 : 29 + r 7 0 < 39 ∧ 34 + r 7 0 < 39 := by omega
    have hS : ∃ g : Nat → Int32, g 3 = nI (r 7 0 + 1) ∧ g (29 + r 7 0) = nI p ∧ g (34 + r 7 0) = nI o ∧ (∀ j, j ≠ 3 → j ≠ 29 + r 7 0 → j ≠ 34 + r 7 0 → g j = s 39 j) ∧ g = upd (upd (upd (s 39) (29 + r 7 0) (nI p)) (34 + r 7 0) (nI o)) 3 (nI (r 7 0 + 1)) := by
      refine ⟨_, ?_, ?_, ?_, fun j j1 j2 j3 => ?_, rfl⟩
      · rw [upd_s]
      · rw [upd_n _ (by omega), upd_n _ (by omega), upd_s]
      · rw [upd_n _ (by omega), upd_s]
      · rw [upd_n _ j1, upd_n _ j3, upd_n _ j2]
    obtain ⟨g, g1, g2, g3, g4, g6⟩ := hS
    have hC2 : Ct (us s 39 g) q P 6 r := hC
    have hf := c_file (l := l) hC2 hO hp1 ho hop g5'
    have u11 : us s 39 g 11 = s 11 := rfl
    have u12 : us s 39 g 12 = s 12 := rfl
    have u6 : us s 39 g 6 = s 6 := rfl
    rw [u11, u12, u6] at hf
    have uz : ∀ a b c, us (us (us (us s 39 g) 11 a) 12 b) 6 c 39 = g := fun _ _ _ => rfl
    have v3 : upd (s 39) (29 + r 7 0) (nI p) 3 = nI (r 7 0) := by rw [upd_n _ (by omega)]; exact h7
    have v4 : upd (upd (s 39) (29 + r 7 0) (nI p)) (34 + r 7 0) (nI o) 3 = nI (r 7 0) := by rw [upd_n _ (by omega)]; exact v3
    refine ⟨us (us (us (us s 39 g) 11 (upd (s 11) (r 7 0) (nI p))) 12 (upd (s 12) (r 7 0) (nI o))) 6 (upd (s 6) 7 (nI (r 7 0 + 1))), us (us (us r 8 (va_up (r 8) (r 7 0) p)) 9 (va_up (r 9) (r 7 0) o)) 7 (fun _ => r 7 0 + 1), ?_, ⟨⟨⟨hC.1.1, hC.1.2.1, hC.1.2.2.1, rfl, hC.1.2.2.2.2⟩, ⟨hC.2.1.1, hC.2.1.2.1, hC.2.1.2.2.1, upd_va hC.2.1.2.2.2.1 (r 7 0) p, upd_va hC.2.1.2.2.2.2.1 (r 7 0) o, hC.2.1.2.2.2.2.2⟩, hC.2.2⟩, ?_, ⟨⟨?_, ?_, ?_, g1⟩, fun i hi => ?_, fun x hx => ?_, fun i hi => ?_⟩, h2, h10, hPg⟩, Nat.le_succ _⟩
    · rw [if_neg (fun w => g5 (x5.mp w))]
      simp only [p29a, p34a, G_sa, G_ga, i39, sbd, nr, gw, sw, us_self, us_us, v3, v4, nI_1, ← g6, G_ko, hf, bd2_s, uz, g1, reduceIte]
    · refine ⟨hO.1, hO.2.1, hO.2.2.1, hO.2.2.2.1, hO.2.2.2.2.1, hO.2.2.2.2.2.1, hO.2.2.2.2.2.2.1, g5', fun i hi => ?_, hO.2.2.2.2.2.2.2.2.2⟩
      have hi : i < r 7 0 + 1 := hi
      show va_up (r 8) (r 7 0) p i < r 0 0 ∧ va_up (r 9) (r 7 0) o i < r 0 0
      unfold va_up
      by_cases gi : i = r 7 0
      · rw [if_pos gi, if_pos gi]; exact ⟨hp1, ho⟩
      · rw [if_neg gi, if_neg gi]; exact hO.2.2.2.2.2.2.2.2.1 i (by omega)
    · show g 0 = _
      rw [g4 0 (by omega) (by omega) (by omega)]; exact hL.1.1
    · show g 1 = _
      rw [g4 1 (by omega) (by omega) (by omega)]; exact hL.1.2.1
    · show g 2 = _
      rw [g4 2 (by omega) (by omega) (by omega)]; exact hL.1.2.2.1
    · show g (4 + i) = nI (r 4 i)
      rw [g4 _ (by omega) (by omega) (by omega)]; exact hL.2.1 i hi
    · have hx : x < r 0 0 := hx
      show g (14 + 3 * x) = nI (r 1 x) ∧ g (15 + 3 * x) = nI (r 2 x) ∧ g (16 + 3 * x) = nI (r 3 x)
      rw [g4 _ (by omega) (by omega) (by omega), g4 _ (by omega) (by omega) (by omega), g4 _ (by omega) (by omega) (by omega)]; exact hL.2.2.1 x hx
    · have hi : i < r 7 0 + 1 := hi
      show g (29 + i) = nI (va_up (r 8) (r 7 0) p i) ∧ g (34 + i) = nI (va_up (r 9) (r 7 0) o i)
      unfold va_up
      by_cases gi : i = r 7 0
      · rw [if_pos gi, if_pos gi, gi]; exact ⟨g2, g3⟩
      · rw [if_neg gi, if_neg gi, g4 _ (by omega) (by omega) (by omega), g4 _ (by omega) (by omega) (by omega)]; exact hL.2.2.2 i (by omega)
theorem ac_all {X : Nat} (h : St s q P r) (hX : X < 2147483648) (hd : r 6 0 < 99) : Ac (F_L_act 3 (nI X) 39 (hp s l q P)) l q P r := by
  have n5 := h.2.1.n5
  have hm2 := h.2.2.2.1
  have h0 : s 39 0 = nI (r 0 0) := h.2.2.1.1.1
  have h1 : s 39 1 = nI (r 5 0) := h.2.2.1.1.2.1
  have hd2 : ∀ {α : Type} (K : Option α), dz (nI (r 0 0)) K = K := fun K => dz_ne (nI_ne0 (by omega) (by omega)) K
  have e2 := n_mod (a := X / 16) (d := r 0 0) (by omega) (by omega)
  have hp1 := Nat.mod_lt (X / 16) (show r 0 0 > 0 by omega)
  revert e2 hp1
  generalize X / 16 % r 0 0 = p
  intro e2 hp1
  have hw := Nat.mod_lt X (show 16 > 0 by omega)
  have hm := md16 hX
  revert hm hw
  generalize X % 16 = a
  intro hw hm
  have x64 : X / 64 < 2147483648 := by omega
  have y1 := md2 x64
  have y2 := md10 x64
  have y3 := md9 x64
  have y4 := md3 x64
  have y5 := md10 (a := X / 1024) (by omega)
  have l10 := Nat.mod_lt (X / 64) (show 10 > 0 by omega)
  have l9 := Nat.mod_lt (X / 64) (show 9 > 0 by omega)
  have l1024 := Nat.mod_lt (X / 1024) (show 10 > 0 by omega)
  have lt : ∀ b, b < 16 → (nI a < nI b ↔ a < b) := fun b hb => nI_ltI (by omega) (by omega)
  have c5 : nI a < 5 ↔ a < 5 := lt 5 (by omega)
  have c8 : nI a < 8 ↔ a < 8 := lt 8 (by omega)
  have c10 : nI a < 10 ↔ a < 10 := lt 10 (by omega)
  have c12 : nI a < 12 ↔ a < 12 := lt 12 (by omega)
  have c13 : nI a < 13 ↔ a < 13 := lt 13 (by omega)
  have c15 : nI a < 15 ↔ a < 15 := lt 15 (by omega)
  unfold F_L_act
  simp only [d16, hm]
  simp only [d16, nme, gw, sbd, h0, hd2, dv16 hX, e2, m3a, h1]
  by_cases k5 : a < 5
  · rw [if_pos (c5.mpr k5)]; exact ac_tick h hd
  rw [if_neg (fun w => k5 (c5.mp w))]
  by_cases k8 : a < 8
  · rw [if_pos (c8.mpr k8)]
    simp only [d64, d2, dv64 hX, y1]
    by_cases g : nI (X / 64 % 2) = 0
    · rw [if_pos g]; exact ac_step h hp1 (Or.inr rfl)
    · rw [if_neg g]; exact ac_step h hp1 (Or.inl rfl)
  rw [if_neg (fun w => k8 (c8.mp w))]
  by_cases k10 : a < 10
  · rw [if_pos (c10.mpr k10)]
    simp only [d64, d10, dv64 hX, y2]
    exact ac_stand h hp1 l10
  rw [if_neg (fun w => k10 (c10.mp w))]
  by_cases k12 : a < 12
  · rw [if_pos (c12.mpr k12)]
    simp only [d64, d9, dv64 hX, y3, p1a]
    exact ac_rise h hp1 (by omega) (by omega)
  rw [if_neg (fun w => k12 (c12.mp w))]
  by_cases k13 : a < 13
  · rw [if_pos (c13.mpr k13)]
    simp only [d64, d10, d1024, dv64 hX, dv1024 hX, y2, y5, nme]
    exact ac_lay h l10 l1024
  rw [if_neg (fun w => k13 (c13.mp w))]
  by_cases k15 : a < 15
  · rw [if_pos (c15.mpr k15)]; exact ac_file h hp1 hX
  rw [if_neg (fun w => k15 (c15.mp w))]
  simp only [d64, d3, dv64 hX, y4]
  by_cases g : nI (X / 64 % 3) ≤ 0
  · rw [if_pos g]
    exact ac_settle h
  · rw [if_neg g]; exact ac_file h hp1 hX
end AC
