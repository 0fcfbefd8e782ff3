/-! THE WHOLE HEAP of a run: 37 cells over the functions s (ints by id and place), l (longs), q (the KIND arrays), and the pool of KIND objects P. Made by wip/whole/tools/genstate.py -/
/-- a KIND object's class: its number, how much higher; its cell -/
def kcn (c : Nat) : Nat := if c = 4 then 1 else if c = 10 then 2 else if c = 0 then 3 else if c = 7 then 4 else 0
def kch (c : Nat) : Nat := if c = 4 then 2 else if c = 7 then 4 else 0
def kcell (c : Nat) : abE := .inr (.inr (c, [.int (nI (kcn c)), .int (nI (kch c))]))
def hp (s : Nat → Nat → Int32) (l : Nat → Nat → Int64) (q : Nat → Nat → Option Nat) (P : List Nat) : abH :=
  [.inr (.inr (11, [.ref 4, .ref 6, .ref 17, .ref 28, .ref 30, .ref 35, .ref 38, .int (s 3 7), .int (s 3 8)])),
   .inr (.inr (6, [.ref 5, .int (s 4 1)])),
   .inl (1, 34, s 5),
   .inr (.inr (1, [.int (s 6 0), .ref 7, .ref 8, .ref 9, .ref 10, .int (s 6 5), .int (s 6 6), .int (s 6 7), .ref 11, .ref 12, .int (s 6 10), .ref 13, .ref 14, .ref 15, .ref 16])),
   .inr (.inl (5, q 7)),
   .inl (0, 5, s 8),
   .inl (0, 5, s 9),
   .inl (0, 10, s 10),
   .inl (0, 5, s 11),
   .inl (0, 5, s 12),
   .inl (0, 8, s 13),
   .inl (0, 8, s 14),
   .inl (0, 8, s 15),
   .inl (0, 8, s 16),
   .inr (.inr (1, [.int (s 17 0), .ref 18, .ref 19, .ref 20, .ref 21, .int (s 17 5), .int (s 17 6), .int (s 17 7), .ref 22, .ref 23, .int (s 17 10), .ref 24, .ref 25, .ref 26, .ref 27])),
   .inr (.inl (5, q 18)),
   .inl (0, 5, s 19),
   .inl (0, 5, s 20),
   .inl (0, 10, s 21),
   .inl (0, 5, s 22),
   .inl (0, 5, s 23),
   .inl (0, 8, s 24),
   .inl (0, 8, s 25),
   .inl (0, 8, s 26),
   .inl (0, 8, s 27),
   .inr (.inr (8, [.ref 29])),
   .inl (0, 10, s 29),
   .inr (.inr (3, [.ref 31, .ref 32, .ref 33, .ref 34, .int (s 30 4), .int (s 30 5)])),
   .inl (0, 10, s 31),
   .inl (0, 10, s 32),
   .inl (0, 100, s 33),
   .inl (0, 100, s 34),
   .inr (.inr (2, [.ref 36, .int (s 35 1), .ref 37, .int (s 35 3)])),
   .inl (0, 5, s 36),
   .inl (0, 5, s 37),
   .inr (.inr (9, [.long (l 38 0), .int (s 38 1), .int (s 38 2)])),
   .inl (0, 39, s 39)] ++ P.map kcell
def us {α : Type} (s : Nat → Nat → α) (a : Nat) (f : Nat → α) : Nat → Nat → α := fun b => cond (Nat.beq b a) f (s b)
theorem us_self {α : Type} (s : Nat → Nat → α) (a : Nat) (f : Nat → α) : us s a f a = f := by simp [us]
theorem us_ne {α : Type} (s : Nat → Nat → α) {a b : Nat} (f : Nat → α) (h : b ≠ a) : us s a f b = s b := by
  have e : Nat.beq b a = false := by
    cases q : Nat.beq b a with
    | false => rfl
    | true => exact absurd (Nat.eq_of_beq_eq_true q) h
  simp [us, e]
theorem abin_n {k n : Nat} (hk : k < n) (hn : n ≤ 100) : abin (nI k) n = true := by
  have h1 : (nI k).toNatClampNeg = k := nI_clamp (by omega)
  have h2 : (0 : Int32) ≤ nI k := nI_pos' (by omega)
  simp [abin, h1, h2, hk]
theorem ga_of {t n k a : Nat} {h : abH} {f : Nat → Int32} (e : abAt h a = some (.inl (t, n, f))) (hk : k < n) (hn : n ≤ 100) : ga t h a (nI k) = some (f k) := by
  have h1 : (nI k).toNatClampNeg = k := nI_clamp (by omega)
  simp [ga, e, abin_n hk hn, h1]
theorem sa_of {t n k a : Nat} {h : abH} {f : Nat → Int32} {x : Int32} (e : abAt h a = some (.inl (t, n, f))) (hk : k < n) (hn : n ≤ 100) : sa t h a (nI k) x = some (h.set (a - 3) (.inl (t, n, upd f k (nr t x)))) := by
  have h1 : (nI k).toNatClampNeg = k := nI_clamp (by omega)
  simp [sa, e, abin_n hk hn, h1]
theorem gq_of {n k a : Nat} {h : abH} {f : Nat → Option Nat} (e : abAt h a = some (.inr (.inl (n, f)))) (hk : k < n) (hn : n ≤ 100) : gq h a (nI k) = some (f k) := by
  have h1 : (nI k).toNatClampNeg = k := nI_clamp (by omega)
  simp [gq, e, abin_n hk hn, h1]
theorem sq_of {n k a v c : Nat} {h : abH} {f : Nat → Option Nat} (e : abAt h a = some (.inr (.inl (n, f)))) (hc : kc h v = some c) (hi : isKd c = true) (hk : k < n) (hn : n ≤ 100) : sq h a (nI k) v = some (h.set (a - 3) (.inr (.inl (n, va_up f k (some v))))) := by
  have h1 : (nI k).toNatClampNeg = k := nI_clamp (by omega)
  simp [sq, e, hc, hi, abin_n hk hn, h1]
theorem acp_of {n a b : Nat} {h : abH} {f g : Nat → Int32} (e : abAt h a = some (.inl (0, n, f))) (e2 : abAt h b = some (.inl (0, n, g))) (hn : n ≤ 100) : acp h a 0 b 0 (nI n) = some (h.set (b - 3) (.inl (0, n, va_cpy f g 0 0 n))) := by
  have h1 : (nI n).toNatClampNeg = n := nI_clamp (by omega)
  have h2 : (0 : Int32) ≤ nI n := nI_pos' (by omega)
  have h3 : (0 : Int32).toNatClampNeg = 0 := by decide
  simp [acp, e, e2, h1, h2, h3]
theorem G_ko {s : Nat → Nat → Int32} {l : Nat → Nat → Int64} {q : Nat → Nat → Option Nat} {P : List Nat} : 
    ko 11 (hp s l q P) 3 = some () ∧
    ko 6 (hp s l q P) 4 = some () ∧
    ko 1 (hp s l q P) 6 = some () ∧
    ko 1 (hp s l q P) 17 = some () ∧
    ko 8 (hp s l q P) 28 = some () ∧
    ko 3 (hp s l q P) 30 = some () ∧
    ko 2 (hp s l q P) 35 = some () ∧
    ko 9 (hp s l q P) 38 = some () := ⟨rfl, rfl, rfl, rfl, rfl, rfl, rfl, rfl⟩
theorem G_gR {s : Nat → Nat → Int32} {l : Nat → Nat → Int64} {q : Nat → Nat → Option Nat} {P : List Nat} : 
    gR 11 (hp s l q P) 3 0 = some 4 ∧
    gR 11 (hp s l q P) 3 1 = some 6 ∧
    gR 11 (hp s l q P) 3 2 = some 17 ∧
    gR 11 (hp s l q P) 3 3 = some 28 ∧
    gR 11 (hp s l q P) 3 4 = some 30 ∧
    gR 11 (hp s l q P) 3 5 = some 35 ∧
    gR 11 (hp s l q P) 3 6 = some 38 ∧
    gR 6 (hp s l q P) 4 0 = some 5 ∧
    gR 1 (hp s l q P) 6 1 = some 7 ∧
    gR 1 (hp s l q P) 6 2 = some 8 ∧
    gR 1 (hp s l q P) 6 3 = some 9 ∧
    gR 1 (hp s l q P) 6 4 = some 10 ∧
    gR 1 (hp s l q P) 6 8 = some 11 ∧
    gR 1 (hp s l q P) 6 9 = some 12 ∧
    gR 1 (hp s l q P) 6 11 = some 13 ∧
    gR 1 (hp s l q P) 6 12 = some 14 ∧
    gR 1 (hp s l q P) 6 13 = some 15 ∧
    gR 1 (hp s l q P) 6 14 = some 16 ∧
    gR 1 (hp s l q P) 17 1 = some 18 ∧
    gR 1 (hp s l q P) 17 2 = some 19 ∧
    gR 1 (hp s l q P) 17 3 = some 20 ∧
    gR 1 (hp s l q P) 17 4 = some 21 ∧
    gR 1 (hp s l q P) 17 8 = some 22 ∧
    gR 1 (hp s l q P) 17 9 = some 23 ∧
    gR 1 (hp s l q P) 17 11 = some 24 ∧
    gR 1 (hp s l q P) 17 12 = some 25 ∧
    gR 1 (hp s l q P) 17 13 = some 26 ∧
    gR 1 (hp s l q P) 17 14 = some 27 ∧
    gR 8 (hp s l q P) 28 0 = some 29 ∧
    gR 3 (hp s l q P) 30 0 = some 31 ∧
    gR 3 (hp s l q P) 30 1 = some 32 ∧
    gR 3 (hp s l q P) 30 2 = some 33 ∧
    gR 3 (hp s l q P) 30 3 = some 34 ∧
    gR 2 (hp s l q P) 35 0 = some 36 ∧
    gR 2 (hp s l q P) 35 2 = some 37 := ⟨rfl, rfl, rfl, rfl, rfl, rfl, rfl, rfl, rfl, rfl, rfl, rfl, rfl, rfl, rfl, rfl, rfl, rfl, rfl, rfl, rfl, rfl, rfl, rfl, rfl, rfl, rfl, rfl, rfl, rfl, rfl, rfl, rfl, rfl, rfl⟩
theorem G_gI {s : Nat → Nat → Int32} {l : Nat → Nat → Int64} {q : Nat → Nat → Option Nat} {P : List Nat} : 
    gI 11 (hp s l q P) 3 7 = some (s 3 7) ∧
    gI 11 (hp s l q P) 3 8 = some (s 3 8) ∧
    gI 6 (hp s l q P) 4 1 = some (s 4 1) ∧
    gI 1 (hp s l q P) 6 0 = some (s 6 0) ∧
    gI 1 (hp s l q P) 6 5 = some (s 6 5) ∧
    gI 1 (hp s l q P) 6 6 = some (s 6 6) ∧
    gI 1 (hp s l q P) 6 7 = some (s 6 7) ∧
    gI 1 (hp s l q P) 6 10 = some (s 6 10) ∧
    gI 1 (hp s l q P) 17 0 = some (s 17 0) ∧
    gI 1 (hp s l q P) 17 5 = some (s 17 5) ∧
    gI 1 (hp s l q P) 17 6 = some (s 17 6) ∧
    gI 1 (hp s l q P) 17 7 = some (s 17 7) ∧
    gI 1 (hp s l q P) 17 10 = some (s 17 10) ∧
    gI 3 (hp s l q P) 30 4 = some (s 30 4) ∧
    gI 3 (hp s l q P) 30 5 = some (s 30 5) ∧
    gI 2 (hp s l q P) 35 1 = some (s 35 1) ∧
    gI 2 (hp s l q P) 35 3 = some (s 35 3) ∧
    gI 9 (hp s l q P) 38 1 = some (s 38 1) ∧
    gI 9 (hp s l q P) 38 2 = some (s 38 2) := ⟨rfl, rfl, rfl, rfl, rfl, rfl, rfl, rfl, rfl, rfl, rfl, rfl, rfl, rfl, rfl, rfl, rfl, rfl, rfl⟩
theorem G_gJ {s : Nat → Nat → Int32} {l : Nat → Nat → Int64} {q : Nat → Nat → Option Nat} {P : List Nat} : 
    gJ 9 (hp s l q P) 38 0 = some (l 38 0) := rfl
theorem G_sI {s : Nat → Nat → Int32} {l : Nat → Nat → Int64} {q : Nat → Nat → Option Nat} {P : List Nat} : 
    (∀ v, sV 11 (hp s l q P) 3 7 (.int v) = some (hp (us s 3 (upd (s 3) 7 v)) l q P)) ∧
    (∀ v, sV 11 (hp s l q P) 3 8 (.int v) = some (hp (us s 3 (upd (s 3) 8 v)) l q P)) ∧
    (∀ v, sV 6 (hp s l q P) 4 1 (.int v) = some (hp (us s 4 (upd (s 4) 1 v)) l q P)) ∧
    (∀ v, sV 1 (hp s l q P) 6 0 (.int v) = some (hp (us s 6 (upd (s 6) 0 v)) l q P)) ∧
    (∀ v, sV 1 (hp s l q P) 6 5 (.int v) = some (hp (us s 6 (upd (s 6) 5 v)) l q P)) ∧
    (∀ v, sV 1 (hp s l q P) 6 6 (.int v) = some (hp (us s 6 (upd (s 6) 6 v)) l q P)) ∧
    (∀ v, sV 1 (hp s l q P) 6 7 (.int v) = some (hp (us s 6 (upd (s 6) 7 v)) l q P)) ∧
    (∀ v, sV 1 (hp s l q P) 6 10 (.int v) = some (hp (us s 6 (upd (s 6) 10 v)) l q P)) ∧
    (∀ v, sV 1 (hp s l q P) 17 0 (.int v) = some (hp (us s 17 (upd (s 17) 0 v)) l q P)) ∧
    (∀ v, sV 1 (hp s l q P) 17 5 (.int v) = some (hp (us s 17 (upd (s 17) 5 v)) l q P)) ∧
    (∀ v, sV 1 (hp s l q P) 17 6 (.int v) = some (hp (us s 17 (upd (s 17) 6 v)) l q P)) ∧
    (∀ v, sV 1 (hp s l q P) 17 7 (.int v) = some (hp (us s 17 (upd (s 17) 7 v)) l q P)) ∧
    (∀ v, sV 1 (hp s l q P) 17 10 (.int v) = some (hp (us s 17 (upd (s 17) 10 v)) l q P)) ∧
    (∀ v, sV 3 (hp s l q P) 30 4 (.int v) = some (hp (us s 30 (upd (s 30) 4 v)) l q P)) ∧
    (∀ v, sV 3 (hp s l q P) 30 5 (.int v) = some (hp (us s 30 (upd (s 30) 5 v)) l q P)) ∧
    (∀ v, sV 2 (hp s l q P) 35 1 (.int v) = some (hp (us s 35 (upd (s 35) 1 v)) l q P)) ∧
    (∀ v, sV 2 (hp s l q P) 35 3 (.int v) = some (hp (us s 35 (upd (s 35) 3 v)) l q P)) ∧
    (∀ v, sV 9 (hp s l q P) 38 1 (.int v) = some (hp (us s 38 (upd (s 38) 1 v)) l q P)) ∧
    (∀ v, sV 9 (hp s l q P) 38 2 (.int v) = some (hp (us s 38 (upd (s 38) 2 v)) l q P)) := ⟨fun _ => rfl, fun _ => rfl, fun _ => rfl, fun _ => rfl, fun _ => rfl, fun _ => rfl, fun _ => rfl, fun _ => rfl, fun _ => rfl, fun _ => rfl, fun _ => rfl, fun _ => rfl, fun _ => rfl, fun _ => rfl, fun _ => rfl, fun _ => rfl, fun _ => rfl, fun _ => rfl, fun _ => rfl⟩
theorem G_sJ {s : Nat → Nat → Int32} {l : Nat → Nat → Int64} {q : Nat → Nat → Option Nat} {P : List Nat} : 
    (∀ v, sV 9 (hp s l q P) 38 0 (.long v) = some (hp s (us l 38 (va_up (l 38) 0 v)) q P)) := fun _ => rfl
theorem G_ga {s : Nat → Nat → Int32} {l : Nat → Nat → Int64} {q : Nat → Nat → Option Nat} {P : List Nat} : 
    (∀ k, k < 34 → ga 1 (hp s l q P) 5 (nI k) = some (s 5 k)) ∧
    (∀ k, k < 5 → ga 0 (hp s l q P) 8 (nI k) = some (s 8 k)) ∧
    (∀ k, k < 5 → ga 0 (hp s l q P) 9 (nI k) = some (s 9 k)) ∧
    (∀ k, k < 5 → ga 0 (hp s l q P) 11 (nI k) = some (s 11 k)) ∧
    (∀ k, k < 5 → ga 0 (hp s l q P) 12 (nI k) = some (s 12 k)) ∧
    (∀ k, k < 10 → ga 0 (hp s l q P) 10 (nI k) = some (s 10 k)) ∧
    (∀ k, k < 8 → ga 0 (hp s l q P) 13 (nI k) = some (s 13 k)) ∧
    (∀ k, k < 8 → ga 0 (hp s l q P) 14 (nI k) = some (s 14 k)) ∧
    (∀ k, k < 8 → ga 0 (hp s l q P) 15 (nI k) = some (s 15 k)) ∧
    (∀ k, k < 8 → ga 0 (hp s l q P) 16 (nI k) = some (s 16 k)) ∧
    (∀ k, k < 5 → ga 0 (hp s l q P) 19 (nI k) = some (s 19 k)) ∧
    (∀ k, k < 5 → ga 0 (hp s l q P) 20 (nI k) = some (s 20 k)) ∧
    (∀ k, k < 5 → ga 0 (hp s l q P) 22 (nI k) = some (s 22 k)) ∧
    (∀ k, k < 5 → ga 0 (hp s l q P) 23 (nI k) = some (s 23 k)) ∧
    (∀ k, k < 10 → ga 0 (hp s l q P) 21 (nI k) = some (s 21 k)) ∧
    (∀ k, k < 8 → ga 0 (hp s l q P) 24 (nI k) = some (s 24 k)) ∧
    (∀ k, k < 8 → ga 0 (hp s l q P) 25 (nI k) = some (s 25 k)) ∧
    (∀ k, k < 8 → ga 0 (hp s l q P) 26 (nI k) = some (s 26 k)) ∧
    (∀ k, k < 8 → ga 0 (hp s l q P) 27 (nI k) = some (s 27 k)) ∧
    (∀ k, k < 10 → ga 0 (hp s l q P) 29 (nI k) = some (s 29 k)) ∧
    (∀ k, k < 10 → ga 0 (hp s l q P) 31 (nI k) = some (s 31 k)) ∧
    (∀ k, k < 10 → ga 0 (hp s l q P) 32 (nI k) = some (s 32 k)) ∧
    (∀ k, k < 100 → ga 0 (hp s l q P) 33 (nI k) = some (s 33 k)) ∧
    (∀ k, k < 100 → ga 0 (hp s l q P) 34 (nI k) = some (s 34 k)) ∧
    (∀ k, k < 5 → ga 0 (hp s l q P) 36 (nI k) = some (s 36 k)) ∧
    (∀ k, k < 5 → ga 0 (hp s l q P) 37 (nI k) = some (s 37 k)) ∧
    (∀ k, k < 39 → ga 0 (hp s l q P) 39 (nI k) = some (s 39 k)) := ⟨fun _ h => ga_of rfl h (by decide), fun _ h => ga_of rfl h (by decide), fun _ h => ga_of rfl h (by decide), fun _ h => ga_of rfl h (by decide), fun _ h => ga_of rfl h (by decide), fun _ h => ga_of rfl h (by decide), fun _ h => ga_of rfl h (by decide), fun _ h => ga_of rfl h (by decide), fun _ h => ga_of rfl h (by decide), fun _ h => ga_of rfl h (by decide), fun _ h => ga_of rfl h (by decide), fun _ h => ga_of rfl h (by decide), fun _ h => ga_of rfl h (by decide), fun _ h => ga_of rfl h (by decide), fun _ h => ga_of rfl h (by decide), fun _ h => ga_of rfl h (by decide), fun _ h => ga_of rfl h (by decide), fun _ h => ga_of rfl h (by decide), fun _ h => ga_of rfl h (by decide), fun _ h => ga_of rfl h (by decide), fun _ h => ga_of rfl h (by decide), fun _ h => ga_of rfl h (by decide), fun _ h => ga_of rfl h (by decide), fun _ h => ga_of rfl h (by decide), fun _ h => ga_of rfl h (by decide), fun _ h => ga_of rfl h (by decide), fun _ h => ga_of rfl h (by decide)⟩
theorem G_sa {s : Nat → Nat → Int32} {l : Nat → Nat → Int64} {q : Nat → Nat → Option Nat} {P : List Nat} : 
    (∀ k x, k < 34 → sa 1 (hp s l q P) 5 (nI k) x = some (hp (us s 5 (upd (s 5) k (nr 1 x))) l q P)) ∧
    (∀ k x, k < 5 → sa 0 (hp s l q P) 8 (nI k) x = some (hp (us s 8 (upd (s 8) k (nr 0 x))) l q P)) ∧
    (∀ k x, k < 5 → sa 0 (hp s l q P) 9 (nI k) x = some (hp (us s 9 (upd (s 9) k (nr 0 x))) l q P)) ∧
    (∀ k x, k < 5 → sa 0 (hp s l q P) 11 (nI k) x = some (hp (us s 11 (upd (s 11) k (nr 0 x))) l q P)) ∧
    (∀ k x, k < 5 → sa 0 (hp s l q P) 12 (nI k) x = some (hp (us s 12 (upd (s 12) k (nr 0 x))) l q P)) ∧
    (∀ k x, k < 10 → sa 0 (hp s l q P) 10 (nI k) x = some (hp (us s 10 (upd (s 10) k (nr 0 x))) l q P)) ∧
    (∀ k x, k < 8 → sa 0 (hp s l q P) 13 (nI k) x = some (hp (us s 13 (upd (s 13) k (nr 0 x))) l q P)) ∧
    (∀ k x, k < 8 → sa 0 (hp s l q P) 14 (nI k) x = some (hp (us s 14 (upd (s 14) k (nr 0 x))) l q P)) ∧
    (∀ k x, k < 8 → sa 0 (hp s l q P) 15 (nI k) x = some (hp (us s 15 (upd (s 15) k (nr 0 x))) l q P)) ∧
    (∀ k x, k < 8 → sa 0 (hp s l q P) 16 (nI k) x = some (hp (us s 16 (upd (s 16) k (nr 0 x))) l q P)) ∧
    (∀ k x, k < 5 → sa 0 (hp s l q P) 19 (nI k) x = some (hp (us s 19 (upd (s 19) k (nr 0 x))) l q P)) ∧
    (∀ k x, k < 5 → sa 0 (hp s l q P) 20 (nI k) x = some (hp (us s 20 (upd (s 20) k (nr 0 x))) l q P)) ∧
    (∀ k x, k < 5 → sa 0 (hp s l q P) 22 (nI k) x = some (hp (us s 22 (upd (s 22) k (nr 0 x))) l q P)) ∧
    (∀ k x, k < 5 → sa 0 (hp s l q P) 23 (nI k) x = some (hp (us s 23 (upd (s 23) k (nr 0 x))) l q P)) ∧
    (∀ k x, k < 10 → sa 0 (hp s l q P) 21 (nI k) x = some (hp (us s 21 (upd (s 21) k (nr 0 x))) l q P)) ∧
    (∀ k x, k < 8 → sa 0 (hp s l q P) 24 (nI k) x = some (hp (us s 24 (upd (s 24) k (nr 0 x))) l q P)) ∧
    (∀ k x, k < 8 → sa 0 (hp s l q P) 25 (nI k) x = some (hp (us s 25 (upd (s 25) k (nr 0 x))) l q P)) ∧
    (∀ k x, k < 8 → sa 0 (hp s l q P) 26 (nI k) x = some (hp (us s 26 (upd (s 26) k (nr 0 x))) l q P)) ∧
    (∀ k x, k < 8 → sa 0 (hp s l q P) 27 (nI k) x = some (hp (us s 27 (upd (s 27) k (nr 0 x))) l q P)) ∧
    (∀ k x, k < 10 → sa 0 (hp s l q P) 29 (nI k) x = some (hp (us s 29 (upd (s 29) k (nr 0 x))) l q P)) ∧
    (∀ k x, k < 10 → sa 0 (hp s l q P) 31 (nI k) x = some (hp (us s 31 (upd (s 31) k (nr 0 x))) l q P)) ∧
    (∀ k x, k < 10 → sa 0 (hp s l q P) 32 (nI k) x = some (hp (us s 32 (upd (s 32) k (nr 0 x))) l q P)) ∧
    (∀ k x, k < 100 → sa 0 (hp s l q P) 33 (nI k) x = some (hp (us s 33 (upd (s 33) k (nr 0 x))) l q P)) ∧
    (∀ k x, k < 100 → sa 0 (hp s l q P) 34 (nI k) x = some (hp (us s 34 (upd (s 34) k (nr 0 x))) l q P)) ∧
    (∀ k x, k < 5 → sa 0 (hp s l q P) 36 (nI k) x = some (hp (us s 36 (upd (s 36) k (nr 0 x))) l q P)) ∧
    (∀ k x, k < 5 → sa 0 (hp s l q P) 37 (nI k) x = some (hp (us s 37 (upd (s 37) k (nr 0 x))) l q P)) ∧
    (∀ k x, k < 39 → sa 0 (hp s l q P) 39 (nI k) x = some (hp (us s 39 (upd (s 39) k (nr 0 x))) l q P)) := ⟨fun _ _ h => (sa_of rfl h (by decide)).trans rfl, fun _ _ h => (sa_of rfl h (by decide)).trans rfl, fun _ _ h => (sa_of rfl h (by decide)).trans rfl, fun _ _ h => (sa_of rfl h (by decide)).trans rfl, fun _ _ h => (sa_of rfl h (by decide)).trans rfl, fun _ _ h => (sa_of rfl h (by decide)).trans rfl, fun _ _ h => (sa_of rfl h (by decide)).trans rfl, fun _ _ h => (sa_of rfl h (by decide)).trans rfl, fun _ _ h => (sa_of rfl h (by decide)).trans rfl, fun _ _ h => (sa_of rfl h (by decide)).trans rfl, fun _ _ h => (sa_of rfl h (by decide)).trans rfl, fun _ _ h => (sa_of rfl h (by decide)).trans rfl, fun _ _ h => (sa_of rfl h (by decide)).trans rfl, fun _ _ h => (sa_of rfl h (by decide)).trans rfl, fun _ _ h => (sa_of rfl h (by decide)).trans rfl, fun _ _ h => (sa_of rfl h (by decide)).trans rfl, fun _ _ h => (sa_of rfl h (by decide)).trans rfl, fun _ _ h => (sa_of rfl h (by decide)).trans rfl, fun _ _ h => (sa_of rfl h (by decide)).trans rfl, fun _ _ h => (sa_of rfl h (by decide)).trans rfl, fun _ _ h => (sa_of rfl h (by decide)).trans rfl, fun _ _ h => (sa_of rfl h (by decide)).trans rfl, fun _ _ h => (sa_of rfl h (by decide)).trans rfl, fun _ _ h => (sa_of rfl h (by decide)).trans rfl, fun _ _ h => (sa_of rfl h (by decide)).trans rfl, fun _ _ h => (sa_of rfl h (by decide)).trans rfl, fun _ _ h => (sa_of rfl h (by decide)).trans rfl⟩
theorem G_gq {s : Nat → Nat → Int32} {l : Nat → Nat → Int64} {q : Nat → Nat → Option Nat} {P : List Nat} : 
    (∀ k, k < 5 → gq (hp s l q P) 7 (nI k) = some (q 7 k)) ∧
    (∀ k, k < 5 → gq (hp s l q P) 18 (nI k) = some (q 18 k)) := ⟨fun _ h => gq_of rfl h (by decide), fun _ h => gq_of rfl h (by decide)⟩
theorem G_gl {s : Nat → Nat → Int32} {l : Nat → Nat → Int64} {q : Nat → Nat → Option Nat} {P : List Nat} : 
    gl (hp s l q P) 5 = some 34 ∧
    gl (hp s l q P) 8 = some 5 ∧
    gl (hp s l q P) 9 = some 5 ∧
    gl (hp s l q P) 11 = some 5 ∧
    gl (hp s l q P) 12 = some 5 ∧
    gl (hp s l q P) 10 = some 10 ∧
    gl (hp s l q P) 13 = some 8 ∧
    gl (hp s l q P) 14 = some 8 ∧
    gl (hp s l q P) 15 = some 8 ∧
    gl (hp s l q P) 16 = some 8 ∧
    gl (hp s l q P) 19 = some 5 ∧
    gl (hp s l q P) 20 = some 5 ∧
    gl (hp s l q P) 22 = some 5 ∧
    gl (hp s l q P) 23 = some 5 ∧
    gl (hp s l q P) 21 = some 10 ∧
    gl (hp s l q P) 24 = some 8 ∧
    gl (hp s l q P) 25 = some 8 ∧
    gl (hp s l q P) 26 = some 8 ∧
    gl (hp s l q P) 27 = some 8 ∧
    gl (hp s l q P) 29 = some 10 ∧
    gl (hp s l q P) 31 = some 10 ∧
    gl (hp s l q P) 32 = some 10 ∧
    gl (hp s l q P) 33 = some 100 ∧
    gl (hp s l q P) 34 = some 100 ∧
    gl (hp s l q P) 36 = some 5 ∧
    gl (hp s l q P) 37 = some 5 ∧
    gl (hp s l q P) 39 = some 39 := ⟨rfl, rfl, rfl, rfl, rfl, rfl, rfl, rfl, rfl, rfl, rfl, rfl, rfl, rfl, rfl, rfl, rfl, rfl, rfl, rfl, rfl, rfl, rfl, rfl, rfl, rfl, rfl⟩
theorem hp_push {s : Nat → Nat → Int32} {l : Nat → Nat → Int64} {q : Nat → Nat → Option Nat} {P : List Nat} (c : Nat) : hp s l q P ++ [kcell c] = hp s l q (P ++ [c]) := by
  simp only [hp, List.map_append, List.append_assoc, List.map_cons, List.map_nil]
theorem hp_len {s : Nat → Nat → Int32} {l : Nat → Nat → Int64} {q : Nat → Nat → Option Nat} {P : List Nat} : (hp s l q P).length + 3 = 40 + P.length := by
  simp only [hp, List.length_append, List.length_map, List.length_cons, List.length_nil]; omega
theorem hp_at {s : Nat → Nat → Int32} {l : Nat → Nat → Int64} {q : Nat → Nat → Option Nat} {P : List Nat} (j : Nat) : abAt (hp s l q P) (40 + j) = (P[j]?).map kcell := by
  rw [show 40 + j = (37 + j) + 3 by omega]
  show (hp s l q P)[37 + j]? = _
  rw [hp, List.getElem?_append_right (by simp)]
  simp
theorem hp_kc {s : Nat → Nat → Int32} {l : Nat → Nat → Int64} {q : Nat → Nat → Option Nat} {P : List Nat} {j c : Nat} (h : P[j]? = some c) : kc (hp s l q P) (40 + j) = some c := by
  simp [kc, hp_at, h, kcell]
theorem hp_ko {s : Nat → Nat → Int32} {l : Nat → Nat → Int64} {q : Nat → Nat → Option Nat} {P : List Nat} {j c : Nat} (h : P[j]? = some c) : ko c (hp s l q P) (40 + j) = some () := by
  simp [ko, hp_at, h, kcell]
theorem hp_g0 {s : Nat → Nat → Int32} {l : Nat → Nat → Int64} {q : Nat → Nat → Option Nat} {P : List Nat} {j c : Nat} (h : P[j]? = some c) (hi : isKd c = true) : gK (hp s l q P) (40 + j) 0 = some (nI (kcn c)) := by
  simp [gK, hp_kc h, hi, gI, gV, hp_at, h, kcell]
theorem hp_g1 {s : Nat → Nat → Int32} {l : Nat → Nat → Int64} {q : Nat → Nat → Option Nat} {P : List Nat} {j c : Nat} (h : P[j]? = some c) (hi : isKd c = true) : gK (hp s l q P) (40 + j) 1 = some (nI (kch c)) := by
  simp [gK, hp_kc h, hi, gI, gV, hp_at, h, kcell]
/-- a new KIND object, its two fields written -/
theorem hp_new {s : Nat → Nat → Int32} {l : Nat → Nat → Int64} {q : Nat → Nat → Option Nat} {P : List Nat} {c : Nat} {x y : Int32} (hi : isKd c = true) (hx : x = nI (kcn c)) (hy : y = nI (kch c)) : F_X5_init (40 + P.length) x y (hp s l q P ++ [.inr (.inr (c, [.int 0, .int 0]))]) = some (hp s l q (P ++ [c])) := by
  have e : ∀ f : List Value, abAt (hp s l q P ++ [.inr (.inr (c, f))]) (40 + P.length) = some (.inr (.inr (c, f))) := by
    intro f
    have hl := hp_len (s := s) (l := l) (q := q) (P := P)
    rw [← hl]
    show (hp s l q P ++ [.inr (.inr (c, f))])[(hp s l q P).length]? = _
    simp
  have e2 : ∀ f g : List Value, List.set (hp s l q P ++ [(.inr (.inr (c, f)) : abE)]) (40 + P.length - 3) (.inr (.inr (c, g)) : abE) = hp s l q P ++ [(.inr (.inr (c, g)) : abE)] := by
    intro f g
    have hl := hp_len (s := s) (l := l) (q := q) (P := P)
    rw [show 40 + P.length - 3 = (hp s l q P).length by omega]
    simp
  have ek : ∀ f : List Value, kc (hp s l q P ++ [.inr (.inr (c, f))]) (40 + P.length) = some c := by
    intro f; simp [kc, e]
  subst hx hy
  rw [← hp_push]
  simp [F_X5_init, sK, ek, hi, sV, e, e2, kcell]
theorem G_sq {s : Nat → Nat → Int32} {l : Nat → Nat → Int64} {q : Nat → Nat → Option Nat} {P : List Nat} {j c : Nat} (h : P[j]? = some c) (hi : isKd c = true) :
    (∀ k, k < 5 → sq (hp s l q P) 7 (nI k) (40 + j) = some (hp s l (us q 7 (va_up (q 7) k (some (40 + j)))) P)) ∧
    (∀ k, k < 5 → sq (hp s l q P) 18 (nI k) (40 + j) = some (hp s l (us q 18 (va_up (q 18) k (some (40 + j)))) P)) :=
  ⟨fun _ hk => (sq_of rfl (hp_kc h) hi hk (by decide)).trans rfl, fun _ hk => (sq_of rfl (hp_kc h) hi hk (by decide)).trans rfl⟩

def hp11 : abH := (hp (fun _ _ => 0) (fun _ _ => 0) (fun _ _ => none) []).take 36
set_option maxRecDepth 100000 in
theorem init_11 : F_X11_init 3 [.inr (.inr (11, [.null, .null, .null, .null, .null, .null, .null, .int 0, .int 0]))] = some hp11 := by
  simp only [F_X11_init, F_X6_init, F_X1_init, F_X8_init, F_X3_init, F_X2_init, F_X9_init, nm, Option.bind_some, sV, abAt]
  simp
  rfl
theorem init_ok (L : Nat) (xs : Nat → Int32) : F_L_law L xs [] = F_L_law_B15 L xs 3 39 200 0 (hp (fun _ _ => 0) (fun _ _ => 0) (fun _ _ => none) []) := by
  have e := init_11
  have e3 : hp11.length = 36 := rfl
  have e4 : hp11 ++ [.inl (0, 39, fun _ => 0)] = hp (fun _ _ => 0) (fun _ _ => 0) (fun _ _ => none) [] := rfl
  simp only [F_L_law, nm, List.nil_append, List.length_nil, Nat.zero_add, e, Option.bind_some, e3, e4]
