/-! THE WHOLE HEAP of a run: 61 cells over the functions s (ints by id and place), l (longs), q (the KIND arrays), and the pool of KIND objects P. Made by wip/whole/tools/genstate.py -/
/-- a KIND object's class: its number, how much higher; its cell -/
def kcn (c : Nat) : Nat := if c = 4 then 1 else if c = 10 then 2 else if c = 0 then 3 else if c = 7 then 4 else 0
def kch (c : Nat) : Nat := if c = 4 then 2 else if c = 7 then 4 else 0
def kcell (c : Nat) : abE := .inr (.inr (c, [.int (nI (kcn c)), .int (nI (kch c))]))
def hp (s : Nat → Nat → Int32) (l : Nat → Nat → Int64) (q : Nat → Nat → Option Nat) (P : List Nat) : abH :=
  [.inr (.inr (11, [.ref 4, .ref 6, .ref 17, .ref 28, .ref 30, .ref 35, .ref 38, .int (s 3 7), .int (s 3 8)])),
   .inr (.inr (6, [.ref 5, .int (s 4 1)])),
   .inl (1, 34, s 5),
   .inr (.inr (1, [.int (s 6 0), .ref 7, .ref 8, .ref 9, .ref 10, .int (s 6 5), .int (s 6 6), .int (s 6 7), .ref 11, .ref 12, .int (s 6 10), .ref 13, .ref 14, .ref 15, .ref 16])),
   .inr (.inl (5, q 7)),
   .inl (0, 5, s 8),
   .inl (0, 5, s 9),
   .inl (0, 10, s 10),
   .inl (0, 5, s 11),
   .inl (0, 5, s 12),
   .inl (0, 8, s 13),
   .inl (0, 8, s 14),
   .inl (0, 8, s 15),
   .inl (0, 8, s 16),
   .inr (.inr (1, [.int (s 17 0), .ref 18, .ref 19, .ref 20, .ref 21, .int (s 17 5), .int (s 17 6), .int (s 17 7), .ref 22, .ref 23, .int (s 17 10), .ref 24, .ref 25, .ref 26, .ref 27])),
   .inr (.inl (5, q 18)),
   .inl (0, 5, s 19),
   .inl (0, 5, s 20),
   .inl (0, 10, s 21),
   .inl (0, 5, s 22),
   .inl (0, 5, s 23),
   .inl (0, 8, s 24),
   .inl (0, 8, s 25),
   .inl (0, 8, s 26),
   .inl (0, 8, s 27),
   .inr (.inr (8, [.ref 29])),
   .inl (0, 10, s 29),
   .inr (.inr (3, [.ref 31, .ref 32, .ref 33, .ref 34, .int (s 30 4), .int (s 30 5)])),
   .inl (0, 10, s 31),
   .inl (0, 10, s 32),
   .inl (0, 100, s 33),
   .inl (0, 100, s 34),
   .inr (.inr (2, [.ref 36, .int (s 35 1), .ref 37, .int (s 35 3)])),
   .inl (0, 5, s 36),
   .inl (0, 5, s 37),
   .inr (.inr (9, [.long (l 38 0), .int (s 38 1), .int (s 38 2)])),
   .inr (.inr (12, [.int (s 39 0), .int (s 39 1), .ref 40, .ref 41, .ref 42, .ref 43, .int (s 39 6), .int (s 39 7), .int (s 39 8), .ref 44, .ref 45, .int (s 39 11), .ref 46, .ref 47, .ref 48, .ref 49, .int (s 39 16), .ref 50, .int (s 39 18), .int (s 39 19), .ref 51, .ref 52, .ref 53, .ref 54, .long (l 39 24), .int (s 39 25), .int (s 39 26), .int (s 39 27), .int (s 39 28), .int (s 39 29), .int (s 39 30), .ref 55, .ref 56, .ref 57, .ref 58, .ref 59, .ref 60, .ref 61, .ref 62, .ref 63, .long (l 39 40)])),
   .inl (0, 10, s 40),
   .inl (0, 5, s 41),
   .inl (0, 5, s 42),
   .inl (0, 5, s 43),
   .inl (0, 5, s 44),
   .inl (0, 5, s 45),
   .inl (0, 8, s 46),
   .inl (0, 8, s 47),
   .inl (0, 8, s 48),
   .inl (0, 8, s 49),
   .inl (2, 34, s 50),
   .inl (0, 100, s 51),
   .inl (0, 100, s 52),
   .inl (0, 5, s 53),
   .inl (0, 5, s 54),
   .inl (0, 10, s 55),
   .inl (0, 5, s 56),
   .inl (0, 5, s 57),
   .inl (0, 5, s 58),
   .inl (0, 5, s 59),
   .inl (0, 8, s 60),
   .inl (0, 8, s 61),
   .inl (0, 8, s 62),
   .inl (0, 8, s 63)] ++ P.map kcell
def us {α : Type} (s : Nat → Nat → α) (a : Nat) (f : Nat → α) : Nat → Nat → α := fun b => cond (Nat.beq b a) f (s b)
theorem us_self {α : Type} (s : Nat → Nat → α) (a : Nat) (f : Nat → α) : us s a f a = f := by simp [us]
theorem us_ne {α : Type} (s : Nat → Nat → α) {a b : Nat} (f : Nat → α) (h : b ≠ a) : us s a f b = s b := by
  have e : Nat.beq b a = false := by
    cases q : Nat.beq b a with
    | false => rfl
    | true => exact absurd (Nat.eq_of_beq_eq_true q) h
  simp [us, e]
theorem abin_n {k n : Nat} (hk : k < n) (hn : n ≤ 100) : abin (nI k) n = true := by
  have h1 : (nI k).toNatClampNeg = k := nI_clamp (by omega)
  have h2 : (0 : Int32) ≤ nI k := nI_pos' (by omega)
  simp [abin, h1, h2, hk]
theorem ga_of {t n k a : Nat} {h : abH} {f : Nat → Int32} (e : abAt h a = some (.inl (t, n, f))) (hk : k < n) (hn : n ≤ 100) : ga t h a (nI k) = some (f k) := by
  have h1 : (nI k).toNatClampNeg = k := nI_clamp (by omega)
  simp [ga, e, abin_n hk hn, h1]
theorem sa_of {t n k a : Nat} {h : abH} {f : Nat → Int32} {x : Int32} (e : abAt h a = some (.inl (t, n, f))) (hk : k < n) (hn : n ≤ 100) : sa t h a (nI k) x = some (h.set (a - 3) (.inl (t, n, upd f k (nr t x)))) := by
  have h1 : (nI k).toNatClampNeg = k := nI_clamp (by omega)
  simp [sa, e, abin_n hk hn, h1]
theorem gq_of {n k a : Nat} {h : abH} {f : Nat → Option Nat} (e : abAt h a = some (.inr (.inl (n, f)))) (hk : k < n) (hn : n ≤ 100) : gq h a (nI k) = some (f k) := by
  have h1 : (nI k).toNatClampNeg = k := nI_clamp (by omega)
  simp [gq, e, abin_n hk hn, h1]
theorem sq_of {n k a v c : Nat} {h : abH} {f : Nat → Option Nat} (e : abAt h a = some (.inr (.inl (n, f)))) (hc : kc h v = some c) (hi : isKd c = true) (hk : k < n) (hn : n ≤ 100) : sq h a (nI k) v = some (h.set (a - 3) (.inr (.inl (n, va_up f k (some v))))) := by
  have h1 : (nI k).toNatClampNeg = k := nI_clamp (by omega)
  simp [sq, e, hc, hi, abin_n hk hn, h1]
theorem acp_of {n a b : Nat} {h : abH} {f g : Nat → Int32} (e : abAt h a = some (.inl (0, n, f))) (e2 : abAt h b = some (.inl (0, n, g))) (hn : n ≤ 100) : acp h a 0 b 0 (nI n) = some (h.set (b - 3) (.inl (0, n, va_cpy f g 0 0 n))) := by
  have h1 : (nI n).toNatClampNeg = n := nI_clamp (by omega)
  have h2 : (0 : Int32) ≤ nI n := nI_pos' (by omega)
  have h3 : (0 : Int32).toNatClampNeg = 0 := by decide
  simp [acp, e, e2, h1, h2, h3]
theorem G_ko {s : Nat → Nat → Int32} {l : Nat → Nat → Int64} {q : Nat → Nat → Option Nat} {P : List Nat} : 
    ko 11 (hp s l q P) 3 = some () ∧
    ko 6 (hp s l q P) 4 = some () ∧
    ko 1 (hp s l q P) 6 = some () ∧
    ko 1 (hp s l q P) 17 = some () ∧
    ko 8 (hp s l q P) 28 = some () ∧
    ko 3 (hp s l q P) 30 = some () ∧
    ko 2 (hp s l q P) 35 = some () ∧
    ko 9 (hp s l q P) 38 = some () ∧
    ko 12 (hp s l q P) 39 = some () := ⟨rfl, rfl, rfl, rfl, rfl, rfl, rfl, rfl, rfl⟩
theorem G_gR {s : Nat → Nat → Int32} {l : Nat → Nat → Int64} {q : Nat → Nat → Option Nat} {P : List Nat} : 
    gR 11 (hp s l q P) 3 0 = some 4 ∧
    gR 11 (hp s l q P) 3 1 = some 6 ∧
    gR 11 (hp s l q P) 3 2 = some 17 ∧
    gR 11 (hp s l q P) 3 3 = some 28 ∧
    gR 11 (hp s l q P) 3 4 = some 30 ∧
    gR 11 (hp s l q P) 3 5 = some 35 ∧
    gR 11 (hp s l q P) 3 6 = some 38 ∧
    gR 6 (hp s l q P) 4 0 = some 5 ∧
    gR 1 (hp s l q P) 6 1 = some 7 ∧
    gR 1 (hp s l q P) 6 2 = some 8 ∧
    gR 1 (hp s l q P) 6 3 = some 9 ∧
    gR 1 (hp s l q P) 6 4 = some 10 ∧
    gR 1 (hp s l q P) 6 8 = some 11 ∧
    gR 1 (hp s l q P) 6 9 = some 12 ∧
    gR 1 (hp s l q P) 6 11 = some 13 ∧
    gR 1 (hp s l q P) 6 12 = some 14 ∧
    gR 1 (hp s l q P) 6 13 = some 15 ∧
    gR 1 (hp s l q P) 6 14 = some 16 ∧
    gR 1 (hp s l q P) 17 1 = some 18 ∧
    gR 1 (hp s l q P) 17 2 = some 19 ∧
    gR 1 (hp s l q P) 17 3 = some 20 ∧
    gR 1 (hp s l q P) 17 4 = some 21 ∧
    gR 1 (hp s l q P) 17 8 = some 22 ∧
    gR 1 (hp s l q P) 17 9 = some 23 ∧
    gR 1 (hp s l q P) 17 11 = some 24 ∧
    gR 1 (hp s l q P) 17 12 = some 25 ∧
    gR 1 (hp s l q P) 17 13 = some 26 ∧
    gR 1 (hp s l q P) 17 14 = some 27 ∧
    gR 8 (hp s l q P) 28 0 = some 29 ∧
    gR 3 (hp s l q P) 30 0 = some 31 ∧
    gR 3 (hp s l q P) 30 1 = some 32 ∧
    gR 3 (hp s l q P) 30 2 = some 33 ∧
    gR 3 (hp s l q P) 30 3 = some 34 ∧
    gR 2 (hp s l q P) 35 0 = some 36 ∧
    gR 2 (hp s l q P) 35 2 = some 37 ∧
    gR 12 (hp s l q P) 39 2 = some 40 ∧
    gR 12 (hp s l q P) 39 3 = some 41 ∧
    gR 12 (hp s l q P) 39 4 = some 42 ∧
    gR 12 (hp s l q P) 39 5 = some 43 ∧
    gR 12 (hp s l q P) 39 9 = some 44 ∧
    gR 12 (hp s l q P) 39 10 = some 45 ∧
    gR 12 (hp s l q P) 39 12 = some 46 ∧
    gR 12 (hp s l q P) 39 13 = some 47 ∧
    gR 12 (hp s l q P) 39 14 = some 48 ∧
    gR 12 (hp s l q P) 39 15 = some 49 ∧
    gR 12 (hp s l q P) 39 17 = some 50 ∧
    gR 12 (hp s l q P) 39 20 = some 51 ∧
    gR 12 (hp s l q P) 39 21 = some 52 ∧
    gR 12 (hp s l q P) 39 22 = some 53 ∧
    gR 12 (hp s l q P) 39 23 = some 54 ∧
    gR 12 (hp s l q P) 39 31 = some 55 ∧
    gR 12 (hp s l q P) 39 32 = some 56 ∧
    gR 12 (hp s l q P) 39 33 = some 57 ∧
    gR 12 (hp s l q P) 39 34 = some 58 ∧
    gR 12 (hp s l q P) 39 35 = some 59 ∧
    gR 12 (hp s l q P) 39 36 = some 60 ∧
    gR 12 (hp s l q P) 39 37 = some 61 ∧
    gR 12 (hp s l q P) 39 38 = some 62 ∧
    gR 12 (hp s l q P) 39 39 = some 63 := ⟨rfl, rfl, rfl, rfl, rfl, rfl, rfl, rfl, rfl, rfl, rfl, rfl, rfl, rfl, rfl, rfl, rfl, rfl, rfl, rfl, rfl, rfl, rfl, rfl, rfl, rfl, rfl, rfl, rfl, rfl, rfl, rfl, rfl, rfl, rfl, rfl, rfl, rfl, rfl, rfl, rfl, rfl, rfl, rfl, rfl, rfl, rfl, rfl, rfl, rfl, rfl, rfl, rfl, rfl, rfl, rfl, rfl, rfl, rfl⟩
theorem G_gI {s : Nat → Nat → Int32} {l : Nat → Nat → Int64} {q : Nat → Nat → Option Nat} {P : List Nat} : 
    gI 11 (hp s l q P) 3 7 = some (s 3 7) ∧
    gI 11 (hp s l q P) 3 8 = some (s 3 8) ∧
    gI 6 (hp s l q P) 4 1 = some (s 4 1) ∧
    gI 1 (hp s l q P) 6 0 = some (s 6 0) ∧
    gI 1 (hp s l q P) 6 5 = some (s 6 5) ∧
    gI 1 (hp s l q P) 6 6 = some (s 6 6) ∧
    gI 1 (hp s l q P) 6 7 = some (s 6 7) ∧
    gI 1 (hp s l q P) 6 10 = some (s 6 10) ∧
    gI 1 (hp s l q P) 17 0 = some (s 17 0) ∧
    gI 1 (hp s l q P) 17 5 = some (s 17 5) ∧
    gI 1 (hp s l q P) 17 6 = some (s 17 6) ∧
    gI 1 (hp s l q P) 17 7 = some (s 17 7) ∧
    gI 1 (hp s l q P) 17 10 = some (s 17 10) ∧
    gI 3 (hp s l q P) 30 4 = some (s 30 4) ∧
    gI 3 (hp s l q P) 30 5 = some (s 30 5) ∧
    gI 2 (hp s l q P) 35 1 = some (s 35 1) ∧
    gI 2 (hp s l q P) 35 3 = some (s 35 3) ∧
    gI 9 (hp s l q P) 38 1 = some (s 38 1) ∧
    gI 9 (hp s l q P) 38 2 = some (s 38 2) ∧
    gI 12 (hp s l q P) 39 0 = some (s 39 0) ∧
    gI 12 (hp s l q P) 39 1 = some (s 39 1) ∧
    gI 12 (hp s l q P) 39 6 = some (s 39 6) ∧
    gI 12 (hp s l q P) 39 7 = some (s 39 7) ∧
    gI 12 (hp s l q P) 39 8 = some (s 39 8) ∧
    gI 12 (hp s l q P) 39 11 = some (s 39 11) ∧
    gI 12 (hp s l q P) 39 16 = some (s 39 16) ∧
    gI 12 (hp s l q P) 39 18 = some (s 39 18) ∧
    gI 12 (hp s l q P) 39 19 = some (s 39 19) ∧
    gI 12 (hp s l q P) 39 25 = some (s 39 25) ∧
    gI 12 (hp s l q P) 39 26 = some (s 39 26) ∧
    gI 12 (hp s l q P) 39 27 = some (s 39 27) ∧
    gI 12 (hp s l q P) 39 28 = some (s 39 28) ∧
    gI 12 (hp s l q P) 39 29 = some (s 39 29) ∧
    gI 12 (hp s l q P) 39 30 = some (s 39 30) := ⟨rfl, rfl, rfl, rfl, rfl, rfl, rfl, rfl, rfl, rfl, rfl, rfl, rfl, rfl, rfl, rfl, rfl, rfl, rfl, rfl, rfl, rfl, rfl, rfl, rfl, rfl, rfl, rfl, rfl, rfl, rfl, rfl, rfl, rfl⟩
theorem G_gJ {s : Nat → Nat → Int32} {l : Nat → Nat → Int64} {q : Nat → Nat → Option Nat} {P : List Nat} : 
    gJ 9 (hp s l q P) 38 0 = some (l 38 0) ∧
    gJ 12 (hp s l q P) 39 24 = some (l 39 24) ∧
    gJ 12 (hp s l q P) 39 40 = some (l 39 40) := ⟨rfl, rfl, rfl⟩
theorem G_sI {s : Nat → Nat → Int32} {l : Nat → Nat → Int64} {q : Nat → Nat → Option Nat} {P : List Nat} : 
    (∀ v, sV 11 (hp s l q P) 3 7 (.int v) = some (hp (us s 3 (upd (s 3) 7 v)) l q P)) ∧
    (∀ v, sV 11 (hp s l q P) 3 8 (.int v) = some (hp (us s 3 (upd (s 3) 8 v)) l q P)) ∧
    (∀ v, sV 6 (hp s l q P) 4 1 (.int v) = some (hp (us s 4 (upd (s 4) 1 v)) l q P)) ∧
    (∀ v, sV 1 (hp s l q P) 6 0 (.int v) = some (hp (us s 6 (upd (s 6) 0 v)) l q P)) ∧
    (∀ v, sV 1 (hp s l q P) 6 5 (.int v) = some (hp (us s 6 (upd (s 6) 5 v)) l q P)) ∧
    (∀ v, sV 1 (hp s l q P) 6 6 (.int v) = some (hp (us s 6 (upd (s 6) 6 v)) l q P)) ∧
    (∀ v, sV 1 (hp s l q P) 6 7 (.int v) = some (hp (us s 6 (upd (s 6) 7 v)) l q P)) ∧
    (∀ v, sV 1 (hp s l q P) 6 10 (.int v) = some (hp (us s 6 (upd (s 6) 10 v)) l q P)) ∧
    (∀ v, sV 1 (hp s l q P) 17 0 (.int v) = some (hp (us s 17 (upd (s 17) 0 v)) l q P)) ∧
    (∀ v, sV 1 (hp s l q P) 17 5 (.int v) = some (hp (us s 17 (upd (s 17) 5 v)) l q P)) ∧
    (∀ v, sV 1 (hp s l q P) 17 6 (.int v) = some (hp (us s 17 (upd (s 17) 6 v)) l q P)) ∧
    (∀ v, sV 1 (hp s l q P) 17 7 (.int v) = some (hp (us s 17 (upd (s 17) 7 v)) l q P)) ∧
    (∀ v, sV 1 (hp s l q P) 17 10 (.int v) = some (hp (us s 17 (upd (s 17) 10 v)) l q P)) ∧
    (∀ v, sV 3 (hp s l q P) 30 4 (.int v) = some (hp (us s 30 (upd (s 30) 4 v)) l q P)) ∧
    (∀ v, sV 3 (hp s l q P) 30 5 (.int v) = some (hp (us s 30 (upd (s 30) 5 v)) l q P)) ∧
    (∀ v, sV 2 (hp s l q P) 35 1 (.int v) = some (hp (us s 35 (upd (s 35) 1 v)) l q P)) ∧
    (∀ v, sV 2 (hp s l q P) 35 3 (.int v) = some (hp (us s 35 (upd (s 35) 3 v)) l q P)) ∧
    (∀ v, sV 9 (hp s l q P) 38 1 (.int v) = some (hp (us s 38 (upd (s 38) 1 v)) l q P)) ∧
    (∀ v, sV 9 (hp s l q P) 38 2 (.int v) = some (hp (us s 38 (upd (s 38) 2 v)) l q P)) ∧
    (∀ v, sV 12 (hp s l q P) 39 0 (.int v) = some (hp (us s 39 (upd (s 39) 0 v)) l q P)) ∧
    (∀ v, sV 12 (hp s l q P) 39 1 (.int v) = some (hp (us s 39 (upd (s 39) 1 v)) l q P)) ∧
    (∀ v, sV 12 (hp s l q P) 39 6 (.int v) = some (hp (us s 39 (upd (s 39) 6 v)) l q P)) ∧
    (∀ v, sV 12 (hp s l q P) 39 7 (.int v) = some (hp (us s 39 (upd (s 39) 7 v)) l q P)) ∧
    (∀ v, sV 12 (hp s l q P) 39 8 (.int v) = some (hp (us s 39 (upd (s 39) 8 v)) l q P)) ∧
    (∀ v, sV 12 (hp s l q P) 39 11 (.int v) = some (hp (us s 39 (upd (s 39) 11 v)) l q P)) ∧
    (∀ v, sV 12 (hp s l q P) 39 16 (.int v) = some (hp (us s 39 (upd (s 39) 16 v)) l q P)) ∧
    (∀ v, sV 12 (hp s l q P) 39 18 (.int v) = some (hp (us s 39 (upd (s 39) 18 v)) l q P)) ∧
    (∀ v, sV 12 (hp s l q P) 39 19 (.int v) = some (hp (us s 39 (upd (s 39) 19 v)) l q P)) ∧
    (∀ v, sV 12 (hp s l q P) 39 25 (.int v) = some (hp (us s 39 (upd (s 39) 25 v)) l q P)) ∧
    (∀ v, sV 12 (hp s l q P) 39 26 (.int v) = some (hp (us s 39 (upd (s 39) 26 v)) l q P)) ∧
    (∀ v, sV 12 (hp s l q P) 39 27 (.int v) = some (hp (us s 39 (upd (s 39) 27 v)) l q P)) ∧
    (∀ v, sV 12 (hp s l q P) 39 28 (.int v) = some (hp (us s 39 (upd (s 39) 28 v)) l q P)) ∧
    (∀ v, sV 12 (hp s l q P) 39 29 (.int v) = some (hp (us s 39 (upd (s 39) 29 v)) l q P)) ∧
    (∀ v, sV 12 (hp s l q P) 39 30 (.int v) = some (hp (us s 39 (upd (s 39) 30 v)) l q P)) := ⟨fun _ => rfl, fun _ => rfl, fun _ => rfl, fun _ => rfl, fun _ => rfl, fun _ => rfl, fun _ => rfl, fun _ => rfl, fun _ => rfl, fun _ => rfl, fun _ => rfl, fun _ => rfl, fun _ => rfl, fun _ => rfl, fun _ => rfl, fun _ => rfl, fun _ => rfl, fun _ => rfl, fun _ => rfl, fun _ => rfl, fun _ => rfl, fun _ => rfl, fun _ => rfl, fun _ => rfl, fun _ => rfl, fun _ => rfl, fun _ => rfl, fun _ => rfl, fun _ => rfl, fun _ => rfl, fun _ => rfl, fun _ => rfl, fun _ => rfl, fun _ => rfl⟩
theorem G_sJ {s : Nat → Nat → Int32} {l : Nat → Nat → Int64} {q : Nat → Nat → Option Nat} {P : List Nat} : 
    (∀ v, sV 9 (hp s l q P) 38 0 (.long v) = some (hp s (us l 38 (va_up (l 38) 0 v)) q P)) ∧
    (∀ v, sV 12 (hp s l q P) 39 24 (.long v) = some (hp s (us l 39 (va_up (l 39) 24 v)) q P)) ∧
    (∀ v, sV 12 (hp s l q P) 39 40 (.long v) = some (hp s (us l 39 (va_up (l 39) 40 v)) q P)) := ⟨fun _ => rfl, fun _ => rfl, fun _ => rfl⟩
theorem G_ga {s : Nat → Nat → Int32} {l : Nat → Nat → Int64} {q : Nat → Nat → Option Nat} {P : List Nat} : 
    (∀ k, k < 34 → ga 1 (hp s l q P) 5 (nI k) = some (s 5 k)) ∧
    (∀ k, k < 5 → ga 0 (hp s l q P) 8 (nI k) = some (s 8 k)) ∧
    (∀ k, k < 5 → ga 0 (hp s l q P) 9 (nI k) = some (s 9 k)) ∧
    (∀ k, k < 5 → ga 0 (hp s l q P) 11 (nI k) = some (s 11 k)) ∧
    (∀ k, k < 5 → ga 0 (hp s l q P) 12 (nI k) = some (s 12 k)) ∧
    (∀ k, k < 10 → ga 0 (hp s l q P) 10 (nI k) = some (s 10 k)) ∧
    (∀ k, k < 8 → ga 0 (hp s l q P) 13 (nI k) = some (s 13 k)) ∧
    (∀ k, k < 8 → ga 0 (hp s l q P) 14 (nI k) = some (s 14 k)) ∧
    (∀ k, k < 8 → ga 0 (hp s l q P) 15 (nI k) = some (s 15 k)) ∧
    (∀ k, k < 8 → ga 0 (hp s l q P) 16 (nI k) = some (s 16 k)) ∧
    (∀ k, k < 5 → ga 0 (hp s l q P) 19 (nI k) = some (s 19 k)) ∧
    (∀ k, k < 5 → ga 0 (hp s l q P) 20 (nI k) = some (s 20 k)) ∧
    (∀ k, k < 5 → ga 0 (hp s l q P) 22 (nI k) = some (s 22 k)) ∧
    (∀ k, k < 5 → ga 0 (hp s l q P) 23 (nI k) = some (s 23 k)) ∧
    (∀ k, k < 10 → ga 0 (hp s l q P) 21 (nI k) = some (s 21 k)) ∧
    (∀ k, k < 8 → ga 0 (hp s l q P) 24 (nI k) = some (s 24 k)) ∧
    (∀ k, k < 8 → ga 0 (hp s l q P) 25 (nI k) = some (s 25 k)) ∧
    (∀ k, k < 8 → ga 0 (hp s l q P) 26 (nI k) = some (s 26 k)) ∧
    (∀ k, k < 8 → ga 0 (hp s l q P) 27 (nI k) = some (s 27 k)) ∧
    (∀ k, k < 10 → ga 0 (hp s l q P) 29 (nI k) = some (s 29 k)) ∧
    (∀ k, k < 10 → ga 0 (hp s l q P) 31 (nI k) = some (s 31 k)) ∧
    (∀ k, k < 10 → ga 0 (hp s l q P) 32 (nI k) = some (s 32 k)) ∧
    (∀ k, k < 100 → ga 0 (hp s l q P) 33 (nI k) = some (s 33 k)) ∧
    (∀ k, k < 100 → ga 0 (hp s l q P) 34 (nI k) = some (s 34 k)) ∧
    (∀ k, k < 5 → ga 0 (hp s l q P) 36 (nI k) = some (s 36 k)) ∧
    (∀ k, k < 5 → ga 0 (hp s l q P) 37 (nI k) = some (s 37 k)) ∧
    (∀ k, k < 10 → ga 0 (hp s l q P) 40 (nI k) = some (s 40 k)) ∧
    (∀ k, k < 5 → ga 0 (hp s l q P) 41 (nI k) = some (s 41 k)) ∧
    (∀ k, k < 5 → ga 0 (hp s l q P) 42 (nI k) = some (s 42 k)) ∧
    (∀ k, k < 5 → ga 0 (hp s l q P) 43 (nI k) = some (s 43 k)) ∧
    (∀ k, k < 5 → ga 0 (hp s l q P) 44 (nI k) = some (s 44 k)) ∧
    (∀ k, k < 5 → ga 0 (hp s l q P) 45 (nI k) = some (s 45 k)) ∧
    (∀ k, k < 8 → ga 0 (hp s l q P) 46 (nI k) = some (s 46 k)) ∧
    (∀ k, k < 8 → ga 0 (hp s l q P) 47 (nI k) = some (s 47 k)) ∧
    (∀ k, k < 8 → ga 0 (hp s l q P) 48 (nI k) = some (s 48 k)) ∧
    (∀ k, k < 8 → ga 0 (hp s l q P) 49 (nI k) = some (s 49 k)) ∧
    (∀ k, k < 34 → ga 2 (hp s l q P) 50 (nI k) = some (s 50 k)) ∧
    (∀ k, k < 100 → ga 0 (hp s l q P) 51 (nI k) = some (s 51 k)) ∧
    (∀ k, k < 100 → ga 0 (hp s l q P) 52 (nI k) = some (s 52 k)) ∧
    (∀ k, k < 5 → ga 0 (hp s l q P) 53 (nI k) = some (s 53 k)) ∧
    (∀ k, k < 5 → ga 0 (hp s l q P) 54 (nI k) = some (s 54 k)) ∧
    (∀ k, k < 10 → ga 0 (hp s l q P) 55 (nI k) = some (s 55 k)) ∧
    (∀ k, k < 5 → ga 0 (hp s l q P) 56 (nI k) = some (s 56 k)) ∧
    (∀ k, k < 5 → ga 0 (hp s l q P) 57 (nI k) = some (s 57 k)) ∧
    (∀ k, k < 5 → ga 0 (hp s l q P) 58 (nI k) = some (s 58 k)) ∧
    (∀ k, k < 5 → ga 0 (hp s l q P) 59 (nI k) = some (s 59 k)) ∧
    (∀ k, k < 8 → ga 0 (hp s l q P) 60 (nI k) = some (s 60 k)) ∧
    (∀ k, k < 8 → ga 0 (hp s l q P) 61 (nI k) = some (s 61 k)) ∧
    (∀ k, k < 8 → ga 0 (hp s l q P) 62 (nI k) = some (s 62 k)) ∧
    (∀ k, k < 8 → ga 0 (hp s l q P) 63 (nI k) = some (s 63 k)) := ⟨fun _ h => ga_of rfl h (by decide), fun _ h => ga_of rfl h (by decide), fun _ h => ga_of rfl h (by decide), fun _ h => ga_of rfl h (by decide), fun _ h => ga_of rfl h (by decide), fun _ h => ga_of rfl h (by decide), fun _ h => ga_of rfl h (by decide), fun _ h => ga_of rfl h (by decide), fun _ h => ga_of rfl h (by decide), fun _ h => ga_of rfl h (by decide), fun _ h => ga_of rfl h (by decide), fun _ h => ga_of rfl h (by decide), fun _ h => ga_of rfl h (by decide), fun _ h => ga_of rfl h (by decide), fun _ h => ga_of rfl h (by decide), fun _ h => ga_of rfl h (by decide), fun _ h => ga_of rfl h (by decide), fun _ h => ga_of rfl h (by decide), fun _ h => ga_of rfl h (by decide), fun _ h => ga_of rfl h (by decide), fun _ h => ga_of rfl h (by decide), fun _ h => ga_of rfl h (by decide), fun _ h => ga_of rfl h (by decide), fun _ h => ga_of rfl h (by decide), fun _ h => ga_of rfl h (by decide), fun _ h => ga_of rfl h (by decide), fun _ h => ga_of rfl h (by decide), fun _ h => ga_of rfl h (by decide), fun _ h => ga_of rfl h (by decide), fun _ h => ga_of rfl h (by decide), fun _ h => ga_of rfl h (by decide), fun _ h => ga_of rfl h (by decide), fun _ h => ga_of rfl h (by decide), fun _ h => ga_of rfl h (by decide), fun _ h => ga_of rfl h (by decide), fun _ h => ga_of rfl h (by decide), fun _ h => ga_of rfl h (by decide), fun _ h => ga_of rfl h (by decide), fun _ h => ga_of rfl h (by decide), fun _ h => ga_of rfl h (by decide), fun _ h => ga_of rfl h (by decide), fun _ h => ga_of rfl h (by decide), fun _ h => ga_of rfl h (by decide), fun _ h => ga_of rfl h (by decide), fun _ h => ga_of rfl h (by decide), fun _ h => ga_of rfl h (by decide), fun _ h => ga_of rfl h (by decide), fun _ h => ga_of rfl h (by decide), fun _ h => ga_of rfl h (by decide), fun _ h => ga_of rfl h (by decide)⟩
theorem G_sa {s : Nat → Nat → Int32} {l : Nat → Nat → Int64} {q : Nat → Nat → Option Nat} {P : List Nat} : 
    (∀ k x, k < 34 → sa 1 (hp s l q P) 5 (nI k) x = some (hp (us s 5 (upd (s 5) k (nr 1 x))) l q P)) ∧
    (∀ k x, k < 5 → sa 0 (hp s l q P) 8 (nI k) x = some (hp (us s 8 (upd (s 8) k (nr 0 x))) l q P)) ∧
    (∀ k x, k < 5 → sa 0 (hp s l q P) 9 (nI k) x = some (hp (us s 9 (upd (s 9) k (nr 0 x))) l q P)) ∧
    (∀ k x, k < 5 → sa 0 (hp s l q P) 11 (nI k) x = some (hp (us s 11 (upd (s 11) k (nr 0 x))) l q P)) ∧
    (∀ k x, k < 5 → sa 0 (hp s l q P) 12 (nI k) x = some (hp (us s 12 (upd (s 12) k (nr 0 x))) l q P)) ∧
    (∀ k x, k < 10 → sa 0 (hp s l q P) 10 (nI k) x = some (hp (us s 10 (upd (s 10) k (nr 0 x))) l q P)) ∧
    (∀ k x, k < 8 → sa 0 (hp s l q P) 13 (nI k) x = some (hp (us s 13 (upd (s 13) k (nr 0 x))) l q P)) ∧
    (∀ k x, k < 8 → sa 0 (hp s l q P) 14 (nI k) x = some (hp (us s 14 (upd (s 14) k (nr 0 x))) l q P)) ∧
    (∀ k x, k < 8 → sa 0 (hp s l q P) 15 (nI k) x = some (hp (us s 15 (upd (s 15) k (nr 0 x))) l q P)) ∧
    (∀ k x, k < 8 → sa 0 (hp s l q P) 16 (nI k) x = some (hp (us s 16 (upd (s 16) k (nr 0 x))) l q P)) ∧
    (∀ k x, k < 5 → sa 0 (hp s l q P) 19 (nI k) x = some (hp (us s 19 (upd (s 19) k (nr 0 x))) l q P)) ∧
    (∀ k x, k < 5 → sa 0 (hp s l q P) 20 (nI k) x = some (hp (us s 20 (upd (s 20) k (nr 0 x))) l q P)) ∧
    (∀ k x, k < 5 → sa 0 (hp s l q P) 22 (nI k) x = some (hp (us s 22 (upd (s 22) k (nr 0 x))) l q P)) ∧
    (∀ k x, k < 5 → sa 0 (hp s l q P) 23 (nI k) x = some (hp (us s 23 (upd (s 23) k (nr 0 x))) l q P)) ∧
    (∀ k x, k < 10 → sa 0 (hp s l q P) 21 (nI k) x = some (hp (us s 21 (upd (s 21) k (nr 0 x))) l q P)) ∧
    (∀ k x, k < 8 → sa 0 (hp s l q P) 24 (nI k) x = some (hp (us s 24 (upd (s 24) k (nr 0 x))) l q P)) ∧
    (∀ k x, k < 8 → sa 0 (hp s l q P) 25 (nI k) x = some (hp (us s 25 (upd (s 25) k (nr 0 x))) l q P)) ∧
    (∀ k x, k < 8 → sa 0 (hp s l q P) 26 (nI k) x = some (hp (us s 26 (upd (s 26) k (nr 0 x))) l q P)) ∧
    (∀ k x, k < 8 → sa 0 (hp s l q P) 27 (nI k) x = some (hp (us s 27 (upd (s 27) k (nr 0 x))) l q P)) ∧
    (∀ k x, k < 10 → sa 0 (hp s l q P) 29 (nI k) x = some (hp (us s 29 (upd (s 29) k (nr 0 x))) l q P)) ∧
    (∀ k x, k < 10 → sa 0 (hp s l q P) 31 (nI k) x = some (hp (us s 31 (upd (s 31) k (nr 0 x))) l q P)) ∧
    (∀ k x, k < 10 → sa 0 (hp s l q P) 32 (nI k) x = some (hp (us s 32 (upd (s 32) k (nr 0 x))) l q P)) ∧
    (∀ k x, k < 100 → sa 0 (hp s l q P) 33 (nI k) x = some (hp (us s 33 (upd (s 33) k (nr 0 x))) l q P)) ∧
    (∀ k x, k < 100 → sa 0 (hp s l q P) 34 (nI k) x = some (hp (us s 34 (upd (s 34) k (nr 0 x))) l q P)) ∧
    (∀ k x, k < 5 → sa 0 (hp s l q P) 36 (nI k) x = some (hp (us s 36 (upd (s 36) k (nr 0 x))) l q P)) ∧
    (∀ k x, k < 5 → sa 0 (hp s l q P) 37 (nI k) x = some (hp (us s 37 (upd (s 37) k (nr 0 x))) l q P)) ∧
    (∀ k x, k < 10 → sa 0 (hp s l q P) 40 (nI k) x = some (hp (us s 40 (upd (s 40) k (nr 0 x))) l q P)) ∧
    (∀ k x, k < 5 → sa 0 (hp s l q P) 41 (nI k) x = some (hp (us s 41 (upd (s 41) k (nr 0 x))) l q P)) ∧
    (∀ k x, k < 5 → sa 0 (hp s l q P) 42 (nI k) x = some (hp (us s 42 (upd (s 42) k (nr 0 x))) l q P)) ∧
    (∀ k x, k < 5 → sa 0 (hp s l q P) 43 (nI k) x = some (hp (us s 43 (upd (s 43) k (nr 0 x))) l q P)) ∧
    (∀ k x, k < 5 → sa 0 (hp s l q P) 44 (nI k) x = some (hp (us s 44 (upd (s 44) k (nr 0 x))) l q P)) ∧
    (∀ k x, k < 5 → sa 0 (hp s l q P) 45 (nI k) x = some (hp (us s 45 (upd (s 45) k (nr 0 x))) l q P)) ∧
    (∀ k x, k < 8 → sa 0 (hp s l q P) 46 (nI k) x = some (hp (us s 46 (upd (s 46) k (nr 0 x))) l q P)) ∧
    (∀ k x, k < 8 → sa 0 (hp s l q P) 47 (nI k) x = some (hp (us s 47 (upd (s 47) k (nr 0 x))) l q P)) ∧
    (∀ k x, k < 8 → sa 0 (hp s l q P) 48 (nI k) x = some (hp (us s 48 (upd (s 48) k (nr 0 x))) l q P)) ∧
    (∀ k x, k < 8 → sa 0 (hp s l q P) 49 (nI k) x = some (hp (us s 49 (upd (s 49) k (nr 0 x))) l q P)) ∧
    (∀ k x, k < 34 → sa 2 (hp s l q P) 50 (nI k) x = some (hp (us s 50 (upd (s 50) k (nr 2 x))) l q P)) ∧
    (∀ k x, k < 100 → sa 0 (hp s l q P) 51 (nI k) x = some (hp (us s 51 (upd (s 51) k (nr 0 x))) l q P)) ∧
    (∀ k x, k < 100 → sa 0 (hp s l q P) 52 (nI k) x = some (hp (us s 52 (upd (s 52) k (nr 0 x))) l q P)) ∧
    (∀ k x, k < 5 → sa 0 (hp s l q P) 53 (nI k) x = some (hp (us s 53 (upd (s 53) k (nr 0 x))) l q P)) ∧
    (∀ k x, k < 5 → sa 0 (hp s l q P) 54 (nI k) x = some (hp (us s 54 (upd (s 54) k (nr 0 x))) l q P)) ∧
    (∀ k x, k < 10 → sa 0 (hp s l q P) 55 (nI k) x = some (hp (us s 55 (upd (s 55) k (nr 0 x))) l q P)) ∧
    (∀ k x, k < 5 → sa 0 (hp s l q P) 56 (nI k) x = some (hp (us s 56 (upd (s 56) k (nr 0 x))) l q P)) ∧
    (∀ k x, k < 5 → sa 0 (hp s l q P) 57 (nI k) x = some (hp (us s 57 (upd (s 57) k (nr 0 x))) l q P)) ∧
    (∀ k x, k < 5 → sa 0 (hp s l q P) 58 (nI k) x = some (hp (us s 58 (upd (s 58) k (nr 0 x))) l q P)) ∧
    (∀ k x, k < 5 → sa 0 (hp s l q P) 59 (nI k) x = some (hp (us s 59 (upd (s 59) k (nr 0 x))) l q P)) ∧
    (∀ k x, k < 8 → sa 0 (hp s l q P) 60 (nI k) x = some (hp (us s 60 (upd (s 60) k (nr 0 x))) l q P)) ∧
    (∀ k x, k < 8 → sa 0 (hp s l q P) 61 (nI k) x = some (hp (us s 61 (upd (s 61) k (nr 0 x))) l q P)) ∧
    (∀ k x, k < 8 → sa 0 (hp s l q P) 62 (nI k) x = some (hp (us s 62 (upd (s 62) k (nr 0 x))) l q P)) ∧
    (∀ k x, k < 8 → sa 0 (hp s l q P) 63 (nI k) x = some (hp (us s 63 (upd (s 63) k (nr 0 x))) l q P)) := ⟨fun _ _ h => (sa_of rfl h (by decide)).trans rfl, fun _ _ h => (sa_of rfl h (by decide)).trans rfl, fun _ _ h => (sa_of rfl h (by decide)).trans rfl, fun _ _ h => (sa_of rfl h (by decide)).trans rfl, fun _ _ h => (sa_of rfl h (by decide)).trans rfl, fun _ _ h => (sa_of rfl h (by decide)).trans rfl, fun _ _ h => (sa_of rfl h (by decide)).trans rfl, fun _ _ h => (sa_of rfl h (by decide)).trans rfl, fun _ _ h => (sa_of rfl h (by decide)).trans rfl, fun _ _ h => (sa_of rfl h (by decide)).trans rfl, fun _ _ h => (sa_of rfl h (by decide)).trans rfl, fun _ _ h => (sa_of rfl h (by decide)).trans rfl, fun _ _ h => (sa_of rfl h (by decide)).trans rfl, fun _ _ h => (sa_of rfl h (by decide)).trans rfl, fun _ _ h => (sa_of rfl h (by decide)).trans rfl, fun _ _ h => (sa_of rfl h (by decide)).trans rfl, fun _ _ h => (sa_of rfl h (by decide)).trans rfl, fun _ _ h => (sa_of rfl h (by decide)).trans rfl, fun _ _ h => (sa_of rfl h (by decide)).trans rfl, fun _ _ h => (sa_of rfl h (by decide)).trans rfl, fun _ _ h => (sa_of rfl h (by decide)).trans rfl, fun _ _ h => (sa_of rfl h (by decide)).trans rfl, fun _ _ h => (sa_of rfl h (by decide)).trans rfl, fun _ _ h => (sa_of rfl h (by decide)).trans rfl, fun _ _ h => (sa_of rfl h (by decide)).trans rfl, fun _ _ h => (sa_of rfl h (by decide)).trans rfl, fun _ _ h => (sa_of rfl h (by decide)).trans rfl, fun _ _ h => (sa_of rfl h (by decide)).trans rfl, fun _ _ h => (sa_of rfl h (by decide)).trans rfl, fun _ _ h => (sa_of rfl h (by decide)).trans rfl, fun _ _ h => (sa_of rfl h (by decide)).trans rfl, fun _ _ h => (sa_of rfl h (by decide)).trans rfl, fun _ _ h => (sa_of rfl h (by decide)).trans rfl, fun _ _ h => (sa_of rfl h (by decide)).trans rfl, fun _ _ h => (sa_of rfl h (by decide)).trans rfl, fun _ _ h => (sa_of rfl h (by decide)).trans rfl, fun _ _ h => (sa_of rfl h (by decide)).trans rfl, fun _ _ h => (sa_of rfl h (by decide)).trans rfl, fun _ _ h => (sa_of rfl h (by decide)).trans rfl, fun _ _ h => (sa_of rfl h (by decide)).trans rfl, fun _ _ h => (sa_of rfl h (by decide)).trans rfl, fun _ _ h => (sa_of rfl h (by decide)).trans rfl, fun _ _ h => (sa_of rfl h (by decide)).trans rfl, fun _ _ h => (sa_of rfl h (by decide)).trans rfl, fun _ _ h => (sa_of rfl h (by decide)).trans rfl, fun _ _ h => (sa_of rfl h (by decide)).trans rfl, fun _ _ h => (sa_of rfl h (by decide)).trans rfl, fun _ _ h => (sa_of rfl h (by decide)).trans rfl, fun _ _ h => (sa_of rfl h (by decide)).trans rfl, fun _ _ h => (sa_of rfl h (by decide)).trans rfl⟩
theorem G_gq {s : Nat → Nat → Int32} {l : Nat → Nat → Int64} {q : Nat → Nat → Option Nat} {P : List Nat} : 
    (∀ k, k < 5 → gq (hp s l q P) 7 (nI k) = some (q 7 k)) ∧
    (∀ k, k < 5 → gq (hp s l q P) 18 (nI k) = some (q 18 k)) := ⟨fun _ h => gq_of rfl h (by decide), fun _ h => gq_of rfl h (by decide)⟩
theorem G_gl {s : Nat → Nat → Int32} {l : Nat → Nat → Int64} {q : Nat → Nat → Option Nat} {P : List Nat} : 
    gl (hp s l q P) 5 = some 34 ∧
    gl (hp s l q P) 8 = some 5 ∧
    gl (hp s l q P) 9 = some 5 ∧
    gl (hp s l q P) 11 = some 5 ∧
    gl (hp s l q P) 12 = some 5 ∧
    gl (hp s l q P) 10 = some 10 ∧
    gl (hp s l q P) 13 = some 8 ∧
    gl (hp s l q P) 14 = some 8 ∧
    gl (hp s l q P) 15 = some 8 ∧
    gl (hp s l q P) 16 = some 8 ∧
    gl (hp s l q P) 19 = some 5 ∧
    gl (hp s l q P) 20 = some 5 ∧
    gl (hp s l q P) 22 = some 5 ∧
    gl (hp s l q P) 23 = some 5 ∧
    gl (hp s l q P) 21 = some 10 ∧
    gl (hp s l q P) 24 = some 8 ∧
    gl (hp s l q P) 25 = some 8 ∧
    gl (hp s l q P) 26 = some 8 ∧
    gl (hp s l q P) 27 = some 8 ∧
    gl (hp s l q P) 29 = some 10 ∧
    gl (hp s l q P) 31 = some 10 ∧
    gl (hp s l q P) 32 = some 10 ∧
    gl (hp s l q P) 33 = some 100 ∧
    gl (hp s l q P) 34 = some 100 ∧
    gl (hp s l q P) 36 = some 5 ∧
    gl (hp s l q P) 37 = some 5 ∧
    gl (hp s l q P) 40 = some 10 ∧
    gl (hp s l q P) 41 = some 5 ∧
    gl (hp s l q P) 42 = some 5 ∧
    gl (hp s l q P) 43 = some 5 ∧
    gl (hp s l q P) 44 = some 5 ∧
    gl (hp s l q P) 45 = some 5 ∧
    gl (hp s l q P) 46 = some 8 ∧
    gl (hp s l q P) 47 = some 8 ∧
    gl (hp s l q P) 48 = some 8 ∧
    gl (hp s l q P) 49 = some 8 ∧
    gl (hp s l q P) 50 = some 34 ∧
    gl (hp s l q P) 51 = some 100 ∧
    gl (hp s l q P) 52 = some 100 ∧
    gl (hp s l q P) 53 = some 5 ∧
    gl (hp s l q P) 54 = some 5 ∧
    gl (hp s l q P) 55 = some 10 ∧
    gl (hp s l q P) 56 = some 5 ∧
    gl (hp s l q P) 57 = some 5 ∧
    gl (hp s l q P) 58 = some 5 ∧
    gl (hp s l q P) 59 = some 5 ∧
    gl (hp s l q P) 60 = some 8 ∧
    gl (hp s l q P) 61 = some 8 ∧
    gl (hp s l q P) 62 = some 8 ∧
    gl (hp s l q P) 63 = some 8 := ⟨rfl, rfl, rfl, rfl, rfl, rfl, rfl, rfl, rfl, rfl, rfl, rfl, rfl, rfl, rfl, rfl, rfl, rfl, rfl, rfl, rfl, rfl, rfl, rfl, rfl, rfl, rfl, rfl, rfl, rfl, rfl, rfl, rfl, rfl, rfl, rfl, rfl, rfl, rfl, rfl, rfl, rfl, rfl, rfl, rfl, rfl, rfl, rfl, rfl, rfl⟩
theorem G_acp {s : Nat → Nat → Int32} {l : Nat → Nat → Int64} {q : Nat → Nat → Option Nat} {P : List Nat} : 
    acp (hp s l q P) 8 0 19 0 5 = some (hp (us s 19 (va_cpy (s 8) (s 19) 0 0 5)) l q P) ∧
    acp (hp s l q P) 9 0 20 0 5 = some (hp (us s 20 (va_cpy (s 9) (s 20) 0 0 5)) l q P) ∧
    acp (hp s l q P) 10 0 21 0 10 = some (hp (us s 21 (va_cpy (s 10) (s 21) 0 0 10)) l q P) ∧
    acp (hp s l q P) 11 0 22 0 5 = some (hp (us s 22 (va_cpy (s 11) (s 22) 0 0 5)) l q P) ∧
    acp (hp s l q P) 12 0 23 0 5 = some (hp (us s 23 (va_cpy (s 12) (s 23) 0 0 5)) l q P) ∧
    acp (hp s l q P) 13 0 24 0 8 = some (hp (us s 24 (va_cpy (s 13) (s 24) 0 0 8)) l q P) ∧
    acp (hp s l q P) 14 0 25 0 8 = some (hp (us s 25 (va_cpy (s 14) (s 25) 0 0 8)) l q P) ∧
    acp (hp s l q P) 15 0 26 0 8 = some (hp (us s 26 (va_cpy (s 15) (s 26) 0 0 8)) l q P) ∧
    acp (hp s l q P) 16 0 27 0 8 = some (hp (us s 27 (va_cpy (s 16) (s 27) 0 0 8)) l q P) ∧
    acp (hp s l q P) 19 0 8 0 5 = some (hp (us s 8 (va_cpy (s 19) (s 8) 0 0 5)) l q P) ∧
    acp (hp s l q P) 20 0 9 0 5 = some (hp (us s 9 (va_cpy (s 20) (s 9) 0 0 5)) l q P) ∧
    acp (hp s l q P) 21 0 10 0 10 = some (hp (us s 10 (va_cpy (s 21) (s 10) 0 0 10)) l q P) ∧
    acp (hp s l q P) 22 0 11 0 5 = some (hp (us s 11 (va_cpy (s 22) (s 11) 0 0 5)) l q P) ∧
    acp (hp s l q P) 23 0 12 0 5 = some (hp (us s 12 (va_cpy (s 23) (s 12) 0 0 5)) l q P) ∧
    acp (hp s l q P) 24 0 13 0 8 = some (hp (us s 13 (va_cpy (s 24) (s 13) 0 0 8)) l q P) ∧
    acp (hp s l q P) 25 0 14 0 8 = some (hp (us s 14 (va_cpy (s 25) (s 14) 0 0 8)) l q P) ∧
    acp (hp s l q P) 26 0 15 0 8 = some (hp (us s 15 (va_cpy (s 26) (s 15) 0 0 8)) l q P) ∧
    acp (hp s l q P) 27 0 16 0 8 = some (hp (us s 16 (va_cpy (s 27) (s 16) 0 0 8)) l q P) ∧
    acp (hp s l q P) 33 0 34 0 100 = some (hp (us s 34 (va_cpy (s 33) (s 34) 0 0 100)) l q P) := ⟨(acp_of rfl rfl (by decide)).trans rfl, (acp_of rfl rfl (by decide)).trans rfl, (acp_of rfl rfl (by decide)).trans rfl, (acp_of rfl rfl (by decide)).trans rfl, (acp_of rfl rfl (by decide)).trans rfl, (acp_of rfl rfl (by decide)).trans rfl, (acp_of rfl rfl (by decide)).trans rfl, (acp_of rfl rfl (by decide)).trans rfl, (acp_of rfl rfl (by decide)).trans rfl, (acp_of rfl rfl (by decide)).trans rfl, (acp_of rfl rfl (by decide)).trans rfl, (acp_of rfl rfl (by decide)).trans rfl, (acp_of rfl rfl (by decide)).trans rfl, (acp_of rfl rfl (by decide)).trans rfl, (acp_of rfl rfl (by decide)).trans rfl, (acp_of rfl rfl (by decide)).trans rfl, (acp_of rfl rfl (by decide)).trans rfl, (acp_of rfl rfl (by decide)).trans rfl, (acp_of rfl rfl (by decide)).trans rfl⟩
theorem hp_push {s : Nat → Nat → Int32} {l : Nat → Nat → Int64} {q : Nat → Nat → Option Nat} {P : List Nat} (c : Nat) : hp s l q P ++ [kcell c] = hp s l q (P ++ [c]) := by
  simp only [hp, List.map_append, List.append_assoc, List.map_cons, List.map_nil]
theorem hp_len {s : Nat → Nat → Int32} {l : Nat → Nat → Int64} {q : Nat → Nat → Option Nat} {P : List Nat} : (hp s l q P).length + 3 = 64 + P.length := by
  simp only [hp, List.length_append, List.length_map, List.length_cons, List.length_nil]; omega
theorem hp_at {s : Nat → Nat → Int32} {l : Nat → Nat → Int64} {q : Nat → Nat → Option Nat} {P : List Nat} (j : Nat) : abAt (hp s l q P) (64 + j) = (P[j]?).map kcell := by
  rw [show 64 + j = (61 + j) + 3 by omega]
  show (hp s l q P)[61 + j]? = _
  rw [hp, List.getElem?_append_right (by simp)]
  simp
theorem hp_kc {s : Nat → Nat → Int32} {l : Nat → Nat → Int64} {q : Nat → Nat → Option Nat} {P : List Nat} {j c : Nat} (h : P[j]? = some c) : kc (hp s l q P) (64 + j) = some c := by
  simp [kc, hp_at, h, kcell]
theorem hp_ko {s : Nat → Nat → Int32} {l : Nat → Nat → Int64} {q : Nat → Nat → Option Nat} {P : List Nat} {j c : Nat} (h : P[j]? = some c) : ko c (hp s l q P) (64 + j) = some () := by
  simp [ko, hp_at, h, kcell]
theorem hp_g0 {s : Nat → Nat → Int32} {l : Nat → Nat → Int64} {q : Nat → Nat → Option Nat} {P : List Nat} {j c : Nat} (h : P[j]? = some c) (hi : isKd c = true) : gK (hp s l q P) (64 + j) 0 = some (nI (kcn c)) := by
  simp [gK, hp_kc h, hi, gI, gV, hp_at, h, kcell]
theorem hp_g1 {s : Nat → Nat → Int32} {l : Nat → Nat → Int64} {q : Nat → Nat → Option Nat} {P : List Nat} {j c : Nat} (h : P[j]? = some c) (hi : isKd c = true) : gK (hp s l q P) (64 + j) 1 = some (nI (kch c)) := by
  simp [gK, hp_kc h, hi, gI, gV, hp_at, h, kcell]
/-- a new KIND object, its two fields written -/
theorem hp_new {s : Nat → Nat → Int32} {l : Nat → Nat → Int64} {q : Nat → Nat → Option Nat} {P : List Nat} {c : Nat} {x y : Int32} (hi : isKd c = true) (hx : x = nI (kcn c)) (hy : y = nI (kch c)) : F_X5_init (64 + P.length) x y (hp s l q P ++ [.inr (.inr (c, [.int 0, .int 0]))]) = some (hp s l q (P ++ [c])) := by
  have e : ∀ f : List Value, abAt (hp s l q P ++ [.inr (.inr (c, f))]) (64 + P.length) = some (.inr (.inr (c, f))) := by
    intro f
    have hl := hp_len (s := s) (l := l) (q := q) (P := P)
    rw [← hl]
    show (hp s l q P ++ [.inr (.inr (c, f))])[(hp s l q P).length]? = _
    simp
  have e2 : ∀ f g : List Value, List.set (hp s l q P ++ [(.inr (.inr (c, f)) : abE)]) (64 + P.length - 3) (.inr (.inr (c, g)) : abE) = hp s l q P ++ [(.inr (.inr (c, g)) : abE)] := by
    intro f g
    have hl := hp_len (s := s) (l := l) (q := q) (P := P)
    rw [show 64 + P.length - 3 = (hp s l q P).length by omega]
    simp
  have ek : ∀ f : List Value, kc (hp s l q P ++ [.inr (.inr (c, f))]) (64 + P.length) = some c := by
    intro f; simp [kc, e]
  subst hx hy
  rw [← hp_push]
  simp [F_X5_init, sK, ek, hi, sV, e, e2, kcell]
theorem G_sq {s : Nat → Nat → Int32} {l : Nat → Nat → Int64} {q : Nat → Nat → Option Nat} {P : List Nat} {j c : Nat} (h : P[j]? = some c) (hi : isKd c = true) :
    (∀ k, k < 5 → sq (hp s l q P) 7 (nI k) (64 + j) = some (hp s l (us q 7 (va_up (q 7) k (some (64 + j)))) P)) ∧
    (∀ k, k < 5 → sq (hp s l q P) 18 (nI k) (64 + j) = some (hp s l (us q 18 (va_up (q 18) k (some (64 + j)))) P)) :=
  ⟨fun _ hk => (sq_of rfl (hp_kc h) hi hk (by decide)).trans rfl, fun _ hk => (sq_of rfl (hp_kc h) hi hk (by decide)).trans rfl⟩

def hp11 : abH := (hp (fun _ _ => 0) (fun _ _ => 0) (fun _ _ => none) []).take 36
set_option maxRecDepth 100000 in
theorem init_11 : F_X11_init 3 [.inr (.inr (11, [.null, .null, .null, .null, .null, .null, .null, .int 0, .int 0]))] = some hp11 := by
  simp only [F_X11_init, F_X6_init, F_X1_init, F_X8_init, F_X3_init, F_X2_init, F_X9_init, nm, Option.bind_some, sV, abAt]
  simp
  rfl
def hpmS : List Value := [.int 0, .int 0, .ref 40, .ref 41, .ref 42, .ref 43, .int 0, .int 0, .int 0, .ref 44, .ref 45, .int 0, .ref 46, .ref 47, .ref 48, .ref 49, .int 0, .ref 50, .int 0, .int 0, .ref 51, .ref 52, .ref 53, .ref 54, .long 0, .int 0, .int 0, .int 0, .int 0, .int 0, .int 0, .ref 55, .ref 56, .ref 57, .ref 58, .ref 59, .ref 60, .ref 61, .ref 62, .ref 63, .long 0]
def hpmA : List abE := (hp (fun _ _ => 0) (fun _ _ => 0) (fun _ _ => none) []).drop 37
def hpm (j : Nat) : abH := hp11 ++ [.inr (.inr (12, hpmS.map (fun v => match v with
  | .ref a => cond (Nat.blt a (40 + j)) (.ref a) .null
  | v => v)))] ++ hpmA.take j
theorem hpm_0 : hp11 ++ [.inr (.inr (12, [.int 0, .int 0, .null, .null, .null, .null, .int 0, .int 0, .int 0, .null, .null, .int 0, .null, .null, .null, .null, .int 0, .null, .int 0, .int 0, .null, .null, .null, .null, .long 0, .int 0, .int 0, .int 0, .int 0, .int 0, .int 0, .null, .null, .null, .null, .null, .null, .null, .null, .null, .long 0]))] = hpm 0 := rfl
theorem hpm_z : hpm 24 = hp (fun _ _ => 0) (fun _ _ => 0) (fun _ _ => none) [] := rfl
theorem hpm_s0 : (hpm 0).length = 37 ∧ sV 12 (hpm 0 ++ [.inl (0, 10, fun _ => 0)]) 39 2 (.ref (37 + 3)) = some (hpm 1) := ⟨rfl, rfl⟩
theorem hpm_s1 : (hpm 1).length = 38 ∧ sV 12 (hpm 1 ++ [.inl (0, 5, fun _ => 0)]) 39 3 (.ref (38 + 3)) = some (hpm 2) := ⟨rfl, rfl⟩
theorem hpm_s2 : (hpm 2).length = 39 ∧ sV 12 (hpm 2 ++ [.inl (0, 5, fun _ => 0)]) 39 4 (.ref (39 + 3)) = some (hpm 3) := ⟨rfl, rfl⟩
theorem hpm_s3 : (hpm 3).length = 40 ∧ sV 12 (hpm 3 ++ [.inl (0, 5, fun _ => 0)]) 39 5 (.ref (40 + 3)) = some (hpm 4) := ⟨rfl, rfl⟩
theorem hpm_s4 : (hpm 4).length = 41 ∧ sV 12 (hpm 4 ++ [.inl (0, 5, fun _ => 0)]) 39 9 (.ref (41 + 3)) = some (hpm 5) := ⟨rfl, rfl⟩
theorem hpm_s5 : (hpm 5).length = 42 ∧ sV 12 (hpm 5 ++ [.inl (0, 5, fun _ => 0)]) 39 10 (.ref (42 + 3)) = some (hpm 6) := ⟨rfl, rfl⟩
theorem hpm_s6 : (hpm 6).length = 43 ∧ sV 12 (hpm 6 ++ [.inl (0, 8, fun _ => 0)]) 39 12 (.ref (43 + 3)) = some (hpm 7) := ⟨rfl, rfl⟩
theorem hpm_s7 : (hpm 7).length = 44 ∧ sV 12 (hpm 7 ++ [.inl (0, 8, fun _ => 0)]) 39 13 (.ref (44 + 3)) = some (hpm 8) := ⟨rfl, rfl⟩
theorem hpm_s8 : (hpm 8).length = 45 ∧ sV 12 (hpm 8 ++ [.inl (0, 8, fun _ => 0)]) 39 14 (.ref (45 + 3)) = some (hpm 9) := ⟨rfl, rfl⟩
theorem hpm_s9 : (hpm 9).length = 46 ∧ sV 12 (hpm 9 ++ [.inl (0, 8, fun _ => 0)]) 39 15 (.ref (46 + 3)) = some (hpm 10) := ⟨rfl, rfl⟩
theorem hpm_s10 : (hpm 10).length = 47 ∧ sV 12 (hpm 10 ++ [.inl (2, 34, fun _ => 0)]) 39 17 (.ref (47 + 3)) = some (hpm 11) := ⟨rfl, rfl⟩
theorem hpm_s11 : (hpm 11).length = 48 ∧ sV 12 (hpm 11 ++ [.inl (0, 100, fun _ => 0)]) 39 20 (.ref (48 + 3)) = some (hpm 12) := ⟨rfl, rfl⟩
theorem hpm_s12 : (hpm 12).length = 49 ∧ sV 12 (hpm 12 ++ [.inl (0, 100, fun _ => 0)]) 39 21 (.ref (49 + 3)) = some (hpm 13) := ⟨rfl, rfl⟩
theorem hpm_s13 : (hpm 13).length = 50 ∧ sV 12 (hpm 13 ++ [.inl (0, 5, fun _ => 0)]) 39 22 (.ref (50 + 3)) = some (hpm 14) := ⟨rfl, rfl⟩
theorem hpm_s14 : (hpm 14).length = 51 ∧ sV 12 (hpm 14 ++ [.inl (0, 5, fun _ => 0)]) 39 23 (.ref (51 + 3)) = some (hpm 15) := ⟨rfl, rfl⟩
theorem hpm_s15 : (hpm 15).length = 52 ∧ sV 12 (hpm 15 ++ [.inl (0, 10, fun _ => 0)]) 39 31 (.ref (52 + 3)) = some (hpm 16) := ⟨rfl, rfl⟩
theorem hpm_s16 : (hpm 16).length = 53 ∧ sV 12 (hpm 16 ++ [.inl (0, 5, fun _ => 0)]) 39 32 (.ref (53 + 3)) = some (hpm 17) := ⟨rfl, rfl⟩
theorem hpm_s17 : (hpm 17).length = 54 ∧ sV 12 (hpm 17 ++ [.inl (0, 5, fun _ => 0)]) 39 33 (.ref (54 + 3)) = some (hpm 18) := ⟨rfl, rfl⟩
theorem hpm_s18 : (hpm 18).length = 55 ∧ sV 12 (hpm 18 ++ [.inl (0, 5, fun _ => 0)]) 39 34 (.ref (55 + 3)) = some (hpm 19) := ⟨rfl, rfl⟩
theorem hpm_s19 : (hpm 19).length = 56 ∧ sV 12 (hpm 19 ++ [.inl (0, 5, fun _ => 0)]) 39 35 (.ref (56 + 3)) = some (hpm 20) := ⟨rfl, rfl⟩
theorem hpm_s20 : (hpm 20).length = 57 ∧ sV 12 (hpm 20 ++ [.inl (0, 8, fun _ => 0)]) 39 36 (.ref (57 + 3)) = some (hpm 21) := ⟨rfl, rfl⟩
theorem hpm_s21 : (hpm 21).length = 58 ∧ sV 12 (hpm 21 ++ [.inl (0, 8, fun _ => 0)]) 39 37 (.ref (58 + 3)) = some (hpm 22) := ⟨rfl, rfl⟩
theorem hpm_s22 : (hpm 22).length = 59 ∧ sV 12 (hpm 22 ++ [.inl (0, 8, fun _ => 0)]) 39 38 (.ref (59 + 3)) = some (hpm 23) := ⟨rfl, rfl⟩
theorem hpm_s23 : (hpm 23).length = 60 ∧ sV 12 (hpm 23 ++ [.inl (0, 8, fun _ => 0)]) 39 39 (.ref (60 + 3)) = some (hpm 24) := ⟨rfl, rfl⟩
theorem nstep {h h1 : abH} {e : abE} {c a k n : Nat} {K : abH → Option abH} (e1 : h.length = n) (e2 : sV c (h ++ [e]) a k (.ref (n + 3)) = some h1) : (nm (h ++ [e]) fun h2 => (sV c h2 a k (.ref (h.length + 3))).bind K) = K h1 := by
  subst e1
  simp only [nm, e2, Option.bind_some]
theorem init_12 : F_X12_init 39 (hpm 0) = some (hpm 24) := by
  unfold F_X12_init
  refine (nstep hpm_s0.1 hpm_s0.2).trans ?_
  refine (nstep hpm_s1.1 hpm_s1.2).trans ?_
  refine (nstep hpm_s2.1 hpm_s2.2).trans ?_
  refine (nstep hpm_s3.1 hpm_s3.2).trans ?_
  refine (nstep hpm_s4.1 hpm_s4.2).trans ?_
  refine (nstep hpm_s5.1 hpm_s5.2).trans ?_
  refine (nstep hpm_s6.1 hpm_s6.2).trans ?_
  refine (nstep hpm_s7.1 hpm_s7.2).trans ?_
  refine (nstep hpm_s8.1 hpm_s8.2).trans ?_
  refine (nstep hpm_s9.1 hpm_s9.2).trans ?_
  refine (nstep hpm_s10.1 hpm_s10.2).trans ?_
  refine (nstep hpm_s11.1 hpm_s11.2).trans ?_
  refine (nstep hpm_s12.1 hpm_s12.2).trans ?_
  refine (nstep hpm_s13.1 hpm_s13.2).trans ?_
  refine (nstep hpm_s14.1 hpm_s14.2).trans ?_
  refine (nstep hpm_s15.1 hpm_s15.2).trans ?_
  refine (nstep hpm_s16.1 hpm_s16.2).trans ?_
  refine (nstep hpm_s17.1 hpm_s17.2).trans ?_
  refine (nstep hpm_s18.1 hpm_s18.2).trans ?_
  refine (nstep hpm_s19.1 hpm_s19.2).trans ?_
  refine (nstep hpm_s20.1 hpm_s20.2).trans ?_
  refine (nstep hpm_s21.1 hpm_s21.2).trans ?_
  refine (nstep hpm_s22.1 hpm_s22.2).trans ?_
  refine (nstep hpm_s23.1 hpm_s23.2).trans ?_
  rfl
theorem init_ok (L : Nat) (xs : Nat → Int32) : F_L_law L xs [] = F_L_law_B18 L xs 3 39 513 0 (hp (fun _ _ => 0) (fun _ _ => 0) (fun _ _ => none) []) := by
  have e := init_11
  have e2 := init_12
  have e3 : hp11.length = 36 := rfl
  simp only [F_L_law, nm, List.nil_append, List.length_nil, Nat.zero_add, e, Option.bind_some, e3, hpm_0, e2, hpm_z]
