/-! what is covered, what it is worth -/
def andn (x y : Nat) : Nat := x &&& (8191 ^^^ y)
theorem andn_bit {x y i : Nat} (hi : i < 13) : (andn x y).testBit i = (x.testBit i && !(y.testBit i)) := by
  have e : (8191 : Nat).testBit i = true := by
    rw [show (8191 : Nat) = 2 ^ 13 - 1 from rfl, Nat.testBit_two_pow_sub_one]; simp [hi]
  rw [andn, Nat.testBit_and, Nat.testBit_xor, e, Bool.true_xor]
theorem andn_lt {x y : Nat} (hx : x < 8192) : andn x y < 8192 := Nat.lt_of_le_of_lt Nat.and_le_left hx
theorem n_andn {x y : Nat} (hx : x < 8192) : nI x &&& (nI y ^^^ (-1)) = nI (andn x y) := by
  apply Int32.toBitVec_inj.1
  apply BitVec.eq_of_getLsbD_eq
  intro i hi
  have e1 : (-1 : Int32).toBitVec = BitVec.allOnes 32 := by decide
  rw [Int32.toBitVec_and, Int32.toBitVec_xor, e1]
  show (BitVec.ofNat 32 x &&& (BitVec.ofNat 32 y ^^^ BitVec.allOnes 32)).getLsbD i = (BitVec.ofNat 32 (andn x y)).getLsbD i
  rw [BitVec.getLsbD_and, BitVec.getLsbD_xor, BitVec.getLsbD_ofNat, BitVec.getLsbD_ofNat, BitVec.getLsbD_ofNat, BitVec.getLsbD_allOnes]
  rcases Nat.lt_or_ge i 13 with g | g
  · rw [andn_bit g]; simp [hi]
  · have h2 : x.testBit i = false := Nat.testBit_lt_two_pow (Nat.lt_of_lt_of_le hx (show 2 ^ 13 ≤ 2 ^ i from Nat.pow_le_pow_right (by decide) g))
    have h3 : (andn x y).testBit i = false := Nat.testBit_lt_two_pow (Nat.lt_of_lt_of_le (andn_lt hx) (show 2 ^ 13 ≤ 2 ^ i from Nat.pow_le_pow_right (by decide) g))
    simp [h2, h3]
def Wr (w : Nat → Nat) (m : Nat) : Nat → Nat → Nat
  | 0, _ => 0
  | n + 1, i => (if m.testBit i = true then w i else 0) + Wr w m n (i + 1)
def Ws (w : Nat → Nat) (m : Nat) : Nat := Wr w m 10 0
theorem Wr_le {w : Nat → Nat} (hw : ∀ i, w i < 10) (m : Nat) : ∀ n i, Wr w m n i ≤ 9 * n
  | 0, _ => Nat.le_refl _
  | n + 1, i => by
    have h1 := Wr_le hw m n (i + 1)
    have h2 := hw i
    unfold Wr
    split <;> omega
theorem Ws_le {w : Nat → Nat} (hw : ∀ i, w i < 10) (m : Nat) : Ws w m ≤ 90 := Wr_le hw m 10 0
theorem Wr_diff (w : Nat → Nat) (x y : Nat) : ∀ n i, i + n ≤ 13 → (Wr w (andn x y) n i : Int) - Wr w (andn y x) n i = (Wr w x n i : Int) - Wr w y n i
  | 0, _, _ => by simp [Wr]
  | n + 1, i, h => by
    have h1 := Wr_diff w x y n (i + 1) (by omega)
    simp only [Wr, andn_bit (show i < 13 by omega)]
    cases x.testBit i <;> cases y.testBit i <;> simp <;> omega
section WO
variable {s : Nat → Nat → Int32} {l : Nat → Nat → Int64} {q : Nat → Nat → Option Nat} {P : List Nat} {r : Nat → Nat → Nat}
theorem worthOf_loop (h : Ct s q P 6 r) {m : Nat} (hm : m < 2147483648) : ∀ (n i acc f : Nat), i + n = 10 → n < f → F_X1_worthOf_B4 6 (nI m) (hp s l q P) f (nI acc) (nI i) = some (nI (acc + Wr (r 4) m n i))
  | _, _, _, 0, _, hf => absurd hf (by omega)
  | 0, i, acc, f + 1, hi, _ => by
    have e : ¬ nI i < 10 := nI_nlt (b := 10) (by omega) (by omega)
    unfold F_X1_worthOf_B4 Wr
    rw [if_neg e]; rfl
  | n + 1, i, acc, f + 1, hi, hf => by
    have e : nI i < 10 := nI_lt (b := 10) (by omega) (by omega)
    have i10 : i < 10 := by omega
    have hw : s 10 i = nI (r 4 i) := h.2.1.2.2.1 i
    unfold F_X1_worthOf_B4 Wr
    rw [if_pos e]
    have ih := fun a => worthOf_loop h hm n (i + 1) a f (by omega) (by omega)
    cases hb : m.testBit i with
    | false =>
      rw [if_pos ((n_bit0 hm (by omega)).mpr hb), nI_1, ih]
      simp
    | true =>
      rw [if_neg (fun z => by rw [(n_bit0 hm (by omega)).mp z] at hb; cases hb)]
      simp only [G_gR, G_ga, i10, some_bind, nm, hw, nI_add, nI_1, ih]
      simp [Nat.add_assoc]
theorem worthOf_ok (h : Ct s q P 6 r) {m : Nat} (hm : m < 2147483648) : F_X1_worthOf 6 (nI m) (hp s l q P) = some (nI (Ws (r 4) m)) := by
  unfold F_X1_worthOf
  have e := worthOf_loop (l := l) h hm 10 0 0 200 rfl (by omega)
  rw [Nat.zero_add] at e
  exact e
/-- the shade by the table -/
def cv (r : Nat → Nat → Nat) (p e : Nat) : Nat := sh (r 1 p) (r 2 p) (r 3 p) e
theorem cv_lt (hO : Ok r) (p : Nat) {e : Nat} (he : e < 13) : cv r p e < 1024 := sh_lt _ (hO.2.1 p) _ (hO.2.2.1 p) _ (hO.2.2.2.1 p) _ he
theorem kd (h : Ct s q P 6 r) {p : Nat} (hp1 : p < r 0 0) : ∃ a, q 7 p = some a ∧ kc (hp s l q P) a = some (kcl (r 1 p)) ∧ gK (hp s l q P) a 1 = some (nI (kch (kcl (r 1 p)))) ∧ gK (hp s l q P) a 0 = some (nI (kcn (kcl (r 1 p)))) := by
  obtain ⟨j, h1, h2⟩ := h.2.2 p hp1
  exact ⟨40 + j, h1, hp_kc h2, hp_g1 h2 (isKd_kcl _), hp_g0 h2 (isKd_kcl _)⟩
theorem dsh_b {ζ : Type} (h : abH) (a : Nat) (x y z : Int32) (K : Int32 → Option ζ) : ((kc h a).bind fun cc => (dsp cc (F_X0_shade a x y z h) (F_X5_shade a x y z h) (F_X5_shade a x y z h) (F_X5_shade a x y z h) (F_X10_shade a x y z h)).bind K) = (dsh h a x y z).bind K := by
  unfold dsh
  cases kc h a <;> rfl
theorem shadeIf_ok (h : Ct s q P 6 r) (hO : Ok r) {p hi t e : Nat} (hp1 : p < r 0 0) (h1 : hi < 10) (h2 : t < 10) (h3 : e < 13) : F_X1_shadeIf 6 (nI p) (nI hi) (nI t) (nI e) (hp s l q P) = some (nI (sh (r 1 p) hi t e)) := by
  obtain ⟨a, g1, g2, g3, -⟩ := kd (l := l) h hp1
  have h5 := hO.n5
  have p5 : p < 5 := by omega
  have e3 := dsh_ok g2 g3 (hO.2.1 p) _ h1 _ h2 e h3
  unfold F_X1_shadeIf
  simp only [G_ko, G_gR, G_gq, p5, some_bind, has_1 h hO hp1, if_neg (show ¬ (1 : Int32) = 0 by decide), g1]
  rw [dsh_b, e3]; rfl
theorem shade_ok (h : Ct s q P 6 r) (hO : Ok r) {p e : Nat} (hp1 : p < r 0 0) (he : e < 13) : F_X1_shade 6 (nI p) (nI e) (hp s l q P) = some (nI (cv r p e)) := by
  obtain ⟨a, h1, h2, h2', -⟩ := kd (l := l) h hp1
  have h5 := hO.n5
  have p5 : p < 5 := by omega
  have e1 : s 8 p = nI (r 2 p) := h.2.1.1 p
  have e2 : s 9 p = nI (r 3 p) := h.2.1.2.1 p
  have e3 := dsh_ok h2 h2' (hO.2.1 p) _ (hO.2.2.1 p) _ (hO.2.2.2.1 p) e he
  unfold F_X1_shade
  simp only [G_ko, G_gR, G_ga, G_gq, p5, some_bind, has_1 h hO hp1, if_neg (show ¬ (1 : Int32) = 0 by decide), h1, e1, e2]
  rw [dsh_b, e3]; rfl
/-- FOUND, above 0 for the first -/
def bal (r : Nat → Nat → Nat) (a b e : Nat) : Int := (Ws (r 4) (cv r a e) : Int) - Ws (r 4) (cv r b e)
theorem bal_le (hO : Ok r) (a b e : Nat) : -90 ≤ bal r a b e ∧ bal r a b e ≤ 90 := by
  have h1 := Ws_le hO.2.2.2.2.1 (cv r a e)
  have h2 := Ws_le hO.2.2.2.2.1 (cv r b e)
  unfold bal; omega
theorem balance_ok (h : Ct s q P 6 r) (hO : Ok r) {a b e : Nat} (ha : a < r 0 0) (hb : b < r 0 0) (he : e < 13) : F_X1_balance 6 (nI a) (nI b) (nI e) (hp s l q P) = some (wI (bal r a b e)) := by
  have h1 := cv_lt hO a he
  have h2 := cv_lt hO b he
  unfold F_X1_balance
  simp only [G_ko, some_bind, shade_ok h hO ha he, shade_ok h hO hb he, worthOf_ok h (show cv r a e < 2147483648 by omega), worthOf_ok h (show cv r b e < 2147483648 by omega), n_sub]
  rfl
end WO
