/-! numbers: Int32 by integers (wI) and by naturals (nI); bits; the shade of a KIND, as one function of naturals -/
def wI (z : Int) : Int32 := Int32.ofInt z
theorem wI_n (n : Nat) : nI n = wI n := Int32.ofInt_eq_ofNat.symm
theorem wI_add (a b : Int) : wI a + wI b = wI (a + b) := (Int32.ofInt_add a b).symm
theorem wI_sub (a b : Int) : wI a - wI b = wI (a - b) := (Int32.ofInt_sub a b).symm
theorem wI_mul (a b : Int) : wI a * wI b = wI (a * b) := (Int32.ofInt_mul a b).symm
theorem wI_int {a : Int} (h1 : -2147483648 ≤ a) (h2 : a < 2147483648) : (wI a).toInt = a := Int32.toInt_ofInt_of_le h1 h2
theorem wI_le {a b : Int} (h1 : -2147483648 ≤ a) (h2 : a < 2147483648) (h3 : -2147483648 ≤ b) (h4 : b < 2147483648) : wI a ≤ wI b ↔ a ≤ b := by
  rw [Int32.le_iff_toInt_le, wI_int h1 h2, wI_int h3 h4]
theorem wI_lt {a b : Int} (h1 : -2147483648 ≤ a) (h2 : a < 2147483648) (h3 : -2147483648 ≤ b) (h4 : b < 2147483648) : wI a < wI b ↔ a < b := by
  rw [Int32.lt_iff_toInt_lt, wI_int h1 h2, wI_int h3 h4]
theorem wI_eq {a b : Int} (h1 : -2147483648 ≤ a) (h2 : a < 2147483648) (h3 : -2147483648 ≤ b) (h4 : b < 2147483648) : wI a = wI b ↔ a = b := by
  rw [← Int32.toInt_inj, wI_int h1 h2, wI_int h3 h4]
theorem n_sub (a b : Nat) : nI a - nI b = wI ((a : Int) - b) := by rw [wI_n, wI_n, wI_sub]
theorem n_subn {a b : Nat} (h : b ≤ a) : nI a - nI b = nI (a - b) := by rw [n_sub, wI_n]; congr 1; omega
theorem n_mul (a b : Nat) : nI a * nI b = nI (a * b) := (Int32.ofNat_mul a b).symm
theorem n_and (a b : Nat) : nI a &&& nI b = nI (a &&& b) := by
  apply Int32.toBitVec_inj.1
  show BitVec.ofNat 32 a &&& BitVec.ofNat 32 b = BitVec.ofNat 32 (a &&& b)
  rw [BitVec.ofNat_and]
theorem n_or (a b : Nat) : nI a ||| nI b = nI (a ||| b) := by
  apply Int32.toBitVec_inj.1
  show BitVec.ofNat 32 a ||| BitVec.ofNat 32 b = BitVec.ofNat 32 (a ||| b)
  rw [BitVec.ofNat_or]
theorem n_sm : ∀ b, b < 31 → ((nI b &&& 31).toBitVec.smod 32).toNat = b := by decide +kernel
theorem n_shr {m b : Nat} (hm : m < 2147483648) (hb : b < 31) : nI m >>> (nI b &&& 31) = nI (m >>> b) := by
  apply Int32.toBitVec_inj.1
  show (BitVec.ofNat 32 m).sshiftRight' ((nI b &&& 31).toBitVec.smod 32) = BitVec.ofNat 32 (m >>> b)
  have e : (BitVec.ofNat 32 m).msb = false := by
    rw [BitVec.msb_eq_decide, decide_eq_false_iff_not, BitVec.toNat_ofNat]
    omega
  have hle : m >>> b ≤ m := by rw [Nat.shiftRight_eq_div_pow]; exact Nat.div_le_self _ _
  rw [BitVec.sshiftRight_eq', n_sm b hb, BitVec.sshiftRight_eq_of_msb_false e]
  apply BitVec.eq_of_toNat_eq
  rw [BitVec.toNat_ushiftRight, BitVec.toNat_ofNat, BitVec.toNat_ofNat, Nat.mod_eq_of_lt (by omega), Nat.mod_eq_of_lt (by omega)]
def b1 (m b : Nat) : Nat := if m.testBit b = true then 1 else 0
theorem n_bit {m b : Nat} (hm : m < 2147483648) (hb : b < 31) : (nI m >>> (nI b &&& 31)) &&& 1 = nI (b1 m b) := by
  rw [n_shr hm hb]
  show nI (m >>> b) &&& nI 1 = _
  rw [n_and, Nat.and_one_is_mod, b1, Nat.testBit_eq_decide_div_mod_eq, Nat.shiftRight_eq_div_pow]
  congr 1
  generalize m / 2 ^ b = z
  simp only [decide_eq_true_eq]
  split <;> omega
theorem n_bit0 {m b : Nat} (hm : m < 2147483648) (hb : b < 31) : (nI m >>> (nI b &&& 31)) &&& 1 = 0 ↔ m.testBit b = false := by
  rw [n_bit hm hb, b1]
  cases m.testBit b <;> decide
theorem n_bit1 {m b : Nat} (hm : m < 2147483648) (hb : b < 31) : (nI m >>> (nI b &&& 31)) &&& 1 = 1 ↔ m.testBit b = true := by
  rw [n_bit hm hb, b1]
  cases m.testBit b <;> decide
theorem n_shl : ∀ b, b < 31 → (1 : Int32) <<< (nI b &&& 31) = nI (2 ^ b) := by decide +kernel
def kcl (k : Nat) : Nat := match k with
  | 0 => 5
  | 1 => 4
  | 2 => 10
  | 3 => 0
  | _ => 7
def shL (k hi e : Nat) : Nat := (hi + (if k = 1 then 2 else if k = 4 then 4 else 0)) * (if e < 6 then 6 - e else e - 6) / 3
def shW (t n : Nat) : Nat := 2 ^ t - 2 ^ (t - n)
def shE (t n : Nat) : Nat := 2 ^ (min 10 (t + 1 + n)) - 2 ^ (t + 1)
def sh (k hi t e : Nat) : Nat :=
  if k = 2 then (if shL k hi e = 0 then 0 else if e < 6 then (if shL k hi e ≤ t then 2 ^ (t - shL k hi e) else 0) else (if t + shL k hi e ≤ 9 then 2 ^ (t + shL k hi e) else 0))
  else if k = 3 then shW t (shL k hi e) ||| shE t (shL k hi e)
  else if e < 6 then shW t (shL k hi e) else shE t (shL k hi e)
theorem sh_lt : ∀ k, k < 5 → ∀ hi, hi < 10 → ∀ t, t < 10 → ∀ e, e < 13 → sh k hi t e < 1024 := by decide +kernel
def dsh (h : abH) (a : Nat) (hi t e : Int32) : Option Int32 := (kc h a).bind fun cc => dsp cc (F_X0_shade a hi t e h) (F_X5_shade a hi t e h) (F_X5_shade a hi t e h) (F_X5_shade a hi t e h) (F_X10_shade a hi t e h)
theorem ko_kc {h : abH} {a c : Nat} (hk : kc h a = some c) : ko c h a = some () := by
  unfold kc at hk
  unfold ko
  split at hk
  next q e => cases hk; simp [e]
  next => cases hk
theorem some_bind {α β : Type} (x : α) (f : α → Option β) : (some x).bind f = f x := rfl
theorem isKd_kcl (k : Nat) : isKd (kcl k) = true := by unfold kcl; split <;> rfl
theorem kcn_kcl : ∀ k, k < 5 → kcn (kcl k) = k := by decide
set_option maxRecDepth 100000 in
theorem dsh_ok {h : abH} {a k : Nat} (hk : kc h a = some (kcl k)) (hg : gK h a 1 = some (nI (kch (kcl k)))) (k5 : k < 5) : ∀ hi, hi < 10 → ∀ t, t < 10 → ∀ e, e < 13 → dsh h a (nI hi) (nI t) (nI e) = some (nI (sh k hi t e)) := by
  have hko := ko_kc hk
  rcases (by omega : k = 0 ∨ k = 1 ∨ k = 2 ∨ k = 3 ∨ k = 4) with rfl | rfl | rfl | rfl | rfl <;> simp only [kcl, kch, reduceIte, Nat.reduceEqDiff] at hk hko hg <;>
    simp only [dsh, hk, hko, hg, some_bind, dsp, F_X0_shade, F_X5_shade, F_X10_shade, F_X10_shade_B25, F_X5_length, F_X5_length_B17, F_X5_west, F_X5_east, F_X5_east_B16, F_X11_isTile, nm, rz, dz, reduceIte, Nat.reduceEqDiff] <;> decide +kernel
