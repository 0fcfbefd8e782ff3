/-! COUNT -/
section CK
variable {s : Nat → Nat → Int32} {l : Nat → Nat → Int64} {q : Nat → Nat → Option Nat} {P : List Nat} {r k : Nat → Nat → Nat} {pg : Nat → Nat} {M n c : Nat} {b : Bool}
def ctV (r : Nat → Nat → Nat) (n c : Nat) (a : Int32) : Int32 :=
  if a = 0 then nI (r 0 0) else if a = 1 then nI (r 5 0) else if a = 2 then nI (r 6 0) else if a = 3 then nI (Ws (r 4) 1023) else if a = 4 then nI (tcov r 1) else if a = 5 then nI (tcov r 2) else if a = 6 then nI (r 7 0) else if a = 7 then nI (good r) else if a = 8 then nI (r 10 0) else if a = 9 then nI n else if a = 10 then nI c else -102
theorem count_c (hC : Cs s q P r k pg n c b) (hO : Ok r) (a : Int32) : F_X11_count 3 a (hp s l q P) = some (ctV r n c a) := by
  have e0 : s 6 0 = nI (r 0 0) := hC.1.1.1
  have e1 : s 6 5 = nI (r 5 0) := hC.1.1.2.1
  have e2 : s 6 6 = nI (r 6 0) := hC.1.1.2.2.1
  have e6 : s 6 7 = nI (r 7 0) := hC.1.1.2.2.2.1
  have e8 : s 6 10 = nI (r 10 0) := hC.1.1.2.2.2.2
  have e9 : s 4 1 = nI n := hC.2.1.1
  have e10 : s 3 8 = nI c := hC.2.2.1
  have e3 : F_X1_worthOf 6 1023 (hp s l q P) = some (nI (Ws (r 4) 1023)) := worthOf_ok (l := l) hC.1 (show 1023 < 2147483648 by omega)
  have e4 : F_X1_tilesCoveredBy 6 1 (hp s l q P) = some (nI (tcov r 1)) := tcov_ok (l := l) hC.1 hO (show 1 < 3 by omega)
  have e5 : F_X1_tilesCoveredBy 6 2 (hp s l q P) = some (nI (tcov r 2)) := tcov_ok (l := l) hC.1 hO (show 2 < 3 by omega)
  have e7 := good_ok (l := l) hC.1 hO
  unfold F_X11_count ctV
  simp only [G_gR, G_gI, G_ko, sbd, e0, e1, e2, e3, e4, e5, e6, e7, e8, e9, e10]
  repeat' (first | rfl | (split <;> first | rfl | skip))
end CK
