/-! CALLS: blank, settle, forget, letter -/
section CA
variable {s s' : Nat → Nat → Int32} {l l' : Nat → Nat → Int64} {q : Nat → Nat → Option Nat} {P : List Nat} {r k : Nat → Nat → Nat} {pg : Nat → Nat} {M n c : Nat} {b : Bool}
theorem upd_s (f : Nat → Int32) (k : Nat) (x : Int32) : upd f k x k = x := by unfold upd; rw [if_pos rfl]
theorem upd_n {f : Nat → Int32} {k j : Nat} (x : Int32) (h : j ≠ k) : upd f k x j = f j := by unfold upd; rw [if_neg h]
theorem go_blank : Go M (F_X11_blank 3) (F_X12_blank 39) := by
  rintro s l q P ⟨r, k, pg, n, c, b, hC, hM, hO⟩
  have e1 : s 4 1 = nI n := hC.2.1.1
  have e2 : s 39 16 = nI n := hM.2.1.1
  refine ⟨nI n, us s 4 (upd (s 4) 1 0), us (us s 4 (upd (s 4) 1 0)) 39 (upd (s 39) 16 0), l, l, q, P, ?_, ?_, r, k, pg, 0, c, b, ?_, ?_, ?_⟩
  · unfold F_X11_blank
    simp only [G_gR, G_gI, G_sI, sbd, e1]
  · have e3 : us s 4 (upd (s 4) 1 0) 39 16 = nI n := e2
    unfold F_X12_blank
    simp only [G_gR, G_gI, G_sI, sbd, e3]
    rfl
  · exact ⟨hC.1, ⟨rfl, hC.2.1.2⟩, hC.2.2.1, hC.2.2.2.1, hC.2.2.2.2⟩
  · exact ⟨hM.1, ⟨rfl, hM.2.1.2⟩, hM.2.2.1, hM.2.2.2.1, hM.2.2.2.2⟩
  · exact ⟨hO.1, ⟨Nat.zero_le _, hO.2.1.2⟩, Nat.le_succ_of_le hO.2.2.1, hO.2.2.2⟩
end CA
