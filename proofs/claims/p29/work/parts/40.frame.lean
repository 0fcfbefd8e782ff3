/-! GAME: the class's solve -/
theorem n_m1 (k : Nat) : nI (k + 1) + (-1) = nI k := by
  show nI (k + 1) + wI (-1) = nI k
  rw [wI_n, wI_add, wI_n]; congr 1; omega
theorem dz_ne {α : Type} {y : Int32} (h : ¬ y = 0) (K : Option α) : dz y K = K := by unfold dz; rw [if_neg h]
section GB
variable {s s' s1 s2 : Nat → Nat → Int32} {l : Nat → Nat → Int64} {q : Nat → Nat → Option Nat} {P : List Nat} {r : Nat → Nat → Nat} {G : Nat → Nat → Int} {B : Int}
theorem Ct.mv {o : Nat} (ho : o ≤ 17) (h : Ct s q P o r) (e : ∀ a, a < 28 → s' a = s a) : Ct s' q P o r := by
  refine ⟨?_, ?_, h.2.2⟩
  · rw [e o (by omega)]; exact h.1
  · rw [e (o + 2) (by omega), e (o + 3) (by omega), e (o + 4) (by omega), e (o + 5) (by omega), e (o + 6) (by omega), e (o + 7) (by omega), e (o + 8) (by omega), e (o + 9) (by omega), e (o + 10) (by omega)]; exact h.2.1
def Eo (s s' : Nat → Nat → Int32) : Prop := ∀ a, a < 29 ∨ 39 ≤ a → s' a = s a
theorem Eo.rfl : Eo s s := fun _ _ => Eq.refl _
theorem Eo.trans (h1 : Eo s s1) (h2 : Eo s1 s2) : Eo s s2 := fun a ha => (h2 a ha).trans (h1 a ha)
theorem Eo.set (a : Nat) (f : Nat → Int32) (h : 29 ≤ a ∧ a < 39) : Eo s (us s a f) := fun b hb => us_ne s f (by omega)
theorem Ct.eo {o : Nat} (ho : o ≤ 17) (h : Ct s q P o r) (e : Eo s s') : Ct s' q P o r := h.mv ho (fun a ha => e a (by omega))
end GB
