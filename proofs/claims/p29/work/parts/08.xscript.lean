/-! THE LAYER, last: a method of the law that reads the script -/
def abPx (D : va_G) (cA : Nat → ClassId) (ad : Nat → Nat) (B : Nat) (as : List Value) (h : abH) (Lx : Nat) (xs : Nat → Int32) : Array Value → State → Prop := fun a U => abPc D cA ad B as h a U ∧ va_X (ad 0) Lx xs U U.heap ∧ ad 0 < U.heap.size ∧ ad 0 < B
def abMx (Lx : Nat) (xs : Nat → Int32) (y : MethodName) (bytes : ByteArray) (maxL : Nat) (ret : Option FieldType) (d : Nat) (as : List Value) (v : Int32) : Prop :=
  ∀ (l : Launch) (D : va_G) (cA : Nat → ClassId) (ad : Nat → Nat) (B : Nat) (h : abH), Met l y (.code y bytes maxL ret :: abTb) ({ frames := d, cells := 0, slots := 0, locals := 38 * d }) (abPx D cA ad B as h Lx xs) (abQc D cA ad B (some (.int v)) h) 0 0 (fun q => B ≤ q)
theorem abMx_of {Lx : Nat} {xs : Nat → Int32} {y : MethodName} {cc : ByteArray} {nL : Nat} {ret : Option FieldType} {d : Nat} {as : List Value} {v : Int32} (lv : List (Option Value)) (hy : plainName y.cls = true) (hlen : (abls as).length ≤ nL) (hlv : abls as ++ List.replicate (nL - (abls as).length) none = lv)
    (k : ∀ h : abH, abW cc nL y.cls ret false d 0 0 (some (Lx, xs)) (some (.int v), h) 0 lv [] h 0 0) : abMx Lx xs y cc nL ret d as v := by
  subst hlv
  intro l D cA ad B h
  refine Met.ofW (cc := cc) (maxL := nL) (ret := ret) hy rfl ?_
  intro p e s m args below meth c s₁ B₀ hml hv
  obtain ⟨⟨rfl, hsz, hP, hK, hG, had⟩, hXX⟩ := hv
  have hx := B₀.exec
  have hb := B₀.bytes
  have hr := B₀.returns
  have hts := atoms_spec (ws := .code y cc nL ret :: abTb) B₀.pre
  have hown : s.vm.findClass y.cls = some m.cls := findClass_of_methodNamed B₀.named
  have hlocks := B₀.notSynchronized
  have hlsl : ∀ vs : List Value, (lg_sl (vs.map (abv ad))).length = (abls vs).length := by
    intro vs
    induction vs with
    | nil => rfl
    | cons v vs ih =>
      simp only [List.map_cons, abls, lg_sl, List.flatMap_cons, List.length_append] at ih ⊢
      rw [ih, abv_cat]
      by_cases hc : v.category = 2 <;> simp [hc] <;> omega
  have hl := lv_entry (as.map (abv ad)) (n := nL) (by rw [hlsl]; exact hlen)
  rw [lg_entry_eq]
  refine k h p l e _ s m _ below meth c D cA ad B s.heap [] _ _ ⟨hx, hb, hml, hown, fun w hw => hts w (List.mem_cons_of_mem _ hw), hK, hG, had, by omega, (fun q => by cases q), ⟨Nat.le_refl _, Nat.le_refl _, Nat.le_refl _, Nat.le_refl _⟩, (fun q hq => by cases hq; exact hXX)⟩ ?_ hsz hP va_S.rf ⟨hl.1, hl.2.1, fun i v hi => hl.2.2 (i, abv ad v) (by simpa using abls_at ad as 0 i v (by
    rcases Nat.lt_or_ge i (abls as).length with q | q
    · rwa [List.getElem?_append_left q] at hi
    · rw [List.getElem?_append_right q] at hi
      have := List.eq_of_mem_replicate (List.mem_of_getElem? hi)
      cases this))⟩
  intro H locs ls pc h1 h2 h3 h4
  have hq : ∀ t : State, t.heap = H → s.WarmedH t.vm → abQc D cA ad B (some (.int v)) h (as.map (abv ad)).toArray s (.returned ((some (.int v)).map (abv ad))) t := fun t ht _ => ⟨rfl, by rw [ht]; exact h1, by rw [ht]; exact h2, h3.F ht⟩
  have hf : ∀ q ∈ locs, (fun q => B ≤ q) q.base := h3.2.2
  rcases h4 with ⟨e1, e2, hd⟩ | ⟨v, ty, e1, e2, hn, hd⟩ | ⟨v, e1, e2, hd⟩ | ⟨a, n, e1, e2, hd⟩
  · cases e2
  · dsimp only at e2
    cases e2; subst e1
    exact W.zret hx hb hr hn hq hf hd hlocks
  · cases e2
  · cases e2
section AB9
variable {cc : ByteArray} {nL : Nat} {own : String} {ret : Option FieldType} {ini : Bool} {d mc ms : Nat} {out : Option Value × abH} {pc : Nat} {lv : List (Option Value)} {st st0 : List Value} {h h' : abH} {nc ns : Nat}
  {idx n mL d' : Nat} {y : MethodName} {bytes : ByteArray} {ret' : Option FieldType} {As : List Value} {Lx : Nat} {xs : Nat → Int32}
theorem abPx_blind {D : va_G} {cA : Nat → ClassId} {ad : Nat → Nat} {B : Nat} {as : List Value} : FrameBlind (abPx D cA ad B as h Lx xs) := fun a U g mk q =>
  ⟨abPc_blind a U g mk q.1, va_X.moved (u := U) (U := U.calling g mk a) (Vm.Alike.refl U.vm) q.2.1, q.2.2⟩
theorem abPrex {D : va_G} {cA : Nat → ClassId} {ad : Nat → Nat} {B : Nat} {as : List Value} {s : State} {H : Heap} {locs : List Loc} (hK : va_K D vwCl (abT cA) s) (hG : abG ad B s) (had : ∀ i, ad (i + 3) = B + i) (hz : H.size = B + h.length) (hP : va_P D vwCl (abw cA ad h) H) (hS : va_S (fun q => B ≤ q) s.heap H locs) (hX : va_X (ad 0) Lx xs s s.heap ∧ ad 0 < s.heap.size ∧ ad 0 < B) : PreS s H (abPx D cA ad B as h Lx xs) (as.map (abv ad)) :=
  ⟨abPx_blind, fun U hU hW => ⟨(abPre hK hG had hz hP hS).2 U hU hW, by
    rw [hU]
    exact va_X.moved hW.alike (va_X.kept hX.1 (hS.2.1 _ hX.2.1 (by have := hX.2.2; show ¬ (B ≤ ad 0); omega))), by rw [hU]; exact Nat.lt_of_lt_of_le hX.2.1 hS.1, hX.2.2⟩⟩
theorem ab_callSx {v : Int32} (hw : abSw own idx y bytes mL ret' n) (hM : abMx Lx xs y bytes mL ret' d' As v) (hst : st0 = As.reverse ++ st) (hn : As.length = n) (hd : decode cc pc = .ok (.invokestatic idx, 3)) (hrm : abRm d mc ms nc ns mL d' 0 0 st) (k : abW cc nL own ret ini d mc ms (some (Lx, xs)) out (pc + 3) lv (.int v :: st) h nc ns) : abW cc nL own ret ini d mc ms (some (Lx, xs)) out pc lv st0 h nc ns := by
  intro p l e R s m args below meth c D cA ad B H locs ls Q hC hE hz hP hS hl
  obtain ⟨hx, hb, hml, hown, hts, hK, hG, had, hB, hini, hR, hX⟩ := id hC
  obtain ⟨g1, g2, g3, g4, g5⟩ := hrm
  subst hst
  obtain ⟨w1, w2, w3, w5, w6⟩ := hw
  exact abRun hC hE hS hl (va_runS (As := As.map (abv ad)) ⟨hx, hb, hml, hown, hts⟩ (hM l D cA ad B h) (va_cwS (rm := ({ frames := d', cells := 0, slots := 0, locals := 38 * d' } : Room)) n hts (abGood w1 (abGood w2 (abGood w3 (abGood w5 abTb_in)))) rfl rfl rfl w6 ⟨by show d' + 1 ≤ R.frames; have := hR.1; omega, by show 8 + (mL + 11) + 38 * d' ≤ R.locals; have := hR.2.1; omega⟩) (abPrex hK hG had hz hP hS (hX _ rfl)) rfl (by simpa using hn) hl.1 (by simp) (by rw [abSum]; exact Nat.le_trans (Nat.le_of_eq (by show 2 * 0 + _ = _; omega)) g3) hd ⟨Nat.le_trans g4 hR.2.2.1, Nat.le_trans g5 hR.2.2.2⟩) k
theorem f_Sx {ζ : Type} {z : ζ} {q : Option Int32} {K : Int32 → Option ζ} (hw : abSw own idx y bytes mL ret' n) (hM : ∀ v, q = some v → abMx Lx xs y bytes mL ret' d' As v) (hst : st0 = As.reverse ++ st) (hn : As.length = n) (hd : decode cc pc = .ok (.invokestatic idx, 3)) (hrm : abRm d mc ms nc ns mL d' 0 0 st) (hf : q.bind K = some z) (kk : ∀ v, K v = some z → abW cc nL own ret ini d mc ms (some (Lx, xs)) out (pc + 3) lv (.int v :: st) h nc ns) : abW cc nL own ret ini d mc ms (some (Lx, xs)) out pc lv st0 h nc ns := by
  obtain ⟨v, h1, h2⟩ := Option.bind_eq_some_iff.mp hf
  exact ab_callSx hw (hM v h1) hst hn hd hrm (kk v h2)
end AB9
