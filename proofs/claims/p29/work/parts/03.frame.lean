/-! THE LAYER, second: a frame over the abstract heap -/
abbrev abX : Type := Option (Nat × (Nat → Int32))
def abIs (X : abX) (ad : Nat → Nat) (B : Nat) (s : State) : Prop := ∀ q, X = some q → va_X (ad 0) q.1 q.2 s s.heap ∧ ad 0 < s.heap.size ∧ ad 0 < B
/-- what a frame stands on, from its entry to its end -/
def abC (cc : ByteArray) (nL : Nat) (own : String) (ini : Bool) (d mc ms : Nat) (X : abX) (p : Program) (R : Room) (s : State) (m : MethodId) (args : Array Value) (meth : Method) (c : Code) (D : va_G) (cA : Nat → ClassId) (ad : Nat → Nat) (B : Nat) : Prop :=
  p.tables.exec = Jvm.exec ∧ c.code = cc ∧ c.maxLocals = nL ∧ s.vm.findClass own = some m.cls ∧ (∀ w ∈ abTb, w.before args s = true) ∧ va_K D vwCl (abT cA) s ∧ abG ad B s ∧ (∀ i, ad (i + 3) = B + i) ∧ B ≤ s.heap.size ∧ (ini = true → meth.name = "<init>") ∧ (d ≤ R.frames ∧ 38 * d ≤ R.locals ∧ mc ≤ R.cells ∧ ms ≤ R.slots) ∧ abIs X ad B s
/-- a return instruction stands at pc, of that value -/
def abRet (cc : ByteArray) (pc : Nat) (ret : Option FieldType) (r : Option Value) : Prop :=
  (ret = none ∧ r = none ∧ decode cc pc = .ok (.return_, 1)) ∨ (∃ (v : Int32) (ty : FieldType), ret = some ty ∧ r = some (.int v) ∧ narrow ty (.int v) = .int v ∧ decode cc pc = .ok (.ireturn, 1)) ∨
  (∃ v : Int64, ret = some .long ∧ r = some (.long v) ∧ decode cc pc = .ok (.lreturn, 1)) ∨ (∃ (a : Nat) (n : String), ret = some (.object n) ∧ r = some (.ref a) ∧ decode cc pc = .ok (.areturn, 1))
def abEnd (cc : ByteArray) (ret : Option FieldType) (mc ms : Nat) (out : Option Value × abH) (p : Program) (l : Launch) (e : Env) (R : Room) (s : State) (m : MethodId) (args : Array Value) (below : List Frame) (meth : Method) (c : Code) (D : va_G) (cA : Nat → ClassId) (ad : Nat → Nat) (B : Nat) (Q : State → Prop) : Prop :=
  ∀ (H : Heap) (locs : List Loc) (ls : Array Slot) (pc : Nat), H.size = B + out.2.length → va_P D vwCl (abw cA ad out.2) H → va_S (fun q => B ≤ q) s.heap H locs → abRet cc pc ret out.1 → W p l e R s m args below meth c H locs mc ms Q (F0 m pc ls (out.1.toList.map (abv ad)))
/-- W over the abstract heap -/
def abW (cc : ByteArray) (nL : Nat) (own : String) (ret : Option FieldType) (ini : Bool) (d mc ms : Nat) (X : abX) (out : Option Value × abH) (pc : Nat) (lv : List (Option Value)) (st : List Value) (h : abH) (nc ns : Nat) : Prop :=
  ∀ (p : Program) (l : Launch) (e : Env) (R : Room) (s : State) (m : MethodId) (args : Array Value) (below : List Frame) (meth : Method) (c : Code) (D : va_G) (cA : Nat → ClassId) (ad : Nat → Nat) (B : Nat) (H : Heap) (locs : List Loc) (ls : Array Slot) (Q : State → Prop),
    abC cc nL own ini d mc ms X p R s m args meth c D cA ad B → abEnd cc ret mc ms out p l e R s m args below meth c D cA ad B Q →
    H.size = B + h.length → va_P D vwCl (abw cA ad h) H → va_S (fun q => B ≤ q) s.heap H locs → abL nL ls ad lv → W p l e R s m args below meth c H locs nc ns Q (F0 m pc ls (st.map (abv ad)))
def abPc (D : va_G) (cA : Nat → ClassId) (ad : Nat → Nat) (B : Nat) (as : List Value) (h : abH) : Array Value → State → Prop :=
  va_Pc (as.map (abv ad)) (fun U => U.heap.size = B + h.length ∧ va_P D vwCl (abw cA ad h) U.heap ∧ va_K D vwCl (abT cA) U ∧ abG ad B U ∧ ∀ i, ad (i + 3) = B + i)
def abQc (D : va_G) (cA : Nat → ClassId) (ad : Nat → Nat) (B : Nat) (r : Option Value) (h' : abH) : Array Value → State → Outcome → State → Prop := fun _ st oc t =>
  oc = .returned (r.map (abv ad)) ∧ t.heap.size = B + h'.length ∧ va_P D vwCl (abw cA ad h') t.heap ∧ va_F (fun q => B ≤ q) st t
/-- a method, called with 'as' over h: it answers r, and leaves h' -/
def abM (y : MethodName) (bytes : ByteArray) (maxL : Nat) (ret : Option FieldType) (d mc ms : Nat) (as : List Value) (h : abH) (r : Option Value) (h' : abH) : Prop :=
  ∀ (l : Launch) (D : va_G) (cA : Nat → ClassId) (ad : Nat → Nat) (B : Nat), Met l y (.code y bytes maxL ret :: abTb) ({ frames := d, cells := mc, slots := ms, locals := 38 * d }) (abPc D cA ad B as h) (abQc D cA ad B r h') mc ms (fun q => B ≤ q)
def abls : List Value → List (Option Value)
  | [] => []
  | v :: vs => if v.category = 2 then some v :: none :: abls vs else some v :: abls vs
theorem abls_at (ad : Nat → Nat) : ∀ (vs : List Value) (k i : Nat) (v : Value), (abls vs)[i]? = some (some v) → (k + i, abv ad v) ∈ lv_args k (vs.map (abv ad))
  | [], k, i, v, h => by simp [abls] at h
  | w :: vs, k, i, v, h => by
    simp only [abls] at h
    simp only [List.map_cons, lv_args, abv_cat]
    by_cases hc : w.category = 2
    · rw [if_pos hc] at h
      rw [if_pos hc]
      match i, h with
      | 0, h =>
        simp at h
        subst h
        exact List.mem_cons_self
      | 1, h => simp at h
      | i + 2, h =>
        simp only [List.getElem?_cons_succ] at h
        refine List.mem_cons_of_mem _ ?_
        have := abls_at ad vs (k + 2) i v h
        rwa [show k + 2 + i = k + (i + 2) by omega] at this
    · rw [if_neg hc] at h
      rw [if_neg hc]
      match i, h with
      | 0, h =>
        simp at h
        subst h
        exact List.mem_cons_self
      | i + 1, h =>
        simp only [List.getElem?_cons_succ] at h
        refine List.mem_cons_of_mem _ ?_
        have := abls_at ad vs (k + 1) i v h
        rwa [show k + 1 + i = k + (i + 1) by omega] at this
theorem abM_of {y : MethodName} {cc : ByteArray} {nL : Nat} {ret : Option FieldType} {ini : Bool} {d mc ms : Nat} {as : List Value} {h h' : abH} {r : Option Value} (lv : List (Option Value)) (hy : plainName y.cls = true) (hini : ini = true → y.name = "<init>") (hlen : (abls as).length ≤ nL) (hlv : abls as ++ List.replicate (nL - (abls as).length) none = lv)
    (k : abW cc nL y.cls ret ini d mc ms none (r, h') 0 lv [] h 0 0) : abM y cc nL ret d mc ms as h r h' := by
  subst hlv
  intro l D cA ad B
  refine Met.ofW (cc := cc) (maxL := nL) (ret := ret) hy rfl ?_
  intro p e s m args below meth c s₁ B₀ hml hv
  obtain ⟨rfl, hsz, hP, hK, hG, had⟩ := hv
  have hx := B₀.exec
  have hb := B₀.bytes
  have hr := B₀.returns
  have hts := atoms_spec (ws := .code y cc nL ret :: abTb) B₀.pre
  have hown : s.vm.findClass y.cls = some m.cls := findClass_of_methodNamed B₀.named
  have hlocks := B₀.notSynchronized
  have hname : meth.name = y.name := (name_of_methodNamed B₀.named B₀.method).1
  have hlsl : ∀ vs : List Value, (lg_sl (vs.map (abv ad))).length = (abls vs).length := by
    intro vs
    induction vs with
    | nil => rfl
    | cons v vs ih =>
      simp only [List.map_cons, abls, lg_sl, List.flatMap_cons, List.length_append] at ih ⊢
      rw [ih, abv_cat]
      by_cases hc : v.category = 2 <;> simp [hc] <;> omega
  have hl := lv_entry (as.map (abv ad)) (n := nL) (by rw [hlsl]; exact hlen)
  rw [lg_entry_eq]
  refine k p l e _ s m _ below meth c D cA ad B s.heap [] _ _ ⟨hx, hb, hml, hown, fun w hw => hts w (List.mem_cons_of_mem _ hw), hK, hG, had, by omega, fun q => by rw [hname]; exact hini q, ⟨Nat.le_refl _, Nat.le_refl _, Nat.le_refl _, Nat.le_refl _⟩, fun q hq => (by cases hq)⟩ ?_ hsz hP va_S.rf ⟨hl.1, hl.2.1, fun i v hi => hl.2.2 (i, abv ad v) (by simpa using abls_at ad as 0 i v (by
    rcases Nat.lt_or_ge i (abls as).length with q | q
    · rwa [List.getElem?_append_left q] at hi
    · rw [List.getElem?_append_right q] at hi
      have := List.eq_of_mem_replicate (List.mem_of_getElem? hi)
      cases this))⟩
  intro H locs ls pc h1 h2 h3 h4
  have hq : ∀ t : State, t.heap = H → s.WarmedH t.vm → abQc D cA ad B r h' (as.map (abv ad)).toArray s (.returned (r.map (abv ad))) t := fun t ht _ => ⟨rfl, by rw [ht]; exact h1, by rw [ht]; exact h2, h3.F ht⟩
  have hf : ∀ q ∈ locs, (fun q => B ≤ q) q.base := h3.2.2
  rcases h4 with ⟨e1, e2, hd⟩ | ⟨v, ty, e1, e2, hn, hd⟩ | ⟨v, e1, e2, hd⟩ | ⟨a, n, e1, e2, hd⟩
  · dsimp only at e2
    subst e1; subst e2
    exact W.vret hx hb hr hq hf hd hlocks
  · dsimp only at e2
    subst e1; subst e2
    exact W.zret hx hb hr hn hq hf hd hlocks
  · dsimp only at e2
    subst e1; subst e2
    exact W.lret hx hb hr hq hf hd hlocks
  · dsimp only at e2
    subst e1; subst e2
    exact W.aret hx hb hr (Or.inl ⟨n, rfl⟩) (Or.inr ⟨_, rfl⟩) hq hf hd hlocks
