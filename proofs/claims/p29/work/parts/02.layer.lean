/-! THE LAYER: a heap of abstract cells, by their places; the real heap holds them at B, B + 1 ..; 'abW' is W over it -/
def abTb : List Cond := lw_tbl.filter goodWord
theorem abTb_mem {w : Cond} (i : Nat) (h : lw_tbl[i]? = some w) (hg : goodWord w = true) : w ∈ abTb := List.mem_filter.mpr ⟨List.mem_of_getElem? h, hg⟩
theorem abTb_good {w : Cond} (h : w ∈ abTb) : (w.onTables && w.keeps) = true ∨ ∃ ty, w = .arrayClass ty := good_of_word (List.mem_filter.mp h).2
theorem abTb_in : GoodIn abTb abTb := fun _ h => ⟨h, abTb_good h⟩
abbrev abE : Type := (Nat × Nat × (Nat → Int32)) ⊕ ((Nat × (Nat → Option Nat)) ⊕ (Nat × List Value))
abbrev abH : Type := List abE
def abv (ad : Nat → Nat) : Value → Value
  | .ref a => .ref (ad a)
  | v => v
def abe (cA : Nat → ClassId) (ad : Nat → Nat) : abE → va_E
  | .inl q => .inl (cA q.1, q.2.1, .inl q.2.2)
  | .inr (.inl q) => .inl (cA 3, q.1, .inr (.inr (.inr (.inr (fun j => (q.2 j).map ad)))))
  | .inr (.inr q) => .inr (q.1, q.2.map (abv ad))
def abw (cA : Nat → ClassId) (ad : Nat → Nat) (h : abH) : va_W := h.mapIdx (fun i e => (ad (i + 3), abe cA ad e))
theorem abw_get {cA : Nat → ClassId} {ad : Nat → Nat} {h : abH} {i : Nat} {e : abE} (hi : h[i]? = some e) : (abw cA ad h)[i]? = some (ad (i + 3), abe cA ad e) := by
  simp [abw, List.getElem?_mapIdx, hi]
theorem abw_set {cA : Nat → ClassId} {ad : Nat → Nat} {h : abH} {i : Nat} {e : abE} : (abw cA ad h).set i (ad (i + 3), abe cA ad e) = abw cA ad (h.set i e) := by
  apply List.ext_getElem?
  intro j
  by_cases hj : i = j
  · subst hj
    by_cases hl : i < h.length
    · rw [List.getElem?_set_self (by simp [abw, hl]), abw_get (List.getElem?_set_self hl)]
    · have h1 : h.set i e = h := List.set_eq_of_length_le (by omega)
      have h2 : (abw cA ad h).set i (ad (i + 3), abe cA ad e) = abw cA ad h := List.set_eq_of_length_le (by simp [abw]; omega)
      rw [h1, h2]
  · rw [List.getElem?_set_ne hj]
    simp [abw, List.getElem?_mapIdx, List.getElem?_set_ne hj]
theorem abw_push {cA : Nat → ClassId} {ad : Nat → Nat} {h : abH} {e : abE} : abw cA ad h ++ [(ad (h.length + 3), abe cA ad e)] = abw cA ad (h ++ [e]) := by
  simp [abw, List.mapIdx_append]
theorem abw_nil {cA : Nat → ClassId} {ad : Nat → Nat} : abw cA ad [] = [] := rfl
theorem abw_D {cA : Nat → ClassId} {ad : Nat → Nat} {B : Nat} (had : ∀ i, ad (i + 3) = B + i) (h : abH) : va_D (fun q : Nat => B ≤ q) (abw cA ad h) := by
  have key : ∀ (i : Nat) (p : Nat × va_E), (abw cA ad h)[i]? = some p → p.1 = B + i := by
    intro i p hp
    simp only [abw, List.getElem?_mapIdx] at hp
    cases hh : h[i]? with
    | none => rw [hh] at hp; cases hp
    | some e => rw [hh] at hp; cases hp; exact had i
  refine ⟨fun i j p q hi hj e => ?_, fun k q hk => ?_⟩
  · have h1 := key i p hi
    have h2 := key j q hj
    omega
  · have h1 := key k q hk
    show B ≤ q.1
    omega
def abT (cA : Nat → ClassId) : List (ClassId × FieldType) := [(cA 0, .int), (cA 1, .char), (cA 2, .byte), (cA 3, .object "ShadowCourt$Kind")]
def abNest : List (String × Nat × MethodName × String) := [("ShadowCourt", 9, ⟨"ShadowCourt$Page", "<init>", "()V"⟩, "ShadowCourt"), ("ShadowCourt", 18, ⟨"ShadowCourt$Court", "<init>", "()V"⟩, "ShadowCourt"), ("ShadowCourt", 28, ⟨"ShadowCourt$Sight", "<init>", "()V"⟩, "ShadowCourt"), ("ShadowCourt", 35, ⟨"ShadowCourt$Game", "<init>", "()V"⟩, "ShadowCourt"), ("ShadowCourt", 42, ⟨"ShadowCourt$Docket", "<init>", "()V"⟩, "ShadowCourt"), ("ShadowCourt", 49, ⟨"ShadowCourt$Terms", "<init>", "()V"⟩, "ShadowCourt"), ("ShadowCourt$Thin", 15, ⟨"ShadowCourt", "isTile", "(I)Z"⟩, "ShadowCourt"), ("ShadowCourt$Court", 101, ⟨"ShadowCourt", "isTile", "(I)Z"⟩, "ShadowCourt"), ("ShadowCourt$Page", 48, ⟨"ShadowCourt", "within", "(III)Z"⟩, "ShadowCourt")]
def abCast : List (String × String) := [("ShadowCourt$Plume", "ShadowCourt$Hat"), ("ShadowCourt$Hat", "ShadowCourt$Kind"), ("ShadowCourt$Thin", "ShadowCourt$Kind"), ("ShadowCourt$Child", "ShadowCourt$Kind"), ("ShadowCourt$Plume", "ShadowCourt$Kind")]
def abNcast : List (String × String) := [("ShadowCourt$Thin", "ShadowCourt$Hat"), ("ShadowCourt$Child", "ShadowCourt$Hat"), ("ShadowCourt$Kind", "ShadowCourt$Hat"), ("ShadowCourt$Hat", "ShadowCourt$Thin"), ("ShadowCourt$Child", "ShadowCourt$Thin"), ("ShadowCourt$Plume", "ShadowCourt$Thin"), ("ShadowCourt$Kind", "ShadowCourt$Thin"), ("ShadowCourt$Hat", "ShadowCourt$Child"), ("ShadowCourt$Thin", "ShadowCourt$Child"), ("ShadowCourt$Plume", "ShadowCourt$Child"), ("ShadowCourt$Kind", "ShadowCourt$Child"), ("ShadowCourt$Hat", "ShadowCourt$Plume"), ("ShadowCourt$Thin", "ShadowCourt$Plume"), ("ShadowCourt$Child", "ShadowCourt$Plume"), ("ShadowCourt$Kind", "ShadowCourt$Plume")]
/-- what is said of the tables, of the one String constant and of String's static, beside the words and the classes -/
def abG (ad : Nat → Nat) (B : Nat) (U : State) : Prop :=
  (∀ q ∈ abNest, va_Nw (.methodLinkNest q.1 q.2.1 q.2.2.1 q.2.2.2) U) ∧ (∀ q ∈ abCast, va_Nw (.castable q.1 q.2) U) ∧ (∀ q ∈ abNcast, va_Nc q.1 q.2 U) ∧ va_AO "ShadowCourt$Kind" U ∧
  vk_R "ShadowCourt$Page" 52 "phtcu" (ad 1) U ∧ vk_S 1 [5] [[112, 104, 116, 99, 117]] (fun _ => ad 1) (fun _ => ad 2) (fun q => B ≤ q) U U.heap ∧ va_Z "java/lang/String" "COMPACT_STRINGS" "Z" (.int 1) (fun q => B ≤ q) U U.heap
theorem abG.to {ad : Nat → Nat} {B : Nat} {s U : State} {H : Heap} {locs : List Loc} (hG : abG ad B s) (hU : U.heap = H) (hW : s.WarmedH U.vm) (hS : va_S (fun q => B ≤ q) s.heap H locs) : abG ad B U := by
  obtain ⟨h1, h2, h3, h4, h5, h6, h7⟩ := hG
  subst hU
  exact ⟨fun q hq => va_Nw.warmM hW (h1 q hq), fun q hq => va_Nw.warmC hW (h2 q hq), fun q hq => va_Nc.moved hW.alike (h3 q hq), va_AO.moved hW.alike h4, vk_R.warm hW h5, vk_S.moved hW.alike (vk_S.kept h6 hS.2.1), va_Z.moved hW.alike (va_Z.kept h7 hS.2.1)⟩
theorem abG.blind {ad : Nat → Nat} {B : Nat} {U : State} {g : JFrame} {mk : MethodId} {a : Array Value} (hG : abG ad B U) : abG ad B (U.calling g mk a) := by
  obtain ⟨h1, h2, h3, h4, h5, h6, h7⟩ := hG
  have hv : U.vm.Alike (U.calling g mk a).vm := Vm.Alike.refl U.vm
  exact ⟨fun q hq => va_Nw.same rfl rfl (h1 q hq), fun q hq => va_Nw.same rfl rfl (h2 q hq), fun q hq => va_Nc.moved hv (h3 q hq), va_AO.moved hv h4, vk_R.same rfl h5, vk_S.moved hv h6, va_Z.moved hv h7⟩
/-- locals by their slots; none: nothing is known of it -/
def abL (nL : Nat) (ls : Array Slot) (ad : Nat → Nat) (lv : List (Option Value)) : Prop := ls.size = nL ∧ lv_wf ls ∧ ∀ (i : Nat) (v : Value), lv[i]? = some (some v) → ls[i]? = some (.val (abv ad v))
def abp (ad : Nat → Nat) (lv : List (Option Value)) : List (Nat × Value) := lv.zipIdx.filterMap (fun q => q.1.map (fun v => (q.2, abv ad v)))
theorem abp_mem {ad : Nat → Nat} {lv : List (Option Value)} {i : Nat} {w : Value} : (i, w) ∈ abp ad lv ↔ ∃ v, lv[i]? = some (some v) ∧ w = abv ad v := by
  simp only [abp, List.mem_filterMap]
  constructor
  · rintro ⟨⟨o, j⟩, h1, h2⟩
    rw [List.mem_zipIdx_iff_getElem?] at h1
    cases o with
    | none => cases h2
    | some v =>
      simp only [Option.map_some, Option.some.injEq, Prod.mk.injEq] at h2
      obtain ⟨rfl, rfl⟩ := h2
      exact ⟨v, h1, rfl⟩
  · rintro ⟨v, h1, rfl⟩
    exact ⟨(some v, i), List.mem_zipIdx_iff_getElem?.mpr h1, rfl⟩
theorem abL.has {nL : Nat} {ls : Array Slot} {ad : Nat → Nat} {lv : List (Option Value)} (h : abL nL ls ad lv) : lv_has ls nL (abp ad lv) := by
  refine ⟨h.1, h.2.1, fun q hq => ?_⟩
  obtain ⟨i, w⟩ := q
  obtain ⟨v, h1, rfl⟩ := abp_mem.mp hq
  exact h.2.2 i v h1
theorem abv_cat (ad : Nat → Nat) (v : Value) : (abv ad v).category = v.category := by cases v <;> rfl
/-- no long stands in the slot ahead -/
def abOk (lv : List (Option Value)) : Nat → Bool
  | 0 => true
  | j + 1 => match lv[j]? with
    | some (some v) => v.category == 1
    | _ => true
theorem abL.st1 {nL : Nat} {ls' : Array Slot} {ad : Nat → Nat} {lv : List (Option Value)} {i : Nat} {x : Value} (hok : abOk lv i = true) (h : lv_has ls' nL ((i, abv ad x) :: (abp ad lv).filter (fun q => !(q.1 == i) && !(q.1 + 1 == i && q.2.category == 2)))) : abL nL ls' ad (lv.set i (some x)) := by
  refine ⟨h.1, h.2.1, fun j v hj => ?_⟩
  by_cases e : i = j
  · subst e
    have hl : i < lv.length := by
      rcases Nat.lt_or_ge i lv.length with q | q
      · exact q
      · rw [List.set_eq_of_length_le q, List.getElem?_eq_none q] at hj
        cases hj
    rw [List.getElem?_set_self hl] at hj
    cases hj
    exact h.2.2 (i, _) List.mem_cons_self
  · rw [List.getElem?_set_ne e] at hj
    refine h.2.2 (j, abv ad v) (List.mem_cons_of_mem _ (List.mem_filter.mpr ⟨abp_mem.mpr ⟨v, hj, rfl⟩, ?_⟩))
    have e1 : (j == i) = false := by simp; omega
    by_cases e2 : j + 1 = i
    · subst e2
      simp only [abOk, hj] at hok
      simp only [abv_cat]
      have : v.category = 1 := by simpa using hok
      simp [e1, this]
    · simp [e1, e2]
theorem abL.st2 {nL : Nat} {ls' : Array Slot} {ad : Nat → Nat} {lv : List (Option Value)} {i : Nat} {x : Value} (hok : abOk lv i = true) (h : lv_has ls' nL ((i, abv ad x) :: (abp ad lv).filter (fun q => !(q.1 == i) && (!(q.1 == i + 1) && !(q.1 + 1 == i && q.2.category == 2))))) : abL nL ls' ad ((lv.set i (some x)).set (i + 1) none) := by
  refine ⟨h.1, h.2.1, fun j v hj => ?_⟩
  by_cases e0 : i + 1 = j
  · subst e0
    rw [List.getElem?_set] at hj
    simp at hj
  · rw [List.getElem?_set_ne e0] at hj
    by_cases e : i = j
    · subst e
      have hl : i < lv.length := by
        rcases Nat.lt_or_ge i lv.length with q | q
        · exact q
        · rw [List.set_eq_of_length_le q, List.getElem?_eq_none q] at hj
          cases hj
      rw [List.getElem?_set_self hl] at hj
      cases hj
      exact h.2.2 (i, _) List.mem_cons_self
    · rw [List.getElem?_set_ne e] at hj
      refine h.2.2 (j, abv ad v) (List.mem_cons_of_mem _ (List.mem_filter.mpr ⟨abp_mem.mpr ⟨v, hj, rfl⟩, ?_⟩))
      have e1 : (j == i) = false := by simp; omega
      have e3 : (j == i + 1) = false := by simp; omega
      by_cases e2 : j + 1 = i
      · subst e2
        simp only [abOk, hj] at hok
        simp only [abv_cat]
        have : v.category = 1 := by simpa using hok
        simp [e1, e3, this]
      · simp [e1, e3, e2]
/-- fewer known -/
def abMsk : List Bool → List (Option Value) → List (Option Value)
  | true :: m, x :: l => x :: abMsk m l
  | false :: m, _ :: l => none :: abMsk m l
  | [], l => l
  | _, [] => []
theorem abMsk_sub : ∀ (m : List Bool) (l : List (Option Value)) (i : Nat) (v : Value), (abMsk m l)[i]? = some (some v) → l[i]? = some (some v)
  | [], l, i, v, h => by simpa [abMsk] using h
  | true :: m, [], i, v, h => by simp [abMsk] at h
  | false :: m, [], i, v, h => by simp [abMsk] at h
  | true :: m, x :: l, 0, v, h => by simpa [abMsk] using h
  | true :: m, x :: l, i + 1, v, h => by
    simp only [abMsk, List.getElem?_cons_succ] at h ⊢
    exact abMsk_sub m l i v h
  | false :: m, x :: l, 0, v, h => by simp [abMsk] at h
  | false :: m, x :: l, i + 1, v, h => by
    simp only [abMsk, List.getElem?_cons_succ] at h ⊢
    exact abMsk_sub m l i v h
