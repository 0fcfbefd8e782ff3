/-! THE LAYER, fourth: fields, arrays, new, casts -/
/-- a field's place: class ci (by its number in vwCl), its slot k, as 'own' links it at idx -/
def abFs (own : String) (idx ci k : Nat) : Prop := ∃ (C : String) (T : u_T) (N : Nat), vwCl[ci]? = some (C, T, N) ∧ (∀ w ∈ u_ws C T N, w ∈ abTb) ∧ k < N ∧ Cond.fieldLink own idx (T k).1 (T k).2.1 (T k).2.2.1 ∈ abTb
def abFp (own : String) (idx ci k : Nat) (ty : FieldType) (fin : Bool) : Prop := ∃ (C : String) (T : u_T) (N : Nat) (ty0 : Nat → FieldType), vwCl[ci]? = some (C, T, N) ∧ (∀ w ∈ u_ws C T N, w ∈ abTb) ∧ k < N ∧ Cond.fieldLink own idx (T k).1 (T k).2.1 (T k).2.2.1 ∈ abTb ∧
  (∀ k, k < N → parseFieldDescriptor (T k).2.2.1 = some (ty0 k)) ∧ (∀ a, a < N → ∀ b, b < N → a ≠ b → (T a).2.1 ≠ (T b).2.1) ∧ (T k).2.2.2 = fin ∧ parseFieldDescriptor (T k).2.2.1 = some ty ∧ (fin = true → (T k).1 = own)
theorem abFp.fs {own : String} {idx ci k : Nat} {ty : FieldType} {fin : Bool} (h : abFp own idx ci k ty fin) : abFs own idx ci k := by
  obtain ⟨C, T, N, ty0, h1, h2, h3, h4, -⟩ := h
  exact ⟨C, T, N, h1, h2, h3, h4⟩
def abFit (ty : FieldType) (v : Value) : Prop := ∀ ad : Nat → Nat, narrow ty (abv ad v) = abv ad v ∧ fits ty (abv ad v) = true
theorem abFit_i (v : Int32) : abFit .int (.int v) := fun _ => ⟨rfl, rfl⟩
theorem abFit_l (v : Int64) : abFit .long (.long v) := fun _ => ⟨rfl, rfl⟩
theorem abFit_o (n : String) (a : Nat) : abFit (.object n) (.ref a) := fun _ => ⟨rfl, rfl⟩
theorem abFit_a (t : FieldType) (a : Nat) : abFit (.array t) (.ref a) := fun _ => ⟨rfl, rfl⟩
theorem abFit_z {v : Int32} (h : v = 0 ∨ v = 1) : abFit .boolean (.int v) := fun _ => by
  rcases h with rfl | rfl <;> exact ⟨rfl, rfl⟩
theorem rz_fit {v w : Int32} (h : rz v = some w) : w = v ∧ abFit .boolean (.int v) := by
  simp only [rz] at h
  split at h
  next q => cases h; exact ⟨rfl, abFit_z q⟩
  next => cases h
/-- a heap with one cell written: the world, the frame -/
theorem abP_set {D : va_G} {cA : Nat → ClassId} {ad : Nat → Nat} {B : Nat} {h : abH} {H H1 : Heap} {i : Nat} {e0 e : abE} (had : ∀ i, ad (i + 3) = B + i) (hP : va_P D vwCl (abw cA ad h) H) (hi : h[i]? = some e0) (he : va_at D vwCl (ad (i + 3), abe cA ad e) H1) (oq : ∀ q : Nat, q ≠ ad (i + 3) → H1[q]? = H[q]?) : va_P D vwCl (abw cA ad (h.set i e)) H1 := by
  rw [← abw_set]
  exact hP.set (abw_D had h) (abw_get hi) he oq
theorem abS_set {ad : Nat → Nat} {B i : Nat} {H0 H H1 : Heap} {locs : List Loc} {k : Nat} (had : ∀ i, ad (i + 3) = B + i) (hS : va_S (fun q => B ≤ q) H0 H locs) (z : H1.size = H.size) (oq : ∀ q : Nat, q ≠ ad (i + 3) → H1[q]? = H[q]?) : va_S (fun q => B ≤ q) H0 H1 (locs ++ [⟨ad (i + 3), k⟩]) :=
  hS.put z oq (by show B ≤ ad (i + 3); rw [had]; omega)
section AB2
variable {cc : ByteArray} {nL : Nat} {own : String} {ret : Option FieldType} {ini : Bool} {d mc ms : Nat} {X : abX} {out : Option Value × abH} {pc : Nat} {lv : List (Option Value)} {st : List Value} {h : abH} {nc ns : Nat}
theorem ab_getI {idx ci k a : Nat} {v : Int32} (hs : abFs own idx ci k) (hf : gI ci h a k = some v) (hd : decode cc pc = .ok (.getfield idx, 3)) (kk : abW cc nL own ret ini d mc ms X out (pc + 3) lv (.int v :: st) h nc ns) : abW cc nL own ret ini d mc ms X out pc lv (.ref a :: st) h nc ns := by
  intro p l e R s m args below meth c D cA ad B H locs ls Q hC hE hz hP hS hl
  obtain ⟨hx, hb, hml, hown, hts, hK, hG, had, hB, hini, hR, hX⟩ := id hC
  obtain ⟨C, T, N, h1, h2, h3, h4⟩ := hs
  obtain ⟨i, fs, rfl, h5, h6⟩ := gV_spec (gI_spec hf)
  exact va_get hx hb hts h2 hown hK hP i (abw_get h5) h1 k h3 (hts _ h4) (fun _ q => q) (v := abv ad (.int v)) (by simp [h6]) hd (kk p l e R s m args below meth c D cA ad B H locs ls Q hC hE hz hP hS hl)
theorem ab_getJ {idx ci k a : Nat} {v : Int64} (hs : abFs own idx ci k) (hf : gJ ci h a k = some v) (hd : decode cc pc = .ok (.getfield idx, 3)) (kk : abW cc nL own ret ini d mc ms X out (pc + 3) lv (.long v :: st) h nc ns) : abW cc nL own ret ini d mc ms X out pc lv (.ref a :: st) h nc ns := by
  intro p l e R s m args below meth c D cA ad B H locs ls Q hC hE hz hP hS hl
  obtain ⟨hx, hb, hml, hown, hts, hK, hG, had, hB, hini, hR, hX⟩ := id hC
  obtain ⟨C, T, N, h1, h2, h3, h4⟩ := hs
  obtain ⟨i, fs, rfl, h5, h6⟩ := gV_spec (gJ_spec hf)
  exact va_get hx hb hts h2 hown hK hP i (abw_get h5) h1 k h3 (hts _ h4) (fun _ q => q) (v := abv ad (.long v)) (by simp [h6]) hd (kk p l e R s m args below meth c D cA ad B H locs ls Q hC hE hz hP hS hl)
theorem ab_getR {idx ci k a : Nat} {v : Nat} (hs : abFs own idx ci k) (hf : gR ci h a k = some v) (hd : decode cc pc = .ok (.getfield idx, 3)) (kk : abW cc nL own ret ini d mc ms X out (pc + 3) lv (.ref v :: st) h nc ns) : abW cc nL own ret ini d mc ms X out pc lv (.ref a :: st) h nc ns := by
  intro p l e R s m args below meth c D cA ad B H locs ls Q hC hE hz hP hS hl
  obtain ⟨hx, hb, hml, hown, hts, hK, hG, had, hB, hini, hR, hX⟩ := id hC
  obtain ⟨C, T, N, h1, h2, h3, h4⟩ := hs
  obtain ⟨i, fs, rfl, h5, h6⟩ := gV_spec (gR_spec hf)
  exact va_get hx hb hts h2 hown hK hP i (abw_get h5) h1 k h3 (hts _ h4) (fun _ q => q) (v := abv ad (.ref v)) (by simp [h6]) hd (kk p l e R s m args below meth c D cA ad B H locs ls Q hC hE hz hP hS hl)
theorem ab_put {idx ci k a : Nat} {ty : FieldType} {v : Value} {h' : abH} (hs : abFp own idx ci k ty false) (hv : abFit ty v) (hf : sV ci h a k v = some h') (hd : decode cc pc = .ok (.putfield idx, 3)) (kk : abW cc nL own ret ini d mc ms X out (pc + 3) lv st h' nc ns) : abW cc nL own ret ini d mc ms X out pc lv (v :: .ref a :: st) h nc ns := by
  intro p l e R s m args below meth c D cA ad B H locs ls Q hC hE hz hP hS hl
  obtain ⟨hx, hb, hml, hown, hts, hK, hG, had, hB, hini, hR, hX⟩ := id hC
  obtain ⟨C, T, N, ty0, h1, h2, h3, h4, hty, hnm, hfin, hpd, hdecl⟩ := hs
  obtain ⟨i, fs, rfl, h5, hlen, rfl⟩ := sV_spec hf
  have hap := va_apart (own := own) hts h2 ty0 hty hnm hK h1
  obtain ⟨r, g1, cell, q1, q2, q3, q4⟩ := hP i _ (abw_get h5)
  have hr : r = (C, T, N) := Option.some.inj (g1.symm.trans h1)
  subst hr
  obtain ⟨hSl, hfc, kC, hkC, hkind⟩ := hK.1 ci _ h1
  obtain ⟨cf, kf, fi, f, hi, hsl⟩ := hSl k h3
  have hlay := hts _ (h2 _ (u_in_lay h3))
  unfold u_lay at hlay
  rw [if_neg (by rw [hfin]; decide)] at hlay
  have hst := (u_facts hfc hkC (u_lays hts h2 h3) hi).1
  have h6 := u_store hfc hkC hkind hlay hi hpd (hv ad).1 (hv ad).2
  refine W.putK hx hb (f := f) ⟨hown, hts _ h4, ⟨_, _, _, hi⟩, hst⟩ (by rw [q2]; exact h6) q1 q3 (by rw [hsl]; exact k2_hasslot (q4 k h3)) rfl rfl hd fun H1 e1 e2 e3 => ?_
  rw [hsl] at e1 ⊢
  have hm : (fs.set k v).map (abv ad) = (fs.map (abv ad)).set k (abv ad v) := by rw [List.map_set]
  refine kk p l e R s m args below meth c D cA ad B H1 _ ls Q hC hE (by rw [e2, hz, List.length_set]) (abP_set had hP h5 ?_ e3) (abS_set had hS e2 e3) hl
  show ∃ r : vw_C, _
  refine ⟨_, h1, ?_⟩
  show t_OB _ _ _ _ _ (vp_V ((fs.set k v).map (abv ad)))
  rw [hm]
  exact t_OB.to (V := updV (vp_V (fs.map (abv ad))) k (abv ad v)) ⟨_, e1, q2, q3, t_set q4 hap h3 _⟩ (fun j _ => vp_updV_set (by simpa using hlen) _ j)
theorem ab_putF {idx ci k a : Nat} {ty : FieldType} {v : Value} {h' : abH} (hs : abFp own idx ci k ty true) (hin : ini = true) (hv : abFit ty v) (hf : sV ci h a k v = some h') (hd : decode cc pc = .ok (.putfield idx, 3)) (kk : abW cc nL own ret ini d mc ms X out (pc + 3) lv st h' nc ns) : abW cc nL own ret ini d mc ms X out pc lv (v :: .ref a :: st) h nc ns := by
  intro p l e R s m args below meth c D cA ad B H locs ls Q hC hE hz hP hS hl
  obtain ⟨hx, hb, hml, hown, hts, hK, hG, had, hB, hini, hR, hX⟩ := id hC
  obtain ⟨C, T, N, ty0, h1, h2, h3, h4, hty, hnm, hfin, hpd, hdecl⟩ := hs
  obtain ⟨i, fs, rfl, h5, hlen, rfl⟩ := sV_spec hf
  have hap := va_apart (own := own) hts h2 ty0 hty hnm hK h1
  obtain ⟨r, g1, cell, q1, q2, q3, q4⟩ := hP i _ (abw_get h5)
  have hr : r = (C, T, N) := Option.some.inj (g1.symm.trans h1)
  subst hr
  obtain ⟨hSl, hfc, kC, hkC, hkind⟩ := hK.1 ci _ h1
  obtain ⟨cf, kf, fi, f, hi, hsl⟩ := hSl k h3
  have hlay := hts _ (h2 _ (u_in_lay h3))
  unfold u_lay at hlay
  rw [if_pos hfin] at hlay
  have hst := (u_facts hfc hkC (u_lays hts h2 h3) hi).1
  have hcf : m.cls = cf := by
    obtain ⟨_, _, c', _, _, _, -, -, hf', -, -, -, hown2, -⟩ := Cond.laysFinal_spec hlay
    have e1 : c' = cf := by have := hi.symm.trans hf'; simp at this; exact this.1.symm
    rw [hdecl rfl] at hown2
    rw [← e1]; exact Option.some.inj (hown.symm.trans hown2)
  have h6 := u_fits hfc hkC hkind (Or.inr hlay) hi hpd (hv ad).1 (hv ad).2
  refine W.putFinK hx hb hown (hts _ h4) hi hst hcf (hini hin) (by rw [q2]; exact h6) q1 q3 (by rw [hsl]; exact k2_hasslot (q4 k h3)) rfl rfl hd fun H1 e1 e2 e3 => ?_
  rw [hsl] at e1 ⊢
  have hm : (fs.set k v).map (abv ad) = (fs.map (abv ad)).set k (abv ad v) := by rw [List.map_set]
  refine kk p l e R s m args below meth c D cA ad B H1 _ ls Q hC hE (by rw [e2, hz, List.length_set]) (abP_set had hP h5 ?_ e3) (abS_set had hS e2 e3) hl
  show ∃ r : vw_C, _
  refine ⟨_, h1, ?_⟩
  show t_OB _ _ _ _ _ (vp_V ((fs.set k v).map (abv ad)))
  rw [hm]
  exact t_OB.to (V := updV (vp_V (fs.map (abv ad))) k (abv ad v)) ⟨_, e1, q2, q3, t_set q4 hap h3 _⟩ (fun j _ => vp_updV_set (by simpa using hlen) _ j)
theorem ab_iald {a : Nat} {i v : Int32} (hf : ga 0 h a i = some v) (hd : decode cc pc = .ok (.iaload, 1)) (kk : abW cc nL own ret ini d mc ms X out (pc + 1) lv (.int v :: st) h nc ns) : abW cc nL own ret ini d mc ms X out pc lv (.int i :: .ref a :: st) h nc ns := by
  intro p l e R s m args below meth c D cA ad B H locs ls Q hC hE hz hP hS hl
  obtain ⟨hx, hb, hml, hown, hts, hK, hG, had, hB, hini, hR, hX⟩ := id hC
  obtain ⟨j, n, f, rfl, h1, h2, rfl⟩ := ga_spec hf
  exact va_iald hx hb hK hP j 0 (abw_get h1) rfl h2 hd (kk p l e R s m args below meth c D cA ad B H locs ls Q hC hE hz hP hS hl)
theorem ab_iast {a : Nat} {i x : Int32} {h' : abH} (hf : sa 0 h a i x = some h') (hd : decode cc pc = .ok (.iastore, 1)) (kk : abW cc nL own ret ini d mc ms X out (pc + 1) lv st h' nc ns) : abW cc nL own ret ini d mc ms X out pc lv (.int x :: .int i :: .ref a :: st) h nc ns := by
  intro p l e R s m args below meth c D cA ad B H locs ls Q hC hE hz hP hS hl
  obtain ⟨hx, hb, hml, hown, hts, hK, hG, had, hB, hini, hR, hX⟩ := id hC
  obtain ⟨j, n, f, rfl, h1, h2, rfl⟩ := sa_spec hf
  refine W.iast hx hb (hP j _ (abw_get h1)) ((hK.2 0 _ rfl).1 n (fun j => .int (f j))) (fun q => by cases q) (by show ¬ (i < 0 ∨ (arrV _ _ _).slots.size ≤ _); rw [arrV_size]; exact h2) rfl rfl hd fun H1 e1 z oq => ?_
  refine kk p l e R s m args below meth c D cA ad B H1 _ ls Q hC hE (by rw [z, hz, List.length_set]) (abP_set had hP h1 ?_ oq) (abS_set had hS z oq) hl
  show H1[ad (j + 3)]? = some (vp_cell _ _)
  rw [e1]
  show some ((vp_cell (cA 0) (n, .inl f)).setSlot i.toNatClampNeg _) = some (vp_cell (cA 0) (n, .inl (upd f i.toNatClampNeg (nr 0 x))))
  rw [vp_cell_i, vp_cell_i, arrV_store]
  congr 2
  funext q
  by_cases hq : q = i.toNatClampNeg
  · subst hq
    simp [updV, upd, nr, vp_nar]
    try rfl
  · simp [updV, upd, hq]
theorem ab_cald {a : Nat} {i v : Int32} (hf : ga 1 h a i = some v) (hd : decode cc pc = .ok (.caload, 1)) (kk : abW cc nL own ret ini d mc ms X out (pc + 1) lv (.int v :: st) h nc ns) : abW cc nL own ret ini d mc ms X out pc lv (.int i :: .ref a :: st) h nc ns := by
  intro p l e R s m args below meth c D cA ad B H locs ls Q hC hE hz hP hS hl
  obtain ⟨hx, hb, hml, hown, hts, hK, hG, had, hB, hini, hR, hX⟩ := id hC
  obtain ⟨j, n, f, rfl, h1, h2, rfl⟩ := ga_spec hf
  exact va_cald hx hb hK hP j 1 (abw_get h1) rfl h2 hd (kk p l e R s m args below meth c D cA ad B H locs ls Q hC hE hz hP hS hl)
theorem ab_cast {a : Nat} {i x : Int32} {h' : abH} (hf : sa 1 h a i x = some h') (hd : decode cc pc = .ok (.castore, 1)) (kk : abW cc nL own ret ini d mc ms X out (pc + 1) lv st h' nc ns) : abW cc nL own ret ini d mc ms X out pc lv (.int x :: .int i :: .ref a :: st) h nc ns := by
  intro p l e R s m args below meth c D cA ad B H locs ls Q hC hE hz hP hS hl
  obtain ⟨hx, hb, hml, hown, hts, hK, hG, had, hB, hini, hR, hX⟩ := id hC
  obtain ⟨j, n, f, rfl, h1, h2, rfl⟩ := sa_spec hf
  refine W.cast hx hb (hP j _ (abw_get h1)) ((hK.2 1 _ rfl).1 n (fun j => .int (f j))) (fun q => by cases q) (by show ¬ (i < 0 ∨ (arrV _ _ _).slots.size ≤ _); rw [arrV_size]; exact h2) rfl rfl hd fun H1 e1 z oq => ?_
  refine kk p l e R s m args below meth c D cA ad B H1 _ ls Q hC hE (by rw [z, hz, List.length_set]) (abP_set had hP h1 ?_ oq) (abS_set had hS z oq) hl
  show H1[ad (j + 3)]? = some (vp_cell _ _)
  rw [e1]
  show some ((vp_cell (cA 1) (n, .inl f)).setSlot i.toNatClampNeg _) = some (vp_cell (cA 1) (n, .inl (upd f i.toNatClampNeg (nr 1 x))))
  rw [vp_cell_i, vp_cell_i, arrV_store]
  congr 2
  funext q
  by_cases hq : q = i.toNatClampNeg
  · subst hq
    simp [updV, upd, nr, vp_nar]
    try rfl
  · simp [updV, upd, hq]
theorem ab_bald {a : Nat} {i v : Int32} (hf : ga 2 h a i = some v) (hd : decode cc pc = .ok (.baload, 1)) (kk : abW cc nL own ret ini d mc ms X out (pc + 1) lv (.int v :: st) h nc ns) : abW cc nL own ret ini d mc ms X out pc lv (.int i :: .ref a :: st) h nc ns := by
  intro p l e R s m args below meth c D cA ad B H locs ls Q hC hE hz hP hS hl
  obtain ⟨hx, hb, hml, hown, hts, hK, hG, had, hB, hini, hR, hX⟩ := id hC
  obtain ⟨j, n, f, rfl, h1, h2, rfl⟩ := ga_spec hf
  exact va_bald hx hb hK hP j 2 (abw_get h1) rfl h2 hd (kk p l e R s m args below meth c D cA ad B H locs ls Q hC hE hz hP hS hl)
theorem ab_bast {a : Nat} {i x : Int32} {h' : abH} (hf : sa 2 h a i x = some h') (hd : decode cc pc = .ok (.bastore, 1)) (kk : abW cc nL own ret ini d mc ms X out (pc + 1) lv st h' nc ns) : abW cc nL own ret ini d mc ms X out pc lv (.int x :: .int i :: .ref a :: st) h nc ns := by
  intro p l e R s m args below meth c D cA ad B H locs ls Q hC hE hz hP hS hl
  obtain ⟨hx, hb, hml, hown, hts, hK, hG, had, hB, hini, hR, hX⟩ := id hC
  obtain ⟨j, n, f, rfl, h1, h2, rfl⟩ := sa_spec hf
  refine W.bast hx hb (hP j _ (abw_get h1)) ((hK.2 2 _ rfl).1 n (fun j => .int (f j))) (fun q => by cases q) (by show ¬ (i < 0 ∨ (arrV _ _ _).slots.size ≤ _); rw [arrV_size]; exact h2) rfl rfl hd fun H1 e1 z oq => ?_
  refine kk p l e R s m args below meth c D cA ad B H1 _ ls Q hC hE (by rw [z, hz, List.length_set]) (abP_set had hP h1 ?_ oq) (abS_set had hS z oq) hl
  show H1[ad (j + 3)]? = some (vp_cell _ _)
  rw [e1]
  show some ((vp_cell (cA 2) (n, .inl f)).setSlot i.toNatClampNeg _) = some (vp_cell (cA 2) (n, .inl (upd f i.toNatClampNeg (nr 2 x))))
  rw [vp_cell_i, vp_cell_i, arrV_store]
  congr 2
  funext q
  by_cases hq : q = i.toNatClampNeg
  · subst hq
    simp [updV, upd, nr, vp_nar]
    try rfl
  · simp [updV, upd, hq]
theorem ab_alen {a : Nat} {v : Int32} (hf : gl h a = some v) (hd : decode cc pc = .ok (.arraylength, 1)) (kk : abW cc nL own ret ini d mc ms X out (pc + 1) lv (.int v :: st) h nc ns) : abW cc nL own ret ini d mc ms X out pc lv (.ref a :: st) h nc ns := by
  intro p l e R s m args below meth c D cA ad B H locs ls Q hC hE hz hP hS hl
  obtain ⟨hx, hb, hml, hown, hts, hK, hG, had, hB, hini, hR, hX⟩ := id hC
  obtain ⟨j, t, n, f, rfl, h1, ht, rfl⟩ := gl_spec hf
  rcases (by omega : t = 0 ∨ t = 1 ∨ t = 2) with rfl | rfl | rfl
  · exact va_alen (x := (n, .inl f)) hx hb hK hP j 0 (abw_get h1) rfl rfl hd (kk p l e R s m args below meth c D cA ad B H locs ls Q hC hE hz hP hS hl)
  · exact va_alen (x := (n, .inl f)) hx hb hK hP j 1 (abw_get h1) rfl rfl hd (kk p l e R s m args below meth c D cA ad B H locs ls Q hC hE hz hP hS hl)
  · exact va_alen (x := (n, .inl f)) hx hb hK hP j 2 (abw_get h1) rfl rfl hd (kk p l e R s m args below meth c D cA ad B H locs ls Q hC hE hz hP hS hl)
theorem abv_rf (ad : Nat → Nat) (q : Option Nat) : abv ad (va_rf q) = va_rf (q.map ad) := by cases q <;> rfl
theorem ab_aald {a : Nat} {i : Int32} {v : Option Nat} (hf : gq h a i = some v) (hd : decode cc pc = .ok (.aaload, 1)) (kk : abW cc nL own ret ini d mc ms X out (pc + 1) lv (va_rf v :: st) h nc ns) : abW cc nL own ret ini d mc ms X out pc lv (.int i :: .ref a :: st) h nc ns := by
  intro p l e R s m args below meth c D cA ad B H locs ls Q hC hE hz hP hS hl
  obtain ⟨hx, hb, hml, hown, hts, hK, hG, had, hB, hini, hR, hX⟩ := id hC
  obtain ⟨j, n, f, rfl, h1, h2, rfl⟩ := gq_spec hf
  refine va_aldq hx hb hK hP j 3 (abw_get h1) rfl h2 hd ?_
  rw [← abv_rf]
  exact kk p l e R s m args below meth c D cA ad B H locs ls Q hC hE hz hP hS hl
theorem abKd {c : Nat} (hc : isKd c = true) : c = 0 ∨ c = 4 ∨ c = 5 ∨ c = 7 ∨ c = 10 := by
  simp [isKd] at hc
  omega
theorem abKd_asg {D : va_G} {cA : Nat → ClassId} {ad : Nat → Nat} {B : Nat} {s : State} {c : Nat} {comp : ClassId} (hK : va_K D vwCl (abT cA) s) (hG : abG ad B s) (hc : isKd c = true) (hcomp : s.vm.findClass "ShadowCourt$Kind" = some comp) : s.vm.assignable (D.1 c) comp = true := by
  have key : ∀ (C : String) (T : u_T) (N : Nat), vwCl[c]? = some (C, T, N) → (C, "ShadowCourt$Kind") ∈ abCast → s.vm.assignable (D.1 c) comp = true := by
    intro C T N h1 h2
    obtain ⟨c0, t0, f1, f2, f3⟩ := Cond.castable_spec (va_Nw.use (A := #[]) rfl (hG.2.1 _ h2))
    have h3 := (hK.1 c _ h1).2.1
    cases h3.symm.trans f1
    cases hcomp.symm.trans f2
    exact f3
  rcases abKd hc with rfl | rfl | rfl | rfl | rfl
  · exact key RX0 TX0 2 rfl (by decide +kernel)
  · exact key RX4 TX4 2 rfl (by decide +kernel)
  · have h3 := (hK.1 5 (RX5, TX5, 2) rfl).2
    have h4 : comp = D.1 5 := Option.some.inj (hcomp.symm.trans h3.1)
    subst h4
    exact va_assign h3
  · exact key RX7 TX7 2 rfl (by decide +kernel)
  · exact key RX10 TX10 2 rfl (by decide +kernel)
theorem ab_aast {a v : Nat} {i : Int32} {h' : abH} (hf : sq h a i v = some h') (hd : decode cc pc = .ok (.aastore, 1)) (kk : abW cc nL own ret ini d mc ms X out (pc + 1) lv st h' nc ns) : abW cc nL own ret ini d mc ms X out pc lv (.ref v :: .int i :: .ref a :: st) h nc ns := by
  intro p l e R s m args below meth c D cA ad B H locs ls Q hC hE hz hP hS hl
  obtain ⟨hx, hb, hml, hown, hts, hK, hG, had, hB, hini, hR, hX⟩ := id hC
  obtain ⟨j, n, cv, f, rfl, h1, h2, h3, h4, rfl⟩ := sq_spec hf
  obtain ⟨jv, fs, rfl, h5⟩ := kc_spec h3
  have hlt : i.toNatClampNeg < n := Nat.not_le.mp fun q => h2 (Or.inr q)
  have h0 : ¬ i < 0 := fun q => h2 (Or.inl q)
  obtain ⟨r, hr, cellV, g1, g2, g3, -⟩ := hP jv _ (abw_get h5)
  obtain ⟨hAr, kA, comp, k1, k2, k3, -⟩ := hK.2 3 _ rfl
  obtain ⟨-, kV, hkV, -⟩ := (hK.1 cv r hr).2
  obtain ⟨-, kC, hkC, -⟩ := (hK.1 5 (RX5, TX5, 2) rfl).2
  have hcomp5 : comp = D.1 5 := Option.some.inj (k3.symm.trans (hK.1 5 (RX5, TX5, 2) rfl).2.1)
  refine W.aast hx hb (hP j _ (abw_get h1)) (fun q h => by cases h) (fun h => by cases h) k1 k2 rfl (by rw [hcomp5]; exact hkC) ⟨h0, by show _ < (arrV _ _ _).slots.size; rw [arrV_size]; exact hlt⟩ g1 (fun q h => by rw [g3] at h; cases h) (by rw [g2]; exact hkV) (by rw [g2]; exact abKd_asg hK hG h4 k3) rfl rfl hd fun H1 e1 z oq => ?_
  refine kk p l e R s m args below meth c D cA ad B H1 _ ls Q hC hE (by rw [z, hz, List.length_set]) (abP_set had hP h1 ?_ oq) (abS_set had hS z oq) hl
  show H1[ad (j + 3)]? = some (vp_cell _ _)
  rw [e1]
  show some ((vp_cell (cA 3) (n, .inr (.inr (.inr (.inr (fun j => (f j).map ad)))))).setSlot i.toNatClampNeg (.ref (ad (jv + 3)))) = some (vp_cell (cA 3) (n, .inr (.inr (.inr (.inr (fun j => ((va_up f i.toNatClampNeg (some (jv + 3))) j).map ad))))))
  rw [vp_cell_q, vp_cell_q, arrV_store]
  congr 2
  funext q
  by_cases hq : q = i.toNatClampNeg
  · subst hq
    simp [updV, va_up, va_rf]
  · simp [updV, va_up, hq]
theorem abP_push {D : va_G} {cA : Nat → ClassId} {ad : Nat → Nat} {h : abH} {H H1 : Heap} {e : abE} (hP : va_P D vwCl (abw cA ad h) H) (o1 : ∀ q : Nat, q < H.size → H1[q]? = H[q]?) (he : va_at D vwCl (ad (h.length + 3), abe cA ad e) H1) : va_P D vwCl (abw cA ad (h ++ [e])) H1 := by
  rw [← abw_push]
  refine (hP.kept (fun k x hx => o1 x.1 ((hP k x hx).lt))).app (fun k x hx => ?_)
  have hz : k < 1 := (List.getElem?_eq_some_iff.mp hx).1
  rw [show k = 0 by omega] at hx
  cases hx
  exact he
theorem abS_push {B : Nat} {H0 H H1 : Heap} {locs : List Loc} (hS : va_S (fun q => B ≤ q) H0 H locs) (z : H1.size = H.size + 1) (o1 : ∀ q : Nat, q < H.size → H1[q]? = H[q]?) : va_S (fun q => B ≤ q) H0 H1 locs :=
  ⟨Nat.le_trans hS.1 (by omega), fun x h1 h2 => (o1 x (Nat.lt_of_lt_of_le h1 hS.1)).trans (hS.2.1 x h1 h2), hS.2.2⟩
/-- a class that can be made: its place, its fields' first values -/
def abNs (own : String) (idx ci : Nat) (fs : List Value) (N : Nat) : Prop := ∃ (C : String) (T : u_T) (ty : Nat → FieldType), vwCl[ci]? = some (C, T, N) ∧ (∀ w ∈ u_ws C T N, w ∈ abTb) ∧ (∀ k, k < N → parseFieldDescriptor (T k).2.2.1 = some (ty k)) ∧ Cond.classLink own idx C ∈ abTb ∧ Cond.instantiable C N ∈ abTb ∧ Cond.initialized C ∈ abTb ∧ (∀ j, j < N → defaultValue (ty j) = vp_V fs j) ∧ ∀ ad : Nat → Nat, fs.map (abv ad) = fs
theorem ab_new {idx ci N : Nat} {fs : List Value} (hs : abNs own idx ci fs N) (hd : decode cc pc = .ok (.new idx, 3)) (h1 : nc + 1 ≤ mc) (h2 : ns + N ≤ ms) (kk : abW cc nL own ret ini d mc ms X out (pc + 3) lv (.ref (h.length + 3) :: st) (h ++ [.inr (.inr (ci, fs))]) (nc + 1) (ns + N)) : abW cc nL own ret ini d mc ms X out pc lv st h nc ns := by
  intro p l e R s m args below meth c D cA ad B H locs ls Q hC hE hz hP hS hl
  obtain ⟨hx, hb, hml, hown, hts, hK, hG, had, hB, hini, hR, hX⟩ := id hC
  obtain ⟨C, T, ty, g1, g2, g3, g4, g5, g6, g7, g8⟩ := hs
  have hKn := hK.1 ci _ g1
  refine W.newcK hx hb hown (hts _ g4) (hts _ g5) (hts _ g6) rfl hd (Nat.le_trans h1 hR.2.2.1) (Nat.le_trans h2 hR.2.2.2) hKn.2.1 rfl fun H1 kC hkC e1 z1 o1 => ?_
  have hq : H.size = ad (h.length + 3) := by rw [had, hz]
  rw [show (Value.ref H.size) = abv ad (.ref (h.length + 3)) from by rw [hq]; rfl]
  refine kk p l e R s m args below meth c D cA ad B H1 locs ls Q hC hE (by rw [z1, hz, List.length_append]; rfl) (abP_push hP o1 ?_) (abS_push hS z1 o1) hl
  refine ⟨_, g1, ?_⟩
  show t_OB _ _ _ _ _ (vp_V (fs.map (abv ad)))
  rw [g8, ← hq]
  exact (u_born ty hts g2 hKn hkC e1 g3).to g7
theorem ab_newa {a : ArrayType} {n : Int32} (t N : Nat) (hw : Cond.arrayClass (newarray.typeOf a) ∈ abTb) (ht : (a = .int ∧ t = 0) ∨ (a = .char ∧ t = 1) ∨ (a = .byte ∧ t = 2)) (hn : ¬ n < 0) (hN : n.toNatClampNeg = N) (hNb : N ≤ 1000) (hd : decode cc pc = .ok (.newarray a, 2)) (h1 : nc + 1 ≤ mc) (h2 : ns + N ≤ ms) (kk : abW cc nL own ret ini d mc ms X out (pc + 2) lv (.ref (h.length + 3) :: st) (h ++ [.inl (t, N, fun _ => 0)]) (nc + 1) (ns + N)) : abW cc nL own ret ini d mc ms X out pc lv (.int n :: st) h nc ns := by
  intro p l e R s m args below meth c D cA ad B H locs ls Q hC hE hz hP hS hl
  obtain ⟨hx, hb, hml, hown, hts, hK, hG, had, hB, hini, hR, hX⟩ := id hC
  have hbytes : N * componentBytes (newarray.typeOf a) ≤ 536870912 := by
    rcases ht with ⟨rfl, -⟩ | ⟨rfl, -⟩ | ⟨rfl, -⟩ <;> simp [newarray.typeOf, componentBytes] <;> omega
  refine va_newaK hx hb (hts _ hw) rfl hd rfl hn hN hbytes (Nat.le_trans h1 hR.2.2.1) (Nat.le_trans h2 hR.2.2.2) rfl fun H1 c1 e1 z1 o1 hAr hNm => ?_
  have hq : H.size = ad (h.length + 3) := by rw [had, hz]
  rw [show (Value.ref H.size) = abv ad (.ref (h.length + 3)) from by rw [hq]; rfl]
  refine kk p l e R s m args below meth c D cA ad B H1 locs ls Q hC hE (by rw [z1, hz, List.length_append]; rfl) (abP_push hP o1 ?_) (abS_push hS z1 o1) hl
  show H1[ad (h.length + 3)]? = some (vp_cell (cA t) (N, .inl fun _ => 0))
  rw [← hq, e1, vp_cell_i]
  have hcl : c1 = cA t := by
    rcases ht with ⟨rfl, rfl⟩ | ⟨rfl, rfl⟩ | ⟨rfl, rfl⟩
    · exact Option.some.inj (hNm.symm.trans (hK.2 0 _ rfl).2)
    · exact Option.some.inj (hNm.symm.trans (hK.2 1 _ rfl).2)
    · exact Option.some.inj (hNm.symm.trans (hK.2 2 _ rfl).2)
  rw [hcl]
  rcases ht with ⟨rfl, rfl⟩ | ⟨rfl, rfl⟩ | ⟨rfl, rfl⟩ <;> rfl
theorem ab_newq {idx : Nat} {n : Int32} (N : Nat) (hw : Cond.classLink own idx "ShadowCourt$Kind" ∈ abTb) (hn : ¬ n < 0) (hN : n.toNatClampNeg = N) (hNb : N ≤ 1000) (hd : decode cc pc = .ok (.anewarray idx, 3)) (h1 : nc + 1 ≤ mc) (h2 : ns + N ≤ ms) (kk : abW cc nL own ret ini d mc ms X out (pc + 3) lv (.ref (h.length + 3) :: st) (h ++ [.inr (.inl (N, fun _ => none))]) (nc + 1) (ns + N)) : abW cc nL own ret ini d mc ms X out pc lv (.int n :: st) h nc ns := by
  intro p l e R s m args below meth c D cA ad B H locs ls Q hC hE hz hP hS hl
  obtain ⟨hx, hb, hml, hown, hts, hK, hG, had, hB, hini, hR, hX⟩ := id hC
  subst hN
  refine W.anew hx hb hown (hts _ hw) (va_AO.use hG.2.2.2.1) rfl hd rfl hn (by omega) (Nat.le_trans h1 hR.2.2.1) (Nat.le_trans h2 hR.2.2.2) fun c1 kA comp f1 f2 f3 f4 => ?_
  generalize hH1 : H.push ({ cls := c1, slots := Array.replicate n.toNatClampNeg .null, vm := .none } : Cell) = H1
  have z1 : H1.size = H.size + 1 := by rw [← hH1, Array.size_push]
  have e1 : H1[H.size]? = some (arrV c1 n.toNatClampNeg (fun _ => .null)) := by rw [← hH1, Array.getElem?_push_size, ← arrV_new]
  have o1 : ∀ q : Nat, q < H.size → H1[q]? = H[q]? := fun q hq => by rw [← hH1, Array.getElem?_push, if_neg (Nat.ne_of_lt hq)]
  have hq : H.size = ad (h.length + 3) := by rw [had, hz]
  rw [show (Value.ref H.size) = abv ad (.ref (h.length + 3)) from by rw [hq]; rfl]
  refine kk p l e R s m args below meth c D cA ad B H1 locs ls Q hC hE (by rw [z1, hz, List.length_append]; rfl) (abP_push hP o1 ?_) (abS_push hS z1 o1) hl
  show H1[ad (h.length + 3)]? = some (vp_cell (cA 3) (n.toNatClampNeg, .inr (.inr (.inr (.inr (fun j => ((fun _ => none : Nat → Option Nat) j).map ad))))))
  obtain ⟨kB, cB, b1, b2, b3, b4⟩ := (hK.2 3 _ rfl).2
  have hcl : c1 = cA 3 := Option.some.inj (f1.symm.trans b4)
  rw [← hq, e1, vp_cell_q, hcl]
  rfl
def abIs_T (T : Nat) : Prop := T = 4 ∨ T = 10 ∨ T = 0 ∨ T = 7
theorem ab_inst {idx a ci : Nat} {v : Int32} {Tn : String} (T : Nat) (hT : (T = 4 ∧ Tn = RX4) ∨ (T = 10 ∧ Tn = RX10) ∨ (T = 0 ∧ Tn = RX0) ∨ (T = 7 ∧ Tn = RX7)) (hw : Cond.classLink own idx Tn ∈ abTb) (hk : kc h a = some ci) (hf : isI ci T = some v) (hd : decode cc pc = .ok (.instanceof idx, 3)) (kk : abW cc nL own ret ini d mc ms X out (pc + 3) lv (.int v :: st) h nc ns) : abW cc nL own ret ini d mc ms X out pc lv (.ref a :: st) h nc ns := by
  intro p l e R s m args below meth c D cA ad B H locs ls Q hC hE hz hP hS hl
  obtain ⟨hx, hb, hml, hown, hts, hK, hG, had, hB, hini, hR, hX⟩ := id hC
  obtain ⟨i, fs, rfl, h1⟩ := kc_spec hk
  simp only [isI] at hf
  split at hf
  next hkd =>
    have hk2 := kk p l e R s m args below meth c D cA ad B H locs ls Q hC hE hz hP hS hl
    have yes : ∀ (C : String) (U : u_T) (N : Nat), vwCl[ci]? = some (C, U, N) → (C, Tn) ∈ abCast → v = 1 → W p l e R s m args below meth c H locs nc ns Q (F0 m pc ls ((Value.ref (i + 3) :: st).map (abv ad))) := by
      intro C U N g1 g2 g3
      subst g3
      exact va_instY (C := C) hx hb hown (hts _ hw) (hG.2.1 _ g2) (va_recv hK hP g1 (abw_get h1)) hd hk2
    have no : ∀ (C : String) (U : u_T) (N : Nat), vwCl[ci]? = some (C, U, N) → (C, Tn) ∈ abNcast → v = 0 → W p l e R s m args below meth c H locs nc ns Q (F0 m pc ls ((Value.ref (i + 3) :: st).map (abv ad))) := by
      intro C U N g1 g2 g3
      subst g3
      exact va_instNo (C := C) hx hb hown (hts _ hw) (hG.2.2.1 _ g2) (va_recv hK hP g1 (abw_get h1)) hd hk2
    have self : ∀ (U : u_T) (N : Nat), vwCl[ci]? = some (Tn, U, N) → v = 1 → W p l e R s m args below meth c H locs nc ns Q (F0 m pc ls ((Value.ref (i + 3) :: st).map (abv ad))) := by
      intro U N g1 g3
      subst g3
      exact va_instS hx hb hown (hts _ hw) (hK.1 ci _ g1).2 (va_recv hK hP g1 (abw_get h1)) hd hk2
    rcases abKd hkd with rfl | rfl | rfl | rfl | rfl <;> rcases hT with ⟨rfl, rfl⟩ | ⟨rfl, rfl⟩ | ⟨rfl, rfl⟩ | ⟨rfl, rfl⟩ <;> simp at hf <;>
      first
        | exact self _ _ rfl hf.symm
        | exact no _ _ _ rfl (by decide +kernel) hf.symm
        | exact yes _ _ _ rfl (by decide +kernel) hf.symm
  next => cases hf
theorem ab_acp {idx a b : Nat} {sp dp n : Int32} {h' : abH} (w1 : Cond.methodLink own idx arraycopyName ∈ abTb) (w2 : Cond.native arraycopyName ∈ abTb) (w3 : Cond.static arraycopyName ∈ abTb) (w4 : Cond.initialized "java/lang/System" ∈ abTb) (hd2 : 2 ≤ d) (hst : (st.map fun v => v.category).sum + (nativeFrameWords "java/lang/System" "arraycopy" 5 + 11) ≤ 76) (hf : acp h a sp b dp n = some h') (hd : decode cc pc = .ok (.invokestatic idx, 3)) (kk : abW cc nL own ret ini d mc ms X out (pc + 3) lv st h' nc ns) : abW cc nL own ret ini d mc ms X out pc lv (.int n :: .int dp :: .ref b :: .int sp :: .ref a :: st) h nc ns := by
  intro p l e R s m args below meth c D cA ad B H locs ls Q hC hE hz hP hS hl
  obtain ⟨hx, hb, hml, hown, hts, hK, hG, had, hB, hini, hR, hX⟩ := id hC
  obtain ⟨i, j, n0, n1, f, g, rfl, rfl, h1, h2, q1, q2, q3, q4, q5, rfl⟩ := acp_spec hf
  have nn : ∀ z : Int32, ¬ z < 0 → z.toInt = (z.toNatClampNeg : Int) := by
    intro z hz
    have hz0 : (0 : Int) ≤ z.toInt := by simpa using Int32.le_iff_toInt_le.mp (Int32.not_lt.mp hz)
    show z.toInt = ((z.toInt.toNat : Nat) : Int)
    omega
  have hsum : ((st.map (abv ad)).map fun v => v.category).sum = (st.map fun v => v.category).sum := by
    rw [List.map_map]
    congr 1
    apply List.map_congr_left
    intro v _
    exact abv_cat ad v
  have hc0 : H[ad (i + 3)]? = some (vp_cell (cA 0) (n0, .inl f)) := hP i _ (abw_get h1)
  have hc1 : H[ad (j + 3)]? = some (vp_cell (cA 0) (n1, .inl g)) := hP j _ (abw_get h2)
  intro T hT X'
  obtain ⟨-, k0, hk0, cm0, hkk0⟩ := (hK.2 0 _ rfl).1 n0 (fun j => .int (f j))
  obtain ⟨-, k1, hk1, cm1, hkk1⟩ := (hK.2 0 _ rfl).1 n1 (fun j => .int (g j))
  obtain ⟨vm', X2, step⟩ := X'.arraycopy hx hown (hts _ w1) (hts _ w2) (hts _ w3) (hts _ w4) (src := ad (i + 3)) (dst := ad (j + 3)) (cs := vp_cell (cA 0) (n0, .inl f)) (cd := vp_cell (cA 0) (n1, .inl g)) (srcPos := sp) (destPos := dp) (n := n) (by rw [hT]; exact hc0) (by rw [hT]; exact hc1)
    (fun _ h => by cases h) (fun _ h => by cases h) (fun h => by cases h) (fun h => by cases h) hk0 hk1 hkk0 hkk1 (by simp [refKind]) q1 q2 q3
    (by rw [nn sp q1, nn n q3]; show ¬ _ > ((arrV (cA 0) n0 (fun j => .int (f j))).slots.size : Int); rw [arrV_size]; omega)
    (by rw [nn dp q2, nn n q3]; show ¬ _ > ((arrV (cA 0) n1 (fun j => .int (g j))).slots.size : Int); rw [arrV_size]; omega)
    (fun vm₁ _ x hxx => by
      have e : (vp_cell (cA 0) (n0, .inl f)).slots.getD (sp.toNatClampNeg + x) .null = .int (f (sp.toNatClampNeg + x)) := by
        show (arrV (cA 0) n0 (fun j => .int (f j))).slots.getD _ _ = _
        rw [Array.getD_eq_getD_getElem?, arrV_read _ _ (by omega)]
        rfl
      refine ⟨?_, ?_⟩
      · rw [e]
        rfl
      · rw [e]
        exact trivial)
    (g := F0 m pc ls ((Value.int n :: .int dp :: .ref (j + 3) :: .int sp :: .ref (i + 3) :: st).map (abv ad))) rfl (by rw [hml]; exact hl.1) (rest := st.map (abv ad)) rfl (by rw [hb]; exact hd) (by omega) (by show 2 * 0 + _ + _ ≤ _; have := hR.2.1; omega)
  have e1 : copied (vp_cell (cA 0) (n0, .inl f)) (vp_cell (cA 0) (n1, .inl g)) sp dp n = vp_cell (cA 0) (n1, .inl (va_cpy f g sp.toNatClampNeg dp.toNatClampNeg n.toNatClampNeg)) := va_copied (fun z => .int z) (cA 0) (cA 0) f g q4
  rw [e1] at X2 step
  have hlt : ad (j + 3) < H.size := (Array.getElem?_eq_some_iff.mp hc1).1
  generalize hH1 : H.setIfInBounds (ad (j + 3)) (vp_cell (cA 0) (n1, .inl (va_cpy f g sp.toNatClampNeg dp.toNatClampNeg n.toNatClampNeg))) = H1
  have hheap : ((T.setVm vm').setCell (ad (j + 3)) (vp_cell (cA 0) (n1, .inl (va_cpy f g sp.toNatClampNeg dp.toNatClampNeg n.toNatClampNeg)))).heap = H1 := by rw [← hH1, ← hT]; rfl
  have z1 : H1.size = H.size := by rw [← hH1]; simp
  have oq : ∀ q : Nat, q ≠ ad (j + 3) → H1[q]? = H[q]? := fun q hq => by rw [← hH1]; simp [Array.getElem?_setIfInBounds, Ne.symm hq]
  obtain ⟨t, a1, b1⟩ := kk p l e R s m args below meth c D cA ad B H1 _ ls Q hC hE (by rw [z1, hz, List.length_set]) (abP_set had hP h2 (e := .inl (0, n1, va_cpy f g sp.toNatClampNeg dp.toNatClampNeg n.toNatClampNeg)) (show H1[ad (j + 3)]? = some _ by rw [← hH1]; simp [Array.getElem?_setIfInBounds, hlt]) oq)
    ⟨by rw [z1]; exact hS.1, fun q g1 g2 => by
      rw [oq q (fun e => g2 (by rw [e, had]; omega))]
      exact hS.2.1 q g1 g2, fun q hq => by
      rcases List.mem_append.mp hq with h | h
      · exact hS.2.2 q h
      · obtain ⟨z, -, hz⟩ := List.mem_map.mp h
        rw [← hz]
        show B ≤ ad (j + 3)
        rw [had]; omega⟩ hl _ hheap X2
  exact ⟨t, step t a1, b1⟩
end AB2
