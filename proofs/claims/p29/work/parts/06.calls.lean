/-! THE LAYER, fifth: calls -/
theorem abPc_blind {D : va_G} {cA : Nat → ClassId} {ad : Nat → Nat} {B : Nat} {as : List Value} {h : abH} : FrameBlind (abPc D cA ad B as h) := fun a U g mk q => by
  obtain ⟨q1, q2, q3, q4, q5, q6⟩ := q
  exact ⟨q1, q2, q3, va_K.moved (u := U) (U := U.calling g mk a) (Vm.Alike.refl U.vm) q4, abG.blind q5, q6⟩
theorem abPre {D : va_G} {cA : Nat → ClassId} {ad : Nat → Nat} {B : Nat} {as : List Value} {h : abH} {s : State} {H : Heap} {locs : List Loc} (hK : va_K D vwCl (abT cA) s) (hG : abG ad B s) (had : ∀ i, ad (i + 3) = B + i) (hz : H.size = B + h.length) (hP : va_P D vwCl (abw cA ad h) H) (hS : va_S (fun q => B ≤ q) s.heap H locs) : PreS s H (abPc D cA ad B as h) (as.map (abv ad)) :=
  ⟨abPc_blind, fun U hU hW => ⟨rfl, by rw [hU]; exact hz, by rw [hU]; exact hP, va_K.moved hW.alike hK, hG.to hU hW hS, had⟩⟩
theorem abSum (ad : Nat → Nat) (st : List Value) : ((st.map (abv ad)).map fun v => v.category).sum = (st.map fun v => v.category).sum := by
  rw [List.map_map]
  congr 1
  apply List.map_congr_left
  intro v _
  exact abv_cat ad v
/-- the room of a callee of depth d', its maxLocals at most 19 -/
def abRm (d mc ms nc ns mL d' mc' ms' : Nat) (st : List Value) : Prop := d' + 1 ≤ d ∧ mL ≤ 19 ∧ (st.map fun v => v.category).sum ≤ 8 ∧ nc + mc' ≤ mc ∧ ns + ms' ≤ ms
section AB3
variable {cc : ByteArray} {nL : Nat} {own : String} {ret : Option FieldType} {ini : Bool} {d mc ms : Nat} {X : abX} {out : Option Value × abH} {pc : Nat} {lv : List (Option Value)} {st st0 : List Value} {h h' : abH} {nc ns : Nat}
  {idx n mL d' mc' ms' : Nat} {y : MethodName} {bytes : ByteArray} {ret' : Option FieldType} {As : List Value} {r : Option Value}
theorem abRun {p : Program} {l : Launch} {e : Env} {R : Room} {s : State} {m : MethodId} {args : Array Value} {below : List Frame} {meth : Method} {c : Code} {D : va_G} {cA : Nat → ClassId} {ad : Nat → Nat} {B : Nat} {H : Heap} {locs : List Loc} {ls : Array Slot} {Q : State → Prop} {a : Array Value} {stR : List Value}
    (hC : abC cc nL own ini d mc ms X p R s m args meth c D cA ad B) (hE : abEnd cc ret mc ms out p l e R s m args below meth c D cA ad B Q) (hS : va_S (fun q => B ≤ q) s.heap H locs) (hl : abL nL ls ad lv)
    (hr : va_Run p l e R s m args below meth c H locs nc ns mc' ms' (F0 m pc ls stR) (st.map (abv ad)) (abQc D cA ad B r h' a) (fun q => B ≤ q))
    (k : abW cc nL own ret ini d mc ms X out (pc + 3) lv (r.toList ++ st) h' (nc + mc') (ns + ms')) : W p l e R s m args below meth c H locs nc ns Q (F0 m pc ls stR) := by
  intro T hT X
  obtain ⟨v, st₀, t, T', L, h0, X', hL, e1, e2, ⟨hv, hz', hP', hF⟩, go⟩ := hr T hT X
  injection hv with hv
  subst hv
  obtain ⟨hF1, hF2⟩ := hF
  rw [h0] at hF1 hF2
  have hS' : va_S (fun q => B ≤ q) s.heap T'.heap (locs ++ L) := ⟨by rw [e1]; exact Nat.le_trans hS.1 hF1, fun q g1 g2 => by rw [e1, hF2 q (Nat.lt_of_lt_of_le g1 hS.1) g2]; exact hS.2.1 q g1 g2, fun q hq => by
    rcases List.mem_append.mp hq with g | g
    · exact hS.2.2 q g
    · exact hL q g⟩
  obtain ⟨t2, a1, b1⟩ := k p l e R s m args below meth c D cA ad B T'.heap (locs ++ L) ls Q hC hE (by rw [e1]; exact hz') (by rw [e1]; exact hP') hS' hl T' rfl X'
  refine ⟨t2, go t2 ?_, b1⟩
  have e3 : (r.map (abv ad)).toList ++ st.map (abv ad) = (r.toList ++ st).map (abv ad) := by cases r <;> rfl
  rw [e3]
  exact a1
def abVw (own : String) (idx ci : Nat) (y : MethodName) (bytes : ByteArray) (mL : Nat) (ret : Option FieldType) (n : Nat) : Prop := ∃ (T : u_T) (N : Nat), vwCl[ci]? = some (y.cls, T, N) ∧ Cond.methodLink own idx y ∈ abTb ∧ Cond.instanceMethod y ∈ abTb ∧ Cond.selects y.cls y y ∈ abTb ∧ Cond.initialized y.cls ∈ abTb ∧ Cond.code y bytes mL ret ∈ abTb ∧ y.cls ≠ "java/lang/invoke/MethodHandle" ∧ y.cls ≠ "java/lang/invoke/VarHandle" ∧ (parseMethodDescriptor y.desc).map (fun d => d.parameters.length) = some n
theorem abGood {w : Cond} {ws : List Cond} (h : w ∈ abTb) (hw : GoodIn abTb ws) : GoodIn abTb (w :: ws) := fun v hv => by
  rcases List.mem_cons.mp hv with rfl | hv
  · exact ⟨h, abTb_good h⟩
  · exact hw v hv
theorem ab_callV {ci b : Nat} (hw : abVw own idx ci y bytes mL ret' n) (hk : kc h b = some ci) (hM : abM y bytes mL ret' d' mc' ms' (.ref b :: As) h r h') (hst : st0 = As.reverse ++ .ref b :: st) (hn : As.length = n) (hd : decode cc pc = .ok (.invokevirtual idx, 3)) (hrm : abRm d mc ms nc ns mL d' mc' ms' st) (k : abW cc nL own ret ini d mc ms X out (pc + 3) lv (r.toList ++ st) h' (nc + mc') (ns + ms')) : abW cc nL own ret ini d mc ms X out pc lv st0 h nc ns := by
  intro p l e R s m args below meth c D cA ad B H locs ls Q hC hE hz hP hS hl
  obtain ⟨hx, hb, hml, hown, hts, hK, hG, had, hB, hini, hR, hX⟩ := id hC
  obtain ⟨g1, g2, g3, g4, g5⟩ := hrm
  subst hst
  obtain ⟨U, N, w0, w1, w2, w3, w4, w5, w6⟩ := hw
  obtain ⟨i, fs, rfl, hob⟩ := kc_spec hk
  exact abRun hC hE hS hl (va_runV (As := As.map (abv ad)) ⟨hx, hb, hml, hown, hts⟩ (hM l D cA ad B) (cwV (rm := ({ frames := d', cells := mc', slots := ms', locals := 38 * d' } : Room)) n hts (abGood w1 (abGood w2 (abGood w3 (abGood w4 (abGood w5 abTb_in))))) rfl rfl rfl ⟨rfl, w6⟩ ⟨by show d' + 1 ≤ R.frames; have := hR.1; omega, by show 8 + (mL + 11) + 38 * d' ≤ R.locals; have := hR.2.1; omega⟩) ⟨(abPre hK hG had hz hP hS).1, va_recv hK hP w0 (abw_get hob), (abPre hK hG had hz hP hS).2⟩ rfl (by simpa using hn) hl.1 (by simp [abv]) (by rw [abSum]; exact Nat.le_trans (Nat.le_of_eq (by show 2 * 0 + _ = _; omega)) g3) hd ⟨Nat.le_trans g4 hR.2.2.1, Nat.le_trans g5 hR.2.2.2⟩) k
theorem ab_callVi {ci b : Nat} {v : Int32} (hw : abVw own idx ci y bytes mL ret' n) (hk : kc h b = some ci) (hM : abM y bytes mL ret' d' mc' ms' (.ref b :: As) h (some (.int v)) h') (hst : st0 = As.reverse ++ .ref b :: st) (hn : As.length = n) (hd : decode cc pc = .ok (.invokevirtual idx, 3)) (hrm : abRm d mc ms nc ns mL d' mc' ms' st) (k : abW cc nL own ret ini d mc ms X out (pc + 3) lv (.int v :: st) h' (nc + mc') (ns + ms')) : abW cc nL own ret ini d mc ms X out pc lv st0 h nc ns :=
  ab_callV hw hk hM hst hn hd hrm k
theorem ab_callVl {ci b : Nat} {v : Int64} (hw : abVw own idx ci y bytes mL ret' n) (hk : kc h b = some ci) (hM : abM y bytes mL ret' d' mc' ms' (.ref b :: As) h (some (.long v)) h') (hst : st0 = As.reverse ++ .ref b :: st) (hn : As.length = n) (hd : decode cc pc = .ok (.invokevirtual idx, 3)) (hrm : abRm d mc ms nc ns mL d' mc' ms' st) (k : abW cc nL own ret ini d mc ms X out (pc + 3) lv (.long v :: st) h' (nc + mc') (ns + ms')) : abW cc nL own ret ini d mc ms X out pc lv st0 h nc ns :=
  ab_callV hw hk hM hst hn hd hrm k
theorem ab_callVr {ci b : Nat} {v : Nat} (hw : abVw own idx ci y bytes mL ret' n) (hk : kc h b = some ci) (hM : abM y bytes mL ret' d' mc' ms' (.ref b :: As) h (some (.ref v)) h') (hst : st0 = As.reverse ++ .ref b :: st) (hn : As.length = n) (hd : decode cc pc = .ok (.invokevirtual idx, 3)) (hrm : abRm d mc ms nc ns mL d' mc' ms' st) (k : abW cc nL own ret ini d mc ms X out (pc + 3) lv (.ref v :: st) h' (nc + mc') (ns + ms')) : abW cc nL own ret ini d mc ms X out pc lv st0 h nc ns :=
  ab_callV hw hk hM hst hn hd hrm k
theorem ab_callVv {ci b : Nat}  (hw : abVw own idx ci y bytes mL ret' n) (hk : kc h b = some ci) (hM : abM y bytes mL ret' d' mc' ms' (.ref b :: As) h none h') (hst : st0 = As.reverse ++ .ref b :: st) (hn : As.length = n) (hd : decode cc pc = .ok (.invokevirtual idx, 3)) (hrm : abRm d mc ms nc ns mL d' mc' ms' st) (k : abW cc nL own ret ini d mc ms X out (pc + 3) lv st h' (nc + mc') (ns + ms')) : abW cc nL own ret ini d mc ms X out pc lv st0 h nc ns :=
  ab_callV hw hk hM hst hn hd hrm k
def abSw (own : String) (idx : Nat) (y : MethodName) (bytes : ByteArray) (mL : Nat) (ret : Option FieldType) (n : Nat) : Prop := Cond.methodLink own idx y ∈ abTb ∧ Cond.static y ∈ abTb ∧ Cond.initialized y.cls ∈ abTb ∧ Cond.code y bytes mL ret ∈ abTb ∧ y.cls ≠ "java/lang/invoke/MethodHandle" ∧ y.cls ≠ "java/lang/invoke/VarHandle" ∧ (parseMethodDescriptor y.desc).map (fun d => d.parameters.length) = some n
theorem ab_callS  (hw : abSw own idx y bytes mL ret' n) (hM : abM y bytes mL ret' d' mc' ms' As h r h') (hst : st0 = As.reverse ++ st) (hn : As.length = n) (hd : decode cc pc = .ok (.invokestatic idx, 3)) (hrm : abRm d mc ms nc ns mL d' mc' ms' st) (k : abW cc nL own ret ini d mc ms X out (pc + 3) lv (r.toList ++ st) h' (nc + mc') (ns + ms')) : abW cc nL own ret ini d mc ms X out pc lv st0 h nc ns := by
  intro p l e R s m args below meth c D cA ad B H locs ls Q hC hE hz hP hS hl
  obtain ⟨hx, hb, hml, hown, hts, hK, hG, had, hB, hini, hR, hX⟩ := id hC
  obtain ⟨g1, g2, g3, g4, g5⟩ := hrm
  subst hst
  obtain ⟨w1, w2, w3, w5, w6⟩ := hw
  exact abRun hC hE hS hl (va_runS (As := As.map (abv ad)) ⟨hx, hb, hml, hown, hts⟩ (hM l D cA ad B) (va_cwS (rm := ({ frames := d', cells := mc', slots := ms', locals := 38 * d' } : Room)) n hts (abGood w1 (abGood w2 (abGood w3 (abGood w5 abTb_in)))) rfl rfl rfl w6 ⟨by show d' + 1 ≤ R.frames; have := hR.1; omega, by show 8 + (mL + 11) + 38 * d' ≤ R.locals; have := hR.2.1; omega⟩) (abPre hK hG had hz hP hS) rfl (by simpa using hn) hl.1 (by simp) (by rw [abSum]; exact Nat.le_trans (Nat.le_of_eq (by show 2 * 0 + _ = _; omega)) g3) hd ⟨Nat.le_trans g4 hR.2.2.1, Nat.le_trans g5 hR.2.2.2⟩) k
theorem ab_callSi  {v : Int32} (hw : abSw own idx y bytes mL ret' n) (hM : abM y bytes mL ret' d' mc' ms' As h (some (.int v)) h') (hst : st0 = As.reverse ++ st) (hn : As.length = n) (hd : decode cc pc = .ok (.invokestatic idx, 3)) (hrm : abRm d mc ms nc ns mL d' mc' ms' st) (k : abW cc nL own ret ini d mc ms X out (pc + 3) lv (.int v :: st) h' (nc + mc') (ns + ms')) : abW cc nL own ret ini d mc ms X out pc lv st0 h nc ns :=
  ab_callS hw hM hst hn hd hrm k
theorem ab_callSl  {v : Int64} (hw : abSw own idx y bytes mL ret' n) (hM : abM y bytes mL ret' d' mc' ms' As h (some (.long v)) h') (hst : st0 = As.reverse ++ st) (hn : As.length = n) (hd : decode cc pc = .ok (.invokestatic idx, 3)) (hrm : abRm d mc ms nc ns mL d' mc' ms' st) (k : abW cc nL own ret ini d mc ms X out (pc + 3) lv (.long v :: st) h' (nc + mc') (ns + ms')) : abW cc nL own ret ini d mc ms X out pc lv st0 h nc ns :=
  ab_callS hw hM hst hn hd hrm k
theorem ab_callSr  {v : Nat} (hw : abSw own idx y bytes mL ret' n) (hM : abM y bytes mL ret' d' mc' ms' As h (some (.ref v)) h') (hst : st0 = As.reverse ++ st) (hn : As.length = n) (hd : decode cc pc = .ok (.invokestatic idx, 3)) (hrm : abRm d mc ms nc ns mL d' mc' ms' st) (k : abW cc nL own ret ini d mc ms X out (pc + 3) lv (.ref v :: st) h' (nc + mc') (ns + ms')) : abW cc nL own ret ini d mc ms X out pc lv st0 h nc ns :=
  ab_callS hw hM hst hn hd hrm k
theorem ab_callSv   (hw : abSw own idx y bytes mL ret' n) (hM : abM y bytes mL ret' d' mc' ms' As h none h') (hst : st0 = As.reverse ++ st) (hn : As.length = n) (hd : decode cc pc = .ok (.invokestatic idx, 3)) (hrm : abRm d mc ms nc ns mL d' mc' ms' st) (k : abW cc nL own ret ini d mc ms X out (pc + 3) lv st h' (nc + mc') (ns + ms')) : abW cc nL own ret ini d mc ms X out pc lv st0 h nc ns :=
  ab_callS hw hM hst hn hd hrm k
def abNw (own : String) (idx : Nat) (y : MethodName) (w : Cond) (bytes : ByteArray) (mL : Nat) (ret : Option FieldType) (n : Nat) : Prop := ∃ host : String, (own, idx, y, host) ∈ abNest ∧ w ∈ abTb ∧ Cond.initialized y.cls ∈ abTb ∧ Cond.code y bytes mL ret ∈ abTb ∧ y.cls ≠ "java/lang/invoke/MethodHandle" ∧ y.cls ≠ "java/lang/invoke/VarHandle" ∧ (parseMethodDescriptor y.desc).map (fun d => d.parameters.length) = some n
theorem ab_callSN  (hw : abNw own idx y (.static y) bytes mL ret' n) (hM : abM y bytes mL ret' d' mc' ms' As h r h') (hst : st0 = As.reverse ++ st) (hn : As.length = n) (hd : decode cc pc = .ok (.invokestatic idx, 3)) (hrm : abRm d mc ms nc ns mL d' mc' ms' st) (k : abW cc nL own ret ini d mc ms X out (pc + 3) lv (r.toList ++ st) h' (nc + mc') (ns + ms')) : abW cc nL own ret ini d mc ms X out pc lv st0 h nc ns := by
  intro p l e R s m args below meth c D cA ad B H locs ls Q hC hE hz hP hS hl
  obtain ⟨hx, hb, hml, hown, hts, hK, hG, had, hB, hini, hR, hX⟩ := id hC
  obtain ⟨g1, g2, g3, g4, g5⟩ := hrm
  subst hst
  obtain ⟨host, w1, w2, w3, w5, w6⟩ := hw
  exact abRun hC hE hS hl (va_runSN (As := As.map (abv ad)) ⟨hx, hb, hml, hown, hts⟩ (hM l D cA ad B) ⟨va_cnB (rm := ({ frames := d', cells := mc', slots := ms', locals := 38 * d' } : Room)) n hts (abGood w5 abTb_in) rfl rfl rfl (hG.1 _ w1) (hts _ w3) w6 ⟨by show d' + 1 ≤ R.frames; have := hR.1; omega, by show 8 + (mL + 11) + 38 * d' ≤ R.locals; have := hR.2.1; omega⟩, hts _ w2, trivial⟩ (abPre hK hG had hz hP hS) rfl (by simpa using hn) hl.1 (by simp) (by rw [abSum]; exact Nat.le_trans (Nat.le_of_eq (by show 2 * 0 + _ = _; omega)) g3) hd ⟨Nat.le_trans g4 hR.2.2.1, Nat.le_trans g5 hR.2.2.2⟩) k
theorem ab_callSNi  {v : Int32} (hw : abNw own idx y (.static y) bytes mL ret' n) (hM : abM y bytes mL ret' d' mc' ms' As h (some (.int v)) h') (hst : st0 = As.reverse ++ st) (hn : As.length = n) (hd : decode cc pc = .ok (.invokestatic idx, 3)) (hrm : abRm d mc ms nc ns mL d' mc' ms' st) (k : abW cc nL own ret ini d mc ms X out (pc + 3) lv (.int v :: st) h' (nc + mc') (ns + ms')) : abW cc nL own ret ini d mc ms X out pc lv st0 h nc ns :=
  ab_callSN hw hM hst hn hd hrm k
theorem ab_callSNl  {v : Int64} (hw : abNw own idx y (.static y) bytes mL ret' n) (hM : abM y bytes mL ret' d' mc' ms' As h (some (.long v)) h') (hst : st0 = As.reverse ++ st) (hn : As.length = n) (hd : decode cc pc = .ok (.invokestatic idx, 3)) (hrm : abRm d mc ms nc ns mL d' mc' ms' st) (k : abW cc nL own ret ini d mc ms X out (pc + 3) lv (.long v :: st) h' (nc + mc') (ns + ms')) : abW cc nL own ret ini d mc ms X out pc lv st0 h nc ns :=
  ab_callSN hw hM hst hn hd hrm k
theorem ab_callSNr  {v : Nat} (hw : abNw own idx y (.static y) bytes mL ret' n) (hM : abM y bytes mL ret' d' mc' ms' As h (some (.ref v)) h') (hst : st0 = As.reverse ++ st) (hn : As.length = n) (hd : decode cc pc = .ok (.invokestatic idx, 3)) (hrm : abRm d mc ms nc ns mL d' mc' ms' st) (k : abW cc nL own ret ini d mc ms X out (pc + 3) lv (.ref v :: st) h' (nc + mc') (ns + ms')) : abW cc nL own ret ini d mc ms X out pc lv st0 h nc ns :=
  ab_callSN hw hM hst hn hd hrm k
theorem ab_callSNv   (hw : abNw own idx y (.static y) bytes mL ret' n) (hM : abM y bytes mL ret' d' mc' ms' As h none h') (hst : st0 = As.reverse ++ st) (hn : As.length = n) (hd : decode cc pc = .ok (.invokestatic idx, 3)) (hrm : abRm d mc ms nc ns mL d' mc' ms' st) (k : abW cc nL own ret ini d mc ms X out (pc + 3) lv st h' (nc + mc') (ns + ms')) : abW cc nL own ret ini d mc ms X out pc lv st0 h nc ns :=
  ab_callSN hw hM hst hn hd hrm k
theorem ab_callIN {b : Nat} (hi : y.name = "<init>") (hr2 : ret' = none) (hw : abNw own idx y (.instanceMethod y) bytes mL ret' n) (hM : abM y bytes mL ret' d' mc' ms' (.ref b :: As) h r h') (hst : st0 = As.reverse ++ .ref b :: st) (hn : As.length = n) (hd : decode cc pc = .ok (.invokespecial idx, 3)) (hrm : abRm d mc ms nc ns mL d' mc' ms' st) (k : abW cc nL own ret ini d mc ms X out (pc + 3) lv (r.toList ++ st) h' (nc + mc') (ns + ms')) : abW cc nL own ret ini d mc ms X out pc lv st0 h nc ns := by
  intro p l e R s m args below meth c D cA ad B H locs ls Q hC hE hz hP hS hl
  obtain ⟨hx, hb, hml, hown, hts, hK, hG, had, hB, hini, hR, hX⟩ := id hC
  obtain ⟨g1, g2, g3, g4, g5⟩ := hrm
  subst hst
  obtain ⟨host, w1, w2, w3, w5, w6⟩ := hw
  subst hr2
  exact abRun hC hE hS hl (va_runIN (As := As.map (abv ad)) ⟨hx, hb, hml, hown, hts⟩ (hM l D cA ad B) ⟨va_cnB (rm := ({ frames := d', cells := mc', slots := ms', locals := 38 * d' } : Room)) n hts (abGood w5 abTb_in) rfl rfl rfl (hG.1 _ w1) (hts _ w3) w6 ⟨by show d' + 1 ≤ R.frames; have := hR.1; omega, by show 8 + (mL + 11) + 38 * d' ≤ R.locals; have := hR.2.1; omega⟩, hi, hts _ w2⟩ (abPre hK hG had hz hP hS) rfl (by simpa using hn) hl.1 (by simp [abv]) (by rw [abSum]; exact Nat.le_trans (Nat.le_of_eq (by show 2 * 0 + _ = _; omega)) g3) hd ⟨Nat.le_trans g4 hR.2.2.1, Nat.le_trans g5 hR.2.2.2⟩) k
theorem ab_callINv {b : Nat}  (hi : y.name = "<init>") (hr2 : ret' = none) (hw : abNw own idx y (.instanceMethod y) bytes mL ret' n) (hM : abM y bytes mL ret' d' mc' ms' (.ref b :: As) h none h') (hst : st0 = As.reverse ++ .ref b :: st) (hn : As.length = n) (hd : decode cc pc = .ok (.invokespecial idx, 3)) (hrm : abRm d mc ms nc ns mL d' mc' ms' st) (k : abW cc nL own ret ini d mc ms X out (pc + 3) lv st h' (nc + mc') (ns + ms')) : abW cc nL own ret ini d mc ms X out pc lv st0 h nc ns :=
  ab_callIN hi hr2 hw hM hst hn hd hrm k
def abIw (own : String) (idx : Nat) (y : MethodName) (bytes : ByteArray) (mL : Nat) (ret : Option FieldType) (n : Nat) : Prop := Cond.methodLink own idx y ∈ abTb ∧ Cond.instanceMethod y ∈ abTb ∧ Cond.initialized y.cls ∈ abTb ∧ Cond.code y bytes mL ret ∈ abTb ∧ y.cls ≠ "java/lang/invoke/MethodHandle" ∧ y.cls ≠ "java/lang/invoke/VarHandle" ∧ (parseMethodDescriptor y.desc).map (fun d => d.parameters.length) = some n
theorem ab_callI {b : Nat} (hi : y.name = "<init>") (hr2 : ret' = none) (hw : abIw own idx y bytes mL ret' n) (hM : abM y bytes mL ret' d' mc' ms' (.ref b :: As) h r h') (hst : st0 = As.reverse ++ .ref b :: st) (hn : As.length = n) (hd : decode cc pc = .ok (.invokespecial idx, 3)) (hrm : abRm d mc ms nc ns mL d' mc' ms' st) (k : abW cc nL own ret ini d mc ms X out (pc + 3) lv (r.toList ++ st) h' (nc + mc') (ns + ms')) : abW cc nL own ret ini d mc ms X out pc lv st0 h nc ns := by
  intro p l e R s m args below meth c D cA ad B H locs ls Q hC hE hz hP hS hl
  obtain ⟨hx, hb, hml, hown, hts, hK, hG, had, hB, hini, hR, hX⟩ := id hC
  obtain ⟨g1, g2, g3, g4, g5⟩ := hrm
  subst hst
  obtain ⟨w1, w2, w3, w5, w6⟩ := hw
  subst hr2
  exact abRun hC hE hS hl (va_runI (As := As.map (abv ad)) ⟨hx, hb, hml, hown, hts⟩ (hM l D cA ad B) (cwI (rm := ({ frames := d', cells := mc', slots := ms', locals := 38 * d' } : Room)) n hts (abGood w5 abTb_in) rfl rfl rfl (hts _ w3) (hts _ w1) (hts _ w2) hi w6 ⟨by show d' + 1 ≤ R.frames; have := hR.1; omega, by show 8 + (mL + 11) + 38 * d' ≤ R.locals; have := hR.2.1; omega⟩) (abPre hK hG had hz hP hS) rfl (by simpa using hn) hl.1 (by simp [abv]) (by rw [abSum]; exact Nat.le_trans (Nat.le_of_eq (by show 2 * 0 + _ = _; omega)) g3) hd ⟨Nat.le_trans g4 hR.2.2.1, Nat.le_trans g5 hR.2.2.2⟩) k
theorem ab_callIv {b : Nat}  (hi : y.name = "<init>") (hr2 : ret' = none) (hw : abIw own idx y bytes mL ret' n) (hM : abM y bytes mL ret' d' mc' ms' (.ref b :: As) h none h') (hst : st0 = As.reverse ++ .ref b :: st) (hn : As.length = n) (hd : decode cc pc = .ok (.invokespecial idx, 3)) (hrm : abRm d mc ms nc ns mL d' mc' ms' st) (k : abW cc nL own ret ini d mc ms X out (pc + 3) lv st h' (nc + mc') (ns + ms')) : abW cc nL own ret ini d mc ms X out pc lv st0 h nc ns :=
  ab_callI hi hr2 hw hM hst hn hd hrm k
def abUw (own : String) (idx ci : Nat) (owner : String) (x y : MethodName) (bytes : ByteArray) (mL : Nat) (ret : Option FieldType) (n : Nat) : Prop := ∃ (C : String) (T : u_T) (N : Nat), vwCl[ci]? = some (C, T, N) ∧ Cond.methodLink own idx x ∈ abTb ∧ Cond.sameMethod x.cls owner x.name x.desc ∈ abTb ∧ Cond.selects C x y ∈ abTb ∧ Cond.instanceMethod y ∈ abTb ∧ Cond.initialized y.cls ∈ abTb ∧ Cond.code y bytes mL ret ∈ abTb ∧
  (y = ⟨owner, x.name, x.desc⟩ ∨ (Cond.instanceMethod ⟨owner, x.name, x.desc⟩ ∈ abTb ∧ ∃ b0 m0 r0, Cond.code ⟨owner, x.name, x.desc⟩ b0 m0 r0 ∈ abTb)) ∧ owner ≠ "java/lang/invoke/MethodHandle" ∧ owner ≠ "java/lang/invoke/VarHandle" ∧ (parseMethodDescriptor x.desc).map (fun d => d.parameters.length) = some n
theorem ab_callU {ci b : Nat} {owner : String} {x : MethodName} (hw : abUw own idx ci owner x y bytes mL ret' n) (hk : kc h b = some ci) (hM : abM y bytes mL ret' d' mc' ms' (.ref b :: As) h r h') (hst : st0 = As.reverse ++ .ref b :: st) (hn : As.length = n) (hd : decode cc pc = .ok (.invokevirtual idx, 3)) (hrm : abRm d mc ms nc ns mL d' mc' ms' st) (k : abW cc nL own ret ini d mc ms X out (pc + 3) lv (r.toList ++ st) h' (nc + mc') (ns + ms')) : abW cc nL own ret ini d mc ms X out pc lv st0 h nc ns := by
  intro p l e R s m args below meth c D cA ad B H locs ls Q hC hE hz hP hS hl
  obtain ⟨hx, hb, hml, hown, hts, hK, hG, had, hB, hini, hR, hX⟩ := id hC
  obtain ⟨g1, g2, g3, g4, g5⟩ := hrm
  subst hst
  obtain ⟨C, U, N, w0, w1, w2, w3, w4, w5, w6, w7, w8⟩ := hw
  obtain ⟨i, fs, rfl, hob⟩ := kc_spec hk
  have cw : va_CU R s args own C owner idx x y bytes mL ret' (.code y bytes mL ret' :: abTb) ({ frames := d', cells := mc', slots := ms', locals := 38 * d' } : Room) mc' ms' n := by
    rcases w7 with e | ⟨q1, b0, m0, r0, q2⟩
    · exact va_cwU n hts (abGood w1 (abGood w2 (abGood w3 (abGood w4 (abGood w5 (abGood w6 abTb_in)))))) rfl rfl rfl e w8 ⟨by show d' + 1 ≤ R.frames; have := hR.1; omega, by show 8 + (mL + 11) + 38 * d' ≤ R.locals; have := hR.2.1; omega⟩
    · exact va_cwO n hts (abGood w1 (abGood w2 (abGood q1 (abGood w3 (abGood w4 (abGood w5 (abGood w6 abTb_in))))))) rfl rfl rfl q2 w8 ⟨by show d' + 1 ≤ R.frames; have := hR.1; omega, by show 8 + (mL + 11) + 38 * d' ≤ R.locals; have := hR.2.1; omega⟩
  exact abRun hC hE hS hl (va_runU (As := As.map (abv ad)) ⟨hx, hb, hml, hown, hts⟩ (hM l D cA ad B) cw ⟨(abPre hK hG had hz hP hS).1, va_recv hK hP w0 (abw_get hob), (abPre hK hG had hz hP hS).2⟩ rfl (by simpa using hn) hl.1 (by simp [abv]) (by rw [abSum]; exact Nat.le_trans (Nat.le_of_eq (by show 2 * 0 + _ = _; omega)) g3) hd ⟨Nat.le_trans g4 hR.2.2.1, Nat.le_trans g5 hR.2.2.2⟩) k
theorem ab_callUi {ci b : Nat} {owner : String} {x : MethodName} {v : Int32} (hw : abUw own idx ci owner x y bytes mL ret' n) (hk : kc h b = some ci) (hM : abM y bytes mL ret' d' mc' ms' (.ref b :: As) h (some (.int v)) h') (hst : st0 = As.reverse ++ .ref b :: st) (hn : As.length = n) (hd : decode cc pc = .ok (.invokevirtual idx, 3)) (hrm : abRm d mc ms nc ns mL d' mc' ms' st) (k : abW cc nL own ret ini d mc ms X out (pc + 3) lv (.int v :: st) h' (nc + mc') (ns + ms')) : abW cc nL own ret ini d mc ms X out pc lv st0 h nc ns :=
  ab_callU hw hk hM hst hn hd hrm k
theorem ab_callUv {ci b : Nat} {owner : String} {x : MethodName}  (hw : abUw own idx ci owner x y bytes mL ret' n) (hk : kc h b = some ci) (hM : abM y bytes mL ret' d' mc' ms' (.ref b :: As) h none h') (hst : st0 = As.reverse ++ .ref b :: st) (hn : As.length = n) (hd : decode cc pc = .ok (.invokevirtual idx, 3)) (hrm : abRm d mc ms nc ns mL d' mc' ms' st) (k : abW cc nL own ret ini d mc ms X out (pc + 3) lv st h' (nc + mc') (ns + ms')) : abW cc nL own ret ini d mc ms X out pc lv st0 h nc ns :=
  ab_callU hw hk hM hst hn hd hrm k
def abPw (own : String) (idx ci : Nat) (y : MethodName) (bytes : ByteArray) (mL : Nat) (ret : Option FieldType) (n : Nat) : Prop := ∃ (C : String) (T : u_T) (N : Nat), vwCl[ci]? = some (C, T, N) ∧ Cond.methodLink own idx y ∈ abTb ∧ Cond.sameMethod y.cls y.cls y.name y.desc ∈ abTb ∧ Cond.superclass own y.cls ∈ abTb ∧ Cond.instanceMethod y ∈ abTb ∧ Cond.initialized y.cls ∈ abTb ∧ Cond.code y bytes mL ret ∈ abTb ∧ y.name ≠ "<init>" ∧ (parseMethodDescriptor y.desc).map (fun d => d.parameters.length) = some n
theorem ab_callP {ci b : Nat} (hw : abPw own idx ci y bytes mL ret' n) (hk : kc h b = some ci) (hM : abM y bytes mL ret' d' mc' ms' (.ref b :: As) h r h') (hst : st0 = As.reverse ++ .ref b :: st) (hn : As.length = n) (hd : decode cc pc = .ok (.invokespecial idx, 3)) (hrm : abRm d mc ms nc ns mL d' mc' ms' st) (k : abW cc nL own ret ini d mc ms X out (pc + 3) lv (r.toList ++ st) h' (nc + mc') (ns + ms')) : abW cc nL own ret ini d mc ms X out pc lv st0 h nc ns := by
  intro p l e R s m args below meth c D cA ad B H locs ls Q hC hE hz hP hS hl
  obtain ⟨hx, hb, hml, hown, hts, hK, hG, had, hB, hini, hR, hX⟩ := id hC
  obtain ⟨g1, g2, g3, g4, g5⟩ := hrm
  subst hst
  obtain ⟨C, U, N, w0, w1, w2, w3, w4, w5, w6, w7⟩ := hw
  obtain ⟨i, fs, rfl, hob⟩ := kc_spec hk
  exact abRun hC hE hS hl (va_runSU (C := C) (As := As.map (abv ad)) (hK.1 ci _ w0).2 ⟨hx, hb, hml, hown, hts⟩ (hM l D cA ad B) (va_cwSU (rm := ({ frames := d', cells := mc', slots := ms', locals := 38 * d' } : Room)) n hts (abGood w1 (abGood w2 (abGood w3 (abGood w4 (abGood w5 (abGood w6 abTb_in)))))) rfl rfl rfl w7 ⟨by show d' + 1 ≤ R.frames; have := hR.1; omega, by show 8 + (mL + 11) + 38 * d' ≤ R.locals; have := hR.2.1; omega⟩) ⟨(abPre hK hG had hz hP hS).1, va_recv hK hP w0 (abw_get hob), (abPre hK hG had hz hP hS).2⟩ rfl (by simpa using hn) hl.1 (by simp [abv]) (by rw [abSum]; exact Nat.le_trans (Nat.le_of_eq (by show 2 * 0 + _ = _; omega)) g3) hd ⟨Nat.le_trans g4 hR.2.2.1, Nat.le_trans g5 hR.2.2.2⟩) k
theorem ab_callPi {ci b : Nat} {v : Int32} (hw : abPw own idx ci y bytes mL ret' n) (hk : kc h b = some ci) (hM : abM y bytes mL ret' d' mc' ms' (.ref b :: As) h (some (.int v)) h') (hst : st0 = As.reverse ++ .ref b :: st) (hn : As.length = n) (hd : decode cc pc = .ok (.invokespecial idx, 3)) (hrm : abRm d mc ms nc ns mL d' mc' ms' st) (k : abW cc nL own ret ini d mc ms X out (pc + 3) lv (.int v :: st) h' (nc + mc') (ns + ms')) : abW cc nL own ret ini d mc ms X out pc lv st0 h nc ns :=
  ab_callP hw hk hM hst hn hd hrm k
theorem ab_obj {b : Nat} (w1 : Cond.methodLink own idx Lib.objectInit ∈ abTb) (w2 : Cond.instanceMethod Lib.objectInit ∈ abTb) (w3 : Cond.code Lib.objectInit ⟨#[0xb1]⟩ 1 none ∈ abTb) (hd : decode cc pc = .ok (.invokespecial idx, 3)) (h1 : 1 ≤ d) (h2 : (st.map fun v => v.category).sum ≤ 8) (k : abW cc nL own ret ini d mc ms X out (pc + 3) lv st h nc ns) : abW cc nL own ret ini d mc ms X out pc lv (.ref b :: st) h nc ns := by
  intro p l e R s m args below meth c D cA ad B H locs ls Q hC hE hz hP hS hl
  obtain ⟨hx, hb, hml, hown, hts, hK, hG, had, hB, hini, hR, hX⟩ := id hC
  exact W.objInit hx hb hown (hts _ w1) (hts _ w2) (hts _ w3) rfl (by rw [hml]; exact hl.1) (rest := st.map (abv ad)) rfl hd (by omega) (by rw [abSum]; show 2 * 0 + _ + 12 ≤ _; have := hR.2.1; omega) (k p l e R s m args below meth c D cA ad B H locs ls Q hC hE hz hP hS hl)
theorem ab_max {x y : Int32} (w1 : Cond.methodLink own idx Lib.Math.max.name ∈ abTb) (w2 : Cond.static Lib.Math.max.name ∈ abTb) (w3 : Cond.initialized "java/lang/Math" ∈ abTb) (w4 : Cond.code Lib.Math.max.name Lib.Math.max.code 2 (some .int) ∈ abTb) (hd : decode cc pc = .ok (.invokestatic idx, 3)) (h1 : 1 ≤ d) (h2 : (st.map fun v => v.category).sum ≤ 8) (h3 : nc ≤ mc) (h4 : ns ≤ ms) (k : abW cc nL own ret ini d mc ms X out (pc + 3) lv (.int (if x < y then y else x) :: st) h nc ns) : abW cc nL own ret ini d mc ms X out pc lv (.int y :: .int x :: st) h nc ns := by
  intro p l e R s m args below meth c D cA ad B H locs ls Q hC hE hz hP hS hl
  obtain ⟨hx, hb, hml, hown, hts, hK, hG, had, hB, hini, hR, hX⟩ := id hC
  exact va_mmax hx hb (by rw [hml]; exact hl.1.symm) hown (hts _ w1) (hts _ w2) (hts _ w3) (hts _ w4) (by omega) (by rw [abSum]; have := hR.2.1; omega) (Nat.le_trans h3 hR.2.2.1) (Nat.le_trans h4 hR.2.2.2) hd (k p l e R s m args below meth c D cA ad B H locs ls Q hC hE hz hP hS hl)
theorem ab_min {x y : Int32} (w1 : Cond.methodLink own idx Lib.Math.min.name ∈ abTb) (w2 : Cond.static Lib.Math.min.name ∈ abTb) (w3 : Cond.initialized "java/lang/Math" ∈ abTb) (w4 : Cond.code Lib.Math.min.name Lib.Math.min.code 2 (some .int) ∈ abTb) (hd : decode cc pc = .ok (.invokestatic idx, 3)) (h1 : 1 ≤ d) (h2 : (st.map fun v => v.category).sum ≤ 8) (h3 : nc ≤ mc) (h4 : ns ≤ ms) (k : abW cc nL own ret ini d mc ms X out (pc + 3) lv (.int (if y < x then y else x) :: st) h nc ns) : abW cc nL own ret ini d mc ms X out pc lv (.int y :: .int x :: st) h nc ns := by
  intro p l e R s m args below meth c D cA ad B H locs ls Q hC hE hz hP hS hl
  obtain ⟨hx, hb, hml, hown, hts, hK, hG, had, hB, hini, hR, hX⟩ := id hC
  exact va_mmin hx hb (by rw [hml]; exact hl.1.symm) hown (hts _ w1) (hts _ w2) (hts _ w3) (hts _ w4) (by omega) (by rw [abSum]; have := hR.2.1; omega) (Nat.le_trans h3 hR.2.2.1) (Nat.le_trans h4 hR.2.2.2) hd (k p l e R s m args below meth c D cA ad B H locs ls Q hC hE hz hP hS hl)
theorem ab_abs {x : Int32} (w1 : Cond.methodLink own idx Lib.Math.abs.name ∈ abTb) (w2 : Cond.static Lib.Math.abs.name ∈ abTb) (w3 : Cond.initialized "java/lang/Math" ∈ abTb) (w4 : Cond.code Lib.Math.abs.name Lib.Math.abs.code 1 (some .int) ∈ abTb) (hd : decode cc pc = .ok (.invokestatic idx, 3)) (h1 : 1 ≤ d) (h2 : (st.map fun v => v.category).sum ≤ 8) (h3 : nc ≤ mc) (h4 : ns ≤ ms) (k : abW cc nL own ret ini d mc ms X out (pc + 3) lv (.int (if 0 ≤ x then x else 0 - x) :: st) h nc ns) : abW cc nL own ret ini d mc ms X out pc lv (.int x :: st) h nc ns := by
  intro p l e R s m args below meth c D cA ad B H locs ls Q hC hE hz hP hS hl
  obtain ⟨hx, hb, hml, hown, hts, hK, hG, had, hB, hini, hR, hX⟩ := id hC
  exact va_mabs hx hb (by rw [hml]; exact hl.1.symm) hown (hts _ w1) (hts _ w2) (hts _ w3) (hts _ w4) (by omega) (by rw [abSum]; have := hR.2.1; omega) (Nat.le_trans h3 hR.2.2.1) (Nat.le_trans h4 hR.2.2.2) hd (k p l e R s m args below meth c D cA ad B H locs ls Q hC hE hz hP hS hl)
end AB3
