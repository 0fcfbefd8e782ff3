/-! THE LAYER, seventh: the String constant (cells 1 and 2), the law's script (cell 0), inherited static methods -/
/-- its bytes -/
def sby (i : Int32) : Option Int32 := if abin i 5 = true then some (([112, 104, 116, 99, 117] : List Int32).getD i.toNatClampNeg 0) else none
theorem rmk2 {d mc ms nc ns mL d' mc' ms' : Nat} {st : List Value} (h1 : d' + 1 ≤ d) (h2 : mL ≤ 19) (h3 : (st.map fun v => v.category).sum ≤ 8) (h4 : nc + mc' ≤ mc) (h5 : ns + ms' ≤ ms) : abRm d mc ms nc ns mL d' mc' ms' st := ⟨h1, h2, h3, h4, h5⟩
section AB5
variable {cc : ByteArray} {nL : Nat} {own : String} {ret : Option FieldType} {ini : Bool} {d mc ms : Nat} {X : abX} {out : Option Value × abH} {pc : Nat} {lv : List (Option Value)} {st st0 : List Value} {h h' : abH} {nc ns : Nat}
  {idx n mL d' mc' ms' : Nat} {y : MethodName} {bytes : ByteArray} {ret' : Option FieldType} {As : List Value} {r : Option Value} {ζ : Type} {z : ζ}
theorem ab_nmh {β : Type} {K : abH → β} {w : β} (hf : nm h K = w) (k : ∀ h2 : abH, K h2 = w → abW cc nL own ret ini d mc ms X out pc lv st h2 nc ns) : abW cc nL own ret ini d mc ms X out pc lv st h nc ns := k h hf
theorem f_retT {v v0 : Int32} (ty : FieldType) (hn : narrow ty (.int v) = .int v) (hd : decode cc pc = .ok (.ireturn, 1)) (hr : ret = some ty) (h1 : nc ≤ mc) (h2 : ns ≤ ms) (hf : some v = some v0) : abW cc nL own ret ini d mc ms X (some (.int v0), h) pc lv [.int v] h nc ns := by
  cases hf
  exact ab_zret ty hd hr hn rfl h1 h2
theorem ab_ldcS (ho : own = "ShadowCourt$Page") (hq : idx = 52) (hd : decode cc pc = .ok (.ldc idx, 2)) (k : abW cc nL own ret ini d mc ms X out (pc + 2) lv (.ref 1 :: st) h nc ns) : abW cc nL own ret ini d mc ms X out pc lv st h nc ns := by
  intro p l e R s m args below meth c D cA ad B H locs ls Q hC hE hz hP hS hl
  obtain ⟨hx, hb, hml, hown, hts, hK, hG, had, hB, hini, hR, hX⟩ := id hC
  subst ho; subst hq
  exact va_ldcS hx hb hown hG.2.2.2.2.1 hd (k p l e R s m args below meth c D cA ad B H locs ls Q hC hE hz hP hS hl)
theorem ab_strval (w : Cond.fieldLink own idx "java/lang/String" "value" "[B" ∈ abTb) (hd : decode cc pc = .ok (.getfield idx, 3)) (k : abW cc nL own ret ini d mc ms X out (pc + 3) lv (.ref 2 :: st) h nc ns) : abW cc nL own ret ini d mc ms X out pc lv (.ref 1 :: st) h nc ns := by
  intro p l e R s m args below meth c D cA ad B H locs ls Q hC hE hz hP hS hl
  obtain ⟨hx, hb, hml, hown, hts, hK, hG, had, hB, hini, hR, hX⟩ := id hC
  exact vk_getf hx hb (hG.2.2.2.2.2.1.1 0 (by decide)).2.2.1 hS hown (hts _ w) (fun _ q => q) hd (k p l e R s m args below meth c D cA ad B H locs ls Q hC hE hz hP hS hl)
theorem ab_strcod (w : Cond.fieldLink own idx "java/lang/String" "coder" "B" ∈ abTb) (hd : decode cc pc = .ok (.getfield idx, 3)) (k : abW cc nL own ret ini d mc ms X out (pc + 3) lv (.int 0 :: st) h nc ns) : abW cc nL own ret ini d mc ms X out pc lv (.ref 1 :: st) h nc ns := by
  intro p l e R s m args below meth c D cA ad B H locs ls Q hC hE hz hP hS hl
  obtain ⟨hx, hb, hml, hown, hts, hK, hG, had, hB, hini, hR, hX⟩ := id hC
  exact vk_getf hx hb (hG.2.2.2.2.2.1.1 0 (by decide)).2.1 hS hown (hts _ w) (fun _ q => q) hd (k p l e R s m args below meth c D cA ad B H locs ls Q hC hE hz hP hS hl)
theorem ab_compact (w : Cond.fieldLink own idx "java/lang/String" "COMPACT_STRINGS" "Z" ∈ abTb) (hd : decode cc pc = .ok (.getstatic idx, 3)) (k : abW cc nL own ret ini d mc ms X out (pc + 3) lv (.int 1 :: st) h nc ns) : abW cc nL own ret ini d mc ms X out pc lv st h nc ns := by
  intro p l e R s m args below meth c D cA ad B H locs ls Q hC hE hz hP hS hl
  obtain ⟨hx, hb, hml, hown, hts, hK, hG, had, hB, hini, hR, hX⟩ := id hC
  exact va_gets hx hb hG.2.2.2.2.2.2 hS hown (hts _ w) (fun _ q => q) hd (k p l e R s m args below meth c D cA ad B H locs ls Q hC hE hz hP hS hl)
theorem ab_strlen (hd : decode cc pc = .ok (.arraylength, 1)) (k : abW cc nL own ret ini d mc ms X out (pc + 1) lv (.int 5 :: st) h nc ns) : abW cc nL own ret ini d mc ms X out pc lv (.ref 2 :: st) h nc ns := by
  intro p l e R s m args below meth c D cA ad B H locs ls Q hC hE hz hP hS hl
  obtain ⟨hx, hb, hml, hown, hts, hK, hG, had, hB, hini, hR, hX⟩ := id hC
  exact va_tlen hx hb (hG.2.2.2.2.2.1.1 0 (by decide)).2.2.2 hS rfl hd (k p l e R s m args below meth c D cA ad B H locs ls Q hC hE hz hP hS hl)
theorem f_sby {i : Int32} {K : Int32 → Option ζ} (hd : decode cc pc = .ok (.baload, 1)) (hf : (sby i).bind K = some z) (kk : ∀ v, K v = some z → abW cc nL own ret ini d mc ms X out (pc + 1) lv (.int v :: st) h nc ns) : abW cc nL own ret ini d mc ms X out pc lv (.int i :: .ref 2 :: st) h nc ns := by
  intro p l e R s m args below meth c D cA ad B H locs ls Q hC hE hz hP hS hl
  obtain ⟨hx, hb, hml, hown, hts, hK, hG, had, hB, hini, hR, hX⟩ := id hC
  obtain ⟨v, h1, h2⟩ := Option.bind_eq_some_iff.mp hf
  simp only [sby] at h1
  split at h1
  next q =>
    cases h1
    exact va_tb hx hb (hG.2.2.2.2.2.1.1 0 (by decide)).2.2.2 hS (abin_in q) rfl hd (kk _ h2 p l e R s m args below meth c D cA ad B H locs ls Q hC hE hz hP hS hl)
  next => cases h1
theorem ab_slen {L : Nat} {xs : Nat → Int32} (hd : decode cc pc = .ok (.arraylength, 1)) (k : abW cc nL own ret ini d mc ms (some (L, xs)) out (pc + 1) lv (.int (Int32.ofNat L) :: st) h nc ns) : abW cc nL own ret ini d mc ms (some (L, xs)) out pc lv (.ref 0 :: st) h nc ns := by
  intro p l e R s m args below meth c D cA ad B H locs ls Q hC hE hz hP hS hl
  obtain ⟨hx, hb, hml, hown, hts, hK, hG, had, hB, hini, hR, hX⟩ := id hC
  obtain ⟨q1, q2, q3⟩ := hX _ rfl
  exact va_slen hx hb q1 q2 (Nat.not_le.mpr q3) hS hd (k p l e R s m args below meth c D cA ad B H locs ls Q hC hE hz hP hS hl)
theorem f_sld {L : Nat} {xs : Nat → Int32} {i : Int32} {K : Int32 → Option ζ} (hd : decode cc pc = .ok (.iaload, 1)) (hf : (sx L xs i).bind K = some z) (kk : ∀ v, K v = some z → abW cc nL own ret ini d mc ms (some (L, xs)) out (pc + 1) lv (.int v :: st) h nc ns) : abW cc nL own ret ini d mc ms (some (L, xs)) out pc lv (.int i :: .ref 0 :: st) h nc ns := by
  intro p l e R s m args below meth c D cA ad B H locs ls Q hC hE hz hP hS hl
  obtain ⟨hx, hb, hml, hown, hts, hK, hG, had, hB, hini, hR, hX⟩ := id hC
  obtain ⟨q1, q2, q3⟩ := hX _ rfl
  obtain ⟨v, h1, h2⟩ := Option.bind_eq_some_iff.mp hf
  simp only [sx] at h1
  split at h1
  next q =>
    cases h1
    exact va_sld hx hb q1 q2 (Nat.not_le.mpr q3) hS (abin_in q) hd (kk _ h2 p l e R s m args below meth c D cA ad B H locs ls Q hC hE hz hP hS hl)
  next => cases h1
def abQw (own : String) (idx : Nat) (y : MethodName) (bytes : ByteArray) (mL : Nat) (ret : Option FieldType) (n : Nat) : Prop := y.cls = "java/lang/String" ∧ Cond.methodLink own idx y ∈ abTb ∧ Cond.instanceMethod y ∈ abTb ∧ Cond.selects "java/lang/String" y y ∈ abTb ∧ Cond.initialized "java/lang/String" ∈ abTb ∧ Cond.code y bytes mL ret ∈ abTb ∧ y.cls ≠ "java/lang/invoke/MethodHandle" ∧ y.cls ≠ "java/lang/invoke/VarHandle" ∧ (parseMethodDescriptor y.desc).map (fun d => d.parameters.length) = some n
theorem f_Q_i {q : Option Int32} {K : Int32 → Option ζ} (hw : abQw own idx y bytes mL ret' n) (hM : ∀ v, q = some v → abM y bytes mL ret' d' 0 0 (.ref 1 :: As) h (some (.int v)) h) (hst : st0 = As.reverse ++ .ref 1 :: st) (hn : As.length = n) (hd : decode cc pc = .ok (.invokevirtual idx, 3)) (hrm : abRm d mc ms nc ns mL d' 0 0 st) (hf : q.bind K = some z) (kk : ∀ v, K v = some z → abW cc nL own ret ini d mc ms X out (pc + 3) lv (.int v :: st) h nc ns) : abW cc nL own ret ini d mc ms X out pc lv st0 h nc ns := by
  intro p l e R s m args below meth c D cA ad B H locs ls Q hC hE hz hP hS hl
  obtain ⟨hx, hb, hml, hown, hts, hK, hG, had, hB, hini, hR, hX⟩ := id hC
  obtain ⟨v, f1, f2⟩ := Option.bind_eq_some_iff.mp hf
  obtain ⟨g1, g2, g3, g4, g5⟩ := hrm
  obtain ⟨w0, w1, w2, w3, w4, w5, w6⟩ := hw
  subst hst
  have hrc : ∃ cell : Cell, H[ad 1]? = some cell ∧ cell.vm.isStatics = false ∧ s.vm.findClass "java/lang/String" = some cell.cls := vk_recv (i := 0) hG.2.2.2.2.2.1 (by decide) hS
  exact abRun (mc' := 0) (ms' := 0) (h' := h) (r := some (.int v)) hC hE hS hl (va_runV (C := "java/lang/String") (b := ad 1) (As := As.map (abv ad)) ⟨hx, hb, hml, hown, hts⟩ (hM v f1 l D cA ad B) (cwV (rm := ({ frames := d', cells := 0, slots := 0, locals := 38 * d' } : Room)) n hts (abGood w1 (abGood w2 (abGood w3 (abGood w4 (abGood w5 abTb_in))))) rfl rfl rfl ⟨w0, w6⟩ ⟨by show d' + 1 ≤ R.frames; have := hR.1; omega, by show 8 + (mL + 11) + 38 * d' ≤ R.locals; have := hR.2.1; omega⟩) ⟨(abPre (as := .ref 1 :: As) hK hG had hz hP hS).1, hrc, (abPre (as := .ref 1 :: As) hK hG had hz hP hS).2⟩ rfl (by simpa using hn) hl.1 (by simp [abv]) (by rw [abSum]; exact Nat.le_trans (Nat.le_of_eq (by show 2 * 0 + _ = _; omega)) g3) hd ⟨Nat.le_trans g4 hR.2.2.1, Nat.le_trans g5 hR.2.2.2⟩) (kk v f2)
/-- a static method that the reference names through a class that inherits it: the machine comes to its call -/
theorem abStat {p : Program} {l : Launch} {e : Env} {R : Room} {s : State} {m : MethodId} {args : Array Value} {below : List Frame} {meth : Method} {c : Code} {T : State} {locs : List Loc} (Z : Stand p l e R s m args below meth c T locs nc ns) (hx : p.tables.exec = Jvm.exec) {owner : String} {x : MethodName} (hown : s.vm.findClass own = some m.cls) (hlink : (Cond.methodLink own idx x).before args s = true) (hsame : (Cond.sameMethod x.cls owner x.name x.desc).before args s = true)
    (ho : owner ≠ "java/lang/invoke/MethodHandle" ∧ owner ≠ "java/lang/invoke/VarHandle") {m2 : MethodId} {meth2 : Method} {k2 : Class} (hn : s.methodNamed? ⟨owner, x.name, x.desc⟩ = some m2) (hm2 : s.vm.method? m2 = some meth2) (hstat : meth2.isStatic = true) (hk2 : s.vm.classes[m2.cls]? = some k2) (hin : k2.init = .initialized)
    {g : JFrame} (hg : g.method = m) {al rest : List Value} (hal : al.length = meth2.sig.parameters.length) (hst : g.stack = al.reverse ++ rest) (hd : decode c.code g.pc = .ok (.invokestatic idx, 3)) :
    ∃ v2, Stand p l e R s m args below meth c (T.setVm v2) locs nc ns ∧ ∀ tg, (∀ acts, Steps p.tables e below (doInvoke e ((T.setVm v2).setTop { g with stack := rest }) acts m2 al.toArray).1 tg) → Steps p.tables e below (T.setTop g) tg := by
  have hpv : e.platform.polymorphicOnlyByInvokevirtual = true := by rw [Z.admits.platform]
  obtain ⟨cn, ck, r1, hcn, hck, hni, hfo, hn1⟩ := Cond.sameMethod_found hsame
  cases hn.symm.trans hn1
  obtain ⟨ci, hl, hright⟩ := Cond.methodLink_specUp hown hcn hck hni hfo hlink e.platform (by rw [Z.admits.platform]) (by rw [Z.admits.platform])
  have hE : s.MethodEntryUp e T.vm m.cls idx cn m2 ci := State.methodEntryUp Z.warmed hl hright
  obtain ⟨kx, hkx, hnx⟩ := className_of_methodNamed hn
  cases hk2.symm.trans hkx
  obtain ⟨dk, cf, nt, mn, md, ck', -, -, hdk, hcf, hcp, hnt, -, -, hck', -, hnopoly, -⟩ := hl.here
  cases hck.symm.trans hck'
  have hal2 := hE.warmed.alike
  obtain ⟨hgc, -, hW1, hgm⟩ := hE.classFirst
  have hcp' : cf.constantPool[idx]? = some (if false then .interfaceMethodref ci nt else .methodref ci nt) := hcp
  have hno : (ck.methods.any fun q => q.name == mn && !q.isStatic && signaturePolymorphic ck q) = false := by simp [hnopoly]
  have top : T.topJava?.isSome := Z.here.top
  -- the three pictures of the tables: as they are, the class noted, the method noted
  obtain ⟨dk0, hdk0, ed0⟩ := Z.warmed.alike.2.2 _ _ hdk
  obtain ⟨dk3, hdk3, ed3⟩ := hal2.2.2 _ _ hdk
  obtain ⟨ck1, hck1, ec1⟩ := hW1.alike.2.2 _ _ hck
  obtain ⟨ck3, hck3, ec3⟩ := hal2.2.2 _ _ hck
  obtain ⟨k3, hk3, ek3⟩ := hal2.2.2 _ _ hk2
  have ref0 := memberRef_ask_via (e := e) hdk0 (by rw [ed0]; exact hcf) hcp' hnt
  have ref3 := memberRef_ask_via (e := e) hdk3 (by rw [ed3]; exact hcf) hcp' hnt
  have no1 : (ck1.methods.any fun q => q.name == mn && !q.isStatic && signaturePolymorphic ck1 q) = false := by rw [ec1]; exact hno
  have no3 : (ck3.methods.any fun q => q.name == mn && !q.isStatic && signaturePolymorphic ck3 q) = false := by rw [ec3]; exact hno
  refine ⟨T.vm.calledUp m.cls ci idx cn m2, Z.noted hE.warmed, fun tg hr => ?_⟩
  subst hg
  have top1 : (T.setVm (T.vm.noted g.method.cls ci (.cls cn))).topJava?.isSome := top
  have top3 : (T.setVm (T.vm.calledUp g.method.cls ci idx cn m2)).topJava?.isSome := top
  have cold : ∀ {Q : Unit → Pre} {E : CtlPost} {d0 : Bool} {acts : List Action}, wp (Op.invokestatic.sem idx) Q E e d0 acts (T.setTop g) ↔ wp (Op.invokestatic.sem idx) Q E e d0 acts ((T.setVm (T.vm.calledUp g.method.cls ci idx cn m2)).setTop g) := by
    intro Q E d0 acts
    have a1 : ∀ {Q' : ClassId → Pre} {d1 : Bool} {acts' : List Action}, wp (Jvm.resolveClassAt ci) Q' E e d1 acts' (T.setTop g) ↔ Q' cn d1 acts' ((T.setVm (T.vm.noted g.method.cls ci (.cls cn))).setTop g) := W.resolveClassAt_links (t := T.setTop g) (State.method?_setTop g top) hgc
    have a2 : ∀ {Q' : MethodId → Pre} {d1 : Bool} {acts' : List Action}, wp (Jvm.resolveMethodAt idx) Q' E e d1 acts' ((T.setVm (T.vm.noted g.method.cls ci (.cls cn))).setTop g) ↔ Q' m2 d1 acts' ((T.setVm (T.vm.calledUp g.method.cls ci idx cn m2)).setTop g) := W.resolveMethodAt_links (t := (T.setVm (T.vm.noted g.method.cls ci (.cls cn))).setTop g) (State.method?_setTop g top1) hgm
    simp [Op.invokestatic.sem, hpv, Seam.memberRefOf, State.method?_setTop g top, State.method?_setTop g top3, ref0, ref3, a1, W.resolveClassAt_ready (s := (T.setVm (T.vm.calledUp g.method.cls ci idx cn m2)).setTop g) (State.method?_setTop g top3) hE.classReady, hck1, hck3, no1, no3, a2, W.resolveMethodAt_ready (s := (T.setVm (T.vm.calledUp g.method.cls ci idx cn m2)).setTop g) (State.method?_setTop g top3) hE.ready, -Array.any_eq_true]
  jvm_step Z.here [hx, hd, cold, Op.invokestatic.wp_ready (e := e) (s := T.setVm (T.vm.calledUp g.method.cls ci idx cn m2)) (k := k3) (meth := meth2) (m := m2) (args := al) (rest := rest) (f := g) top ⟨ci, mn, md, false, cn, ck3, ref3, hE.classReady, hck3, no3⟩ hE.ready hk3
    (by show (T.vm.calledUp g.method.cls ci idx cn m2).method? m2 = some meth2; rw [hal2.method?]; exact hm2) (by rw [ek3]; show signaturePolymorphic k2 meth2 = false; simp [signaturePolymorphic, hnx, ho.1, ho.2]) hstat (by rw [ek3]; exact hin) hal hst]
  exact fun acts => hr _
def abTw (own : String) (idx : Nat) (owner : String) (x : MethodName) (bytes : ByteArray) (mL : Nat) (ret : Option FieldType) (n : Nat) : Prop := Cond.methodLink own idx x ∈ abTb ∧ Cond.sameMethod x.cls owner x.name x.desc ∈ abTb ∧ Cond.static ⟨owner, x.name, x.desc⟩ ∈ abTb ∧ Cond.initialized owner ∈ abTb ∧ Cond.code ⟨owner, x.name, x.desc⟩ bytes mL ret ∈ abTb ∧ owner ≠ "java/lang/invoke/MethodHandle" ∧ owner ≠ "java/lang/invoke/VarHandle" ∧ (parseMethodDescriptor x.desc).map (fun d => d.parameters.length) = some n
theorem f_T_i {q : Option Int32} {K : Int32 → Option ζ} {owner : String} {x : MethodName} (hw : abTw own idx owner x bytes mL ret' n) (hM : ∀ v, q = some v → abM ⟨owner, x.name, x.desc⟩ bytes mL ret' d' 0 0 As h (some (.int v)) h) (hst : st0 = As.reverse ++ st) (hn : As.length = n) (hd : decode cc pc = .ok (.invokestatic idx, 3)) (hrm : abRm d mc ms nc ns mL d' 0 0 st) (hf : q.bind K = some z) (kk : ∀ v, K v = some z → abW cc nL own ret ini d mc ms X out (pc + 3) lv (.int v :: st) h nc ns) : abW cc nL own ret ini d mc ms X out pc lv st0 h nc ns := by
  intro p l e R s m args below meth c D cA ad B H locs ls Q hC hE hz hP hS hl
  obtain ⟨hx, hb, hml, hown, hts, hK, hG, had, hB, hini, hR, hX⟩ := id hC
  obtain ⟨v, f1, f2⟩ := Option.bind_eq_some_iff.mp hf
  obtain ⟨g1, g2, g3, g4, g5⟩ := hrm
  obtain ⟨w1, w2, w3, w4, w5, w6, w7, w8⟩ := hw
  subst hst
  refine abRun (mc' := 0) (ms' := 0) (h' := h) (r := some (.int v)) (st := st) (a := (As.map (abv ad)).toArray) hC hE hS hl ?_ (kk v f2)
  have hbk : Back l R p e below s args ⟨owner, x.name, x.desc⟩ 3 8 (PreOf R 0 0 (abPc D cA ad B As h)) (PostOf (abQc D cA ad B (some (.int v)) h) 0 0 (fun q => B ≤ q)) :=
    back_of (bytes := bytes) (maxL := mL) (ret := ret') (hM v f1 l D cA ad B) abPc_blind rfl rfl (by show d' + 1 ≤ R.frames; have := hR.1; omega) (by show 8 + (mL + 11) + 38 * d' ≤ R.locals; have := hR.2.1; omega) (pay_in hts (abGood w5 abTb_in)) List.mem_cons_self (fun a' U hW => word_at hW (abTb_good w4) (hts _ w4))
  have hcode := hts _ w5
  obtain ⟨mk, hnamed⟩ := Cond.code_named hcode
  obtain ⟨mM, cM, hmM, -, -, -, -, -, -, hsig⟩ := Cond.code_spec hnamed hcode
  obtain ⟨kP, hkP, -⟩ := className_of_methodNamed hnamed
  have hlen : (As.map (abv ad)).length = mM.sig.parameters.length := by
    have h2 := w8
    rw [show parseMethodDescriptor x.desc = some mM.sig from hsig] at h2
    simp only [Option.map_some, Option.some.injEq] at h2
    simp [hn, h2]
  intro T hT Z
  obtain ⟨v1, Z1, st1⟩ := abStat Z hx hown (hts _ w1) (hts _ w2) ⟨w6, w7⟩ hnamed hmM (Cond.static_spec hnamed hmM (hts _ w3)) hkP (Cond.initialized_spec (findClass_of_methodNamed hnamed) hkP (hts _ w4)) (g := F0 m pc ls ((As.reverse ++ st).map (abv ad))) rfl (al := As.map (abv ad)) (rest := st.map (abv ad)) hlen (by simp) (by rw [hb]; exact hd)
  obtain ⟨v2, ⟨U', l2, c2, s2⟩, Z2, ⟨g', mk2, t, L, e1, e2, hq, h1, hL, h2, h3⟩, st2⟩ := hbk m meth c ⟨T.setVm v1, locs, nc, ns⟩ { F0 m pc ls ((As.reverse ++ st).map (abv ad)) with stack := st.map (abv ad) } (.invokestatic idx) mk (As.map (abv ad)).toArray Z1 rfl (by rw [hml]; exact hl.1) (by rw [hb]; exact hd) (by rw [abSum]; exact Nat.le_trans (Nat.le_of_eq (by show 2 * 0 + _ = _; omega)) g3) (Z1.named hnamed)
    ⟨Nat.le_trans g4 hR.2.2.1, Nat.le_trans g5 hR.2.2.2, (abPre hK hG had hz hP hS).2 (T.setVm v1) hT Z1.warmed⟩
  dsimp only [Pt.U, Pt.locs, Pt.cells, Pt.slots] at Z2 e1 e2 h1 h2 h3 st2
  subst h1; subst h2; subst h3
  exact ⟨v2, (T.setVm v1).calling g' mk2 (As.map (abv ad)).toArray, t, U', L, hT, Z2, hL, e1, e2, hq, fun tg hh => st1 _ fun acts => by rw [doInvoke_state]; exact st2.trans hh⟩
end AB5
