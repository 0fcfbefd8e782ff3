/-! THE LAYER, sixth: a row takes the function's next step with it ('hf') -/
def bd2 {α β γ : Type} (q : Option (α × β)) (K : α → β → Option γ) : Option γ := match q with
  | some q => K q.1 q.2
  | none => none
theorem bd2_some {α β γ : Type} {q : Option (α × β)} {K : α → β → Option γ} {z : γ} (h : bd2 q K = some z) : ∃ a b, q = some (a, b) ∧ K a b = some z := by
  match q, h with
  | some (a, b), h => exact ⟨a, b, rfl, h⟩
def dz {α : Type} (y : Int32) (K : Option α) : Option α := if y = 0 then none else K
def dzl {α : Type} (y : Int64) (K : Option α) : Option α := if y = 0 then none else K
/-- by the class of a KIND -/
def dsp {α : Type} (c : Nat) (a0 a4 a5 a7 a10 : Option α) : Option α := if c = 0 then a0 else if c = 4 then a4 else if c = 5 then a5 else if c = 7 then a7 else if c = 10 then a10 else none
def sx (L : Nat) (xs : Nat → Int32) (i : Int32) : Option Int32 := if abin i L = true then some (xs i.toNatClampNeg) else none
theorem rmk {d mc ms nc ns mL d' mc' ms' : Nat} {st : List Value} (q : (Nat.ble (d' + 1) d && (Nat.ble mL 19 && (Nat.ble (st.map fun v => v.category).sum 8 && (Nat.ble (nc + mc') mc && Nat.ble (ns + ms') ms)))) = true) : abRm d mc ms nc ns mL d' mc' ms' st := by
  simp only [Bool.and_eq_true] at q
  exact ⟨Nat.le_of_ble_eq_true q.1, Nat.le_of_ble_eq_true q.2.1, Nat.le_of_ble_eq_true q.2.2.1, Nat.le_of_ble_eq_true q.2.2.2.1, Nat.le_of_ble_eq_true q.2.2.2.2⟩
section AB4
variable {cc : ByteArray} {nL : Nat} {own : String} {ret : Option FieldType} {ini : Bool} {d mc ms : Nat} {X : abX} {out : Option Value × abH} {pc : Nat} {lv : List (Option Value)} {st st0 : List Value} {h : abH} {nc ns : Nat}
  {idx n mL d' mc' ms' : Nat} {y : MethodName} {bytes : ByteArray} {ret' : Option FieldType} {As : List Value} {ζ : Type} {z : ζ}
theorem f_getI {ci k a : Nat} {K : Int32 → Option ζ} (hs : abFs own idx ci k) (hd : decode cc pc = .ok (.getfield idx, 3)) (hf : (gI ci h a k).bind K = some z) (kk : ∀ v, K v = some z → abW cc nL own ret ini d mc ms X out (pc + 3) lv (.int v :: st) h nc ns) : abW cc nL own ret ini d mc ms X out pc lv (.ref a :: st) h nc ns := by
  obtain ⟨v, h1, h2⟩ := Option.bind_eq_some_iff.mp hf
  exact ab_getI hs h1 hd (kk v h2)
theorem f_getJ {ci k a : Nat} {K : Int64 → Option ζ} (hs : abFs own idx ci k) (hd : decode cc pc = .ok (.getfield idx, 3)) (hf : (gJ ci h a k).bind K = some z) (kk : ∀ v, K v = some z → abW cc nL own ret ini d mc ms X out (pc + 3) lv (.long v :: st) h nc ns) : abW cc nL own ret ini d mc ms X out pc lv (.ref a :: st) h nc ns := by
  obtain ⟨v, h1, h2⟩ := Option.bind_eq_some_iff.mp hf
  exact ab_getJ hs h1 hd (kk v h2)
theorem f_getR {ci k a : Nat} {K : Nat → Option ζ} (hs : abFs own idx ci k) (hd : decode cc pc = .ok (.getfield idx, 3)) (hf : (gR ci h a k).bind K = some z) (kk : ∀ v, K v = some z → abW cc nL own ret ini d mc ms X out (pc + 3) lv (.ref v :: st) h nc ns) : abW cc nL own ret ini d mc ms X out pc lv (.ref a :: st) h nc ns := by
  obtain ⟨v, h1, h2⟩ := Option.bind_eq_some_iff.mp hf
  exact ab_getR hs h1 hd (kk v h2)
theorem f_put {ci k a : Nat} {ty : FieldType} {v : Value} {K : abH → Option ζ} (hs : abFp own idx ci k ty false) (hv : abFit ty v) (hd : decode cc pc = .ok (.putfield idx, 3)) (hf : (sV ci h a k v).bind K = some z) (kk : ∀ h', K h' = some z → abW cc nL own ret ini d mc ms X out (pc + 3) lv st h' nc ns) : abW cc nL own ret ini d mc ms X out pc lv (v :: .ref a :: st) h nc ns := by
  obtain ⟨h', h1, h2⟩ := Option.bind_eq_some_iff.mp hf
  exact ab_put hs hv h1 hd (kk h' h2)
theorem f_putF {ci k a : Nat} {ty : FieldType} {v : Value} {K : abH → Option ζ} (hs : abFp own idx ci k ty true) (hin : ini = true) (hv : abFit ty v) (hd : decode cc pc = .ok (.putfield idx, 3)) (hf : (sV ci h a k v).bind K = some z) (kk : ∀ h', K h' = some z → abW cc nL own ret ini d mc ms X out (pc + 3) lv st h' nc ns) : abW cc nL own ret ini d mc ms X out pc lv (v :: .ref a :: st) h nc ns := by
  obtain ⟨h', h1, h2⟩ := Option.bind_eq_some_iff.mp hf
  exact ab_putF hs hin hv h1 hd (kk h' h2)
theorem f_putz {ci k a : Nat} {v : Int32} {K : abH → Option ζ} (hs : abFp own idx ci k .boolean false) (hd : decode cc pc = .ok (.putfield idx, 3)) (hf : (rz v).bind (fun v => (sV ci h a k (.int v)).bind K) = some z) (kk : ∀ h', K h' = some z → abW cc nL own ret ini d mc ms X out (pc + 3) lv st h' nc ns) : abW cc nL own ret ini d mc ms X out pc lv (.int v :: .ref a :: st) h nc ns := by
  obtain ⟨w, h0, hf2⟩ := Option.bind_eq_some_iff.mp hf
  obtain ⟨rfl, hv⟩ := rz_fit h0
  obtain ⟨h', h1, h2⟩ := Option.bind_eq_some_iff.mp hf2
  exact ab_put hs hv h1 hd (kk h' h2)
theorem f_iald {a : Nat} {i : Int32} {K : Int32 → Option ζ} (hd : decode cc pc = .ok (.iaload, 1)) (hf : (ga 0 h a i).bind K = some z) (kk : ∀ v, K v = some z → abW cc nL own ret ini d mc ms X out (pc + 1) lv (.int v :: st) h nc ns) : abW cc nL own ret ini d mc ms X out pc lv (.int i :: .ref a :: st) h nc ns := by
  obtain ⟨v, h1, h2⟩ := Option.bind_eq_some_iff.mp hf
  exact ab_iald h1 hd (kk v h2)
theorem f_iast {a : Nat} {i x : Int32} {K : abH → Option ζ} (hd : decode cc pc = .ok (.iastore, 1)) (hf : (sa 0 h a i x).bind K = some z) (kk : ∀ h', K h' = some z → abW cc nL own ret ini d mc ms X out (pc + 1) lv st h' nc ns) : abW cc nL own ret ini d mc ms X out pc lv (.int x :: .int i :: .ref a :: st) h nc ns := by
  obtain ⟨h', h1, h2⟩ := Option.bind_eq_some_iff.mp hf
  exact ab_iast h1 hd (kk h' h2)
theorem f_cald {a : Nat} {i : Int32} {K : Int32 → Option ζ} (hd : decode cc pc = .ok (.caload, 1)) (hf : (ga 1 h a i).bind K = some z) (kk : ∀ v, K v = some z → abW cc nL own ret ini d mc ms X out (pc + 1) lv (.int v :: st) h nc ns) : abW cc nL own ret ini d mc ms X out pc lv (.int i :: .ref a :: st) h nc ns := by
  obtain ⟨v, h1, h2⟩ := Option.bind_eq_some_iff.mp hf
  exact ab_cald h1 hd (kk v h2)
theorem f_cast {a : Nat} {i x : Int32} {K : abH → Option ζ} (hd : decode cc pc = .ok (.castore, 1)) (hf : (sa 1 h a i x).bind K = some z) (kk : ∀ h', K h' = some z → abW cc nL own ret ini d mc ms X out (pc + 1) lv st h' nc ns) : abW cc nL own ret ini d mc ms X out pc lv (.int x :: .int i :: .ref a :: st) h nc ns := by
  obtain ⟨h', h1, h2⟩ := Option.bind_eq_some_iff.mp hf
  exact ab_cast h1 hd (kk h' h2)
theorem f_bald {a : Nat} {i : Int32} {K : Int32 → Option ζ} (hd : decode cc pc = .ok (.baload, 1)) (hf : (ga 2 h a i).bind K = some z) (kk : ∀ v, K v = some z → abW cc nL own ret ini d mc ms X out (pc + 1) lv (.int v :: st) h nc ns) : abW cc nL own ret ini d mc ms X out pc lv (.int i :: .ref a :: st) h nc ns := by
  obtain ⟨v, h1, h2⟩ := Option.bind_eq_some_iff.mp hf
  exact ab_bald h1 hd (kk v h2)
theorem f_bast {a : Nat} {i x : Int32} {K : abH → Option ζ} (hd : decode cc pc = .ok (.bastore, 1)) (hf : (sa 2 h a i x).bind K = some z) (kk : ∀ h', K h' = some z → abW cc nL own ret ini d mc ms X out (pc + 1) lv st h' nc ns) : abW cc nL own ret ini d mc ms X out pc lv (.int x :: .int i :: .ref a :: st) h nc ns := by
  obtain ⟨h', h1, h2⟩ := Option.bind_eq_some_iff.mp hf
  exact ab_bast h1 hd (kk h' h2)
theorem f_alen {a : Nat} {K : Int32 → Option ζ} (hd : decode cc pc = .ok (.arraylength, 1)) (hf : (gl h a).bind K = some z) (kk : ∀ v, K v = some z → abW cc nL own ret ini d mc ms X out (pc + 1) lv (.int v :: st) h nc ns) : abW cc nL own ret ini d mc ms X out pc lv (.ref a :: st) h nc ns := by
  obtain ⟨v, h1, h2⟩ := Option.bind_eq_some_iff.mp hf
  exact ab_alen h1 hd (kk v h2)
theorem f_aald {a : Nat} {i : Int32} {K : Option Nat → Option ζ} (hd : decode cc pc = .ok (.aaload, 1)) (hf : (gq h a i).bind K = some z) (kk : ∀ v, K v = some z → abW cc nL own ret ini d mc ms X out (pc + 1) lv (va_rf v :: st) h nc ns) : abW cc nL own ret ini d mc ms X out pc lv (.int i :: .ref a :: st) h nc ns := by
  obtain ⟨v, h1, h2⟩ := Option.bind_eq_some_iff.mp hf
  exact ab_aald h1 hd (kk v h2)
theorem f_nn {q : Option Nat} {K : Nat → Option ζ} (hf : q.bind K = some z) (kk : ∀ v, K v = some z → abW cc nL own ret ini d mc ms X out pc lv (.ref v :: st) h nc ns) : abW cc nL own ret ini d mc ms X out pc lv (va_rf q :: st) h nc ns := by
  obtain ⟨v, h1, h2⟩ := Option.bind_eq_some_iff.mp hf
  subst h1
  exact kk v h2
theorem f_aast {a v : Nat} {i : Int32} {K : abH → Option ζ} (hd : decode cc pc = .ok (.aastore, 1)) (hf : (sq h a i v).bind K = some z) (kk : ∀ h', K h' = some z → abW cc nL own ret ini d mc ms X out (pc + 1) lv st h' nc ns) : abW cc nL own ret ini d mc ms X out pc lv (.ref v :: .int i :: .ref a :: st) h nc ns := by
  obtain ⟨h', h1, h2⟩ := Option.bind_eq_some_iff.mp hf
  exact ab_aast h1 hd (kk h' h2)
theorem f_inst {a : Nat} {Tn : String} {K : Int32 → Option ζ} (T : Nat) (hT : (T = 4 ∧ Tn = RX4) ∨ (T = 10 ∧ Tn = RX10) ∨ (T = 0 ∧ Tn = RX0) ∨ (T = 7 ∧ Tn = RX7)) (hw : Cond.classLink own idx Tn ∈ abTb) (hd : decode cc pc = .ok (.instanceof idx, 3)) (hf : (kc h a).bind (fun c => (isI c T).bind K) = some z) (kk : ∀ v, K v = some z → abW cc nL own ret ini d mc ms X out (pc + 3) lv (.int v :: st) h nc ns) : abW cc nL own ret ini d mc ms X out pc lv (.ref a :: st) h nc ns := by
  obtain ⟨c, h0, hf⟩ := Option.bind_eq_some_iff.mp hf
  obtain ⟨v, h1, h2⟩ := Option.bind_eq_some_iff.mp hf
  exact ab_inst T hT hw h0 h1 hd (kk v h2)
theorem f_acp {a b : Nat} {sp dp n : Int32} {K : abH → Option ζ} (w1 : Cond.methodLink own idx arraycopyName ∈ abTb) (w2 : Cond.native arraycopyName ∈ abTb) (w3 : Cond.static arraycopyName ∈ abTb) (w4 : Cond.initialized "java/lang/System" ∈ abTb) (hd2 : 2 ≤ d) (hst : (st.map fun v => v.category).sum + (nativeFrameWords "java/lang/System" "arraycopy" 5 + 11) ≤ 76) (hd : decode cc pc = .ok (.invokestatic idx, 3)) (hf : (acp h a sp b dp n).bind K = some z) (kk : ∀ h', K h' = some z → abW cc nL own ret ini d mc ms X out (pc + 3) lv st h' nc ns) : abW cc nL own ret ini d mc ms X out pc lv (.int n :: .int dp :: .ref b :: .int sp :: .ref a :: st) h nc ns := by
  obtain ⟨h', h1, h2⟩ := Option.bind_eq_some_iff.mp hf
  exact ab_acp w1 w2 w3 w4 hd2 hst h1 hd (kk h' h2)
theorem f_idiv {x y : Int32} {K : Option ζ} (hd : decode cc pc = .ok (.idiv, 1)) (hf : dz y K = some z) (kk : K = some z → abW cc nL own ret ini d mc ms X out (pc + 1) lv (.int (x / y) :: st) h nc ns) : abW cc nL own ret ini d mc ms X out pc lv (.int y :: .int x :: st) h nc ns := by
  simp only [dz] at hf
  split at hf
  next => cases hf
  next q => exact ab_idiv hd q (kk hf)
theorem f_irem {x y : Int32} {K : Option ζ} (hd : decode cc pc = .ok (.irem, 1)) (hf : dz y K = some z) (kk : K = some z → abW cc nL own ret ini d mc ms X out (pc + 1) lv (.int (x - x / y * y) :: st) h nc ns) : abW cc nL own ret ini d mc ms X out pc lv (.int y :: .int x :: st) h nc ns := by
  simp only [dz] at hf
  split at hf
  next => cases hf
  next q => exact ab_irem hd q (kk hf)
theorem f_ldiv {x y : Int64} {K : Option ζ} (hd : decode cc pc = .ok (.ldiv, 1)) (hf : dzl y K = some z) (kk : K = some z → abW cc nL own ret ini d mc ms X out (pc + 1) lv (.long (x / y) :: st) h nc ns) : abW cc nL own ret ini d mc ms X out pc lv (.long y :: .long x :: st) h nc ns := by
  simp only [dzl] at hf
  split at hf
  next => cases hf
  next q => exact ab_ldiv hd q (kk hf)
theorem f_lrem {x y : Int64} {K : Option ζ} (hd : decode cc pc = .ok (.lrem, 1)) (hf : dzl y K = some z) (kk : K = some z → abW cc nL own ret ini d mc ms X out (pc + 1) lv (.long (x - x / y * y) :: st) h nc ns) : abW cc nL own ret ini d mc ms X out pc lv (.long y :: .long x :: st) h nc ns := by
  simp only [dzl] at hf
  split at hf
  next => cases hf
  next q => exact ab_lrem hd q (kk hf)
theorem f_tab {dflt lo hi : Int} {offs : Array Int} {len : Nat} {x : Int32} {A Bb : Option ζ} (j : Int32) (off : Int) (tgt : Nat) (hd : decode cc pc = .ok (.tableswitch dflt lo hi offs, len)) (hj : ¬ j.toInt < lo ∧ ¬ hi < j.toInt ∧ offs[(j.toInt - lo).toNat]? = some off) (ht : (pc : Int) + off = (tgt : Int)) (hf : (if x = j then A else Bb) = some z) (kt : A = some z → abW cc nL own ret ini d mc ms X out tgt lv st h nc ns) (kf : ¬ x = j → Bb = some z → abW cc nL own ret ini d mc ms X out pc lv (.int x :: st) h nc ns) : abW cc nL own ret ini d mc ms X out pc lv (.int x :: st) h nc ns := by
  by_cases q : x = j
  · rw [if_pos q] at hf
    subst q
    exact ab_tableIn tgt hd hj.1 hj.2.1 hj.2.2 ht (kt hf)
  · rw [if_neg q] at hf
    exact kf q hf
theorem f_lks {dflt : Int} {ps : Array (Int × Int)} {len : Nat} {x : Int32} {A Bb : Option ζ} (j : Int32) (off : Int) (tgt : Nat) (hd : decode cc pc = .ok (.lookupswitch dflt ps, len)) (hp : (ps.toList.zip (ps.toList.drop 1)).all (fun (a, next) => a.1 < next.1) = true) (ho : Op.lookupswitch.offset ps.toList dflt j.toInt = off) (ht : (pc : Int) + off = (tgt : Int)) (hf : (if x = j then A else Bb) = some z) (kt : A = some z → abW cc nL own ret ini d mc ms X out tgt lv st h nc ns) (kf : ¬ x = j → Bb = some z → abW cc nL own ret ini d mc ms X out pc lv (.int x :: st) h nc ns) : abW cc nL own ret ini d mc ms X out pc lv (.int x :: st) h nc ns := by
  by_cases q : x = j
  · rw [if_pos q] at hf
    subst q
    exact ab_lookup tgt hd hp ho ht (kt hf)
  · rw [if_neg q] at hf
    exact kf q hf
theorem f_reti {v v0 : Int32} (hd : decode cc pc = .ok (.ireturn, 1)) (hr : ret = some .int) (h1 : nc ≤ mc) (h2 : ns ≤ ms) (hf : some v = some v0) : abW cc nL own ret ini d mc ms X (some (.int v0), h) pc lv [.int v] h nc ns := by
  cases hf
  exact ab_zret .int hd hr rfl rfl h1 h2
theorem f_retzc {v v0 : Int32} (hn : narrow .boolean (.int v) = .int v) (hd : decode cc pc = .ok (.ireturn, 1)) (hr : ret = some .boolean) (h1 : nc ≤ mc) (h2 : ns ≤ ms) (hf : some v = some v0) : abW cc nL own ret ini d mc ms X (some (.int v0), h) pc lv [.int v] h nc ns := by
  cases hf
  exact ab_zret .boolean hd hr hn rfl h1 h2
theorem f_retz {v v0 : Int32} (hd : decode cc pc = .ok (.ireturn, 1)) (hr : ret = some .boolean) (h1 : nc ≤ mc) (h2 : ns ≤ ms) (hf : rz v = some v0) : abW cc nL own ret ini d mc ms X (some (.int v0), h) pc lv [.int v] h nc ns := by
  obtain ⟨rfl, hn⟩ := rz_nar hf
  exact ab_zret .boolean hd hr hn rfl h1 h2
theorem f_retl {v v0 : Int64} (hd : decode cc pc = .ok (.lreturn, 1)) (hr : ret = some .long) (h1 : nc ≤ mc) (h2 : ns ≤ ms) (hf : some v = some v0) : abW cc nL own ret ini d mc ms X (some (.long v0), h) pc lv [.long v] h nc ns := by
  cases hf
  exact ab_lret hd hr rfl h1 h2
theorem f_retv0 (hd : decode cc pc = .ok (.return_, 1)) (hr : ret = none) (h1 : nc ≤ mc) (h2 : ns ≤ ms) : abW cc nL own ret ini d mc ms X (none, h) pc lv [] h nc ns := ab_vret hd hr rfl h1 h2
theorem f_reti2 {v v0 : Int32} {h0 : abH} (hd : decode cc pc = .ok (.ireturn, 1)) (hr : ret = some .int) (h1 : nc ≤ mc) (h2 : ns ≤ ms) (hf : some (v, h) = some (v0, h0)) : abW cc nL own ret ini d mc ms X (some (.int v0), h0) pc lv [.int v] h nc ns := by
  cases hf
  exact ab_zret .int hd hr rfl rfl h1 h2
theorem f_retzc2 {v v0 : Int32} {h0 : abH} (hn : narrow .boolean (.int v) = .int v) (hd : decode cc pc = .ok (.ireturn, 1)) (hr : ret = some .boolean) (h1 : nc ≤ mc) (h2 : ns ≤ ms) (hf : some (v, h) = some (v0, h0)) : abW cc nL own ret ini d mc ms X (some (.int v0), h0) pc lv [.int v] h nc ns := by
  cases hf
  exact ab_zret .boolean hd hr hn rfl h1 h2
theorem f_retz2 {v v0 : Int32} {h0 : abH} (hd : decode cc pc = .ok (.ireturn, 1)) (hr : ret = some .boolean) (h1 : nc ≤ mc) (h2 : ns ≤ ms) (hf : (rz v).bind (fun w => some (w, h)) = some (v0, h0)) : abW cc nL own ret ini d mc ms X (some (.int v0), h0) pc lv [.int v] h nc ns := by
  obtain ⟨w, h3, h4⟩ := Option.bind_eq_some_iff.mp hf
  obtain ⟨rfl, hn⟩ := rz_nar h3
  cases h4
  exact ab_zret .boolean hd hr hn rfl h1 h2
theorem f_retl2 {v v0 : Int64} {h0 : abH} (hd : decode cc pc = .ok (.lreturn, 1)) (hr : ret = some .long) (h1 : nc ≤ mc) (h2 : ns ≤ ms) (hf : some (v, h) = some (v0, h0)) : abW cc nL own ret ini d mc ms X (some (.long v0), h0) pc lv [.long v] h nc ns := by
  cases hf
  exact ab_lret hd hr rfl h1 h2
theorem f_retr2 {v v0 : Nat} {h0 : abH} (n : String) (hd : decode cc pc = .ok (.areturn, 1)) (hr : ret = some (.object n)) (h1 : nc ≤ mc) (h2 : ns ≤ ms) (hf : some (v, h) = some (v0, h0)) : abW cc nL own ret ini d mc ms X (some (.ref v0), h0) pc lv [.ref v] h nc ns := by
  cases hf
  exact ab_aret n hd hr rfl h1 h2
theorem f_retv2 {h0 : abH} (hd : decode cc pc = .ok (.return_, 1)) (hr : ret = none) (h1 : nc ≤ mc) (h2 : ns ≤ ms) (hf : some h = some h0) : abW cc nL own ret ini d mc ms X (none, h0) pc lv [] h nc ns := by
  cases hf
  exact ab_vret hd hr rfl h1 h2
theorem f_V_i {ci b : Nat} {q : Option Int32} {K : Int32 → Option ζ} (hw : abVw own idx ci y bytes mL ret' n) (hM : ∀ v, q = some v → abM y bytes mL ret' d' 0 0 (.ref b :: As) h (some (.int v)) h) (hst : st0 = As.reverse ++ .ref b :: st) (hn : As.length = n) (hd : decode cc pc = .ok (.invokevirtual idx, 3)) (hrm : abRm d mc ms nc ns mL d' 0 0 st) (hf : (ko ci h b).bind (fun _ => q.bind K) = some z) (kk : ∀ v, K v = some z → abW cc nL own ret ini d mc ms X out (pc + 3) lv (.int v :: st) h nc ns) : abW cc nL own ret ini d mc ms X out pc lv st0 h nc ns := by
  obtain ⟨u0, h0, hf⟩ := Option.bind_eq_some_iff.mp hf
  obtain ⟨v, h1, h2⟩ := Option.bind_eq_some_iff.mp hf
  exact ab_callVi hw (ko_spec h0) (hM v h1) hst hn hd hrm (kk v h2)
theorem f_V_l {ci b : Nat} {q : Option Int64} {K : Int64 → Option ζ} (hw : abVw own idx ci y bytes mL ret' n) (hM : ∀ v, q = some v → abM y bytes mL ret' d' 0 0 (.ref b :: As) h (some (.long v)) h) (hst : st0 = As.reverse ++ .ref b :: st) (hn : As.length = n) (hd : decode cc pc = .ok (.invokevirtual idx, 3)) (hrm : abRm d mc ms nc ns mL d' 0 0 st) (hf : (ko ci h b).bind (fun _ => q.bind K) = some z) (kk : ∀ v, K v = some z → abW cc nL own ret ini d mc ms X out (pc + 3) lv (.long v :: st) h nc ns) : abW cc nL own ret ini d mc ms X out pc lv st0 h nc ns := by
  obtain ⟨u0, h0, hf⟩ := Option.bind_eq_some_iff.mp hf
  obtain ⟨v, h1, h2⟩ := Option.bind_eq_some_iff.mp hf
  exact ab_callVl hw (ko_spec h0) (hM v h1) hst hn hd hrm (kk v h2)
theorem f_V_i2 {ci b : Nat} {q : Option (Int32 × abH)} {K : Int32 → abH → Option ζ} (hw : abVw own idx ci y bytes mL ret' n) (hM : ∀ v h', q = some (v, h') → abM y bytes mL ret' d' mc' ms' (.ref b :: As) h (some (.int v)) h') (hst : st0 = As.reverse ++ .ref b :: st) (hn : As.length = n) (hd : decode cc pc = .ok (.invokevirtual idx, 3)) (hrm : abRm d mc ms nc ns mL d' mc' ms' st) (hf : (ko ci h b).bind (fun _ => bd2 q K) = some z) (kk : ∀ v h', K v h' = some z → abW cc nL own ret ini d mc ms X out (pc + 3) lv (.int v :: st) h' (nc + mc') (ns + ms')) : abW cc nL own ret ini d mc ms X out pc lv st0 h nc ns := by
  obtain ⟨u0, h0, hf⟩ := Option.bind_eq_some_iff.mp hf
  obtain ⟨v, h', h1, h2⟩ := bd2_some hf
  exact ab_callVi hw (ko_spec h0) (hM v h' h1) hst hn hd hrm (kk v h' h2)
theorem f_V_l2 {ci b : Nat} {q : Option (Int64 × abH)} {K : Int64 → abH → Option ζ} (hw : abVw own idx ci y bytes mL ret' n) (hM : ∀ v h', q = some (v, h') → abM y bytes mL ret' d' mc' ms' (.ref b :: As) h (some (.long v)) h') (hst : st0 = As.reverse ++ .ref b :: st) (hn : As.length = n) (hd : decode cc pc = .ok (.invokevirtual idx, 3)) (hrm : abRm d mc ms nc ns mL d' mc' ms' st) (hf : (ko ci h b).bind (fun _ => bd2 q K) = some z) (kk : ∀ v h', K v h' = some z → abW cc nL own ret ini d mc ms X out (pc + 3) lv (.long v :: st) h' (nc + mc') (ns + ms')) : abW cc nL own ret ini d mc ms X out pc lv st0 h nc ns := by
  obtain ⟨u0, h0, hf⟩ := Option.bind_eq_some_iff.mp hf
  obtain ⟨v, h', h1, h2⟩ := bd2_some hf
  exact ab_callVl hw (ko_spec h0) (hM v h' h1) hst hn hd hrm (kk v h' h2)
theorem f_V_r2 {ci b : Nat} {q : Option (Nat × abH)} {K : Nat → abH → Option ζ} (hw : abVw own idx ci y bytes mL ret' n) (hM : ∀ v h', q = some (v, h') → abM y bytes mL ret' d' mc' ms' (.ref b :: As) h (some (.ref v)) h') (hst : st0 = As.reverse ++ .ref b :: st) (hn : As.length = n) (hd : decode cc pc = .ok (.invokevirtual idx, 3)) (hrm : abRm d mc ms nc ns mL d' mc' ms' st) (hf : (ko ci h b).bind (fun _ => bd2 q K) = some z) (kk : ∀ v h', K v h' = some z → abW cc nL own ret ini d mc ms X out (pc + 3) lv (.ref v :: st) h' (nc + mc') (ns + ms')) : abW cc nL own ret ini d mc ms X out pc lv st0 h nc ns := by
  obtain ⟨u0, h0, hf⟩ := Option.bind_eq_some_iff.mp hf
  obtain ⟨v, h', h1, h2⟩ := bd2_some hf
  exact ab_callVr hw (ko_spec h0) (hM v h' h1) hst hn hd hrm (kk v h' h2)
theorem f_V_v2 {ci b : Nat} {q : Option abH} {K : abH → Option ζ} (hw : abVw own idx ci y bytes mL ret' n) (hM : ∀ h', q = some h' → abM y bytes mL ret' d' mc' ms' (.ref b :: As) h none h') (hst : st0 = As.reverse ++ .ref b :: st) (hn : As.length = n) (hd : decode cc pc = .ok (.invokevirtual idx, 3)) (hrm : abRm d mc ms nc ns mL d' mc' ms' st) (hf : (ko ci h b).bind (fun _ => q.bind K) = some z) (kk : ∀ h', K h' = some z → abW cc nL own ret ini d mc ms X out (pc + 3) lv st h' (nc + mc') (ns + ms')) : abW cc nL own ret ini d mc ms X out pc lv st0 h nc ns := by
  obtain ⟨u0, h0, hf⟩ := Option.bind_eq_some_iff.mp hf
  obtain ⟨h', h1, h2⟩ := Option.bind_eq_some_iff.mp hf
  exact ab_callVv hw (ko_spec h0) (hM h' h1) hst hn hd hrm (kk h' h2)
theorem f_U_i {ci b : Nat} {owner : String} {x : MethodName} {q : Option Int32} {K : Int32 → Option ζ} (hw : abUw own idx ci owner x y bytes mL ret' n) (hM : ∀ v, q = some v → abM y bytes mL ret' d' 0 0 (.ref b :: As) h (some (.int v)) h) (hst : st0 = As.reverse ++ .ref b :: st) (hn : As.length = n) (hd : decode cc pc = .ok (.invokevirtual idx, 3)) (hrm : abRm d mc ms nc ns mL d' 0 0 st) (hf : (ko ci h b).bind (fun _ => q.bind K) = some z) (kk : ∀ v, K v = some z → abW cc nL own ret ini d mc ms X out (pc + 3) lv (.int v :: st) h nc ns) : abW cc nL own ret ini d mc ms X out pc lv st0 h nc ns := by
  obtain ⟨u0, h0, hf⟩ := Option.bind_eq_some_iff.mp hf
  obtain ⟨v, h1, h2⟩ := Option.bind_eq_some_iff.mp hf
  exact ab_callUi hw (ko_spec h0) (hM v h1) hst hn hd hrm (kk v h2)
theorem f_P_i {ci b : Nat} {q : Option Int32} {K : Int32 → Option ζ} (hw : abPw own idx ci y bytes mL ret' n) (hM : ∀ v, q = some v → abM y bytes mL ret' d' 0 0 (.ref b :: As) h (some (.int v)) h) (hst : st0 = As.reverse ++ .ref b :: st) (hn : As.length = n) (hd : decode cc pc = .ok (.invokespecial idx, 3)) (hrm : abRm d mc ms nc ns mL d' 0 0 st) (hf : (ko ci h b).bind (fun _ => q.bind K) = some z) (kk : ∀ v, K v = some z → abW cc nL own ret ini d mc ms X out (pc + 3) lv (.int v :: st) h nc ns) : abW cc nL own ret ini d mc ms X out pc lv st0 h nc ns := by
  obtain ⟨u0, h0, hf⟩ := Option.bind_eq_some_iff.mp hf
  obtain ⟨v, h1, h2⟩ := Option.bind_eq_some_iff.mp hf
  exact ab_callPi hw (ko_spec h0) (hM v h1) hst hn hd hrm (kk v h2)
theorem f_S_i  {q : Option Int32} {K : Int32 → Option ζ} (hw : abSw own idx y bytes mL ret' n) (hM : ∀ v, q = some v → abM y bytes mL ret' d' 0 0 As h (some (.int v)) h) (hst : st0 = As.reverse ++ st) (hn : As.length = n) (hd : decode cc pc = .ok (.invokestatic idx, 3)) (hrm : abRm d mc ms nc ns mL d' 0 0 st) (hf : q.bind K = some z) (kk : ∀ v, K v = some z → abW cc nL own ret ini d mc ms X out (pc + 3) lv (.int v :: st) h nc ns) : abW cc nL own ret ini d mc ms X out pc lv st0 h nc ns := by
  obtain ⟨v, h1, h2⟩ := Option.bind_eq_some_iff.mp hf
  exact ab_callSi hw (hM v h1) hst hn hd hrm (kk v h2)
theorem f_S_i2  {q : Option (Int32 × abH)} {K : Int32 → abH → Option ζ} (hw : abSw own idx y bytes mL ret' n) (hM : ∀ v h', q = some (v, h') → abM y bytes mL ret' d' mc' ms' As h (some (.int v)) h') (hst : st0 = As.reverse ++ st) (hn : As.length = n) (hd : decode cc pc = .ok (.invokestatic idx, 3)) (hrm : abRm d mc ms nc ns mL d' mc' ms' st) (hf : bd2 q K = some z) (kk : ∀ v h', K v h' = some z → abW cc nL own ret ini d mc ms X out (pc + 3) lv (.int v :: st) h' (nc + mc') (ns + ms')) : abW cc nL own ret ini d mc ms X out pc lv st0 h nc ns := by
  obtain ⟨v, h', h1, h2⟩ := bd2_some hf
  exact ab_callSi hw (hM v h' h1) hst hn hd hrm (kk v h' h2)
theorem f_S_v2  {q : Option abH} {K : abH → Option ζ} (hw : abSw own idx y bytes mL ret' n) (hM : ∀ h', q = some h' → abM y bytes mL ret' d' mc' ms' As h none h') (hst : st0 = As.reverse ++ st) (hn : As.length = n) (hd : decode cc pc = .ok (.invokestatic idx, 3)) (hrm : abRm d mc ms nc ns mL d' mc' ms' st) (hf : q.bind K = some z) (kk : ∀ h', K h' = some z → abW cc nL own ret ini d mc ms X out (pc + 3) lv st h' (nc + mc') (ns + ms')) : abW cc nL own ret ini d mc ms X out pc lv st0 h nc ns := by
  obtain ⟨h', h1, h2⟩ := Option.bind_eq_some_iff.mp hf
  exact ab_callSv hw (hM h' h1) hst hn hd hrm (kk h' h2)
theorem f_SN_i  {q : Option Int32} {K : Int32 → Option ζ} (hw : abNw own idx y (.static y) bytes mL ret' n) (hM : ∀ v, q = some v → abM y bytes mL ret' d' 0 0 As h (some (.int v)) h) (hst : st0 = As.reverse ++ st) (hn : As.length = n) (hd : decode cc pc = .ok (.invokestatic idx, 3)) (hrm : abRm d mc ms nc ns mL d' 0 0 st) (hf : q.bind K = some z) (kk : ∀ v, K v = some z → abW cc nL own ret ini d mc ms X out (pc + 3) lv (.int v :: st) h nc ns) : abW cc nL own ret ini d mc ms X out pc lv st0 h nc ns := by
  obtain ⟨v, h1, h2⟩ := Option.bind_eq_some_iff.mp hf
  exact ab_callSNi hw (hM v h1) hst hn hd hrm (kk v h2)
theorem f_IN_v {b : Nat} {q : Option Unit} {K : Unit → Option ζ} (hi : y.name = "<init>") (hr2 : ret' = none) (hw : abNw own idx y (.instanceMethod y) bytes mL ret' n) (hM : ∀ v, q = some v → abM y bytes mL ret' d' 0 0 (.ref b :: As) h (none) h) (hst : st0 = As.reverse ++ .ref b :: st) (hn : As.length = n) (hd : decode cc pc = .ok (.invokespecial idx, 3)) (hrm : abRm d mc ms nc ns mL d' 0 0 st) (hf : q.bind K = some z) (kk : ∀ v, K v = some z → abW cc nL own ret ini d mc ms X out (pc + 3) lv st h nc ns) : abW cc nL own ret ini d mc ms X out pc lv st0 h nc ns := by
  obtain ⟨v, h1, h2⟩ := Option.bind_eq_some_iff.mp hf
  exact ab_callINv hi hr2 hw (hM v h1) hst hn hd hrm (kk v h2)
theorem f_IN_v2 {b : Nat} {q : Option abH} {K : abH → Option ζ} (hi : y.name = "<init>") (hr2 : ret' = none) (hw : abNw own idx y (.instanceMethod y) bytes mL ret' n) (hM : ∀ h', q = some h' → abM y bytes mL ret' d' mc' ms' (.ref b :: As) h none h') (hst : st0 = As.reverse ++ .ref b :: st) (hn : As.length = n) (hd : decode cc pc = .ok (.invokespecial idx, 3)) (hrm : abRm d mc ms nc ns mL d' mc' ms' st) (hf : q.bind K = some z) (kk : ∀ h', K h' = some z → abW cc nL own ret ini d mc ms X out (pc + 3) lv st h' (nc + mc') (ns + ms')) : abW cc nL own ret ini d mc ms X out pc lv st0 h nc ns := by
  obtain ⟨h', h1, h2⟩ := Option.bind_eq_some_iff.mp hf
  exact ab_callINv hi hr2 hw (hM h' h1) hst hn hd hrm (kk h' h2)
theorem f_I_v2 {b : Nat} {q : Option abH} {K : abH → Option ζ} (hi : y.name = "<init>") (hr2 : ret' = none) (hw : abIw own idx y bytes mL ret' n) (hM : ∀ h', q = some h' → abM y bytes mL ret' d' mc' ms' (.ref b :: As) h none h') (hst : st0 = As.reverse ++ .ref b :: st) (hn : As.length = n) (hd : decode cc pc = .ok (.invokespecial idx, 3)) (hrm : abRm d mc ms nc ns mL d' mc' ms' st) (hf : q.bind K = some z) (kk : ∀ h', K h' = some z → abW cc nL own ret ini d mc ms X out (pc + 3) lv st h' (nc + mc') (ns + ms')) : abW cc nL own ret ini d mc ms X out pc lv st0 h nc ns := by
  obtain ⟨h', h1, h2⟩ := Option.bind_eq_some_iff.mp hf
  exact ab_callIv hi hr2 hw (hM h' h1) hst hn hd hrm (kk h' h2)
theorem f_D {b : Nat} {a0 a4 a5 a7 a10 : Option Int32} {K : Int32 → Option ζ} (hf : (kc h b).bind (fun c => (dsp c a0 a4 a5 a7 a10).bind K) = some z)
    (k0 : ∀ v, kc h b = some 0 → a0 = some v → abW cc nL own ret ini d mc ms X out (pc + 3) lv (.int v :: st) h nc ns → abW cc nL own ret ini d mc ms X out pc lv st0 h nc ns) (k4 : ∀ v, kc h b = some 4 → a4 = some v → abW cc nL own ret ini d mc ms X out (pc + 3) lv (.int v :: st) h nc ns → abW cc nL own ret ini d mc ms X out pc lv st0 h nc ns) (k5 : ∀ v, kc h b = some 5 → a5 = some v → abW cc nL own ret ini d mc ms X out (pc + 3) lv (.int v :: st) h nc ns → abW cc nL own ret ini d mc ms X out pc lv st0 h nc ns) (k7 : ∀ v, kc h b = some 7 → a7 = some v → abW cc nL own ret ini d mc ms X out (pc + 3) lv (.int v :: st) h nc ns → abW cc nL own ret ini d mc ms X out pc lv st0 h nc ns) (k10 : ∀ v, kc h b = some 10 → a10 = some v → abW cc nL own ret ini d mc ms X out (pc + 3) lv (.int v :: st) h nc ns → abW cc nL own ret ini d mc ms X out pc lv st0 h nc ns)
    (kk : ∀ v, K v = some z → abW cc nL own ret ini d mc ms X out (pc + 3) lv (.int v :: st) h nc ns) : abW cc nL own ret ini d mc ms X out pc lv st0 h nc ns := by
  obtain ⟨c, h0, hf⟩ := Option.bind_eq_some_iff.mp hf
  obtain ⟨v, h1, h2⟩ := Option.bind_eq_some_iff.mp hf
  simp only [dsp] at h1
  split at h1
  next q => subst q; exact k0 v h0 h1 (kk v h2)
  next =>
    split at h1
    next q => subst q; exact k4 v h0 h1 (kk v h2)
    next =>
      split at h1
      next q => subst q; exact k5 v h0 h1 (kk v h2)
      next =>
        split at h1
        next q => subst q; exact k7 v h0 h1 (kk v h2)
        next =>
          split at h1
          next q => subst q; exact k10 v h0 h1 (kk v h2)
          next => cases h1
end AB4
theorem tout_2 {x : Int32} (q0 : ¬ x = 0) (q1 : ¬ x = 1) (q2 : ¬ x = 2) : x.toInt < 0 ∨ 2 < x.toInt := by
  have r0 : ¬ x.toInt = 0 := fun e => q0 (Int32.toInt_inj.mp (by rw [e]; rfl))
  have r1 : ¬ x.toInt = 1 := fun e => q1 (Int32.toInt_inj.mp (by rw [e]; rfl))
  have r2 : ¬ x.toInt = 2 := fun e => q2 (Int32.toInt_inj.mp (by rw [e]; rfl))
  omega
theorem tout_3 {x : Int32} (q0 : ¬ x = 0) (q1 : ¬ x = 1) (q2 : ¬ x = 2) (q3 : ¬ x = 3) : x.toInt < 0 ∨ 3 < x.toInt := by
  have r0 : ¬ x.toInt = 0 := fun e => q0 (Int32.toInt_inj.mp (by rw [e]; rfl))
  have r1 : ¬ x.toInt = 1 := fun e => q1 (Int32.toInt_inj.mp (by rw [e]; rfl))
  have r2 : ¬ x.toInt = 2 := fun e => q2 (Int32.toInt_inj.mp (by rw [e]; rfl))
  have r3 : ¬ x.toInt = 3 := fun e => q3 (Int32.toInt_inj.mp (by rw [e]; rfl))
  omega
theorem tout_4 {x : Int32} (q0 : ¬ x = 0) (q1 : ¬ x = 1) (q2 : ¬ x = 2) (q3 : ¬ x = 3) (q4 : ¬ x = 4) : x.toInt < 0 ∨ 4 < x.toInt := by
  have r0 : ¬ x.toInt = 0 := fun e => q0 (Int32.toInt_inj.mp (by rw [e]; rfl))
  have r1 : ¬ x.toInt = 1 := fun e => q1 (Int32.toInt_inj.mp (by rw [e]; rfl))
  have r2 : ¬ x.toInt = 2 := fun e => q2 (Int32.toInt_inj.mp (by rw [e]; rfl))
  have r3 : ¬ x.toInt = 3 := fun e => q3 (Int32.toInt_inj.mp (by rw [e]; rfl))
  have r4 : ¬ x.toInt = 4 := fun e => q4 (Int32.toInt_inj.mp (by rw [e]; rfl))
  omega
theorem tout_5 {x : Int32} (q0 : ¬ x = 0) (q1 : ¬ x = 1) (q2 : ¬ x = 2) (q3 : ¬ x = 3) (q4 : ¬ x = 4) (q5 : ¬ x = 5) : x.toInt < 0 ∨ 5 < x.toInt := by
  have r0 : ¬ x.toInt = 0 := fun e => q0 (Int32.toInt_inj.mp (by rw [e]; rfl))
  have r1 : ¬ x.toInt = 1 := fun e => q1 (Int32.toInt_inj.mp (by rw [e]; rfl))
  have r2 : ¬ x.toInt = 2 := fun e => q2 (Int32.toInt_inj.mp (by rw [e]; rfl))
  have r3 : ¬ x.toInt = 3 := fun e => q3 (Int32.toInt_inj.mp (by rw [e]; rfl))
  have r4 : ¬ x.toInt = 4 := fun e => q4 (Int32.toInt_inj.mp (by rw [e]; rfl))
  have r5 : ¬ x.toInt = 5 := fun e => q5 (Int32.toInt_inj.mp (by rw [e]; rfl))
  omega
theorem tout_6 {x : Int32} (q0 : ¬ x = 0) (q1 : ¬ x = 1) (q2 : ¬ x = 2) (q3 : ¬ x = 3) (q4 : ¬ x = 4) (q5 : ¬ x = 5) (q6 : ¬ x = 6) : x.toInt < 0 ∨ 6 < x.toInt := by
  have r0 : ¬ x.toInt = 0 := fun e => q0 (Int32.toInt_inj.mp (by rw [e]; rfl))
  have r1 : ¬ x.toInt = 1 := fun e => q1 (Int32.toInt_inj.mp (by rw [e]; rfl))
  have r2 : ¬ x.toInt = 2 := fun e => q2 (Int32.toInt_inj.mp (by rw [e]; rfl))
  have r3 : ¬ x.toInt = 3 := fun e => q3 (Int32.toInt_inj.mp (by rw [e]; rfl))
  have r4 : ¬ x.toInt = 4 := fun e => q4 (Int32.toInt_inj.mp (by rw [e]; rfl))
  have r5 : ¬ x.toInt = 5 := fun e => q5 (Int32.toInt_inj.mp (by rw [e]; rfl))
  have r6 : ¬ x.toInt = 6 := fun e => q6 (Int32.toInt_inj.mp (by rw [e]; rfl))
  omega
theorem tout_10 {x : Int32} (q0 : ¬ x = 0) (q1 : ¬ x = 1) (q2 : ¬ x = 2) (q3 : ¬ x = 3) (q4 : ¬ x = 4) (q5 : ¬ x = 5) (q6 : ¬ x = 6) (q7 : ¬ x = 7) (q8 : ¬ x = 8) (q9 : ¬ x = 9) (q10 : ¬ x = 10) : x.toInt < 0 ∨ 10 < x.toInt := by
  have r0 : ¬ x.toInt = 0 := fun e => q0 (Int32.toInt_inj.mp (by rw [e]; rfl))
  have r1 : ¬ x.toInt = 1 := fun e => q1 (Int32.toInt_inj.mp (by rw [e]; rfl))
  have r2 : ¬ x.toInt = 2 := fun e => q2 (Int32.toInt_inj.mp (by rw [e]; rfl))
  have r3 : ¬ x.toInt = 3 := fun e => q3 (Int32.toInt_inj.mp (by rw [e]; rfl))
  have r4 : ¬ x.toInt = 4 := fun e => q4 (Int32.toInt_inj.mp (by rw [e]; rfl))
  have r5 : ¬ x.toInt = 5 := fun e => q5 (Int32.toInt_inj.mp (by rw [e]; rfl))
  have r6 : ¬ x.toInt = 6 := fun e => q6 (Int32.toInt_inj.mp (by rw [e]; rfl))
  have r7 : ¬ x.toInt = 7 := fun e => q7 (Int32.toInt_inj.mp (by rw [e]; rfl))
  have r8 : ¬ x.toInt = 8 := fun e => q8 (Int32.toInt_inj.mp (by rw [e]; rfl))
  have r9 : ¬ x.toInt = 9 := fun e => q9 (Int32.toInt_inj.mp (by rw [e]; rfl))
  have r10 : ¬ x.toInt = 10 := fun e => q10 (Int32.toInt_inj.mp (by rw [e]; rfl))
  omega
theorem tout_25 {x : Int32} (q0 : ¬ x = 0) (q1 : ¬ x = 1) (q2 : ¬ x = 2) (q3 : ¬ x = 3) (q4 : ¬ x = 4) (q5 : ¬ x = 5) (q6 : ¬ x = 6) (q7 : ¬ x = 7) (q8 : ¬ x = 8) (q9 : ¬ x = 9) (q10 : ¬ x = 10) (q11 : ¬ x = 11) (q12 : ¬ x = 12) (q13 : ¬ x = 13) (q14 : ¬ x = 14) (q15 : ¬ x = 15) (q16 : ¬ x = 16) (q17 : ¬ x = 17) (q18 : ¬ x = 18) (q19 : ¬ x = 19) (q20 : ¬ x = 20) (q21 : ¬ x = 21) (q22 : ¬ x = 22) (q23 : ¬ x = 23) (q24 : ¬ x = 24) (q25 : ¬ x = 25) : x.toInt < 0 ∨ 25 < x.toInt := by
  have r0 : ¬ x.toInt = 0 := fun e => q0 (Int32.toInt_inj.mp (by rw [e]; rfl))
  have r1 : ¬ x.toInt = 1 := fun e => q1 (Int32.toInt_inj.mp (by rw [e]; rfl))
  have r2 : ¬ x.toInt = 2 := fun e => q2 (Int32.toInt_inj.mp (by rw [e]; rfl))
  have r3 : ¬ x.toInt = 3 := fun e => q3 (Int32.toInt_inj.mp (by rw [e]; rfl))
  have r4 : ¬ x.toInt = 4 := fun e => q4 (Int32.toInt_inj.mp (by rw [e]; rfl))
  have r5 : ¬ x.toInt = 5 := fun e => q5 (Int32.toInt_inj.mp (by rw [e]; rfl))
  have r6 : ¬ x.toInt = 6 := fun e => q6 (Int32.toInt_inj.mp (by rw [e]; rfl))
  have r7 : ¬ x.toInt = 7 := fun e => q7 (Int32.toInt_inj.mp (by rw [e]; rfl))
  have r8 : ¬ x.toInt = 8 := fun e => q8 (Int32.toInt_inj.mp (by rw [e]; rfl))
  have r9 : ¬ x.toInt = 9 := fun e => q9 (Int32.toInt_inj.mp (by rw [e]; rfl))
  have r10 : ¬ x.toInt = 10 := fun e => q10 (Int32.toInt_inj.mp (by rw [e]; rfl))
  have r11 : ¬ x.toInt = 11 := fun e => q11 (Int32.toInt_inj.mp (by rw [e]; rfl))
  have r12 : ¬ x.toInt = 12 := fun e => q12 (Int32.toInt_inj.mp (by rw [e]; rfl))
  have r13 : ¬ x.toInt = 13 := fun e => q13 (Int32.toInt_inj.mp (by rw [e]; rfl))
  have r14 : ¬ x.toInt = 14 := fun e => q14 (Int32.toInt_inj.mp (by rw [e]; rfl))
  have r15 : ¬ x.toInt = 15 := fun e => q15 (Int32.toInt_inj.mp (by rw [e]; rfl))
  have r16 : ¬ x.toInt = 16 := fun e => q16 (Int32.toInt_inj.mp (by rw [e]; rfl))
  have r17 : ¬ x.toInt = 17 := fun e => q17 (Int32.toInt_inj.mp (by rw [e]; rfl))
  have r18 : ¬ x.toInt = 18 := fun e => q18 (Int32.toInt_inj.mp (by rw [e]; rfl))
  have r19 : ¬ x.toInt = 19 := fun e => q19 (Int32.toInt_inj.mp (by rw [e]; rfl))
  have r20 : ¬ x.toInt = 20 := fun e => q20 (Int32.toInt_inj.mp (by rw [e]; rfl))
  have r21 : ¬ x.toInt = 21 := fun e => q21 (Int32.toInt_inj.mp (by rw [e]; rfl))
  have r22 : ¬ x.toInt = 22 := fun e => q22 (Int32.toInt_inj.mp (by rw [e]; rfl))
  have r23 : ¬ x.toInt = 23 := fun e => q23 (Int32.toInt_inj.mp (by rw [e]; rfl))
  have r24 : ¬ x.toInt = 24 := fun e => q24 (Int32.toInt_inj.mp (by rw [e]; rfl))
  have r25 : ¬ x.toInt = 25 := fun e => q25 (Int32.toInt_inj.mp (by rw [e]; rfl))
  omega
theorem kic_m1 : Int32.ofInt (-1) = (-1) := by decide +kernel
theorem kic_0 : Int32.ofInt (0) = 0 := by decide +kernel
theorem kic_1 : Int32.ofInt (1) = 1 := by decide +kernel
theorem kic_2 : Int32.ofInt (2) = 2 := by decide +kernel
theorem kic_3 : Int32.ofInt (3) = 3 := by decide +kernel
theorem kic_4 : Int32.ofInt (4) = 4 := by decide +kernel
theorem kic_5 : Int32.ofInt (5) = 5 := by decide +kernel
theorem kbp_m104 : (Int8.ofInt (-104)).toInt32 = (-104) := by decide +kernel
theorem kbp_m103 : (Int8.ofInt (-103)).toInt32 = (-103) := by decide +kernel
theorem kbp_m102 : (Int8.ofInt (-102)).toInt32 = (-102) := by decide +kernel
theorem kbp_m101 : (Int8.ofInt (-101)).toInt32 = (-101) := by decide +kernel
theorem kbp_6 : (Int8.ofInt (6)).toInt32 = 6 := by decide +kernel
theorem kbp_7 : (Int8.ofInt (7)).toInt32 = 7 := by decide +kernel
theorem kbp_8 : (Int8.ofInt (8)).toInt32 = 8 := by decide +kernel
theorem kbp_9 : (Int8.ofInt (9)).toInt32 = 9 := by decide +kernel
theorem kbp_10 : (Int8.ofInt (10)).toInt32 = 10 := by decide +kernel
theorem kbp_11 : (Int8.ofInt (11)).toInt32 = 11 := by decide +kernel
theorem kbp_12 : (Int8.ofInt (12)).toInt32 = 12 := by decide +kernel
theorem kbp_13 : (Int8.ofInt (13)).toInt32 = 13 := by decide +kernel
theorem kbp_14 : (Int8.ofInt (14)).toInt32 = 14 := by decide +kernel
theorem kbp_15 : (Int8.ofInt (15)).toInt32 = 15 := by decide +kernel
theorem kbp_16 : (Int8.ofInt (16)).toInt32 = 16 := by decide +kernel
theorem kbp_20 : (Int8.ofInt (20)).toInt32 = 20 := by decide +kernel
theorem kbp_25 : (Int8.ofInt (25)).toInt32 = 25 := by decide +kernel
theorem kbp_30 : (Int8.ofInt (30)).toInt32 = 30 := by decide +kernel
theorem kbp_31 : (Int8.ofInt (31)).toInt32 = 31 := by decide +kernel
theorem kbp_32 : (Int8.ofInt (32)).toInt32 = 32 := by decide +kernel
theorem kbp_34 : (Int8.ofInt (34)).toInt32 = 34 := by decide +kernel
theorem kbp_44 : (Int8.ofInt (44)).toInt32 = 44 := by decide +kernel
theorem kbp_48 : (Int8.ofInt (48)).toInt32 = 48 := by decide +kernel
theorem kbp_49 : (Int8.ofInt (49)).toInt32 = 49 := by decide +kernel
theorem kbp_57 : (Int8.ofInt (57)).toInt32 = 57 := by decide +kernel
theorem kbp_59 : (Int8.ofInt (59)).toInt32 = 59 := by decide +kernel
theorem kbp_60 : (Int8.ofInt (60)).toInt32 = 60 := by decide +kernel
theorem kbp_63 : (Int8.ofInt (63)).toInt32 = 63 := by decide +kernel
theorem kbp_97 : (Int8.ofInt (97)).toInt32 = 97 := by decide +kernel
theorem kbp_99 : (Int8.ofInt (99)).toInt32 = 99 := by decide +kernel
theorem kbp_100 : (Int8.ofInt (100)).toInt32 = 100 := by decide +kernel
theorem kbp_101 : (Int8.ofInt (101)).toInt32 = 101 := by decide +kernel
theorem kbp_126 : (Int8.ofInt (126)).toInt32 = 126 := by decide +kernel
theorem ksp_m500 : (Int16.ofInt (-500)).toInt32 = (-500) := by decide +kernel
theorem ksp_500 : (Int16.ofInt (500)).toInt32 = 500 := by decide +kernel
theorem ksp_1023 : (Int16.ofInt (1023)).toInt32 = 1023 := by decide +kernel
theorem ksp_1000 : (Int16.ofInt (1000)).toInt32 = 1000 := by decide +kernel
theorem ksp_255 : (Int16.ofInt (255)).toInt32 = 255 := by decide +kernel
theorem ksp_128 : (Int16.ofInt (128)).toInt32 = 128 := by decide +kernel
theorem kinc_1 (x : Int32) : x + Int32.ofInt (1) = x + 1 := by rw [show Int32.ofInt (1) = 1 from by decide +kernel]
theorem kinc_m1 (x : Int32) : x + Int32.ofInt (-1) = x + (-1) := by rw [show Int32.ofInt (-1) = (-1) from by decide +kernel]
theorem kinc_6 (x : Int32) : x + Int32.ofInt (6) = x + 6 := by rw [show Int32.ofInt (6) = 6 from by decide +kernel]
theorem kinc_2 (x : Int32) : x + Int32.ofInt (2) = x + 2 := by rw [show Int32.ofInt (2) = 2 from by decide +kernel]
theorem kinc_3 (x : Int32) : x + Int32.ofInt (3) = x + 3 := by rw [show Int32.ofInt (3) = 3 from by decide +kernel]
