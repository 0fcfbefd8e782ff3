/-! THE LAYER: fields that a KIND object has from the class above, whichever KIND it is -/
def gK (h : abH) (a k : Nat) : Option Int32 := (kc h a).bind fun c => if isKd c = true then gI c h a k else none
def sK (h : abH) (a k : Nat) (v : Value) : Option abH := (kc h a).bind fun c => if isKd c = true then sV c h a k v else none
theorem kd_all {P : Nat → Prop} (h0 : P 0) (h4 : P 4) (h5 : P 5) (h7 : P 7) (h10 : P 10) (c : Nat) (hc : isKd c = true) : P c := by
  rcases abKd hc with rfl | rfl | rfl | rfl | rfl <;> assumption
section AB5
variable {cc : ByteArray} {nL : Nat} {own : String} {ret : Option FieldType} {ini : Bool} {d mc ms : Nat} {X : abX} {out : Option Value × abH} {pc : Nat} {lv : List (Option Value)} {st : List Value} {h : abH} {nc ns : Nat} {ζ : Type} {z : ζ} {idx : Nat}
theorem f_getK {k a : Nat} {K : Int32 → Option ζ} (hs : ∀ c, isKd c = true → abFs own idx c k) (hd : decode cc pc = .ok (.getfield idx, 3)) (hf : (gK h a k).bind K = some z) (kk : ∀ v, K v = some z → abW cc nL own ret ini d mc ms X out (pc + 3) lv (.int v :: st) h nc ns) : abW cc nL own ret ini d mc ms X out pc lv (.ref a :: st) h nc ns := by
  obtain ⟨v, h1, h2⟩ := Option.bind_eq_some_iff.mp hf
  obtain ⟨c, h3, h4⟩ := Option.bind_eq_some_iff.mp h1
  split at h4
  next hi => exact ab_getI (hs c hi) h4 hd (kk v h2)
  next => cases h4
theorem f_putK {k a : Nat} {ty : FieldType} {v : Value} {K : abH → Option ζ} (hs : ∀ c, isKd c = true → abFp own idx c k ty true) (hin : ini = true) (hv : abFit ty v) (hd : decode cc pc = .ok (.putfield idx, 3)) (hf : (sK h a k v).bind K = some z) (kk : ∀ h', K h' = some z → abW cc nL own ret ini d mc ms X out (pc + 3) lv st h' nc ns) : abW cc nL own ret ini d mc ms X out pc lv (v :: .ref a :: st) h nc ns := by
  obtain ⟨h', h1, h2⟩ := Option.bind_eq_some_iff.mp hf
  obtain ⟨c, h3, h4⟩ := Option.bind_eq_some_iff.mp h1
  split at h4
  next hi => exact ab_putF (hs c hi) hin hv h4 hd (kk h' h2)
  next => cases h4
end AB5
