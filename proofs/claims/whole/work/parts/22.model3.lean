def F_X12_layGood_B19 (x0 : Nat) (x1 : Int32) (k2 : Int32 → abH → Option abH) : Nat → Int32 → abH → Option abH
  | 0, _, _ => none
  | n + 1, x2, h =>
    if x2 < 13 then
      (gR 12 h x0 22).bind fun v4 =>
      (ga 0 h v4 x1).bind fun v5 =>
      (gR 12 h x0 9).bind fun v6 =>
      (ga 0 h v6 x1).bind fun v7 =>
      (gR 12 h x0 10).bind fun v8 =>
      (ga 0 h v8 x1).bind fun v9 =>
      (ko 12 h x0).bind fun _ => (F_X12_foundIn x0 v7 v9 x2 h).bind fun v10 =>
      if v10 ≤ 0 then
        (sa 0 h v4 x1 (v5 ||| 0)).bind fun h11 =>
        F_X12_layGood_B19 x0 x1 k2 n (x2 + 1) h11
      else
        (sa 0 h v4 x1 (v5 ||| ((1 : Int32) <<< (x2 &&& 31)))).bind fun h12 =>
        F_X12_layGood_B19 x0 x1 k2 n (x2 + 1) h12
    else
      k2 (x1 + 1) h
theorem w_X12_layGood_B19 {hz : abH} (x0 : Nat) (x1 : Int32) (k2 : Int32 → abH → Option abH) (hk2 : ∀ (w1 : Int32) (hw : abH), k2 w1 hw = some hz → abW cX12_layGood 3 RX12 none false 6 0 0 none (none, hz) 2 [some (.ref x0), some (.int w1), none] [] hw 0 0) : ∀ (n : Nat) (x2 : Int32) (h : abH), F_X12_layGood_B19 x0 x1 k2 n x2 h = some hz → abW cX12_layGood 3 RX12 none false 6 0 0 none (none, hz) 19 [some (.ref x0), some (.int x1), some (.int x2)] [] h 0 0 := by
  intro n
  induction n with
  | zero =>
    intro x2 h hf
    exact absurd (show (none : Option abH) = some _ from hf) (by simp)
  | succ n ih =>
    intro x2 h hf
    rw [F_X12_layGood_B19.eq_2] at hf
    refine ab_iload_n 2 dX12_layGood_19 rfl rfl ?_
    refine ab_bipush dX12_layGood_20 kbp_13 ?_
    refine ab_icmp_ge 67 dX12_layGood_22 (by decide) hf (fun hf => ?_) (fun hf => ?_)
    · refine ab_aload_n 0 dX12_layGood_25 rfl rfl ?_
      refine f_getR fs_X12_50 dX12_layGood_26 hf (fun v4 hf => ?_)
      refine ab_iload_n 1 dX12_layGood_29 rfl rfl ?_
      refine ab_dup2 dX12_layGood_30 rfl rfl ?_
      refine f_iald dX12_layGood_31 hf (fun v5 hf => ?_)
      refine ab_aload_n 0 dX12_layGood_32 rfl rfl ?_
      refine ab_aload_n 0 dX12_layGood_33 rfl rfl ?_
      refine f_getR fs_X12_22 dX12_layGood_34 hf (fun v6 hf => ?_)
      refine ab_iload_n 1 dX12_layGood_37 rfl rfl ?_
      refine f_iald dX12_layGood_38 hf (fun v7 hf => ?_)
      refine ab_aload_n 0 dX12_layGood_39 rfl rfl ?_
      refine f_getR fs_X12_25 dX12_layGood_40 hf (fun v8 hf => ?_)
      refine ab_iload_n 1 dX12_layGood_43 rfl rfl ?_
      refine f_iald dX12_layGood_44 hf (fun v9 hf => ?_)
      refine ab_iload_n 2 dX12_layGood_45 rfl rfl ?_
      refine f_V_i (As := [.int v7, .int v9, .int x2]) (st := [.int v5, .int x1, .ref v4]) cs_X12_186 (fun v q => m_X12_foundIn x0 v7 v9 x2 h q) rfl rfl dX12_layGood_46 (rmk rfl) hf (fun v10 hf => ?_)
      refine ab_if_le 58 dX12_layGood_49 (by decide) hf (fun hf => ?_) (fun hf => ?_)
      · refine ab_iconst dX12_layGood_58 kic_0 ?_
        refine ab_ior dX12_layGood_59 ?_
        refine f_iast dX12_layGood_60 hf (fun h11 hf => ?_)
        refine ab_iinc (v := x2 + 1) [some (.ref x0), some (.int x1), some (.int (x2 + 1))] dX12_layGood_61 rfl (kinc_1 _) (by decide) rfl rfl ?_
        refine ab_goto 19 dX12_layGood_64 (by decide) ?_
        exact ab_msk [true, true, true] (ih (x2 + 1) h11 hf)
      refine ab_iconst dX12_layGood_52 kic_1 ?_
      refine ab_iload_n 2 dX12_layGood_53 rfl rfl ?_
      refine ab_ishl dX12_layGood_54 ?_
      refine ab_goto 59 dX12_layGood_55 (by decide) ?_
      refine ab_ior dX12_layGood_59 ?_
      refine f_iast dX12_layGood_60 hf (fun h12 hf => ?_)
      refine ab_iinc (v := x2 + 1) [some (.ref x0), some (.int x1), some (.int (x2 + 1))] dX12_layGood_61 rfl (kinc_1 _) (by decide) rfl rfl ?_
      refine ab_goto 19 dX12_layGood_64 (by decide) ?_
      exact ab_msk [true, true, true] (ih (x2 + 1) h12 hf)
    refine ab_iinc (v := x1 + 1) [some (.ref x0), some (.int (x1 + 1)), some (.int x2)] dX12_layGood_67 rfl (kinc_1 _) (by decide) rfl rfl ?_
    refine ab_goto 2 dX12_layGood_70 (by decide) ?_
    exact ab_msk [true, true, false] (hk2 (x1 + 1) h hf)
def F_X12_layGood_B2 (x0 : Nat) : Nat → Int32 → abH → Option abH
  | 0, _, _ => none
  | n + 1, x1, h =>
    (gI 12 h x0 8).bind fun v1 =>
    if x1 < v1 then
      (gR 12 h x0 22).bind fun v2 =>
      (sa 0 h v2 x1 0).bind fun h3 =>
      F_X12_layGood_B19 x0 x1 (fun u1 hu => F_X12_layGood_B2 x0 n u1 hu) 200 0 h3
    else
      some h
theorem w_X12_layGood_B2 {hz : abH} (x0 : Nat)   : ∀ (n : Nat) (x1 : Int32) (h : abH), F_X12_layGood_B2 x0 n x1 h = some hz → abW cX12_layGood 3 RX12 none false 6 0 0 none (none, hz) 2 [some (.ref x0), some (.int x1), none] [] h 0 0 := by
  intro n
  induction n with
  | zero =>
    intro x1 h hf
    exact absurd (show (none : Option abH) = some _ from hf) (by simp)
  | succ n ih =>
    intro x1 h hf
    rw [F_X12_layGood_B2.eq_2] at hf
    refine ab_iload_n 1 dX12_layGood_2 rfl rfl ?_
    refine ab_aload_n 0 dX12_layGood_3 rfl rfl ?_
    refine f_getI fs_X12_125 dX12_layGood_4 hf (fun v1 hf => ?_)
    refine ab_icmp_ge 73 dX12_layGood_7 (by decide) hf (fun hf => ?_) (fun hf => ?_)
    · refine ab_aload_n 0 dX12_layGood_10 rfl rfl ?_
      refine f_getR fs_X12_50 dX12_layGood_11 hf (fun v2 hf => ?_)
      refine ab_iload_n 1 dX12_layGood_14 rfl rfl ?_
      refine ab_iconst dX12_layGood_15 kic_0 ?_
      refine f_iast dX12_layGood_16 hf (fun h3 hf => ?_)
      refine ab_iconst dX12_layGood_17 kic_0 ?_
      refine ab_istore_n 2 [some (.ref x0), some (.int x1), some (.int 0)] dX12_layGood_18 rfl (by decide) rfl rfl ?_
      exact ab_msk [true, true, true] (w_X12_layGood_B19 x0 x1 (fun u1 hu => F_X12_layGood_B2 x0 n u1 hu) (fun u1 hu hf => ih u1 hu hf) 200 0 h3 hf)
    exact f_retv2 dX12_layGood_73 rfl (Nat.le_refl 0) (Nat.le_refl 0) hf
def F_X12_layGood (a0 : Nat) (h : abH) : Option abH :=
  F_X12_layGood_B2 a0 200 0 h
theorem m_X12_layGood {hz : abH} (a0 : Nat) (h : abH) (hf : F_X12_layGood a0 h = some hz) : abM yX12_layGood cX12_layGood 3 none 6 0 0 [.ref a0] h none hz := by
  refine abM_of (ini := false) [some (.ref a0), none, none] (by decide +kernel) (fun q => by first | rfl | cases q) (Nat.le_of_ble_eq_true rfl) rfl ?_
  unfold F_X12_layGood at hf
  refine ab_iconst dX12_layGood_0 kic_0 ?_
  refine ab_istore_n 1 [some (.ref a0), some (.int 0), none] dX12_layGood_1 rfl (by decide) rfl rfl ?_
  exact ab_msk [true, true, true] (w_X12_layGood_B2 a0 200 0 h hf)
def F_X12_hoursFor_B5 (x0 : Nat) (x1 : Int32) (x2 : Int32) (h : abH) : Nat → Int32 → Int32 → Option Int32
  | 0, _, _ => none
  | n + 1, x3, x4 =>
    (gI 12 h x0 8).bind fun v1 =>
    if x4 < v1 then
      (F_X12_isIn x1 x4).bind fun v3 =>
      if v3 = 0 then
        nm (x3 ||| 0) fun v4 =>
        F_X12_hoursFor_B5 x0 x1 x2 h n v4 (x4 + 1)
      else
        (gR 12 h x0 22).bind fun v5 =>
        (ga 0 h v5 x4).bind fun v6 =>
        nm (x3 ||| v6) fun v7 =>
        F_X12_hoursFor_B5 x0 x1 x2 h n v7 (x4 + 1)
    else
      (F_X12_size (x3 &&& (x2 ^^^ (-1)))).bind fun v2 =>
      some v2
theorem w_X12_hoursFor_B5 {z0 : Int32} (x0 : Nat) (x1 : Int32) (x2 : Int32) (h : abH)   : ∀ (n : Nat) (x3 : Int32) (x4 : Int32), F_X12_hoursFor_B5 x0 x1 x2 h n x3 x4 = some z0 → abW cX12_hoursFor 5 RX12 (some .int) false 2 0 0 none (some (.int z0), h) 5 [some (.ref x0), some (.int x1), some (.int x2), some (.int x3), some (.int x4)] [] h 0 0 := by
  intro n
  induction n with
  | zero =>
    intro x3 x4 hf
    exact absurd (show (none : Option Int32) = some _ from hf) (by simp)
  | succ n ih =>
    intro x3 x4 hf
    rw [F_X12_hoursFor_B5.eq_2] at hf
    refine ab_iload dX12_hoursFor_5 rfl ?_
    refine ab_aload_n 0 dX12_hoursFor_7 rfl rfl ?_
    refine f_getI fs_X12_125 dX12_hoursFor_8 hf (fun v1 hf => ?_)
    refine ab_icmp_ge 43 dX12_hoursFor_11 (by decide) hf (fun hf => ?_) (fun hf => ?_)
    · refine ab_iload_n 3 dX12_hoursFor_14 rfl rfl ?_
      refine ab_iload_n 1 dX12_hoursFor_15 rfl rfl ?_
      refine ab_iload dX12_hoursFor_16 rfl ?_
      refine f_S_i (As := [.int x1, .int x4]) (st := [.int x3]) cs_X12_156 (fun v q => m_X12_isIn x1 x4 h q) rfl rfl dX12_hoursFor_18 (rmk rfl) hf (fun v3 hf => ?_)
      refine ab_if_eq 34 dX12_hoursFor_21 (by decide) hf (fun hf => ?_) (fun hf => ?_)
      · refine ab_iconst dX12_hoursFor_34 kic_0 ?_
        refine ab_ior dX12_hoursFor_35 ?_
        refine ab_nmi hf (fun v4 hf => ?_)
        refine ab_istore_n 3 [some (.ref x0), some (.int x1), some (.int x2), some (.int v4), some (.int x4)] dX12_hoursFor_36 rfl (by decide) rfl rfl ?_
        refine ab_iinc (v := x4 + 1) [some (.ref x0), some (.int x1), some (.int x2), some (.int v4), some (.int (x4 + 1))] dX12_hoursFor_37 rfl (kinc_1 _) (by decide) rfl rfl ?_
        refine ab_goto 5 dX12_hoursFor_40 (by decide) ?_
        exact ab_msk [true, true, true, true, true] (ih v4 (x4 + 1) hf)
      refine ab_aload_n 0 dX12_hoursFor_24 rfl rfl ?_
      refine f_getR fs_X12_50 dX12_hoursFor_25 hf (fun v5 hf => ?_)
      refine ab_iload dX12_hoursFor_28 rfl ?_
      refine f_iald dX12_hoursFor_30 hf (fun v6 hf => ?_)
      refine ab_goto 35 dX12_hoursFor_31 (by decide) ?_
      refine ab_ior dX12_hoursFor_35 ?_
      refine ab_nmi hf (fun v7 hf => ?_)
      refine ab_istore_n 3 [some (.ref x0), some (.int x1), some (.int x2), some (.int v7), some (.int x4)] dX12_hoursFor_36 rfl (by decide) rfl rfl ?_
      refine ab_iinc (v := x4 + 1) [some (.ref x0), some (.int x1), some (.int x2), some (.int v7), some (.int (x4 + 1))] dX12_hoursFor_37 rfl (kinc_1 _) (by decide) rfl rfl ?_
      refine ab_goto 5 dX12_hoursFor_40 (by decide) ?_
      exact ab_msk [true, true, true, true, true] (ih v7 (x4 + 1) hf)
    refine ab_iload_n 3 dX12_hoursFor_43 rfl rfl ?_
    refine ab_iload_n 2 dX12_hoursFor_44 rfl rfl ?_
    refine ab_iconst dX12_hoursFor_45 kic_m1 ?_
    refine ab_ixor dX12_hoursFor_46 ?_
    refine ab_iand dX12_hoursFor_47 ?_
    refine f_S_i (As := [.int (x3 &&& (x2 ^^^ (-1)))]) (st := []) cs_X12_212 (fun v q => m_X12_size (x3 &&& (x2 ^^^ (-1))) h q) rfl rfl dX12_hoursFor_48 (rmk rfl) hf (fun v2 hf => ?_)
    exact f_reti dX12_hoursFor_51 rfl (Nat.le_refl 0) (Nat.le_refl 0) hf
def F_X12_hoursFor (a0 : Nat) (a1 : Int32) (a2 : Int32) (h : abH) : Option Int32 :=
  F_X12_hoursFor_B5 a0 a1 a2 h 200 0 0
theorem m_X12_hoursFor {z0 : Int32} (a0 : Nat) (a1 : Int32) (a2 : Int32) (h : abH) (hf : F_X12_hoursFor a0 a1 a2 h = some z0) : abM yX12_hoursFor cX12_hoursFor 5 (some .int) 2 0 0 [.ref a0, .int a1, .int a2] h (some (.int z0)) h := by
  refine abM_of (ini := false) [some (.ref a0), some (.int a1), some (.int a2), none, none] (by decide +kernel) (fun q => by first | rfl | cases q) (Nat.le_of_ble_eq_true rfl) rfl ?_
  unfold F_X12_hoursFor at hf
  refine ab_iconst dX12_hoursFor_0 kic_0 ?_
  refine ab_istore_n 3 [some (.ref a0), some (.int a1), some (.int a2), some (.int 0), none] dX12_hoursFor_1 rfl (by decide) rfl rfl ?_
  refine ab_iconst dX12_hoursFor_2 kic_0 ?_
  refine ab_istore [some (.ref a0), some (.int a1), some (.int a2), some (.int 0), some (.int 0)] dX12_hoursFor_3 (by decide) rfl rfl ?_
  exact ab_msk [true, true, true, true, true] (w_X12_hoursFor_B5 a0 a1 a2 h 200 0 0 hf)
def F_X12_canBe_B34 (x0 : Nat) (x1 : Int32) (x2 : Int32) (x4 : Int32) (y0 : Int32) (h : abH) (k5 : Int32 → Int32 → Option Int32) : Option Int32 :=
  nm ((x4 - 1) &&& x1) fun v1 =>
  k5 y0 v1
theorem w_X12_canBe_B34 {z0 : Int32} (x0 : Nat) (x1 : Int32) (x2 : Int32) (x4 : Int32) (y0 : Int32) (h : abH) (k5 : Int32 → Int32 → Option Int32) (hk5 : ∀ (w3 : Int32) (w4 : Int32), k5 w3 w4 = some z0 → abW cX12_canBe 5 RX12 (some .boolean) false 3 0 0 none (some (.int z0), h) 5 [some (.ref x0), some (.int x1), some (.int x2), some (.int w3), some (.int w4)] [] h 0 0) (hf : F_X12_canBe_B34 x0 x1 x2 x4 y0 h k5 = some z0) : abW cX12_canBe 5 RX12 (some .boolean) false 3 0 0 none (some (.int z0), h) 34 [some (.ref x0), some (.int x1), some (.int x2), none, some (.int x4)] [.int y0] h 0 0 := by
  unfold F_X12_canBe_B34 at hf
  refine ab_istore_n 3 [some (.ref x0), some (.int x1), some (.int x2), some (.int y0), some (.int x4)] dX12_canBe_34 rfl (by decide) rfl rfl ?_
  refine ab_iload dX12_canBe_35 rfl ?_
  refine ab_iconst dX12_canBe_37 kic_1 ?_
  refine ab_isub dX12_canBe_38 ?_
  refine ab_iload_n 1 dX12_canBe_39 rfl rfl ?_
  refine ab_iand dX12_canBe_40 ?_
  refine ab_nmi hf (fun v1 hf => ?_)
  refine ab_istore [some (.ref x0), some (.int x1), some (.int x2), some (.int y0), some (.int v1)] dX12_canBe_41 (by decide) rfl rfl ?_
  refine ab_goto 5 dX12_canBe_43 (by decide) ?_
  exact ab_msk [true, true, true, true, true] (hk5 y0 v1 hf)
def F_X12_canBe_B5 (x0 : Nat) (x1 : Int32) (x2 : Int32) (h : abH) : Nat → Int32 → Int32 → Option Int32
  | 0, _, _ => none
  | n + 1, x3, x4 =>
    if x4 ≤ 0 then
      rz x3
    else
      if x3 = 0 then
        F_X12_canBe_B34 x0 x1 x2 x4 0 h (fun u3 u4 => F_X12_canBe_B5 x0 x1 x2 h n u3 u4)
      else
        (ko 12 h x0).bind fun _ => (F_X12_hoursFor x0 x4 x2 h).bind fun v2 =>
        (F_X12_size x4).bind fun v3 =>
        if v2 < v3 then
          F_X12_canBe_B34 x0 x1 x2 x4 0 h (fun u3 u4 => F_X12_canBe_B5 x0 x1 x2 h n u3 u4)
        else
          F_X12_canBe_B34 x0 x1 x2 x4 1 h (fun u3 u4 => F_X12_canBe_B5 x0 x1 x2 h n u3 u4)
theorem w_X12_canBe_B5 {z0 : Int32} (x0 : Nat) (x1 : Int32) (x2 : Int32) (h : abH)   : ∀ (n : Nat) (x3 : Int32) (x4 : Int32), F_X12_canBe_B5 x0 x1 x2 h n x3 x4 = some z0 → abW cX12_canBe 5 RX12 (some .boolean) false 3 0 0 none (some (.int z0), h) 5 [some (.ref x0), some (.int x1), some (.int x2), some (.int x3), some (.int x4)] [] h 0 0 := by
  intro n
  induction n with
  | zero =>
    intro x3 x4 hf
    exact absurd (show (none : Option Int32) = some _ from hf) (by simp)
  | succ n ih =>
    intro x3 x4 hf
    rw [F_X12_canBe_B5.eq_2] at hf
    refine ab_iload dX12_canBe_5 rfl ?_
    refine ab_if_le 46 dX12_canBe_7 (by decide) hf (fun hf => ?_) (fun hf => ?_)
    · refine ab_iload_n 3 dX12_canBe_46 rfl rfl ?_
      exact f_retz dX12_canBe_47 rfl (Nat.le_refl 0) (Nat.le_refl 0) hf
    refine ab_iload_n 3 dX12_canBe_10 rfl rfl ?_
    refine ab_if_eq 33 dX12_canBe_11 (by decide) hf (fun hf => ?_) (fun hf => ?_)
    · refine ab_iconst dX12_canBe_33 kic_0 ?_
      exact ab_msk [true, true, true, false, true] (w_X12_canBe_B34 x0 x1 x2 x4 0 h (fun u3 u4 => F_X12_canBe_B5 x0 x1 x2 h n u3 u4) (fun u3 u4 hf => ih u3 u4 hf) hf)
    refine ab_aload_n 0 dX12_canBe_14 rfl rfl ?_
    refine ab_iload dX12_canBe_15 rfl ?_
    refine ab_iload_n 2 dX12_canBe_17 rfl rfl ?_
    refine f_V_i (As := [.int x4, .int x2]) (st := []) cs_X12_215 (fun v q => m_X12_hoursFor x0 x4 x2 h q) rfl rfl dX12_canBe_18 (rmk rfl) hf (fun v2 hf => ?_)
    refine ab_iload dX12_canBe_21 rfl ?_
    refine f_S_i (As := [.int x4]) (st := [.int v2]) cs_X12_212 (fun v q => m_X12_size x4 h q) rfl rfl dX12_canBe_23 (rmk rfl) hf (fun v3 hf => ?_)
    refine ab_icmp_lt 33 dX12_canBe_26 (by decide) hf (fun hf => ?_) (fun hf => ?_)
    · refine ab_iconst dX12_canBe_33 kic_0 ?_
      exact ab_msk [true, true, true, false, true] (w_X12_canBe_B34 x0 x1 x2 x4 0 h (fun u3 u4 => F_X12_canBe_B5 x0 x1 x2 h n u3 u4) (fun u3 u4 hf => ih u3 u4 hf) hf)
    refine ab_iconst dX12_canBe_29 kic_1 ?_
    refine ab_goto 34 dX12_canBe_30 (by decide) ?_
    exact ab_msk [true, true, true, false, true] (w_X12_canBe_B34 x0 x1 x2 x4 1 h (fun u3 u4 => F_X12_canBe_B5 x0 x1 x2 h n u3 u4) (fun u3 u4 hf => ih u3 u4 hf) hf)
def F_X12_canBe (a0 : Nat) (a1 : Int32) (a2 : Int32) (h : abH) : Option Int32 :=
  F_X12_canBe_B5 a0 a1 a2 h 200 1 a1
theorem m_X12_canBe {z0 : Int32} (a0 : Nat) (a1 : Int32) (a2 : Int32) (h : abH) (hf : F_X12_canBe a0 a1 a2 h = some z0) : abM yX12_canBe cX12_canBe 5 (some .boolean) 3 0 0 [.ref a0, .int a1, .int a2] h (some (.int z0)) h := by
  refine abM_of (ini := false) [some (.ref a0), some (.int a1), some (.int a2), none, none] (by decide +kernel) (fun q => by first | rfl | cases q) (Nat.le_of_ble_eq_true rfl) rfl ?_
  unfold F_X12_canBe at hf
  refine ab_iconst dX12_canBe_0 kic_1 ?_
  refine ab_istore_n 3 [some (.ref a0), some (.int a1), some (.int a2), some (.int 1), none] dX12_canBe_1 rfl (by decide) rfl rfl ?_
  refine ab_iload_n 1 dX12_canBe_2 rfl rfl ?_
  refine ab_istore [some (.ref a0), some (.int a1), some (.int a2), some (.int 1), some (.int a1)] dX12_canBe_3 (by decide) rfl rfl ?_
  exact ab_msk [true, true, true, true, true] (w_X12_canBe_B5 a0 a1 a2 h 200 1 a1 hf)
def F_X12_restFrom_B32 (x0 : Nat) (x1 : Int32) (x2 : Int32) (x3 : Int32) (x4 : Int32) (y0 : Int32) (h : abH) (k5 : Int32 → Int32 → Option Int32) : Option Int32 :=
  if y0 = 0 then
    k5 x3 (x4 + 1)
  else
    (F_X12_size x4).bind fun v2 =>
    if v2 ≤ x3 then
      k5 x3 (x4 + 1)
    else
      (ko 12 h x0).bind fun _ => (F_X12_canBe x0 x4 x2 h).bind fun v3 =>
      if v3 = 0 then
        k5 x3 (x4 + 1)
      else
        (F_X12_size x4).bind fun v4 =>
        k5 v4 (x4 + 1)
theorem w_X12_restFrom_B32 {z0 : Int32} (x0 : Nat) (x1 : Int32) (x2 : Int32) (x3 : Int32) (x4 : Int32) (y0 : Int32) (h : abH) (k5 : Int32 → Int32 → Option Int32) (hk5 : ∀ (w3 : Int32) (w4 : Int32), k5 w3 w4 = some z0 → abW cX12_restFrom 6 RX12 (some .int) false 4 0 0 none (some (.int z0), h) 5 [some (.ref x0), some (.int x1), some (.int x2), some (.int w3), some (.int w4), none] [] h 0 0) (hf : F_X12_restFrom_B32 x0 x1 x2 x3 x4 y0 h k5 = some z0) : abW cX12_restFrom 6 RX12 (some .int) false 4 0 0 none (some (.int z0), h) 32 [some (.ref x0), some (.int x1), some (.int x2), some (.int x3), some (.int x4), none] [.int y0] h 0 0 := by
  unfold F_X12_restFrom_B32 at hf
  refine ab_istore [some (.ref x0), some (.int x1), some (.int x2), some (.int x3), some (.int x4), some (.int y0)] dX12_restFrom_32 (by decide) rfl rfl ?_
  refine ab_iload dX12_restFrom_34 rfl ?_
  refine ab_if_eq 66 dX12_restFrom_36 (by decide) hf (fun hf => ?_) (fun hf => ?_)
  · refine ab_iload_n 3 dX12_restFrom_66 rfl rfl ?_
    refine ab_istore_n 3 [some (.ref x0), some (.int x1), some (.int x2), some (.int x3), some (.int x4), some (.int y0)] dX12_restFrom_67 rfl (by decide) rfl rfl ?_
    refine ab_iinc (v := x4 + 1) [some (.ref x0), some (.int x1), some (.int x2), some (.int x3), some (.int (x4 + 1)), some (.int y0)] dX12_restFrom_68 rfl (kinc_1 _) (by decide) rfl rfl ?_
    refine ab_goto 5 dX12_restFrom_71 (by decide) ?_
    exact ab_msk [true, true, true, true, true, false] (hk5 x3 (x4 + 1) hf)
  refine ab_iload dX12_restFrom_39 rfl ?_
  refine f_S_i (As := [.int x4]) (st := []) cs_X12_212 (fun v q => m_X12_size x4 h q) rfl rfl dX12_restFrom_41 (rmk rfl) hf (fun v2 hf => ?_)
  refine ab_iload_n 3 dX12_restFrom_44 rfl rfl ?_
  refine ab_icmp_le 66 dX12_restFrom_45 (by decide) hf (fun hf => ?_) (fun hf => ?_)
  · refine ab_iload_n 3 dX12_restFrom_66 rfl rfl ?_
    refine ab_istore_n 3 [some (.ref x0), some (.int x1), some (.int x2), some (.int x3), some (.int x4), some (.int y0)] dX12_restFrom_67 rfl (by decide) rfl rfl ?_
    refine ab_iinc (v := x4 + 1) [some (.ref x0), some (.int x1), some (.int x2), some (.int x3), some (.int (x4 + 1)), some (.int y0)] dX12_restFrom_68 rfl (kinc_1 _) (by decide) rfl rfl ?_
    refine ab_goto 5 dX12_restFrom_71 (by decide) ?_
    exact ab_msk [true, true, true, true, true, false] (hk5 x3 (x4 + 1) hf)
  refine ab_aload_n 0 dX12_restFrom_48 rfl rfl ?_
  refine ab_iload dX12_restFrom_49 rfl ?_
  refine ab_iload_n 2 dX12_restFrom_51 rfl rfl ?_
  refine f_V_i (As := [.int x4, .int x2]) (st := []) cs_X12_218 (fun v q => m_X12_canBe x0 x4 x2 h q) rfl rfl dX12_restFrom_52 (rmk rfl) hf (fun v3 hf => ?_)
  refine ab_if_eq 66 dX12_restFrom_55 (by decide) hf (fun hf => ?_) (fun hf => ?_)
  · refine ab_iload_n 3 dX12_restFrom_66 rfl rfl ?_
    refine ab_istore_n 3 [some (.ref x0), some (.int x1), some (.int x2), some (.int x3), some (.int x4), some (.int y0)] dX12_restFrom_67 rfl (by decide) rfl rfl ?_
    refine ab_iinc (v := x4 + 1) [some (.ref x0), some (.int x1), some (.int x2), some (.int x3), some (.int (x4 + 1)), some (.int y0)] dX12_restFrom_68 rfl (kinc_1 _) (by decide) rfl rfl ?_
    refine ab_goto 5 dX12_restFrom_71 (by decide) ?_
    exact ab_msk [true, true, true, true, true, false] (hk5 x3 (x4 + 1) hf)
  refine ab_iload dX12_restFrom_58 rfl ?_
  refine f_S_i (As := [.int x4]) (st := []) cs_X12_212 (fun v q => m_X12_size x4 h q) rfl rfl dX12_restFrom_60 (rmk rfl) hf (fun v4 hf => ?_)
  refine ab_goto 67 dX12_restFrom_63 (by decide) ?_
  refine ab_istore_n 3 [some (.ref x0), some (.int x1), some (.int x2), some (.int v4), some (.int x4), some (.int y0)] dX12_restFrom_67 rfl (by decide) rfl rfl ?_
  refine ab_iinc (v := x4 + 1) [some (.ref x0), some (.int x1), some (.int x2), some (.int v4), some (.int (x4 + 1)), some (.int y0)] dX12_restFrom_68 rfl (kinc_1 _) (by decide) rfl rfl ?_
  refine ab_goto 5 dX12_restFrom_71 (by decide) ?_
  exact ab_msk [true, true, true, true, true, false] (hk5 v4 (x4 + 1) hf)
def F_X12_restFrom_B5 (x0 : Nat) (x1 : Int32) (x2 : Int32) (h : abH) : Nat → Int32 → Int32 → Option Int32
  | 0, _, _ => none
  | n + 1, x3, x4 =>
    (gI 12 h x0 8).bind fun v1 =>
    if x4 < ((1 : Int32) <<< (v1 &&& 31)) then
      if (x4 &&& (((1 : Int32) <<< (x1 &&& 31)) - 1)) = 0 then
        F_X12_restFrom_B32 x0 x1 x2 x3 x4 1 h (fun u3 u4 => F_X12_restFrom_B5 x0 x1 x2 h n u3 u4)
      else
        F_X12_restFrom_B32 x0 x1 x2 x3 x4 0 h (fun u3 u4 => F_X12_restFrom_B5 x0 x1 x2 h n u3 u4)
    else
      some x3
theorem w_X12_restFrom_B5 {z0 : Int32} (x0 : Nat) (x1 : Int32) (x2 : Int32) (h : abH)   : ∀ (n : Nat) (x3 : Int32) (x4 : Int32), F_X12_restFrom_B5 x0 x1 x2 h n x3 x4 = some z0 → abW cX12_restFrom 6 RX12 (some .int) false 4 0 0 none (some (.int z0), h) 5 [some (.ref x0), some (.int x1), some (.int x2), some (.int x3), some (.int x4), none] [] h 0 0 := by
  intro n
  induction n with
  | zero =>
    intro x3 x4 hf
    exact absurd (show (none : Option Int32) = some _ from hf) (by simp)
  | succ n ih =>
    intro x3 x4 hf
    rw [F_X12_restFrom_B5.eq_2] at hf
    refine ab_iload dX12_restFrom_5 rfl ?_
    refine ab_iconst dX12_restFrom_7 kic_1 ?_
    refine ab_aload_n 0 dX12_restFrom_8 rfl rfl ?_
    refine f_getI fs_X12_125 dX12_restFrom_9 hf (fun v1 hf => ?_)
    refine ab_ishl dX12_restFrom_12 ?_
    refine ab_icmp_ge 74 dX12_restFrom_13 (by decide) hf (fun hf => ?_) (fun hf => ?_)
    · refine ab_iload dX12_restFrom_16 rfl ?_
      refine ab_iconst dX12_restFrom_18 kic_1 ?_
      refine ab_iload_n 1 dX12_restFrom_19 rfl rfl ?_
      refine ab_ishl dX12_restFrom_20 ?_
      refine ab_iconst dX12_restFrom_21 kic_1 ?_
      refine ab_isub dX12_restFrom_22 ?_
      refine ab_iand dX12_restFrom_23 ?_
      refine ab_if_ne 31 dX12_restFrom_24 (by decide) hf (fun hf => ?_) (fun hf => ?_)
      · refine ab_iconst dX12_restFrom_27 kic_1 ?_
        refine ab_goto 32 dX12_restFrom_28 (by decide) ?_
        exact ab_msk [true, true, true, true, true, true] (w_X12_restFrom_B32 x0 x1 x2 x3 x4 1 h (fun u3 u4 => F_X12_restFrom_B5 x0 x1 x2 h n u3 u4) (fun u3 u4 hf => ih u3 u4 hf) hf)
      refine ab_iconst dX12_restFrom_31 kic_0 ?_
      exact ab_msk [true, true, true, true, true, true] (w_X12_restFrom_B32 x0 x1 x2 x3 x4 0 h (fun u3 u4 => F_X12_restFrom_B5 x0 x1 x2 h n u3 u4) (fun u3 u4 hf => ih u3 u4 hf) hf)
    refine ab_iload_n 3 dX12_restFrom_74 rfl rfl ?_
    exact f_reti dX12_restFrom_75 rfl (Nat.le_refl 0) (Nat.le_refl 0) hf
def F_X12_restFrom (a0 : Nat) (a1 : Int32) (a2 : Int32) (h : abH) : Option Int32 :=
  F_X12_restFrom_B5 a0 a1 a2 h 200 0 0
theorem m_X12_restFrom {z0 : Int32} (a0 : Nat) (a1 : Int32) (a2 : Int32) (h : abH) (hf : F_X12_restFrom a0 a1 a2 h = some z0) : abM yX12_restFrom cX12_restFrom 6 (some .int) 4 0 0 [.ref a0, .int a1, .int a2] h (some (.int z0)) h := by
  refine abM_of (ini := false) [some (.ref a0), some (.int a1), some (.int a2), none, none, none] (by decide +kernel) (fun q => by first | rfl | cases q) (Nat.le_of_ble_eq_true rfl) rfl ?_
  unfold F_X12_restFrom at hf
  refine ab_iconst dX12_restFrom_0 kic_0 ?_
  refine ab_istore_n 3 [some (.ref a0), some (.int a1), some (.int a2), some (.int 0), none, none] dX12_restFrom_1 rfl (by decide) rfl rfl ?_
  refine ab_iconst dX12_restFrom_2 kic_0 ?_
  refine ab_istore [some (.ref a0), some (.int a1), some (.int a2), some (.int 0), some (.int 0), none] dX12_restFrom_3 (by decide) rfl rfl ?_
  exact ab_msk [true, true, true, true, true, true] (w_X12_restFrom_B5 a0 a1 a2 h 200 0 0 hf)
def F_X12_hourFor_B3 (x0 : Nat) (x1 : Int32) (x2 : Int32) (x3 : Int32) (h : abH) : Nat → Int32 → Option Int32
  | 0, _ => none
  | n + 1, x4 =>
    (gR 12 h x0 22).bind fun v1 =>
    (ga 0 h v1 x1).bind fun v2 =>
    (F_X12_isIn (v2 &&& (x2 ^^^ (-1))) x4).bind fun v3 =>
    if v3 = 0 then
      F_X12_hourFor_B3 x0 x1 x2 x3 h n (x4 + 1)
    else
      (ko 12 h x0).bind fun _ => (F_X12_restFrom x0 (x1 + 1) (x2 ||| ((1 : Int32) <<< (x4 &&& 31))) h).bind fun v4 =>
      if v4 = (x3 - 1) then
        some x4
      else
        F_X12_hourFor_B3 x0 x1 x2 x3 h n (x4 + 1)
theorem w_X12_hourFor_B3 {z0 : Int32} (x0 : Nat) (x1 : Int32) (x2 : Int32) (x3 : Int32) (h : abH)   : ∀ (n : Nat) (x4 : Int32), F_X12_hourFor_B3 x0 x1 x2 x3 h n x4 = some z0 → abW cX12_hourFor 5 RX12 (some .int) false 5 0 0 none (some (.int z0), h) 3 [some (.ref x0), some (.int x1), some (.int x2), some (.int x3), some (.int x4)] [] h 0 0 := by
  intro n
  induction n with
  | zero =>
    intro x4 hf
    exact absurd (show (none : Option Int32) = some _ from hf) (by simp)
  | succ n ih =>
    intro x4 hf
    rw [F_X12_hourFor_B3.eq_2] at hf
    refine ab_aload_n 0 dX12_hourFor_3 rfl rfl ?_
    refine f_getR fs_X12_50 dX12_hourFor_4 hf (fun v1 hf => ?_)
    refine ab_iload_n 1 dX12_hourFor_7 rfl rfl ?_
    refine f_iald dX12_hourFor_8 hf (fun v2 hf => ?_)
    refine ab_iload_n 2 dX12_hourFor_9 rfl rfl ?_
    refine ab_iconst dX12_hourFor_10 kic_m1 ?_
    refine ab_ixor dX12_hourFor_11 ?_
    refine ab_iand dX12_hourFor_12 ?_
    refine ab_iload dX12_hourFor_13 rfl ?_
    refine f_S_i (As := [.int (v2 &&& (x2 ^^^ (-1))), .int x4]) (st := []) cs_X12_156 (fun v q => m_X12_isIn (v2 &&& (x2 ^^^ (-1))) x4 h q) rfl rfl dX12_hourFor_15 (rmk rfl) hf (fun v3 hf => ?_)
    refine ab_if_eq 40 dX12_hourFor_18 (by decide) hf (fun hf => ?_) (fun hf => ?_)
    · refine ab_iinc (v := x4 + 1) [some (.ref x0), some (.int x1), some (.int x2), some (.int x3), some (.int (x4 + 1))] dX12_hourFor_40 rfl (kinc_1 _) (by decide) rfl rfl ?_
      refine ab_goto 3 dX12_hourFor_43 (by decide) ?_
      exact ab_msk [true, true, true, true, true] (ih (x4 + 1) hf)
    refine ab_aload_n 0 dX12_hourFor_21 rfl rfl ?_
    refine ab_iload_n 1 dX12_hourFor_22 rfl rfl ?_
    refine ab_iconst dX12_hourFor_23 kic_1 ?_
    refine ab_iadd dX12_hourFor_24 ?_
    refine ab_iload_n 2 dX12_hourFor_25 rfl rfl ?_
    refine ab_iconst dX12_hourFor_26 kic_1 ?_
    refine ab_iload dX12_hourFor_27 rfl ?_
    refine ab_ishl dX12_hourFor_29 ?_
    refine ab_ior dX12_hourFor_30 ?_
    refine f_V_i (As := [.int (x1 + 1), .int (x2 ||| ((1 : Int32) <<< (x4 &&& 31)))]) (st := []) cs_X12_221 (fun v q => m_X12_restFrom x0 (x1 + 1) (x2 ||| ((1 : Int32) <<< (x4 &&& 31))) h q) rfl rfl dX12_hourFor_31 (rmk rfl) hf (fun v4 hf => ?_)
    refine ab_iload_n 3 dX12_hourFor_34 rfl rfl ?_
    refine ab_iconst dX12_hourFor_35 kic_1 ?_
    refine ab_isub dX12_hourFor_36 ?_
    refine ab_icmp_eq 46 dX12_hourFor_37 (by decide) hf (fun hf => ?_) (fun hf => ?_)
    · refine ab_iload dX12_hourFor_46 rfl ?_
      exact f_reti dX12_hourFor_48 rfl (Nat.le_refl 0) (Nat.le_refl 0) hf
    refine ab_iinc (v := x4 + 1) [some (.ref x0), some (.int x1), some (.int x2), some (.int x3), some (.int (x4 + 1))] dX12_hourFor_40 rfl (kinc_1 _) (by decide) rfl rfl ?_
    refine ab_goto 3 dX12_hourFor_43 (by decide) ?_
    exact ab_msk [true, true, true, true, true] (ih (x4 + 1) hf)
def F_X12_hourFor (a0 : Nat) (a1 : Int32) (a2 : Int32) (a3 : Int32) (h : abH) : Option Int32 :=
  F_X12_hourFor_B3 a0 a1 a2 a3 h 200 0
theorem m_X12_hourFor {z0 : Int32} (a0 : Nat) (a1 : Int32) (a2 : Int32) (a3 : Int32) (h : abH) (hf : F_X12_hourFor a0 a1 a2 a3 h = some z0) : abM yX12_hourFor cX12_hourFor 5 (some .int) 5 0 0 [.ref a0, .int a1, .int a2, .int a3] h (some (.int z0)) h := by
  refine abM_of (ini := false) [some (.ref a0), some (.int a1), some (.int a2), some (.int a3), none] (by decide +kernel) (fun q => by first | rfl | cases q) (Nat.le_of_ble_eq_true rfl) rfl ?_
  unfold F_X12_hourFor at hf
  refine ab_iconst dX12_hourFor_0 kic_0 ?_
  refine ab_istore [some (.ref a0), some (.int a1), some (.int a2), some (.int a3), some (.int 0)] dX12_hourFor_1 (by decide) rfl rfl ?_
  exact ab_msk [true, true, true, true, true] (w_X12_hourFor_B3 a0 a1 a2 a3 h 200 0 hf)
def F_X12_layDocket_B38 (x0 : Nat) (x1 : Int32) : Nat → Int32 → Int32 → Int32 → abH → Option (Int32 × abH)
  | 0, _, _, _, _ => none
  | n + 1, x2, x3, x4, h =>
    (gI 12 h x0 8).bind fun v3 =>
    if x4 < v3 then
      (ko 12 h x0).bind fun _ => (F_X12_restFrom x0 (x4 + 1) x3 h).bind fun v4 =>
      if v4 < x2 then
        (gR 12 h x0 23).bind fun v5 =>
        (ko 12 h x0).bind fun _ => (F_X12_hourFor x0 x4 x3 x2 h).bind fun v6 =>
        (sa 0 h v5 x4 v6).bind fun h7 =>
        (gR 12 h7 x0 23).bind fun v8 =>
        (ga 0 h7 v8 x4).bind fun v9 =>
        nm (x3 ||| ((1 : Int32) <<< (v9 &&& 31))) fun v10 =>
        F_X12_layDocket_B38 x0 x1 n (x2 + (-1)) v10 (x4 + 1) h7
      else
        F_X12_layDocket_B38 x0 x1 n x2 x3 (x4 + 1) h
    else
      some (x1, h)
theorem w_X12_layDocket_B38 {z0 : Int32} {hz : abH} (x0 : Nat) (x1 : Int32)   : ∀ (n : Nat) (x2 : Int32) (x3 : Int32) (x4 : Int32) (h : abH), F_X12_layDocket_B38 x0 x1 n x2 x3 x4 h = some (z0, hz) → abW cX12_layDocket 5 RX12 (some .int) false 7 0 0 none (some (.int z0), hz) 38 [some (.ref x0), some (.int x1), some (.int x2), some (.int x3), some (.int x4)] [] h 0 0 := by
  intro n
  induction n with
  | zero =>
    intro x2 x3 x4 h hf
    exact absurd (show (none : Option (Int32 × abH)) = some _ from hf) (by simp)
  | succ n ih =>
    intro x2 x3 x4 h hf
    rw [F_X12_layDocket_B38.eq_2] at hf
    refine ab_iload dX12_layDocket_38 rfl ?_
    refine ab_aload_n 0 dX12_layDocket_40 rfl rfl ?_
    refine f_getI fs_X12_125 dX12_layDocket_41 hf (fun v3 hf => ?_)
    refine ab_icmp_ge 96 dX12_layDocket_44 (by decide) hf (fun hf => ?_) (fun hf => ?_)
    · refine ab_aload_n 0 dX12_layDocket_47 rfl rfl ?_
      refine ab_iload dX12_layDocket_48 rfl ?_
      refine ab_iconst dX12_layDocket_50 kic_1 ?_
      refine ab_iadd dX12_layDocket_51 ?_
      refine ab_iload_n 3 dX12_layDocket_52 rfl rfl ?_
      refine f_V_i (As := [.int (x4 + 1), .int x3]) (st := []) cs_X12_221 (fun v q => m_X12_restFrom x0 (x4 + 1) x3 h q) rfl rfl dX12_layDocket_53 (rmk rfl) hf (fun v4 hf => ?_)
      refine ab_iload_n 2 dX12_layDocket_56 rfl rfl ?_
      refine ab_icmp_ge 90 dX12_layDocket_57 (by decide) hf (fun hf => ?_) (fun hf => ?_)
      · refine ab_aload_n 0 dX12_layDocket_60 rfl rfl ?_
        refine f_getR fs_X12_53 dX12_layDocket_61 hf (fun v5 hf => ?_)
        refine ab_iload dX12_layDocket_64 rfl ?_
        refine ab_aload_n 0 dX12_layDocket_66 rfl rfl ?_
        refine ab_iload dX12_layDocket_67 rfl ?_
        refine ab_iload_n 3 dX12_layDocket_69 rfl rfl ?_
        refine ab_iload_n 2 dX12_layDocket_70 rfl rfl ?_
        refine f_V_i (As := [.int x4, .int x3, .int x2]) (st := [.int x4, .ref v5]) cs_X12_227 (fun v q => m_X12_hourFor x0 x4 x3 x2 h q) rfl rfl dX12_layDocket_71 (rmk rfl) hf (fun v6 hf => ?_)
        refine f_iast dX12_layDocket_74 hf (fun h7 hf => ?_)
        refine ab_iload_n 3 dX12_layDocket_75 rfl rfl ?_
        refine ab_iconst dX12_layDocket_76 kic_1 ?_
        refine ab_aload_n 0 dX12_layDocket_77 rfl rfl ?_
        refine f_getR fs_X12_53 dX12_layDocket_78 hf (fun v8 hf => ?_)
        refine ab_iload dX12_layDocket_81 rfl ?_
        refine f_iald dX12_layDocket_83 hf (fun v9 hf => ?_)
        refine ab_ishl dX12_layDocket_84 ?_
        refine ab_ior dX12_layDocket_85 ?_
        refine ab_nmi hf (fun v10 hf => ?_)
        refine ab_istore_n 3 [some (.ref x0), some (.int x1), some (.int x2), some (.int v10), some (.int x4)] dX12_layDocket_86 rfl (by decide) rfl rfl ?_
        refine ab_iinc (v := x2 + (-1)) [some (.ref x0), some (.int x1), some (.int (x2 + (-1))), some (.int v10), some (.int x4)] dX12_layDocket_87 rfl (kinc_m1 _) (by decide) rfl rfl ?_
        refine ab_iinc (v := x4 + 1) [some (.ref x0), some (.int x1), some (.int (x2 + (-1))), some (.int v10), some (.int (x4 + 1))] dX12_layDocket_90 rfl (kinc_1 _) (by decide) rfl rfl ?_
        refine ab_goto 38 dX12_layDocket_93 (by decide) ?_
        exact ab_msk [true, true, true, true, true] (ih (x2 + (-1)) v10 (x4 + 1) h7 hf)
      refine ab_iinc (v := x4 + 1) [some (.ref x0), some (.int x1), some (.int x2), some (.int x3), some (.int (x4 + 1))] dX12_layDocket_90 rfl (kinc_1 _) (by decide) rfl rfl ?_
      refine ab_goto 38 dX12_layDocket_93 (by decide) ?_
      exact ab_msk [true, true, true, true, true] (ih x2 x3 (x4 + 1) h hf)
    refine ab_iload_n 1 dX12_layDocket_96 rfl rfl ?_
    exact f_reti2 dX12_layDocket_97 rfl (Nat.le_refl 0) (Nat.le_refl 0) hf
def F_X12_layDocket_B6 (x0 : Nat) : Nat → Int32 → abH → Option (Int32 × abH)
  | 0, _, _ => none
  | n + 1, x1, h =>
    if x1 < 5 then
      (gR 12 h x0 23).bind fun v11 =>
      (sa 0 h v11 x1 (-1)).bind fun h12 =>
      F_X12_layDocket_B6 x0 n (x1 + 1) h12
    else
      (ko 12 h x0).bind fun _ => (F_X12_restFrom x0 0 0 h).bind fun v2 =>
      F_X12_layDocket_B38 x0 v2 200 v2 0 0 h
theorem w_X12_layDocket_B6 {z0 : Int32} {hz : abH} (x0 : Nat)   : ∀ (n : Nat) (x1 : Int32) (h : abH), F_X12_layDocket_B6 x0 n x1 h = some (z0, hz) → abW cX12_layDocket 5 RX12 (some .int) false 7 0 0 none (some (.int z0), hz) 6 [some (.ref x0), some (.int x1), none, none, none] [] h 0 0 := by
  intro n
  induction n with
  | zero =>
    intro x1 h hf
    exact absurd (show (none : Option (Int32 × abH)) = some _ from hf) (by simp)
  | succ n ih =>
    intro x1 h hf
    rw [F_X12_layDocket_B6.eq_2] at hf
    refine ab_iload_n 1 dX12_layDocket_6 rfl rfl ?_
    refine ab_iconst dX12_layDocket_7 kic_5 ?_
    refine ab_icmp_ge 24 dX12_layDocket_8 (by decide) hf (fun hf => ?_) (fun hf => ?_)
    · refine ab_aload_n 0 dX12_layDocket_11 rfl rfl ?_
      refine f_getR fs_X12_53 dX12_layDocket_12 hf (fun v11 hf => ?_)
      refine ab_iload_n 1 dX12_layDocket_15 rfl rfl ?_
      refine ab_iconst dX12_layDocket_16 kic_m1 ?_
      refine f_iast dX12_layDocket_17 hf (fun h12 hf => ?_)
      refine ab_iinc (v := x1 + 1) [some (.ref x0), some (.int (x1 + 1)), none, none, none] dX12_layDocket_18 rfl (kinc_1 _) (by decide) rfl rfl ?_
      refine ab_goto 6 dX12_layDocket_21 (by decide) ?_
      exact ab_msk [true, true, true, true, true] (ih (x1 + 1) h12 hf)
    refine ab_aload_n 0 dX12_layDocket_24 rfl rfl ?_
    refine ab_iconst dX12_layDocket_25 kic_0 ?_
    refine ab_iconst dX12_layDocket_26 kic_0 ?_
    refine f_V_i (As := [.int 0, .int 0]) (st := []) cs_X12_221 (fun v q => m_X12_restFrom x0 0 0 h q) rfl rfl dX12_layDocket_27 (rmk rfl) hf (fun v2 hf => ?_)
    refine ab_istore_n 1 [some (.ref x0), some (.int v2), none, none, none] dX12_layDocket_30 rfl (by decide) rfl rfl ?_
    refine ab_iload_n 1 dX12_layDocket_31 rfl rfl ?_
    refine ab_istore_n 2 [some (.ref x0), some (.int v2), some (.int v2), none, none] dX12_layDocket_32 rfl (by decide) rfl rfl ?_
    refine ab_iconst dX12_layDocket_33 kic_0 ?_
    refine ab_istore_n 3 [some (.ref x0), some (.int v2), some (.int v2), some (.int 0), none] dX12_layDocket_34 rfl (by decide) rfl rfl ?_
    refine ab_iconst dX12_layDocket_35 kic_0 ?_
    refine ab_istore [some (.ref x0), some (.int v2), some (.int v2), some (.int 0), some (.int 0)] dX12_layDocket_36 (by decide) rfl rfl ?_
    exact ab_msk [true, true, true, true, true] (w_X12_layDocket_B38 x0 v2 200 v2 0 0 h hf)
def F_X12_layDocket (a0 : Nat) (h : abH) : Option (Int32 × abH) :=
  (ko 12 h a0).bind fun _ => (F_X12_layGood a0 h).bind fun h1 =>
  F_X12_layDocket_B6 a0 200 0 h1
theorem m_X12_layDocket {z0 : Int32} {hz : abH} (a0 : Nat) (h : abH) (hf : F_X12_layDocket a0 h = some (z0, hz)) : abM yX12_layDocket cX12_layDocket 5 (some .int) 7 0 0 [.ref a0] h (some (.int z0)) hz := by
  refine abM_of (ini := false) [some (.ref a0), none, none, none, none] (by decide +kernel) (fun q => by first | rfl | cases q) (Nat.le_of_ble_eq_true rfl) rfl ?_
  unfold F_X12_layDocket at hf
  refine ab_aload_n 0 dX12_layDocket_0 rfl rfl ?_
  refine f_V_v2 (As := []) (st := []) cs_X12_224 (fun hq q => m_X12_layGood a0 h q) rfl rfl dX12_layDocket_1 (rmk rfl) hf (fun h1 hf => ?_)
  refine ab_iconst dX12_layDocket_4 kic_0 ?_
  refine ab_istore_n 1 [some (.ref a0), some (.int 0), none, none, none] dX12_layDocket_5 rfl (by decide) rfl rfl ?_
  exact ab_msk [true, true, true, true, true] (w_X12_layDocket_B6 a0 200 0 h1 hf)
def F_X12_docket_B18 (x0 : Nat) (x1 : Int32) (h : abH) : Option (Int32 × abH) :=
  (gI 12 h x0 1).bind fun v1 =>
  if v1 = 0 then
    some ((-103), h)
  else
    (ko 12 h x0).bind fun _ => bd2 (F_X12_layDocket x0 h) fun v3 h2 =>
    if x1 = 0 then
      some (v3, h2)
    else
      (gR 12 h2 x0 23).bind fun v4 =>
      (ga 0 h2 v4 (x1 - 10)).bind fun v5 =>
      some (v5, h2)
theorem w_X12_docket_B18 {z0 : Int32} {hz : abH} (x0 : Nat) (x1 : Int32) (h : abH)   (hf : F_X12_docket_B18 x0 x1 h = some (z0, hz)) : abW cX12_docket 3 RX12 (some .int) false 8 0 0 none (some (.int z0), hz) 18 [some (.ref x0), some (.int x1), none] [] h 0 0 := by
  unfold F_X12_docket_B18 at hf
  refine ab_aload_n 0 dX12_docket_18 rfl rfl ?_
  refine f_getI fs_X12_116 dX12_docket_19 hf (fun v1 hf => ?_)
  refine ab_if_ne 28 dX12_docket_22 (by decide) hf (fun hf => ?_) (fun hf => ?_)
  · refine ab_bipush dX12_docket_25 kbp_m103 ?_
    exact f_reti2 dX12_docket_27 rfl (Nat.le_refl 0) (Nat.le_refl 0) hf
  refine ab_aload_n 0 dX12_docket_28 rfl rfl ?_
  refine f_V_i2 (As := []) (st := []) cs_X12_230 (fun v hq q => m_X12_layDocket x0 h q) rfl rfl dX12_docket_29 (rmk rfl) hf (fun v3 h2 hf => ?_)
  refine ab_istore_n 2 [some (.ref x0), some (.int x1), some (.int v3)] dX12_docket_32 rfl (by decide) rfl rfl ?_
  refine ab_iload_n 1 dX12_docket_33 rfl rfl ?_
  refine ab_if_ne 41 dX12_docket_34 (by decide) hf (fun hf => ?_) (fun hf => ?_)
  · refine ab_iload_n 2 dX12_docket_37 rfl rfl ?_
    refine ab_goto 50 dX12_docket_38 (by decide) ?_
    exact f_reti2 dX12_docket_50 rfl (Nat.le_refl 0) (Nat.le_refl 0) hf
  refine ab_aload_n 0 dX12_docket_41 rfl rfl ?_
  refine f_getR fs_X12_53 dX12_docket_42 hf (fun v4 hf => ?_)
  refine ab_iload_n 1 dX12_docket_45 rfl rfl ?_
  refine ab_bipush dX12_docket_46 kbp_10 ?_
  refine ab_isub dX12_docket_48 ?_
  refine f_iald dX12_docket_49 hf (fun v5 hf => ?_)
  exact f_reti2 dX12_docket_50 rfl (Nat.le_refl 0) (Nat.le_refl 0) hf
def F_X12_docket (a0 : Nat) (a1 : Int32) (h : abH) : Option (Int32 × abH) :=
  if a1 = 0 then
    F_X12_docket_B18 a0 a1 h
  else
    (F_X12_within a1 10 14).bind fun v6 =>
    if v6 = 0 then
      some ((-102), h)
    else
      F_X12_docket_B18 a0 a1 h
theorem m_X12_docket {z0 : Int32} {hz : abH} (a0 : Nat) (a1 : Int32) (h : abH) (hf : F_X12_docket a0 a1 h = some (z0, hz)) : abM yX12_docket cX12_docket 3 (some .int) 8 0 0 [.ref a0, .int a1] h (some (.int z0)) hz := by
  refine abM_of (ini := false) [some (.ref a0), some (.int a1), none] (by decide +kernel) (fun q => by first | rfl | cases q) (Nat.le_of_ble_eq_true rfl) rfl ?_
  unfold F_X12_docket at hf
  refine ab_iload_n 1 dX12_docket_0 rfl rfl ?_
  refine ab_if_eq 18 dX12_docket_1 (by decide) hf (fun hf => ?_) (fun hf => ?_)
  · exact ab_msk [true, true, true] (w_X12_docket_B18 a0 a1 h hf)
  refine ab_iload_n 1 dX12_docket_4 rfl rfl ?_
  refine ab_bipush dX12_docket_5 kbp_10 ?_
  refine ab_bipush dX12_docket_7 kbp_14 ?_
  refine f_S_i (As := [.int a1, .int 10, .int 14]) (st := []) cs_X12_83 (fun v q => m_X12_within a1 10 14 h q) rfl rfl dX12_docket_9 (rmk rfl) hf (fun v6 hf => ?_)
  refine ab_if_ne 18 dX12_docket_12 (by decide) hf (fun hf => ?_) (fun hf => ?_)
  · refine ab_bipush dX12_docket_15 kbp_m102 ?_
    exact f_reti2 dX12_docket_17 rfl (Nat.le_refl 0) (Nat.le_refl 0) hf
  exact ab_msk [true, true, true] (w_X12_docket_B18 a0 a1 h hf)
def F_X12_divisor_B4  : Nat → Int32 → Int32 → Option Int32
  | 0, _, _ => none
  | n + 1, x2, x3 =>
    if x3 = 0 then
      some x2
    else
      dz x3 <|
      nm (x2 - x2 / x3 * x3) fun v1 =>
      F_X12_divisor_B4  n x3 v1
theorem w_X12_divisor_B4 {z0 : Int32} (h : abH)   : ∀ (n : Nat) (x2 : Int32) (x3 : Int32), F_X12_divisor_B4  n x2 x3 = some z0 → abW cX12_divisor 5 RX12 (some .int) false 1 0 0 none (some (.int z0), h) 4 [none, none, some (.int x2), some (.int x3), none] [] h 0 0 := by
  intro n
  induction n with
  | zero =>
    intro x2 x3 hf
    exact absurd (show (none : Option Int32) = some _ from hf) (by simp)
  | succ n ih =>
    intro x2 x3 hf
    rw [F_X12_divisor_B4.eq_2] at hf
    refine ab_iload_n 3 dX12_divisor_4 rfl rfl ?_
    refine ab_if_eq 21 dX12_divisor_5 (by decide) hf (fun hf => ?_) (fun hf => ?_)
    · refine ab_iload_n 2 dX12_divisor_21 rfl rfl ?_
      exact f_reti dX12_divisor_22 rfl (Nat.le_refl 0) (Nat.le_refl 0) hf
    refine ab_iload_n 2 dX12_divisor_8 rfl rfl ?_
    refine ab_iload_n 3 dX12_divisor_9 rfl rfl ?_
    refine f_irem dX12_divisor_10 hf (fun hf => ?_)
    refine ab_nmi hf (fun v1 hf => ?_)
    refine ab_istore [none, none, some (.int x2), some (.int x3), some (.int v1)] dX12_divisor_11 (by decide) rfl rfl ?_
    refine ab_iload_n 3 dX12_divisor_13 rfl rfl ?_
    refine ab_istore_n 2 [none, none, some (.int x3), some (.int x3), some (.int v1)] dX12_divisor_14 rfl (by decide) rfl rfl ?_
    refine ab_iload dX12_divisor_15 rfl ?_
    refine ab_istore_n 3 [none, none, some (.int x3), some (.int v1), some (.int v1)] dX12_divisor_17 rfl (by decide) rfl rfl ?_
    refine ab_goto 4 dX12_divisor_18 (by decide) ?_
    exact ab_msk [true, true, true, true, false] (ih x3 v1 hf)
def F_X12_divisor (a0 : Int32) (a1 : Int32) : Option Int32 :=
  F_X12_divisor_B4  200 a0 a1
theorem m_X12_divisor {z0 : Int32} (a0 : Int32) (a1 : Int32) (h : abH) (hf : F_X12_divisor a0 a1 = some z0) : abM yX12_divisor cX12_divisor 5 (some .int) 1 0 0 [.int a0, .int a1] h (some (.int z0)) h := by
  refine abM_of (ini := false) [some (.int a0), some (.int a1), none, none, none] (by decide +kernel) (fun q => by first | rfl | cases q) (Nat.le_of_ble_eq_true rfl) rfl ?_
  unfold F_X12_divisor at hf
  refine ab_iload_n 0 dX12_divisor_0 rfl rfl ?_
  refine ab_istore_n 2 [some (.int a0), some (.int a1), some (.int a0), none, none] dX12_divisor_1 rfl (by decide) rfl rfl ?_
  refine ab_iload_n 1 dX12_divisor_2 rfl rfl ?_
  refine ab_istore_n 3 [some (.int a0), some (.int a1), some (.int a0), some (.int a1), none] dX12_divisor_3 rfl (by decide) rfl rfl ?_
  exact ab_msk [false, false, true, true, true] (w_X12_divisor_B4 h 200 a0 a1 hf)
def F_X12_oddsNow_B66 (x0 : Nat) (x1 : Int32) (x2 : Int32) (x3 : Int32) (x4 : Int32) (x5 : Int32) (x7 : Int32) (x8 : Int32) (x9 : Int32) (y0 : Int32) (y1 : Int32) (h : abH) (k12 : Int32 → Int32 → Int32 → Int32 → Option Int32) : Option Int32 :=
  nm (y0 + y1) fun v4 =>
  nm (x8 * x4) fun v5 =>
  nm (x7 * 10) fun v6 =>
  k12 v4 v6 v5 (x9 + 1)
theorem w_X12_oddsNow_B66 {z0 : Int32} (x0 : Nat) (x1 : Int32) (x2 : Int32) (x3 : Int32) (x4 : Int32) (x5 : Int32) (x7 : Int32) (x8 : Int32) (x9 : Int32) (y0 : Int32) (y1 : Int32) (h : abH) (k12 : Int32 → Int32 → Int32 → Int32 → Option Int32) (hk12 : ∀ (w6 : Int32) (w7 : Int32) (w8 : Int32) (w9 : Int32), k12 w6 w7 w8 w9 = some z0 → abW cX12_oddsNow 11 RX12 (some .int) false 6 0 0 none (some (.int z0), h) 12 [some (.ref x0), some (.int x1), some (.int x2), some (.int x3), some (.int x4), some (.int x5), some (.int w6), some (.int w7), some (.int w8), some (.int w9), none] [] h 0 0) (hf : F_X12_oddsNow_B66 x0 x1 x2 x3 x4 x5 x7 x8 x9 y0 y1 h k12 = some z0) : abW cX12_oddsNow 11 RX12 (some .int) false 6 0 0 none (some (.int z0), h) 66 [some (.ref x0), some (.int x1), some (.int x2), some (.int x3), some (.int x4), some (.int x5), none, some (.int x7), some (.int x8), some (.int x9), none] [.int y1, .int y0] h 0 0 := by
  unfold F_X12_oddsNow_B66 at hf
  refine ab_iadd dX12_oddsNow_66 ?_
  refine ab_nmi hf (fun v4 hf => ?_)
  refine ab_istore [some (.ref x0), some (.int x1), some (.int x2), some (.int x3), some (.int x4), some (.int x5), some (.int v4), some (.int x7), some (.int x8), some (.int x9), none] dX12_oddsNow_67 (by decide) rfl rfl ?_
  refine ab_iload dX12_oddsNow_69 rfl ?_
  refine ab_iload dX12_oddsNow_71 rfl ?_
  refine ab_imul dX12_oddsNow_73 ?_
  refine ab_nmi hf (fun v5 hf => ?_)
  refine ab_istore [some (.ref x0), some (.int x1), some (.int x2), some (.int x3), some (.int x4), some (.int x5), some (.int v4), some (.int x7), some (.int v5), some (.int x9), none] dX12_oddsNow_74 (by decide) rfl rfl ?_
  refine ab_iload dX12_oddsNow_76 rfl ?_
  refine ab_bipush dX12_oddsNow_78 kbp_10 ?_
  refine ab_imul dX12_oddsNow_80 ?_
  refine ab_nmi hf (fun v6 hf => ?_)
  refine ab_istore [some (.ref x0), some (.int x1), some (.int x2), some (.int x3), some (.int x4), some (.int x5), some (.int v4), some (.int v6), some (.int v5), some (.int x9), none] dX12_oddsNow_81 (by decide) rfl rfl ?_
  refine ab_iinc (v := x9 + 1) [some (.ref x0), some (.int x1), some (.int x2), some (.int x3), some (.int x4), some (.int x5), some (.int v4), some (.int v6), some (.int v5), some (.int (x9 + 1)), none] dX12_oddsNow_83 rfl (kinc_1 _) (by decide) rfl rfl ?_
  refine ab_goto 12 dX12_oddsNow_86 (by decide) ?_
  exact ab_msk [true, true, true, true, true, true, true, true, true, true, true] (hk12 v4 v6 v5 (x9 + 1) hf)
def F_X12_oddsNow_B42 (x0 : Nat) (x1 : Int32) (x2 : Int32) (x3 : Int32) (x4 : Int32) (x5 : Int32) (x6 : Int32) (x7 : Int32) (x8 : Int32) (x9 : Int32) (y0 : Int32) (h : abH) (k12 : Int32 → Int32 → Int32 → Int32 → Option Int32) : Option Int32 :=
  if y0 = 0 then
    F_X12_oddsNow_B66 x0 x1 x2 x3 x4 x5 x7 x8 x9 (10 * x6) 0 h k12
  else
    F_X12_oddsNow_B66 x0 x1 x2 x3 x4 x5 x7 x8 x9 (10 * x6) (x8 * (10 - x4)) h k12
theorem w_X12_oddsNow_B42 {z0 : Int32} (x0 : Nat) (x1 : Int32) (x2 : Int32) (x3 : Int32) (x4 : Int32) (x5 : Int32) (x6 : Int32) (x7 : Int32) (x8 : Int32) (x9 : Int32) (y0 : Int32) (h : abH) (k12 : Int32 → Int32 → Int32 → Int32 → Option Int32) (hk12 : ∀ (w6 : Int32) (w7 : Int32) (w8 : Int32) (w9 : Int32), k12 w6 w7 w8 w9 = some z0 → abW cX12_oddsNow 11 RX12 (some .int) false 6 0 0 none (some (.int z0), h) 12 [some (.ref x0), some (.int x1), some (.int x2), some (.int x3), some (.int x4), some (.int x5), some (.int w6), some (.int w7), some (.int w8), some (.int w9), none] [] h 0 0) (hf : F_X12_oddsNow_B42 x0 x1 x2 x3 x4 x5 x6 x7 x8 x9 y0 h k12 = some z0) : abW cX12_oddsNow 11 RX12 (some .int) false 6 0 0 none (some (.int z0), h) 42 [some (.ref x0), some (.int x1), some (.int x2), some (.int x3), some (.int x4), some (.int x5), some (.int x6), some (.int x7), some (.int x8), some (.int x9), none] [.int y0] h 0 0 := by
  unfold F_X12_oddsNow_B42 at hf
  refine ab_istore [some (.ref x0), some (.int x1), some (.int x2), some (.int x3), some (.int x4), some (.int x5), some (.int x6), some (.int x7), some (.int x8), some (.int x9), some (.int y0)] dX12_oddsNow_42 (by decide) rfl rfl ?_
  refine ab_bipush dX12_oddsNow_44 kbp_10 ?_
  refine ab_iload dX12_oddsNow_46 rfl ?_
  refine ab_imul dX12_oddsNow_48 ?_
  refine ab_iload dX12_oddsNow_49 rfl ?_
  refine ab_if_eq 65 dX12_oddsNow_51 (by decide) hf (fun hf => ?_) (fun hf => ?_)
  · refine ab_iconst dX12_oddsNow_65 kic_0 ?_
    exact ab_msk [true, true, true, true, true, true, false, true, true, true, false] (w_X12_oddsNow_B66 x0 x1 x2 x3 x4 x5 x7 x8 x9 (10 * x6) 0 h k12 hk12 hf)
  refine ab_iload dX12_oddsNow_54 rfl ?_
  refine ab_bipush dX12_oddsNow_56 kbp_10 ?_
  refine ab_iload dX12_oddsNow_58 rfl ?_
  refine ab_isub dX12_oddsNow_60 ?_
  refine ab_imul dX12_oddsNow_61 ?_
  refine ab_goto 66 dX12_oddsNow_62 (by decide) ?_
  exact ab_msk [true, true, true, true, true, true, false, true, true, true, false] (w_X12_oddsNow_B66 x0 x1 x2 x3 x4 x5 x7 x8 x9 (10 * x6) (x8 * (10 - x4)) h k12 hk12 hf)
def F_X12_oddsNow_B12 (x0 : Nat) (x1 : Int32) (x2 : Int32) (x3 : Int32) (x4 : Int32) (x5 : Int32) (h : abH) : Nat → Int32 → Int32 → Int32 → Int32 → Option Int32
  | 0, _, _, _, _ => none
  | n + 1, x6, x7, x8, x9 =>
    if x9 < x3 then
      (gI 12 h x0 6).bind fun v2 =>
      dz 13 <|
      (ko 12 h x0).bind fun _ => (F_X12_foundIn x0 x1 x2 ((v2 + x9) - (v2 + x9) / 13 * 13) h).bind fun v3 =>
      if v3 ≤ 0 then
        F_X12_oddsNow_B42 x0 x1 x2 x3 x4 x5 x6 x7 x8 x9 0 h (fun u6 u7 u8 u9 => F_X12_oddsNow_B12 x0 x1 x2 x3 x4 x5 h n u6 u7 u8 u9)
      else
        F_X12_oddsNow_B42 x0 x1 x2 x3 x4 x5 x6 x7 x8 x9 1 h (fun u6 u7 u8 u9 => F_X12_oddsNow_B12 x0 x1 x2 x3 x4 x5 h n u6 u7 u8 u9)
    else
      (F_X12_divisor x6 x7).bind fun v1 =>
      if x5 = 0 then
        dz v1 <|
        some (x6 / v1)
      else
        dz v1 <|
        some (x7 / v1)
theorem w_X12_oddsNow_B12 {z0 : Int32} (x0 : Nat) (x1 : Int32) (x2 : Int32) (x3 : Int32) (x4 : Int32) (x5 : Int32) (h : abH)   : ∀ (n : Nat) (x6 : Int32) (x7 : Int32) (x8 : Int32) (x9 : Int32), F_X12_oddsNow_B12 x0 x1 x2 x3 x4 x5 h n x6 x7 x8 x9 = some z0 → abW cX12_oddsNow 11 RX12 (some .int) false 6 0 0 none (some (.int z0), h) 12 [some (.ref x0), some (.int x1), some (.int x2), some (.int x3), some (.int x4), some (.int x5), some (.int x6), some (.int x7), some (.int x8), some (.int x9), none] [] h 0 0 := by
  intro n
  induction n with
  | zero =>
    intro x6 x7 x8 x9 hf
    exact absurd (show (none : Option Int32) = some _ from hf) (by simp)
  | succ n ih =>
    intro x6 x7 x8 x9 hf
    rw [F_X12_oddsNow_B12.eq_2] at hf
    refine ab_iload dX12_oddsNow_12 rfl ?_
    refine ab_iload_n 3 dX12_oddsNow_14 rfl rfl ?_
    refine ab_icmp_ge 89 dX12_oddsNow_15 (by decide) hf (fun hf => ?_) (fun hf => ?_)
    · refine ab_aload_n 0 dX12_oddsNow_18 rfl rfl ?_
      refine ab_iload_n 1 dX12_oddsNow_19 rfl rfl ?_
      refine ab_iload_n 2 dX12_oddsNow_20 rfl rfl ?_
      refine ab_aload_n 0 dX12_oddsNow_21 rfl rfl ?_
      refine f_getI fs_X12_119 dX12_oddsNow_22 hf (fun v2 hf => ?_)
      refine ab_iload dX12_oddsNow_25 rfl ?_
      refine ab_iadd dX12_oddsNow_27 ?_
      refine ab_bipush dX12_oddsNow_28 kbp_13 ?_
      refine f_irem dX12_oddsNow_30 hf (fun hf => ?_)
      refine f_V_i (As := [.int x1, .int x2, .int ((v2 + x9) - (v2 + x9) / 13 * 13)]) (st := []) cs_X12_186 (fun v q => m_X12_foundIn x0 x1 x2 ((v2 + x9) - (v2 + x9) / 13 * 13) h q) rfl rfl dX12_oddsNow_31 (rmk rfl) hf (fun v3 hf => ?_)
      refine ab_if_le 41 dX12_oddsNow_34 (by decide) hf (fun hf => ?_) (fun hf => ?_)
      · refine ab_iconst dX12_oddsNow_41 kic_0 ?_
        exact ab_msk [true, true, true, true, true, true, true, true, true, true, true] (w_X12_oddsNow_B42 x0 x1 x2 x3 x4 x5 x6 x7 x8 x9 0 h (fun u6 u7 u8 u9 => F_X12_oddsNow_B12 x0 x1 x2 x3 x4 x5 h n u6 u7 u8 u9) (fun u6 u7 u8 u9 hf => ih u6 u7 u8 u9 hf) hf)
      refine ab_iconst dX12_oddsNow_37 kic_1 ?_
      refine ab_goto 42 dX12_oddsNow_38 (by decide) ?_
      exact ab_msk [true, true, true, true, true, true, true, true, true, true, true] (w_X12_oddsNow_B42 x0 x1 x2 x3 x4 x5 x6 x7 x8 x9 1 h (fun u6 u7 u8 u9 => F_X12_oddsNow_B12 x0 x1 x2 x3 x4 x5 h n u6 u7 u8 u9) (fun u6 u7 u8 u9 hf => ih u6 u7 u8 u9 hf) hf)
    refine ab_iload dX12_oddsNow_89 rfl ?_
    refine ab_iload dX12_oddsNow_91 rfl ?_
    refine f_S_i (As := [.int x6, .int x7]) (st := []) cs_X12_233 (fun v q => m_X12_divisor x6 x7 h q) rfl rfl dX12_oddsNow_93 (rmk rfl) hf (fun v1 hf => ?_)
    refine ab_istore [some (.ref x0), some (.int x1), some (.int x2), some (.int x3), some (.int x4), some (.int x5), some (.int x6), some (.int x7), some (.int x8), some (.int v1), none] dX12_oddsNow_96 (by decide) rfl rfl ?_
    refine ab_iload dX12_oddsNow_98 rfl ?_
    refine ab_if_ne 111 dX12_oddsNow_100 (by decide) hf (fun hf => ?_) (fun hf => ?_)
    · refine ab_iload dX12_oddsNow_103 rfl ?_
      refine ab_iload dX12_oddsNow_105 rfl ?_
      refine f_idiv dX12_oddsNow_107 hf (fun hf => ?_)
      refine ab_goto 116 dX12_oddsNow_108 (by decide) ?_
      exact f_reti dX12_oddsNow_116 rfl (Nat.le_refl 0) (Nat.le_refl 0) hf
    refine ab_iload dX12_oddsNow_111 rfl ?_
    refine ab_iload dX12_oddsNow_113 rfl ?_
    refine f_idiv dX12_oddsNow_115 hf (fun hf => ?_)
    exact f_reti dX12_oddsNow_116 rfl (Nat.le_refl 0) (Nat.le_refl 0) hf
def F_X12_oddsNow (a0 : Nat) (a1 : Int32) (a2 : Int32) (a3 : Int32) (a4 : Int32) (a5 : Int32) (h : abH) : Option Int32 :=
  F_X12_oddsNow_B12 a0 a1 a2 a3 a4 a5 h 200 0 1 1 0
theorem m_X12_oddsNow {z0 : Int32} (a0 : Nat) (a1 : Int32) (a2 : Int32) (a3 : Int32) (a4 : Int32) (a5 : Int32) (h : abH) (hf : F_X12_oddsNow a0 a1 a2 a3 a4 a5 h = some z0) : abM yX12_oddsNow cX12_oddsNow 11 (some .int) 6 0 0 [.ref a0, .int a1, .int a2, .int a3, .int a4, .int a5] h (some (.int z0)) h := by
  refine abM_of (ini := false) [some (.ref a0), some (.int a1), some (.int a2), some (.int a3), some (.int a4), some (.int a5), none, none, none, none, none] (by decide +kernel) (fun q => by first | rfl | cases q) (Nat.le_of_ble_eq_true rfl) rfl ?_
  unfold F_X12_oddsNow at hf
  refine ab_iconst dX12_oddsNow_0 kic_0 ?_
  refine ab_istore [some (.ref a0), some (.int a1), some (.int a2), some (.int a3), some (.int a4), some (.int a5), some (.int 0), none, none, none, none] dX12_oddsNow_1 (by decide) rfl rfl ?_
  refine ab_iconst dX12_oddsNow_3 kic_1 ?_
  refine ab_istore [some (.ref a0), some (.int a1), some (.int a2), some (.int a3), some (.int a4), some (.int a5), some (.int 0), some (.int 1), none, none, none] dX12_oddsNow_4 (by decide) rfl rfl ?_
  refine ab_iconst dX12_oddsNow_6 kic_1 ?_
  refine ab_istore [some (.ref a0), some (.int a1), some (.int a2), some (.int a3), some (.int a4), some (.int a5), some (.int 0), some (.int 1), some (.int 1), none, none] dX12_oddsNow_7 (by decide) rfl rfl ?_
  refine ab_iconst dX12_oddsNow_9 kic_0 ?_
  refine ab_istore [some (.ref a0), some (.int a1), some (.int a2), some (.int a3), some (.int a4), some (.int a5), some (.int 0), some (.int 1), some (.int 1), some (.int 0), none] dX12_oddsNow_10 (by decide) rfl rfl ?_
  exact ab_msk [true, true, true, true, true, true, true, true, true, true, true] (w_X12_oddsNow_B12 a0 a1 a2 a3 a4 a5 h 200 0 1 1 0 hf)
def F_X12_odds_B48 (x0 : Nat) (x1 : Int32) (x2 : Int32) (x3 : Int32) (x4 : Int32) (x5 : Int32) (y0 : Int32) (h : abH) : Option Int32 :=
  if y0 = 0 then
    some (-102)
  else
    (ko 12 h x0).bind fun _ => (F_X12_oddsNow x0 x1 x2 x3 x4 x5 h).bind fun v3 =>
    some v3
theorem w_X12_odds_B48 {z0 : Int32} (x0 : Nat) (x1 : Int32) (x2 : Int32) (x3 : Int32) (x4 : Int32) (x5 : Int32) (y0 : Int32) (h : abH)   (hf : F_X12_odds_B48 x0 x1 x2 x3 x4 x5 y0 h = some z0) : abW cX12_odds 7 RX12 (some .int) false 7 0 0 none (some (.int z0), h) 48 [some (.ref x0), some (.int x1), some (.int x2), some (.int x3), some (.int x4), some (.int x5), none] [.int y0] h 0 0 := by
  unfold F_X12_odds_B48 at hf
  refine ab_istore [some (.ref x0), some (.int x1), some (.int x2), some (.int x3), some (.int x4), some (.int x5), some (.int y0)] dX12_odds_48 (by decide) rfl rfl ?_
  refine ab_iload dX12_odds_50 rfl ?_
  refine ab_if_eq 69 dX12_odds_52 (by decide) hf (fun hf => ?_) (fun hf => ?_)
  · refine ab_bipush dX12_odds_69 kbp_m102 ?_
    exact f_reti dX12_odds_71 rfl (Nat.le_refl 0) (Nat.le_refl 0) hf
  refine ab_aload_n 0 dX12_odds_55 rfl rfl ?_
  refine ab_iload_n 1 dX12_odds_56 rfl rfl ?_
  refine ab_iload_n 2 dX12_odds_57 rfl rfl ?_
  refine ab_iload_n 3 dX12_odds_58 rfl rfl ?_
  refine ab_iload dX12_odds_59 rfl ?_
  refine ab_iload dX12_odds_61 rfl ?_
  refine f_V_i (As := [.int x1, .int x2, .int x3, .int x4, .int x5]) (st := []) cs_X12_236 (fun v q => m_X12_oddsNow x0 x1 x2 x3 x4 x5 h q) rfl rfl dX12_odds_63 (rmk rfl) hf (fun v3 hf => ?_)
  refine ab_goto 71 dX12_odds_66 (by decide) ?_
  exact f_reti dX12_odds_71 rfl (Nat.le_refl 0) (Nat.le_refl 0) hf
def F_X12_odds (a0 : Nat) (a1 : Int32) (a2 : Int32) (a3 : Int32) (a4 : Int32) (a5 : Int32) (h : abH) : Option Int32 :=
  (ko 12 h a0).bind fun _ => (F_X12_areTwo a0 a1 a2 h).bind fun v1 =>
  if v1 = 0 then
    some (-101)
  else
    (F_X12_within a3 1 6).bind fun v2 =>
    if v2 = 0 then
      F_X12_odds_B48 a0 a1 a2 a3 a4 a5 0 h
    else
      (F_X12_within a4 0 10).bind fun v4 =>
      if v4 = 0 then
        F_X12_odds_B48 a0 a1 a2 a3 a4 a5 0 h
      else
        (F_X12_within a5 0 1).bind fun v5 =>
        if v5 = 0 then
          F_X12_odds_B48 a0 a1 a2 a3 a4 a5 0 h
        else
          F_X12_odds_B48 a0 a1 a2 a3 a4 a5 1 h
theorem m_X12_odds {z0 : Int32} (a0 : Nat) (a1 : Int32) (a2 : Int32) (a3 : Int32) (a4 : Int32) (a5 : Int32) (h : abH) (hf : F_X12_odds a0 a1 a2 a3 a4 a5 h = some z0) : abM yX12_odds cX12_odds 7 (some .int) 7 0 0 [.ref a0, .int a1, .int a2, .int a3, .int a4, .int a5] h (some (.int z0)) h := by
  refine abM_of (ini := false) [some (.ref a0), some (.int a1), some (.int a2), some (.int a3), some (.int a4), some (.int a5), none] (by decide +kernel) (fun q => by first | rfl | cases q) (Nat.le_of_ble_eq_true rfl) rfl ?_
  unfold F_X12_odds at hf
  refine ab_aload_n 0 dX12_odds_0 rfl rfl ?_
  refine ab_iload_n 1 dX12_odds_1 rfl rfl ?_
  refine ab_iload_n 2 dX12_odds_2 rfl rfl ?_
  refine f_V_i (As := [.int a1, .int a2]) (st := []) cs_X12_183 (fun v q => m_X12_areTwo a0 a1 a2 h q) rfl rfl dX12_odds_3 (rmk rfl) hf (fun v1 hf => ?_)
  refine ab_if_ne 12 dX12_odds_6 (by decide) hf (fun hf => ?_) (fun hf => ?_)
  · refine ab_bipush dX12_odds_9 kbp_m101 ?_
    exact f_reti dX12_odds_11 rfl (Nat.le_refl 0) (Nat.le_refl 0) hf
  refine ab_iload_n 3 dX12_odds_12 rfl rfl ?_
  refine ab_iconst dX12_odds_13 kic_1 ?_
  refine ab_bipush dX12_odds_14 kbp_6 ?_
  refine f_S_i (As := [.int a3, .int 1, .int 6]) (st := []) cs_X12_83 (fun v q => m_X12_within a3 1 6 h q) rfl rfl dX12_odds_16 (rmk rfl) hf (fun v2 hf => ?_)
  refine ab_if_eq 47 dX12_odds_19 (by decide) hf (fun hf => ?_) (fun hf => ?_)
  · refine ab_iconst dX12_odds_47 kic_0 ?_
    exact ab_msk [true, true, true, true, true, true, true] (w_X12_odds_B48 a0 a1 a2 a3 a4 a5 0 h hf)
  refine ab_iload dX12_odds_22 rfl ?_
  refine ab_iconst dX12_odds_24 kic_0 ?_
  refine ab_bipush dX12_odds_25 kbp_10 ?_
  refine f_S_i (As := [.int a4, .int 0, .int 10]) (st := []) cs_X12_83 (fun v q => m_X12_within a4 0 10 h q) rfl rfl dX12_odds_27 (rmk rfl) hf (fun v4 hf => ?_)
  refine ab_if_eq 47 dX12_odds_30 (by decide) hf (fun hf => ?_) (fun hf => ?_)
  · refine ab_iconst dX12_odds_47 kic_0 ?_
    exact ab_msk [true, true, true, true, true, true, true] (w_X12_odds_B48 a0 a1 a2 a3 a4 a5 0 h hf)
  refine ab_iload dX12_odds_33 rfl ?_
  refine ab_iconst dX12_odds_35 kic_0 ?_
  refine ab_iconst dX12_odds_36 kic_1 ?_
  refine f_S_i (As := [.int a5, .int 0, .int 1]) (st := []) cs_X12_83 (fun v q => m_X12_within a5 0 1 h q) rfl rfl dX12_odds_37 (rmk rfl) hf (fun v5 hf => ?_)
  refine ab_if_eq 47 dX12_odds_40 (by decide) hf (fun hf => ?_) (fun hf => ?_)
  · refine ab_iconst dX12_odds_47 kic_0 ?_
    exact ab_msk [true, true, true, true, true, true, true] (w_X12_odds_B48 a0 a1 a2 a3 a4 a5 0 h hf)
  refine ab_iconst dX12_odds_43 kic_1 ?_
  refine ab_goto 48 dX12_odds_44 (by decide) ?_
  exact ab_msk [true, true, true, true, true, true, true] (w_X12_odds_B48 a0 a1 a2 a3 a4 a5 1 h hf)
def F_X12_see_B94 (x0 : Nat) (y0 : Nat) (y1 : Int32) (y2 : Int32) (h : abH) : Option (Int32 × abH) :=
  (sa 0 h y0 y1 y2).bind fun h16 =>
  (gI 12 h16 x0 11).bind fun v17 =>
  (sV 12 h16 x0 11 (.int (v17 + 1))).bind fun h18 =>
  (gI 12 h18 x0 11).bind fun v19 =>
  some (v19, h18)
theorem w_X12_see_B94 {z0 : Int32} {hz : abH} (x0 : Nat) (y0 : Nat) (y1 : Int32) (y2 : Int32) (h : abH)   (hf : F_X12_see_B94 x0 y0 y1 y2 h = some (z0, hz)) : abW cX12_see 5 RX12 (some .int) false 3 0 0 none (some (.int z0), hz) 94 [some (.ref x0), none, none, none, none] [.int y2, .int y1, .ref y0] h 0 0 := by
  unfold F_X12_see_B94 at hf
  refine f_iast dX12_see_94 hf (fun h16 hf => ?_)
  refine ab_aload_n 0 dX12_see_95 rfl rfl ?_
  refine ab_dup dX12_see_96 rfl ?_
  refine f_getI fs_X12_131 dX12_see_97 hf (fun v17 hf => ?_)
  refine ab_iconst dX12_see_100 kic_1 ?_
  refine ab_iadd dX12_see_101 ?_
  refine f_put fp_X12_131 (abFit_i _) dX12_see_102 hf (fun h18 hf => ?_)
  refine ab_aload_n 0 dX12_see_105 rfl rfl ?_
  refine f_getI fs_X12_131 dX12_see_106 hf (fun v19 hf => ?_)
  exact f_reti2 dX12_see_109 rfl (Nat.le_refl 0) (Nat.le_refl 0) hf
def F_X12_see (a0 : Nat) (a1 : Int32) (a2 : Int32) (a3 : Int32) (a4 : Int32) (h : abH) : Option (Int32 × abH) :=
  (ko 12 h a0).bind fun _ => (F_X12_isParty a0 a1 h).bind fun v1 =>
  if v1 = 0 then
    some ((-101), h)
  else
    (F_X12_within a2 0 12).bind fun v2 =>
    if v2 = 0 then
      some ((-102), h)
    else
      (F_X12_within a3 0 9).bind fun v3 =>
      if v3 = 0 then
        some ((-102), h)
      else
        (gI 12 h a0 11).bind fun v4 =>
        if v4 = 8 then
          some ((-104), h)
        else
          (gR 12 h a0 12).bind fun v5 =>
          (gI 12 h a0 11).bind fun v6 =>
          (sa 0 h v5 v6 a1).bind fun h7 =>
          (gR 12 h7 a0 13).bind fun v8 =>
          (gI 12 h7 a0 11).bind fun v9 =>
          (sa 0 h7 v8 v9 a2).bind fun h10 =>
          (gR 12 h10 a0 14).bind fun v11 =>
          (gI 12 h10 a0 11).bind fun v12 =>
          (sa 0 h10 v11 v12 a3).bind fun h13 =>
          (gR 12 h13 a0 15).bind fun v14 =>
          (gI 12 h13 a0 11).bind fun v15 =>
          if a4 = 0 then
            F_X12_see_B94 a0 v14 v15 0 h13
          else
            F_X12_see_B94 a0 v14 v15 1 h13
theorem m_X12_see {z0 : Int32} {hz : abH} (a0 : Nat) (a1 : Int32) (a2 : Int32) (a3 : Int32) (a4 : Int32) (h : abH) (hf : F_X12_see a0 a1 a2 a3 a4 h = some (z0, hz)) : abM yX12_see cX12_see 5 (some .int) 3 0 0 [.ref a0, .int a1, .int a2, .int a3, .int a4] h (some (.int z0)) hz := by
  refine abM_of (ini := false) [some (.ref a0), some (.int a1), some (.int a2), some (.int a3), some (.int a4)] (by decide +kernel) (fun q => by first | rfl | cases q) (Nat.le_of_ble_eq_true rfl) rfl ?_
  unfold F_X12_see at hf
  refine ab_aload_n 0 dX12_see_0 rfl rfl ?_
  refine ab_iload_n 1 dX12_see_1 rfl rfl ?_
  refine f_V_i (As := [.int a1]) (st := []) cs_X12_134 (fun v q => m_X12_isParty a0 a1 h q) rfl rfl dX12_see_2 (rmk rfl) hf (fun v1 hf => ?_)
  refine ab_if_ne 11 dX12_see_5 (by decide) hf (fun hf => ?_) (fun hf => ?_)
  · refine ab_bipush dX12_see_8 kbp_m101 ?_
    exact f_reti2 dX12_see_10 rfl (Nat.le_refl 0) (Nat.le_refl 0) hf
  refine ab_iload_n 2 dX12_see_11 rfl rfl ?_
  refine ab_iconst dX12_see_12 kic_0 ?_
  refine ab_bipush dX12_see_13 kbp_12 ?_
  refine f_S_i (As := [.int a2, .int 0, .int 12]) (st := []) cs_X12_83 (fun v q => m_X12_within a2 0 12 h q) rfl rfl dX12_see_15 (rmk rfl) hf (fun v2 hf => ?_)
  refine ab_if_eq 31 dX12_see_18 (by decide) hf (fun hf => ?_) (fun hf => ?_)
  · refine ab_bipush dX12_see_31 kbp_m102 ?_
    exact f_reti2 dX12_see_33 rfl (Nat.le_refl 0) (Nat.le_refl 0) hf
  refine ab_iload_n 3 dX12_see_21 rfl rfl ?_
  refine ab_iconst dX12_see_22 kic_0 ?_
  refine ab_bipush dX12_see_23 kbp_9 ?_
  refine f_S_i (As := [.int a3, .int 0, .int 9]) (st := []) cs_X12_83 (fun v q => m_X12_within a3 0 9 h q) rfl rfl dX12_see_25 (rmk rfl) hf (fun v3 hf => ?_)
  refine ab_if_ne 34 dX12_see_28 (by decide) hf (fun hf => ?_) (fun hf => ?_)
  · refine ab_bipush dX12_see_31 kbp_m102 ?_
    exact f_reti2 dX12_see_33 rfl (Nat.le_refl 0) (Nat.le_refl 0) hf
  refine ab_aload_n 0 dX12_see_34 rfl rfl ?_
  refine f_getI fs_X12_131 dX12_see_35 hf (fun v4 hf => ?_)
  refine ab_bipush dX12_see_38 kbp_8 ?_
  refine ab_icmp_ne 46 dX12_see_40 (by decide) hf (fun hf => ?_) (fun hf => ?_)
  · refine ab_bipush dX12_see_43 kbp_m104 ?_
    exact f_reti2 dX12_see_45 rfl (Nat.le_refl 0) (Nat.le_refl 0) hf
  refine ab_aload_n 0 dX12_see_46 rfl rfl ?_
  refine f_getR fs_X12_28 dX12_see_47 hf (fun v5 hf => ?_)
  refine ab_aload_n 0 dX12_see_50 rfl rfl ?_
  refine f_getI fs_X12_131 dX12_see_51 hf (fun v6 hf => ?_)
  refine ab_iload_n 1 dX12_see_54 rfl rfl ?_
  refine f_iast dX12_see_55 hf (fun h7 hf => ?_)
  refine ab_aload_n 0 dX12_see_56 rfl rfl ?_
  refine f_getR fs_X12_31 dX12_see_57 hf (fun v8 hf => ?_)
  refine ab_aload_n 0 dX12_see_60 rfl rfl ?_
  refine f_getI fs_X12_131 dX12_see_61 hf (fun v9 hf => ?_)
  refine ab_iload_n 2 dX12_see_64 rfl rfl ?_
  refine f_iast dX12_see_65 hf (fun h10 hf => ?_)
  refine ab_aload_n 0 dX12_see_66 rfl rfl ?_
  refine f_getR fs_X12_34 dX12_see_67 hf (fun v11 hf => ?_)
  refine ab_aload_n 0 dX12_see_70 rfl rfl ?_
  refine f_getI fs_X12_131 dX12_see_71 hf (fun v12 hf => ?_)
  refine ab_iload_n 3 dX12_see_74 rfl rfl ?_
  refine f_iast dX12_see_75 hf (fun h13 hf => ?_)
  refine ab_aload_n 0 dX12_see_76 rfl rfl ?_
  refine f_getR fs_X12_37 dX12_see_77 hf (fun v14 hf => ?_)
  refine ab_aload_n 0 dX12_see_80 rfl rfl ?_
  refine f_getI fs_X12_131 dX12_see_81 hf (fun v15 hf => ?_)
  refine ab_iload dX12_see_84 rfl ?_
  refine ab_if_eq 93 dX12_see_86 (by decide) hf (fun hf => ?_) (fun hf => ?_)
  · refine ab_iconst dX12_see_93 kic_0 ?_
    exact ab_msk [true, false, false, false, false] (w_X12_see_B94 a0 v14 v15 0 h13 hf)
  refine ab_iconst dX12_see_89 kic_1 ?_
  refine ab_goto 94 dX12_see_90 (by decide) ?_
  exact ab_msk [true, false, false, false, false] (w_X12_see_B94 a0 v14 v15 1 h13 hf)
def F_X12_forget (a0 : Nat) (h : abH) : Option (Int32 × abH) :=
  (gI 12 h a0 11).bind fun v1 =>
  (sV 12 h a0 11 (.int 0)).bind fun h2 =>
  some (v1, h2)
theorem m_X12_forget {z0 : Int32} {hz : abH} (a0 : Nat) (h : abH) (hf : F_X12_forget a0 h = some (z0, hz)) : abM yX12_forget cX12_forget 2 (some .int) 1 0 0 [.ref a0] h (some (.int z0)) hz := by
  refine abM_of (ini := false) [some (.ref a0), none] (by decide +kernel) (fun q => by first | rfl | cases q) (Nat.le_of_ble_eq_true rfl) rfl ?_
  unfold F_X12_forget at hf
  refine ab_aload_n 0 dX12_forget_0 rfl rfl ?_
  refine f_getI fs_X12_131 dX12_forget_1 hf (fun v1 hf => ?_)
  refine ab_istore_n 1 [some (.ref a0), some (.int v1)] dX12_forget_4 rfl (by decide) rfl rfl ?_
  refine ab_aload_n 0 dX12_forget_5 rfl rfl ?_
  refine ab_iconst dX12_forget_6 kic_0 ?_
  refine f_put fp_X12_131 (abFit_i _) dX12_forget_7 hf (fun h2 hf => ?_)
  refine ab_iload_n 1 dX12_forget_10 rfl rfl ?_
  exact f_reti2 dX12_forget_11 rfl (Nat.le_refl 0) (Nat.le_refl 0) hf
def F_X12_draw (a0 : Nat) (a1 : Int32) (h : abH) : Option (Int32 × abH) :=
  (gJ 12 h a0 24).bind fun v1 =>
  (sV 12 h a0 24 (.long (((1103515245 * v1) + 12345) &&& 2147483647))).bind fun h2 =>
  (gJ 12 h2 a0 24).bind fun v3 =>
  dzl 65536 <|
  dzl a1.toInt64 <|
  some (((v3 / 65536) - (v3 / 65536) / a1.toInt64 * a1.toInt64).toInt32, h2)
theorem m_X12_draw {z0 : Int32} {hz : abH} (a0 : Nat) (a1 : Int32) (h : abH) (hf : F_X12_draw a0 a1 h = some (z0, hz)) : abM yX12_draw cX12_draw 2 (some .int) 1 0 0 [.ref a0, .int a1] h (some (.int z0)) hz := by
  refine abM_of (ini := false) [some (.ref a0), some (.int a1)] (by decide +kernel) (fun q => by first | rfl | cases q) (Nat.le_of_ble_eq_true rfl) rfl ?_
  unfold F_X12_draw at hf
  refine ab_aload_n 0 dX12_draw_0 rfl rfl ?_
  refine ab_ldc2 (v := 1103515245) tb_1108 dX12_draw_1 ?_
  refine ab_aload_n 0 dX12_draw_4 rfl rfl ?_
  refine f_getJ fs_X12_248 dX12_draw_5 hf (fun v1 hf => ?_)
  refine ab_lmul dX12_draw_8 ?_
  refine ab_ldc2 (v := 12345) tb_1109 dX12_draw_9 ?_
  refine ab_ladd dX12_draw_12 ?_
  refine ab_ldc2 (v := 2147483647) tb_1110 dX12_draw_13 ?_
  refine ab_land dX12_draw_16 ?_
  refine f_put fp_X12_248 (abFit_l _) dX12_draw_17 hf (fun h2 hf => ?_)
  refine ab_aload_n 0 dX12_draw_20 rfl rfl ?_
  refine f_getJ fs_X12_248 dX12_draw_21 hf (fun v3 hf => ?_)
  refine ab_ldc2 (v := 65536) tb_1111 dX12_draw_24 ?_
  refine f_ldiv dX12_draw_27 hf (fun hf => ?_)
  refine ab_iload_n 1 dX12_draw_28 rfl rfl ?_
  refine ab_i2l dX12_draw_29 ?_
  refine f_lrem dX12_draw_30 hf (fun hf => ?_)
  refine ab_l2i dX12_draw_31 ?_
  exact f_reti2 dX12_draw_32 rfl (Nat.le_refl 0) (Nat.le_refl 0) hf
def F_X12_termsNow_B76 (x0 : Nat) (x1 : Int32) (x3 : Int32) (x5 : Int32) (x6 : Int32) (x7 : Int32) (x8 : Int32) (x9 : Int32) (y0 : Int32) (y1 : Int32) (h : abH) (k15 : Int32 → Int32 → Int32 → abH → Option (Int32 × abH)) : Option (Int32 × abH) :=
  nm (y0 + y1) fun v12 =>
  if x7 = x8 then
    nm (x5 + 0) fun v13 =>
    k15 v12 v13 (x6 + 1) h
  else
    if x9 = 0 then
      nm (x5 + 1) fun v15 =>
      k15 v12 v15 (x6 + 1) h
    else
      nm (x5 + 0) fun v14 =>
      k15 v12 v14 (x6 + 1) h
theorem w_X12_termsNow_B76 {z0 : Int32} {hz : abH} (x0 : Nat) (x1 : Int32) (x3 : Int32) (x5 : Int32) (x6 : Int32) (x7 : Int32) (x8 : Int32) (x9 : Int32) (y0 : Int32) (y1 : Int32) (h : abH) (k15 : Int32 → Int32 → Int32 → abH → Option (Int32 × abH)) (hk15 : ∀ (w4 : Int32) (w5 : Int32) (w6 : Int32) (hw : abH), k15 w4 w5 w6 hw = some (z0, hz) → abW cX12_termsNow 10 RX12 (some .int) false 6 0 0 none (some (.int z0), hz) 15 [some (.ref x0), some (.int x1), none, some (.int x3), some (.int w4), some (.int w5), some (.int w6), none, none, none] [] hw 0 0) (hf : F_X12_termsNow_B76 x0 x1 x3 x5 x6 x7 x8 x9 y0 y1 h k15 = some (z0, hz)) : abW cX12_termsNow 10 RX12 (some .int) false 6 0 0 none (some (.int z0), hz) 76 [some (.ref x0), some (.int x1), none, some (.int x3), none, some (.int x5), some (.int x6), some (.int x7), some (.int x8), some (.int x9)] [.int y1, .int y0] h 0 0 := by
  unfold F_X12_termsNow_B76 at hf
  refine ab_iadd dX12_termsNow_76 ?_
  refine ab_nmi hf (fun v12 hf => ?_)
  refine ab_istore [some (.ref x0), some (.int x1), none, some (.int x3), some (.int v12), some (.int x5), some (.int x6), some (.int x7), some (.int x8), some (.int x9)] dX12_termsNow_77 (by decide) rfl rfl ?_
  refine ab_iload dX12_termsNow_79 rfl ?_
  refine ab_iload dX12_termsNow_81 rfl ?_
  refine ab_iload dX12_termsNow_83 rfl ?_
  refine ab_icmp_eq 97 dX12_termsNow_85 (by decide) hf (fun hf => ?_) (fun hf => ?_)
  · refine ab_iconst dX12_termsNow_97 kic_0 ?_
    refine ab_iadd dX12_termsNow_98 ?_
    refine ab_nmi hf (fun v13 hf => ?_)
    refine ab_istore [some (.ref x0), some (.int x1), none, some (.int x3), some (.int v12), some (.int v13), some (.int x6), some (.int x7), some (.int x8), some (.int x9)] dX12_termsNow_99 (by decide) rfl rfl ?_
    refine ab_iinc (v := x6 + 1) [some (.ref x0), some (.int x1), none, some (.int x3), some (.int v12), some (.int v13), some (.int (x6 + 1)), some (.int x7), some (.int x8), some (.int x9)] dX12_termsNow_101 rfl (kinc_1 _) (by decide) rfl rfl ?_
    refine ab_goto 15 dX12_termsNow_104 (by decide) ?_
    exact ab_msk [true, true, true, true, true, true, true, false, false, false] (hk15 v12 v13 (x6 + 1) h hf)
  refine ab_iload dX12_termsNow_88 rfl ?_
  refine ab_if_ne 97 dX12_termsNow_90 (by decide) hf (fun hf => ?_) (fun hf => ?_)
  · refine ab_iconst dX12_termsNow_93 kic_1 ?_
    refine ab_goto 98 dX12_termsNow_94 (by decide) ?_
    refine ab_iadd dX12_termsNow_98 ?_
    refine ab_nmi hf (fun v15 hf => ?_)
    refine ab_istore [some (.ref x0), some (.int x1), none, some (.int x3), some (.int v12), some (.int v15), some (.int x6), some (.int x7), some (.int x8), some (.int x9)] dX12_termsNow_99 (by decide) rfl rfl ?_
    refine ab_iinc (v := x6 + 1) [some (.ref x0), some (.int x1), none, some (.int x3), some (.int v12), some (.int v15), some (.int (x6 + 1)), some (.int x7), some (.int x8), some (.int x9)] dX12_termsNow_101 rfl (kinc_1 _) (by decide) rfl rfl ?_
    refine ab_goto 15 dX12_termsNow_104 (by decide) ?_
    exact ab_msk [true, true, true, true, true, true, true, false, false, false] (hk15 v12 v15 (x6 + 1) h hf)
  refine ab_iconst dX12_termsNow_97 kic_0 ?_
  refine ab_iadd dX12_termsNow_98 ?_
  refine ab_nmi hf (fun v14 hf => ?_)
  refine ab_istore [some (.ref x0), some (.int x1), none, some (.int x3), some (.int v12), some (.int v14), some (.int x6), some (.int x7), some (.int x8), some (.int x9)] dX12_termsNow_99 (by decide) rfl rfl ?_
  refine ab_iinc (v := x6 + 1) [some (.ref x0), some (.int x1), none, some (.int x3), some (.int v12), some (.int v14), some (.int (x6 + 1)), some (.int x7), some (.int x8), some (.int x9)] dX12_termsNow_101 rfl (kinc_1 _) (by decide) rfl rfl ?_
  refine ab_goto 15 dX12_termsNow_104 (by decide) ?_
  exact ab_msk [true, true, true, true, true, true, true, false, false, false] (hk15 v12 v14 (x6 + 1) h hf)
def F_X12_termsNow_B15 (x0 : Nat) (x1 : Int32) (x3 : Int32) : Nat → Int32 → Int32 → Int32 → abH → Option (Int32 × abH)
  | 0, _, _, _, _ => none
  | n + 1, x4, x5, x6, h =>
    if x6 < x1 then
      (gI 12 h x0 1).bind fun v3 =>
      (ko 12 h x0).bind fun _ => bd2 (F_X12_draw x0 v3 h) fun v5 h4 =>
      (gI 12 h4 x0 1).bind fun v6 =>
      (ko 12 h4 x0).bind fun _ => bd2 (F_X12_draw x0 v6 h4) fun v8 h7 =>
      (ko 12 h7 x0).bind fun _ => bd2 (F_X12_draw x0 13 h7) fun v10 h9 =>
      (ko 12 h9 x0).bind fun _ => (F_X12_foundIn x0 v5 v8 v10 h9).bind fun v11 =>
      if v5 = v8 then
        F_X12_termsNow_B76 x0 x1 x3 x5 x6 v5 v8 v11 x4 0 h9 (fun u4 u5 u6 hu => F_X12_termsNow_B15 x0 x1 x3 n u4 u5 u6 hu)
      else
        if v11 ≤ 0 then
          F_X12_termsNow_B76 x0 x1 x3 x5 x6 v5 v8 v11 x4 0 h9 (fun u4 u5 u6 hu => F_X12_termsNow_B15 x0 x1 x3 n u4 u5 u6 hu)
        else
          F_X12_termsNow_B76 x0 x1 x3 x5 x6 v5 v8 v11 x4 1 h9 (fun u4 u5 u6 hu => F_X12_termsNow_B15 x0 x1 x3 n u4 u5 u6 hu)
    else
      if x3 = 0 then
        some (x4, h)
      else
        if x3 = 1 then
          some (x5, h)
        else
          (gJ 12 h x0 24).bind fun v2 =>
          some (v2.toInt32, h)
theorem w_X12_termsNow_B15 {z0 : Int32} {hz : abH} (x0 : Nat) (x1 : Int32) (x3 : Int32)   : ∀ (n : Nat) (x4 : Int32) (x5 : Int32) (x6 : Int32) (h : abH), F_X12_termsNow_B15 x0 x1 x3 n x4 x5 x6 h = some (z0, hz) → abW cX12_termsNow 10 RX12 (some .int) false 6 0 0 none (some (.int z0), hz) 15 [some (.ref x0), some (.int x1), none, some (.int x3), some (.int x4), some (.int x5), some (.int x6), none, none, none] [] h 0 0 := by
  intro n
  induction n with
  | zero =>
    intro x4 x5 x6 h hf
    exact absurd (show (none : Option (Int32 × abH)) = some _ from hf) (by simp)
  | succ n ih =>
    intro x4 x5 x6 h hf
    rw [F_X12_termsNow_B15.eq_2] at hf
    refine ab_iload dX12_termsNow_15 rfl ?_
    refine ab_iload_n 1 dX12_termsNow_17 rfl rfl ?_
    refine ab_icmp_ge 107 dX12_termsNow_18 (by decide) hf (fun hf => ?_) (fun hf => ?_)
    · refine ab_aload_n 0 dX12_termsNow_21 rfl rfl ?_
      refine ab_aload_n 0 dX12_termsNow_22 rfl rfl ?_
      refine f_getI fs_X12_116 dX12_termsNow_23 hf (fun v3 hf => ?_)
      refine f_V_i2 (As := [.int v3]) (st := []) cs_X12_258 (fun v hq q => m_X12_draw x0 v3 h q) rfl rfl dX12_termsNow_26 (rmk rfl) hf (fun v5 h4 hf => ?_)
      refine ab_istore [some (.ref x0), some (.int x1), none, some (.int x3), some (.int x4), some (.int x5), some (.int x6), some (.int v5), none, none] dX12_termsNow_29 (by decide) rfl rfl ?_
      refine ab_aload_n 0 dX12_termsNow_31 rfl rfl ?_
      refine ab_aload_n 0 dX12_termsNow_32 rfl rfl ?_
      refine f_getI fs_X12_116 dX12_termsNow_33 hf (fun v6 hf => ?_)
      refine f_V_i2 (As := [.int v6]) (st := []) cs_X12_258 (fun v hq q => m_X12_draw x0 v6 h4 q) rfl rfl dX12_termsNow_36 (rmk rfl) hf (fun v8 h7 hf => ?_)
      refine ab_istore [some (.ref x0), some (.int x1), none, some (.int x3), some (.int x4), some (.int x5), some (.int x6), some (.int v5), some (.int v8), none] dX12_termsNow_39 (by decide) rfl rfl ?_
      refine ab_aload_n 0 dX12_termsNow_41 rfl rfl ?_
      refine ab_iload dX12_termsNow_42 rfl ?_
      refine ab_iload dX12_termsNow_44 rfl ?_
      refine ab_aload_n 0 dX12_termsNow_46 rfl rfl ?_
      refine ab_bipush dX12_termsNow_47 kbp_13 ?_
      refine f_V_i2 (As := [.int 13]) (st := [.int v8, .int v5, .ref x0]) cs_X12_258 (fun v hq q => m_X12_draw x0 13 h7 q) rfl rfl dX12_termsNow_49 (rmk rfl) hf (fun v10 h9 hf => ?_)
      refine f_V_i (As := [.int v5, .int v8, .int v10]) (st := []) cs_X12_186 (fun v q => m_X12_foundIn x0 v5 v8 v10 h9 q) rfl rfl dX12_termsNow_52 (rmk rfl) hf (fun v11 hf => ?_)
      refine ab_istore [some (.ref x0), some (.int x1), none, some (.int x3), some (.int x4), some (.int x5), some (.int x6), some (.int v5), some (.int v8), some (.int v11)] dX12_termsNow_55 (by decide) rfl rfl ?_
      refine ab_iload dX12_termsNow_57 rfl ?_
      refine ab_iload dX12_termsNow_59 rfl ?_
      refine ab_iload dX12_termsNow_61 rfl ?_
      refine ab_icmp_eq 75 dX12_termsNow_63 (by decide) hf (fun hf => ?_) (fun hf => ?_)
      · refine ab_iconst dX12_termsNow_75 kic_0 ?_
        exact ab_msk [true, true, true, true, false, true, true, true, true, true] (w_X12_termsNow_B76 x0 x1 x3 x5 x6 v5 v8 v11 x4 0 h9 (fun u4 u5 u6 hu => F_X12_termsNow_B15 x0 x1 x3 n u4 u5 u6 hu) (fun u4 u5 u6 hu hf => ih u4 u5 u6 hu hf) hf)
      refine ab_iload dX12_termsNow_66 rfl ?_
      refine ab_if_le 75 dX12_termsNow_68 (by decide) hf (fun hf => ?_) (fun hf => ?_)
      · refine ab_iconst dX12_termsNow_75 kic_0 ?_
        exact ab_msk [true, true, true, true, false, true, true, true, true, true] (w_X12_termsNow_B76 x0 x1 x3 x5 x6 v5 v8 v11 x4 0 h9 (fun u4 u5 u6 hu => F_X12_termsNow_B15 x0 x1 x3 n u4 u5 u6 hu) (fun u4 u5 u6 hu hf => ih u4 u5 u6 hu hf) hf)
      refine ab_iconst dX12_termsNow_71 kic_1 ?_
      refine ab_goto 76 dX12_termsNow_72 (by decide) ?_
      exact ab_msk [true, true, true, true, false, true, true, true, true, true] (w_X12_termsNow_B76 x0 x1 x3 x5 x6 v5 v8 v11 x4 1 h9 (fun u4 u5 u6 hu => F_X12_termsNow_B15 x0 x1 x3 n u4 u5 u6 hu) (fun u4 u5 u6 hu hf => ih u4 u5 u6 hu hf) hf)
    refine ab_iload_n 3 dX12_termsNow_107 rfl rfl ?_
    refine ab_if_ne 116 dX12_termsNow_108 (by decide) hf (fun hf => ?_) (fun hf => ?_)
    · refine ab_iload dX12_termsNow_111 rfl ?_
      refine ab_goto 131 dX12_termsNow_113 (by decide) ?_
      exact f_reti2 dX12_termsNow_131 rfl (Nat.le_refl 0) (Nat.le_refl 0) hf
    refine ab_iload_n 3 dX12_termsNow_116 rfl rfl ?_
    refine ab_iconst dX12_termsNow_117 kic_1 ?_
    refine ab_icmp_ne 126 dX12_termsNow_118 (by decide) hf (fun hf => ?_) (fun hf => ?_)
    · refine ab_iload dX12_termsNow_121 rfl ?_
      refine ab_goto 131 dX12_termsNow_123 (by decide) ?_
      exact f_reti2 dX12_termsNow_131 rfl (Nat.le_refl 0) (Nat.le_refl 0) hf
    refine ab_aload_n 0 dX12_termsNow_126 rfl rfl ?_
    refine f_getJ fs_X12_248 dX12_termsNow_127 hf (fun v2 hf => ?_)
    refine ab_l2i dX12_termsNow_130 ?_
    exact f_reti2 dX12_termsNow_131 rfl (Nat.le_refl 0) (Nat.le_refl 0) hf
def F_X12_termsNow (a0 : Nat) (a1 : Int32) (a2 : Int32) (a3 : Int32) (h : abH) : Option (Int32 × abH) :=
  (sV 12 h a0 24 (.long a2.toInt64)).bind fun h1 =>
  F_X12_termsNow_B15 a0 a1 a3 200 0 0 0 h1
theorem m_X12_termsNow {z0 : Int32} {hz : abH} (a0 : Nat) (a1 : Int32) (a2 : Int32) (a3 : Int32) (h : abH) (hf : F_X12_termsNow a0 a1 a2 a3 h = some (z0, hz)) : abM yX12_termsNow cX12_termsNow 10 (some .int) 6 0 0 [.ref a0, .int a1, .int a2, .int a3] h (some (.int z0)) hz := by
  refine abM_of (ini := false) [some (.ref a0), some (.int a1), some (.int a2), some (.int a3), none, none, none, none, none, none] (by decide +kernel) (fun q => by first | rfl | cases q) (Nat.le_of_ble_eq_true rfl) rfl ?_
  unfold F_X12_termsNow at hf
  refine ab_aload_n 0 dX12_termsNow_0 rfl rfl ?_
  refine ab_iload_n 2 dX12_termsNow_1 rfl rfl ?_
  refine ab_i2l dX12_termsNow_2 ?_
  refine f_put fp_X12_248 (abFit_l _) dX12_termsNow_3 hf (fun h1 hf => ?_)
  refine ab_iconst dX12_termsNow_6 kic_0 ?_
  refine ab_istore [some (.ref a0), some (.int a1), some (.int a2), some (.int a3), some (.int 0), none, none, none, none, none] dX12_termsNow_7 (by decide) rfl rfl ?_
  refine ab_iconst dX12_termsNow_9 kic_0 ?_
  refine ab_istore [some (.ref a0), some (.int a1), some (.int a2), some (.int a3), some (.int 0), some (.int 0), none, none, none, none] dX12_termsNow_10 (by decide) rfl rfl ?_
  refine ab_iconst dX12_termsNow_12 kic_0 ?_
  refine ab_istore [some (.ref a0), some (.int a1), some (.int a2), some (.int a3), some (.int 0), some (.int 0), some (.int 0), none, none, none] dX12_termsNow_13 (by decide) rfl rfl ?_
  exact ab_msk [true, true, false, true, true, true, true, true, true, true] (w_X12_termsNow_B15 a0 a1 a3 200 0 0 0 h1 hf)
def F_X12_terms (a0 : Nat) (a1 : Int32) (a2 : Int32) (a3 : Int32) (h : abH) : Option (Int32 × abH) :=
  (F_X12_within a1 1 60).bind fun v1 =>
  if v1 = 0 then
    some ((-102), h)
  else
    if a2 < 0 then
      some ((-102), h)
    else
      (F_X12_within a3 0 2).bind fun v2 =>
      if v2 = 0 then
        some ((-102), h)
      else
        (gI 12 h a0 1).bind fun v3 =>
        if v3 = 0 then
          some ((-103), h)
        else
          (ko 12 h a0).bind fun _ => bd2 (F_X12_termsNow a0 a1 a2 a3 h) fun v5 h4 =>
          some (v5, h4)
theorem m_X12_terms {z0 : Int32} {hz : abH} (a0 : Nat) (a1 : Int32) (a2 : Int32) (a3 : Int32) (h : abH) (hf : F_X12_terms a0 a1 a2 a3 h = some (z0, hz)) : abM yX12_terms cX12_terms 4 (some .int) 7 0 0 [.ref a0, .int a1, .int a2, .int a3] h (some (.int z0)) hz := by
  refine abM_of (ini := false) [some (.ref a0), some (.int a1), some (.int a2), some (.int a3)] (by decide +kernel) (fun q => by first | rfl | cases q) (Nat.le_of_ble_eq_true rfl) rfl ?_
  unfold F_X12_terms at hf
  refine ab_iload_n 1 dX12_terms_0 rfl rfl ?_
  refine ab_iconst dX12_terms_1 kic_1 ?_
  refine ab_bipush dX12_terms_2 kbp_60 ?_
  refine f_S_i (As := [.int a1, .int 1, .int 60]) (st := []) cs_X12_83 (fun v q => m_X12_within a1 1 60 h q) rfl rfl dX12_terms_4 (rmk rfl) hf (fun v1 hf => ?_)
  refine ab_if_eq 23 dX12_terms_7 (by decide) hf (fun hf => ?_) (fun hf => ?_)
  · refine ab_bipush dX12_terms_23 kbp_m102 ?_
    exact f_reti2 dX12_terms_25 rfl (Nat.le_refl 0) (Nat.le_refl 0) hf
  refine ab_iload_n 2 dX12_terms_10 rfl rfl ?_
  refine ab_if_lt 23 dX12_terms_11 (by decide) hf (fun hf => ?_) (fun hf => ?_)
  · refine ab_bipush dX12_terms_23 kbp_m102 ?_
    exact f_reti2 dX12_terms_25 rfl (Nat.le_refl 0) (Nat.le_refl 0) hf
  refine ab_iload_n 3 dX12_terms_14 rfl rfl ?_
  refine ab_iconst dX12_terms_15 kic_0 ?_
  refine ab_iconst dX12_terms_16 kic_2 ?_
  refine f_S_i (As := [.int a3, .int 0, .int 2]) (st := []) cs_X12_83 (fun v q => m_X12_within a3 0 2 h q) rfl rfl dX12_terms_17 (rmk rfl) hf (fun v2 hf => ?_)
  refine ab_if_ne 26 dX12_terms_20 (by decide) hf (fun hf => ?_) (fun hf => ?_)
  · refine ab_bipush dX12_terms_23 kbp_m102 ?_
    exact f_reti2 dX12_terms_25 rfl (Nat.le_refl 0) (Nat.le_refl 0) hf
  refine ab_aload_n 0 dX12_terms_26 rfl rfl ?_
  refine f_getI fs_X12_116 dX12_terms_27 hf (fun v3 hf => ?_)
  refine ab_if_ne 38 dX12_terms_30 (by decide) hf (fun hf => ?_) (fun hf => ?_)
  · refine ab_bipush dX12_terms_33 kbp_m103 ?_
    refine ab_goto 45 dX12_terms_35 (by decide) ?_
    exact f_reti2 dX12_terms_45 rfl (Nat.le_refl 0) (Nat.le_refl 0) hf
  refine ab_aload_n 0 dX12_terms_38 rfl rfl ?_
  refine ab_iload_n 1 dX12_terms_39 rfl rfl ?_
  refine ab_iload_n 2 dX12_terms_40 rfl rfl ?_
  refine ab_iload_n 3 dX12_terms_41 rfl rfl ?_
  refine f_V_i2 (As := [.int a1, .int a2, .int a3]) (st := []) cs_X12_261 (fun v hq q => m_X12_termsNow a0 a1 a2 a3 h q) rfl rfl dX12_terms_42 (rmk rfl) hf (fun v5 h4 hf => ?_)
  exact f_reti2 dX12_terms_45 rfl (Nat.le_refl 0) (Nat.le_refl 0) hf
def F_X12_image_B144 (x0 : Nat) : Nat → Int32 → abH → Option (Int32 × abH)
  | 0, _, _ => none
  | n + 1, x1, h =>
    if x1 < 8 then
      (gR 12 h x0 36).bind fun v15 =>
      (gR 12 h x0 12).bind fun v16 =>
      (ga 0 h v16 x1).bind fun v17 =>
      (sa 0 h v15 x1 v17).bind fun h18 =>
      (gR 12 h18 x0 37).bind fun v19 =>
      (gR 12 h18 x0 13).bind fun v20 =>
      (ga 0 h18 v20 x1).bind fun v21 =>
      (sa 0 h18 v19 x1 v21).bind fun h22 =>
      (gR 12 h22 x0 38).bind fun v23 =>
      (gR 12 h22 x0 14).bind fun v24 =>
      (ga 0 h22 v24 x1).bind fun v25 =>
      (sa 0 h22 v23 x1 v25).bind fun h26 =>
      (gR 12 h26 x0 39).bind fun v27 =>
      (gR 12 h26 x0 15).bind fun v28 =>
      (ga 0 h26 v28 x1).bind fun v29 =>
      (sa 0 h26 v27 x1 v29).bind fun h30 =>
      F_X12_image_B144 x0 n (x1 + 1) h30
    else
      (gI 12 h x0 7).bind fun v13 =>
      (gI 12 h x0 6).bind fun v14 =>
      some ((13 * v13) + v14, h)
theorem w_X12_image_B144 {z0 : Int32} {hz : abH} (x0 : Nat)   : ∀ (n : Nat) (x1 : Int32) (h : abH), F_X12_image_B144 x0 n x1 h = some (z0, hz) → abW cX12_image 2 RX12 (some .int) false 1 0 0 none (some (.int z0), hz) 144 [some (.ref x0), some (.int x1)] [] h 0 0 := by
  intro n
  induction n with
  | zero =>
    intro x1 h hf
    exact absurd (show (none : Option (Int32 × abH)) = some _ from hf) (by simp)
  | succ n ih =>
    intro x1 h hf
    rw [F_X12_image_B144.eq_2] at hf
    refine ab_iload_n 1 dX12_image_144 rfl rfl ?_
    refine ab_bipush dX12_image_145 kbp_8 ?_
    refine ab_icmp_ge 204 dX12_image_147 (by decide) hf (fun hf => ?_) (fun hf => ?_)
    · refine ab_aload_n 0 dX12_image_150 rfl rfl ?_
      refine f_getR fs_X12_71 dX12_image_151 hf (fun v15 hf => ?_)
      refine ab_iload_n 1 dX12_image_154 rfl rfl ?_
      refine ab_aload_n 0 dX12_image_155 rfl rfl ?_
      refine f_getR fs_X12_28 dX12_image_156 hf (fun v16 hf => ?_)
      refine ab_iload_n 1 dX12_image_159 rfl rfl ?_
      refine f_iald dX12_image_160 hf (fun v17 hf => ?_)
      refine f_iast dX12_image_161 hf (fun h18 hf => ?_)
      refine ab_aload_n 0 dX12_image_162 rfl rfl ?_
      refine f_getR fs_X12_74 dX12_image_163 hf (fun v19 hf => ?_)
      refine ab_iload_n 1 dX12_image_166 rfl rfl ?_
      refine ab_aload_n 0 dX12_image_167 rfl rfl ?_
      refine f_getR fs_X12_31 dX12_image_168 hf (fun v20 hf => ?_)
      refine ab_iload_n 1 dX12_image_171 rfl rfl ?_
      refine f_iald dX12_image_172 hf (fun v21 hf => ?_)
      refine f_iast dX12_image_173 hf (fun h22 hf => ?_)
      refine ab_aload_n 0 dX12_image_174 rfl rfl ?_
      refine f_getR fs_X12_77 dX12_image_175 hf (fun v23 hf => ?_)
      refine ab_iload_n 1 dX12_image_178 rfl rfl ?_
      refine ab_aload_n 0 dX12_image_179 rfl rfl ?_
      refine f_getR fs_X12_34 dX12_image_180 hf (fun v24 hf => ?_)
      refine ab_iload_n 1 dX12_image_183 rfl rfl ?_
      refine f_iald dX12_image_184 hf (fun v25 hf => ?_)
      refine f_iast dX12_image_185 hf (fun h26 hf => ?_)
      refine ab_aload_n 0 dX12_image_186 rfl rfl ?_
      refine f_getR fs_X12_80 dX12_image_187 hf (fun v27 hf => ?_)
      refine ab_iload_n 1 dX12_image_190 rfl rfl ?_
      refine ab_aload_n 0 dX12_image_191 rfl rfl ?_
      refine f_getR fs_X12_37 dX12_image_192 hf (fun v28 hf => ?_)
      refine ab_iload_n 1 dX12_image_195 rfl rfl ?_
      refine f_iald dX12_image_196 hf (fun v29 hf => ?_)
      refine f_iast dX12_image_197 hf (fun h30 hf => ?_)
      refine ab_iinc (v := x1 + 1) [some (.ref x0), some (.int (x1 + 1))] dX12_image_198 rfl (kinc_1 _) (by decide) rfl rfl ?_
      refine ab_goto 144 dX12_image_201 (by decide) ?_
      exact ab_msk [true, true] (ih (x1 + 1) h30 hf)
    refine ab_bipush dX12_image_204 kbp_13 ?_
    refine ab_aload_n 0 dX12_image_206 rfl rfl ?_
    refine f_getI fs_X12_122 dX12_image_207 hf (fun v13 hf => ?_)
    refine ab_imul dX12_image_210 ?_
    refine ab_aload_n 0 dX12_image_211 rfl rfl ?_
    refine f_getI fs_X12_119 dX12_image_212 hf (fun v14 hf => ?_)
    refine ab_iadd dX12_image_215 ?_
    exact f_reti2 dX12_image_216 rfl (Nat.le_refl 0) (Nat.le_refl 0) hf
def F_X12_image_B83 (x0 : Nat) : Nat → Int32 → abH → Option (Int32 × abH)
  | 0, _, _ => none
  | n + 1, x1, h =>
    if x1 < 5 then
      (gR 12 h x0 32).bind fun v31 =>
      (gR 12 h x0 4).bind fun v32 =>
      (ga 0 h v32 x1).bind fun v33 =>
      (sa 0 h v31 x1 v33).bind fun h34 =>
      (gR 12 h34 x0 33).bind fun v35 =>
      (gR 12 h34 x0 5).bind fun v36 =>
      (ga 0 h34 v36 x1).bind fun v37 =>
      (sa 0 h34 v35 x1 v37).bind fun h38 =>
      (gR 12 h38 x0 34).bind fun v39 =>
      (gR 12 h38 x0 9).bind fun v40 =>
      (ga 0 h38 v40 x1).bind fun v41 =>
      (sa 0 h38 v39 x1 v41).bind fun h42 =>
      (gR 12 h42 x0 35).bind fun v43 =>
      (gR 12 h42 x0 10).bind fun v44 =>
      (ga 0 h42 v44 x1).bind fun v45 =>
      (sa 0 h42 v43 x1 v45).bind fun h46 =>
      F_X12_image_B83 x0 n (x1 + 1) h46
    else
      F_X12_image_B144 x0 200 0 h
theorem w_X12_image_B83 {z0 : Int32} {hz : abH} (x0 : Nat)   : ∀ (n : Nat) (x1 : Int32) (h : abH), F_X12_image_B83 x0 n x1 h = some (z0, hz) → abW cX12_image 2 RX12 (some .int) false 1 0 0 none (some (.int z0), hz) 83 [some (.ref x0), some (.int x1)] [] h 0 0 := by
  intro n
  induction n with
  | zero =>
    intro x1 h hf
    exact absurd (show (none : Option (Int32 × abH)) = some _ from hf) (by simp)
  | succ n ih =>
    intro x1 h hf
    rw [F_X12_image_B83.eq_2] at hf
    refine ab_iload_n 1 dX12_image_83 rfl rfl ?_
    refine ab_iconst dX12_image_84 kic_5 ?_
    refine ab_icmp_ge 142 dX12_image_85 (by decide) hf (fun hf => ?_) (fun hf => ?_)
    · refine ab_aload_n 0 dX12_image_88 rfl rfl ?_
      refine f_getR fs_X12_59 dX12_image_89 hf (fun v31 hf => ?_)
      refine ab_iload_n 1 dX12_image_92 rfl rfl ?_
      refine ab_aload_n 0 dX12_image_93 rfl rfl ?_
      refine f_getR fs_X12_16 dX12_image_94 hf (fun v32 hf => ?_)
      refine ab_iload_n 1 dX12_image_97 rfl rfl ?_
      refine f_iald dX12_image_98 hf (fun v33 hf => ?_)
      refine f_iast dX12_image_99 hf (fun h34 hf => ?_)
      refine ab_aload_n 0 dX12_image_100 rfl rfl ?_
      refine f_getR fs_X12_62 dX12_image_101 hf (fun v35 hf => ?_)
      refine ab_iload_n 1 dX12_image_104 rfl rfl ?_
      refine ab_aload_n 0 dX12_image_105 rfl rfl ?_
      refine f_getR fs_X12_19 dX12_image_106 hf (fun v36 hf => ?_)
      refine ab_iload_n 1 dX12_image_109 rfl rfl ?_
      refine f_iald dX12_image_110 hf (fun v37 hf => ?_)
      refine f_iast dX12_image_111 hf (fun h38 hf => ?_)
      refine ab_aload_n 0 dX12_image_112 rfl rfl ?_
      refine f_getR fs_X12_65 dX12_image_113 hf (fun v39 hf => ?_)
      refine ab_iload_n 1 dX12_image_116 rfl rfl ?_
      refine ab_aload_n 0 dX12_image_117 rfl rfl ?_
      refine f_getR fs_X12_22 dX12_image_118 hf (fun v40 hf => ?_)
      refine ab_iload_n 1 dX12_image_121 rfl rfl ?_
      refine f_iald dX12_image_122 hf (fun v41 hf => ?_)
      refine f_iast dX12_image_123 hf (fun h42 hf => ?_)
      refine ab_aload_n 0 dX12_image_124 rfl rfl ?_
      refine f_getR fs_X12_68 dX12_image_125 hf (fun v43 hf => ?_)
      refine ab_iload_n 1 dX12_image_128 rfl rfl ?_
      refine ab_aload_n 0 dX12_image_129 rfl rfl ?_
      refine f_getR fs_X12_25 dX12_image_130 hf (fun v44 hf => ?_)
      refine ab_iload_n 1 dX12_image_133 rfl rfl ?_
      refine f_iald dX12_image_134 hf (fun v45 hf => ?_)
      refine f_iast dX12_image_135 hf (fun h46 hf => ?_)
      refine ab_iinc (v := x1 + 1) [some (.ref x0), some (.int (x1 + 1))] dX12_image_136 rfl (kinc_1 _) (by decide) rfl rfl ?_
      refine ab_goto 83 dX12_image_139 (by decide) ?_
      exact ab_msk [true, true] (ih (x1 + 1) h46 hf)
    refine ab_iconst dX12_image_142 kic_0 ?_
    refine ab_istore_n 1 [some (.ref x0), some (.int 0)] dX12_image_143 rfl (by decide) rfl rfl ?_
    exact ab_msk [true, true] (w_X12_image_B144 x0 200 0 h hf)
def F_X12_image_B57 (x0 : Nat) : Nat → Int32 → abH → Option (Int32 × abH)
  | 0, _, _ => none
  | n + 1, x1, h =>
    if x1 < 10 then
      (gR 12 h x0 31).bind fun v47 =>
      (gR 12 h x0 2).bind fun v48 =>
      (ga 0 h v48 x1).bind fun v49 =>
      (sa 0 h v47 x1 v49).bind fun h50 =>
      F_X12_image_B57 x0 n (x1 + 1) h50
    else
      F_X12_image_B83 x0 200 0 h
theorem w_X12_image_B57 {z0 : Int32} {hz : abH} (x0 : Nat)   : ∀ (n : Nat) (x1 : Int32) (h : abH), F_X12_image_B57 x0 n x1 h = some (z0, hz) → abW cX12_image 2 RX12 (some .int) false 1 0 0 none (some (.int z0), hz) 57 [some (.ref x0), some (.int x1)] [] h 0 0 := by
  intro n
  induction n with
  | zero =>
    intro x1 h hf
    exact absurd (show (none : Option (Int32 × abH)) = some _ from hf) (by simp)
  | succ n ih =>
    intro x1 h hf
    rw [F_X12_image_B57.eq_2] at hf
    refine ab_iload_n 1 dX12_image_57 rfl rfl ?_
    refine ab_bipush dX12_image_58 kbp_10 ?_
    refine ab_icmp_ge 81 dX12_image_60 (by decide) hf (fun hf => ?_) (fun hf => ?_)
    · refine ab_aload_n 0 dX12_image_63 rfl rfl ?_
      refine f_getR fs_X12_56 dX12_image_64 hf (fun v47 hf => ?_)
      refine ab_iload_n 1 dX12_image_67 rfl rfl ?_
      refine ab_aload_n 0 dX12_image_68 rfl rfl ?_
      refine f_getR fs_X12_7 dX12_image_69 hf (fun v48 hf => ?_)
      refine ab_iload_n 1 dX12_image_72 rfl rfl ?_
      refine f_iald dX12_image_73 hf (fun v49 hf => ?_)
      refine f_iast dX12_image_74 hf (fun h50 hf => ?_)
      refine ab_iinc (v := x1 + 1) [some (.ref x0), some (.int (x1 + 1))] dX12_image_75 rfl (kinc_1 _) (by decide) rfl rfl ?_
      refine ab_goto 57 dX12_image_78 (by decide) ?_
      exact ab_msk [true, true] (ih (x1 + 1) h50 hf)
    refine ab_iconst dX12_image_81 kic_0 ?_
    refine ab_istore_n 1 [some (.ref x0), some (.int 0)] dX12_image_82 rfl (by decide) rfl rfl ?_
    exact ab_msk [true, true] (w_X12_image_B83 x0 200 0 h hf)
def F_X12_image (a0 : Nat) (h : abH) : Option (Int32 × abH) :=
  (gI 12 h a0 1).bind fun v1 =>
  if v1 = 0 then
    some ((-103), h)
  else
    (sV 12 h a0 25 (.int 1)).bind fun h2 =>
    (gI 12 h2 a0 0).bind fun v3 =>
    (sV 12 h2 a0 26 (.int v3)).bind fun h4 =>
    (gI 12 h4 a0 6).bind fun v5 =>
    (sV 12 h4 a0 27 (.int v5)).bind fun h6 =>
    (gI 12 h6 a0 7).bind fun v7 =>
    (sV 12 h6 a0 28 (.int v7)).bind fun h8 =>
    (gI 12 h8 a0 8).bind fun v9 =>
    (sV 12 h8 a0 29 (.int v9)).bind fun h10 =>
    (gI 12 h10 a0 11).bind fun v11 =>
    (sV 12 h10 a0 30 (.int v11)).bind fun h12 =>
    F_X12_image_B57 a0 200 0 h12
theorem m_X12_image {z0 : Int32} {hz : abH} (a0 : Nat) (h : abH) (hf : F_X12_image a0 h = some (z0, hz)) : abM yX12_image cX12_image 2 (some .int) 1 0 0 [.ref a0] h (some (.int z0)) hz := by
  refine abM_of (ini := false) [some (.ref a0), none] (by decide +kernel) (fun q => by first | rfl | cases q) (Nat.le_of_ble_eq_true rfl) rfl ?_
  unfold F_X12_image at hf
  refine ab_aload_n 0 dX12_image_0 rfl rfl ?_
  refine f_getI fs_X12_116 dX12_image_1 hf (fun v1 hf => ?_)
  refine ab_if_ne 10 dX12_image_4 (by decide) hf (fun hf => ?_) (fun hf => ?_)
  · refine ab_bipush dX12_image_7 kbp_m103 ?_
    exact f_reti2 dX12_image_9 rfl (Nat.le_refl 0) (Nat.le_refl 0) hf
  refine ab_aload_n 0 dX12_image_10 rfl rfl ?_
  refine ab_iconst dX12_image_11 kic_1 ?_
  refine f_put fp_X12_264 (abFit_z (by decide)) dX12_image_12 hf (fun h2 hf => ?_)
  refine ab_aload_n 0 dX12_image_15 rfl rfl ?_
  refine ab_aload_n 0 dX12_image_16 rfl rfl ?_
  refine f_getI fs_X12_128 dX12_image_17 hf (fun v3 hf => ?_)
  refine f_put fp_X12_267 (abFit_i _) dX12_image_20 hf (fun h4 hf => ?_)
  refine ab_aload_n 0 dX12_image_23 rfl rfl ?_
  refine ab_aload_n 0 dX12_image_24 rfl rfl ?_
  refine f_getI fs_X12_119 dX12_image_25 hf (fun v5 hf => ?_)
  refine f_put fp_X12_270 (abFit_i _) dX12_image_28 hf (fun h6 hf => ?_)
  refine ab_aload_n 0 dX12_image_31 rfl rfl ?_
  refine ab_aload_n 0 dX12_image_32 rfl rfl ?_
  refine f_getI fs_X12_122 dX12_image_33 hf (fun v7 hf => ?_)
  refine f_put fp_X12_273 (abFit_i _) dX12_image_36 hf (fun h8 hf => ?_)
  refine ab_aload_n 0 dX12_image_39 rfl rfl ?_
  refine ab_aload_n 0 dX12_image_40 rfl rfl ?_
  refine f_getI fs_X12_125 dX12_image_41 hf (fun v9 hf => ?_)
  refine f_put fp_X12_276 (abFit_i _) dX12_image_44 hf (fun h10 hf => ?_)
  refine ab_aload_n 0 dX12_image_47 rfl rfl ?_
  refine ab_aload_n 0 dX12_image_48 rfl rfl ?_
  refine f_getI fs_X12_131 dX12_image_49 hf (fun v11 hf => ?_)
  refine f_put fp_X12_279 (abFit_i _) dX12_image_52 hf (fun h12 hf => ?_)
  refine ab_iconst dX12_image_55 kic_0 ?_
  refine ab_istore_n 1 [some (.ref a0), some (.int 0)] dX12_image_56 rfl (by decide) rfl rfl ?_
  exact ab_msk [true, true] (w_X12_image_B57 a0 200 0 h12 hf)
def F_X12_restore_B142 (x0 : Nat) : Nat → Int32 → abH → Option (Int32 × abH)
  | 0, _, _ => none
  | n + 1, x1, h =>
    if x1 < 8 then
      (gR 12 h x0 12).bind fun v14 =>
      (gR 12 h x0 36).bind fun v15 =>
      (ga 0 h v15 x1).bind fun v16 =>
      (sa 0 h v14 x1 v16).bind fun h17 =>
      (gR 12 h17 x0 13).bind fun v18 =>
      (gR 12 h17 x0 37).bind fun v19 =>
      (ga 0 h17 v19 x1).bind fun v20 =>
      (sa 0 h17 v18 x1 v20).bind fun h21 =>
      (gR 12 h21 x0 14).bind fun v22 =>
      (gR 12 h21 x0 38).bind fun v23 =>
      (ga 0 h21 v23 x1).bind fun v24 =>
      (sa 0 h21 v22 x1 v24).bind fun h25 =>
      (gR 12 h25 x0 15).bind fun v26 =>
      (gR 12 h25 x0 39).bind fun v27 =>
      (ga 0 h25 v27 x1).bind fun v28 =>
      (sa 0 h25 v26 x1 v28).bind fun h29 =>
      F_X12_restore_B142 x0 n (x1 + 1) h29
    else
      (gI 12 h x0 7).bind fun v12 =>
      (gI 12 h x0 6).bind fun v13 =>
      some ((13 * v12) + v13, h)
theorem w_X12_restore_B142 {z0 : Int32} {hz : abH} (x0 : Nat)   : ∀ (n : Nat) (x1 : Int32) (h : abH), F_X12_restore_B142 x0 n x1 h = some (z0, hz) → abW cX12_restore 2 RX12 (some .int) false 1 0 0 none (some (.int z0), hz) 142 [some (.ref x0), some (.int x1)] [] h 0 0 := by
  intro n
  induction n with
  | zero =>
    intro x1 h hf
    exact absurd (show (none : Option (Int32 × abH)) = some _ from hf) (by simp)
  | succ n ih =>
    intro x1 h hf
    rw [F_X12_restore_B142.eq_2] at hf
    refine ab_iload_n 1 dX12_restore_142 rfl rfl ?_
    refine ab_bipush dX12_restore_143 kbp_8 ?_
    refine ab_icmp_ge 202 dX12_restore_145 (by decide) hf (fun hf => ?_) (fun hf => ?_)
    · refine ab_aload_n 0 dX12_restore_148 rfl rfl ?_
      refine f_getR fs_X12_28 dX12_restore_149 hf (fun v14 hf => ?_)
      refine ab_iload_n 1 dX12_restore_152 rfl rfl ?_
      refine ab_aload_n 0 dX12_restore_153 rfl rfl ?_
      refine f_getR fs_X12_71 dX12_restore_154 hf (fun v15 hf => ?_)
      refine ab_iload_n 1 dX12_restore_157 rfl rfl ?_
      refine f_iald dX12_restore_158 hf (fun v16 hf => ?_)
      refine f_iast dX12_restore_159 hf (fun h17 hf => ?_)
      refine ab_aload_n 0 dX12_restore_160 rfl rfl ?_
      refine f_getR fs_X12_31 dX12_restore_161 hf (fun v18 hf => ?_)
      refine ab_iload_n 1 dX12_restore_164 rfl rfl ?_
      refine ab_aload_n 0 dX12_restore_165 rfl rfl ?_
      refine f_getR fs_X12_74 dX12_restore_166 hf (fun v19 hf => ?_)
      refine ab_iload_n 1 dX12_restore_169 rfl rfl ?_
      refine f_iald dX12_restore_170 hf (fun v20 hf => ?_)
      refine f_iast dX12_restore_171 hf (fun h21 hf => ?_)
      refine ab_aload_n 0 dX12_restore_172 rfl rfl ?_
      refine f_getR fs_X12_34 dX12_restore_173 hf (fun v22 hf => ?_)
      refine ab_iload_n 1 dX12_restore_176 rfl rfl ?_
      refine ab_aload_n 0 dX12_restore_177 rfl rfl ?_
      refine f_getR fs_X12_77 dX12_restore_178 hf (fun v23 hf => ?_)
      refine ab_iload_n 1 dX12_restore_181 rfl rfl ?_
      refine f_iald dX12_restore_182 hf (fun v24 hf => ?_)
      refine f_iast dX12_restore_183 hf (fun h25 hf => ?_)
      refine ab_aload_n 0 dX12_restore_184 rfl rfl ?_
      refine f_getR fs_X12_37 dX12_restore_185 hf (fun v26 hf => ?_)
      refine ab_iload_n 1 dX12_restore_188 rfl rfl ?_
      refine ab_aload_n 0 dX12_restore_189 rfl rfl ?_
      refine f_getR fs_X12_80 dX12_restore_190 hf (fun v27 hf => ?_)
      refine ab_iload_n 1 dX12_restore_193 rfl rfl ?_
      refine f_iald dX12_restore_194 hf (fun v28 hf => ?_)
      refine f_iast dX12_restore_195 hf (fun h29 hf => ?_)
      refine ab_iinc (v := x1 + 1) [some (.ref x0), some (.int (x1 + 1))] dX12_restore_196 rfl (kinc_1 _) (by decide) rfl rfl ?_
      refine ab_goto 142 dX12_restore_199 (by decide) ?_
      exact ab_msk [true, true] (ih (x1 + 1) h29 hf)
    refine ab_bipush dX12_restore_202 kbp_13 ?_
    refine ab_aload_n 0 dX12_restore_204 rfl rfl ?_
    refine f_getI fs_X12_122 dX12_restore_205 hf (fun v12 hf => ?_)
    refine ab_imul dX12_restore_208 ?_
    refine ab_aload_n 0 dX12_restore_209 rfl rfl ?_
    refine f_getI fs_X12_119 dX12_restore_210 hf (fun v13 hf => ?_)
    refine ab_iadd dX12_restore_213 ?_
    exact f_reti2 dX12_restore_214 rfl (Nat.le_refl 0) (Nat.le_refl 0) hf
def F_X12_restore_B81 (x0 : Nat) : Nat → Int32 → abH → Option (Int32 × abH)
  | 0, _, _ => none
  | n + 1, x1, h =>
    if x1 < 5 then
      (gR 12 h x0 4).bind fun v30 =>
      (gR 12 h x0 32).bind fun v31 =>
      (ga 0 h v31 x1).bind fun v32 =>
      (sa 0 h v30 x1 v32).bind fun h33 =>
      (gR 12 h33 x0 5).bind fun v34 =>
      (gR 12 h33 x0 33).bind fun v35 =>
      (ga 0 h33 v35 x1).bind fun v36 =>
      (sa 0 h33 v34 x1 v36).bind fun h37 =>
      (gR 12 h37 x0 9).bind fun v38 =>
      (gR 12 h37 x0 34).bind fun v39 =>
      (ga 0 h37 v39 x1).bind fun v40 =>
      (sa 0 h37 v38 x1 v40).bind fun h41 =>
      (gR 12 h41 x0 10).bind fun v42 =>
      (gR 12 h41 x0 35).bind fun v43 =>
      (ga 0 h41 v43 x1).bind fun v44 =>
      (sa 0 h41 v42 x1 v44).bind fun h45 =>
      F_X12_restore_B81 x0 n (x1 + 1) h45
    else
      F_X12_restore_B142 x0 200 0 h
theorem w_X12_restore_B81 {z0 : Int32} {hz : abH} (x0 : Nat)   : ∀ (n : Nat) (x1 : Int32) (h : abH), F_X12_restore_B81 x0 n x1 h = some (z0, hz) → abW cX12_restore 2 RX12 (some .int) false 1 0 0 none (some (.int z0), hz) 81 [some (.ref x0), some (.int x1)] [] h 0 0 := by
  intro n
  induction n with
  | zero =>
    intro x1 h hf
    exact absurd (show (none : Option (Int32 × abH)) = some _ from hf) (by simp)
  | succ n ih =>
    intro x1 h hf
    rw [F_X12_restore_B81.eq_2] at hf
    refine ab_iload_n 1 dX12_restore_81 rfl rfl ?_
    refine ab_iconst dX12_restore_82 kic_5 ?_
    refine ab_icmp_ge 140 dX12_restore_83 (by decide) hf (fun hf => ?_) (fun hf => ?_)
    · refine ab_aload_n 0 dX12_restore_86 rfl rfl ?_
      refine f_getR fs_X12_16 dX12_restore_87 hf (fun v30 hf => ?_)
      refine ab_iload_n 1 dX12_restore_90 rfl rfl ?_
      refine ab_aload_n 0 dX12_restore_91 rfl rfl ?_
      refine f_getR fs_X12_59 dX12_restore_92 hf (fun v31 hf => ?_)
      refine ab_iload_n 1 dX12_restore_95 rfl rfl ?_
      refine f_iald dX12_restore_96 hf (fun v32 hf => ?_)
      refine f_iast dX12_restore_97 hf (fun h33 hf => ?_)
      refine ab_aload_n 0 dX12_restore_98 rfl rfl ?_
      refine f_getR fs_X12_19 dX12_restore_99 hf (fun v34 hf => ?_)
      refine ab_iload_n 1 dX12_restore_102 rfl rfl ?_
      refine ab_aload_n 0 dX12_restore_103 rfl rfl ?_
      refine f_getR fs_X12_62 dX12_restore_104 hf (fun v35 hf => ?_)
      refine ab_iload_n 1 dX12_restore_107 rfl rfl ?_
      refine f_iald dX12_restore_108 hf (fun v36 hf => ?_)
      refine f_iast dX12_restore_109 hf (fun h37 hf => ?_)
      refine ab_aload_n 0 dX12_restore_110 rfl rfl ?_
      refine f_getR fs_X12_22 dX12_restore_111 hf (fun v38 hf => ?_)
      refine ab_iload_n 1 dX12_restore_114 rfl rfl ?_
      refine ab_aload_n 0 dX12_restore_115 rfl rfl ?_
      refine f_getR fs_X12_65 dX12_restore_116 hf (fun v39 hf => ?_)
      refine ab_iload_n 1 dX12_restore_119 rfl rfl ?_
      refine f_iald dX12_restore_120 hf (fun v40 hf => ?_)
      refine f_iast dX12_restore_121 hf (fun h41 hf => ?_)
      refine ab_aload_n 0 dX12_restore_122 rfl rfl ?_
      refine f_getR fs_X12_25 dX12_restore_123 hf (fun v42 hf => ?_)
      refine ab_iload_n 1 dX12_restore_126 rfl rfl ?_
      refine ab_aload_n 0 dX12_restore_127 rfl rfl ?_
      refine f_getR fs_X12_68 dX12_restore_128 hf (fun v43 hf => ?_)
      refine ab_iload_n 1 dX12_restore_131 rfl rfl ?_
      refine f_iald dX12_restore_132 hf (fun v44 hf => ?_)
      refine f_iast dX12_restore_133 hf (fun h45 hf => ?_)
      refine ab_iinc (v := x1 + 1) [some (.ref x0), some (.int (x1 + 1))] dX12_restore_134 rfl (kinc_1 _) (by decide) rfl rfl ?_
      refine ab_goto 81 dX12_restore_137 (by decide) ?_
      exact ab_msk [true, true] (ih (x1 + 1) h45 hf)
    refine ab_iconst dX12_restore_140 kic_0 ?_
    refine ab_istore_n 1 [some (.ref x0), some (.int 0)] dX12_restore_141 rfl (by decide) rfl rfl ?_
    exact ab_msk [true, true] (w_X12_restore_B142 x0 200 0 h hf)
def F_X12_restore_B55 (x0 : Nat) : Nat → Int32 → abH → Option (Int32 × abH)
  | 0, _, _ => none
  | n + 1, x1, h =>
    if x1 < 10 then
      (gR 12 h x0 2).bind fun v46 =>
      (gR 12 h x0 31).bind fun v47 =>
      (ga 0 h v47 x1).bind fun v48 =>
      (sa 0 h v46 x1 v48).bind fun h49 =>
      F_X12_restore_B55 x0 n (x1 + 1) h49
    else
      F_X12_restore_B81 x0 200 0 h
theorem w_X12_restore_B55 {z0 : Int32} {hz : abH} (x0 : Nat)   : ∀ (n : Nat) (x1 : Int32) (h : abH), F_X12_restore_B55 x0 n x1 h = some (z0, hz) → abW cX12_restore 2 RX12 (some .int) false 1 0 0 none (some (.int z0), hz) 55 [some (.ref x0), some (.int x1)] [] h 0 0 := by
  intro n
  induction n with
  | zero =>
    intro x1 h hf
    exact absurd (show (none : Option (Int32 × abH)) = some _ from hf) (by simp)
  | succ n ih =>
    intro x1 h hf
    rw [F_X12_restore_B55.eq_2] at hf
    refine ab_iload_n 1 dX12_restore_55 rfl rfl ?_
    refine ab_bipush dX12_restore_56 kbp_10 ?_
    refine ab_icmp_ge 79 dX12_restore_58 (by decide) hf (fun hf => ?_) (fun hf => ?_)
    · refine ab_aload_n 0 dX12_restore_61 rfl rfl ?_
      refine f_getR fs_X12_7 dX12_restore_62 hf (fun v46 hf => ?_)
      refine ab_iload_n 1 dX12_restore_65 rfl rfl ?_
      refine ab_aload_n 0 dX12_restore_66 rfl rfl ?_
      refine f_getR fs_X12_56 dX12_restore_67 hf (fun v47 hf => ?_)
      refine ab_iload_n 1 dX12_restore_70 rfl rfl ?_
      refine f_iald dX12_restore_71 hf (fun v48 hf => ?_)
      refine f_iast dX12_restore_72 hf (fun h49 hf => ?_)
      refine ab_iinc (v := x1 + 1) [some (.ref x0), some (.int (x1 + 1))] dX12_restore_73 rfl (kinc_1 _) (by decide) rfl rfl ?_
      refine ab_goto 55 dX12_restore_76 (by decide) ?_
      exact ab_msk [true, true] (ih (x1 + 1) h49 hf)
    refine ab_iconst dX12_restore_79 kic_0 ?_
    refine ab_istore_n 1 [some (.ref x0), some (.int 0)] dX12_restore_80 rfl (by decide) rfl rfl ?_
    exact ab_msk [true, true] (w_X12_restore_B81 x0 200 0 h hf)
def F_X12_restore (a0 : Nat) (h : abH) : Option (Int32 × abH) :=
  (gI 12 h a0 25).bind fun v1 =>
  if v1 = 0 then
    some ((-103), h)
  else
    (gI 12 h a0 26).bind fun v2 =>
    (gI 12 h a0 0).bind fun v3 =>
    if v2 = v3 then
      (gI 12 h a0 27).bind fun v4 =>
      (sV 12 h a0 6 (.int v4)).bind fun h5 =>
      (gI 12 h5 a0 28).bind fun v6 =>
      (sV 12 h5 a0 7 (.int v6)).bind fun h7 =>
      (gI 12 h7 a0 29).bind fun v8 =>
      (sV 12 h7 a0 8 (.int v8)).bind fun h9 =>
      (gI 12 h9 a0 30).bind fun v10 =>
      (sV 12 h9 a0 11 (.int v10)).bind fun h11 =>
      F_X12_restore_B55 a0 200 0 h11
    else
      some ((-103), h)
theorem m_X12_restore {z0 : Int32} {hz : abH} (a0 : Nat) (h : abH) (hf : F_X12_restore a0 h = some (z0, hz)) : abM yX12_restore cX12_restore 2 (some .int) 1 0 0 [.ref a0] h (some (.int z0)) hz := by
  refine abM_of (ini := false) [some (.ref a0), none] (by decide +kernel) (fun q => by first | rfl | cases q) (Nat.le_of_ble_eq_true rfl) rfl ?_
  unfold F_X12_restore at hf
  refine ab_aload_n 0 dX12_restore_0 rfl rfl ?_
  refine f_getI fs_X12_264 dX12_restore_1 hf (fun v1 hf => ?_)
  refine ab_if_eq 18 dX12_restore_4 (by decide) hf (fun hf => ?_) (fun hf => ?_)
  · refine ab_bipush dX12_restore_18 kbp_m103 ?_
    exact f_reti2 dX12_restore_20 rfl (Nat.le_refl 0) (Nat.le_refl 0) hf
  refine ab_aload_n 0 dX12_restore_7 rfl rfl ?_
  refine f_getI fs_X12_267 dX12_restore_8 hf (fun v2 hf => ?_)
  refine ab_aload_n 0 dX12_restore_11 rfl rfl ?_
  refine f_getI fs_X12_128 dX12_restore_12 hf (fun v3 hf => ?_)
  refine ab_icmp_eq 21 dX12_restore_15 (by decide) hf (fun hf => ?_) (fun hf => ?_)
  · refine ab_aload_n 0 dX12_restore_21 rfl rfl ?_
    refine ab_aload_n 0 dX12_restore_22 rfl rfl ?_
    refine f_getI fs_X12_270 dX12_restore_23 hf (fun v4 hf => ?_)
    refine f_put fp_X12_119 (abFit_i _) dX12_restore_26 hf (fun h5 hf => ?_)
    refine ab_aload_n 0 dX12_restore_29 rfl rfl ?_
    refine ab_aload_n 0 dX12_restore_30 rfl rfl ?_
    refine f_getI fs_X12_273 dX12_restore_31 hf (fun v6 hf => ?_)
    refine f_put fp_X12_122 (abFit_i _) dX12_restore_34 hf (fun h7 hf => ?_)
    refine ab_aload_n 0 dX12_restore_37 rfl rfl ?_
    refine ab_aload_n 0 dX12_restore_38 rfl rfl ?_
    refine f_getI fs_X12_276 dX12_restore_39 hf (fun v8 hf => ?_)
    refine f_put fp_X12_125 (abFit_i _) dX12_restore_42 hf (fun h9 hf => ?_)
    refine ab_aload_n 0 dX12_restore_45 rfl rfl ?_
    refine ab_aload_n 0 dX12_restore_46 rfl rfl ?_
    refine f_getI fs_X12_279 dX12_restore_47 hf (fun v10 hf => ?_)
    refine f_put fp_X12_131 (abFit_i _) dX12_restore_50 hf (fun h11 hf => ?_)
    refine ab_iconst dX12_restore_53 kic_0 ?_
    refine ab_istore_n 1 [some (.ref a0), some (.int 0)] dX12_restore_54 rfl (by decide) rfl rfl ?_
    exact ab_msk [true, true] (w_X12_restore_B55 a0 200 0 h11 hf)
  refine ab_bipush dX12_restore_18 kbp_m103 ?_
  exact f_reti2 dX12_restore_20 rfl (Nat.le_refl 0) (Nat.le_refl 0) hf
def F_X12_coveredBy_B4 (x0 : Nat) (x1 : Int32) (h : abH) : Nat → Int32 → Int32 → Option Int32
  | 0, _, _ => none
  | n + 1, x2, x3 =>
    if x3 < 10 then
      (ko 12 h x0).bind fun _ => (F_X12_tileNow x0 x3 2 h).bind fun v1 =>
      (F_X12_size v1).bind fun v2 =>
      if v2 < x1 then
        nm (x2 + 0) fun v3 =>
        F_X12_coveredBy_B4 x0 x1 h n v3 (x3 + 1)
      else
        nm (x2 + 1) fun v4 =>
        F_X12_coveredBy_B4 x0 x1 h n v4 (x3 + 1)
    else
      some x2
theorem w_X12_coveredBy_B4 {z0 : Int32} (x0 : Nat) (x1 : Int32) (h : abH)   : ∀ (n : Nat) (x2 : Int32) (x3 : Int32), F_X12_coveredBy_B4 x0 x1 h n x2 x3 = some z0 → abW cX12_coveredBy 4 RX12 (some .int) false 6 0 0 none (some (.int z0), h) 4 [some (.ref x0), some (.int x1), some (.int x2), some (.int x3)] [] h 0 0 := by
  intro n
  induction n with
  | zero =>
    intro x2 x3 hf
    exact absurd (show (none : Option Int32) = some _ from hf) (by simp)
  | succ n ih =>
    intro x2 x3 hf
    rw [F_X12_coveredBy_B4.eq_2] at hf
    refine ab_iload_n 3 dX12_coveredBy_4 rfl rfl ?_
    refine ab_bipush dX12_coveredBy_5 kbp_10 ?_
    refine ab_icmp_ge 37 dX12_coveredBy_7 (by decide) hf (fun hf => ?_) (fun hf => ?_)
    · refine ab_iload_n 2 dX12_coveredBy_10 rfl rfl ?_
      refine ab_aload_n 0 dX12_coveredBy_11 rfl rfl ?_
      refine ab_iload_n 3 dX12_coveredBy_12 rfl rfl ?_
      refine ab_iconst dX12_coveredBy_13 kic_2 ?_
      refine f_V_i (As := [.int x3, .int 2]) (st := [.int x2]) cs_X12_180 (fun v q => m_X12_tileNow x0 x3 2 h q) rfl rfl dX12_coveredBy_14 (rmk rfl) hf (fun v1 hf => ?_)
      refine f_S_i (As := [.int v1]) (st := [.int x2]) cs_X12_212 (fun v q => m_X12_size v1 h q) rfl rfl dX12_coveredBy_17 (rmk rfl) hf (fun v2 hf => ?_)
      refine ab_iload_n 1 dX12_coveredBy_20 rfl rfl ?_
      refine ab_icmp_lt 28 dX12_coveredBy_21 (by decide) hf (fun hf => ?_) (fun hf => ?_)
      · refine ab_iconst dX12_coveredBy_28 kic_0 ?_
        refine ab_iadd dX12_coveredBy_29 ?_
        refine ab_nmi hf (fun v3 hf => ?_)
        refine ab_istore_n 2 [some (.ref x0), some (.int x1), some (.int v3), some (.int x3)] dX12_coveredBy_30 rfl (by decide) rfl rfl ?_
        refine ab_iinc (v := x3 + 1) [some (.ref x0), some (.int x1), some (.int v3), some (.int (x3 + 1))] dX12_coveredBy_31 rfl (kinc_1 _) (by decide) rfl rfl ?_
        refine ab_goto 4 dX12_coveredBy_34 (by decide) ?_
        exact ab_msk [true, true, true, true] (ih v3 (x3 + 1) hf)
      refine ab_iconst dX12_coveredBy_24 kic_1 ?_
      refine ab_goto 29 dX12_coveredBy_25 (by decide) ?_
      refine ab_iadd dX12_coveredBy_29 ?_
      refine ab_nmi hf (fun v4 hf => ?_)
      refine ab_istore_n 2 [some (.ref x0), some (.int x1), some (.int v4), some (.int x3)] dX12_coveredBy_30 rfl (by decide) rfl rfl ?_
      refine ab_iinc (v := x3 + 1) [some (.ref x0), some (.int x1), some (.int v4), some (.int (x3 + 1))] dX12_coveredBy_31 rfl (kinc_1 _) (by decide) rfl rfl ?_
      refine ab_goto 4 dX12_coveredBy_34 (by decide) ?_
      exact ab_msk [true, true, true, true] (ih v4 (x3 + 1) hf)
    refine ab_iload_n 2 dX12_coveredBy_37 rfl rfl ?_
    exact f_reti dX12_coveredBy_38 rfl (Nat.le_refl 0) (Nat.le_refl 0) hf
def F_X12_coveredBy (a0 : Nat) (a1 : Int32) (h : abH) : Option Int32 :=
  F_X12_coveredBy_B4 a0 a1 h 200 0 0
theorem m_X12_coveredBy {z0 : Int32} (a0 : Nat) (a1 : Int32) (h : abH) (hf : F_X12_coveredBy a0 a1 h = some z0) : abM yX12_coveredBy cX12_coveredBy 4 (some .int) 6 0 0 [.ref a0, .int a1] h (some (.int z0)) h := by
  refine abM_of (ini := false) [some (.ref a0), some (.int a1), none, none] (by decide +kernel) (fun q => by first | rfl | cases q) (Nat.le_of_ble_eq_true rfl) rfl ?_
  unfold F_X12_coveredBy at hf
  refine ab_iconst dX12_coveredBy_0 kic_0 ?_
  refine ab_istore_n 2 [some (.ref a0), some (.int a1), some (.int 0), none] dX12_coveredBy_1 rfl (by decide) rfl rfl ?_
  refine ab_iconst dX12_coveredBy_2 kic_0 ?_
  refine ab_istore_n 3 [some (.ref a0), some (.int a1), some (.int 0), some (.int 0)] dX12_coveredBy_3 rfl (by decide) rfl rfl ?_
  exact ab_msk [true, true, true, true] (w_X12_coveredBy_B4 a0 a1 h 200 0 0 hf)
def F_X12_goodCases_B4 (x0 : Nat) (h : abH) : Nat → Int32 → Int32 → Option Int32
  | 0, _, _ => none
  | n + 1, x1, x2 =>
    (gI 12 h x0 8).bind fun v1 =>
    if x2 < v1 then
      (gR 12 h x0 9).bind fun v2 =>
      (ga 0 h v2 x2).bind fun v3 =>
      (gR 12 h x0 10).bind fun v4 =>
      (ga 0 h v4 x2).bind fun v5 =>
      (gI 12 h x0 6).bind fun v6 =>
      (ko 12 h x0).bind fun _ => (F_X12_foundIn x0 v3 v5 v6 h).bind fun v7 =>
      if v7 ≤ 0 then
        nm (x1 + 0) fun v8 =>
        F_X12_goodCases_B4 x0 h n v8 (x2 + 1)
      else
        nm (x1 + 1) fun v9 =>
        F_X12_goodCases_B4 x0 h n v9 (x2 + 1)
    else
      some x1
theorem w_X12_goodCases_B4 {z0 : Int32} (x0 : Nat) (h : abH)   : ∀ (n : Nat) (x1 : Int32) (x2 : Int32), F_X12_goodCases_B4 x0 h n x1 x2 = some z0 → abW cX12_goodCases 3 RX12 (some .int) false 6 0 0 none (some (.int z0), h) 4 [some (.ref x0), some (.int x1), some (.int x2)] [] h 0 0 := by
  intro n
  induction n with
  | zero =>
    intro x1 x2 hf
    exact absurd (show (none : Option Int32) = some _ from hf) (by simp)
  | succ n ih =>
    intro x1 x2 hf
    rw [F_X12_goodCases_B4.eq_2] at hf
    refine ab_iload_n 2 dX12_goodCases_4 rfl rfl ?_
    refine ab_aload_n 0 dX12_goodCases_5 rfl rfl ?_
    refine f_getI fs_X12_125 dX12_goodCases_6 hf (fun v1 hf => ?_)
    refine ab_icmp_ge 49 dX12_goodCases_9 (by decide) hf (fun hf => ?_) (fun hf => ?_)
    · refine ab_iload_n 1 dX12_goodCases_12 rfl rfl ?_
      refine ab_aload_n 0 dX12_goodCases_13 rfl rfl ?_
      refine ab_aload_n 0 dX12_goodCases_14 rfl rfl ?_
      refine f_getR fs_X12_22 dX12_goodCases_15 hf (fun v2 hf => ?_)
      refine ab_iload_n 2 dX12_goodCases_18 rfl rfl ?_
      refine f_iald dX12_goodCases_19 hf (fun v3 hf => ?_)
      refine ab_aload_n 0 dX12_goodCases_20 rfl rfl ?_
      refine f_getR fs_X12_25 dX12_goodCases_21 hf (fun v4 hf => ?_)
      refine ab_iload_n 2 dX12_goodCases_24 rfl rfl ?_
      refine f_iald dX12_goodCases_25 hf (fun v5 hf => ?_)
      refine ab_aload_n 0 dX12_goodCases_26 rfl rfl ?_
      refine f_getI fs_X12_119 dX12_goodCases_27 hf (fun v6 hf => ?_)
      refine f_V_i (As := [.int v3, .int v5, .int v6]) (st := [.int x1]) cs_X12_186 (fun v q => m_X12_foundIn x0 v3 v5 v6 h q) rfl rfl dX12_goodCases_30 (rmk rfl) hf (fun v7 hf => ?_)
      refine ab_if_le 40 dX12_goodCases_33 (by decide) hf (fun hf => ?_) (fun hf => ?_)
      · refine ab_iconst dX12_goodCases_40 kic_0 ?_
        refine ab_iadd dX12_goodCases_41 ?_
        refine ab_nmi hf (fun v8 hf => ?_)
        refine ab_istore_n 1 [some (.ref x0), some (.int v8), some (.int x2)] dX12_goodCases_42 rfl (by decide) rfl rfl ?_
        refine ab_iinc (v := x2 + 1) [some (.ref x0), some (.int v8), some (.int (x2 + 1))] dX12_goodCases_43 rfl (kinc_1 _) (by decide) rfl rfl ?_
        refine ab_goto 4 dX12_goodCases_46 (by decide) ?_
        exact ab_msk [true, true, true] (ih v8 (x2 + 1) hf)
      refine ab_iconst dX12_goodCases_36 kic_1 ?_
      refine ab_goto 41 dX12_goodCases_37 (by decide) ?_
      refine ab_iadd dX12_goodCases_41 ?_
      refine ab_nmi hf (fun v9 hf => ?_)
      refine ab_istore_n 1 [some (.ref x0), some (.int v9), some (.int x2)] dX12_goodCases_42 rfl (by decide) rfl rfl ?_
      refine ab_iinc (v := x2 + 1) [some (.ref x0), some (.int v9), some (.int (x2 + 1))] dX12_goodCases_43 rfl (kinc_1 _) (by decide) rfl rfl ?_
      refine ab_goto 4 dX12_goodCases_46 (by decide) ?_
      exact ab_msk [true, true, true] (ih v9 (x2 + 1) hf)
    refine ab_iload_n 1 dX12_goodCases_49 rfl rfl ?_
    exact f_reti dX12_goodCases_50 rfl (Nat.le_refl 0) (Nat.le_refl 0) hf
def F_X12_goodCases (a0 : Nat) (h : abH) : Option Int32 :=
  F_X12_goodCases_B4 a0 h 200 0 0
theorem m_X12_goodCases {z0 : Int32} (a0 : Nat) (h : abH) (hf : F_X12_goodCases a0 h = some z0) : abM yX12_goodCases cX12_goodCases 3 (some .int) 6 0 0 [.ref a0] h (some (.int z0)) h := by
  refine abM_of (ini := false) [some (.ref a0), none, none] (by decide +kernel) (fun q => by first | rfl | cases q) (Nat.le_of_ble_eq_true rfl) rfl ?_
  unfold F_X12_goodCases at hf
  refine ab_iconst dX12_goodCases_0 kic_0 ?_
  refine ab_istore_n 1 [some (.ref a0), some (.int 0), none] dX12_goodCases_1 rfl (by decide) rfl rfl ?_
  refine ab_iconst dX12_goodCases_2 kic_0 ?_
  refine ab_istore_n 2 [some (.ref a0), some (.int 0), some (.int 0)] dX12_goodCases_3 rfl (by decide) rfl rfl ?_
  exact ab_msk [true, true, true] (w_X12_goodCases_B4 a0 h 200 0 0 hf)
def F_X12_howMany (a0 : Nat) (a1 : Int32) (h : abH) : Option Int32 :=
  if a1 = 0 then
    (gI 12 h a0 1).bind fun v1 =>
    some v1
  else
  if a1 = 1 then
    (gI 12 h a0 6).bind fun v2 =>
    some v2
  else
  if a1 = 2 then
    (gI 12 h a0 7).bind fun v3 =>
    some v3
  else
  if a1 = 3 then
    (ko 12 h a0).bind fun _ => (F_X12_worthIn a0 1023 h).bind fun v4 =>
    some v4
  else
  if a1 = 4 then
    (ko 12 h a0).bind fun _ => (F_X12_coveredBy a0 (a1 - 3) h).bind fun v5 =>
    some v5
  else
  if a1 = 5 then
    (ko 12 h a0).bind fun _ => (F_X12_coveredBy a0 (a1 - 3) h).bind fun v6 =>
    some v6
  else
  if a1 = 6 then
    (gI 12 h a0 8).bind fun v7 =>
    some v7
  else
  if a1 = 7 then
    (ko 12 h a0).bind fun _ => (F_X12_goodCases a0 h).bind fun v8 =>
    some v8
  else
  if a1 = 8 then
    (gI 12 h a0 11).bind fun v9 =>
    some v9
  else
  if a1 = 9 then
    (gI 12 h a0 16).bind fun v10 =>
    some v10
  else
  if a1 = 10 then
    (gI 12 h a0 0).bind fun v11 =>
    some v11
  else
    some (-102)
theorem m_X12_howMany {z0 : Int32} (a0 : Nat) (a1 : Int32) (h : abH) (hf : F_X12_howMany a0 a1 h = some z0) : abM yX12_howMany cX12_howMany 2 (some .int) 7 0 0 [.ref a0, .int a1] h (some (.int z0)) h := by
  refine abM_of (ini := false) [some (.ref a0), some (.int a1)] (by decide +kernel) (fun q => by first | rfl | cases q) (Nat.le_of_ble_eq_true rfl) rfl ?_
  unfold F_X12_howMany at hf
  refine ab_iload_n 1 dX12_howMany_0 rfl rfl ?_
  refine f_tab 0 59 60 dX12_howMany_1 (by decide +kernel) (by decide) hf (fun hf => ?_) (fun q0 hf => ?_)
  · refine ab_aload_n 0 dX12_howMany_60 rfl rfl ?_
    refine f_getI fs_X12_116 dX12_howMany_61 hf (fun v1 hf => ?_)
    exact f_reti dX12_howMany_64 rfl (Nat.le_refl 0) (Nat.le_refl 0) hf
  refine f_tab 1 64 65 dX12_howMany_1 (by decide +kernel) (by decide) hf (fun hf => ?_) (fun q1 hf => ?_)
  · refine ab_aload_n 0 dX12_howMany_65 rfl rfl ?_
    refine f_getI fs_X12_119 dX12_howMany_66 hf (fun v2 hf => ?_)
    exact f_reti dX12_howMany_69 rfl (Nat.le_refl 0) (Nat.le_refl 0) hf
  refine f_tab 2 69 70 dX12_howMany_1 (by decide +kernel) (by decide) hf (fun hf => ?_) (fun q2 hf => ?_)
  · refine ab_aload_n 0 dX12_howMany_70 rfl rfl ?_
    refine f_getI fs_X12_122 dX12_howMany_71 hf (fun v3 hf => ?_)
    exact f_reti dX12_howMany_74 rfl (Nat.le_refl 0) (Nat.le_refl 0) hf
  refine f_tab 3 74 75 dX12_howMany_1 (by decide +kernel) (by decide) hf (fun hf => ?_) (fun q3 hf => ?_)
  · refine ab_aload_n 0 dX12_howMany_75 rfl rfl ?_
    refine ab_sipush dX12_howMany_76 ksp_1023 ?_
    refine f_V_i (As := [.int 1023]) (st := []) cs_X12_159 (fun v q => m_X12_worthIn a0 1023 h q) rfl rfl dX12_howMany_79 (rmk rfl) hf (fun v4 hf => ?_)
    exact f_reti dX12_howMany_82 rfl (Nat.le_refl 0) (Nat.le_refl 0) hf
  refine f_tab 4 82 83 dX12_howMany_1 (by decide +kernel) (by decide) hf (fun hf => ?_) (fun q4 hf => ?_)
  · refine ab_aload_n 0 dX12_howMany_83 rfl rfl ?_
    refine ab_iload_n 1 dX12_howMany_84 rfl rfl ?_
    refine ab_iconst dX12_howMany_85 kic_3 ?_
    refine ab_isub dX12_howMany_86 ?_
    refine f_V_i (As := [.int (a1 - 3)]) (st := []) cs_X12_282 (fun v q => m_X12_coveredBy a0 (a1 - 3) h q) rfl rfl dX12_howMany_87 (rmk rfl) hf (fun v5 hf => ?_)
    exact f_reti dX12_howMany_90 rfl (Nat.le_refl 0) (Nat.le_refl 0) hf
  refine f_tab 5 82 83 dX12_howMany_1 (by decide +kernel) (by decide) hf (fun hf => ?_) (fun q5 hf => ?_)
  · refine ab_aload_n 0 dX12_howMany_83 rfl rfl ?_
    refine ab_iload_n 1 dX12_howMany_84 rfl rfl ?_
    refine ab_iconst dX12_howMany_85 kic_3 ?_
    refine ab_isub dX12_howMany_86 ?_
    refine f_V_i (As := [.int (a1 - 3)]) (st := []) cs_X12_282 (fun v q => m_X12_coveredBy a0 (a1 - 3) h q) rfl rfl dX12_howMany_87 (rmk rfl) hf (fun v6 hf => ?_)
    exact f_reti dX12_howMany_90 rfl (Nat.le_refl 0) (Nat.le_refl 0) hf
  refine f_tab 6 90 91 dX12_howMany_1 (by decide +kernel) (by decide) hf (fun hf => ?_) (fun q6 hf => ?_)
  · refine ab_aload_n 0 dX12_howMany_91 rfl rfl ?_
    refine f_getI fs_X12_125 dX12_howMany_92 hf (fun v7 hf => ?_)
    exact f_reti dX12_howMany_95 rfl (Nat.le_refl 0) (Nat.le_refl 0) hf
  refine f_tab 7 95 96 dX12_howMany_1 (by decide +kernel) (by decide) hf (fun hf => ?_) (fun q7 hf => ?_)
  · refine ab_aload_n 0 dX12_howMany_96 rfl rfl ?_
    refine f_V_i (As := []) (st := []) cs_X12_285 (fun v q => m_X12_goodCases a0 h q) rfl rfl dX12_howMany_97 (rmk rfl) hf (fun v8 hf => ?_)
    exact f_reti dX12_howMany_100 rfl (Nat.le_refl 0) (Nat.le_refl 0) hf
  refine f_tab 8 100 101 dX12_howMany_1 (by decide +kernel) (by decide) hf (fun hf => ?_) (fun q8 hf => ?_)
  · refine ab_aload_n 0 dX12_howMany_101 rfl rfl ?_
    refine f_getI fs_X12_131 dX12_howMany_102 hf (fun v9 hf => ?_)
    exact f_reti dX12_howMany_105 rfl (Nat.le_refl 0) (Nat.le_refl 0) hf
  refine f_tab 9 105 106 dX12_howMany_1 (by decide +kernel) (by decide) hf (fun hf => ?_) (fun q9 hf => ?_)
  · refine ab_aload_n 0 dX12_howMany_106 rfl rfl ?_
    refine f_getI fs_X12_87 dX12_howMany_107 hf (fun v10 hf => ?_)
    exact f_reti dX12_howMany_110 rfl (Nat.le_refl 0) (Nat.le_refl 0) hf
  refine f_tab 10 110 111 dX12_howMany_1 (by decide +kernel) (by decide) hf (fun hf => ?_) (fun q10 hf => ?_)
  · refine ab_aload_n 0 dX12_howMany_111 rfl rfl ?_
    refine f_getI fs_X12_128 dX12_howMany_112 hf (fun v11 hf => ?_)
    exact f_reti dX12_howMany_115 rfl (Nat.le_refl 0) (Nat.le_refl 0) hf
  refine ab_tableOut 116 dX12_howMany_1 (tout_10 q0 q1 q2 q3 q4 q5 q6 q7 q8 q9 q10) (by decide) ?_
  refine ab_bipush dX12_howMany_116 kbp_m102 ?_
  exact f_reti dX12_howMany_118 rfl (Nat.le_refl 0) (Nat.le_refl 0) hf
def F_X12_count (a0 : Nat) (a1 : Int32) (h : abH) : Option Int32 :=
  (ko 12 h a0).bind fun _ => (F_X12_howMany a0 a1 h).bind fun v1 =>
  some v1
theorem m_X12_count {z0 : Int32} (a0 : Nat) (a1 : Int32) (h : abH) (hf : F_X12_count a0 a1 h = some z0) : abM yX12_count cX12_count 2 (some .int) 8 0 0 [.ref a0, .int a1] h (some (.int z0)) h := by
  refine abM_of (ini := false) [some (.ref a0), some (.int a1)] (by decide +kernel) (fun q => by first | rfl | cases q) (Nat.le_of_ble_eq_true rfl) rfl ?_
  unfold F_X12_count at hf
  refine ab_aload_n 0 dX12_count_0 rfl rfl ?_
  refine ab_iload_n 1 dX12_count_1 rfl rfl ?_
  refine f_V_i (As := [.int a1]) (st := []) cs_X12_288 (fun v q => m_X12_howMany a0 a1 h q) rfl rfl dX12_count_2 (rmk rfl) hf (fun v1 hf => ?_)
  exact f_reti dX12_count_5 rfl (Nat.le_refl 0) (Nat.le_refl 0) hf
def F_X12_mix (a0 : Nat) (a1 : Int64) (h : abH) : Option abH :=
  (gJ 12 h a0 40).bind fun v1 =>
  (sV 12 h a0 40 (.long ((31 * v1) + a1))).bind fun h2 =>
  some h2
theorem m_X12_mix {hz : abH} (a0 : Nat) (a1 : Int64) (h : abH) (hf : F_X12_mix a0 a1 h = some hz) : abM yX12_mix cX12_mix 3 none 1 0 0 [.ref a0, .long a1] h none hz := by
  refine abM_of (ini := false) [some (.ref a0), some (.long a1), none] (by decide +kernel) (fun q => by first | rfl | cases q) (Nat.le_of_ble_eq_true rfl) rfl ?_
  unfold F_X12_mix at hf
  refine ab_aload_n 0 dX12_mix_0 rfl rfl ?_
  refine ab_ldc2 (v := 31) tb_1145 dX12_mix_1 ?_
  refine ab_aload_n 0 dX12_mix_4 rfl rfl ?_
  refine f_getJ fs_X12_293 dX12_mix_5 hf (fun v1 hf => ?_)
  refine ab_lmul dX12_mix_8 ?_
  refine ab_lload_n 1 dX12_mix_9 rfl rfl ?_
  refine ab_ladd dX12_mix_10 ?_
  refine f_put fp_X12_293 (abFit_l _) dX12_mix_11 hf (fun h2 hf => ?_)
  exact f_retv2 dX12_mix_14 rfl (Nat.le_refl 0) (Nat.le_refl 0) hf
def F_X12_mixCourt_B132 (x0 : Nat) : Nat → Int32 → abH → Option abH
  | 0, _, _ => none
  | n + 1, x1, h =>
    if x1 < 5 then
      (gR 12 h x0 23).bind fun v14 =>
      (ga 0 h v14 x1).bind fun v15 =>
      (ko 12 h x0).bind fun _ => (F_X12_mix x0 v15.toInt64 h).bind fun h16 =>
      F_X12_mixCourt_B132 x0 n (x1 + 1) h16
    else
      some h
theorem w_X12_mixCourt_B132 {hz : abH} (x0 : Nat)   : ∀ (n : Nat) (x1 : Int32) (h : abH), F_X12_mixCourt_B132 x0 n x1 h = some hz → abW cX12_mixCourt 3 RX12 none false 9 0 0 none (none, hz) 132 [some (.ref x0), some (.int x1), none] [] h 0 0 := by
  intro n
  induction n with
  | zero =>
    intro x1 h hf
    exact absurd (show (none : Option abH) = some _ from hf) (by simp)
  | succ n ih =>
    intro x1 h hf
    rw [F_X12_mixCourt_B132.eq_2] at hf
    refine ab_iload_n 1 dX12_mixCourt_132 rfl rfl ?_
    refine ab_iconst dX12_mixCourt_133 kic_5 ?_
    refine ab_icmp_ge 154 dX12_mixCourt_134 (by decide) hf (fun hf => ?_) (fun hf => ?_)
    · refine ab_aload_n 0 dX12_mixCourt_137 rfl rfl ?_
      refine ab_aload_n 0 dX12_mixCourt_138 rfl rfl ?_
      refine f_getR fs_X12_53 dX12_mixCourt_139 hf (fun v14 hf => ?_)
      refine ab_iload_n 1 dX12_mixCourt_142 rfl rfl ?_
      refine f_iald dX12_mixCourt_143 hf (fun v15 hf => ?_)
      refine ab_i2l dX12_mixCourt_144 ?_
      refine f_V_v2 (As := [.long v15.toInt64]) (st := []) cs_X12_296 (fun hq q => m_X12_mix x0 v15.toInt64 h q) rfl rfl dX12_mixCourt_145 (rmk rfl) hf (fun h16 hf => ?_)
      refine ab_iinc (v := x1 + 1) [some (.ref x0), some (.int (x1 + 1)), none] dX12_mixCourt_148 rfl (kinc_1 _) (by decide) rfl rfl ?_
      refine ab_goto 132 dX12_mixCourt_151 (by decide) ?_
      exact ab_msk [true, true, true] (ih (x1 + 1) h16 hf)
    exact f_retv2 dX12_mixCourt_154 rfl (Nat.le_refl 0) (Nat.le_refl 0) hf
def F_X12_mixCourt_B40 (x0 : Nat) : Nat → Int32 → abH → Option abH
  | 0, _, _ => none
  | n + 1, x1, h =>
    if x1 < 13 then
      (ko 12 h x0).bind fun _ => (F_X12_foundIn x0 0 1 x1 h).bind fun v17 =>
      (ko 12 h x0).bind fun _ => (F_X12_mix x0 ((v17 + 100).toInt64) h).bind fun h18 =>
      F_X12_mixCourt_B40 x0 n (x1 + 1) h18
    else
      (ko 12 h x0).bind fun _ => bd2 (F_X12_gameNow x0 0 1 2 0 h) fun v2 h1 =>
      (ko 12 h1 x0).bind fun _ => (F_X12_mix x0 v2.toInt64 h1).bind fun h3 =>
      (ko 12 h3 x0).bind fun _ => bd2 (F_X12_gameNow x0 0 1 2 1 h3) fun v5 h4 =>
      (ko 12 h4 x0).bind fun _ => (F_X12_mix x0 v5.toInt64 h4).bind fun h6 =>
      (ko 12 h6 x0).bind fun _ => (F_X12_oddsNow x0 0 1 4 3 0 h6).bind fun v7 =>
      (ko 12 h6 x0).bind fun _ => (F_X12_mix x0 v7.toInt64 h6).bind fun h8 =>
      (ko 12 h8 x0).bind fun _ => (F_X12_oddsNow x0 0 1 4 3 1 h8).bind fun v9 =>
      (ko 12 h8 x0).bind fun _ => (F_X12_mix x0 v9.toInt64 h8).bind fun h10 =>
      (ko 12 h10 x0).bind fun _ => bd2 (F_X12_layDocket x0 h10) fun v12 h11 =>
      (ko 12 h11 x0).bind fun _ => (F_X12_mix x0 v12.toInt64 h11).bind fun h13 =>
      F_X12_mixCourt_B132 x0 200 0 h13
theorem w_X12_mixCourt_B40 {hz : abH} (x0 : Nat)   : ∀ (n : Nat) (x1 : Int32) (h : abH), F_X12_mixCourt_B40 x0 n x1 h = some hz → abW cX12_mixCourt 3 RX12 none false 9 0 0 none (none, hz) 40 [some (.ref x0), some (.int x1), none] [] h 0 0 := by
  intro n
  induction n with
  | zero =>
    intro x1 h hf
    exact absurd (show (none : Option abH) = some _ from hf) (by simp)
  | succ n ih =>
    intro x1 h hf
    rw [F_X12_mixCourt_B40.eq_2] at hf
    refine ab_iload_n 1 dX12_mixCourt_40 rfl rfl ?_
    refine ab_bipush dX12_mixCourt_41 kbp_13 ?_
    refine ab_icmp_ge 67 dX12_mixCourt_43 (by decide) hf (fun hf => ?_) (fun hf => ?_)
    · refine ab_aload_n 0 dX12_mixCourt_46 rfl rfl ?_
      refine ab_aload_n 0 dX12_mixCourt_47 rfl rfl ?_
      refine ab_iconst dX12_mixCourt_48 kic_0 ?_
      refine ab_iconst dX12_mixCourt_49 kic_1 ?_
      refine ab_iload_n 1 dX12_mixCourt_50 rfl rfl ?_
      refine f_V_i (As := [.int 0, .int 1, .int x1]) (st := [.ref x0]) cs_X12_186 (fun v q => m_X12_foundIn x0 0 1 x1 h q) rfl rfl dX12_mixCourt_51 (rmk rfl) hf (fun v17 hf => ?_)
      refine ab_bipush dX12_mixCourt_54 kbp_100 ?_
      refine ab_iadd dX12_mixCourt_56 ?_
      refine ab_i2l dX12_mixCourt_57 ?_
      refine f_V_v2 (As := [.long ((v17 + 100).toInt64)]) (st := []) cs_X12_296 (fun hq q => m_X12_mix x0 ((v17 + 100).toInt64) h q) rfl rfl dX12_mixCourt_58 (rmk rfl) hf (fun h18 hf => ?_)
      refine ab_iinc (v := x1 + 1) [some (.ref x0), some (.int (x1 + 1)), none] dX12_mixCourt_61 rfl (kinc_1 _) (by decide) rfl rfl ?_
      refine ab_goto 40 dX12_mixCourt_64 (by decide) ?_
      exact ab_msk [true, true, true] (ih (x1 + 1) h18 hf)
    refine ab_aload_n 0 dX12_mixCourt_67 rfl rfl ?_
    refine ab_aload_n 0 dX12_mixCourt_68 rfl rfl ?_
    refine ab_iconst dX12_mixCourt_69 kic_0 ?_
    refine ab_iconst dX12_mixCourt_70 kic_1 ?_
    refine ab_iconst dX12_mixCourt_71 kic_2 ?_
    refine ab_iconst dX12_mixCourt_72 kic_0 ?_
    refine f_V_i2 (As := [.int 0, .int 1, .int 2, .int 0]) (st := [.ref x0]) cs_X12_208 (fun v hq q => m_X12_gameNow x0 0 1 2 0 h q) rfl rfl dX12_mixCourt_73 (rmk rfl) hf (fun v2 h1 hf => ?_)
    refine ab_i2l dX12_mixCourt_76 ?_
    refine f_V_v2 (As := [.long v2.toInt64]) (st := []) cs_X12_296 (fun hq q => m_X12_mix x0 v2.toInt64 h1 q) rfl rfl dX12_mixCourt_77 (rmk rfl) hf (fun h3 hf => ?_)
    refine ab_aload_n 0 dX12_mixCourt_80 rfl rfl ?_
    refine ab_aload_n 0 dX12_mixCourt_81 rfl rfl ?_
    refine ab_iconst dX12_mixCourt_82 kic_0 ?_
    refine ab_iconst dX12_mixCourt_83 kic_1 ?_
    refine ab_iconst dX12_mixCourt_84 kic_2 ?_
    refine ab_iconst dX12_mixCourt_85 kic_1 ?_
    refine f_V_i2 (As := [.int 0, .int 1, .int 2, .int 1]) (st := [.ref x0]) cs_X12_208 (fun v hq q => m_X12_gameNow x0 0 1 2 1 h3 q) rfl rfl dX12_mixCourt_86 (rmk rfl) hf (fun v5 h4 hf => ?_)
    refine ab_i2l dX12_mixCourt_89 ?_
    refine f_V_v2 (As := [.long v5.toInt64]) (st := []) cs_X12_296 (fun hq q => m_X12_mix x0 v5.toInt64 h4 q) rfl rfl dX12_mixCourt_90 (rmk rfl) hf (fun h6 hf => ?_)
    refine ab_aload_n 0 dX12_mixCourt_93 rfl rfl ?_
    refine ab_aload_n 0 dX12_mixCourt_94 rfl rfl ?_
    refine ab_iconst dX12_mixCourt_95 kic_0 ?_
    refine ab_iconst dX12_mixCourt_96 kic_1 ?_
    refine ab_iconst dX12_mixCourt_97 kic_4 ?_
    refine ab_iconst dX12_mixCourt_98 kic_3 ?_
    refine ab_iconst dX12_mixCourt_99 kic_0 ?_
    refine f_V_i (As := [.int 0, .int 1, .int 4, .int 3, .int 0]) (st := [.ref x0]) cs_X12_236 (fun v q => m_X12_oddsNow x0 0 1 4 3 0 h6 q) rfl rfl dX12_mixCourt_100 (rmk rfl) hf (fun v7 hf => ?_)
    refine ab_i2l dX12_mixCourt_103 ?_
    refine f_V_v2 (As := [.long v7.toInt64]) (st := []) cs_X12_296 (fun hq q => m_X12_mix x0 v7.toInt64 h6 q) rfl rfl dX12_mixCourt_104 (rmk rfl) hf (fun h8 hf => ?_)
    refine ab_aload_n 0 dX12_mixCourt_107 rfl rfl ?_
    refine ab_aload_n 0 dX12_mixCourt_108 rfl rfl ?_
    refine ab_iconst dX12_mixCourt_109 kic_0 ?_
    refine ab_iconst dX12_mixCourt_110 kic_1 ?_
    refine ab_iconst dX12_mixCourt_111 kic_4 ?_
    refine ab_iconst dX12_mixCourt_112 kic_3 ?_
    refine ab_iconst dX12_mixCourt_113 kic_1 ?_
    refine f_V_i (As := [.int 0, .int 1, .int 4, .int 3, .int 1]) (st := [.ref x0]) cs_X12_236 (fun v q => m_X12_oddsNow x0 0 1 4 3 1 h8 q) rfl rfl dX12_mixCourt_114 (rmk rfl) hf (fun v9 hf => ?_)
    refine ab_i2l dX12_mixCourt_117 ?_
    refine f_V_v2 (As := [.long v9.toInt64]) (st := []) cs_X12_296 (fun hq q => m_X12_mix x0 v9.toInt64 h8 q) rfl rfl dX12_mixCourt_118 (rmk rfl) hf (fun h10 hf => ?_)
    refine ab_aload_n 0 dX12_mixCourt_121 rfl rfl ?_
    refine ab_aload_n 0 dX12_mixCourt_122 rfl rfl ?_
    refine f_V_i2 (As := []) (st := [.ref x0]) cs_X12_230 (fun v hq q => m_X12_layDocket x0 h10 q) rfl rfl dX12_mixCourt_123 (rmk rfl) hf (fun v12 h11 hf => ?_)
    refine ab_i2l dX12_mixCourt_126 ?_
    refine f_V_v2 (As := [.long v12.toInt64]) (st := []) cs_X12_296 (fun hq q => m_X12_mix x0 v12.toInt64 h11 q) rfl rfl dX12_mixCourt_127 (rmk rfl) hf (fun h13 hf => ?_)
    refine ab_iconst dX12_mixCourt_130 kic_0 ?_
    refine ab_istore_n 1 [some (.ref x0), some (.int 0), none] dX12_mixCourt_131 rfl (by decide) rfl rfl ?_
    exact ab_msk [true, true, true] (w_X12_mixCourt_B132 x0 200 0 h13 hf)
def F_X12_mixCourt_B10 (x0 : Nat) (x1 : Int32) (k2 : Int32 → abH → Option abH) : Nat → Int32 → abH → Option abH
  | 0, _, _ => none
  | n + 1, x2, h =>
    if x2 < 3 then
      (ko 12 h x0).bind fun _ => (F_X12_tileNow x0 x1 x2 h).bind fun v19 =>
      (ko 12 h x0).bind fun _ => (F_X12_mix x0 v19.toInt64 h).bind fun h20 =>
      F_X12_mixCourt_B10 x0 x1 k2 n (x2 + 1) h20
    else
      k2 (x1 + 1) h
theorem w_X12_mixCourt_B10 {hz : abH} (x0 : Nat) (x1 : Int32) (k2 : Int32 → abH → Option abH) (hk2 : ∀ (w1 : Int32) (hw : abH), k2 w1 hw = some hz → abW cX12_mixCourt 3 RX12 none false 9 0 0 none (none, hz) 2 [some (.ref x0), some (.int w1), none] [] hw 0 0) : ∀ (n : Nat) (x2 : Int32) (h : abH), F_X12_mixCourt_B10 x0 x1 k2 n x2 h = some hz → abW cX12_mixCourt 3 RX12 none false 9 0 0 none (none, hz) 10 [some (.ref x0), some (.int x1), some (.int x2)] [] h 0 0 := by
  intro n
  induction n with
  | zero =>
    intro x2 h hf
    exact absurd (show (none : Option abH) = some _ from hf) (by simp)
  | succ n ih =>
    intro x2 h hf
    rw [F_X12_mixCourt_B10.eq_2] at hf
    refine ab_iload_n 2 dX12_mixCourt_10 rfl rfl ?_
    refine ab_iconst dX12_mixCourt_11 kic_3 ?_
    refine ab_icmp_ge 32 dX12_mixCourt_12 (by decide) hf (fun hf => ?_) (fun hf => ?_)
    · refine ab_aload_n 0 dX12_mixCourt_15 rfl rfl ?_
      refine ab_aload_n 0 dX12_mixCourt_16 rfl rfl ?_
      refine ab_iload_n 1 dX12_mixCourt_17 rfl rfl ?_
      refine ab_iload_n 2 dX12_mixCourt_18 rfl rfl ?_
      refine f_V_i (As := [.int x1, .int x2]) (st := [.ref x0]) cs_X12_180 (fun v q => m_X12_tileNow x0 x1 x2 h q) rfl rfl dX12_mixCourt_19 (rmk rfl) hf (fun v19 hf => ?_)
      refine ab_i2l dX12_mixCourt_22 ?_
      refine f_V_v2 (As := [.long v19.toInt64]) (st := []) cs_X12_296 (fun hq q => m_X12_mix x0 v19.toInt64 h q) rfl rfl dX12_mixCourt_23 (rmk rfl) hf (fun h20 hf => ?_)
      refine ab_iinc (v := x2 + 1) [some (.ref x0), some (.int x1), some (.int (x2 + 1))] dX12_mixCourt_26 rfl (kinc_1 _) (by decide) rfl rfl ?_
      refine ab_goto 10 dX12_mixCourt_29 (by decide) ?_
      exact ab_msk [true, true, true] (ih (x2 + 1) h20 hf)
    refine ab_iinc (v := x1 + 1) [some (.ref x0), some (.int (x1 + 1)), some (.int x2)] dX12_mixCourt_32 rfl (kinc_1 _) (by decide) rfl rfl ?_
    refine ab_goto 2 dX12_mixCourt_35 (by decide) ?_
    exact ab_msk [true, true, false] (hk2 (x1 + 1) h hf)
def F_X12_mixCourt_B2 (x0 : Nat) : Nat → Int32 → abH → Option abH
  | 0, _, _ => none
  | n + 1, x1, h =>
    if x1 < 10 then
      F_X12_mixCourt_B10 x0 x1 (fun u1 hu => F_X12_mixCourt_B2 x0 n u1 hu) 200 0 h
    else
      F_X12_mixCourt_B40 x0 200 0 h
theorem w_X12_mixCourt_B2 {hz : abH} (x0 : Nat)   : ∀ (n : Nat) (x1 : Int32) (h : abH), F_X12_mixCourt_B2 x0 n x1 h = some hz → abW cX12_mixCourt 3 RX12 none false 9 0 0 none (none, hz) 2 [some (.ref x0), some (.int x1), none] [] h 0 0 := by
  intro n
  induction n with
  | zero =>
    intro x1 h hf
    exact absurd (show (none : Option abH) = some _ from hf) (by simp)
  | succ n ih =>
    intro x1 h hf
    rw [F_X12_mixCourt_B2.eq_2] at hf
    refine ab_iload_n 1 dX12_mixCourt_2 rfl rfl ?_
    refine ab_bipush dX12_mixCourt_3 kbp_10 ?_
    refine ab_icmp_ge 38 dX12_mixCourt_5 (by decide) hf (fun hf => ?_) (fun hf => ?_)
    · refine ab_iconst dX12_mixCourt_8 kic_0 ?_
      refine ab_istore_n 2 [some (.ref x0), some (.int x1), some (.int 0)] dX12_mixCourt_9 rfl (by decide) rfl rfl ?_
      exact ab_msk [true, true, true] (w_X12_mixCourt_B10 x0 x1 (fun u1 hu => F_X12_mixCourt_B2 x0 n u1 hu) (fun u1 hu hf => ih u1 hu hf) 200 0 h hf)
    refine ab_iconst dX12_mixCourt_38 kic_0 ?_
    refine ab_istore_n 1 [some (.ref x0), some (.int 0), none] dX12_mixCourt_39 rfl (by decide) rfl rfl ?_
    exact ab_msk [true, true, true] (w_X12_mixCourt_B40 x0 200 0 h hf)
def F_X12_mixCourt (a0 : Nat) (h : abH) : Option abH :=
  F_X12_mixCourt_B2 a0 200 0 h
theorem m_X12_mixCourt {hz : abH} (a0 : Nat) (h : abH) (hf : F_X12_mixCourt a0 h = some hz) : abM yX12_mixCourt cX12_mixCourt 3 none 9 0 0 [.ref a0] h none hz := by
  refine abM_of (ini := false) [some (.ref a0), none, none] (by decide +kernel) (fun q => by first | rfl | cases q) (Nat.le_of_ble_eq_true rfl) rfl ?_
  unfold F_X12_mixCourt at hf
  refine ab_iconst dX12_mixCourt_0 kic_0 ?_
  refine ab_istore_n 1 [some (.ref a0), some (.int 0), none] dX12_mixCourt_1 rfl (by decide) rfl rfl ?_
  exact ab_msk [true, true, true] (w_X12_mixCourt_B2 a0 200 0 h hf)
def F_X12_digest_B111 (x0 : Nat) : Nat → Int32 → abH → Option (Int64 × abH)
  | 0, _, _ => none
  | n + 1, x1, h =>
    if x1 < 11 then
      (ko 12 h x0).bind fun _ => (F_X12_howMany x0 x1 h).bind fun v6 =>
      (ko 12 h x0).bind fun _ => (F_X12_mix x0 v6.toInt64 h).bind fun h7 =>
      F_X12_digest_B111 x0 n (x1 + 1) h7
    else
      (gJ 12 h x0 40).bind fun v5 =>
      some (v5, h)
theorem w_X12_digest_B111 {z0 : Int64} {hz : abH} (x0 : Nat)   : ∀ (n : Nat) (x1 : Int32) (h : abH), F_X12_digest_B111 x0 n x1 h = some (z0, hz) → abW cX12_digest 3 RX12 (some .long) false 10 0 0 none (some (.long z0), hz) 111 [some (.ref x0), some (.int x1), none] [] h 0 0 := by
  intro n
  induction n with
  | zero =>
    intro x1 h hf
    exact absurd (show (none : Option (Int64 × abH)) = some _ from hf) (by simp)
  | succ n ih =>
    intro x1 h hf
    rw [F_X12_digest_B111.eq_2] at hf
    refine ab_iload_n 1 dX12_digest_111 rfl rfl ?_
    refine ab_bipush dX12_digest_112 kbp_11 ?_
    refine ab_icmp_ge 133 dX12_digest_114 (by decide) hf (fun hf => ?_) (fun hf => ?_)
    · refine ab_aload_n 0 dX12_digest_117 rfl rfl ?_
      refine ab_aload_n 0 dX12_digest_118 rfl rfl ?_
      refine ab_iload_n 1 dX12_digest_119 rfl rfl ?_
      refine f_V_i (As := [.int x1]) (st := [.ref x0]) cs_X12_288 (fun v q => m_X12_howMany x0 x1 h q) rfl rfl dX12_digest_120 (rmk rfl) hf (fun v6 hf => ?_)
      refine ab_i2l dX12_digest_123 ?_
      refine f_V_v2 (As := [.long v6.toInt64]) (st := []) cs_X12_296 (fun hq q => m_X12_mix x0 v6.toInt64 h q) rfl rfl dX12_digest_124 (rmk rfl) hf (fun h7 hf => ?_)
      refine ab_iinc (v := x1 + 1) [some (.ref x0), some (.int (x1 + 1)), none] dX12_digest_127 rfl (kinc_1 _) (by decide) rfl rfl ?_
      refine ab_goto 111 dX12_digest_130 (by decide) ?_
      exact ab_msk [true, true, true] (ih (x1 + 1) h7 hf)
    refine ab_aload_n 0 dX12_digest_133 rfl rfl ?_
    refine f_getJ fs_X12_293 dX12_digest_134 hf (fun v5 hf => ?_)
    exact f_retl2 dX12_digest_137 rfl (Nat.le_refl 0) (Nat.le_refl 0) hf
def F_X12_digest_B84 (x0 : Nat) : Nat → Int32 → abH → Option (Int64 × abH)
  | 0, _, _ => none
  | n + 1, x1, h =>
    (gI 12 h x0 16).bind fun v4 =>
    if x1 < v4 then
      (gR 12 h x0 17).bind fun v8 =>
      (ga 2 h v8 x1).bind fun v9 =>
      (ko 12 h x0).bind fun _ => (F_X12_mix x0 v9.toInt64 h).bind fun h10 =>
      F_X12_digest_B84 x0 n (x1 + 1) h10
    else
      F_X12_digest_B111 x0 200 0 h
theorem w_X12_digest_B84 {z0 : Int64} {hz : abH} (x0 : Nat)   : ∀ (n : Nat) (x1 : Int32) (h : abH), F_X12_digest_B84 x0 n x1 h = some (z0, hz) → abW cX12_digest 3 RX12 (some .long) false 10 0 0 none (some (.long z0), hz) 84 [some (.ref x0), some (.int x1), none] [] h 0 0 := by
  intro n
  induction n with
  | zero =>
    intro x1 h hf
    exact absurd (show (none : Option (Int64 × abH)) = some _ from hf) (by simp)
  | succ n ih =>
    intro x1 h hf
    rw [F_X12_digest_B84.eq_2] at hf
    refine ab_iload_n 1 dX12_digest_84 rfl rfl ?_
    refine ab_aload_n 0 dX12_digest_85 rfl rfl ?_
    refine f_getI fs_X12_87 dX12_digest_86 hf (fun v4 hf => ?_)
    refine ab_icmp_ge 109 dX12_digest_89 (by decide) hf (fun hf => ?_) (fun hf => ?_)
    · refine ab_aload_n 0 dX12_digest_92 rfl rfl ?_
      refine ab_aload_n 0 dX12_digest_93 rfl rfl ?_
      refine f_getR fs_X12_40 dX12_digest_94 hf (fun v8 hf => ?_)
      refine ab_iload_n 1 dX12_digest_97 rfl rfl ?_
      refine f_bald dX12_digest_98 hf (fun v9 hf => ?_)
      refine ab_i2l dX12_digest_99 ?_
      refine f_V_v2 (As := [.long v9.toInt64]) (st := []) cs_X12_296 (fun hq q => m_X12_mix x0 v9.toInt64 h q) rfl rfl dX12_digest_100 (rmk rfl) hf (fun h10 hf => ?_)
      refine ab_iinc (v := x1 + 1) [some (.ref x0), some (.int (x1 + 1)), none] dX12_digest_103 rfl (kinc_1 _) (by decide) rfl rfl ?_
      refine ab_goto 84 dX12_digest_106 (by decide) ?_
      exact ab_msk [true, true, true] (ih (x1 + 1) h10 hf)
    refine ab_iconst dX12_digest_109 kic_0 ?_
    refine ab_istore_n 1 [some (.ref x0), some (.int 0), none] dX12_digest_110 rfl (by decide) rfl rfl ?_
    exact ab_msk [true, true, true] (w_X12_digest_B111 x0 200 0 h hf)
def F_X12_digest_B19 (x0 : Nat) (x1 : Int32) (k9 : Int32 → abH → Option (Int64 × abH)) : Nat → Int32 → abH → Option (Int64 × abH)
  | 0, _, _ => none
  | n + 1, x2, h =>
    if x2 < 7 then
      (ko 12 h x0).bind fun _ => bd2 (F_X12_partyNow x0 x1 x2 h) fun v17 h16 =>
      (ko 12 h16 x0).bind fun _ => (F_X12_mix x0 v17.toInt64 h16).bind fun h18 =>
      F_X12_digest_B19 x0 x1 k9 n (x2 + 1) h18
    else
      (ko 12 h x0).bind fun _ => (F_X12_coversIn x0 x1 3 h).bind fun v12 =>
      (ko 12 h x0).bind fun _ => (F_X12_mix x0 v12.toInt64 h).bind fun h13 =>
      (ko 12 h13 x0).bind fun _ => (F_X12_coversIn x0 x1 10 h13).bind fun v14 =>
      (ko 12 h13 x0).bind fun _ => (F_X12_mix x0 v14.toInt64 h13).bind fun h15 =>
      k9 (x1 + 1) h15
theorem w_X12_digest_B19 {z0 : Int64} {hz : abH} (x0 : Nat) (x1 : Int32) (k9 : Int32 → abH → Option (Int64 × abH)) (hk9 : ∀ (w1 : Int32) (hw : abH), k9 w1 hw = some (z0, hz) → abW cX12_digest 3 RX12 (some .long) false 10 0 0 none (some (.long z0), hz) 9 [some (.ref x0), some (.int w1), none] [] hw 0 0) : ∀ (n : Nat) (x2 : Int32) (h : abH), F_X12_digest_B19 x0 x1 k9 n x2 h = some (z0, hz) → abW cX12_digest 3 RX12 (some .long) false 10 0 0 none (some (.long z0), hz) 19 [some (.ref x0), some (.int x1), some (.int x2)] [] h 0 0 := by
  intro n
  induction n with
  | zero =>
    intro x2 h hf
    exact absurd (show (none : Option (Int64 × abH)) = some _ from hf) (by simp)
  | succ n ih =>
    intro x2 h hf
    rw [F_X12_digest_B19.eq_2] at hf
    refine ab_iload_n 2 dX12_digest_19 rfl rfl ?_
    refine ab_bipush dX12_digest_20 kbp_7 ?_
    refine ab_icmp_ge 42 dX12_digest_22 (by decide) hf (fun hf => ?_) (fun hf => ?_)
    · refine ab_aload_n 0 dX12_digest_25 rfl rfl ?_
      refine ab_aload_n 0 dX12_digest_26 rfl rfl ?_
      refine ab_iload_n 1 dX12_digest_27 rfl rfl ?_
      refine ab_iload_n 2 dX12_digest_28 rfl rfl ?_
      refine f_V_i2 (As := [.int x1, .int x2]) (st := [.ref x0]) cs_X12_174 (fun v hq q => m_X12_partyNow x0 x1 x2 h q) rfl rfl dX12_digest_29 (rmk rfl) hf (fun v17 h16 hf => ?_)
      refine ab_i2l dX12_digest_32 ?_
      refine f_V_v2 (As := [.long v17.toInt64]) (st := []) cs_X12_296 (fun hq q => m_X12_mix x0 v17.toInt64 h16 q) rfl rfl dX12_digest_33 (rmk rfl) hf (fun h18 hf => ?_)
      refine ab_iinc (v := x2 + 1) [some (.ref x0), some (.int x1), some (.int (x2 + 1))] dX12_digest_36 rfl (kinc_1 _) (by decide) rfl rfl ?_
      refine ab_goto 19 dX12_digest_39 (by decide) ?_
      exact ab_msk [true, true, true] (ih (x2 + 1) h18 hf)
    refine ab_aload_n 0 dX12_digest_42 rfl rfl ?_
    refine ab_aload_n 0 dX12_digest_43 rfl rfl ?_
    refine ab_iload_n 1 dX12_digest_44 rfl rfl ?_
    refine ab_iconst dX12_digest_45 kic_3 ?_
    refine f_V_i (As := [.int x1, .int 3]) (st := [.ref x0]) cs_X12_162 (fun v q => m_X12_coversIn x0 x1 3 h q) rfl rfl dX12_digest_46 (rmk rfl) hf (fun v12 hf => ?_)
    refine ab_i2l dX12_digest_49 ?_
    refine f_V_v2 (As := [.long v12.toInt64]) (st := []) cs_X12_296 (fun hq q => m_X12_mix x0 v12.toInt64 h q) rfl rfl dX12_digest_50 (rmk rfl) hf (fun h13 hf => ?_)
    refine ab_aload_n 0 dX12_digest_53 rfl rfl ?_
    refine ab_aload_n 0 dX12_digest_54 rfl rfl ?_
    refine ab_iload_n 1 dX12_digest_55 rfl rfl ?_
    refine ab_bipush dX12_digest_56 kbp_10 ?_
    refine f_V_i (As := [.int x1, .int 10]) (st := [.ref x0]) cs_X12_162 (fun v q => m_X12_coversIn x0 x1 10 h13 q) rfl rfl dX12_digest_58 (rmk rfl) hf (fun v14 hf => ?_)
    refine ab_i2l dX12_digest_61 ?_
    refine f_V_v2 (As := [.long v14.toInt64]) (st := []) cs_X12_296 (fun hq q => m_X12_mix x0 v14.toInt64 h13 q) rfl rfl dX12_digest_62 (rmk rfl) hf (fun h15 hf => ?_)
    refine ab_iinc (v := x1 + 1) [some (.ref x0), some (.int (x1 + 1)), some (.int x2)] dX12_digest_65 rfl (kinc_1 _) (by decide) rfl rfl ?_
    refine ab_goto 9 dX12_digest_68 (by decide) ?_
    exact ab_msk [true, true, false] (hk9 (x1 + 1) h15 hf)
def F_X12_digest_B9 (x0 : Nat) : Nat → Int32 → abH → Option (Int64 × abH)
  | 0, _, _ => none
  | n + 1, x1, h =>
    (gI 12 h x0 1).bind fun v2 =>
    if x1 < v2 then
      F_X12_digest_B19 x0 x1 (fun u1 hu => F_X12_digest_B9 x0 n u1 hu) 200 0 h
    else
      (gI 12 h x0 1).bind fun v3 =>
      if v3 ≤ 0 then
        F_X12_digest_B84 x0 200 0 h
      else
        (ko 12 h x0).bind fun _ => (F_X12_mixCourt x0 h).bind fun h11 =>
        F_X12_digest_B84 x0 200 0 h11
theorem w_X12_digest_B9 {z0 : Int64} {hz : abH} (x0 : Nat)   : ∀ (n : Nat) (x1 : Int32) (h : abH), F_X12_digest_B9 x0 n x1 h = some (z0, hz) → abW cX12_digest 3 RX12 (some .long) false 10 0 0 none (some (.long z0), hz) 9 [some (.ref x0), some (.int x1), none] [] h 0 0 := by
  intro n
  induction n with
  | zero =>
    intro x1 h hf
    exact absurd (show (none : Option (Int64 × abH)) = some _ from hf) (by simp)
  | succ n ih =>
    intro x1 h hf
    rw [F_X12_digest_B9.eq_2] at hf
    refine ab_iload_n 1 dX12_digest_9 rfl rfl ?_
    refine ab_aload_n 0 dX12_digest_10 rfl rfl ?_
    refine f_getI fs_X12_116 dX12_digest_11 hf (fun v2 hf => ?_)
    refine ab_icmp_ge 71 dX12_digest_14 (by decide) hf (fun hf => ?_) (fun hf => ?_)
    · refine ab_iconst dX12_digest_17 kic_0 ?_
      refine ab_istore_n 2 [some (.ref x0), some (.int x1), some (.int 0)] dX12_digest_18 rfl (by decide) rfl rfl ?_
      exact ab_msk [true, true, true] (w_X12_digest_B19 x0 x1 (fun u1 hu => F_X12_digest_B9 x0 n u1 hu) (fun u1 hu hf => ih u1 hu hf) 200 0 h hf)
    refine ab_aload_n 0 dX12_digest_71 rfl rfl ?_
    refine f_getI fs_X12_116 dX12_digest_72 hf (fun v3 hf => ?_)
    refine ab_if_le 82 dX12_digest_75 (by decide) hf (fun hf => ?_) (fun hf => ?_)
    · refine ab_iconst dX12_digest_82 kic_0 ?_
      refine ab_istore_n 1 [some (.ref x0), some (.int 0), none] dX12_digest_83 rfl (by decide) rfl rfl ?_
      exact ab_msk [true, true, true] (w_X12_digest_B84 x0 200 0 h hf)
    refine ab_aload_n 0 dX12_digest_78 rfl rfl ?_
    refine f_V_v2 (As := []) (st := []) cs_X12_302 (fun hq q => m_X12_mixCourt x0 h q) rfl rfl dX12_digest_79 (rmk rfl) hf (fun h11 hf => ?_)
    refine ab_iconst dX12_digest_82 kic_0 ?_
    refine ab_istore_n 1 [some (.ref x0), some (.int 0), none] dX12_digest_83 rfl (by decide) rfl rfl ?_
    exact ab_msk [true, true, true] (w_X12_digest_B84 x0 200 0 h11 hf)
def F_X12_digest (a0 : Nat) (h : abH) : Option (Int64 × abH) :=
  (sV 12 h a0 40 (.long 1217)).bind fun h1 =>
  F_X12_digest_B9 a0 200 0 h1
theorem m_X12_digest {z0 : Int64} {hz : abH} (a0 : Nat) (h : abH) (hf : F_X12_digest a0 h = some (z0, hz)) : abM yX12_digest cX12_digest 3 (some .long) 10 0 0 [.ref a0] h (some (.long z0)) hz := by
  refine abM_of (ini := false) [some (.ref a0), none, none] (by decide +kernel) (fun q => by first | rfl | cases q) (Nat.le_of_ble_eq_true rfl) rfl ?_
  unfold F_X12_digest at hf
  refine ab_aload_n 0 dX12_digest_0 rfl rfl ?_
  refine ab_ldc2 (v := 1217) tb_1140 dX12_digest_1 ?_
  refine f_put fp_X12_293 (abFit_l _) dX12_digest_4 hf (fun h1 hf => ?_)
  refine ab_iconst dX12_digest_7 kic_0 ?_
  refine ab_istore_n 1 [some (.ref a0), some (.int 0), none] dX12_digest_8 rfl (by decide) rfl rfl ?_
  exact ab_msk [true, true, true] (w_X12_digest_B9 a0 200 0 h1 hf)
