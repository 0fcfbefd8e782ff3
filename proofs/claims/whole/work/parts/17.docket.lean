def F_X2_init (a0 : Nat) (h : abH) : Option abH :=
  nm (h ++ [.inl (0, 5, fun _ => 0)]) fun h1 =>
  (sV 2 h1 a0 0 (.ref (h.length + 3))).bind fun h2 =>
  nm (h2 ++ [.inl (0, 5, fun _ => 0)]) fun h3 =>
  (sV 2 h3 a0 2 (.ref (h2.length + 3))).bind fun h4 =>
  some h4
theorem m_X2_init {hz : abH} (a0 : Nat) (h : abH) (hf : F_X2_init a0 h = some hz) : abM yX2_init cX2_init 1 none 1 2 10 [.ref a0] h none hz := by
  refine abM_of (ini := true) [some (.ref a0)] (by decide +kernel) (fun q => by first | rfl | cases q) (Nat.le_of_ble_eq_true rfl) rfl ?_
  unfold F_X2_init at hf
  refine ab_aload_n 0 dX2_init_0 rfl rfl ?_
  refine ab_obj tb_172 tb_28 tb_29 dX2_init_1 (by decide) (Nat.le_of_ble_eq_true rfl) ?_
  refine ab_aload_n 0 dX2_init_4 rfl rfl ?_
  refine ab_iconst dX2_init_5 kic_5 ?_
  refine ab_newa (a := .int) 0 5 tb_129 (by simp) (by decide) (by decide +kernel) (by decide) dX2_init_6 (by omega) (by omega) ?_
  refine ab_nmh hf (fun h1 hf => ?_)
  refine f_putF fp_X2_9 rfl (abFit_a _ _) dX2_init_8 hf (fun h2 hf => ?_)
  refine ab_aload_n 0 dX2_init_11 rfl rfl ?_
  refine ab_iconst dX2_init_12 kic_5 ?_
  refine ab_newa (a := .int) 0 5 tb_129 (by simp) (by decide) (by decide +kernel) (by decide) dX2_init_13 (by omega) (by omega) ?_
  refine ab_nmh hf (fun h3 hf => ?_)
  refine f_putF fp_X2_15 rfl (abFit_a _ _) dX2_init_15 hf (fun h4 hf => ?_)
  exact f_retv2 dX2_init_18 rfl (by omega) (by omega) hf
def F_X9_init (a0 : Nat) : Option Unit :=
  some ()
theorem m_X9_init {z0 : Unit} (a0 : Nat) (h : abH) (hf : F_X9_init a0 = some z0) : abM yX9_init cX9_init 1 none 1 0 0 [.ref a0] h none h := by
  refine abM_of (ini := true) [some (.ref a0)] (by decide +kernel) (fun q => by first | rfl | cases q) (Nat.le_of_ble_eq_true rfl) rfl ?_
  unfold F_X9_init at hf
  refine ab_aload_n 0 dX9_init_0 rfl rfl ?_
  refine ab_obj tb_193 tb_28 tb_29 dX9_init_1 (by decide) (Nat.le_of_ble_eq_true rfl) ?_
  exact f_retv0 dX9_init_4 rfl (Nat.le_refl 0) (Nat.le_refl 0)
def F_X2_hoursForFirst_B5 (x0 : Nat) (x1 : Int32) (x2 : Int32) (h : abH) : Nat → Int32 → Int32 → Option Int32
  | 0, _, _ => none
  | n + 1, x3, x4 =>
    if x4 < 13 then
      (ko 1 h x0).bind fun _ => (F_X1_balance x0 x1 x2 x4 h).bind fun v1 =>
      if v1 ≤ 0 then
        F_X2_hoursForFirst_B5 x0 x1 x2 h n x3 (x4 + 1)
      else
        nm (x3 ||| ((1 : Int32) <<< (x4 &&& 31))) fun v2 =>
        F_X2_hoursForFirst_B5 x0 x1 x2 h n v2 (x4 + 1)
    else
      some x3
theorem w_X2_hoursForFirst_B5 {z0 : Int32} (x0 : Nat) (x1 : Int32) (x2 : Int32) (h : abH)   : ∀ (n : Nat) (x3 : Int32) (x4 : Int32), F_X2_hoursForFirst_B5 x0 x1 x2 h n x3 x4 = some z0 → abW cX2_hoursForFirst 5 RX2 (some .int) false 5 0 0 none (some (.int z0), h) 5 [some (.ref x0), some (.int x1), some (.int x2), some (.int x3), some (.int x4)] [] h 0 0 := by
  intro n
  induction n with
  | zero =>
    intro x3 x4 hf
    exact absurd (show (none : Option Int32) = some _ from hf) (by simp)
  | succ n ih =>
    intro x3 x4 hf
    rw [F_X2_hoursForFirst_B5.eq_2] at hf
    refine ab_iload dX2_hoursForFirst_5 rfl ?_
    refine ab_bipush dX2_hoursForFirst_7 kbp_13 ?_
    refine ab_icmp_ge 36 dX2_hoursForFirst_9 (by decide) hf (fun hf => ?_) (fun hf => ?_)
    · refine ab_aload_n 0 dX2_hoursForFirst_12 rfl rfl ?_
      refine ab_iload_n 1 dX2_hoursForFirst_13 rfl rfl ?_
      refine ab_iload_n 2 dX2_hoursForFirst_14 rfl rfl ?_
      refine ab_iload dX2_hoursForFirst_15 rfl ?_
      refine f_V_i (As := [.int x1, .int x2, .int x4]) (st := []) cs_X2_46 (fun v q => m_X1_balance x0 x1 x2 x4 h q) rfl rfl dX2_hoursForFirst_17 (rmk rfl) hf (fun v1 hf => ?_)
      refine ab_if_le 30 dX2_hoursForFirst_20 (by decide) hf (fun hf => ?_) (fun hf => ?_)
      · refine ab_iinc (v := x4 + 1) [some (.ref x0), some (.int x1), some (.int x2), some (.int x3), some (.int (x4 + 1))] dX2_hoursForFirst_30 rfl (kinc_1 _) (by decide) rfl rfl ?_
        refine ab_goto 5 dX2_hoursForFirst_33 (by decide) ?_
        exact ab_msk [true, true, true, true, true] (ih x3 (x4 + 1) hf)
      refine ab_iload_n 3 dX2_hoursForFirst_23 rfl rfl ?_
      refine ab_iconst dX2_hoursForFirst_24 kic_1 ?_
      refine ab_iload dX2_hoursForFirst_25 rfl ?_
      refine ab_ishl dX2_hoursForFirst_27 ?_
      refine ab_ior dX2_hoursForFirst_28 ?_
      refine ab_nmi hf (fun v2 hf => ?_)
      refine ab_istore_n 3 [some (.ref x0), some (.int x1), some (.int x2), some (.int v2), some (.int x4)] dX2_hoursForFirst_29 rfl (by decide) rfl rfl ?_
      refine ab_iinc (v := x4 + 1) [some (.ref x0), some (.int x1), some (.int x2), some (.int v2), some (.int (x4 + 1))] dX2_hoursForFirst_30 rfl (kinc_1 _) (by decide) rfl rfl ?_
      refine ab_goto 5 dX2_hoursForFirst_33 (by decide) ?_
      exact ab_msk [true, true, true, true, true] (ih v2 (x4 + 1) hf)
    refine ab_iload_n 3 dX2_hoursForFirst_36 rfl rfl ?_
    exact f_reti dX2_hoursForFirst_37 rfl (Nat.le_refl 0) (Nat.le_refl 0) hf
def F_X2_hoursForFirst (a0 : Nat) (a1 : Int32) (a2 : Int32) (h : abH) : Option Int32 :=
  F_X2_hoursForFirst_B5 a0 a1 a2 h 200 0 0
theorem m_X2_hoursForFirst {z0 : Int32} (a0 : Nat) (a1 : Int32) (a2 : Int32) (h : abH) (hf : F_X2_hoursForFirst a0 a1 a2 h = some z0) : abM yX2_hoursForFirst cX2_hoursForFirst 5 (some .int) 5 0 0 [.ref a0, .int a1, .int a2] h (some (.int z0)) h := by
  refine abM_of (ini := false) [some (.ref a0), some (.int a1), some (.int a2), none, none] (by decide +kernel) (fun q => by first | rfl | cases q) (Nat.le_of_ble_eq_true rfl) rfl ?_
  unfold F_X2_hoursForFirst at hf
  refine ab_iconst dX2_hoursForFirst_0 kic_0 ?_
  refine ab_istore_n 3 [some (.ref a0), some (.int a1), some (.int a2), some (.int 0), none] dX2_hoursForFirst_1 rfl (by decide) rfl rfl ?_
  refine ab_iconst dX2_hoursForFirst_2 kic_0 ?_
  refine ab_istore [some (.ref a0), some (.int a1), some (.int a2), some (.int 0), some (.int 0)] dX2_hoursForFirst_3 (by decide) rfl rfl ?_
  exact ab_msk [true, true, true, true, true] (w_X2_hoursForFirst_B5 a0 a1 a2 h 200 0 0 hf)
def F_X2_mostFrom_B31 (x0 : Nat) (x1 : Int32) (x2 : Int32) (x3 : Int32) (x4 : Int32) (x5 : Int32) (h : abH) (k17 : Int32 → Int32 → Option Int32) : Nat → Int32 → Int32 → Option Int32
  | 0, _, _ => none
  | n + 1, x6, x7 =>
    if x7 < x3 then
      if ((x5 >>> (x7 &&& 31)) &&& 1) = 0 then
        F_X2_mostFrom_B31 x0 x1 x2 x3 x4 x5 h k17 n x6 (x7 + 1)
      else
        (gR 2 h x0 0).bind fun v8 =>
        (ga 0 h v8 (x1 + x7)).bind fun v9 =>
        nm (x6 ||| v9) fun v10 =>
        F_X2_mostFrom_B31 x0 x1 x2 x3 x4 x5 h k17 n v10 (x7 + 1)
    else
      (F_J6_bitCount_0f7a4 x5).bind fun v4 =>
      (F_J6_bitCount_0f7a4 (x6 &&& x2)).bind fun v5 =>
      nm (v4 - v5) fun v6 =>
      nm (if (x3 - v6) < x4 then (x3 - v6) else x4) fun v7 =>
      k17 v7 (x5 + 1)
theorem w_X2_mostFrom_B31 {z0 : Int32} (x0 : Nat) (x1 : Int32) (x2 : Int32) (x3 : Int32) (x4 : Int32) (x5 : Int32) (h : abH) (k17 : Int32 → Int32 → Option Int32) (hk17 : ∀ (w4 : Int32) (w5 : Int32), k17 w4 w5 = some z0 → abW cX2_mostFrom 8 RX2 (some .int) false 2 0 0 none (some (.int z0), h) 17 [some (.ref x0), some (.int x1), some (.int x2), some (.int x3), some (.int w4), some (.int w5), none, none] [] h 0 0) : ∀ (n : Nat) (x6 : Int32) (x7 : Int32), F_X2_mostFrom_B31 x0 x1 x2 x3 x4 x5 h k17 n x6 x7 = some z0 → abW cX2_mostFrom 8 RX2 (some .int) false 2 0 0 none (some (.int z0), h) 31 [some (.ref x0), some (.int x1), some (.int x2), some (.int x3), some (.int x4), some (.int x5), some (.int x6), some (.int x7)] [] h 0 0 := by
  intro n
  induction n with
  | zero =>
    intro x6 x7 hf
    exact absurd (show (none : Option Int32) = some _ from hf) (by simp)
  | succ n ih =>
    intro x6 x7 hf
    rw [F_X2_mostFrom_B31.eq_2] at hf
    refine ab_iload dX2_mostFrom_31 rfl ?_
    refine ab_iload_n 3 dX2_mostFrom_33 rfl rfl ?_
    refine ab_icmp_ge 67 dX2_mostFrom_34 (by decide) hf (fun hf => ?_) (fun hf => ?_)
    · refine ab_iload dX2_mostFrom_37 rfl ?_
      refine ab_iload dX2_mostFrom_39 rfl ?_
      refine ab_ishr dX2_mostFrom_41 ?_
      refine ab_iconst dX2_mostFrom_42 kic_1 ?_
      refine ab_iand dX2_mostFrom_43 ?_
      refine ab_if_eq 61 dX2_mostFrom_44 (by decide) hf (fun hf => ?_) (fun hf => ?_)
      · refine ab_iinc (v := x7 + 1) [some (.ref x0), some (.int x1), some (.int x2), some (.int x3), some (.int x4), some (.int x5), some (.int x6), some (.int (x7 + 1))] dX2_mostFrom_61 rfl (kinc_1 _) (by decide) rfl rfl ?_
        refine ab_goto 31 dX2_mostFrom_64 (by decide) ?_
        exact ab_msk [true, true, true, true, true, true, true, true] (ih x6 (x7 + 1) hf)
      refine ab_iload dX2_mostFrom_47 rfl ?_
      refine ab_aload_n 0 dX2_mostFrom_49 rfl rfl ?_
      refine f_getR fs_X2_9 dX2_mostFrom_50 hf (fun v8 hf => ?_)
      refine ab_iload_n 1 dX2_mostFrom_53 rfl rfl ?_
      refine ab_iload dX2_mostFrom_54 rfl ?_
      refine ab_iadd dX2_mostFrom_56 ?_
      refine f_iald dX2_mostFrom_57 hf (fun v9 hf => ?_)
      refine ab_ior dX2_mostFrom_58 ?_
      refine ab_nmi hf (fun v10 hf => ?_)
      refine ab_istore [some (.ref x0), some (.int x1), some (.int x2), some (.int x3), some (.int x4), some (.int x5), some (.int v10), some (.int x7)] dX2_mostFrom_59 (by decide) rfl rfl ?_
      refine ab_iinc (v := x7 + 1) [some (.ref x0), some (.int x1), some (.int x2), some (.int x3), some (.int x4), some (.int x5), some (.int v10), some (.int (x7 + 1))] dX2_mostFrom_61 rfl (kinc_1 _) (by decide) rfl rfl ?_
      refine ab_goto 31 dX2_mostFrom_64 (by decide) ?_
      exact ab_msk [true, true, true, true, true, true, true, true] (ih v10 (x7 + 1) hf)
    refine ab_iload dX2_mostFrom_67 rfl ?_
    refine f_S_i (As := [.int x5]) (st := []) cs_X2_54 (fun v q => m_J6_bitCount_0f7a4 x5 h q) rfl rfl dX2_mostFrom_69 (rmk rfl) hf (fun v4 hf => ?_)
    refine ab_iload dX2_mostFrom_72 rfl ?_
    refine ab_iload_n 2 dX2_mostFrom_74 rfl rfl ?_
    refine ab_iand dX2_mostFrom_75 ?_
    refine f_S_i (As := [.int (x6 &&& x2)]) (st := [.int v4]) cs_X2_54 (fun v q => m_J6_bitCount_0f7a4 (x6 &&& x2) h q) rfl rfl dX2_mostFrom_76 (rmk rfl) hf (fun v5 hf => ?_)
    refine ab_isub dX2_mostFrom_79 ?_
    refine ab_nmi hf (fun v6 hf => ?_)
    refine ab_istore [some (.ref x0), some (.int x1), some (.int x2), some (.int x3), some (.int x4), some (.int x5), some (.int x6), some (.int v6)] dX2_mostFrom_80 (by decide) rfl rfl ?_
    refine ab_iload dX2_mostFrom_82 rfl ?_
    refine ab_iload_n 3 dX2_mostFrom_84 rfl rfl ?_
    refine ab_iload dX2_mostFrom_85 rfl ?_
    refine ab_isub dX2_mostFrom_87 ?_
    refine ab_min tb_643 tb_292 tb_11 tb_293 dX2_mostFrom_88 (by decide) (Nat.le_of_ble_eq_true rfl) (Nat.le_refl 0) (Nat.le_refl 0) ?_
    refine ab_nmi hf (fun v7 hf => ?_)
    refine ab_istore [some (.ref x0), some (.int x1), some (.int x2), some (.int x3), some (.int v7), some (.int x5), some (.int x6), some (.int v6)] dX2_mostFrom_91 (by decide) rfl rfl ?_
    refine ab_iinc (v := x5 + 1) [some (.ref x0), some (.int x1), some (.int x2), some (.int x3), some (.int v7), some (.int (x5 + 1)), some (.int x6), some (.int v6)] dX2_mostFrom_93 rfl (kinc_1 _) (by decide) rfl rfl ?_
    refine ab_goto 17 dX2_mostFrom_96 (by decide) ?_
    exact ab_msk [true, true, true, true, true, true, false, false] (hk17 v7 (x5 + 1) hf)
def F_X2_mostFrom_B17 (x0 : Nat) (x1 : Int32) (x2 : Int32) (x3 : Int32) (h : abH) : Nat → Int32 → Int32 → Option Int32
  | 0, _, _ => none
  | n + 1, x4, x5 =>
    if x5 < ((1 : Int32) <<< (x3 &&& 31)) then
      F_X2_mostFrom_B31 x0 x1 x2 x3 x4 x5 h (fun u4 u5 => F_X2_mostFrom_B17 x0 x1 x2 x3 h n u4 u5) 200 0 0
    else
      some x4
theorem w_X2_mostFrom_B17 {z0 : Int32} (x0 : Nat) (x1 : Int32) (x2 : Int32) (x3 : Int32) (h : abH)   : ∀ (n : Nat) (x4 : Int32) (x5 : Int32), F_X2_mostFrom_B17 x0 x1 x2 x3 h n x4 x5 = some z0 → abW cX2_mostFrom 8 RX2 (some .int) false 2 0 0 none (some (.int z0), h) 17 [some (.ref x0), some (.int x1), some (.int x2), some (.int x3), some (.int x4), some (.int x5), none, none] [] h 0 0 := by
  intro n
  induction n with
  | zero =>
    intro x4 x5 hf
    exact absurd (show (none : Option Int32) = some _ from hf) (by simp)
  | succ n ih =>
    intro x4 x5 hf
    rw [F_X2_mostFrom_B17.eq_2] at hf
    refine ab_iload dX2_mostFrom_17 rfl ?_
    refine ab_iconst dX2_mostFrom_19 kic_1 ?_
    refine ab_iload_n 3 dX2_mostFrom_20 rfl rfl ?_
    refine ab_ishl dX2_mostFrom_21 ?_
    refine ab_icmp_ge 99 dX2_mostFrom_22 (by decide) hf (fun hf => ?_) (fun hf => ?_)
    · refine ab_iconst dX2_mostFrom_25 kic_0 ?_
      refine ab_istore [some (.ref x0), some (.int x1), some (.int x2), some (.int x3), some (.int x4), some (.int x5), some (.int 0), none] dX2_mostFrom_26 (by decide) rfl rfl ?_
      refine ab_iconst dX2_mostFrom_28 kic_0 ?_
      refine ab_istore [some (.ref x0), some (.int x1), some (.int x2), some (.int x3), some (.int x4), some (.int x5), some (.int 0), some (.int 0)] dX2_mostFrom_29 (by decide) rfl rfl ?_
      exact ab_msk [true, true, true, true, true, true, true, true] (w_X2_mostFrom_B31 x0 x1 x2 x3 x4 x5 h (fun u4 u5 => F_X2_mostFrom_B17 x0 x1 x2 x3 h n u4 u5) (fun u4 u5 hf => ih u4 u5 hf) 200 0 0 hf)
    refine ab_iload dX2_mostFrom_99 rfl ?_
    exact f_reti dX2_mostFrom_101 rfl (Nat.le_refl 0) (Nat.le_refl 0) hf
def F_X2_mostFrom (a0 : Nat) (a1 : Int32) (a2 : Int32) (h : abH) : Option Int32 :=
  (gI 2 h a0 1).bind fun v1 =>
  nm (v1 - a1) fun v2 =>
  nm (if v2 < 0 then 0 else v2) fun v3 =>
  F_X2_mostFrom_B17 a0 a1 a2 v2 h 200 v3 1
theorem m_X2_mostFrom {z0 : Int32} (a0 : Nat) (a1 : Int32) (a2 : Int32) (h : abH) (hf : F_X2_mostFrom a0 a1 a2 h = some z0) : abM yX2_mostFrom cX2_mostFrom 8 (some .int) 2 0 0 [.ref a0, .int a1, .int a2] h (some (.int z0)) h := by
  refine abM_of (ini := false) [some (.ref a0), some (.int a1), some (.int a2), none, none, none, none, none] (by decide +kernel) (fun q => by first | rfl | cases q) (Nat.le_of_ble_eq_true rfl) rfl ?_
  unfold F_X2_mostFrom at hf
  refine ab_aload_n 0 dX2_mostFrom_0 rfl rfl ?_
  refine f_getI fs_X2_24 dX2_mostFrom_1 hf (fun v1 hf => ?_)
  refine ab_iload_n 1 dX2_mostFrom_4 rfl rfl ?_
  refine ab_isub dX2_mostFrom_5 ?_
  refine ab_nmi hf (fun v2 hf => ?_)
  refine ab_istore_n 3 [some (.ref a0), some (.int a1), some (.int a2), some (.int v2), none, none, none, none] dX2_mostFrom_6 rfl (by decide) rfl rfl ?_
  refine ab_iload_n 3 dX2_mostFrom_7 rfl rfl ?_
  refine ab_iconst dX2_mostFrom_8 kic_0 ?_
  refine ab_max tb_641 tb_289 tb_11 tb_290 dX2_mostFrom_9 (by decide) (Nat.le_of_ble_eq_true rfl) (Nat.le_refl 0) (Nat.le_refl 0) ?_
  refine ab_nmi hf (fun v3 hf => ?_)
  refine ab_istore [some (.ref a0), some (.int a1), some (.int a2), some (.int v2), some (.int v3), none, none, none] dX2_mostFrom_12 (by decide) rfl rfl ?_
  refine ab_iconst dX2_mostFrom_14 kic_1 ?_
  refine ab_istore [some (.ref a0), some (.int a1), some (.int a2), some (.int v2), some (.int v3), some (.int 1), none, none] dX2_mostFrom_15 (by decide) rfl rfl ?_
  exact ab_msk [true, true, true, true, true, true, true, true] (w_X2_mostFrom_B17 a0 a1 a2 v2 h 200 v3 1 hf)
def F_X2_firstHour_B17 (x0 : Nat) (x1 : Int32) (x2 : Int32) (x3 : Int32) (h : abH) : Nat → Int32 → Option Int32
  | 0, _ => none
  | n + 1, x4 =>
    if x4 < 13 then
      nm ((1 : Int32) <<< (x4 &&& 31)) fun v2 =>
      (gR 2 h x0 0).bind fun v3 =>
      (ga 0 h v3 x1).bind fun v4 =>
      if ((v4 &&& x2) &&& v2) = 0 then
        F_X2_firstHour_B17 x0 x1 x2 x3 h n (x4 + 1)
      else
        (ko 2 h x0).bind fun _ => (F_X2_mostFrom x0 (x1 + 1) (x2 &&& (v2 ^^^ (-1))) h).bind fun v5 =>
        if (1 + v5) < x3 then
          F_X2_firstHour_B17 x0 x1 x2 x3 h n (x4 + 1)
        else
          some x4
    else
      some (-1)
theorem w_X2_firstHour_B17 {z0 : Int32} (x0 : Nat) (x1 : Int32) (x2 : Int32) (x3 : Int32) (h : abH)   : ∀ (n : Nat) (x4 : Int32), F_X2_firstHour_B17 x0 x1 x2 x3 h n x4 = some z0 → abW cX2_firstHour 6 RX2 (some .int) false 3 0 0 none (some (.int z0), h) 17 [some (.ref x0), some (.int x1), some (.int x2), some (.int x3), some (.int x4), none] [] h 0 0 := by
  intro n
  induction n with
  | zero =>
    intro x4 hf
    exact absurd (show (none : Option Int32) = some _ from hf) (by simp)
  | succ n ih =>
    intro x4 hf
    rw [F_X2_firstHour_B17.eq_2] at hf
    refine ab_iload dX2_firstHour_17 rfl ?_
    refine ab_bipush dX2_firstHour_19 kbp_13 ?_
    refine ab_icmp_ge 75 dX2_firstHour_21 (by decide) hf (fun hf => ?_) (fun hf => ?_)
    · refine ab_iconst dX2_firstHour_24 kic_1 ?_
      refine ab_iload dX2_firstHour_25 rfl ?_
      refine ab_ishl dX2_firstHour_27 ?_
      refine ab_nmi hf (fun v2 hf => ?_)
      refine ab_istore [some (.ref x0), some (.int x1), some (.int x2), some (.int x3), some (.int x4), some (.int v2)] dX2_firstHour_28 (by decide) rfl rfl ?_
      refine ab_aload_n 0 dX2_firstHour_30 rfl rfl ?_
      refine f_getR fs_X2_9 dX2_firstHour_31 hf (fun v3 hf => ?_)
      refine ab_iload_n 1 dX2_firstHour_34 rfl rfl ?_
      refine f_iald dX2_firstHour_35 hf (fun v4 hf => ?_)
      refine ab_iload_n 2 dX2_firstHour_36 rfl rfl ?_
      refine ab_iand dX2_firstHour_37 ?_
      refine ab_iload dX2_firstHour_38 rfl ?_
      refine ab_iand dX2_firstHour_40 ?_
      refine ab_if_ne 47 dX2_firstHour_41 (by decide) hf (fun hf => ?_) (fun hf => ?_)
      · refine ab_goto 69 dX2_firstHour_44 (by decide) ?_
        refine ab_iinc (v := x4 + 1) [some (.ref x0), some (.int x1), some (.int x2), some (.int x3), some (.int (x4 + 1)), some (.int v2)] dX2_firstHour_69 rfl (kinc_1 _) (by decide) rfl rfl ?_
        refine ab_goto 17 dX2_firstHour_72 (by decide) ?_
        exact ab_msk [true, true, true, true, true, false] (ih (x4 + 1) hf)
      refine ab_iconst dX2_firstHour_47 kic_1 ?_
      refine ab_aload_n 0 dX2_firstHour_48 rfl rfl ?_
      refine ab_iload_n 1 dX2_firstHour_49 rfl rfl ?_
      refine ab_iconst dX2_firstHour_50 kic_1 ?_
      refine ab_iadd dX2_firstHour_51 ?_
      refine ab_iload_n 2 dX2_firstHour_52 rfl rfl ?_
      refine ab_iload dX2_firstHour_53 rfl ?_
      refine ab_iconst dX2_firstHour_55 kic_m1 ?_
      refine ab_ixor dX2_firstHour_56 ?_
      refine ab_iand dX2_firstHour_57 ?_
      refine f_V_i (As := [.int (x1 + 1), .int (x2 &&& (v2 ^^^ (-1)))]) (st := [.int 1]) cs_X2_35 (fun v q => m_X2_mostFrom x0 (x1 + 1) (x2 &&& (v2 ^^^ (-1))) h q) rfl rfl dX2_firstHour_58 (rmk rfl) hf (fun v5 hf => ?_)
      refine ab_iadd dX2_firstHour_61 ?_
      refine ab_iload_n 3 dX2_firstHour_62 rfl rfl ?_
      refine ab_icmp_lt 69 dX2_firstHour_63 (by decide) hf (fun hf => ?_) (fun hf => ?_)
      · refine ab_iinc (v := x4 + 1) [some (.ref x0), some (.int x1), some (.int x2), some (.int x3), some (.int (x4 + 1)), some (.int v2)] dX2_firstHour_69 rfl (kinc_1 _) (by decide) rfl rfl ?_
        refine ab_goto 17 dX2_firstHour_72 (by decide) ?_
        exact ab_msk [true, true, true, true, true, false] (ih (x4 + 1) hf)
      refine ab_iload dX2_firstHour_66 rfl ?_
      exact f_reti dX2_firstHour_68 rfl (Nat.le_refl 0) (Nat.le_refl 0) hf
    refine ab_iconst dX2_firstHour_75 kic_m1 ?_
    exact f_reti dX2_firstHour_76 rfl (Nat.le_refl 0) (Nat.le_refl 0) hf
def F_X2_firstHour (a0 : Nat) (a1 : Int32) (a2 : Int32) (a3 : Int32) (h : abH) : Option Int32 :=
  (ko 2 h a0).bind fun _ => (F_X2_mostFrom a0 (a1 + 1) a2 h).bind fun v1 =>
  if v1 < a3 then
    F_X2_firstHour_B17 a0 a1 a2 a3 h 200 0
  else
    some (-1)
theorem m_X2_firstHour {z0 : Int32} (a0 : Nat) (a1 : Int32) (a2 : Int32) (a3 : Int32) (h : abH) (hf : F_X2_firstHour a0 a1 a2 a3 h = some z0) : abM yX2_firstHour cX2_firstHour 6 (some .int) 3 0 0 [.ref a0, .int a1, .int a2, .int a3] h (some (.int z0)) h := by
  refine abM_of (ini := false) [some (.ref a0), some (.int a1), some (.int a2), some (.int a3), none, none] (by decide +kernel) (fun q => by first | rfl | cases q) (Nat.le_of_ble_eq_true rfl) rfl ?_
  unfold F_X2_firstHour at hf
  refine ab_aload_n 0 dX2_firstHour_0 rfl rfl ?_
  refine ab_iload_n 1 dX2_firstHour_1 rfl rfl ?_
  refine ab_iconst dX2_firstHour_2 kic_1 ?_
  refine ab_iadd dX2_firstHour_3 ?_
  refine ab_iload_n 2 dX2_firstHour_4 rfl rfl ?_
  refine f_V_i (As := [.int (a1 + 1), .int a2]) (st := []) cs_X2_35 (fun v q => m_X2_mostFrom a0 (a1 + 1) a2 h q) rfl rfl dX2_firstHour_5 (rmk rfl) hf (fun v1 hf => ?_)
  refine ab_iload_n 3 dX2_firstHour_8 rfl rfl ?_
  refine ab_icmp_lt 14 dX2_firstHour_9 (by decide) hf (fun hf => ?_) (fun hf => ?_)
  · refine ab_iconst dX2_firstHour_14 kic_0 ?_
    refine ab_istore [some (.ref a0), some (.int a1), some (.int a2), some (.int a3), some (.int 0), none] dX2_firstHour_15 (by decide) rfl rfl ?_
    exact ab_msk [true, true, true, true, true, true] (w_X2_firstHour_B17 a0 a1 a2 a3 h 200 0 hf)
  refine ab_iconst dX2_firstHour_12 kic_m1 ?_
  exact f_reti dX2_firstHour_13 rfl (Nat.le_refl 0) (Nat.le_refl 0) hf
def F_X2_set_B68 (x0 : Nat) : Nat → Int32 → Int32 → Int32 → abH → Option abH
  | 0, _, _, _, _ => none
  | n + 1, x2, x3, x4, h =>
    (gI 2 h x0 1).bind fun v7 =>
    if x4 < v7 then
      (gR 2 h x0 2).bind fun v8 =>
      (ko 2 h x0).bind fun _ => (F_X2_firstHour x0 x4 x2 x3 h).bind fun v9 =>
      (sa 0 h v8 x4 v9).bind fun h10 =>
      (gR 2 h10 x0 2).bind fun v11 =>
      (ga 0 h10 v11 x4).bind fun v12 =>
      if v12 = (-1) then
        F_X2_set_B68 x0 n x2 x3 (x4 + 1) h10
      else
        (gR 2 h10 x0 2).bind fun v13 =>
        (ga 0 h10 v13 x4).bind fun v14 =>
        nm (x2 &&& (((1 : Int32) <<< (v14 &&& 31)) ^^^ (-1))) fun v15 =>
        F_X2_set_B68 x0 n v15 (x3 + (-1)) (x4 + 1) h10
    else
      some h
theorem w_X2_set_B68 {hz : abH} (x0 : Nat)   : ∀ (n : Nat) (x2 : Int32) (x3 : Int32) (x4 : Int32) (h : abH), F_X2_set_B68 x0 n x2 x3 x4 h = some hz → abW cX2_set 5 RX2 none false 6 0 0 none (none, hz) 68 [some (.ref x0), none, some (.int x2), some (.int x3), some (.int x4)] [] h 0 0 := by
  intro n
  induction n with
  | zero =>
    intro x2 x3 x4 h hf
    exact absurd (show (none : Option abH) = some _ from hf) (by simp)
  | succ n ih =>
    intro x2 x3 x4 h hf
    rw [F_X2_set_B68.eq_2] at hf
    refine ab_iload dX2_set_68 rfl ?_
    refine ab_aload_n 0 dX2_set_70 rfl rfl ?_
    refine f_getI fs_X2_24 dX2_set_71 hf (fun v7 hf => ?_)
    refine ab_icmp_ge 129 dX2_set_74 (by decide) hf (fun hf => ?_) (fun hf => ?_)
    · refine ab_aload_n 0 dX2_set_77 rfl rfl ?_
      refine f_getR fs_X2_15 dX2_set_78 hf (fun v8 hf => ?_)
      refine ab_iload dX2_set_81 rfl ?_
      refine ab_aload_n 0 dX2_set_83 rfl rfl ?_
      refine ab_iload dX2_set_84 rfl ?_
      refine ab_iload_n 2 dX2_set_86 rfl rfl ?_
      refine ab_iload_n 3 dX2_set_87 rfl rfl ?_
      refine f_V_i (As := [.int x4, .int x2, .int x3]) (st := [.int x4, .ref v8]) cs_X2_42 (fun v q => m_X2_firstHour x0 x4 x2 x3 h q) rfl rfl dX2_set_88 (rmk rfl) hf (fun v9 hf => ?_)
      refine f_iast dX2_set_91 hf (fun h10 hf => ?_)
      refine ab_aload_n 0 dX2_set_92 rfl rfl ?_
      refine f_getR fs_X2_15 dX2_set_93 hf (fun v11 hf => ?_)
      refine ab_iload dX2_set_96 rfl ?_
      refine f_iald dX2_set_98 hf (fun v12 hf => ?_)
      refine ab_iconst dX2_set_99 kic_m1 ?_
      refine ab_icmp_ne 106 dX2_set_100 (by decide) hf (fun hf => ?_) (fun hf => ?_)
      · refine ab_goto 123 dX2_set_103 (by decide) ?_
        refine ab_iinc (v := x4 + 1) [some (.ref x0), none, some (.int x2), some (.int x3), some (.int (x4 + 1))] dX2_set_123 rfl (kinc_1 _) (by decide) rfl rfl ?_
        refine ab_goto 68 dX2_set_126 (by decide) ?_
        exact ab_msk [true, true, true, true, true] (ih x2 x3 (x4 + 1) h10 hf)
      refine ab_iload_n 2 dX2_set_106 rfl rfl ?_
      refine ab_iconst dX2_set_107 kic_1 ?_
      refine ab_aload_n 0 dX2_set_108 rfl rfl ?_
      refine f_getR fs_X2_15 dX2_set_109 hf (fun v13 hf => ?_)
      refine ab_iload dX2_set_112 rfl ?_
      refine f_iald dX2_set_114 hf (fun v14 hf => ?_)
      refine ab_ishl dX2_set_115 ?_
      refine ab_iconst dX2_set_116 kic_m1 ?_
      refine ab_ixor dX2_set_117 ?_
      refine ab_iand dX2_set_118 ?_
      refine ab_nmi hf (fun v15 hf => ?_)
      refine ab_istore_n 2 [some (.ref x0), none, some (.int v15), some (.int x3), some (.int x4)] dX2_set_119 rfl (by decide) rfl rfl ?_
      refine ab_iinc (v := x3 + (-1)) [some (.ref x0), none, some (.int v15), some (.int (x3 + (-1))), some (.int x4)] dX2_set_120 rfl (kinc_m1 _) (by decide) rfl rfl ?_
      refine ab_iinc (v := x4 + 1) [some (.ref x0), none, some (.int v15), some (.int (x3 + (-1))), some (.int (x4 + 1))] dX2_set_123 rfl (kinc_1 _) (by decide) rfl rfl ?_
      refine ab_goto 68 dX2_set_126 (by decide) ?_
      exact ab_msk [true, true, true, true, true] (ih v15 (x3 + (-1)) (x4 + 1) h10 hf)
    exact f_retv2 dX2_set_129 rfl (Nat.le_refl 0) (Nat.le_refl 0) hf
def F_X2_set_B10 (x0 : Nat) (x1 : Nat) : Nat → Int32 → abH → Option abH
  | 0, _, _ => none
  | n + 1, x2, h =>
    (gI 2 h x0 1).bind fun v3 =>
    if x2 < v3 then
      (gR 2 h x0 0).bind fun v16 =>
      (gR 1 h x1 8).bind fun v17 =>
      (ga 0 h v17 x2).bind fun v18 =>
      (gR 1 h x1 9).bind fun v19 =>
      (ga 0 h v19 x2).bind fun v20 =>
      (F_X2_hoursForFirst x1 v18 v20 h).bind fun v21 =>
      (sa 0 h v16 x2 v21).bind fun h22 =>
      F_X2_set_B10 x0 x1 n (x2 + 1) h22
    else
      (ko 2 h x0).bind fun _ => (F_X2_mostFrom x0 0 8191 h).bind fun v4 =>
      (sV 2 h x0 3 (.int v4)).bind fun h5 =>
      (gI 2 h5 x0 3).bind fun v6 =>
      F_X2_set_B68 x0 200 8191 v6 0 h5
theorem w_X2_set_B10 {hz : abH} (x0 : Nat) (x1 : Nat)   : ∀ (n : Nat) (x2 : Int32) (h : abH), F_X2_set_B10 x0 x1 n x2 h = some hz → abW cX2_set 5 RX2 none false 6 0 0 none (none, hz) 10 [some (.ref x0), some (.ref x1), some (.int x2), none, none] [] h 0 0 := by
  intro n
  induction n with
  | zero =>
    intro x2 h hf
    exact absurd (show (none : Option abH) = some _ from hf) (by simp)
  | succ n ih =>
    intro x2 h hf
    rw [F_X2_set_B10.eq_2] at hf
    refine ab_iload_n 2 dX2_set_10 rfl rfl ?_
    refine ab_aload_n 0 dX2_set_11 rfl rfl ?_
    refine f_getI fs_X2_24 dX2_set_12 hf (fun v3 hf => ?_)
    refine ab_icmp_ge 46 dX2_set_15 (by decide) hf (fun hf => ?_) (fun hf => ?_)
    · refine ab_aload_n 0 dX2_set_18 rfl rfl ?_
      refine f_getR fs_X2_9 dX2_set_19 hf (fun v16 hf => ?_)
      refine ab_iload_n 2 dX2_set_22 rfl rfl ?_
      refine ab_aload_n 1 dX2_set_23 rfl rfl ?_
      refine ab_aload_n 1 dX2_set_24 rfl rfl ?_
      refine f_getR fs_X2_25 dX2_set_25 hf (fun v17 hf => ?_)
      refine ab_iload_n 2 dX2_set_28 rfl rfl ?_
      refine f_iald dX2_set_29 hf (fun v18 hf => ?_)
      refine ab_aload_n 1 dX2_set_30 rfl rfl ?_
      refine f_getR fs_X2_28 dX2_set_31 hf (fun v19 hf => ?_)
      refine ab_iload_n 2 dX2_set_34 rfl rfl ?_
      refine f_iald dX2_set_35 hf (fun v20 hf => ?_)
      refine f_S_i (As := [.ref x1, .int v18, .int v20]) (st := [.int x2, .ref v16]) cs_X2_31 (fun v q => m_X2_hoursForFirst x1 v18 v20 h q) rfl rfl dX2_set_36 (rmk rfl) hf (fun v21 hf => ?_)
      refine f_iast dX2_set_39 hf (fun h22 hf => ?_)
      refine ab_iinc (v := x2 + 1) [some (.ref x0), some (.ref x1), some (.int (x2 + 1)), none, none] dX2_set_40 rfl (kinc_1 _) (by decide) rfl rfl ?_
      refine ab_goto 10 dX2_set_43 (by decide) ?_
      exact ab_msk [true, true, true, true, true] (ih (x2 + 1) h22 hf)
    refine ab_sipush dX2_set_46 ksp_8191 ?_
    refine ab_istore_n 2 [some (.ref x0), some (.ref x1), some (.int 8191), none, none] dX2_set_49 rfl (by decide) rfl rfl ?_
    refine ab_aload_n 0 dX2_set_50 rfl rfl ?_
    refine ab_aload_n 0 dX2_set_51 rfl rfl ?_
    refine ab_iconst dX2_set_52 kic_0 ?_
    refine ab_iload_n 2 dX2_set_53 rfl rfl ?_
    refine f_V_i (As := [.int 0, .int 8191]) (st := [.ref x0]) cs_X2_35 (fun v q => m_X2_mostFrom x0 0 8191 h q) rfl rfl dX2_set_54 (rmk rfl) hf (fun v4 hf => ?_)
    refine f_put fp_X2_39 (abFit_i _) dX2_set_57 hf (fun h5 hf => ?_)
    refine ab_aload_n 0 dX2_set_60 rfl rfl ?_
    refine f_getI fs_X2_39 dX2_set_61 hf (fun v6 hf => ?_)
    refine ab_istore_n 3 [some (.ref x0), some (.ref x1), some (.int 8191), some (.int v6), none] dX2_set_64 rfl (by decide) rfl rfl ?_
    refine ab_iconst dX2_set_65 kic_0 ?_
    refine ab_istore [some (.ref x0), some (.ref x1), some (.int 8191), some (.int v6), some (.int 0)] dX2_set_66 (by decide) rfl rfl ?_
    exact ab_msk [true, false, true, true, true] (w_X2_set_B68 x0 200 8191 v6 0 h5 hf)
def F_X2_set (a0 : Nat) (a1 : Nat) (h : abH) : Option abH :=
  (gI 1 h a1 7).bind fun v1 =>
  (sV 2 h a0 1 (.int v1)).bind fun h2 =>
  F_X2_set_B10 a0 a1 200 0 h2
theorem m_X2_set {hz : abH} (a0 : Nat) (a1 : Nat) (h : abH) (hf : F_X2_set a0 a1 h = some hz) : abM yX2_set cX2_set 5 none 6 0 0 [.ref a0, .ref a1] h none hz := by
  refine abM_of (ini := false) [some (.ref a0), some (.ref a1), none, none, none] (by decide +kernel) (fun q => by first | rfl | cases q) (Nat.le_of_ble_eq_true rfl) rfl ?_
  unfold F_X2_set at hf
  refine ab_aload_n 0 dX2_set_0 rfl rfl ?_
  refine ab_aload_n 1 dX2_set_1 rfl rfl ?_
  refine f_getI fs_X2_18 dX2_set_2 hf (fun v1 hf => ?_)
  refine f_put fp_X2_24 (abFit_i _) dX2_set_5 hf (fun h2 hf => ?_)
  refine ab_iconst dX2_set_8 kic_0 ?_
  refine ab_istore_n 2 [some (.ref a0), some (.ref a1), some (.int 0), none, none] dX2_set_9 rfl (by decide) rfl rfl ?_
  exact ab_msk [true, true, true, true, true] (w_X2_set_B10 a0 a1 200 0 h2 hf)
def F_X9_draw (a0 : Nat) (a1 : Int32) (h : abH) : Option (Int32 × abH) :=
  (gJ 9 h a0 0).bind fun v1 =>
  dzl 2147483648 <|
  (sV 9 h a0 0 (.long (((v1 * 1103515245) + 12345) - ((v1 * 1103515245) + 12345) / 2147483648 * 2147483648))).bind fun h2 =>
  if a1 < 1 then
    some (0, h2)
  else
    (gJ 9 h2 a0 0).bind fun v3 =>
    dzl 65536 <|
    dzl a1.toInt64 <|
    some (((v3 / 65536) - (v3 / 65536) / a1.toInt64 * a1.toInt64).toInt32, h2)
theorem m_X9_draw {z0 : Int32} {hz : abH} (a0 : Nat) (a1 : Int32) (h : abH) (hf : F_X9_draw a0 a1 h = some (z0, hz)) : abM yX9_draw cX9_draw 2 (some .int) 1 0 0 [.ref a0, .int a1] h (some (.int z0)) hz := by
  refine abM_of (ini := false) [some (.ref a0), some (.int a1)] (by decide +kernel) (fun q => by first | rfl | cases q) (Nat.le_of_ble_eq_true rfl) rfl ?_
  unfold F_X9_draw at hf
  refine ab_aload_n 0 dX9_draw_0 rfl rfl ?_
  refine ab_aload_n 0 dX9_draw_1 rfl rfl ?_
  refine f_getJ fs_X9_9 dX9_draw_2 hf (fun v1 hf => ?_)
  refine ab_ldc2 (v := 1103515245) tb_675 dX9_draw_5 ?_
  refine ab_lmul dX9_draw_8 ?_
  refine ab_ldc2 (v := 12345) tb_676 dX9_draw_9 ?_
  refine ab_ladd dX9_draw_12 ?_
  refine ab_ldc2 (v := 2147483648) tb_677 dX9_draw_13 ?_
  refine f_lrem dX9_draw_16 hf (fun hf => ?_)
  refine f_put fp_X9_9 (abFit_l _) dX9_draw_17 hf (fun h2 hf => ?_)
  refine ab_iload_n 1 dX9_draw_20 rfl rfl ?_
  refine ab_iconst dX9_draw_21 kic_1 ?_
  refine ab_icmp_ge 29 dX9_draw_22 (by decide) hf (fun hf => ?_) (fun hf => ?_)
  · refine ab_iconst dX9_draw_25 kic_0 ?_
    refine ab_goto 41 dX9_draw_26 (by decide) ?_
    exact f_reti2 dX9_draw_41 rfl (Nat.le_refl 0) (Nat.le_refl 0) hf
  refine ab_aload_n 0 dX9_draw_29 rfl rfl ?_
  refine f_getJ fs_X9_9 dX9_draw_30 hf (fun v3 hf => ?_)
  refine ab_ldc2 (v := 65536) tb_678 dX9_draw_33 ?_
  refine f_ldiv dX9_draw_36 hf (fun hf => ?_)
  refine ab_iload_n 1 dX9_draw_37 rfl rfl ?_
  refine ab_i2l dX9_draw_38 ?_
  refine f_lrem dX9_draw_39 hf (fun hf => ?_)
  refine ab_l2i dX9_draw_40 ?_
  exact f_reti2 dX9_draw_41 rfl (Nat.le_refl 0) (Nat.le_refl 0) hf
def F_X9_hold_B90 (x0 : Nat) (x1 : Nat) (x2 : Int32) (x4 : Int32) (x8 : Int32) (h : abH) (k19 : Int32 → abH → Option abH) : Option abH :=
  if x8 = 0 then
    (gI 9 h x0 2).bind fun v13 =>
    (sV 9 h x0 2 (.int (v13 + 1))).bind fun h14 =>
    k19 (x4 + 1) h14
  else
    k19 (x4 + 1) h
theorem w_X9_hold_B90 {hz : abH} (x0 : Nat) (x1 : Nat) (x2 : Int32) (x4 : Int32) (x8 : Int32) (h : abH) (k19 : Int32 → abH → Option abH) (hk19 : ∀ (w4 : Int32) (hw : abH), k19 w4 hw = some hz → abW cX9_hold 9 RX9 none false 5 0 0 none (none, hz) 19 [some (.ref x0), some (.ref x1), some (.int x2), none, some (.int w4), none, none, none, none] [] hw 0 0) (hf : F_X9_hold_B90 x0 x1 x2 x4 x8 h k19 = some hz) : abW cX9_hold 9 RX9 none false 5 0 0 none (none, hz) 90 [some (.ref x0), some (.ref x1), some (.int x2), none, some (.int x4), none, none, none, some (.int x8)] [] h 0 0 := by
  unfold F_X9_hold_B90 at hf
  refine ab_iload dX9_hold_90 rfl ?_
  refine ab_if_ne 105 dX9_hold_92 (by decide) hf (fun hf => ?_) (fun hf => ?_)
  · refine ab_aload_n 0 dX9_hold_95 rfl rfl ?_
    refine ab_dup dX9_hold_96 rfl ?_
    refine f_getI fs_X9_19 dX9_hold_97 hf (fun v13 hf => ?_)
    refine ab_iconst dX9_hold_100 kic_1 ?_
    refine ab_iadd dX9_hold_101 ?_
    refine f_put fp_X9_19 (abFit_i _) dX9_hold_102 hf (fun h14 hf => ?_)
    refine ab_iinc (v := x4 + 1) [some (.ref x0), some (.ref x1), some (.int x2), none, some (.int (x4 + 1)), none, none, none, some (.int x8)] dX9_hold_105 rfl (kinc_1 _) (by decide) rfl rfl ?_
    refine ab_goto 19 dX9_hold_108 (by decide) ?_
    exact ab_msk [true, true, true, true, true, true, true, true, false] (hk19 (x4 + 1) h14 hf)
  refine ab_iinc (v := x4 + 1) [some (.ref x0), some (.ref x1), some (.int x2), none, some (.int (x4 + 1)), none, none, none, some (.int x8)] dX9_hold_105 rfl (kinc_1 _) (by decide) rfl rfl ?_
  refine ab_goto 19 dX9_hold_108 (by decide) ?_
  exact ab_msk [true, true, true, true, true, true, true, true, false] (hk19 (x4 + 1) h hf)
def F_X9_hold_B19 (x0 : Nat) (x1 : Nat) (x2 : Int32) : Nat → Int32 → abH → Option abH
  | 0, _, _ => none
  | n + 1, x4, h =>
    if x4 < x2 then
      (gI 1 h x1 0).bind fun v4 =>
      (ko 9 h x0).bind fun _ => bd2 (F_X9_draw x0 v4 h) fun v6 h5 =>
      (gI 1 h5 x1 0).bind fun v7 =>
      (ko 9 h5 x0).bind fun _ => bd2 (F_X9_draw x0 v7 h5) fun v9 h8 =>
      (ko 9 h8 x0).bind fun _ => bd2 (F_X9_draw x0 13 h8) fun v11 h10 =>
      if v6 = v9 then
        F_X9_hold_B19 x0 x1 x2 n (x4 + 1) h10
      else
        (ko 1 h10 x1).bind fun _ => (F_X1_balance x1 v6 v9 v11 h10).bind fun v12 =>
        if v12 ≤ 0 then
          F_X9_hold_B90 x0 x1 x2 x4 v12 h10 (fun u4 hu => F_X9_hold_B19 x0 x1 x2 n u4 hu)
        else
          (gI 9 h10 x0 1).bind fun v15 =>
          (sV 9 h10 x0 1 (.int (v15 + 1))).bind fun h16 =>
          F_X9_hold_B90 x0 x1 x2 x4 v12 h16 (fun u4 hu => F_X9_hold_B19 x0 x1 x2 n u4 hu)
    else
      some h
theorem w_X9_hold_B19 {hz : abH} (x0 : Nat) (x1 : Nat) (x2 : Int32)   : ∀ (n : Nat) (x4 : Int32) (h : abH), F_X9_hold_B19 x0 x1 x2 n x4 h = some hz → abW cX9_hold 9 RX9 none false 5 0 0 none (none, hz) 19 [some (.ref x0), some (.ref x1), some (.int x2), none, some (.int x4), none, none, none, none] [] h 0 0 := by
  intro n
  induction n with
  | zero =>
    intro x4 h hf
    exact absurd (show (none : Option abH) = some _ from hf) (by simp)
  | succ n ih =>
    intro x4 h hf
    rw [F_X9_hold_B19.eq_2] at hf
    refine ab_iload dX9_hold_19 rfl ?_
    refine ab_iload_n 2 dX9_hold_21 rfl rfl ?_
    refine ab_icmp_ge 111 dX9_hold_22 (by decide) hf (fun hf => ?_) (fun hf => ?_)
    · refine ab_aload_n 0 dX9_hold_25 rfl rfl ?_
      refine ab_aload_n 1 dX9_hold_26 rfl rfl ?_
      refine f_getI fs_X9_22 dX9_hold_27 hf (fun v4 hf => ?_)
      refine f_V_i2 (As := [.int v4]) (st := []) cs_X9_27 (fun v hq q => m_X9_draw x0 v4 h q) rfl rfl dX9_hold_30 (rmk rfl) hf (fun v6 h5 hf => ?_)
      refine ab_istore [some (.ref x0), some (.ref x1), some (.int x2), none, some (.int x4), some (.int v6), none, none, none] dX9_hold_33 (by decide) rfl rfl ?_
      refine ab_aload_n 0 dX9_hold_35 rfl rfl ?_
      refine ab_aload_n 1 dX9_hold_36 rfl rfl ?_
      refine f_getI fs_X9_22 dX9_hold_37 hf (fun v7 hf => ?_)
      refine f_V_i2 (As := [.int v7]) (st := []) cs_X9_27 (fun v hq q => m_X9_draw x0 v7 h5 q) rfl rfl dX9_hold_40 (rmk rfl) hf (fun v9 h8 hf => ?_)
      refine ab_istore [some (.ref x0), some (.ref x1), some (.int x2), none, some (.int x4), some (.int v6), some (.int v9), none, none] dX9_hold_43 (by decide) rfl rfl ?_
      refine ab_aload_n 0 dX9_hold_45 rfl rfl ?_
      refine ab_bipush dX9_hold_46 kbp_13 ?_
      refine f_V_i2 (As := [.int 13]) (st := []) cs_X9_27 (fun v hq q => m_X9_draw x0 13 h8 q) rfl rfl dX9_hold_48 (rmk rfl) hf (fun v11 h10 hf => ?_)
      refine ab_istore [some (.ref x0), some (.ref x1), some (.int x2), none, some (.int x4), some (.int v6), some (.int v9), some (.int v11), none] dX9_hold_51 (by decide) rfl rfl ?_
      refine ab_iload dX9_hold_53 rfl ?_
      refine ab_iload dX9_hold_55 rfl ?_
      refine ab_icmp_ne 63 dX9_hold_57 (by decide) hf (fun hf => ?_) (fun hf => ?_)
      · refine ab_goto 105 dX9_hold_60 (by decide) ?_
        refine ab_iinc (v := x4 + 1) [some (.ref x0), some (.ref x1), some (.int x2), none, some (.int (x4 + 1)), some (.int v6), some (.int v9), some (.int v11), none] dX9_hold_105 rfl (kinc_1 _) (by decide) rfl rfl ?_
        refine ab_goto 19 dX9_hold_108 (by decide) ?_
        exact ab_msk [true, true, true, true, true, false, false, false, true] (ih (x4 + 1) h10 hf)
      refine ab_aload_n 1 dX9_hold_63 rfl rfl ?_
      refine ab_iload dX9_hold_64 rfl ?_
      refine ab_iload dX9_hold_66 rfl ?_
      refine ab_iload dX9_hold_68 rfl ?_
      refine f_V_i (As := [.int v6, .int v9, .int v11]) (st := []) cs_X9_31 (fun v q => m_X1_balance x1 v6 v9 v11 h10 q) rfl rfl dX9_hold_70 (rmk rfl) hf (fun v12 hf => ?_)
      refine ab_istore [some (.ref x0), some (.ref x1), some (.int x2), none, some (.int x4), some (.int v6), some (.int v9), some (.int v11), some (.int v12)] dX9_hold_73 (by decide) rfl rfl ?_
      refine ab_iload dX9_hold_75 rfl ?_
      refine ab_if_le 90 dX9_hold_77 (by decide) hf (fun hf => ?_) (fun hf => ?_)
      · exact ab_msk [true, true, true, true, true, false, false, false, true] (w_X9_hold_B90 x0 x1 x2 x4 v12 h10 (fun u4 hu => F_X9_hold_B19 x0 x1 x2 n u4 hu) (fun u4 hu hf => ih u4 hu hf) hf)
      refine ab_aload_n 0 dX9_hold_80 rfl rfl ?_
      refine ab_dup dX9_hold_81 rfl ?_
      refine f_getI fs_X9_15 dX9_hold_82 hf (fun v15 hf => ?_)
      refine ab_iconst dX9_hold_85 kic_1 ?_
      refine ab_iadd dX9_hold_86 ?_
      refine f_put fp_X9_15 (abFit_i _) dX9_hold_87 hf (fun h16 hf => ?_)
      exact ab_msk [true, true, true, true, true, false, false, false, true] (w_X9_hold_B90 x0 x1 x2 x4 v12 h16 (fun u4 hu => F_X9_hold_B19 x0 x1 x2 n u4 hu) (fun u4 hu hf => ih u4 hu hf) hf)
    exact f_retv2 dX9_hold_111 rfl (Nat.le_refl 0) (Nat.le_refl 0) hf
def F_X9_hold (a0 : Nat) (a1 : Nat) (a2 : Int32) (a3 : Int32) (h : abH) : Option abH :=
  (sV 9 h a0 0 (.long a3.toInt64)).bind fun h1 =>
  (sV 9 h1 a0 1 (.int 0)).bind fun h2 =>
  (sV 9 h2 a0 2 (.int 0)).bind fun h3 =>
  F_X9_hold_B19 a0 a1 a2 200 0 h3
theorem m_X9_hold {hz : abH} (a0 : Nat) (a1 : Nat) (a2 : Int32) (a3 : Int32) (h : abH) (hf : F_X9_hold a0 a1 a2 a3 h = some hz) : abM yX9_hold cX9_hold 9 none 5 0 0 [.ref a0, .ref a1, .int a2, .int a3] h none hz := by
  refine abM_of (ini := false) [some (.ref a0), some (.ref a1), some (.int a2), some (.int a3), none, none, none, none, none] (by decide +kernel) (fun q => by first | rfl | cases q) (Nat.le_of_ble_eq_true rfl) rfl ?_
  unfold F_X9_hold at hf
  refine ab_aload_n 0 dX9_hold_0 rfl rfl ?_
  refine ab_iload_n 3 dX9_hold_1 rfl rfl ?_
  refine ab_i2l dX9_hold_2 ?_
  refine f_put fp_X9_9 (abFit_l _) dX9_hold_3 hf (fun h1 hf => ?_)
  refine ab_aload_n 0 dX9_hold_6 rfl rfl ?_
  refine ab_iconst dX9_hold_7 kic_0 ?_
  refine f_put fp_X9_15 (abFit_i _) dX9_hold_8 hf (fun h2 hf => ?_)
  refine ab_aload_n 0 dX9_hold_11 rfl rfl ?_
  refine ab_iconst dX9_hold_12 kic_0 ?_
  refine f_put fp_X9_19 (abFit_i _) dX9_hold_13 hf (fun h3 hf => ?_)
  refine ab_iconst dX9_hold_16 kic_0 ?_
  refine ab_istore [some (.ref a0), some (.ref a1), some (.int a2), some (.int a3), some (.int 0), none, none, none, none] dX9_hold_17 (by decide) rfl rfl ?_
  exact ab_msk [true, true, true, false, true, true, true, true, true] (w_X9_hold_B19 a0 a1 a2 200 0 h3 hf)
