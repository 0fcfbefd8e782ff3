def F_X2_init (a0 : Nat) (h : abH) : Option abH :=
  nm (h ++ [.inl (0, 5, fun _ => 0)]) fun h1 =>
  (sV 2 h1 a0 0 (.ref (h.length + 3))).bind fun h2 =>
  nm (h2 ++ [.inl (0, 5, fun _ => 0)]) fun h3 =>
  (sV 2 h3 a0 2 (.ref (h2.length + 3))).bind fun h4 =>
  some h4
theorem m_X2_init {hz : abH} (a0 : Nat) (h : abH) (hf : F_X2_init a0 h = some hz) : abM yX2_init cX2_init 1 none 1 2 10 [.ref a0] h none hz := by
  refine abM_of (ini := true) [some (.ref a0)] (by decide +kernel) (fun q => by first | rfl | cases q) (Nat.le_of_ble_eq_true rfl) rfl ?_
  unfold F_X2_init at hf
  refine ab_aload_n 0 dX2_init_0 rfl rfl ?_
  refine ab_obj tb_156 tb_26 tb_27 dX2_init_1 (by decide) (Nat.le_of_ble_eq_true rfl) ?_
  refine ab_aload_n 0 dX2_init_4 rfl rfl ?_
  refine ab_iconst dX2_init_5 kic_5 ?_
  refine ab_newa (a := .int) 0 5 tb_117 (by simp) (by decide) (by decide +kernel) (by decide) dX2_init_6 (by omega) (by omega) ?_
  refine ab_nmh hf (fun h1 hf => ?_)
  refine f_putF fp_X2_9 rfl (abFit_a _ _) dX2_init_8 hf (fun h2 hf => ?_)
  refine ab_aload_n 0 dX2_init_11 rfl rfl ?_
  refine ab_iconst dX2_init_12 kic_5 ?_
  refine ab_newa (a := .int) 0 5 tb_117 (by simp) (by decide) (by decide +kernel) (by decide) dX2_init_13 (by omega) (by omega) ?_
  refine ab_nmh hf (fun h3 hf => ?_)
  refine f_putF fp_X2_15 rfl (abFit_a _ _) dX2_init_15 hf (fun h4 hf => ?_)
  exact f_retv2 dX2_init_18 rfl (by omega) (by omega) hf
def F_X9_init (a0 : Nat) : Option Unit :=
  some ()
theorem m_X9_init {z0 : Unit} (a0 : Nat) (h : abH) (hf : F_X9_init a0 = some z0) : abM yX9_init cX9_init 1 none 1 0 0 [.ref a0] h none h := by
  refine abM_of (ini := true) [some (.ref a0)] (by decide +kernel) (fun q => by first | rfl | cases q) (Nat.le_of_ble_eq_true rfl) rfl ?_
  unfold F_X9_init at hf
  refine ab_aload_n 0 dX9_init_0 rfl rfl ?_
  refine ab_obj tb_173 tb_26 tb_27 dX9_init_1 (by decide) (Nat.le_of_ble_eq_true rfl) ?_
  exact f_retv0 dX9_init_4 rfl (Nat.le_refl 0) (Nat.le_refl 0)
def F_X9_draw (a0 : Nat) (a1 : Int32) (h : abH) : Option (Int32 × abH) :=
  (gJ 9 h a0 0).bind fun v1 =>
  dzl 2147483648 <|
  (sV 9 h a0 0 (.long (((v1 * 1103515245) + 12345) - ((v1 * 1103515245) + 12345) / 2147483648 * 2147483648))).bind fun h2 =>
  if a1 < 1 then
    some (0, h2)
  else
    (gJ 9 h2 a0 0).bind fun v3 =>
    dzl 65536 <|
    dzl a1.toInt64 <|
    some (((v3 / 65536) - (v3 / 65536) / a1.toInt64 * a1.toInt64).toInt32, h2)
theorem m_X9_draw {z0 : Int32} {hz : abH} (a0 : Nat) (a1 : Int32) (h : abH) (hf : F_X9_draw a0 a1 h = some (z0, hz)) : abM yX9_draw cX9_draw 2 (some .int) 1 0 0 [.ref a0, .int a1] h (some (.int z0)) hz := by
  refine abM_of (ini := false) [some (.ref a0), some (.int a1)] (by decide +kernel) (fun q => by first | rfl | cases q) (Nat.le_of_ble_eq_true rfl) rfl ?_
  unfold F_X9_draw at hf
  refine ab_aload_n 0 dX9_draw_0 rfl rfl ?_
  refine ab_aload_n 0 dX9_draw_1 rfl rfl ?_
  refine f_getJ fs_X9_9 dX9_draw_2 hf (fun v1 hf => ?_)
  refine ab_ldc2 (v := 1103515245) tb_385 dX9_draw_5 ?_
  refine ab_lmul dX9_draw_8 ?_
  refine ab_ldc2 (v := 12345) tb_386 dX9_draw_9 ?_
  refine ab_ladd dX9_draw_12 ?_
  refine ab_ldc2 (v := 2147483648) tb_387 dX9_draw_13 ?_
  refine f_lrem dX9_draw_16 hf (fun hf => ?_)
  refine f_put fp_X9_9 (abFit_l _) dX9_draw_17 hf (fun h2 hf => ?_)
  refine ab_iload_n 1 dX9_draw_20 rfl rfl ?_
  refine ab_iconst dX9_draw_21 kic_1 ?_
  refine ab_icmp_ge 29 dX9_draw_22 (by decide) hf (fun hf => ?_) (fun hf => ?_)
  · refine ab_iconst dX9_draw_25 kic_0 ?_
    refine ab_goto 41 dX9_draw_26 (by decide) ?_
    exact f_reti2 dX9_draw_41 rfl (Nat.le_refl 0) (Nat.le_refl 0) hf
  refine ab_aload_n 0 dX9_draw_29 rfl rfl ?_
  refine f_getJ fs_X9_9 dX9_draw_30 hf (fun v3 hf => ?_)
  refine ab_ldc2 (v := 65536) tb_388 dX9_draw_33 ?_
  refine f_ldiv dX9_draw_36 hf (fun hf => ?_)
  refine ab_iload_n 1 dX9_draw_37 rfl rfl ?_
  refine ab_i2l dX9_draw_38 ?_
  refine f_lrem dX9_draw_39 hf (fun hf => ?_)
  refine ab_l2i dX9_draw_40 ?_
  exact f_reti2 dX9_draw_41 rfl (Nat.le_refl 0) (Nat.le_refl 0) hf
def F_X9_hold_B90 (x0 : Nat) (x1 : Nat) (x2 : Int32) (x4 : Int32) (x8 : Int32) (h : abH) (k19 : Int32 → abH → Option abH) : Option abH :=
  if x8 = 0 then
    (gI 9 h x0 2).bind fun v13 =>
    (sV 9 h x0 2 (.int (v13 + 1))).bind fun h14 =>
    k19 (x4 + 1) h14
  else
    k19 (x4 + 1) h
theorem w_X9_hold_B90 {hz : abH} (x0 : Nat) (x1 : Nat) (x2 : Int32) (x4 : Int32) (x8 : Int32) (h : abH) (k19 : Int32 → abH → Option abH) (hk19 : ∀ (w4 : Int32) (hw : abH), k19 w4 hw = some hz → abW cX9_hold 9 RX9 none false 5 0 0 none (none, hz) 19 [some (.ref x0), some (.ref x1), some (.int x2), none, some (.int w4), none, none, none, none] [] hw 0 0) (hf : F_X9_hold_B90 x0 x1 x2 x4 x8 h k19 = some hz) : abW cX9_hold 9 RX9 none false 5 0 0 none (none, hz) 90 [some (.ref x0), some (.ref x1), some (.int x2), none, some (.int x4), none, none, none, some (.int x8)] [] h 0 0 := by
  unfold F_X9_hold_B90 at hf
  refine ab_iload dX9_hold_90 rfl ?_
  refine ab_if_ne 105 dX9_hold_92 (by decide) hf (fun hf => ?_) (fun hf => ?_)
  · refine ab_aload_n 0 dX9_hold_95 rfl rfl ?_
    refine ab_dup dX9_hold_96 rfl ?_
    refine f_getI fs_X9_19 dX9_hold_97 hf (fun v13 hf => ?_)
    refine ab_iconst dX9_hold_100 kic_1 ?_
    refine ab_iadd dX9_hold_101 ?_
    refine f_put fp_X9_19 (abFit_i _) dX9_hold_102 hf (fun h14 hf => ?_)
    refine ab_iinc (v := x4 + 1) [some (.ref x0), some (.ref x1), some (.int x2), none, some (.int (x4 + 1)), none, none, none, some (.int x8)] dX9_hold_105 rfl (kinc_1 _) (by decide) rfl rfl ?_
    refine ab_goto 19 dX9_hold_108 (by decide) ?_
    exact ab_msk [true, true, true, true, true, true, true, true, false] (hk19 (x4 + 1) h14 hf)
  refine ab_iinc (v := x4 + 1) [some (.ref x0), some (.ref x1), some (.int x2), none, some (.int (x4 + 1)), none, none, none, some (.int x8)] dX9_hold_105 rfl (kinc_1 _) (by decide) rfl rfl ?_
  refine ab_goto 19 dX9_hold_108 (by decide) ?_
  exact ab_msk [true, true, true, true, true, true, true, true, false] (hk19 (x4 + 1) h hf)
def F_X9_hold_B19 (x0 : Nat) (x1 : Nat) (x2 : Int32) : Nat → Int32 → abH → Option abH
  | 0, _, _ => none
  | n + 1, x4, h =>
    if x4 < x2 then
      (gI 1 h x1 0).bind fun v4 =>
      (ko 9 h x0).bind fun _ => bd2 (F_X9_draw x0 v4 h) fun v6 h5 =>
      (gI 1 h5 x1 0).bind fun v7 =>
      (ko 9 h5 x0).bind fun _ => bd2 (F_X9_draw x0 v7 h5) fun v9 h8 =>
      (ko 9 h8 x0).bind fun _ => bd2 (F_X9_draw x0 13 h8) fun v11 h10 =>
      if v6 = v9 then
        F_X9_hold_B19 x0 x1 x2 n (x4 + 1) h10
      else
        (ko 1 h10 x1).bind fun _ => (F_X1_balance x1 v6 v9 v11 h10).bind fun v12 =>
        if v12 ≤ 0 then
          F_X9_hold_B90 x0 x1 x2 x4 v12 h10 (fun u4 hu => F_X9_hold_B19 x0 x1 x2 n u4 hu)
        else
          (gI 9 h10 x0 1).bind fun v15 =>
          (sV 9 h10 x0 1 (.int (v15 + 1))).bind fun h16 =>
          F_X9_hold_B90 x0 x1 x2 x4 v12 h16 (fun u4 hu => F_X9_hold_B19 x0 x1 x2 n u4 hu)
    else
      some h
theorem w_X9_hold_B19 {hz : abH} (x0 : Nat) (x1 : Nat) (x2 : Int32)   : ∀ (n : Nat) (x4 : Int32) (h : abH), F_X9_hold_B19 x0 x1 x2 n x4 h = some hz → abW cX9_hold 9 RX9 none false 5 0 0 none (none, hz) 19 [some (.ref x0), some (.ref x1), some (.int x2), none, some (.int x4), none, none, none, none] [] h 0 0 := by
  intro n
  induction n with
  | zero =>
    intro x4 h hf
    exact absurd (show (none : Option abH) = some _ from hf) (by simp)
  | succ n ih =>
    intro x4 h hf
    rw [F_X9_hold_B19.eq_2] at hf
    refine ab_iload dX9_hold_19 rfl ?_
    refine ab_iload_n 2 dX9_hold_21 rfl rfl ?_
    refine ab_icmp_ge 111 dX9_hold_22 (by decide) hf (fun hf => ?_) (fun hf => ?_)
    · refine ab_aload_n 0 dX9_hold_25 rfl rfl ?_
      refine ab_aload_n 1 dX9_hold_26 rfl rfl ?_
      refine f_getI fs_X9_22 dX9_hold_27 hf (fun v4 hf => ?_)
      refine f_V_i2 (As := [.int v4]) (st := []) cs_X9_27 (fun v hq q => m_X9_draw x0 v4 h q) rfl rfl dX9_hold_30 (rmk rfl) hf (fun v6 h5 hf => ?_)
      refine ab_istore [some (.ref x0), some (.ref x1), some (.int x2), none, some (.int x4), some (.int v6), none, none, none] dX9_hold_33 (by decide) rfl rfl ?_
      refine ab_aload_n 0 dX9_hold_35 rfl rfl ?_
      refine ab_aload_n 1 dX9_hold_36 rfl rfl ?_
      refine f_getI fs_X9_22 dX9_hold_37 hf (fun v7 hf => ?_)
      refine f_V_i2 (As := [.int v7]) (st := []) cs_X9_27 (fun v hq q => m_X9_draw x0 v7 h5 q) rfl rfl dX9_hold_40 (rmk rfl) hf (fun v9 h8 hf => ?_)
      refine ab_istore [some (.ref x0), some (.ref x1), some (.int x2), none, some (.int x4), some (.int v6), some (.int v9), none, none] dX9_hold_43 (by decide) rfl rfl ?_
      refine ab_aload_n 0 dX9_hold_45 rfl rfl ?_
      refine ab_bipush dX9_hold_46 kbp_13 ?_
      refine f_V_i2 (As := [.int 13]) (st := []) cs_X9_27 (fun v hq q => m_X9_draw x0 13 h8 q) rfl rfl dX9_hold_48 (rmk rfl) hf (fun v11 h10 hf => ?_)
      refine ab_istore [some (.ref x0), some (.ref x1), some (.int x2), none, some (.int x4), some (.int v6), some (.int v9), some (.int v11), none] dX9_hold_51 (by decide) rfl rfl ?_
      refine ab_iload dX9_hold_53 rfl ?_
      refine ab_iload dX9_hold_55 rfl ?_
      refine ab_icmp_ne 63 dX9_hold_57 (by decide) hf (fun hf => ?_) (fun hf => ?_)
      · refine ab_goto 105 dX9_hold_60 (by decide) ?_
        refine ab_iinc (v := x4 + 1) [some (.ref x0), some (.ref x1), some (.int x2), none, some (.int (x4 + 1)), some (.int v6), some (.int v9), some (.int v11), none] dX9_hold_105 rfl (kinc_1 _) (by decide) rfl rfl ?_
        refine ab_goto 19 dX9_hold_108 (by decide) ?_
        exact ab_msk [true, true, true, true, true, false, false, false, true] (ih (x4 + 1) h10 hf)
      refine ab_aload_n 1 dX9_hold_63 rfl rfl ?_
      refine ab_iload dX9_hold_64 rfl ?_
      refine ab_iload dX9_hold_66 rfl ?_
      refine ab_iload dX9_hold_68 rfl ?_
      refine f_V_i (As := [.int v6, .int v9, .int v11]) (st := []) cs_X9_31 (fun v q => m_X1_balance x1 v6 v9 v11 h10 q) rfl rfl dX9_hold_70 (rmk rfl) hf (fun v12 hf => ?_)
      refine ab_istore [some (.ref x0), some (.ref x1), some (.int x2), none, some (.int x4), some (.int v6), some (.int v9), some (.int v11), some (.int v12)] dX9_hold_73 (by decide) rfl rfl ?_
      refine ab_iload dX9_hold_75 rfl ?_
      refine ab_if_le 90 dX9_hold_77 (by decide) hf (fun hf => ?_) (fun hf => ?_)
      · exact ab_msk [true, true, true, true, true, false, false, false, true] (w_X9_hold_B90 x0 x1 x2 x4 v12 h10 (fun u4 hu => F_X9_hold_B19 x0 x1 x2 n u4 hu) (fun u4 hu hf => ih u4 hu hf) hf)
      refine ab_aload_n 0 dX9_hold_80 rfl rfl ?_
      refine ab_dup dX9_hold_81 rfl ?_
      refine f_getI fs_X9_15 dX9_hold_82 hf (fun v15 hf => ?_)
      refine ab_iconst dX9_hold_85 kic_1 ?_
      refine ab_iadd dX9_hold_86 ?_
      refine f_put fp_X9_15 (abFit_i _) dX9_hold_87 hf (fun h16 hf => ?_)
      exact ab_msk [true, true, true, true, true, false, false, false, true] (w_X9_hold_B90 x0 x1 x2 x4 v12 h16 (fun u4 hu => F_X9_hold_B19 x0 x1 x2 n u4 hu) (fun u4 hu hf => ih u4 hu hf) hf)
    exact f_retv2 dX9_hold_111 rfl (Nat.le_refl 0) (Nat.le_refl 0) hf
def F_X9_hold (a0 : Nat) (a1 : Nat) (a2 : Int32) (a3 : Int32) (h : abH) : Option abH :=
  (sV 9 h a0 0 (.long a3.toInt64)).bind fun h1 =>
  (sV 9 h1 a0 1 (.int 0)).bind fun h2 =>
  (sV 9 h2 a0 2 (.int 0)).bind fun h3 =>
  F_X9_hold_B19 a0 a1 a2 200 0 h3
theorem m_X9_hold {hz : abH} (a0 : Nat) (a1 : Nat) (a2 : Int32) (a3 : Int32) (h : abH) (hf : F_X9_hold a0 a1 a2 a3 h = some hz) : abM yX9_hold cX9_hold 9 none 5 0 0 [.ref a0, .ref a1, .int a2, .int a3] h none hz := by
  refine abM_of (ini := false) [some (.ref a0), some (.ref a1), some (.int a2), some (.int a3), none, none, none, none, none] (by decide +kernel) (fun q => by first | rfl | cases q) (Nat.le_of_ble_eq_true rfl) rfl ?_
  unfold F_X9_hold at hf
  refine ab_aload_n 0 dX9_hold_0 rfl rfl ?_
  refine ab_iload_n 3 dX9_hold_1 rfl rfl ?_
  refine ab_i2l dX9_hold_2 ?_
  refine f_put fp_X9_9 (abFit_l _) dX9_hold_3 hf (fun h1 hf => ?_)
  refine ab_aload_n 0 dX9_hold_6 rfl rfl ?_
  refine ab_iconst dX9_hold_7 kic_0 ?_
  refine f_put fp_X9_15 (abFit_i _) dX9_hold_8 hf (fun h2 hf => ?_)
  refine ab_aload_n 0 dX9_hold_11 rfl rfl ?_
  refine ab_iconst dX9_hold_12 kic_0 ?_
  refine f_put fp_X9_19 (abFit_i _) dX9_hold_13 hf (fun h3 hf => ?_)
  refine ab_iconst dX9_hold_16 kic_0 ?_
  refine ab_istore [some (.ref a0), some (.ref a1), some (.int a2), some (.int a3), some (.int 0), none, none, none, none] dX9_hold_17 (by decide) rfl rfl ?_
  exact ab_msk [true, true, true, false, true, true, true, true, true] (w_X9_hold_B19 a0 a1 a2 200 0 h3 hf)
