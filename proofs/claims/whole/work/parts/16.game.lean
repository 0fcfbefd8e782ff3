def F_X3_init (a0 : Nat) (h : abH) : Option abH :=
  nm (h ++ [.inl (0, 10, fun _ => 0)]) fun h1 =>
  (sV 3 h1 a0 0 (.ref (h.length + 3))).bind fun h2 =>
  nm (h2 ++ [.inl (0, 10, fun _ => 0)]) fun h3 =>
  (sV 3 h3 a0 1 (.ref (h2.length + 3))).bind fun h4 =>
  nm (h4 ++ [.inl (0, 100, fun _ => 0)]) fun h5 =>
  (sV 3 h5 a0 2 (.ref (h4.length + 3))).bind fun h6 =>
  nm (h6 ++ [.inl (0, 100, fun _ => 0)]) fun h7 =>
  (sV 3 h7 a0 3 (.ref (h6.length + 3))).bind fun h8 =>
  some h8
theorem m_X3_init {hz : abH} (a0 : Nat) (h : abH) (hf : F_X3_init a0 h = some hz) : abM yX3_init cX3_init 1 none 1 4 220 [.ref a0] h none hz := by
  refine abM_of (ini := true) [some (.ref a0)] (by decide +kernel) (fun q => by first | rfl | cases q) (Nat.le_of_ble_eq_true rfl) rfl ?_
  unfold F_X3_init at hf
  refine ab_aload_n 0 dX3_init_0 rfl rfl ?_
  refine ab_obj tb_145 tb_28 tb_29 dX3_init_1 (by decide) (Nat.le_of_ble_eq_true rfl) ?_
  refine ab_aload_n 0 dX3_init_4 rfl rfl ?_
  refine ab_bipush dX3_init_5 kbp_10 ?_
  refine ab_newa (a := .int) 0 10 tb_129 (by simp) (by decide) (by decide +kernel) (by decide) dX3_init_7 (by omega) (by omega) ?_
  refine ab_nmh hf (fun h1 hf => ?_)
  refine f_putF fp_X3_9 rfl (abFit_a _ _) dX3_init_9 hf (fun h2 hf => ?_)
  refine ab_aload_n 0 dX3_init_12 rfl rfl ?_
  refine ab_bipush dX3_init_13 kbp_10 ?_
  refine ab_newa (a := .int) 0 10 tb_129 (by simp) (by decide) (by decide +kernel) (by decide) dX3_init_15 (by omega) (by omega) ?_
  refine ab_nmh hf (fun h3 hf => ?_)
  refine f_putF fp_X3_15 rfl (abFit_a _ _) dX3_init_17 hf (fun h4 hf => ?_)
  refine ab_aload_n 0 dX3_init_20 rfl rfl ?_
  refine ab_bipush dX3_init_21 kbp_100 ?_
  refine ab_newa (a := .int) 0 100 tb_129 (by simp) (by decide) (by decide +kernel) (by decide) dX3_init_23 (by omega) (by omega) ?_
  refine ab_nmh hf (fun h5 hf => ?_)
  refine f_putF fp_X3_18 rfl (abFit_a _ _) dX3_init_25 hf (fun h6 hf => ?_)
  refine ab_aload_n 0 dX3_init_28 rfl rfl ?_
  refine ab_bipush dX3_init_29 kbp_100 ?_
  refine ab_newa (a := .int) 0 100 tb_129 (by simp) (by decide) (by decide +kernel) (by decide) dX3_init_31 (by omega) (by omega) ?_
  refine ab_nmh hf (fun h7 hf => ?_)
  refine f_putF fp_X3_21 rfl (abFit_a _ _) dX3_init_33 hf (fun h8 hf => ?_)
  exact f_retv2 dX3_init_36 rfl (by omega) (by omega) hf
def F_X3_weigh_B3 (x0 : Nat) (x1 : Nat) (x2 : Int32) (x3 : Int32) (x4 : Int32) : Nat → Int32 → abH → Option abH
  | 0, _, _ => none
  | n + 1, x5, h =>
    if x5 < 10 then
      (gR 3 h x0 0).bind fun v1 =>
      (gR 1 h x1 2).bind fun v2 =>
      (ga 0 h v2 x2).bind fun v3 =>
      (ko 1 h x1).bind fun _ => (F_X1_shadeIf x1 x2 v3 x5 x4 h).bind fun v4 =>
      (ko 1 h x1).bind fun _ => (F_X1_worthOf x1 v4 h).bind fun v5 =>
      (sa 0 h v1 x5 v5).bind fun h6 =>
      (gR 3 h6 x0 1).bind fun v7 =>
      (gR 1 h6 x1 2).bind fun v8 =>
      (ga 0 h6 v8 x3).bind fun v9 =>
      (ko 1 h6 x1).bind fun _ => (F_X1_shadeIf x1 x3 v9 x5 x4 h6).bind fun v10 =>
      (ko 1 h6 x1).bind fun _ => (F_X1_worthOf x1 v10 h6).bind fun v11 =>
      (sa 0 h6 v7 x5 v11).bind fun h12 =>
      F_X3_weigh_B3 x0 x1 x2 x3 x4 n (x5 + 1) h12
    else
      some h
theorem w_X3_weigh_B3 {hz : abH} (x0 : Nat) (x1 : Nat) (x2 : Int32) (x3 : Int32) (x4 : Int32)   : ∀ (n : Nat) (x5 : Int32) (h : abH), F_X3_weigh_B3 x0 x1 x2 x3 x4 n x5 h = some hz → abW cX3_weigh 6 RX3 none false 4 0 0 none (none, hz) 3 [some (.ref x0), some (.ref x1), some (.int x2), some (.int x3), some (.int x4), some (.int x5)] [] h 0 0 := by
  intro n
  induction n with
  | zero =>
    intro x5 h hf
    exact absurd (show (none : Option abH) = some _ from hf) (by simp)
  | succ n ih =>
    intro x5 h hf
    rw [F_X3_weigh_B3.eq_2] at hf
    refine ab_iload dX3_weigh_3 rfl ?_
    refine ab_bipush dX3_weigh_5 kbp_10 ?_
    refine ab_icmp_ge 68 dX3_weigh_7 (by decide) hf (fun hf => ?_) (fun hf => ?_)
    · refine ab_aload_n 0 dX3_weigh_10 rfl rfl ?_
      refine f_getR fs_X3_9 dX3_weigh_11 hf (fun v1 hf => ?_)
      refine ab_iload dX3_weigh_14 rfl ?_
      refine ab_aload_n 1 dX3_weigh_16 rfl rfl ?_
      refine ab_aload_n 1 dX3_weigh_17 rfl rfl ?_
      refine ab_iload_n 2 dX3_weigh_18 rfl rfl ?_
      refine ab_aload_n 1 dX3_weigh_19 rfl rfl ?_
      refine f_getR fs_X3_53 dX3_weigh_20 hf (fun v2 hf => ?_)
      refine ab_iload_n 2 dX3_weigh_23 rfl rfl ?_
      refine f_iald dX3_weigh_24 hf (fun v3 hf => ?_)
      refine ab_iload dX3_weigh_25 rfl ?_
      refine ab_iload dX3_weigh_27 rfl ?_
      refine f_V_i (As := [.int x2, .int v3, .int x5, .int x4]) (st := [.ref x1, .int x5, .ref v1]) cs_X3_56 (fun v q => m_X1_shadeIf x1 x2 v3 x5 x4 h q) rfl rfl dX3_weigh_29 (rmk rfl) hf (fun v4 hf => ?_)
      refine f_V_i (As := [.int v4]) (st := [.int x5, .ref v1]) cs_X3_60 (fun v q => m_X1_worthOf x1 v4 h q) rfl rfl dX3_weigh_32 (rmk rfl) hf (fun v5 hf => ?_)
      refine f_iast dX3_weigh_35 hf (fun h6 hf => ?_)
      refine ab_aload_n 0 dX3_weigh_36 rfl rfl ?_
      refine f_getR fs_X3_15 dX3_weigh_37 hf (fun v7 hf => ?_)
      refine ab_iload dX3_weigh_40 rfl ?_
      refine ab_aload_n 1 dX3_weigh_42 rfl rfl ?_
      refine ab_aload_n 1 dX3_weigh_43 rfl rfl ?_
      refine ab_iload_n 3 dX3_weigh_44 rfl rfl ?_
      refine ab_aload_n 1 dX3_weigh_45 rfl rfl ?_
      refine f_getR fs_X3_53 dX3_weigh_46 hf (fun v8 hf => ?_)
      refine ab_iload_n 3 dX3_weigh_49 rfl rfl ?_
      refine f_iald dX3_weigh_50 hf (fun v9 hf => ?_)
      refine ab_iload dX3_weigh_51 rfl ?_
      refine ab_iload dX3_weigh_53 rfl ?_
      refine f_V_i (As := [.int x3, .int v9, .int x5, .int x4]) (st := [.ref x1, .int x5, .ref v7]) cs_X3_56 (fun v q => m_X1_shadeIf x1 x3 v9 x5 x4 h6 q) rfl rfl dX3_weigh_55 (rmk rfl) hf (fun v10 hf => ?_)
      refine f_V_i (As := [.int v10]) (st := [.int x5, .ref v7]) cs_X3_60 (fun v q => m_X1_worthOf x1 v10 h6 q) rfl rfl dX3_weigh_58 (rmk rfl) hf (fun v11 hf => ?_)
      refine f_iast dX3_weigh_61 hf (fun h12 hf => ?_)
      refine ab_iinc (v := x5 + 1) [some (.ref x0), some (.ref x1), some (.int x2), some (.int x3), some (.int x4), some (.int (x5 + 1))] dX3_weigh_62 rfl (kinc_1 _) (by decide) rfl rfl ?_
      refine ab_goto 3 dX3_weigh_65 (by decide) ?_
      exact ab_msk [true, true, true, true, true, true] (ih (x5 + 1) h12 hf)
    exact f_retv2 dX3_weigh_68 rfl (Nat.le_refl 0) (Nat.le_refl 0) hf
def F_X3_weigh (a0 : Nat) (a1 : Nat) (a2 : Int32) (a3 : Int32) (a4 : Int32) (h : abH) : Option abH :=
  F_X3_weigh_B3 a0 a1 a2 a3 a4 200 0 h
theorem m_X3_weigh {hz : abH} (a0 : Nat) (a1 : Nat) (a2 : Int32) (a3 : Int32) (a4 : Int32) (h : abH) (hf : F_X3_weigh a0 a1 a2 a3 a4 h = some hz) : abM yX3_weigh cX3_weigh 6 none 4 0 0 [.ref a0, .ref a1, .int a2, .int a3, .int a4] h none hz := by
  refine abM_of (ini := false) [some (.ref a0), some (.ref a1), some (.int a2), some (.int a3), some (.int a4), none] (by decide +kernel) (fun q => by first | rfl | cases q) (Nat.le_of_ble_eq_true rfl) rfl ?_
  unfold F_X3_weigh at hf
  refine ab_iconst dX3_weigh_0 kic_0 ?_
  refine ab_istore [some (.ref a0), some (.ref a1), some (.int a2), some (.int a3), some (.int a4), some (.int 0)] dX3_weigh_1 (by decide) rfl rfl ?_
  exact ab_msk [true, true, true, true, true, true] (w_X3_weigh_B3 a0 a1 a2 a3 a4 200 0 h hf)
def F_X3_mayStand (a0 : Int32) (a1 : Int32) (a2 : Int32) : Option Int32 :=
  (F_X11_isTile a1).bind fun v1 =>
  if v1 = 0 then
    some 0
  else
    if a1 = a0 then
      some 1
    else
      if a1 = a2 then
        some 0
      else
        some 1
theorem m_X3_mayStand {z0 : Int32} (a0 : Int32) (a1 : Int32) (a2 : Int32) (h : abH) (hf : F_X3_mayStand a0 a1 a2 = some z0) : abM yX3_mayStand cX3_mayStand 3 (some .boolean) 2 0 0 [.int a0, .int a1, .int a2] h (some (.int z0)) h := by
  refine abM_of (ini := false) [some (.int a0), some (.int a1), some (.int a2)] (by decide +kernel) (fun q => by first | rfl | cases q) (Nat.le_of_ble_eq_true rfl) rfl ?_
  unfold F_X3_mayStand at hf
  refine ab_iload_n 1 dX3_mayStand_0 rfl rfl ?_
  refine f_SN_i (As := [.int a1]) (st := []) cs_X3_79 (fun v q => m_X11_isTile a1 h q) rfl rfl dX3_mayStand_1 (rmk rfl) hf (fun v1 hf => ?_)
  refine ab_if_eq 21 dX3_mayStand_4 (by decide) hf (fun hf => ?_) (fun hf => ?_)
  · refine ab_iconst dX3_mayStand_21 kic_0 ?_
    exact f_retzc rfl dX3_mayStand_22 rfl (Nat.le_refl 0) (Nat.le_refl 0) hf
  refine ab_iload_n 1 dX3_mayStand_7 rfl rfl ?_
  refine ab_iload_n 0 dX3_mayStand_8 rfl rfl ?_
  refine ab_icmp_eq 17 dX3_mayStand_9 (by decide) hf (fun hf => ?_) (fun hf => ?_)
  · refine ab_iconst dX3_mayStand_17 kic_1 ?_
    refine ab_goto 22 dX3_mayStand_18 (by decide) ?_
    exact f_retzc rfl dX3_mayStand_22 rfl (Nat.le_refl 0) (Nat.le_refl 0) hf
  refine ab_iload_n 1 dX3_mayStand_12 rfl rfl ?_
  refine ab_iload_n 2 dX3_mayStand_13 rfl rfl ?_
  refine ab_icmp_eq 21 dX3_mayStand_14 (by decide) hf (fun hf => ?_) (fun hf => ?_)
  · refine ab_iconst dX3_mayStand_21 kic_0 ?_
    exact f_retzc rfl dX3_mayStand_22 rfl (Nat.le_refl 0) (Nat.le_refl 0) hf
  refine ab_iconst dX3_mayStand_17 kic_1 ?_
  refine ab_goto 22 dX3_mayStand_18 (by decide) ?_
  exact f_retzc rfl dX3_mayStand_22 rfl (Nat.le_refl 0) (Nat.le_refl 0) hf
def F_X3_afterAStood_B9 (x0 : Nat) (x1 : Int32) (x2 : Int32) (h : abH) : Nat → Int32 → Int32 → Option Int32
  | 0, _, _ => none
  | n + 1, x3, x4 =>
    if x4 ≤ (x2 + 1) then
      (F_X3_mayStand x2 x4 x1).bind fun v2 =>
      if v2 = 0 then
        F_X3_afterAStood_B9 x0 x1 x2 h n x3 (x4 + 1)
      else
        (gR 3 h x0 0).bind fun v3 =>
        (ga 0 h v3 x1).bind fun v4 =>
        (gR 3 h x0 1).bind fun v5 =>
        (ga 0 h v5 x4).bind fun v6 =>
        (gR 3 h x0 3).bind fun v7 =>
        (ga 0 h v7 ((x1 * 10) + x4)).bind fun v8 =>
        nm (if ((v4 - v6) + v8) < x3 then ((v4 - v6) + v8) else x3) fun v9 =>
        F_X3_afterAStood_B9 x0 x1 x2 h n v9 (x4 + 1)
    else
      some x3
theorem w_X3_afterAStood_B9 {z0 : Int32} (x0 : Nat) (x1 : Int32) (x2 : Int32) (h : abH)   : ∀ (n : Nat) (x3 : Int32) (x4 : Int32), F_X3_afterAStood_B9 x0 x1 x2 h n x3 x4 = some z0 → abW cX3_afterAStood 5 RX3 (some .int) false 3 0 0 none (some (.int z0), h) 9 [some (.ref x0), some (.int x1), some (.int x2), some (.int x3), some (.int x4)] [] h 0 0 := by
  intro n
  induction n with
  | zero =>
    intro x3 x4 hf
    exact absurd (show (none : Option Int32) = some _ from hf) (by simp)
  | succ n ih =>
    intro x3 x4 hf
    rw [F_X3_afterAStood_B9.eq_2] at hf
    refine ab_iload dX3_afterAStood_9 rfl ?_
    refine ab_iload_n 2 dX3_afterAStood_11 rfl rfl ?_
    refine ab_iconst dX3_afterAStood_12 kic_1 ?_
    refine ab_iadd dX3_afterAStood_13 ?_
    refine ab_icmp_gt 68 dX3_afterAStood_14 (by decide) hf (fun hf => ?_) (fun hf => ?_)
    · refine ab_iload_n 2 dX3_afterAStood_17 rfl rfl ?_
      refine ab_iload dX3_afterAStood_18 rfl ?_
      refine ab_iload_n 1 dX3_afterAStood_20 rfl rfl ?_
      refine f_S_i (As := [.int x2, .int x4, .int x1]) (st := []) cs_X3_70 (fun v q => m_X3_mayStand x2 x4 x1 h q) rfl rfl dX3_afterAStood_21 (rmk rfl) hf (fun v2 hf => ?_)
      refine ab_if_ne 30 dX3_afterAStood_24 (by decide) hf (fun hf => ?_) (fun hf => ?_)
      · refine ab_goto 62 dX3_afterAStood_27 (by decide) ?_
        refine ab_iinc (v := x4 + 1) [some (.ref x0), some (.int x1), some (.int x2), some (.int x3), some (.int (x4 + 1))] dX3_afterAStood_62 rfl (kinc_1 _) (by decide) rfl rfl ?_
        refine ab_goto 9 dX3_afterAStood_65 (by decide) ?_
        exact ab_msk [true, true, true, true, true] (ih x3 (x4 + 1) hf)
      refine ab_iload_n 3 dX3_afterAStood_30 rfl rfl ?_
      refine ab_aload_n 0 dX3_afterAStood_31 rfl rfl ?_
      refine f_getR fs_X3_9 dX3_afterAStood_32 hf (fun v3 hf => ?_)
      refine ab_iload_n 1 dX3_afterAStood_35 rfl rfl ?_
      refine f_iald dX3_afterAStood_36 hf (fun v4 hf => ?_)
      refine ab_aload_n 0 dX3_afterAStood_37 rfl rfl ?_
      refine f_getR fs_X3_15 dX3_afterAStood_38 hf (fun v5 hf => ?_)
      refine ab_iload dX3_afterAStood_41 rfl ?_
      refine f_iald dX3_afterAStood_43 hf (fun v6 hf => ?_)
      refine ab_isub dX3_afterAStood_44 ?_
      refine ab_aload_n 0 dX3_afterAStood_45 rfl rfl ?_
      refine f_getR fs_X3_21 dX3_afterAStood_46 hf (fun v7 hf => ?_)
      refine ab_iload_n 1 dX3_afterAStood_49 rfl rfl ?_
      refine ab_bipush dX3_afterAStood_50 kbp_10 ?_
      refine ab_imul dX3_afterAStood_52 ?_
      refine ab_iload dX3_afterAStood_53 rfl ?_
      refine ab_iadd dX3_afterAStood_55 ?_
      refine f_iald dX3_afterAStood_56 hf (fun v8 hf => ?_)
      refine ab_iadd dX3_afterAStood_57 ?_
      refine ab_min tb_621 tb_292 tb_11 tb_293 dX3_afterAStood_58 (by decide) (Nat.le_of_ble_eq_true rfl) (Nat.le_refl 0) (Nat.le_refl 0) ?_
      refine ab_nmi hf (fun v9 hf => ?_)
      refine ab_istore_n 3 [some (.ref x0), some (.int x1), some (.int x2), some (.int v9), some (.int x4)] dX3_afterAStood_61 rfl (by decide) rfl rfl ?_
      refine ab_iinc (v := x4 + 1) [some (.ref x0), some (.int x1), some (.int x2), some (.int v9), some (.int (x4 + 1))] dX3_afterAStood_62 rfl (kinc_1 _) (by decide) rfl rfl ?_
      refine ab_goto 9 dX3_afterAStood_65 (by decide) ?_
      exact ab_msk [true, true, true, true, true] (ih v9 (x4 + 1) hf)
    refine ab_iload_n 3 dX3_afterAStood_68 rfl rfl ?_
    exact f_reti dX3_afterAStood_69 rfl (Nat.le_refl 0) (Nat.le_refl 0) hf
def F_X3_afterAStood (a0 : Nat) (a1 : Int32) (a2 : Int32) (h : abH) : Option Int32 :=
  nm (a2 - 1) fun v1 =>
  F_X3_afterAStood_B9 a0 a1 a2 h 200 500 v1
theorem m_X3_afterAStood {z0 : Int32} (a0 : Nat) (a1 : Int32) (a2 : Int32) (h : abH) (hf : F_X3_afterAStood a0 a1 a2 h = some z0) : abM yX3_afterAStood cX3_afterAStood 5 (some .int) 3 0 0 [.ref a0, .int a1, .int a2] h (some (.int z0)) h := by
  refine abM_of (ini := false) [some (.ref a0), some (.int a1), some (.int a2), none, none] (by decide +kernel) (fun q => by first | rfl | cases q) (Nat.le_of_ble_eq_true rfl) rfl ?_
  unfold F_X3_afterAStood at hf
  refine ab_sipush dX3_afterAStood_0 ksp_500 ?_
  refine ab_istore_n 3 [some (.ref a0), some (.int a1), some (.int a2), some (.int 500), none] dX3_afterAStood_3 rfl (by decide) rfl rfl ?_
  refine ab_iload_n 2 dX3_afterAStood_4 rfl rfl ?_
  refine ab_iconst dX3_afterAStood_5 kic_1 ?_
  refine ab_isub dX3_afterAStood_6 ?_
  refine ab_nmi hf (fun v1 hf => ?_)
  refine ab_istore [some (.ref a0), some (.int a1), some (.int a2), some (.int 500), some (.int v1)] dX3_afterAStood_7 (by decide) rfl rfl ?_
  exact ab_msk [true, true, true, true, true] (w_X3_afterAStood_B9 a0 a1 a2 h 200 500 v1 hf)
def F_X3_bestStep_B10 (x0 : Nat) (x1 : Int32) (x2 : Int32) (h : abH) : Nat → Int32 → Int32 → Int32 → Option Int32
  | 0, _, _, _ => none
  | n + 1, x3, x4, x5 =>
    if x5 ≤ 2 then
      nm ((x1 + x5) - 1) fun v1 =>
      (F_X3_mayStand x1 v1 x2).bind fun v2 =>
      if v2 = 0 then
        F_X3_bestStep_B10 x0 x1 x2 h n x3 x4 (x5 + 1)
      else
        (ko 3 h x0).bind fun _ => (F_X3_afterAStood x0 v1 x2 h).bind fun v3 =>
        if v3 ≤ x4 then
          F_X3_bestStep_B10 x0 x1 x2 h n x3 x4 (x5 + 1)
        else
          F_X3_bestStep_B10 x0 x1 x2 h n x5 v3 (x5 + 1)
    else
      some x3
theorem w_X3_bestStep_B10 {z0 : Int32} (x0 : Nat) (x1 : Int32) (x2 : Int32) (h : abH)   : ∀ (n : Nat) (x3 : Int32) (x4 : Int32) (x5 : Int32), F_X3_bestStep_B10 x0 x1 x2 h n x3 x4 x5 = some z0 → abW cX3_bestStep 8 RX3 (some .int) false 4 0 0 none (some (.int z0), h) 10 [some (.ref x0), some (.int x1), some (.int x2), some (.int x3), some (.int x4), some (.int x5), none, none] [] h 0 0 := by
  intro n
  induction n with
  | zero =>
    intro x3 x4 x5 hf
    exact absurd (show (none : Option Int32) = some _ from hf) (by simp)
  | succ n ih =>
    intro x3 x4 x5 hf
    rw [F_X3_bestStep_B10.eq_2] at hf
    refine ab_iload dX3_bestStep_10 rfl ?_
    refine ab_iconst dX3_bestStep_12 kic_2 ?_
    refine ab_icmp_gt 66 dX3_bestStep_13 (by decide) hf (fun hf => ?_) (fun hf => ?_)
    · refine ab_iload_n 1 dX3_bestStep_16 rfl rfl ?_
      refine ab_iload dX3_bestStep_17 rfl ?_
      refine ab_iadd dX3_bestStep_19 ?_
      refine ab_iconst dX3_bestStep_20 kic_1 ?_
      refine ab_isub dX3_bestStep_21 ?_
      refine ab_nmi hf (fun v1 hf => ?_)
      refine ab_istore [some (.ref x0), some (.int x1), some (.int x2), some (.int x3), some (.int x4), some (.int x5), some (.int v1), none] dX3_bestStep_22 (by decide) rfl rfl ?_
      refine ab_iload_n 1 dX3_bestStep_24 rfl rfl ?_
      refine ab_iload dX3_bestStep_25 rfl ?_
      refine ab_iload_n 2 dX3_bestStep_27 rfl rfl ?_
      refine f_S_i (As := [.int x1, .int v1, .int x2]) (st := []) cs_X3_70 (fun v q => m_X3_mayStand x1 v1 x2 h q) rfl rfl dX3_bestStep_28 (rmk rfl) hf (fun v2 hf => ?_)
      refine ab_if_ne 37 dX3_bestStep_31 (by decide) hf (fun hf => ?_) (fun hf => ?_)
      · refine ab_goto 60 dX3_bestStep_34 (by decide) ?_
        refine ab_iinc (v := x5 + 1) [some (.ref x0), some (.int x1), some (.int x2), some (.int x3), some (.int x4), some (.int (x5 + 1)), some (.int v1), none] dX3_bestStep_60 rfl (kinc_1 _) (by decide) rfl rfl ?_
        refine ab_goto 10 dX3_bestStep_63 (by decide) ?_
        exact ab_msk [true, true, true, true, true, true, false, true] (ih x3 x4 (x5 + 1) hf)
      refine ab_aload_n 0 dX3_bestStep_37 rfl rfl ?_
      refine ab_iload dX3_bestStep_38 rfl ?_
      refine ab_iload_n 2 dX3_bestStep_40 rfl rfl ?_
      refine f_V_i (As := [.int v1, .int x2]) (st := []) cs_X3_47 (fun v q => m_X3_afterAStood x0 v1 x2 h q) rfl rfl dX3_bestStep_41 (rmk rfl) hf (fun v3 hf => ?_)
      refine ab_istore [some (.ref x0), some (.int x1), some (.int x2), some (.int x3), some (.int x4), some (.int x5), some (.int v1), some (.int v3)] dX3_bestStep_44 (by decide) rfl rfl ?_
      refine ab_iload dX3_bestStep_46 rfl ?_
      refine ab_iload dX3_bestStep_48 rfl ?_
      refine ab_icmp_le 60 dX3_bestStep_50 (by decide) hf (fun hf => ?_) (fun hf => ?_)
      · refine ab_iinc (v := x5 + 1) [some (.ref x0), some (.int x1), some (.int x2), some (.int x3), some (.int x4), some (.int (x5 + 1)), some (.int v1), some (.int v3)] dX3_bestStep_60 rfl (kinc_1 _) (by decide) rfl rfl ?_
        refine ab_goto 10 dX3_bestStep_63 (by decide) ?_
        exact ab_msk [true, true, true, true, true, true, false, false] (ih x3 x4 (x5 + 1) hf)
      refine ab_iload dX3_bestStep_53 rfl ?_
      refine ab_istore [some (.ref x0), some (.int x1), some (.int x2), some (.int x3), some (.int v3), some (.int x5), some (.int v1), some (.int v3)] dX3_bestStep_55 (by decide) rfl rfl ?_
      refine ab_iload dX3_bestStep_57 rfl ?_
      refine ab_istore_n 3 [some (.ref x0), some (.int x1), some (.int x2), some (.int x5), some (.int v3), some (.int x5), some (.int v1), some (.int v3)] dX3_bestStep_59 rfl (by decide) rfl rfl ?_
      refine ab_iinc (v := x5 + 1) [some (.ref x0), some (.int x1), some (.int x2), some (.int x5), some (.int v3), some (.int (x5 + 1)), some (.int v1), some (.int v3)] dX3_bestStep_60 rfl (kinc_1 _) (by decide) rfl rfl ?_
      refine ab_goto 10 dX3_bestStep_63 (by decide) ?_
      exact ab_msk [true, true, true, true, true, true, false, false] (ih x5 v3 (x5 + 1) hf)
    refine ab_iload_n 3 dX3_bestStep_66 rfl rfl ?_
    exact f_reti dX3_bestStep_67 rfl (Nat.le_refl 0) (Nat.le_refl 0) hf
def F_X3_bestStep (a0 : Nat) (a1 : Int32) (a2 : Int32) (h : abH) : Option Int32 :=
  F_X3_bestStep_B10 a0 a1 a2 h 200 1 (-500) 0
theorem m_X3_bestStep {z0 : Int32} (a0 : Nat) (a1 : Int32) (a2 : Int32) (h : abH) (hf : F_X3_bestStep a0 a1 a2 h = some z0) : abM yX3_bestStep cX3_bestStep 8 (some .int) 4 0 0 [.ref a0, .int a1, .int a2] h (some (.int z0)) h := by
  refine abM_of (ini := false) [some (.ref a0), some (.int a1), some (.int a2), none, none, none, none, none] (by decide +kernel) (fun q => by first | rfl | cases q) (Nat.le_of_ble_eq_true rfl) rfl ?_
  unfold F_X3_bestStep at hf
  refine ab_iconst dX3_bestStep_0 kic_1 ?_
  refine ab_istore_n 3 [some (.ref a0), some (.int a1), some (.int a2), some (.int 1), none, none, none, none] dX3_bestStep_1 rfl (by decide) rfl rfl ?_
  refine ab_sipush dX3_bestStep_2 ksp_m500 ?_
  refine ab_istore [some (.ref a0), some (.int a1), some (.int a2), some (.int 1), some (.int (-500)), none, none, none] dX3_bestStep_5 (by decide) rfl rfl ?_
  refine ab_iconst dX3_bestStep_7 kic_0 ?_
  refine ab_istore [some (.ref a0), some (.int a1), some (.int a2), some (.int 1), some (.int (-500)), some (.int 0), none, none] dX3_bestStep_8 (by decide) rfl rfl ?_
  exact ab_msk [true, true, true, true, true, true, true, true] (w_X3_bestStep_B10 a0 a1 a2 h 200 1 (-500) 0 hf)
def F_X3_goBackAnHour_B10 (x0 : Nat) (x1 : Int32) (k2 : Int32 → abH → Option abH) : Nat → Int32 → abH → Option abH
  | 0, _, _ => none
  | n + 1, x2, h =>
    if x2 < 10 then
      (ko 3 h x0).bind fun _ => (F_X3_bestStep x0 x1 x2 h).bind fun v4 =>
      nm ((x1 + v4) - 1) fun v5 =>
      (gR 3 h x0 2).bind fun v6 =>
      (ko 3 h x0).bind fun _ => (F_X3_afterAStood x0 v5 x2 h).bind fun v7 =>
      (sa 0 h v6 ((x1 * 10) + x2) v7).bind fun h8 =>
      F_X3_goBackAnHour_B10 x0 x1 k2 n (x2 + 1) h8
    else
      k2 (x1 + 1) h
theorem w_X3_goBackAnHour_B10 {hz : abH} (x0 : Nat) (x1 : Int32) (k2 : Int32 → abH → Option abH) (hk2 : ∀ (w1 : Int32) (hw : abH), k2 w1 hw = some hz → abW cX3_goBackAnHour 4 RX3 none false 5 0 0 none (none, hz) 2 [some (.ref x0), some (.int w1), none, none] [] hw 0 0) : ∀ (n : Nat) (x2 : Int32) (h : abH), F_X3_goBackAnHour_B10 x0 x1 k2 n x2 h = some hz → abW cX3_goBackAnHour 4 RX3 none false 5 0 0 none (none, hz) 10 [some (.ref x0), some (.int x1), some (.int x2), none] [] h 0 0 := by
  intro n
  induction n with
  | zero =>
    intro x2 h hf
    exact absurd (show (none : Option abH) = some _ from hf) (by simp)
  | succ n ih =>
    intro x2 h hf
    rw [F_X3_goBackAnHour_B10.eq_2] at hf
    refine ab_iload_n 2 dX3_goBackAnHour_10 rfl rfl ?_
    refine ab_bipush dX3_goBackAnHour_11 kbp_10 ?_
    refine ab_icmp_ge 50 dX3_goBackAnHour_13 (by decide) hf (fun hf => ?_) (fun hf => ?_)
    · refine ab_iload_n 1 dX3_goBackAnHour_16 rfl rfl ?_
      refine ab_aload_n 0 dX3_goBackAnHour_17 rfl rfl ?_
      refine ab_iload_n 1 dX3_goBackAnHour_18 rfl rfl ?_
      refine ab_iload_n 2 dX3_goBackAnHour_19 rfl rfl ?_
      refine f_V_i (As := [.int x1, .int x2]) (st := [.int x1]) cs_X3_40 (fun v q => m_X3_bestStep x0 x1 x2 h q) rfl rfl dX3_goBackAnHour_20 (rmk rfl) hf (fun v4 hf => ?_)
      refine ab_iadd dX3_goBackAnHour_23 ?_
      refine ab_iconst dX3_goBackAnHour_24 kic_1 ?_
      refine ab_isub dX3_goBackAnHour_25 ?_
      refine ab_nmi hf (fun v5 hf => ?_)
      refine ab_istore_n 3 [some (.ref x0), some (.int x1), some (.int x2), some (.int v5)] dX3_goBackAnHour_26 rfl (by decide) rfl rfl ?_
      refine ab_aload_n 0 dX3_goBackAnHour_27 rfl rfl ?_
      refine f_getR fs_X3_18 dX3_goBackAnHour_28 hf (fun v6 hf => ?_)
      refine ab_iload_n 1 dX3_goBackAnHour_31 rfl rfl ?_
      refine ab_bipush dX3_goBackAnHour_32 kbp_10 ?_
      refine ab_imul dX3_goBackAnHour_34 ?_
      refine ab_iload_n 2 dX3_goBackAnHour_35 rfl rfl ?_
      refine ab_iadd dX3_goBackAnHour_36 ?_
      refine ab_aload_n 0 dX3_goBackAnHour_37 rfl rfl ?_
      refine ab_iload_n 3 dX3_goBackAnHour_38 rfl rfl ?_
      refine ab_iload_n 2 dX3_goBackAnHour_39 rfl rfl ?_
      refine f_V_i (As := [.int v5, .int x2]) (st := [.int ((x1 * 10) + x2), .ref v6]) cs_X3_47 (fun v q => m_X3_afterAStood x0 v5 x2 h q) rfl rfl dX3_goBackAnHour_40 (rmk rfl) hf (fun v7 hf => ?_)
      refine f_iast dX3_goBackAnHour_43 hf (fun h8 hf => ?_)
      refine ab_iinc (v := x2 + 1) [some (.ref x0), some (.int x1), some (.int (x2 + 1)), some (.int v5)] dX3_goBackAnHour_44 rfl (kinc_1 _) (by decide) rfl rfl ?_
      refine ab_goto 10 dX3_goBackAnHour_47 (by decide) ?_
      exact ab_msk [true, true, true, false] (ih (x2 + 1) h8 hf)
    refine ab_iinc (v := x1 + 1) [some (.ref x0), some (.int (x1 + 1)), some (.int x2), none] dX3_goBackAnHour_50 rfl (kinc_1 _) (by decide) rfl rfl ?_
    refine ab_goto 2 dX3_goBackAnHour_53 (by decide) ?_
    exact ab_msk [true, true, false, true] (hk2 (x1 + 1) h hf)
def F_X3_goBackAnHour_B2 (x0 : Nat) : Nat → Int32 → abH → Option abH
  | 0, _, _ => none
  | n + 1, x1, h =>
    if x1 < 10 then
      F_X3_goBackAnHour_B10 x0 x1 (fun u1 hu => F_X3_goBackAnHour_B2 x0 n u1 hu) 200 0 h
    else
      (gR 3 h x0 2).bind fun v1 =>
      (gR 3 h x0 3).bind fun v2 =>
      (acp h v1 0 v2 0 100).bind fun h3 =>
      some h3
theorem w_X3_goBackAnHour_B2 {hz : abH} (x0 : Nat)   : ∀ (n : Nat) (x1 : Int32) (h : abH), F_X3_goBackAnHour_B2 x0 n x1 h = some hz → abW cX3_goBackAnHour 4 RX3 none false 5 0 0 none (none, hz) 2 [some (.ref x0), some (.int x1), none, none] [] h 0 0 := by
  intro n
  induction n with
  | zero =>
    intro x1 h hf
    exact absurd (show (none : Option abH) = some _ from hf) (by simp)
  | succ n ih =>
    intro x1 h hf
    rw [F_X3_goBackAnHour_B2.eq_2] at hf
    refine ab_iload_n 1 dX3_goBackAnHour_2 rfl rfl ?_
    refine ab_bipush dX3_goBackAnHour_3 kbp_10 ?_
    refine ab_icmp_ge 56 dX3_goBackAnHour_5 (by decide) hf (fun hf => ?_) (fun hf => ?_)
    · refine ab_iconst dX3_goBackAnHour_8 kic_0 ?_
      refine ab_istore_n 2 [some (.ref x0), some (.int x1), some (.int 0), none] dX3_goBackAnHour_9 rfl (by decide) rfl rfl ?_
      exact ab_msk [true, true, true, true] (w_X3_goBackAnHour_B10 x0 x1 (fun u1 hu => F_X3_goBackAnHour_B2 x0 n u1 hu) (fun u1 hu hf => ih u1 hu hf) 200 0 h hf)
    refine ab_aload_n 0 dX3_goBackAnHour_56 rfl rfl ?_
    refine f_getR fs_X3_18 dX3_goBackAnHour_57 hf (fun v1 hf => ?_)
    refine ab_iconst dX3_goBackAnHour_60 kic_0 ?_
    refine ab_aload_n 0 dX3_goBackAnHour_61 rfl rfl ?_
    refine f_getR fs_X3_21 dX3_goBackAnHour_62 hf (fun v2 hf => ?_)
    refine ab_iconst dX3_goBackAnHour_65 kic_0 ?_
    refine ab_bipush dX3_goBackAnHour_66 kbp_100 ?_
    refine f_acp tb_622 tb_624 tb_623 tb_21 (by decide) (by decide +kernel) dX3_goBackAnHour_68 hf (fun h3 hf => ?_)
    exact f_retv2 dX3_goBackAnHour_71 rfl (Nat.le_refl 0) (Nat.le_refl 0) hf
def F_X3_goBackAnHour (a0 : Nat) (h : abH) : Option abH :=
  F_X3_goBackAnHour_B2 a0 200 0 h
theorem m_X3_goBackAnHour {hz : abH} (a0 : Nat) (h : abH) (hf : F_X3_goBackAnHour a0 h = some hz) : abM yX3_goBackAnHour cX3_goBackAnHour 4 none 5 0 0 [.ref a0] h none hz := by
  refine abM_of (ini := false) [some (.ref a0), none, none, none] (by decide +kernel) (fun q => by first | rfl | cases q) (Nat.le_of_ble_eq_true rfl) rfl ?_
  unfold F_X3_goBackAnHour at hf
  refine ab_iconst dX3_goBackAnHour_0 kic_0 ?_
  refine ab_istore_n 1 [some (.ref a0), some (.int 0), none, none] dX3_goBackAnHour_1 rfl (by decide) rfl rfl ?_
  exact ab_msk [true, true, true, true] (w_X3_goBackAnHour_B2 a0 200 0 h hf)
def F_X3_solve_B30 (x0 : Nat) (x1 : Nat) (x2 : Int32) (x3 : Int32) : Nat → Int32 → abH → Option abH
  | 0, _, _ => none
  | n + 1, x5, h =>
    if x5 ≤ 0 then
      (gI 1 h x1 5).bind fun v2 =>
      (ko 3 h x0).bind fun _ => (F_X3_weigh x0 x1 x2 x3 v2 h).bind fun h3 =>
      (gR 1 h3 x1 3).bind fun v4 =>
      (ga 0 h3 v4 x2).bind fun v5 =>
      (gR 1 h3 x1 3).bind fun v6 =>
      (ga 0 h3 v6 x3).bind fun v7 =>
      (ko 3 h3 x0).bind fun _ => (F_X3_bestStep x0 v5 v7 h3).bind fun v8 =>
      (sV 3 h3 x0 5 (.int v8)).bind fun h9 =>
      (gR 1 h9 x1 3).bind fun v10 =>
      (ga 0 h9 v10 x2).bind fun v11 =>
      (gI 3 h9 x0 5).bind fun v12 =>
      (gR 1 h9 x1 3).bind fun v13 =>
      (ga 0 h9 v13 x3).bind fun v14 =>
      (ko 3 h9 x0).bind fun _ => (F_X3_afterAStood x0 ((v11 + v12) - 1) v14 h9).bind fun v15 =>
      (sV 3 h9 x0 4 (.int v15)).bind fun h16 =>
      some h16
    else
      (gI 1 h x1 5).bind fun v17 =>
      dz 13 <|
      (ko 3 h x0).bind fun _ => (F_X3_weigh x0 x1 x2 x3 ((v17 + x5) - (v17 + x5) / 13 * 13) h).bind fun h18 =>
      (ko 3 h18 x0).bind fun _ => (F_X3_goBackAnHour x0 h18).bind fun h19 =>
      F_X3_solve_B30 x0 x1 x2 x3 n (x5 + (-1)) h19
theorem w_X3_solve_B30 {hz : abH} (x0 : Nat) (x1 : Nat) (x2 : Int32) (x3 : Int32)   : ∀ (n : Nat) (x5 : Int32) (h : abH), F_X3_solve_B30 x0 x1 x2 x3 n x5 h = some hz → abW cX3_solve 6 RX3 none false 6 0 0 none (none, hz) 30 [some (.ref x0), some (.ref x1), some (.int x2), some (.int x3), none, some (.int x5)] [] h 0 0 := by
  intro n
  induction n with
  | zero =>
    intro x5 h hf
    exact absurd (show (none : Option abH) = some _ from hf) (by simp)
  | succ n ih =>
    intro x5 h hf
    rw [F_X3_solve_B30.eq_2] at hf
    refine ab_iload dX3_solve_30 rfl ?_
    refine ab_if_le 62 dX3_solve_32 (by decide) hf (fun hf => ?_) (fun hf => ?_)
    · refine ab_aload_n 0 dX3_solve_62 rfl rfl ?_
      refine ab_aload_n 1 dX3_solve_63 rfl rfl ?_
      refine ab_iload_n 2 dX3_solve_64 rfl rfl ?_
      refine ab_iload_n 3 dX3_solve_65 rfl rfl ?_
      refine ab_aload_n 1 dX3_solve_66 rfl rfl ?_
      refine f_getI fs_X3_24 dX3_solve_67 hf (fun v2 hf => ?_)
      refine f_V_v2 (As := [.ref x1, .int x2, .int x3, .int v2]) (st := []) cs_X3_30 (fun hq q => m_X3_weigh x0 x1 x2 x3 v2 h q) rfl rfl dX3_solve_70 (rmk rfl) hf (fun h3 hf => ?_)
      refine ab_aload_n 0 dX3_solve_73 rfl rfl ?_
      refine ab_aload_n 0 dX3_solve_74 rfl rfl ?_
      refine ab_aload_n 1 dX3_solve_75 rfl rfl ?_
      refine f_getR fs_X3_37 dX3_solve_76 hf (fun v4 hf => ?_)
      refine ab_iload_n 2 dX3_solve_79 rfl rfl ?_
      refine f_iald dX3_solve_80 hf (fun v5 hf => ?_)
      refine ab_aload_n 1 dX3_solve_81 rfl rfl ?_
      refine f_getR fs_X3_37 dX3_solve_82 hf (fun v6 hf => ?_)
      refine ab_iload_n 3 dX3_solve_85 rfl rfl ?_
      refine f_iald dX3_solve_86 hf (fun v7 hf => ?_)
      refine f_V_i (As := [.int v5, .int v7]) (st := [.ref x0]) cs_X3_40 (fun v q => m_X3_bestStep x0 v5 v7 h3 q) rfl rfl dX3_solve_87 (rmk rfl) hf (fun v8 hf => ?_)
      refine f_put fp_X3_44 (abFit_i _) dX3_solve_90 hf (fun h9 hf => ?_)
      refine ab_aload_n 0 dX3_solve_93 rfl rfl ?_
      refine ab_aload_n 0 dX3_solve_94 rfl rfl ?_
      refine ab_aload_n 1 dX3_solve_95 rfl rfl ?_
      refine f_getR fs_X3_37 dX3_solve_96 hf (fun v10 hf => ?_)
      refine ab_iload_n 2 dX3_solve_99 rfl rfl ?_
      refine f_iald dX3_solve_100 hf (fun v11 hf => ?_)
      refine ab_aload_n 0 dX3_solve_101 rfl rfl ?_
      refine f_getI fs_X3_44 dX3_solve_102 hf (fun v12 hf => ?_)
      refine ab_iadd dX3_solve_105 ?_
      refine ab_iconst dX3_solve_106 kic_1 ?_
      refine ab_isub dX3_solve_107 ?_
      refine ab_aload_n 1 dX3_solve_108 rfl rfl ?_
      refine f_getR fs_X3_37 dX3_solve_109 hf (fun v13 hf => ?_)
      refine ab_iload_n 3 dX3_solve_112 rfl rfl ?_
      refine f_iald dX3_solve_113 hf (fun v14 hf => ?_)
      refine f_V_i (As := [.int ((v11 + v12) - 1), .int v14]) (st := [.ref x0]) cs_X3_47 (fun v q => m_X3_afterAStood x0 ((v11 + v12) - 1) v14 h9 q) rfl rfl dX3_solve_114 (rmk rfl) hf (fun v15 hf => ?_)
      refine f_put fp_X3_50 (abFit_i _) dX3_solve_117 hf (fun h16 hf => ?_)
      exact f_retv2 dX3_solve_120 rfl (Nat.le_refl 0) (Nat.le_refl 0) hf
    refine ab_aload_n 0 dX3_solve_35 rfl rfl ?_
    refine ab_aload_n 1 dX3_solve_36 rfl rfl ?_
    refine ab_iload_n 2 dX3_solve_37 rfl rfl ?_
    refine ab_iload_n 3 dX3_solve_38 rfl rfl ?_
    refine ab_aload_n 1 dX3_solve_39 rfl rfl ?_
    refine f_getI fs_X3_24 dX3_solve_40 hf (fun v17 hf => ?_)
    refine ab_iload dX3_solve_43 rfl ?_
    refine ab_iadd dX3_solve_45 ?_
    refine ab_bipush dX3_solve_46 kbp_13 ?_
    refine f_irem dX3_solve_48 hf (fun hf => ?_)
    refine f_V_v2 (As := [.ref x1, .int x2, .int x3, .int ((v17 + x5) - (v17 + x5) / 13 * 13)]) (st := []) cs_X3_30 (fun hq q => m_X3_weigh x0 x1 x2 x3 ((v17 + x5) - (v17 + x5) / 13 * 13) h q) rfl rfl dX3_solve_49 (rmk rfl) hf (fun h18 hf => ?_)
    refine ab_aload_n 0 dX3_solve_52 rfl rfl ?_
    refine f_V_v2 (As := []) (st := []) cs_X3_34 (fun hq q => m_X3_goBackAnHour x0 h18 q) rfl rfl dX3_solve_53 (rmk rfl) hf (fun h19 hf => ?_)
    refine ab_iinc (v := x5 + (-1)) [some (.ref x0), some (.ref x1), some (.int x2), some (.int x3), none, some (.int (x5 + (-1)))] dX3_solve_56 rfl (kinc_m1 _) (by decide) rfl rfl ?_
    refine ab_goto 30 dX3_solve_59 (by decide) ?_
    exact ab_msk [true, true, true, true, true, true] (ih (x5 + (-1)) h19 hf)
def F_X3_solve_B3 (x0 : Nat) (x1 : Nat) (x2 : Int32) (x3 : Int32) (x4 : Int32) : Nat → Int32 → abH → Option abH
  | 0, _, _ => none
  | n + 1, x5, h =>
    if x5 < 100 then
      (gR 3 h x0 3).bind fun v20 =>
      (sa 0 h v20 x5 0).bind fun h21 =>
      F_X3_solve_B3 x0 x1 x2 x3 x4 n (x5 + 1) h21
    else
      nm (x4 - 1) fun v1 =>
      F_X3_solve_B30 x0 x1 x2 x3 200 v1 h
theorem w_X3_solve_B3 {hz : abH} (x0 : Nat) (x1 : Nat) (x2 : Int32) (x3 : Int32) (x4 : Int32)   : ∀ (n : Nat) (x5 : Int32) (h : abH), F_X3_solve_B3 x0 x1 x2 x3 x4 n x5 h = some hz → abW cX3_solve 6 RX3 none false 6 0 0 none (none, hz) 3 [some (.ref x0), some (.ref x1), some (.int x2), some (.int x3), some (.int x4), some (.int x5)] [] h 0 0 := by
  intro n
  induction n with
  | zero =>
    intro x5 h hf
    exact absurd (show (none : Option abH) = some _ from hf) (by simp)
  | succ n ih =>
    intro x5 h hf
    rw [F_X3_solve_B3.eq_2] at hf
    refine ab_iload dX3_solve_3 rfl ?_
    refine ab_bipush dX3_solve_5 kbp_100 ?_
    refine ab_icmp_ge 24 dX3_solve_7 (by decide) hf (fun hf => ?_) (fun hf => ?_)
    · refine ab_aload_n 0 dX3_solve_10 rfl rfl ?_
      refine f_getR fs_X3_21 dX3_solve_11 hf (fun v20 hf => ?_)
      refine ab_iload dX3_solve_14 rfl ?_
      refine ab_iconst dX3_solve_16 kic_0 ?_
      refine f_iast dX3_solve_17 hf (fun h21 hf => ?_)
      refine ab_iinc (v := x5 + 1) [some (.ref x0), some (.ref x1), some (.int x2), some (.int x3), some (.int x4), some (.int (x5 + 1))] dX3_solve_18 rfl (kinc_1 _) (by decide) rfl rfl ?_
      refine ab_goto 3 dX3_solve_21 (by decide) ?_
      exact ab_msk [true, true, true, true, true, true] (ih (x5 + 1) h21 hf)
    refine ab_iload dX3_solve_24 rfl ?_
    refine ab_iconst dX3_solve_26 kic_1 ?_
    refine ab_isub dX3_solve_27 ?_
    refine ab_nmi hf (fun v1 hf => ?_)
    refine ab_istore [some (.ref x0), some (.ref x1), some (.int x2), some (.int x3), some (.int x4), some (.int v1)] dX3_solve_28 (by decide) rfl rfl ?_
    exact ab_msk [true, true, true, true, false, true] (w_X3_solve_B30 x0 x1 x2 x3 200 v1 h hf)
def F_X3_solve (a0 : Nat) (a1 : Nat) (a2 : Int32) (a3 : Int32) (a4 : Int32) (h : abH) : Option abH :=
  F_X3_solve_B3 a0 a1 a2 a3 a4 200 0 h
theorem m_X3_solve {hz : abH} (a0 : Nat) (a1 : Nat) (a2 : Int32) (a3 : Int32) (a4 : Int32) (h : abH) (hf : F_X3_solve a0 a1 a2 a3 a4 h = some hz) : abM yX3_solve cX3_solve 6 none 6 0 0 [.ref a0, .ref a1, .int a2, .int a3, .int a4] h none hz := by
  refine abM_of (ini := false) [some (.ref a0), some (.ref a1), some (.int a2), some (.int a3), some (.int a4), none] (by decide +kernel) (fun q => by first | rfl | cases q) (Nat.le_of_ble_eq_true rfl) rfl ?_
  unfold F_X3_solve at hf
  refine ab_iconst dX3_solve_0 kic_0 ?_
  refine ab_istore [some (.ref a0), some (.ref a1), some (.int a2), some (.int a3), some (.int a4), some (.int 0)] dX3_solve_1 (by decide) rfl rfl ?_
  exact ab_msk [true, true, true, true, true, true] (w_X3_solve_B3 a0 a1 a2 a3 a4 200 0 h hf)
