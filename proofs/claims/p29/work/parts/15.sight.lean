def F_X8_init (a0 : Nat) (h : abH) : Option abH :=
  nm (h ++ [.inl (0, 10, fun _ => 0)]) fun h1 =>
  (sV 8 h1 a0 0 (.ref (h.length + 3))).bind fun h2 =>
  some h2
theorem m_X8_init {hz : abH} (a0 : Nat) (h : abH) (hf : F_X8_init a0 h = some hz) : abM yX8_init cX8_init 1 none 1 1 10 [.ref a0] h none hz := by
  refine abM_of (ini := true) [some (.ref a0)] (by decide +kernel) (fun q => by first | rfl | cases q) (Nat.le_of_ble_eq_true rfl) rfl ?_
  unfold F_X8_init at hf
  refine ab_aload_n 0 dX8_init_0 rfl rfl ?_
  refine ab_obj tb_123 tb_26 tb_27 dX8_init_1 (by decide) (Nat.le_of_ble_eq_true rfl) ?_
  refine ab_aload_n 0 dX8_init_4 rfl rfl ?_
  refine ab_bipush dX8_init_5 kbp_10 ?_
  refine ab_newa (a := .int) 0 10 tb_117 (by simp) (by decide) (by decide +kernel) (by decide) dX8_init_7 (by omega) (by omega) ?_
  refine ab_nmh hf (fun h1 hf => ?_)
  refine f_putF fp_X8_9 rfl (abFit_a _ _) dX8_init_9 hf (fun h2 hf => ?_)
  exact f_retv2 dX8_init_12 rfl (by omega) (by omega) hf
def F_X8_isAsSeen_B3 (x1 : Nat) (x2 : Int32) (x3 : Int32) (h : abH) : Nat → Int32 → Option Int32
  | 0, _ => none
  | n + 1, x4 =>
    (gI 1 h x1 10).bind fun v1 =>
    if x4 < v1 then
      (gR 1 h x1 11).bind fun v2 =>
      (ga 0 h v2 x4).bind fun v3 =>
      if v3 = x2 then
        (gR 1 h x1 3).bind fun v4 =>
        (ga 0 h v4 x2).bind fun v5 =>
        (gR 1 h x1 12).bind fun v6 =>
        (ga 0 h v6 x4).bind fun v7 =>
        (ko 1 h x1).bind fun _ => (F_X1_shadeIf x1 x2 x3 v5 v7 h).bind fun v8 =>
        (gR 1 h x1 13).bind fun v9 =>
        (ga 0 h v9 x4).bind fun v10 =>
        (gR 1 h x1 14).bind fun v11 =>
        (ga 0 h v11 x4).bind fun v12 =>
        if ((v8 >>> (v10 &&& 31)) &&& 1) = v12 then
          F_X8_isAsSeen_B3 x1 x2 x3 h n (x4 + 1)
        else
          some 0
      else
        F_X8_isAsSeen_B3 x1 x2 x3 h n (x4 + 1)
    else
      some 1
theorem w_X8_isAsSeen_B3 {z0 : Int32} (x1 : Nat) (x2 : Int32) (x3 : Int32) (h : abH)   : ∀ (n : Nat) (x4 : Int32), F_X8_isAsSeen_B3 x1 x2 x3 h n x4 = some z0 → abW cX8_isAsSeen 6 RX8 (some .boolean) false 4 0 0 none (some (.int z0), h) 3 [none, some (.ref x1), some (.int x2), some (.int x3), some (.int x4), none] [] h 0 0 := by
  intro n
  induction n with
  | zero =>
    intro x4 hf
    exact absurd (show (none : Option Int32) = some _ from hf) (by simp)
  | succ n ih =>
    intro x4 hf
    rw [F_X8_isAsSeen_B3.eq_2] at hf
    refine ab_iload dX8_isAsSeen_3 rfl ?_
    refine ab_aload_n 1 dX8_isAsSeen_5 rfl rfl ?_
    refine f_getI fs_X8_19 dX8_isAsSeen_6 hf (fun v1 hf => ?_)
    refine ab_icmp_ge 77 dX8_isAsSeen_9 (by decide) hf (fun hf => ?_) (fun hf => ?_)
    · refine ab_aload_n 1 dX8_isAsSeen_12 rfl rfl ?_
      refine f_getR fs_X8_25 dX8_isAsSeen_13 hf (fun v2 hf => ?_)
      refine ab_iload dX8_isAsSeen_16 rfl ?_
      refine f_iald dX8_isAsSeen_18 hf (fun v3 hf => ?_)
      refine ab_iload_n 2 dX8_isAsSeen_19 rfl rfl ?_
      refine ab_icmp_eq 26 dX8_isAsSeen_20 (by decide) hf (fun hf => ?_) (fun hf => ?_)
      · refine ab_aload_n 1 dX8_isAsSeen_26 rfl rfl ?_
        refine ab_iload_n 2 dX8_isAsSeen_27 rfl rfl ?_
        refine ab_iload_n 3 dX8_isAsSeen_28 rfl rfl ?_
        refine ab_aload_n 1 dX8_isAsSeen_29 rfl rfl ?_
        refine f_getR fs_X8_28 dX8_isAsSeen_30 hf (fun v4 hf => ?_)
        refine ab_iload_n 2 dX8_isAsSeen_33 rfl rfl ?_
        refine f_iald dX8_isAsSeen_34 hf (fun v5 hf => ?_)
        refine ab_aload_n 1 dX8_isAsSeen_35 rfl rfl ?_
        refine f_getR fs_X8_31 dX8_isAsSeen_36 hf (fun v6 hf => ?_)
        refine ab_iload dX8_isAsSeen_39 rfl ?_
        refine f_iald dX8_isAsSeen_41 hf (fun v7 hf => ?_)
        refine f_V_i (As := [.int x2, .int x3, .int v5, .int v7]) (st := []) cs_X8_34 (fun v q => m_X1_shadeIf x1 x2 x3 v5 v7 h q) rfl rfl dX8_isAsSeen_42 (rmk rfl) hf (fun v8 hf => ?_)
        refine ab_istore [none, some (.ref x1), some (.int x2), some (.int x3), some (.int x4), some (.int v8)] dX8_isAsSeen_45 (by decide) rfl rfl ?_
        refine ab_iload dX8_isAsSeen_47 rfl ?_
        refine ab_aload_n 1 dX8_isAsSeen_49 rfl rfl ?_
        refine f_getR fs_X8_38 dX8_isAsSeen_50 hf (fun v9 hf => ?_)
        refine ab_iload dX8_isAsSeen_53 rfl ?_
        refine f_iald dX8_isAsSeen_55 hf (fun v10 hf => ?_)
        refine ab_ishr dX8_isAsSeen_56 ?_
        refine ab_iconst dX8_isAsSeen_57 kic_1 ?_
        refine ab_iand dX8_isAsSeen_58 ?_
        refine ab_aload_n 1 dX8_isAsSeen_59 rfl rfl ?_
        refine f_getR fs_X8_41 dX8_isAsSeen_60 hf (fun v11 hf => ?_)
        refine ab_iload dX8_isAsSeen_63 rfl ?_
        refine f_iald dX8_isAsSeen_65 hf (fun v12 hf => ?_)
        refine ab_icmp_eq 71 dX8_isAsSeen_66 (by decide) hf (fun hf => ?_) (fun hf => ?_)
        · refine ab_iinc (v := x4 + 1) [none, some (.ref x1), some (.int x2), some (.int x3), some (.int (x4 + 1)), some (.int v8)] dX8_isAsSeen_71 rfl (kinc_1 _) (by decide) rfl rfl ?_
          refine ab_goto 3 dX8_isAsSeen_74 (by decide) ?_
          exact ab_msk [true, true, true, true, true, false] (ih (x4 + 1) hf)
        refine ab_iconst dX8_isAsSeen_69 kic_0 ?_
        exact f_retzc rfl dX8_isAsSeen_70 rfl (Nat.le_refl 0) (Nat.le_refl 0) hf
      refine ab_goto 71 dX8_isAsSeen_23 (by decide) ?_
      refine ab_iinc (v := x4 + 1) [none, some (.ref x1), some (.int x2), some (.int x3), some (.int (x4 + 1)), none] dX8_isAsSeen_71 rfl (kinc_1 _) (by decide) rfl rfl ?_
      refine ab_goto 3 dX8_isAsSeen_74 (by decide) ?_
      exact ab_msk [true, true, true, true, true, true] (ih (x4 + 1) hf)
    refine ab_iconst dX8_isAsSeen_77 kic_1 ?_
    exact f_retzc rfl dX8_isAsSeen_78 rfl (Nat.le_refl 0) (Nat.le_refl 0) hf
def F_X8_isAsSeen (a0 : Nat) (a1 : Nat) (a2 : Int32) (a3 : Int32) (h : abH) : Option Int32 :=
  F_X8_isAsSeen_B3 a1 a2 a3 h 200 0
theorem m_X8_isAsSeen {z0 : Int32} (a0 : Nat) (a1 : Nat) (a2 : Int32) (a3 : Int32) (h : abH) (hf : F_X8_isAsSeen a0 a1 a2 a3 h = some z0) : abM yX8_isAsSeen cX8_isAsSeen 6 (some .boolean) 4 0 0 [.ref a0, .ref a1, .int a2, .int a3] h (some (.int z0)) h := by
  refine abM_of (ini := false) [some (.ref a0), some (.ref a1), some (.int a2), some (.int a3), none, none] (by decide +kernel) (fun q => by first | rfl | cases q) (Nat.le_of_ble_eq_true rfl) rfl ?_
  unfold F_X8_isAsSeen at hf
  refine ab_iconst dX8_isAsSeen_0 kic_0 ?_
  refine ab_istore [some (.ref a0), some (.ref a1), some (.int a2), some (.int a3), some (.int 0), none] dX8_isAsSeen_1 (by decide) rfl rfl ?_
  exact ab_msk [false, true, true, true, true, true] (w_X8_isAsSeen_B3 a1 a2 a3 h 200 0 hf)
def F_X8_heights_B5 (x0 : Nat) (x1 : Nat) (x2 : Int32) (h : abH) : Nat → Int32 → Int32 → Option Int32
  | 0, _, _ => none
  | n + 1, x3, x4 =>
    if x4 ≤ 9 then
      (ko 8 h x0).bind fun _ => (F_X8_isAsSeen x0 x1 x2 x4 h).bind fun v1 =>
      if v1 = 0 then
        F_X8_heights_B5 x0 x1 x2 h n x3 (x4 + 1)
      else
        nm (x3 ||| ((1 : Int32) <<< ((x4 - 1) &&& 31))) fun v2 =>
        F_X8_heights_B5 x0 x1 x2 h n v2 (x4 + 1)
    else
      some x3
theorem w_X8_heights_B5 {z0 : Int32} (x0 : Nat) (x1 : Nat) (x2 : Int32) (h : abH)   : ∀ (n : Nat) (x3 : Int32) (x4 : Int32), F_X8_heights_B5 x0 x1 x2 h n x3 x4 = some z0 → abW cX8_heights 5 RX8 (some .int) false 5 0 0 none (some (.int z0), h) 5 [some (.ref x0), some (.ref x1), some (.int x2), some (.int x3), some (.int x4)] [] h 0 0 := by
  intro n
  induction n with
  | zero =>
    intro x3 x4 hf
    exact absurd (show (none : Option Int32) = some _ from hf) (by simp)
  | succ n ih =>
    intro x3 x4 hf
    rw [F_X8_heights_B5.eq_2] at hf
    refine ab_iload dX8_heights_5 rfl ?_
    refine ab_bipush dX8_heights_7 kbp_9 ?_
    refine ab_icmp_gt 38 dX8_heights_9 (by decide) hf (fun hf => ?_) (fun hf => ?_)
    · refine ab_aload_n 0 dX8_heights_12 rfl rfl ?_
      refine ab_aload_n 1 dX8_heights_13 rfl rfl ?_
      refine ab_iload_n 2 dX8_heights_14 rfl rfl ?_
      refine ab_iload dX8_heights_15 rfl ?_
      refine f_V_i (As := [.ref x1, .int x2, .int x4]) (st := []) cs_X8_15 (fun v q => m_X8_isAsSeen x0 x1 x2 x4 h q) rfl rfl dX8_heights_17 (rmk rfl) hf (fun v1 hf => ?_)
      refine ab_if_eq 32 dX8_heights_20 (by decide) hf (fun hf => ?_) (fun hf => ?_)
      · refine ab_iinc (v := x4 + 1) [some (.ref x0), some (.ref x1), some (.int x2), some (.int x3), some (.int (x4 + 1))] dX8_heights_32 rfl (kinc_1 _) (by decide) rfl rfl ?_
        refine ab_goto 5 dX8_heights_35 (by decide) ?_
        exact ab_msk [true, true, true, true, true] (ih x3 (x4 + 1) hf)
      refine ab_iload_n 3 dX8_heights_23 rfl rfl ?_
      refine ab_iconst dX8_heights_24 kic_1 ?_
      refine ab_iload dX8_heights_25 rfl ?_
      refine ab_iconst dX8_heights_27 kic_1 ?_
      refine ab_isub dX8_heights_28 ?_
      refine ab_ishl dX8_heights_29 ?_
      refine ab_ior dX8_heights_30 ?_
      refine ab_nmi hf (fun v2 hf => ?_)
      refine ab_istore_n 3 [some (.ref x0), some (.ref x1), some (.int x2), some (.int v2), some (.int x4)] dX8_heights_31 rfl (by decide) rfl rfl ?_
      refine ab_iinc (v := x4 + 1) [some (.ref x0), some (.ref x1), some (.int x2), some (.int v2), some (.int (x4 + 1))] dX8_heights_32 rfl (kinc_1 _) (by decide) rfl rfl ?_
      refine ab_goto 5 dX8_heights_35 (by decide) ?_
      exact ab_msk [true, true, true, true, true] (ih v2 (x4 + 1) hf)
    refine ab_iload_n 3 dX8_heights_38 rfl rfl ?_
    exact f_reti dX8_heights_39 rfl (Nat.le_refl 0) (Nat.le_refl 0) hf
def F_X8_heights (a0 : Nat) (a1 : Nat) (a2 : Int32) (h : abH) : Option Int32 :=
  F_X8_heights_B5 a0 a1 a2 h 200 0 1
theorem m_X8_heights {z0 : Int32} (a0 : Nat) (a1 : Nat) (a2 : Int32) (h : abH) (hf : F_X8_heights a0 a1 a2 h = some z0) : abM yX8_heights cX8_heights 5 (some .int) 5 0 0 [.ref a0, .ref a1, .int a2] h (some (.int z0)) h := by
  refine abM_of (ini := false) [some (.ref a0), some (.ref a1), some (.int a2), none, none] (by decide +kernel) (fun q => by first | rfl | cases q) (Nat.le_of_ble_eq_true rfl) rfl ?_
  unfold F_X8_heights at hf
  refine ab_iconst dX8_heights_0 kic_0 ?_
  refine ab_istore_n 3 [some (.ref a0), some (.ref a1), some (.int a2), some (.int 0), none] dX8_heights_1 rfl (by decide) rfl rfl ?_
  refine ab_iconst dX8_heights_2 kic_1 ?_
  refine ab_istore [some (.ref a0), some (.ref a1), some (.int a2), some (.int 0), some (.int 1)] dX8_heights_3 (by decide) rfl rfl ?_
  exact ab_msk [true, true, true, true, true] (w_X8_heights_B5 a0 a1 a2 h 200 0 1 hf)
def F_X8_leftAtWorst_B5 (x0 : Nat) (x1 : Int32) (x2 : Int32) (h : abH) : Nat → Int32 → Int32 → Option Int32
  | 0, _, _ => none
  | n + 1, x3, x4 =>
    if x4 ≤ 9 then
      (gR 8 h x0 0).bind fun v2 =>
      (ga 0 h v2 x4).bind fun v3 =>
      nm (x3 + (((x1 >>> ((x4 - 1) &&& 31)) &&& (v3 >>> (x2 &&& 31))) &&& 1)) fun v4 =>
      F_X8_leftAtWorst_B5 x0 x1 x2 h n v4 (x4 + 1)
    else
      (F_J6_bitCount_0f7a4 x1).bind fun v1 =>
      some (if x3 < (v1 - x3) then (v1 - x3) else x3)
theorem w_X8_leftAtWorst_B5 {z0 : Int32} (x0 : Nat) (x1 : Int32) (x2 : Int32) (h : abH)   : ∀ (n : Nat) (x3 : Int32) (x4 : Int32), F_X8_leftAtWorst_B5 x0 x1 x2 h n x3 x4 = some z0 → abW cX8_leftAtWorst 5 RX8 (some .int) false 2 0 0 none (some (.int z0), h) 5 [some (.ref x0), some (.int x1), some (.int x2), some (.int x3), some (.int x4)] [] h 0 0 := by
  intro n
  induction n with
  | zero =>
    intro x3 x4 hf
    exact absurd (show (none : Option Int32) = some _ from hf) (by simp)
  | succ n ih =>
    intro x3 x4 hf
    rw [F_X8_leftAtWorst_B5.eq_2] at hf
    refine ab_iload dX8_leftAtWorst_5 rfl ?_
    refine ab_bipush dX8_leftAtWorst_7 kbp_9 ?_
    refine ab_icmp_gt 39 dX8_leftAtWorst_9 (by decide) hf (fun hf => ?_) (fun hf => ?_)
    · refine ab_iload_n 3 dX8_leftAtWorst_12 rfl rfl ?_
      refine ab_iload_n 1 dX8_leftAtWorst_13 rfl rfl ?_
      refine ab_iload dX8_leftAtWorst_14 rfl ?_
      refine ab_iconst dX8_leftAtWorst_16 kic_1 ?_
      refine ab_isub dX8_leftAtWorst_17 ?_
      refine ab_ishr dX8_leftAtWorst_18 ?_
      refine ab_aload_n 0 dX8_leftAtWorst_19 rfl rfl ?_
      refine f_getR fs_X8_9 dX8_leftAtWorst_20 hf (fun v2 hf => ?_)
      refine ab_iload dX8_leftAtWorst_23 rfl ?_
      refine f_iald dX8_leftAtWorst_25 hf (fun v3 hf => ?_)
      refine ab_iload_n 2 dX8_leftAtWorst_26 rfl rfl ?_
      refine ab_ishr dX8_leftAtWorst_27 ?_
      refine ab_iand dX8_leftAtWorst_28 ?_
      refine ab_iconst dX8_leftAtWorst_29 kic_1 ?_
      refine ab_iand dX8_leftAtWorst_30 ?_
      refine ab_iadd dX8_leftAtWorst_31 ?_
      refine ab_nmi hf (fun v4 hf => ?_)
      refine ab_istore_n 3 [some (.ref x0), some (.int x1), some (.int x2), some (.int v4), some (.int x4)] dX8_leftAtWorst_32 rfl (by decide) rfl rfl ?_
      refine ab_iinc (v := x4 + 1) [some (.ref x0), some (.int x1), some (.int x2), some (.int v4), some (.int (x4 + 1))] dX8_leftAtWorst_33 rfl (kinc_1 _) (by decide) rfl rfl ?_
      refine ab_goto 5 dX8_leftAtWorst_36 (by decide) ?_
      exact ab_msk [true, true, true, true, true] (ih v4 (x4 + 1) hf)
    refine ab_iload_n 3 dX8_leftAtWorst_39 rfl rfl ?_
    refine ab_iload_n 1 dX8_leftAtWorst_40 rfl rfl ?_
    refine f_S_i (As := [.int x1]) (st := [.int x3]) cs_X8_52 (fun v q => m_J6_bitCount_0f7a4 x1 h q) rfl rfl dX8_leftAtWorst_41 (rmk rfl) hf (fun v1 hf => ?_)
    refine ab_iload_n 3 dX8_leftAtWorst_44 rfl rfl ?_
    refine ab_isub dX8_leftAtWorst_45 ?_
    refine ab_max tb_295 tb_296 tb_10 tb_297 dX8_leftAtWorst_46 (by decide) (Nat.le_of_ble_eq_true rfl) (Nat.le_refl 0) (Nat.le_refl 0) ?_
    exact f_reti dX8_leftAtWorst_49 rfl (Nat.le_refl 0) (Nat.le_refl 0) hf
def F_X8_leftAtWorst (a0 : Nat) (a1 : Int32) (a2 : Int32) (h : abH) : Option Int32 :=
  F_X8_leftAtWorst_B5 a0 a1 a2 h 200 0 1
theorem m_X8_leftAtWorst {z0 : Int32} (a0 : Nat) (a1 : Int32) (a2 : Int32) (h : abH) (hf : F_X8_leftAtWorst a0 a1 a2 h = some z0) : abM yX8_leftAtWorst cX8_leftAtWorst 5 (some .int) 2 0 0 [.ref a0, .int a1, .int a2] h (some (.int z0)) h := by
  refine abM_of (ini := false) [some (.ref a0), some (.int a1), some (.int a2), none, none] (by decide +kernel) (fun q => by first | rfl | cases q) (Nat.le_of_ble_eq_true rfl) rfl ?_
  unfold F_X8_leftAtWorst at hf
  refine ab_iconst dX8_leftAtWorst_0 kic_0 ?_
  refine ab_istore_n 3 [some (.ref a0), some (.int a1), some (.int a2), some (.int 0), none] dX8_leftAtWorst_1 rfl (by decide) rfl rfl ?_
  refine ab_iconst dX8_leftAtWorst_2 kic_1 ?_
  refine ab_istore [some (.ref a0), some (.int a1), some (.int a2), some (.int 0), some (.int 1)] dX8_leftAtWorst_3 (by decide) rfl rfl ?_
  exact ab_msk [true, true, true, true, true] (w_X8_leftAtWorst_B5 a0 a1 a2 h 200 0 1 hf)
def F_X8_look_B71 (x0 : Nat) (x1 : Nat) (x2 : Int32) (x3 : Int32) (x6 : Int32) (k23 : Int32 → Int32 → Int32 → abH → Option (Int32 × abH)) : Nat → Int32 → Int32 → Int32 → abH → Option (Int32 × abH)
  | 0, _, _, _, _ => none
  | n + 1, x4, x5, x7, h =>
    if x7 < 10 then
      (ko 8 h x0).bind fun _ => (F_X8_leftAtWorst x0 x3 x7 h).bind fun v2 =>
      if v2 < x5 then
        nm ((x6 * 10) + x7) fun v3 =>
        F_X8_look_B71 x0 x1 x2 x3 x6 k23 n v3 v2 (x7 + 1) h
      else
        F_X8_look_B71 x0 x1 x2 x3 x6 k23 n x4 x5 (x7 + 1) h
    else
      k23 x4 x5 (x6 + 1) h
theorem w_X8_look_B71 {z0 : Int32} {hz : abH} (x0 : Nat) (x1 : Nat) (x2 : Int32) (x3 : Int32) (x6 : Int32) (k23 : Int32 → Int32 → Int32 → abH → Option (Int32 × abH)) (hk23 : ∀ (w4 : Int32) (w5 : Int32) (w6 : Int32) (hw : abH), k23 w4 w5 w6 hw = some (z0, hz) → abW cX8_look 9 RX8 (some .int) false 6 0 0 none (some (.int z0), hz) 23 [some (.ref x0), some (.ref x1), some (.int x2), some (.int x3), some (.int w4), some (.int w5), some (.int w6), none, none] [] hw 0 0) : ∀ (n : Nat) (x4 : Int32) (x5 : Int32) (x7 : Int32) (h : abH), F_X8_look_B71 x0 x1 x2 x3 x6 k23 n x4 x5 x7 h = some (z0, hz) → abW cX8_look 9 RX8 (some .int) false 6 0 0 none (some (.int z0), hz) 71 [some (.ref x0), some (.ref x1), some (.int x2), some (.int x3), some (.int x4), some (.int x5), some (.int x6), some (.int x7), none] [] h 0 0 := by
  intro n
  induction n with
  | zero =>
    intro x4 x5 x7 h hf
    exact absurd (show (none : Option (Int32 × abH)) = some _ from hf) (by simp)
  | succ n ih =>
    intro x4 x5 x7 h hf
    rw [F_X8_look_B71.eq_2] at hf
    refine ab_iload dX8_look_71 rfl ?_
    refine ab_bipush dX8_look_73 kbp_10 ?_
    refine ab_icmp_ge 114 dX8_look_75 (by decide) hf (fun hf => ?_) (fun hf => ?_)
    · refine ab_aload_n 0 dX8_look_78 rfl rfl ?_
      refine ab_iload_n 3 dX8_look_79 rfl rfl ?_
      refine ab_iload dX8_look_80 rfl ?_
      refine f_V_i (As := [.int x3, .int x7]) (st := []) cs_X8_48 (fun v q => m_X8_leftAtWorst x0 x3 x7 h q) rfl rfl dX8_look_82 (rmk rfl) hf (fun v2 hf => ?_)
      refine ab_istore [some (.ref x0), some (.ref x1), some (.int x2), some (.int x3), some (.int x4), some (.int x5), some (.int x6), some (.int x7), some (.int v2)] dX8_look_85 (by decide) rfl rfl ?_
      refine ab_iload dX8_look_87 rfl ?_
      refine ab_iload dX8_look_89 rfl ?_
      refine ab_icmp_ge 108 dX8_look_91 (by decide) hf (fun hf => ?_) (fun hf => ?_)
      · refine ab_iload dX8_look_94 rfl ?_
        refine ab_istore [some (.ref x0), some (.ref x1), some (.int x2), some (.int x3), some (.int x4), some (.int v2), some (.int x6), some (.int x7), some (.int v2)] dX8_look_96 (by decide) rfl rfl ?_
        refine ab_iload dX8_look_98 rfl ?_
        refine ab_bipush dX8_look_100 kbp_10 ?_
        refine ab_imul dX8_look_102 ?_
        refine ab_iload dX8_look_103 rfl ?_
        refine ab_iadd dX8_look_105 ?_
        refine ab_nmi hf (fun v3 hf => ?_)
        refine ab_istore [some (.ref x0), some (.ref x1), some (.int x2), some (.int x3), some (.int v3), some (.int v2), some (.int x6), some (.int x7), some (.int v2)] dX8_look_106 (by decide) rfl rfl ?_
        refine ab_iinc (v := x7 + 1) [some (.ref x0), some (.ref x1), some (.int x2), some (.int x3), some (.int v3), some (.int v2), some (.int x6), some (.int (x7 + 1)), some (.int v2)] dX8_look_108 rfl (kinc_1 _) (by decide) rfl rfl ?_
        refine ab_goto 71 dX8_look_111 (by decide) ?_
        exact ab_msk [true, true, true, true, true, true, true, true, false] (ih v3 v2 (x7 + 1) h hf)
      refine ab_iinc (v := x7 + 1) [some (.ref x0), some (.ref x1), some (.int x2), some (.int x3), some (.int x4), some (.int x5), some (.int x6), some (.int (x7 + 1)), some (.int v2)] dX8_look_108 rfl (kinc_1 _) (by decide) rfl rfl ?_
      refine ab_goto 71 dX8_look_111 (by decide) ?_
      exact ab_msk [true, true, true, true, true, true, true, true, false] (ih x4 x5 (x7 + 1) h hf)
    refine ab_iinc (v := x6 + 1) [some (.ref x0), some (.ref x1), some (.int x2), some (.int x3), some (.int x4), some (.int x5), some (.int (x6 + 1)), some (.int x7), none] dX8_look_114 rfl (kinc_1 _) (by decide) rfl rfl ?_
    refine ab_goto 23 dX8_look_117 (by decide) ?_
    exact ab_msk [true, true, true, true, true, true, true, false, true] (hk23 x4 x5 (x6 + 1) h hf)
def F_X8_look_B33 (x0 : Nat) (x1 : Nat) (x2 : Int32) (x3 : Int32) (x4 : Int32) (x5 : Int32) (x6 : Int32) (k23 : Int32 → Int32 → Int32 → abH → Option (Int32 × abH)) : Nat → Int32 → abH → Option (Int32 × abH)
  | 0, _, _ => none
  | n + 1, x7, h =>
    if x7 ≤ 9 then
      (gR 8 h x0 0).bind fun v4 =>
      (gR 1 h x1 3).bind fun v5 =>
      (ga 0 h v5 x2).bind fun v6 =>
      (ko 1 h x1).bind fun _ => (F_X1_shadeIf x1 x2 x7 v6 x6 h).bind fun v7 =>
      (sa 0 h v4 x7 v7).bind fun h8 =>
      F_X8_look_B33 x0 x1 x2 x3 x4 x5 x6 k23 n (x7 + 1) h8
    else
      F_X8_look_B71 x0 x1 x2 x3 x6 k23 200 x4 x5 0 h
theorem w_X8_look_B33 {z0 : Int32} {hz : abH} (x0 : Nat) (x1 : Nat) (x2 : Int32) (x3 : Int32) (x4 : Int32) (x5 : Int32) (x6 : Int32) (k23 : Int32 → Int32 → Int32 → abH → Option (Int32 × abH)) (hk23 : ∀ (w4 : Int32) (w5 : Int32) (w6 : Int32) (hw : abH), k23 w4 w5 w6 hw = some (z0, hz) → abW cX8_look 9 RX8 (some .int) false 6 0 0 none (some (.int z0), hz) 23 [some (.ref x0), some (.ref x1), some (.int x2), some (.int x3), some (.int w4), some (.int w5), some (.int w6), none, none] [] hw 0 0) : ∀ (n : Nat) (x7 : Int32) (h : abH), F_X8_look_B33 x0 x1 x2 x3 x4 x5 x6 k23 n x7 h = some (z0, hz) → abW cX8_look 9 RX8 (some .int) false 6 0 0 none (some (.int z0), hz) 33 [some (.ref x0), some (.ref x1), some (.int x2), some (.int x3), some (.int x4), some (.int x5), some (.int x6), some (.int x7), none] [] h 0 0 := by
  intro n
  induction n with
  | zero =>
    intro x7 h hf
    exact absurd (show (none : Option (Int32 × abH)) = some _ from hf) (by simp)
  | succ n ih =>
    intro x7 h hf
    rw [F_X8_look_B33.eq_2] at hf
    refine ab_iload dX8_look_33 rfl ?_
    refine ab_bipush dX8_look_35 kbp_9 ?_
    refine ab_icmp_gt 68 dX8_look_37 (by decide) hf (fun hf => ?_) (fun hf => ?_)
    · refine ab_aload_n 0 dX8_look_40 rfl rfl ?_
      refine f_getR fs_X8_9 dX8_look_41 hf (fun v4 hf => ?_)
      refine ab_iload dX8_look_44 rfl ?_
      refine ab_aload_n 1 dX8_look_46 rfl rfl ?_
      refine ab_iload_n 2 dX8_look_47 rfl rfl ?_
      refine ab_iload dX8_look_48 rfl ?_
      refine ab_aload_n 1 dX8_look_50 rfl rfl ?_
      refine f_getR fs_X8_28 dX8_look_51 hf (fun v5 hf => ?_)
      refine ab_iload_n 2 dX8_look_54 rfl rfl ?_
      refine f_iald dX8_look_55 hf (fun v6 hf => ?_)
      refine ab_iload dX8_look_56 rfl ?_
      refine f_V_i (As := [.int x2, .int x7, .int v6, .int x6]) (st := [.int x7, .ref v4]) cs_X8_34 (fun v q => m_X1_shadeIf x1 x2 x7 v6 x6 h q) rfl rfl dX8_look_58 (rmk rfl) hf (fun v7 hf => ?_)
      refine f_iast dX8_look_61 hf (fun h8 hf => ?_)
      refine ab_iinc (v := x7 + 1) [some (.ref x0), some (.ref x1), some (.int x2), some (.int x3), some (.int x4), some (.int x5), some (.int x6), some (.int (x7 + 1)), none] dX8_look_62 rfl (kinc_1 _) (by decide) rfl rfl ?_
      refine ab_goto 33 dX8_look_65 (by decide) ?_
      exact ab_msk [true, true, true, true, true, true, true, true, true] (ih (x7 + 1) h8 hf)
    refine ab_iconst dX8_look_68 kic_0 ?_
    refine ab_istore [some (.ref x0), some (.ref x1), some (.int x2), some (.int x3), some (.int x4), some (.int x5), some (.int x6), some (.int 0), none] dX8_look_69 (by decide) rfl rfl ?_
    exact ab_msk [true, true, true, true, true, true, true, true, true] (w_X8_look_B71 x0 x1 x2 x3 x6 k23 hk23 200 x4 x5 0 h hf)
def F_X8_look_B23 (x0 : Nat) (x1 : Nat) (x2 : Int32) (x3 : Int32) : Nat → Int32 → Int32 → Int32 → abH → Option (Int32 × abH)
  | 0, _, _, _, _ => none
  | n + 1, x4, x5, x6, h =>
    if x6 < 13 then
      F_X8_look_B33 x0 x1 x2 x3 x4 x5 x6 (fun u4 u5 u6 hu => F_X8_look_B23 x0 x1 x2 x3 n u4 u5 u6 hu) 200 1 h
    else
      some (x4, h)
theorem w_X8_look_B23 {z0 : Int32} {hz : abH} (x0 : Nat) (x1 : Nat) (x2 : Int32) (x3 : Int32)   : ∀ (n : Nat) (x4 : Int32) (x5 : Int32) (x6 : Int32) (h : abH), F_X8_look_B23 x0 x1 x2 x3 n x4 x5 x6 h = some (z0, hz) → abW cX8_look 9 RX8 (some .int) false 6 0 0 none (some (.int z0), hz) 23 [some (.ref x0), some (.ref x1), some (.int x2), some (.int x3), some (.int x4), some (.int x5), some (.int x6), none, none] [] h 0 0 := by
  intro n
  induction n with
  | zero =>
    intro x4 x5 x6 h hf
    exact absurd (show (none : Option (Int32 × abH)) = some _ from hf) (by simp)
  | succ n ih =>
    intro x4 x5 x6 h hf
    rw [F_X8_look_B23.eq_2] at hf
    refine ab_iload dX8_look_23 rfl ?_
    refine ab_bipush dX8_look_25 kbp_13 ?_
    refine ab_icmp_ge 120 dX8_look_27 (by decide) hf (fun hf => ?_) (fun hf => ?_)
    · refine ab_iconst dX8_look_30 kic_1 ?_
      refine ab_istore [some (.ref x0), some (.ref x1), some (.int x2), some (.int x3), some (.int x4), some (.int x5), some (.int x6), some (.int 1), none] dX8_look_31 (by decide) rfl rfl ?_
      exact ab_msk [true, true, true, true, true, true, true, true, true] (w_X8_look_B33 x0 x1 x2 x3 x4 x5 x6 (fun u4 u5 u6 hu => F_X8_look_B23 x0 x1 x2 x3 n u4 u5 u6 hu) (fun u4 u5 u6 hu hf => ih u4 u5 u6 hu hf) 200 1 h hf)
    refine ab_iload dX8_look_120 rfl ?_
    exact f_reti2 dX8_look_122 rfl (Nat.le_refl 0) (Nat.le_refl 0) hf
def F_X8_look (a0 : Nat) (a1 : Nat) (a2 : Int32) (h : abH) : Option (Int32 × abH) :=
  (ko 8 h a0).bind fun _ => (F_X8_heights a0 a1 a2 h).bind fun v1 =>
  if v1 = 0 then
    some ((-1), h)
  else
    F_X8_look_B23 a0 a1 a2 v1 200 (-1) 10 0 h
theorem m_X8_look {z0 : Int32} {hz : abH} (a0 : Nat) (a1 : Nat) (a2 : Int32) (h : abH) (hf : F_X8_look a0 a1 a2 h = some (z0, hz)) : abM yX8_look cX8_look 9 (some .int) 6 0 0 [.ref a0, .ref a1, .int a2] h (some (.int z0)) hz := by
  refine abM_of (ini := false) [some (.ref a0), some (.ref a1), some (.int a2), none, none, none, none, none, none] (by decide +kernel) (fun q => by first | rfl | cases q) (Nat.le_of_ble_eq_true rfl) rfl ?_
  unfold F_X8_look at hf
  refine ab_aload_n 0 dX8_look_0 rfl rfl ?_
  refine ab_aload_n 1 dX8_look_1 rfl rfl ?_
  refine ab_iload_n 2 dX8_look_2 rfl rfl ?_
  refine f_V_i (As := [.ref a1, .int a2]) (st := []) cs_X8_44 (fun v q => m_X8_heights a0 a1 a2 h q) rfl rfl dX8_look_3 (rmk rfl) hf (fun v1 hf => ?_)
  refine ab_istore_n 3 [some (.ref a0), some (.ref a1), some (.int a2), some (.int v1), none, none, none, none, none] dX8_look_6 rfl (by decide) rfl rfl ?_
  refine ab_iload_n 3 dX8_look_7 rfl rfl ?_
  refine ab_if_ne 13 dX8_look_8 (by decide) hf (fun hf => ?_) (fun hf => ?_)
  · refine ab_iconst dX8_look_11 kic_m1 ?_
    exact f_reti2 dX8_look_12 rfl (Nat.le_refl 0) (Nat.le_refl 0) hf
  refine ab_iconst dX8_look_13 kic_m1 ?_
  refine ab_istore [some (.ref a0), some (.ref a1), some (.int a2), some (.int v1), some (.int (-1)), none, none, none, none] dX8_look_14 (by decide) rfl rfl ?_
  refine ab_bipush dX8_look_16 kbp_10 ?_
  refine ab_istore [some (.ref a0), some (.ref a1), some (.int a2), some (.int v1), some (.int (-1)), some (.int 10), none, none, none] dX8_look_18 (by decide) rfl rfl ?_
  refine ab_iconst dX8_look_20 kic_0 ?_
  refine ab_istore [some (.ref a0), some (.ref a1), some (.int a2), some (.int v1), some (.int (-1)), some (.int 10), some (.int 0), none, none] dX8_look_21 (by decide) rfl rfl ?_
  exact ab_msk [true, true, true, true, true, true, true, true, true] (w_X8_look_B23 a0 a1 a2 v1 200 (-1) 10 0 h hf)
