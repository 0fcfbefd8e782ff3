def F_X1_init (a0 : Nat) (h : abH) : Option abH :=
  nm (h ++ [.inr (.inl (5, fun _ => none))]) fun h1 =>
  (sV 1 h1 a0 1 (.ref (h.length + 3))).bind fun h2 =>
  nm (h2 ++ [.inl (0, 5, fun _ => 0)]) fun h3 =>
  (sV 1 h3 a0 2 (.ref (h2.length + 3))).bind fun h4 =>
  nm (h4 ++ [.inl (0, 5, fun _ => 0)]) fun h5 =>
  (sV 1 h5 a0 3 (.ref (h4.length + 3))).bind fun h6 =>
  nm (h6 ++ [.inl (0, 10, fun _ => 0)]) fun h7 =>
  (sV 1 h7 a0 4 (.ref (h6.length + 3))).bind fun h8 =>
  nm (h8 ++ [.inl (0, 5, fun _ => 0)]) fun h9 =>
  (sV 1 h9 a0 8 (.ref (h8.length + 3))).bind fun h10 =>
  nm (h10 ++ [.inl (0, 5, fun _ => 0)]) fun h11 =>
  (sV 1 h11 a0 9 (.ref (h10.length + 3))).bind fun h12 =>
  nm (h12 ++ [.inl (0, 8, fun _ => 0)]) fun h13 =>
  (sV 1 h13 a0 11 (.ref (h12.length + 3))).bind fun h14 =>
  nm (h14 ++ [.inl (0, 8, fun _ => 0)]) fun h15 =>
  (sV 1 h15 a0 12 (.ref (h14.length + 3))).bind fun h16 =>
  nm (h16 ++ [.inl (0, 8, fun _ => 0)]) fun h17 =>
  (sV 1 h17 a0 13 (.ref (h16.length + 3))).bind fun h18 =>
  nm (h18 ++ [.inl (0, 8, fun _ => 0)]) fun h19 =>
  (sV 1 h19 a0 14 (.ref (h18.length + 3))).bind fun h20 =>
  some h20
theorem m_X1_init {hz : abH} (a0 : Nat) (h : abH) (hf : F_X1_init a0 h = some hz) : abM yX1_init cX1_init 1 none 1 10 67 [.ref a0] h none hz := by
  refine abM_of (ini := true) [some (.ref a0)] (by decide +kernel) (fun q => by first | rfl | cases q) (Nat.le_of_ble_eq_true rfl) rfl ?_
  unfold F_X1_init at hf
  refine ab_aload_n 0 dX1_init_0 rfl rfl ?_
  refine ab_obj tb_50 tb_26 tb_27 dX1_init_1 (by decide) (Nat.le_of_ble_eq_true rfl) ?_
  refine ab_aload_n 0 dX1_init_4 rfl rfl ?_
  refine ab_iconst dX1_init_5 kic_5 ?_
  refine ab_newq 5 tb_51 (by decide) (by decide +kernel) (by decide) dX1_init_6 (by omega) (by omega) ?_
  refine ab_nmh hf (fun h1 hf => ?_)
  refine f_putF fp_X1_11 rfl (abFit_a _ _) dX1_init_9 hf (fun h2 hf => ?_)
  refine ab_aload_n 0 dX1_init_12 rfl rfl ?_
  refine ab_iconst dX1_init_13 kic_5 ?_
  refine ab_newa (a := .int) 0 5 tb_117 (by simp) (by decide) (by decide +kernel) (by decide) dX1_init_14 (by omega) (by omega) ?_
  refine ab_nmh hf (fun h3 hf => ?_)
  refine f_putF fp_X1_17 rfl (abFit_a _ _) dX1_init_16 hf (fun h4 hf => ?_)
  refine ab_aload_n 0 dX1_init_19 rfl rfl ?_
  refine ab_iconst dX1_init_20 kic_5 ?_
  refine ab_newa (a := .int) 0 5 tb_117 (by simp) (by decide) (by decide +kernel) (by decide) dX1_init_21 (by omega) (by omega) ?_
  refine ab_nmh hf (fun h5 hf => ?_)
  refine f_putF fp_X1_21 rfl (abFit_a _ _) dX1_init_23 hf (fun h6 hf => ?_)
  refine ab_aload_n 0 dX1_init_26 rfl rfl ?_
  refine ab_bipush dX1_init_27 kbp_10 ?_
  refine ab_newa (a := .int) 0 10 tb_117 (by simp) (by decide) (by decide +kernel) (by decide) dX1_init_29 (by omega) (by omega) ?_
  refine ab_nmh hf (fun h7 hf => ?_)
  refine f_putF fp_X1_24 rfl (abFit_a _ _) dX1_init_31 hf (fun h8 hf => ?_)
  refine ab_aload_n 0 dX1_init_34 rfl rfl ?_
  refine ab_iconst dX1_init_35 kic_5 ?_
  refine ab_newa (a := .int) 0 5 tb_117 (by simp) (by decide) (by decide +kernel) (by decide) dX1_init_36 (by omega) (by omega) ?_
  refine ab_nmh hf (fun h9 hf => ?_)
  refine f_putF fp_X1_27 rfl (abFit_a _ _) dX1_init_38 hf (fun h10 hf => ?_)
  refine ab_aload_n 0 dX1_init_41 rfl rfl ?_
  refine ab_iconst dX1_init_42 kic_5 ?_
  refine ab_newa (a := .int) 0 5 tb_117 (by simp) (by decide) (by decide +kernel) (by decide) dX1_init_43 (by omega) (by omega) ?_
  refine ab_nmh hf (fun h11 hf => ?_)
  refine f_putF fp_X1_30 rfl (abFit_a _ _) dX1_init_45 hf (fun h12 hf => ?_)
  refine ab_aload_n 0 dX1_init_48 rfl rfl ?_
  refine ab_bipush dX1_init_49 kbp_8 ?_
  refine ab_newa (a := .int) 0 8 tb_117 (by simp) (by decide) (by decide +kernel) (by decide) dX1_init_51 (by omega) (by omega) ?_
  refine ab_nmh hf (fun h13 hf => ?_)
  refine f_putF fp_X1_33 rfl (abFit_a _ _) dX1_init_53 hf (fun h14 hf => ?_)
  refine ab_aload_n 0 dX1_init_56 rfl rfl ?_
  refine ab_bipush dX1_init_57 kbp_8 ?_
  refine ab_newa (a := .int) 0 8 tb_117 (by simp) (by decide) (by decide +kernel) (by decide) dX1_init_59 (by omega) (by omega) ?_
  refine ab_nmh hf (fun h15 hf => ?_)
  refine f_putF fp_X1_36 rfl (abFit_a _ _) dX1_init_61 hf (fun h16 hf => ?_)
  refine ab_aload_n 0 dX1_init_64 rfl rfl ?_
  refine ab_bipush dX1_init_65 kbp_8 ?_
  refine ab_newa (a := .int) 0 8 tb_117 (by simp) (by decide) (by decide +kernel) (by decide) dX1_init_67 (by omega) (by omega) ?_
  refine ab_nmh hf (fun h17 hf => ?_)
  refine f_putF fp_X1_39 rfl (abFit_a _ _) dX1_init_69 hf (fun h18 hf => ?_)
  refine ab_aload_n 0 dX1_init_72 rfl rfl ?_
  refine ab_bipush dX1_init_73 kbp_8 ?_
  refine ab_newa (a := .int) 0 8 tb_117 (by simp) (by decide) (by decide +kernel) (by decide) dX1_init_75 (by omega) (by omega) ?_
  refine ab_nmh hf (fun h19 hf => ?_)
  refine f_putF fp_X1_42 rfl (abFit_a _ _) dX1_init_77 hf (fun h20 hf => ?_)
  exact f_retv2 dX1_init_80 rfl (by omega) (by omega) hf
def F_X1_read_B43 (x0 : Nat) (x1 : Nat) : Nat → Int32 → abH → Option abH
  | 0, _, _ => none
  | n + 1, x2, h =>
    (gI 1 h x0 0).bind fun v3 =>
    if x2 < v3 then
      (gR 1 h x0 1).bind fun v8 =>
      (ko 6 h x1).bind fun _ => bd2 (F_X6_kindOf x1 x2 h) fun v10 h9 =>
      (sq h9 v8 x2 v10).bind fun h11 =>
      (gR 1 h11 x0 2).bind fun v12 =>
      (ko 6 h11 x1).bind fun _ => (F_X6_digitOf x1 x2 1 h11).bind fun v13 =>
      (sa 0 h11 v12 x2 v13).bind fun h14 =>
      (gR 1 h14 x0 3).bind fun v15 =>
      (ko 6 h14 x1).bind fun _ => (F_X6_digitOf x1 x2 2 h14).bind fun v16 =>
      (sa 0 h14 v15 x2 v16).bind fun h17 =>
      F_X1_read_B43 x0 x1 n (x2 + 1) h17
    else
      (sV 1 h x0 5 (.int 0)).bind fun h4 =>
      (sV 1 h4 x0 6 (.int 0)).bind fun h5 =>
      (sV 1 h5 x0 7 (.int 0)).bind fun h6 =>
      (sV 1 h6 x0 10 (.int 0)).bind fun h7 =>
      some h7
theorem w_X1_read_B43 {hz : abH} (x0 : Nat) (x1 : Nat)   : ∀ (n : Nat) (x2 : Int32) (h : abH) (nc ns : Nat), nc + n ≤ 6 → ns + 2 * n ≤ 12 → F_X1_read_B43 x0 x1 n x2 h = some hz → abW cX1_read 3 RX1 none false 5 6 12 none (none, hz) 43 [some (.ref x0), some (.ref x1), some (.int x2)] [] h nc ns := by
  intro n
  induction n with
  | zero =>
    intro x2 h nc ns hnc hns hf
    exact absurd (show (none : Option abH) = some _ from hf) (by simp)
  | succ n ih =>
    intro x2 h nc ns hnc hns hf
    rw [F_X1_read_B43.eq_2] at hf
    refine ab_iload_n 2 dX1_read_43 rfl rfl ?_
    refine ab_aload_n 0 dX1_read_44 rfl rfl ?_
    refine f_getI fs_X1_61 dX1_read_45 hf (fun v3 hf => ?_)
    refine ab_icmp_ge 92 dX1_read_48 (by decide) hf (fun hf => ?_) (fun hf => ?_)
    · refine ab_aload_n 0 dX1_read_51 rfl rfl ?_
      refine f_getR fs_X1_11 dX1_read_52 hf (fun v8 hf => ?_)
      refine ab_iload_n 2 dX1_read_55 rfl rfl ?_
      refine ab_aload_n 1 dX1_read_56 rfl rfl ?_
      refine ab_iload_n 2 dX1_read_57 rfl rfl ?_
      refine f_V_r2 (As := [.int x2]) (st := [.int x2, .ref v8]) cs_X1_64 (fun v hq q => m_X6_kindOf x1 x2 h q) rfl rfl dX1_read_58 (rmk2 (by decide) (by decide) (Nat.le_of_ble_eq_true rfl) (by omega) (by omega)) hf (fun v10 h9 hf => ?_)
      refine f_aast dX1_read_61 hf (fun h11 hf => ?_)
      refine ab_aload_n 0 dX1_read_62 rfl rfl ?_
      refine f_getR fs_X1_17 dX1_read_63 hf (fun v12 hf => ?_)
      refine ab_iload_n 2 dX1_read_66 rfl rfl ?_
      refine ab_aload_n 1 dX1_read_67 rfl rfl ?_
      refine ab_iload_n 2 dX1_read_68 rfl rfl ?_
      refine ab_iconst dX1_read_69 kic_1 ?_
      refine f_V_i (As := [.int x2, .int 1]) (st := [.int x2, .ref v12]) cs_X1_68 (fun v q => m_X6_digitOf x1 x2 1 h11 q) rfl rfl dX1_read_70 (rmk2 (by decide) (by decide) (Nat.le_of_ble_eq_true rfl) (by omega) (by omega)) hf (fun v13 hf => ?_)
      refine f_iast dX1_read_73 hf (fun h14 hf => ?_)
      refine ab_aload_n 0 dX1_read_74 rfl rfl ?_
      refine f_getR fs_X1_21 dX1_read_75 hf (fun v15 hf => ?_)
      refine ab_iload_n 2 dX1_read_78 rfl rfl ?_
      refine ab_aload_n 1 dX1_read_79 rfl rfl ?_
      refine ab_iload_n 2 dX1_read_80 rfl rfl ?_
      refine ab_iconst dX1_read_81 kic_2 ?_
      refine f_V_i (As := [.int x2, .int 2]) (st := [.int x2, .ref v15]) cs_X1_68 (fun v q => m_X6_digitOf x1 x2 2 h14 q) rfl rfl dX1_read_82 (rmk2 (by decide) (by decide) (Nat.le_of_ble_eq_true rfl) (by omega) (by omega)) hf (fun v16 hf => ?_)
      refine f_iast dX1_read_85 hf (fun h17 hf => ?_)
      refine ab_iinc (v := x2 + 1) [some (.ref x0), some (.ref x1), some (.int (x2 + 1))] dX1_read_86 rfl (kinc_1 _) (by decide) rfl rfl ?_
      refine ab_goto 43 dX1_read_89 (by decide) ?_
      exact ab_msk [true, true, true] (ih (x2 + 1) h17 _ _ (by omega) (by omega) hf)
    refine ab_aload_n 0 dX1_read_92 rfl rfl ?_
    refine ab_iconst dX1_read_93 kic_0 ?_
    refine f_put fp_X1_71 (abFit_i _) dX1_read_94 hf (fun h4 hf => ?_)
    refine ab_aload_n 0 dX1_read_97 rfl rfl ?_
    refine ab_iconst dX1_read_98 kic_0 ?_
    refine f_put fp_X1_74 (abFit_i _) dX1_read_99 hf (fun h5 hf => ?_)
    refine ab_aload_n 0 dX1_read_102 rfl rfl ?_
    refine ab_iconst dX1_read_103 kic_0 ?_
    refine f_put fp_X1_77 (abFit_i _) dX1_read_104 hf (fun h6 hf => ?_)
    refine ab_aload_n 0 dX1_read_107 rfl rfl ?_
    refine ab_iconst dX1_read_108 kic_0 ?_
    refine f_put fp_X1_80 (abFit_i _) dX1_read_109 hf (fun h7 hf => ?_)
    exact f_retv2 dX1_read_112 rfl (by omega) (by omega) hf
def F_X1_read_B2 (x0 : Nat) (x1 : Nat) : Nat → Int32 → abH → Option abH
  | 0, _, _ => none
  | n + 1, x2, h =>
    if x2 < 10 then
      (gR 1 h x0 4).bind fun v18 =>
      (gR 6 h x1 0).bind fun v19 =>
      (ga 1 h v19 x2).bind fun v20 =>
      (sa 0 h v18 x2 (v20 - 48)).bind fun h21 =>
      F_X1_read_B2 x0 x1 n (x2 + 1) h21
    else
      (ko 6 h x1).bind fun _ => (F_X6_parties x1 h).bind fun v1 =>
      (sV 1 h x0 0 (.int (if 5 < v1 then 5 else v1))).bind fun h2 =>
      F_X1_read_B43 x0 x1 6 0 h2
theorem w_X1_read_B2 {hz : abH} (x0 : Nat) (x1 : Nat)   : ∀ (n : Nat) (x2 : Int32) (h : abH) (nc ns : Nat), nc + 6 ≤ 6 → ns + 12 ≤ 12 → F_X1_read_B2 x0 x1 n x2 h = some hz → abW cX1_read 3 RX1 none false 5 6 12 none (none, hz) 2 [some (.ref x0), some (.ref x1), some (.int x2)] [] h nc ns := by
  intro n
  induction n with
  | zero =>
    intro x2 h nc ns hnc hns hf
    exact absurd (show (none : Option abH) = some _ from hf) (by simp)
  | succ n ih =>
    intro x2 h nc ns hnc hns hf
    rw [F_X1_read_B2.eq_2] at hf
    refine ab_iload_n 2 dX1_read_2 rfl rfl ?_
    refine ab_bipush dX1_read_3 kbp_10 ?_
    refine ab_icmp_ge 29 dX1_read_5 (by decide) hf (fun hf => ?_) (fun hf => ?_)
    · refine ab_aload_n 0 dX1_read_8 rfl rfl ?_
      refine f_getR fs_X1_24 dX1_read_9 hf (fun v18 hf => ?_)
      refine ab_iload_n 2 dX1_read_12 rfl rfl ?_
      refine ab_aload_n 1 dX1_read_13 rfl rfl ?_
      refine f_getR fs_X1_45 dX1_read_14 hf (fun v19 hf => ?_)
      refine ab_iload_n 2 dX1_read_17 rfl rfl ?_
      refine f_cald dX1_read_18 hf (fun v20 hf => ?_)
      refine ab_bipush dX1_read_19 kbp_48 ?_
      refine ab_isub dX1_read_21 ?_
      refine f_iast dX1_read_22 hf (fun h21 hf => ?_)
      refine ab_iinc (v := x2 + 1) [some (.ref x0), some (.ref x1), some (.int (x2 + 1))] dX1_read_23 rfl (kinc_1 _) (by decide) rfl rfl ?_
      refine ab_goto 2 dX1_read_26 (by decide) ?_
      exact ab_msk [true, true, true] (ih (x2 + 1) h21 _ _ (by omega) (by omega) hf)
    refine ab_aload_n 0 dX1_read_29 rfl rfl ?_
    refine ab_aload_n 1 dX1_read_30 rfl rfl ?_
    refine f_V_i (As := []) (st := [.ref x0]) cs_X1_51 (fun v q => m_X6_parties x1 h q) rfl rfl dX1_read_31 (rmk2 (by decide) (by decide) (Nat.le_of_ble_eq_true rfl) (by omega) (by omega)) hf (fun v1 hf => ?_)
    refine ab_iconst dX1_read_34 kic_5 ?_
    refine ab_min tb_523 tb_448 tb_10 tb_449 dX1_read_35 (by decide) (Nat.le_of_ble_eq_true rfl) (by omega) (by omega) ?_
    refine f_put fp_X1_61 (abFit_i _) dX1_read_38 hf (fun h2 hf => ?_)
    refine ab_iconst dX1_read_41 kic_0 ?_
    refine ab_istore_n 2 [some (.ref x0), some (.ref x1), some (.int 0)] dX1_read_42 rfl (by decide) rfl rfl ?_
    exact ab_msk [true, true, true] (w_X1_read_B43 x0 x1 6 0 h2 _ _ (by omega) (by omega) hf)
def F_X1_read (a0 : Nat) (a1 : Nat) (h : abH) : Option abH :=
  F_X1_read_B2 a0 a1 200 0 h
theorem m_X1_read {hz : abH} (a0 : Nat) (a1 : Nat) (h : abH) (hf : F_X1_read a0 a1 h = some hz) : abM yX1_read cX1_read 3 none 5 6 12 [.ref a0, .ref a1] h none hz := by
  refine abM_of (ini := false) [some (.ref a0), some (.ref a1), none] (by decide +kernel) (fun q => by first | rfl | cases q) (Nat.le_of_ble_eq_true rfl) rfl ?_
  unfold F_X1_read at hf
  refine ab_iconst dX1_read_0 kic_0 ?_
  refine ab_istore_n 2 [some (.ref a0), some (.ref a1), some (.int 0)] dX1_read_1 rfl (by decide) rfl rfl ?_
  exact ab_msk [true, true, true] (w_X1_read_B2 a0 a1 200 0 h _ _ (by omega) (by omega) hf)
def F_X1_has (a0 : Nat) (a1 : Int32) (h : abH) : Option Int32 :=
  if a1 < 0 then
    some 0
  else
    (gI 1 h a0 0).bind fun v1 =>
    if a1 < v1 then
      (gR 1 h a0 1).bind fun v2 =>
      (gq h v2 a1).bind fun v3 =>
      match v3 with
      | none =>
        some 0
      | some v4 =>
        some 1
    else
      some 0
theorem m_X1_has {z0 : Int32} (a0 : Nat) (a1 : Int32) (h : abH) (hf : F_X1_has a0 a1 h = some z0) : abM yX1_has cX1_has 2 (some .boolean) 1 0 0 [.ref a0, .int a1] h (some (.int z0)) h := by
  refine abM_of (ini := false) [some (.ref a0), some (.int a1)] (by decide +kernel) (fun q => by first | rfl | cases q) (Nat.le_of_ble_eq_true rfl) rfl ?_
  unfold F_X1_has at hf
  refine ab_iload_n 1 dX1_has_0 rfl rfl ?_
  refine ab_if_lt 25 dX1_has_1 (by decide) hf (fun hf => ?_) (fun hf => ?_)
  · refine ab_iconst dX1_has_25 kic_0 ?_
    exact f_retzc rfl dX1_has_26 rfl (Nat.le_refl 0) (Nat.le_refl 0) hf
  refine ab_iload_n 1 dX1_has_4 rfl rfl ?_
  refine ab_aload_n 0 dX1_has_5 rfl rfl ?_
  refine f_getI fs_X1_61 dX1_has_6 hf (fun v1 hf => ?_)
  refine ab_icmp_ge 25 dX1_has_9 (by decide) hf (fun hf => ?_) (fun hf => ?_)
  · refine ab_aload_n 0 dX1_has_12 rfl rfl ?_
    refine f_getR fs_X1_11 dX1_has_13 hf (fun v2 hf => ?_)
    refine ab_iload_n 1 dX1_has_16 rfl rfl ?_
    refine f_aald dX1_has_17 hf (fun v3 hf => ?_)
    refine ab_ifnull 25 dX1_has_18 (by decide) hf (fun hf => ?_) (fun v4 hf => ?_)
    · refine ab_iconst dX1_has_25 kic_0 ?_
      exact f_retzc rfl dX1_has_26 rfl (Nat.le_refl 0) (Nat.le_refl 0) hf
    refine ab_iconst dX1_has_21 kic_1 ?_
    refine ab_goto 26 dX1_has_22 (by decide) ?_
    exact f_retzc rfl dX1_has_26 rfl (Nat.le_refl 0) (Nat.le_refl 0) hf
  refine ab_iconst dX1_has_25 kic_0 ?_
  exact f_retzc rfl dX1_has_26 rfl (Nat.le_refl 0) (Nat.le_refl 0) hf
def F_X1_shade (a0 : Nat) (a1 : Int32) (a2 : Int32) (h : abH) : Option Int32 :=
  (ko 1 h a0).bind fun _ => (F_X1_has a0 a1 h).bind fun v1 =>
  if v1 = 0 then
    some 0
  else
    (gR 1 h a0 1).bind fun v2 =>
    (gq h v2 a1).bind fun v3 =>
    v3.bind fun v4 =>
    (gR 1 h a0 2).bind fun v5 =>
    (ga 0 h v5 a1).bind fun v6 =>
    (gR 1 h a0 3).bind fun v7 =>
    (ga 0 h v7 a1).bind fun v8 =>
    (kc h v4).bind fun cc => (dsp cc (F_X0_shade v4 v6 v8 a2 h) (F_X5_shade v4 v6 v8 a2 h) (F_X5_shade v4 v6 v8 a2 h) (F_X5_shade v4 v6 v8 a2 h) (F_X10_shade v4 v6 v8 a2 h)).bind fun v9 =>
    some v9
theorem m_X1_shade {z0 : Int32} (a0 : Nat) (a1 : Int32) (a2 : Int32) (h : abH) (hf : F_X1_shade a0 a1 a2 h = some z0) : abM yX1_shade cX1_shade 3 (some .int) 3 0 0 [.ref a0, .int a1, .int a2] h (some (.int z0)) h := by
  refine abM_of (ini := false) [some (.ref a0), some (.int a1), some (.int a2)] (by decide +kernel) (fun q => by first | rfl | cases q) (Nat.le_of_ble_eq_true rfl) rfl ?_
  unfold F_X1_shade at hf
  refine ab_aload_n 0 dX1_shade_0 rfl rfl ?_
  refine ab_iload_n 1 dX1_shade_1 rfl rfl ?_
  refine f_V_i (As := [.int a1]) (st := []) cs_X1_93 (fun v q => m_X1_has a0 a1 h q) rfl rfl dX1_shade_2 (rmk rfl) hf (fun v1 hf => ?_)
  refine ab_if_eq 33 dX1_shade_5 (by decide) hf (fun hf => ?_) (fun hf => ?_)
  · refine ab_iconst dX1_shade_33 kic_0 ?_
    exact f_reti dX1_shade_34 rfl (Nat.le_refl 0) (Nat.le_refl 0) hf
  refine ab_aload_n 0 dX1_shade_8 rfl rfl ?_
  refine f_getR fs_X1_11 dX1_shade_9 hf (fun v2 hf => ?_)
  refine ab_iload_n 1 dX1_shade_12 rfl rfl ?_
  refine f_aald dX1_shade_13 hf (fun v3 hf => ?_)
  refine f_nn hf (fun v4 hf => ?_)
  refine ab_aload_n 0 dX1_shade_14 rfl rfl ?_
  refine f_getR fs_X1_17 dX1_shade_15 hf (fun v5 hf => ?_)
  refine ab_iload_n 1 dX1_shade_18 rfl rfl ?_
  refine f_iald dX1_shade_19 hf (fun v6 hf => ?_)
  refine ab_aload_n 0 dX1_shade_20 rfl rfl ?_
  refine f_getR fs_X1_21 dX1_shade_21 hf (fun v7 hf => ?_)
  refine ab_iload_n 1 dX1_shade_24 rfl rfl ?_
  refine f_iald dX1_shade_25 hf (fun v8 hf => ?_)
  refine ab_iload_n 2 dX1_shade_26 rfl rfl ?_
  refine f_D hf
    (fun v q0 q1 kk => ab_callUi (As := [.int v6, .int v8, .int a2]) (st := []) cs_X1_104_0 q0 (m_X0_shade v4 v6 v8 a2 h q1) rfl rfl dX1_shade_27 (rmk rfl) kk)
    (fun v q0 q1 kk => ab_callUi (As := [.int v6, .int v8, .int a2]) (st := []) cs_X1_104_4 q0 (m_X5_shade v4 v6 v8 a2 h q1) rfl rfl dX1_shade_27 (rmk rfl) kk)
    (fun v q0 q1 kk => ab_callVi (As := [.int v6, .int v8, .int a2]) (st := []) cs_X1_104_5 q0 (m_X5_shade v4 v6 v8 a2 h q1) rfl rfl dX1_shade_27 (rmk rfl) kk)
    (fun v q0 q1 kk => ab_callUi (As := [.int v6, .int v8, .int a2]) (st := []) cs_X1_104_7 q0 (m_X5_shade v4 v6 v8 a2 h q1) rfl rfl dX1_shade_27 (rmk rfl) kk)
    (fun v q0 q1 kk => ab_callUi (As := [.int v6, .int v8, .int a2]) (st := []) cs_X1_104_10 q0 (m_X10_shade v4 v6 v8 a2 h q1) rfl rfl dX1_shade_27 (rmk rfl) kk)
    (fun v9 hf => ?_)
  refine ab_goto 34 dX1_shade_30 (by decide) ?_
  exact f_reti dX1_shade_34 rfl (Nat.le_refl 0) (Nat.le_refl 0) hf
def F_X1_worthOf_B4 (x0 : Nat) (x1 : Int32) (h : abH) : Nat → Int32 → Int32 → Option Int32
  | 0, _, _ => none
  | n + 1, x2, x3 =>
    if x3 < 10 then
      if ((x1 >>> (x3 &&& 31)) &&& 1) = 0 then
        F_X1_worthOf_B4 x0 x1 h n x2 (x3 + 1)
      else
        (gR 1 h x0 4).bind fun v1 =>
        (ga 0 h v1 x3).bind fun v2 =>
        nm (x2 + v2) fun v3 =>
        F_X1_worthOf_B4 x0 x1 h n v3 (x3 + 1)
    else
      some x2
theorem w_X1_worthOf_B4 {z0 : Int32} (x0 : Nat) (x1 : Int32) (h : abH)   : ∀ (n : Nat) (x2 : Int32) (x3 : Int32), F_X1_worthOf_B4 x0 x1 h n x2 x3 = some z0 → abW cX1_worthOf 4 RX1 (some .int) false 1 0 0 none (some (.int z0), h) 4 [some (.ref x0), some (.int x1), some (.int x2), some (.int x3)] [] h 0 0 := by
  intro n
  induction n with
  | zero =>
    intro x2 x3 hf
    exact absurd (show (none : Option Int32) = some _ from hf) (by simp)
  | succ n ih =>
    intro x2 x3 hf
    rw [F_X1_worthOf_B4.eq_2] at hf
    refine ab_iload_n 3 dX1_worthOf_4 rfl rfl ?_
    refine ab_bipush dX1_worthOf_5 kbp_10 ?_
    refine ab_icmp_ge 33 dX1_worthOf_7 (by decide) hf (fun hf => ?_) (fun hf => ?_)
    · refine ab_iload_n 1 dX1_worthOf_10 rfl rfl ?_
      refine ab_iload_n 3 dX1_worthOf_11 rfl rfl ?_
      refine ab_ishr dX1_worthOf_12 ?_
      refine ab_iconst dX1_worthOf_13 kic_1 ?_
      refine ab_iand dX1_worthOf_14 ?_
      refine ab_if_eq 27 dX1_worthOf_15 (by decide) hf (fun hf => ?_) (fun hf => ?_)
      · refine ab_iinc (v := x3 + 1) [some (.ref x0), some (.int x1), some (.int x2), some (.int (x3 + 1))] dX1_worthOf_27 rfl (kinc_1 _) (by decide) rfl rfl ?_
        refine ab_goto 4 dX1_worthOf_30 (by decide) ?_
        exact ab_msk [true, true, true, true] (ih x2 (x3 + 1) hf)
      refine ab_iload_n 2 dX1_worthOf_18 rfl rfl ?_
      refine ab_aload_n 0 dX1_worthOf_19 rfl rfl ?_
      refine f_getR fs_X1_24 dX1_worthOf_20 hf (fun v1 hf => ?_)
      refine ab_iload_n 3 dX1_worthOf_23 rfl rfl ?_
      refine f_iald dX1_worthOf_24 hf (fun v2 hf => ?_)
      refine ab_iadd dX1_worthOf_25 ?_
      refine ab_nmi hf (fun v3 hf => ?_)
      refine ab_istore_n 2 [some (.ref x0), some (.int x1), some (.int v3), some (.int x3)] dX1_worthOf_26 rfl (by decide) rfl rfl ?_
      refine ab_iinc (v := x3 + 1) [some (.ref x0), some (.int x1), some (.int v3), some (.int (x3 + 1))] dX1_worthOf_27 rfl (kinc_1 _) (by decide) rfl rfl ?_
      refine ab_goto 4 dX1_worthOf_30 (by decide) ?_
      exact ab_msk [true, true, true, true] (ih v3 (x3 + 1) hf)
    refine ab_iload_n 2 dX1_worthOf_33 rfl rfl ?_
    exact f_reti dX1_worthOf_34 rfl (Nat.le_refl 0) (Nat.le_refl 0) hf
def F_X1_worthOf (a0 : Nat) (a1 : Int32) (h : abH) : Option Int32 :=
  F_X1_worthOf_B4 a0 a1 h 200 0 0
theorem m_X1_worthOf {z0 : Int32} (a0 : Nat) (a1 : Int32) (h : abH) (hf : F_X1_worthOf a0 a1 h = some z0) : abM yX1_worthOf cX1_worthOf 4 (some .int) 1 0 0 [.ref a0, .int a1] h (some (.int z0)) h := by
  refine abM_of (ini := false) [some (.ref a0), some (.int a1), none, none] (by decide +kernel) (fun q => by first | rfl | cases q) (Nat.le_of_ble_eq_true rfl) rfl ?_
  unfold F_X1_worthOf at hf
  refine ab_iconst dX1_worthOf_0 kic_0 ?_
  refine ab_istore_n 2 [some (.ref a0), some (.int a1), some (.int 0), none] dX1_worthOf_1 rfl (by decide) rfl rfl ?_
  refine ab_iconst dX1_worthOf_2 kic_0 ?_
  refine ab_istore_n 3 [some (.ref a0), some (.int a1), some (.int 0), some (.int 0)] dX1_worthOf_3 rfl (by decide) rfl rfl ?_
  exact ab_msk [true, true, true, true] (w_X1_worthOf_B4 a0 a1 h 200 0 0 hf)
def F_X1_shadeIf (a0 : Nat) (a1 : Int32) (a2 : Int32) (a3 : Int32) (a4 : Int32) (h : abH) : Option Int32 :=
  (ko 1 h a0).bind fun _ => (F_X1_has a0 a1 h).bind fun v1 =>
  if v1 = 0 then
    some 0
  else
    (gR 1 h a0 1).bind fun v2 =>
    (gq h v2 a1).bind fun v3 =>
    v3.bind fun v4 =>
    (kc h v4).bind fun cc => (dsp cc (F_X0_shade v4 a2 a3 a4 h) (F_X5_shade v4 a2 a3 a4 h) (F_X5_shade v4 a2 a3 a4 h) (F_X5_shade v4 a2 a3 a4 h) (F_X10_shade v4 a2 a3 a4 h)).bind fun v5 =>
    some v5
theorem m_X1_shadeIf {z0 : Int32} (a0 : Nat) (a1 : Int32) (a2 : Int32) (a3 : Int32) (a4 : Int32) (h : abH) (hf : F_X1_shadeIf a0 a1 a2 a3 a4 h = some z0) : abM yX1_shadeIf cX1_shadeIf 5 (some .int) 3 0 0 [.ref a0, .int a1, .int a2, .int a3, .int a4] h (some (.int z0)) h := by
  refine abM_of (ini := false) [some (.ref a0), some (.int a1), some (.int a2), some (.int a3), some (.int a4)] (by decide +kernel) (fun q => by first | rfl | cases q) (Nat.le_of_ble_eq_true rfl) rfl ?_
  unfold F_X1_shadeIf at hf
  refine ab_aload_n 0 dX1_shadeIf_0 rfl rfl ?_
  refine ab_iload_n 1 dX1_shadeIf_1 rfl rfl ?_
  refine f_V_i (As := [.int a1]) (st := []) cs_X1_93 (fun v q => m_X1_has a0 a1 h q) rfl rfl dX1_shadeIf_2 (rmk rfl) hf (fun v1 hf => ?_)
  refine ab_if_eq 24 dX1_shadeIf_5 (by decide) hf (fun hf => ?_) (fun hf => ?_)
  · refine ab_iconst dX1_shadeIf_24 kic_0 ?_
    exact f_reti dX1_shadeIf_25 rfl (Nat.le_refl 0) (Nat.le_refl 0) hf
  refine ab_aload_n 0 dX1_shadeIf_8 rfl rfl ?_
  refine f_getR fs_X1_11 dX1_shadeIf_9 hf (fun v2 hf => ?_)
  refine ab_iload_n 1 dX1_shadeIf_12 rfl rfl ?_
  refine f_aald dX1_shadeIf_13 hf (fun v3 hf => ?_)
  refine f_nn hf (fun v4 hf => ?_)
  refine ab_iload_n 2 dX1_shadeIf_14 rfl rfl ?_
  refine ab_iload_n 3 dX1_shadeIf_15 rfl rfl ?_
  refine ab_iload dX1_shadeIf_16 rfl ?_
  refine f_D hf
    (fun v q0 q1 kk => ab_callUi (As := [.int a2, .int a3, .int a4]) (st := []) cs_X1_104_0 q0 (m_X0_shade v4 a2 a3 a4 h q1) rfl rfl dX1_shadeIf_18 (rmk rfl) kk)
    (fun v q0 q1 kk => ab_callUi (As := [.int a2, .int a3, .int a4]) (st := []) cs_X1_104_4 q0 (m_X5_shade v4 a2 a3 a4 h q1) rfl rfl dX1_shadeIf_18 (rmk rfl) kk)
    (fun v q0 q1 kk => ab_callVi (As := [.int a2, .int a3, .int a4]) (st := []) cs_X1_104_5 q0 (m_X5_shade v4 a2 a3 a4 h q1) rfl rfl dX1_shadeIf_18 (rmk rfl) kk)
    (fun v q0 q1 kk => ab_callUi (As := [.int a2, .int a3, .int a4]) (st := []) cs_X1_104_7 q0 (m_X5_shade v4 a2 a3 a4 h q1) rfl rfl dX1_shadeIf_18 (rmk rfl) kk)
    (fun v q0 q1 kk => ab_callUi (As := [.int a2, .int a3, .int a4]) (st := []) cs_X1_104_10 q0 (m_X10_shade v4 a2 a3 a4 h q1) rfl rfl dX1_shadeIf_18 (rmk rfl) kk)
    (fun v5 hf => ?_)
  refine ab_goto 25 dX1_shadeIf_21 (by decide) ?_
  exact f_reti dX1_shadeIf_25 rfl (Nat.le_refl 0) (Nat.le_refl 0) hf
def F_X1_hasTwo (a0 : Nat) (a1 : Int32) (a2 : Int32) (h : abH) : Option Int32 :=
  (ko 1 h a0).bind fun _ => (F_X1_has a0 a1 h).bind fun v1 =>
  if v1 = 0 then
    some 0
  else
    (ko 1 h a0).bind fun _ => (F_X1_has a0 a2 h).bind fun v2 =>
    if v2 = 0 then
      some 0
    else
      if a1 = a2 then
        some 0
      else
        some 1
theorem m_X1_hasTwo {z0 : Int32} (a0 : Nat) (a1 : Int32) (a2 : Int32) (h : abH) (hf : F_X1_hasTwo a0 a1 a2 h = some z0) : abM yX1_hasTwo cX1_hasTwo 3 (some .boolean) 2 0 0 [.ref a0, .int a1, .int a2] h (some (.int z0)) h := by
  refine abM_of (ini := false) [some (.ref a0), some (.int a1), some (.int a2)] (by decide +kernel) (fun q => by first | rfl | cases q) (Nat.le_of_ble_eq_true rfl) rfl ?_
  unfold F_X1_hasTwo at hf
  refine ab_aload_n 0 dX1_hasTwo_0 rfl rfl ?_
  refine ab_iload_n 1 dX1_hasTwo_1 rfl rfl ?_
  refine f_V_i (As := [.int a1]) (st := []) cs_X1_93 (fun v q => m_X1_has a0 a1 h q) rfl rfl dX1_hasTwo_2 (rmk rfl) hf (fun v1 hf => ?_)
  refine ab_if_eq 25 dX1_hasTwo_5 (by decide) hf (fun hf => ?_) (fun hf => ?_)
  · refine ab_iconst dX1_hasTwo_25 kic_0 ?_
    exact f_retzc rfl dX1_hasTwo_26 rfl (Nat.le_refl 0) (Nat.le_refl 0) hf
  refine ab_aload_n 0 dX1_hasTwo_8 rfl rfl ?_
  refine ab_iload_n 2 dX1_hasTwo_9 rfl rfl ?_
  refine f_V_i (As := [.int a2]) (st := []) cs_X1_93 (fun v q => m_X1_has a0 a2 h q) rfl rfl dX1_hasTwo_10 (rmk rfl) hf (fun v2 hf => ?_)
  refine ab_if_eq 25 dX1_hasTwo_13 (by decide) hf (fun hf => ?_) (fun hf => ?_)
  · refine ab_iconst dX1_hasTwo_25 kic_0 ?_
    exact f_retzc rfl dX1_hasTwo_26 rfl (Nat.le_refl 0) (Nat.le_refl 0) hf
  refine ab_iload_n 1 dX1_hasTwo_16 rfl rfl ?_
  refine ab_iload_n 2 dX1_hasTwo_17 rfl rfl ?_
  refine ab_icmp_eq 25 dX1_hasTwo_18 (by decide) hf (fun hf => ?_) (fun hf => ?_)
  · refine ab_iconst dX1_hasTwo_25 kic_0 ?_
    exact f_retzc rfl dX1_hasTwo_26 rfl (Nat.le_refl 0) (Nat.le_refl 0) hf
  refine ab_iconst dX1_hasTwo_21 kic_1 ?_
  refine ab_goto 26 dX1_hasTwo_22 (by decide) ?_
  exact f_retzc rfl dX1_hasTwo_26 rfl (Nat.le_refl 0) (Nat.le_refl 0) hf
def F_X1_balance (a0 : Nat) (a1 : Int32) (a2 : Int32) (a3 : Int32) (h : abH) : Option Int32 :=
  (ko 1 h a0).bind fun _ => (F_X1_shade a0 a1 a3 h).bind fun v1 =>
  (ko 1 h a0).bind fun _ => (F_X1_worthOf a0 v1 h).bind fun v2 =>
  (ko 1 h a0).bind fun _ => (F_X1_shade a0 a2 a3 h).bind fun v3 =>
  (ko 1 h a0).bind fun _ => (F_X1_worthOf a0 v3 h).bind fun v4 =>
  some (v2 - v4)
theorem m_X1_balance {z0 : Int32} (a0 : Nat) (a1 : Int32) (a2 : Int32) (a3 : Int32) (h : abH) (hf : F_X1_balance a0 a1 a2 a3 h = some z0) : abM yX1_balance cX1_balance 4 (some .int) 4 0 0 [.ref a0, .int a1, .int a2, .int a3] h (some (.int z0)) h := by
  refine abM_of (ini := false) [some (.ref a0), some (.int a1), some (.int a2), some (.int a3)] (by decide +kernel) (fun q => by first | rfl | cases q) (Nat.le_of_ble_eq_true rfl) rfl ?_
  unfold F_X1_balance at hf
  refine ab_aload_n 0 dX1_balance_0 rfl rfl ?_
  refine ab_aload_n 0 dX1_balance_1 rfl rfl ?_
  refine ab_iload_n 1 dX1_balance_2 rfl rfl ?_
  refine ab_iload_n 3 dX1_balance_3 rfl rfl ?_
  refine f_V_i (As := [.int a1, .int a3]) (st := [.ref a0]) cs_X1_108 (fun v q => m_X1_shade a0 a1 a3 h q) rfl rfl dX1_balance_4 (rmk rfl) hf (fun v1 hf => ?_)
  refine f_V_i (As := [.int v1]) (st := []) cs_X1_110 (fun v q => m_X1_worthOf a0 v1 h q) rfl rfl dX1_balance_7 (rmk rfl) hf (fun v2 hf => ?_)
  refine ab_aload_n 0 dX1_balance_10 rfl rfl ?_
  refine ab_aload_n 0 dX1_balance_11 rfl rfl ?_
  refine ab_iload_n 2 dX1_balance_12 rfl rfl ?_
  refine ab_iload_n 3 dX1_balance_13 rfl rfl ?_
  refine f_V_i (As := [.int a2, .int a3]) (st := [.ref a0, .int v2]) cs_X1_108 (fun v q => m_X1_shade a0 a2 a3 h q) rfl rfl dX1_balance_14 (rmk rfl) hf (fun v3 hf => ?_)
  refine f_V_i (As := [.int v3]) (st := [.int v2]) cs_X1_110 (fun v q => m_X1_worthOf a0 v3 h q) rfl rfl dX1_balance_17 (rmk rfl) hf (fun v4 hf => ?_)
  refine ab_isub dX1_balance_20 ?_
  exact f_reti dX1_balance_21 rfl (Nat.le_refl 0) (Nat.le_refl 0) hf
def F_X1_isNone (a0 : Nat) (h : abH) : Option Int32 :=
  (gI 1 h a0 0).bind fun v1 =>
  if v1 = 0 then
    some 1
  else
    some 0
theorem m_X1_isNone {z0 : Int32} (a0 : Nat) (h : abH) (hf : F_X1_isNone a0 h = some z0) : abM yX1_isNone cX1_isNone 1 (some .boolean) 1 0 0 [.ref a0] h (some (.int z0)) h := by
  refine abM_of (ini := false) [some (.ref a0)] (by decide +kernel) (fun q => by first | rfl | cases q) (Nat.le_of_ble_eq_true rfl) rfl ?_
  unfold F_X1_isNone at hf
  refine ab_aload_n 0 dX1_isNone_0 rfl rfl ?_
  refine f_getI fs_X1_61 dX1_isNone_1 hf (fun v1 hf => ?_)
  refine ab_if_ne 11 dX1_isNone_4 (by decide) hf (fun hf => ?_) (fun hf => ?_)
  · refine ab_iconst dX1_isNone_7 kic_1 ?_
    refine ab_goto 12 dX1_isNone_8 (by decide) ?_
    exact f_retzc rfl dX1_isNone_12 rfl (Nat.le_refl 0) (Nat.le_refl 0) hf
  refine ab_iconst dX1_isNone_11 kic_0 ?_
  exact f_retzc rfl dX1_isNone_12 rfl (Nat.le_refl 0) (Nat.le_refl 0) hf
def F_X1_hasTile (a0 : Nat) (a1 : Int32) (h : abH) : Option Int32 :=
  (ko 1 h a0).bind fun _ => (F_X1_isNone a0 h).bind fun v1 =>
  if v1 = 0 then
    (F_X11_isTile a1).bind fun v2 =>
    if v2 = 0 then
      some 0
    else
      some 1
  else
    some 0
theorem m_X1_hasTile {z0 : Int32} (a0 : Nat) (a1 : Int32) (h : abH) (hf : F_X1_hasTile a0 a1 h = some z0) : abM yX1_hasTile cX1_hasTile 2 (some .boolean) 2 0 0 [.ref a0, .int a1] h (some (.int z0)) h := by
  refine abM_of (ini := false) [some (.ref a0), some (.int a1)] (by decide +kernel) (fun q => by first | rfl | cases q) (Nat.le_of_ble_eq_true rfl) rfl ?_
  unfold F_X1_hasTile at hf
  refine ab_aload_n 0 dX1_hasTile_0 rfl rfl ?_
  refine f_V_i (As := []) (st := []) cs_X1_97 (fun v q => m_X1_isNone a0 h q) rfl rfl dX1_hasTile_1 (rmk rfl) hf (fun v1 hf => ?_)
  refine ab_if_ne 18 dX1_hasTile_4 (by decide) hf (fun hf => ?_) (fun hf => ?_)
  · refine ab_iload_n 1 dX1_hasTile_7 rfl rfl ?_
    refine f_SN_i (As := [.int a1]) (st := []) cs_X1_101 (fun v q => m_X11_isTile a1 h q) rfl rfl dX1_hasTile_8 (rmk rfl) hf (fun v2 hf => ?_)
    refine ab_if_eq 18 dX1_hasTile_11 (by decide) hf (fun hf => ?_) (fun hf => ?_)
    · refine ab_iconst dX1_hasTile_18 kic_0 ?_
      exact f_retzc rfl dX1_hasTile_19 rfl (Nat.le_refl 0) (Nat.le_refl 0) hf
    refine ab_iconst dX1_hasTile_14 kic_1 ?_
    refine ab_goto 19 dX1_hasTile_15 (by decide) ?_
    exact f_retzc rfl dX1_hasTile_19 rfl (Nat.le_refl 0) (Nat.le_refl 0) hf
  refine ab_iconst dX1_hasTile_18 kic_0 ?_
  exact f_retzc rfl dX1_hasTile_19 rfl (Nat.le_refl 0) (Nat.le_refl 0) hf
def F_X1_standingOn_B4 (x0 : Nat) (x1 : Int32) (h : abH) : Nat → Int32 → Int32 → Option Int32
  | 0, _, _ => none
  | n + 1, x2, x3 =>
    (gI 1 h x0 0).bind fun v1 =>
    if x3 < v1 then
      (gR 1 h x0 3).bind fun v2 =>
      (ga 0 h v2 x3).bind fun v3 =>
      if v3 = x1 then
        nm (x2 ||| ((1 : Int32) <<< (x3 &&& 31))) fun v4 =>
        F_X1_standingOn_B4 x0 x1 h n v4 (x3 + 1)
      else
        F_X1_standingOn_B4 x0 x1 h n x2 (x3 + 1)
    else
      some x2
theorem w_X1_standingOn_B4 {z0 : Int32} (x0 : Nat) (x1 : Int32) (h : abH)   : ∀ (n : Nat) (x2 : Int32) (x3 : Int32), F_X1_standingOn_B4 x0 x1 h n x2 x3 = some z0 → abW cX1_standingOn 4 RX1 (some .int) false 1 0 0 none (some (.int z0), h) 4 [some (.ref x0), some (.int x1), some (.int x2), some (.int x3)] [] h 0 0 := by
  intro n
  induction n with
  | zero =>
    intro x2 x3 hf
    exact absurd (show (none : Option Int32) = some _ from hf) (by simp)
  | succ n ih =>
    intro x2 x3 hf
    rw [F_X1_standingOn_B4.eq_2] at hf
    refine ab_iload_n 3 dX1_standingOn_4 rfl rfl ?_
    refine ab_aload_n 0 dX1_standingOn_5 rfl rfl ?_
    refine f_getI fs_X1_61 dX1_standingOn_6 hf (fun v1 hf => ?_)
    refine ab_icmp_ge 34 dX1_standingOn_9 (by decide) hf (fun hf => ?_) (fun hf => ?_)
    · refine ab_aload_n 0 dX1_standingOn_12 rfl rfl ?_
      refine f_getR fs_X1_21 dX1_standingOn_13 hf (fun v2 hf => ?_)
      refine ab_iload_n 3 dX1_standingOn_16 rfl rfl ?_
      refine f_iald dX1_standingOn_17 hf (fun v3 hf => ?_)
      refine ab_iload_n 1 dX1_standingOn_18 rfl rfl ?_
      refine ab_icmp_ne 28 dX1_standingOn_19 (by decide) hf (fun hf => ?_) (fun hf => ?_)
      · refine ab_iload_n 2 dX1_standingOn_22 rfl rfl ?_
        refine ab_iconst dX1_standingOn_23 kic_1 ?_
        refine ab_iload_n 3 dX1_standingOn_24 rfl rfl ?_
        refine ab_ishl dX1_standingOn_25 ?_
        refine ab_ior dX1_standingOn_26 ?_
        refine ab_nmi hf (fun v4 hf => ?_)
        refine ab_istore_n 2 [some (.ref x0), some (.int x1), some (.int v4), some (.int x3)] dX1_standingOn_27 rfl (by decide) rfl rfl ?_
        refine ab_iinc (v := x3 + 1) [some (.ref x0), some (.int x1), some (.int v4), some (.int (x3 + 1))] dX1_standingOn_28 rfl (kinc_1 _) (by decide) rfl rfl ?_
        refine ab_goto 4 dX1_standingOn_31 (by decide) ?_
        exact ab_msk [true, true, true, true] (ih v4 (x3 + 1) hf)
      refine ab_iinc (v := x3 + 1) [some (.ref x0), some (.int x1), some (.int x2), some (.int (x3 + 1))] dX1_standingOn_28 rfl (kinc_1 _) (by decide) rfl rfl ?_
      refine ab_goto 4 dX1_standingOn_31 (by decide) ?_
      exact ab_msk [true, true, true, true] (ih x2 (x3 + 1) hf)
    refine ab_iload_n 2 dX1_standingOn_34 rfl rfl ?_
    exact f_reti dX1_standingOn_35 rfl (Nat.le_refl 0) (Nat.le_refl 0) hf
def F_X1_standingOn (a0 : Nat) (a1 : Int32) (h : abH) : Option Int32 :=
  F_X1_standingOn_B4 a0 a1 h 200 0 0
theorem m_X1_standingOn {z0 : Int32} (a0 : Nat) (a1 : Int32) (h : abH) (hf : F_X1_standingOn a0 a1 h = some z0) : abM yX1_standingOn cX1_standingOn 4 (some .int) 1 0 0 [.ref a0, .int a1] h (some (.int z0)) h := by
  refine abM_of (ini := false) [some (.ref a0), some (.int a1), none, none] (by decide +kernel) (fun q => by first | rfl | cases q) (Nat.le_of_ble_eq_true rfl) rfl ?_
  unfold F_X1_standingOn at hf
  refine ab_iconst dX1_standingOn_0 kic_0 ?_
  refine ab_istore_n 2 [some (.ref a0), some (.int a1), some (.int 0), none] dX1_standingOn_1 rfl (by decide) rfl rfl ?_
  refine ab_iconst dX1_standingOn_2 kic_0 ?_
  refine ab_istore_n 3 [some (.ref a0), some (.int a1), some (.int 0), some (.int 0)] dX1_standingOn_3 rfl (by decide) rfl rfl ?_
  exact ab_msk [true, true, true, true] (w_X1_standingOn_B4 a0 a1 h 200 0 0 hf)
def F_X1_covering_B4 (x0 : Nat) (x1 : Int32) (h : abH) : Nat → Int32 → Int32 → Option Int32
  | 0, _, _ => none
  | n + 1, x2, x3 =>
    (gI 1 h x0 0).bind fun v1 =>
    if x3 < v1 then
      (gI 1 h x0 5).bind fun v2 =>
      (ko 1 h x0).bind fun _ => (F_X1_shade x0 x3 v2 h).bind fun v3 =>
      if ((v3 >>> (x1 &&& 31)) &&& 1) = 0 then
        F_X1_covering_B4 x0 x1 h n x2 (x3 + 1)
      else
        nm (x2 ||| ((1 : Int32) <<< (x3 &&& 31))) fun v4 =>
        F_X1_covering_B4 x0 x1 h n v4 (x3 + 1)
    else
      some x2
theorem w_X1_covering_B4 {z0 : Int32} (x0 : Nat) (x1 : Int32) (h : abH)   : ∀ (n : Nat) (x2 : Int32) (x3 : Int32), F_X1_covering_B4 x0 x1 h n x2 x3 = some z0 → abW cX1_covering 4 RX1 (some .int) false 4 0 0 none (some (.int z0), h) 4 [some (.ref x0), some (.int x1), some (.int x2), some (.int x3)] [] h 0 0 := by
  intro n
  induction n with
  | zero =>
    intro x2 x3 hf
    exact absurd (show (none : Option Int32) = some _ from hf) (by simp)
  | succ n ih =>
    intro x2 x3 hf
    rw [F_X1_covering_B4.eq_2] at hf
    refine ab_iload_n 3 dX1_covering_4 rfl rfl ?_
    refine ab_aload_n 0 dX1_covering_5 rfl rfl ?_
    refine f_getI fs_X1_61 dX1_covering_6 hf (fun v1 hf => ?_)
    refine ab_icmp_ge 40 dX1_covering_9 (by decide) hf (fun hf => ?_) (fun hf => ?_)
    · refine ab_aload_n 0 dX1_covering_12 rfl rfl ?_
      refine ab_iload_n 3 dX1_covering_13 rfl rfl ?_
      refine ab_aload_n 0 dX1_covering_14 rfl rfl ?_
      refine f_getI fs_X1_71 dX1_covering_15 hf (fun v2 hf => ?_)
      refine f_V_i (As := [.int x3, .int v2]) (st := []) cs_X1_108 (fun v q => m_X1_shade x0 x3 v2 h q) rfl rfl dX1_covering_18 (rmk rfl) hf (fun v3 hf => ?_)
      refine ab_iload_n 1 dX1_covering_21 rfl rfl ?_
      refine ab_ishr dX1_covering_22 ?_
      refine ab_iconst dX1_covering_23 kic_1 ?_
      refine ab_iand dX1_covering_24 ?_
      refine ab_if_eq 34 dX1_covering_25 (by decide) hf (fun hf => ?_) (fun hf => ?_)
      · refine ab_iinc (v := x3 + 1) [some (.ref x0), some (.int x1), some (.int x2), some (.int (x3 + 1))] dX1_covering_34 rfl (kinc_1 _) (by decide) rfl rfl ?_
        refine ab_goto 4 dX1_covering_37 (by decide) ?_
        exact ab_msk [true, true, true, true] (ih x2 (x3 + 1) hf)
      refine ab_iload_n 2 dX1_covering_28 rfl rfl ?_
      refine ab_iconst dX1_covering_29 kic_1 ?_
      refine ab_iload_n 3 dX1_covering_30 rfl rfl ?_
      refine ab_ishl dX1_covering_31 ?_
      refine ab_ior dX1_covering_32 ?_
      refine ab_nmi hf (fun v4 hf => ?_)
      refine ab_istore_n 2 [some (.ref x0), some (.int x1), some (.int v4), some (.int x3)] dX1_covering_33 rfl (by decide) rfl rfl ?_
      refine ab_iinc (v := x3 + 1) [some (.ref x0), some (.int x1), some (.int v4), some (.int (x3 + 1))] dX1_covering_34 rfl (kinc_1 _) (by decide) rfl rfl ?_
      refine ab_goto 4 dX1_covering_37 (by decide) ?_
      exact ab_msk [true, true, true, true] (ih v4 (x3 + 1) hf)
    refine ab_iload_n 2 dX1_covering_40 rfl rfl ?_
    exact f_reti dX1_covering_41 rfl (Nat.le_refl 0) (Nat.le_refl 0) hf
def F_X1_covering (a0 : Nat) (a1 : Int32) (h : abH) : Option Int32 :=
  F_X1_covering_B4 a0 a1 h 200 0 0
theorem m_X1_covering {z0 : Int32} (a0 : Nat) (a1 : Int32) (h : abH) (hf : F_X1_covering a0 a1 h = some z0) : abM yX1_covering cX1_covering 4 (some .int) 4 0 0 [.ref a0, .int a1] h (some (.int z0)) h := by
  refine abM_of (ini := false) [some (.ref a0), some (.int a1), none, none] (by decide +kernel) (fun q => by first | rfl | cases q) (Nat.le_of_ble_eq_true rfl) rfl ?_
  unfold F_X1_covering at hf
  refine ab_iconst dX1_covering_0 kic_0 ?_
  refine ab_istore_n 2 [some (.ref a0), some (.int a1), some (.int 0), none] dX1_covering_1 rfl (by decide) rfl rfl ?_
  refine ab_iconst dX1_covering_2 kic_0 ?_
  refine ab_istore_n 3 [some (.ref a0), some (.int a1), some (.int 0), some (.int 0)] dX1_covering_3 rfl (by decide) rfl rfl ?_
  exact ab_msk [true, true, true, true] (w_X1_covering_B4 a0 a1 h 200 0 0 hf)
def F_X1_tilesCoveredBy_B4 (x0 : Nat) (x1 : Int32) (h : abH) : Nat → Int32 → Int32 → Option Int32
  | 0, _, _ => none
  | n + 1, x2, x3 =>
    if x3 < 10 then
      (ko 1 h x0).bind fun _ => (F_X1_covering x0 x3 h).bind fun v1 =>
      (F_J6_bitCount_0f7a4 v1).bind fun v2 =>
      if v2 < x1 then
        F_X1_tilesCoveredBy_B4 x0 x1 h n x2 (x3 + 1)
      else
        F_X1_tilesCoveredBy_B4 x0 x1 h n (x2 + 1) (x3 + 1)
    else
      some x2
theorem w_X1_tilesCoveredBy_B4 {z0 : Int32} (x0 : Nat) (x1 : Int32) (h : abH)   : ∀ (n : Nat) (x2 : Int32) (x3 : Int32), F_X1_tilesCoveredBy_B4 x0 x1 h n x2 x3 = some z0 → abW cX1_tilesCoveredBy 4 RX1 (some .int) false 5 0 0 none (some (.int z0), h) 4 [some (.ref x0), some (.int x1), some (.int x2), some (.int x3)] [] h 0 0 := by
  intro n
  induction n with
  | zero =>
    intro x2 x3 hf
    exact absurd (show (none : Option Int32) = some _ from hf) (by simp)
  | succ n ih =>
    intro x2 x3 hf
    rw [F_X1_tilesCoveredBy_B4.eq_2] at hf
    refine ab_iload_n 3 dX1_tilesCoveredBy_4 rfl rfl ?_
    refine ab_bipush dX1_tilesCoveredBy_5 kbp_10 ?_
    refine ab_icmp_ge 31 dX1_tilesCoveredBy_7 (by decide) hf (fun hf => ?_) (fun hf => ?_)
    · refine ab_aload_n 0 dX1_tilesCoveredBy_10 rfl rfl ?_
      refine ab_iload_n 3 dX1_tilesCoveredBy_11 rfl rfl ?_
      refine f_V_i (As := [.int x3]) (st := []) cs_X1_114 (fun v q => m_X1_covering x0 x3 h q) rfl rfl dX1_tilesCoveredBy_12 (rmk rfl) hf (fun v1 hf => ?_)
      refine f_S_i (As := [.int v1]) (st := []) cs_X1_117 (fun v q => m_J6_bitCount_0f7a4 v1 h q) rfl rfl dX1_tilesCoveredBy_15 (rmk rfl) hf (fun v2 hf => ?_)
      refine ab_iload_n 1 dX1_tilesCoveredBy_18 rfl rfl ?_
      refine ab_icmp_lt 25 dX1_tilesCoveredBy_19 (by decide) hf (fun hf => ?_) (fun hf => ?_)
      · refine ab_iinc (v := x3 + 1) [some (.ref x0), some (.int x1), some (.int x2), some (.int (x3 + 1))] dX1_tilesCoveredBy_25 rfl (kinc_1 _) (by decide) rfl rfl ?_
        refine ab_goto 4 dX1_tilesCoveredBy_28 (by decide) ?_
        exact ab_msk [true, true, true, true] (ih x2 (x3 + 1) hf)
      refine ab_iinc (v := x2 + 1) [some (.ref x0), some (.int x1), some (.int (x2 + 1)), some (.int x3)] dX1_tilesCoveredBy_22 rfl (kinc_1 _) (by decide) rfl rfl ?_
      refine ab_iinc (v := x3 + 1) [some (.ref x0), some (.int x1), some (.int (x2 + 1)), some (.int (x3 + 1))] dX1_tilesCoveredBy_25 rfl (kinc_1 _) (by decide) rfl rfl ?_
      refine ab_goto 4 dX1_tilesCoveredBy_28 (by decide) ?_
      exact ab_msk [true, true, true, true] (ih (x2 + 1) (x3 + 1) hf)
    refine ab_iload_n 2 dX1_tilesCoveredBy_31 rfl rfl ?_
    exact f_reti dX1_tilesCoveredBy_32 rfl (Nat.le_refl 0) (Nat.le_refl 0) hf
def F_X1_tilesCoveredBy (a0 : Nat) (a1 : Int32) (h : abH) : Option Int32 :=
  F_X1_tilesCoveredBy_B4 a0 a1 h 200 0 0
theorem m_X1_tilesCoveredBy {z0 : Int32} (a0 : Nat) (a1 : Int32) (h : abH) (hf : F_X1_tilesCoveredBy a0 a1 h = some z0) : abM yX1_tilesCoveredBy cX1_tilesCoveredBy 4 (some .int) 5 0 0 [.ref a0, .int a1] h (some (.int z0)) h := by
  refine abM_of (ini := false) [some (.ref a0), some (.int a1), none, none] (by decide +kernel) (fun q => by first | rfl | cases q) (Nat.le_of_ble_eq_true rfl) rfl ?_
  unfold F_X1_tilesCoveredBy at hf
  refine ab_iconst dX1_tilesCoveredBy_0 kic_0 ?_
  refine ab_istore_n 2 [some (.ref a0), some (.int a1), some (.int 0), none] dX1_tilesCoveredBy_1 rfl (by decide) rfl rfl ?_
  refine ab_iconst dX1_tilesCoveredBy_2 kic_0 ?_
  refine ab_istore_n 3 [some (.ref a0), some (.int a1), some (.int 0), some (.int 0)] dX1_tilesCoveredBy_3 rfl (by decide) rfl rfl ?_
  exact ab_msk [true, true, true, true] (w_X1_tilesCoveredBy_B4 a0 a1 h 200 0 0 hf)
def F_X1_casesAsTheyShouldBe_B4 (x0 : Nat) (h : abH) : Nat → Int32 → Int32 → Option Int32
  | 0, _, _ => none
  | n + 1, x1, x2 =>
    (gI 1 h x0 7).bind fun v1 =>
    if x2 < v1 then
      (gR 1 h x0 8).bind fun v2 =>
      (ga 0 h v2 x2).bind fun v3 =>
      (gR 1 h x0 9).bind fun v4 =>
      (ga 0 h v4 x2).bind fun v5 =>
      (gI 1 h x0 5).bind fun v6 =>
      (ko 1 h x0).bind fun _ => (F_X1_balance x0 v3 v5 v6 h).bind fun v7 =>
      if v7 ≤ 0 then
        F_X1_casesAsTheyShouldBe_B4 x0 h n x1 (x2 + 1)
      else
        F_X1_casesAsTheyShouldBe_B4 x0 h n (x1 + 1) (x2 + 1)
    else
      some x1
theorem w_X1_casesAsTheyShouldBe_B4 {z0 : Int32} (x0 : Nat) (h : abH)   : ∀ (n : Nat) (x1 : Int32) (x2 : Int32), F_X1_casesAsTheyShouldBe_B4 x0 h n x1 x2 = some z0 → abW cX1_casesAsTheyShouldBe 3 RX1 (some .int) false 5 0 0 none (some (.int z0), h) 4 [some (.ref x0), some (.int x1), some (.int x2)] [] h 0 0 := by
  intro n
  induction n with
  | zero =>
    intro x1 x2 hf
    exact absurd (show (none : Option Int32) = some _ from hf) (by simp)
  | succ n ih =>
    intro x1 x2 hf
    rw [F_X1_casesAsTheyShouldBe_B4.eq_2] at hf
    refine ab_iload_n 2 dX1_casesAsTheyShouldBe_4 rfl rfl ?_
    refine ab_aload_n 0 dX1_casesAsTheyShouldBe_5 rfl rfl ?_
    refine f_getI fs_X1_77 dX1_casesAsTheyShouldBe_6 hf (fun v1 hf => ?_)
    refine ab_icmp_ge 44 dX1_casesAsTheyShouldBe_9 (by decide) hf (fun hf => ?_) (fun hf => ?_)
    · refine ab_aload_n 0 dX1_casesAsTheyShouldBe_12 rfl rfl ?_
      refine ab_aload_n 0 dX1_casesAsTheyShouldBe_13 rfl rfl ?_
      refine f_getR fs_X1_27 dX1_casesAsTheyShouldBe_14 hf (fun v2 hf => ?_)
      refine ab_iload_n 2 dX1_casesAsTheyShouldBe_17 rfl rfl ?_
      refine f_iald dX1_casesAsTheyShouldBe_18 hf (fun v3 hf => ?_)
      refine ab_aload_n 0 dX1_casesAsTheyShouldBe_19 rfl rfl ?_
      refine f_getR fs_X1_30 dX1_casesAsTheyShouldBe_20 hf (fun v4 hf => ?_)
      refine ab_iload_n 2 dX1_casesAsTheyShouldBe_23 rfl rfl ?_
      refine f_iald dX1_casesAsTheyShouldBe_24 hf (fun v5 hf => ?_)
      refine ab_aload_n 0 dX1_casesAsTheyShouldBe_25 rfl rfl ?_
      refine f_getI fs_X1_71 dX1_casesAsTheyShouldBe_26 hf (fun v6 hf => ?_)
      refine f_V_i (As := [.int v3, .int v5, .int v6]) (st := []) cs_X1_122 (fun v q => m_X1_balance x0 v3 v5 v6 h q) rfl rfl dX1_casesAsTheyShouldBe_29 (rmk rfl) hf (fun v7 hf => ?_)
      refine ab_if_le 38 dX1_casesAsTheyShouldBe_32 (by decide) hf (fun hf => ?_) (fun hf => ?_)
      · refine ab_iinc (v := x2 + 1) [some (.ref x0), some (.int x1), some (.int (x2 + 1))] dX1_casesAsTheyShouldBe_38 rfl (kinc_1 _) (by decide) rfl rfl ?_
        refine ab_goto 4 dX1_casesAsTheyShouldBe_41 (by decide) ?_
        exact ab_msk [true, true, true] (ih x1 (x2 + 1) hf)
      refine ab_iinc (v := x1 + 1) [some (.ref x0), some (.int (x1 + 1)), some (.int x2)] dX1_casesAsTheyShouldBe_35 rfl (kinc_1 _) (by decide) rfl rfl ?_
      refine ab_iinc (v := x2 + 1) [some (.ref x0), some (.int (x1 + 1)), some (.int (x2 + 1))] dX1_casesAsTheyShouldBe_38 rfl (kinc_1 _) (by decide) rfl rfl ?_
      refine ab_goto 4 dX1_casesAsTheyShouldBe_41 (by decide) ?_
      exact ab_msk [true, true, true] (ih (x1 + 1) (x2 + 1) hf)
    refine ab_iload_n 1 dX1_casesAsTheyShouldBe_44 rfl rfl ?_
    exact f_reti dX1_casesAsTheyShouldBe_45 rfl (Nat.le_refl 0) (Nat.le_refl 0) hf
def F_X1_casesAsTheyShouldBe (a0 : Nat) (h : abH) : Option Int32 :=
  F_X1_casesAsTheyShouldBe_B4 a0 h 200 0 0
theorem m_X1_casesAsTheyShouldBe {z0 : Int32} (a0 : Nat) (h : abH) (hf : F_X1_casesAsTheyShouldBe a0 h = some z0) : abM yX1_casesAsTheyShouldBe cX1_casesAsTheyShouldBe 3 (some .int) 5 0 0 [.ref a0] h (some (.int z0)) h := by
  refine abM_of (ini := false) [some (.ref a0), none, none] (by decide +kernel) (fun q => by first | rfl | cases q) (Nat.le_of_ble_eq_true rfl) rfl ?_
  unfold F_X1_casesAsTheyShouldBe at hf
  refine ab_iconst dX1_casesAsTheyShouldBe_0 kic_0 ?_
  refine ab_istore_n 1 [some (.ref a0), some (.int 0), none] dX1_casesAsTheyShouldBe_1 rfl (by decide) rfl rfl ?_
  refine ab_iconst dX1_casesAsTheyShouldBe_2 kic_0 ?_
  refine ab_istore_n 2 [some (.ref a0), some (.int 0), some (.int 0)] dX1_casesAsTheyShouldBe_3 rfl (by decide) rfl rfl ?_
  exact ab_msk [true, true, true] (w_X1_casesAsTheyShouldBe_B4 a0 h 200 0 0 hf)
