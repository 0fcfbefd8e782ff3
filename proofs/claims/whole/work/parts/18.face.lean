def F_X11_init (a0 : Nat) (h : abH) : Option abH :=
  nm (h ++ [.inr (.inr (6, [.null, .int 0]))]) fun h1 =>
  (F_X6_init (h.length + 3) h1).bind fun h2 =>
  (sV 11 h2 a0 0 (.ref (h.length + 3))).bind fun h3 =>
  nm (h3 ++ [.inr (.inr (1, [.int 0, .null, .null, .null, .null, .int 0, .int 0, .int 0, .null, .null, .int 0, .null, .null, .null, .null]))]) fun h4 =>
  (F_X1_init (h3.length + 3) h4).bind fun h5 =>
  (sV 11 h5 a0 1 (.ref (h3.length + 3))).bind fun h6 =>
  nm (h6 ++ [.inr (.inr (1, [.int 0, .null, .null, .null, .null, .int 0, .int 0, .int 0, .null, .null, .int 0, .null, .null, .null, .null]))]) fun h7 =>
  (F_X1_init (h6.length + 3) h7).bind fun h8 =>
  (sV 11 h8 a0 2 (.ref (h6.length + 3))).bind fun h9 =>
  nm (h9 ++ [.inr (.inr (8, [.null]))]) fun h10 =>
  (F_X8_init (h9.length + 3) h10).bind fun h11 =>
  (sV 11 h11 a0 3 (.ref (h9.length + 3))).bind fun h12 =>
  nm (h12 ++ [.inr (.inr (3, [.null, .null, .null, .null, .int 0, .int 0]))]) fun h13 =>
  (F_X3_init (h12.length + 3) h13).bind fun h14 =>
  (sV 11 h14 a0 4 (.ref (h12.length + 3))).bind fun h15 =>
  nm (h15 ++ [.inr (.inr (2, [.null, .int 0, .null, .int 0]))]) fun h16 =>
  (F_X2_init (h15.length + 3) h16).bind fun h17 =>
  (sV 11 h17 a0 5 (.ref (h15.length + 3))).bind fun h18 =>
  nm (h18 ++ [.inr (.inr (9, [.long 0, .int 0, .int 0]))]) fun h19 =>
  (F_X9_init (h18.length + 3)).bind fun v20 =>
  (sV 11 h19 a0 6 (.ref (h18.length + 3))).bind fun h21 =>
  some h21
theorem m_X11_init {hz : abH} (a0 : Nat) (h : abH) (hf : F_X11_init a0 h = some hz) : abM yX11_init cX11_init 1 none 2 35 454 [.ref a0] h none hz := by
  refine abM_of (ini := true) [some (.ref a0)] (by decide +kernel) (fun q => by first | rfl | cases q) (Nat.le_of_ble_eq_true rfl) rfl ?_
  unfold F_X11_init at hf
  refine ab_aload_n 0 dX11_init_0 rfl rfl ?_
  refine ab_obj tb_27 tb_28 tb_29 dX11_init_1 (by decide) (Nat.le_of_ble_eq_true rfl) ?_
  refine ab_aload_n 0 dX11_init_4 rfl rfl ?_
  refine ab_new ns_X11_7 dX11_init_5 (by omega) (by omega) ?_
  refine ab_nmh hf (fun h1 hf => ?_)
  refine ab_dup dX11_init_8 rfl ?_
  refine f_IN_v2 (As := []) (st := [.ref (h.length + 3), .ref a0]) rfl rfl cs_X11_9 (fun hq q => m_X6_init (h.length + 3) h1 q) rfl rfl dX11_init_9 (rmk2 (by decide) (by decide) (Nat.le_of_ble_eq_true rfl) (by omega) (by omega)) hf (fun h2 hf => ?_)
  refine f_putF fp_X11_10 rfl (abFit_o _ _) dX11_init_12 hf (fun h3 hf => ?_)
  refine ab_aload_n 0 dX11_init_15 rfl rfl ?_
  refine ab_new ns_X11_16 dX11_init_16 (by omega) (by omega) ?_
  refine ab_nmh hf (fun h4 hf => ?_)
  refine ab_dup dX11_init_19 rfl ?_
  refine f_IN_v2 (As := []) (st := [.ref (h3.length + 3), .ref a0]) rfl rfl cs_X11_18 (fun hq q => m_X1_init (h3.length + 3) h4 q) rfl rfl dX11_init_20 (rmk2 (by decide) (by decide) (Nat.le_of_ble_eq_true rfl) (by omega) (by omega)) hf (fun h5 hf => ?_)
  refine f_putF fp_X11_19 rfl (abFit_o _ _) dX11_init_23 hf (fun h6 hf => ?_)
  refine ab_aload_n 0 dX11_init_26 rfl rfl ?_
  refine ab_new ns_X11_16 dX11_init_27 (by omega) (by omega) ?_
  refine ab_nmh hf (fun h7 hf => ?_)
  refine ab_dup dX11_init_30 rfl ?_
  refine f_IN_v2 (As := []) (st := [.ref (h6.length + 3), .ref a0]) rfl rfl cs_X11_18 (fun hq q => m_X1_init (h6.length + 3) h7 q) rfl rfl dX11_init_31 (rmk2 (by decide) (by decide) (Nat.le_of_ble_eq_true rfl) (by omega) (by omega)) hf (fun h8 hf => ?_)
  refine f_putF fp_X11_23 rfl (abFit_o _ _) dX11_init_34 hf (fun h9 hf => ?_)
  refine ab_aload_n 0 dX11_init_37 rfl rfl ?_
  refine ab_new ns_X11_26 dX11_init_38 (by omega) (by omega) ?_
  refine ab_nmh hf (fun h10 hf => ?_)
  refine ab_dup dX11_init_41 rfl ?_
  refine f_IN_v2 (As := []) (st := [.ref (h9.length + 3), .ref a0]) rfl rfl cs_X11_28 (fun hq q => m_X8_init (h9.length + 3) h10 q) rfl rfl dX11_init_42 (rmk2 (by decide) (by decide) (Nat.le_of_ble_eq_true rfl) (by omega) (by omega)) hf (fun h11 hf => ?_)
  refine f_putF fp_X11_29 rfl (abFit_o _ _) dX11_init_45 hf (fun h12 hf => ?_)
  refine ab_aload_n 0 dX11_init_48 rfl rfl ?_
  refine ab_new ns_X11_33 dX11_init_49 (by omega) (by omega) ?_
  refine ab_nmh hf (fun h13 hf => ?_)
  refine ab_dup dX11_init_52 rfl ?_
  refine f_IN_v2 (As := []) (st := [.ref (h12.length + 3), .ref a0]) rfl rfl cs_X11_35 (fun hq q => m_X3_init (h12.length + 3) h13 q) rfl rfl dX11_init_53 (rmk2 (by decide) (by decide) (Nat.le_of_ble_eq_true rfl) (by omega) (by omega)) hf (fun h14 hf => ?_)
  refine f_putF fp_X11_36 rfl (abFit_o _ _) dX11_init_56 hf (fun h15 hf => ?_)
  refine ab_aload_n 0 dX11_init_59 rfl rfl ?_
  refine ab_new ns_X11_40 dX11_init_60 (by omega) (by omega) ?_
  refine ab_nmh hf (fun h16 hf => ?_)
  refine ab_dup dX11_init_63 rfl ?_
  refine f_IN_v2 (As := []) (st := [.ref (h15.length + 3), .ref a0]) rfl rfl cs_X11_42 (fun hq q => m_X2_init (h15.length + 3) h16 q) rfl rfl dX11_init_64 (rmk2 (by decide) (by decide) (Nat.le_of_ble_eq_true rfl) (by omega) (by omega)) hf (fun h17 hf => ?_)
  refine f_putF fp_X11_43 rfl (abFit_o _ _) dX11_init_67 hf (fun h18 hf => ?_)
  refine ab_aload_n 0 dX11_init_70 rfl rfl ?_
  refine ab_new ns_X11_47 dX11_init_71 (by omega) (by omega) ?_
  refine ab_nmh hf (fun h19 hf => ?_)
  refine ab_dup dX11_init_74 rfl ?_
  refine f_IN_v (As := []) (st := [.ref (h18.length + 3), .ref a0]) rfl rfl cs_X11_49 (fun v q => m_X9_init (h18.length + 3) h19 q) rfl rfl dX11_init_75 (rmk2 (by decide) (by decide) (Nat.le_of_ble_eq_true rfl) (by omega) (by omega)) hf (fun v20 hf => ?_)
  refine f_putF fp_X11_50 rfl (abFit_o _ _) dX11_init_78 hf (fun h21 hf => ?_)
  exact f_retv2 dX11_init_81 rfl (by omega) (by omega) hf
def F_X11_letter (a0 : Nat) (a1 : Int32) (h : abH) : Option (Int32 × abH) :=
  (F_X11_within a1 32 126).bind fun v1 =>
  if v1 = 0 then
    some ((-102), h)
  else
    (gR 11 h a0 0).bind fun v2 =>
    (gI 6 h v2 1).bind fun v3 =>
    if v3 < 34 then
      (gR 11 h a0 0).bind fun v4 =>
      (gR 6 h v4 0).bind fun v5 =>
      (gR 11 h a0 0).bind fun v6 =>
      (gI 6 h v6 1).bind fun v7 =>
      (sa 1 h v5 v7 ((a1.toUInt32 % 65536).toInt32)).bind fun h8 =>
      (gR 11 h8 a0 0).bind fun v9 =>
      (gI 6 h8 v9 1).bind fun v10 =>
      (sV 6 h8 v9 1 (.int (v10 + 1))).bind fun h11 =>
      (gR 11 h11 a0 0).bind fun v12 =>
      (gI 6 h11 v12 1).bind fun v13 =>
      some (v13, h11)
    else
      some ((-104), h)
theorem m_X11_letter {z0 : Int32} {hz : abH} (a0 : Nat) (a1 : Int32) (h : abH) (hf : F_X11_letter a0 a1 h = some (z0, hz)) : abM yX11_letter cX11_letter 2 (some .int) 2 0 0 [.ref a0, .int a1] h (some (.int z0)) hz := by
  refine abM_of (ini := false) [some (.ref a0), some (.int a1)] (by decide +kernel) (fun q => by first | rfl | cases q) (Nat.le_of_ble_eq_true rfl) rfl ?_
  unfold F_X11_letter at hf
  refine ab_iload_n 1 dX11_letter_0 rfl rfl ?_
  refine ab_bipush dX11_letter_1 kbp_32 ?_
  refine ab_bipush dX11_letter_3 kbp_126 ?_
  refine f_S_i (As := [.int a1, .int 32, .int 126]) (st := []) cs_X11_54 (fun v q => m_X11_within a1 32 126 h q) rfl rfl dX11_letter_5 (rmk rfl) hf (fun v1 hf => ?_)
  refine ab_if_ne 14 dX11_letter_8 (by decide) hf (fun hf => ?_) (fun hf => ?_)
  · refine ab_bipush dX11_letter_11 kbp_m102 ?_
    exact f_reti2 dX11_letter_13 rfl (Nat.le_refl 0) (Nat.le_refl 0) hf
  refine ab_aload_n 0 dX11_letter_14 rfl rfl ?_
  refine f_getR fs_X11_10 dX11_letter_15 hf (fun v2 hf => ?_)
  refine f_getI fs_X11_58 dX11_letter_18 hf (fun v3 hf => ?_)
  refine ab_bipush dX11_letter_21 kbp_34 ?_
  refine ab_icmp_lt 29 dX11_letter_23 (by decide) hf (fun hf => ?_) (fun hf => ?_)
  · refine ab_aload_n 0 dX11_letter_29 rfl rfl ?_
    refine f_getR fs_X11_10 dX11_letter_30 hf (fun v4 hf => ?_)
    refine f_getR fs_X11_62 dX11_letter_33 hf (fun v5 hf => ?_)
    refine ab_aload_n 0 dX11_letter_36 rfl rfl ?_
    refine f_getR fs_X11_10 dX11_letter_37 hf (fun v6 hf => ?_)
    refine f_getI fs_X11_58 dX11_letter_40 hf (fun v7 hf => ?_)
    refine ab_iload_n 1 dX11_letter_43 rfl rfl ?_
    refine ab_i2c dX11_letter_44 ?_
    refine f_cast dX11_letter_45 hf (fun h8 hf => ?_)
    refine ab_aload_n 0 dX11_letter_46 rfl rfl ?_
    refine f_getR fs_X11_10 dX11_letter_47 hf (fun v9 hf => ?_)
    refine ab_dup dX11_letter_50 rfl ?_
    refine f_getI fs_X11_58 dX11_letter_51 hf (fun v10 hf => ?_)
    refine ab_iconst dX11_letter_54 kic_1 ?_
    refine ab_iadd dX11_letter_55 ?_
    refine f_put fp_X11_58 (abFit_i _) dX11_letter_56 hf (fun h11 hf => ?_)
    refine ab_aload_n 0 dX11_letter_59 rfl rfl ?_
    refine f_getR fs_X11_10 dX11_letter_60 hf (fun v12 hf => ?_)
    refine f_getI fs_X11_58 dX11_letter_63 hf (fun v13 hf => ?_)
    exact f_reti2 dX11_letter_66 rfl (Nat.le_refl 0) (Nat.le_refl 0) hf
  refine ab_bipush dX11_letter_26 kbp_m104 ?_
  exact f_reti2 dX11_letter_28 rfl (Nat.le_refl 0) (Nat.le_refl 0) hf
def F_X11_blank (a0 : Nat) (h : abH) : Option (Int32 × abH) :=
  (gR 11 h a0 0).bind fun v1 =>
  (gI 6 h v1 1).bind fun v2 =>
  (gR 11 h a0 0).bind fun v3 =>
  (sV 6 h v3 1 (.int 0)).bind fun h4 =>
  some (v2, h4)
theorem m_X11_blank {z0 : Int32} {hz : abH} (a0 : Nat) (h : abH) (hf : F_X11_blank a0 h = some (z0, hz)) : abM yX11_blank cX11_blank 2 (some .int) 1 0 0 [.ref a0] h (some (.int z0)) hz := by
  refine abM_of (ini := false) [some (.ref a0), none] (by decide +kernel) (fun q => by first | rfl | cases q) (Nat.le_of_ble_eq_true rfl) rfl ?_
  unfold F_X11_blank at hf
  refine ab_aload_n 0 dX11_blank_0 rfl rfl ?_
  refine f_getR fs_X11_10 dX11_blank_1 hf (fun v1 hf => ?_)
  refine f_getI fs_X11_58 dX11_blank_4 hf (fun v2 hf => ?_)
  refine ab_istore_n 1 [some (.ref a0), some (.int v2)] dX11_blank_7 rfl (by decide) rfl rfl ?_
  refine ab_aload_n 0 dX11_blank_8 rfl rfl ?_
  refine f_getR fs_X11_10 dX11_blank_9 hf (fun v3 hf => ?_)
  refine ab_iconst dX11_blank_12 kic_0 ?_
  refine f_put fp_X11_58 (abFit_i _) dX11_blank_13 hf (fun h4 hf => ?_)
  refine ab_iload_n 1 dX11_blank_16 rfl rfl ?_
  exact f_reti2 dX11_blank_17 rfl (Nat.le_refl 0) (Nat.le_refl 0) hf
def F_X11_fault (a0 : Nat) (h : abH) : Option Int32 :=
  (gR 11 h a0 0).bind fun v1 =>
  (ko 6 h v1).bind fun _ => (F_X6_firstWrong v1 h).bind fun v2 =>
  some v2
theorem m_X11_fault {z0 : Int32} (a0 : Nat) (h : abH) (hf : F_X11_fault a0 h = some z0) : abM yX11_fault cX11_fault 1 (some .int) 7 0 0 [.ref a0] h (some (.int z0)) h := by
  refine abM_of (ini := false) [some (.ref a0)] (by decide +kernel) (fun q => by first | rfl | cases q) (Nat.le_of_ble_eq_true rfl) rfl ?_
  unfold F_X11_fault at hf
  refine ab_aload_n 0 dX11_fault_0 rfl rfl ?_
  refine f_getR fs_X11_10 dX11_fault_1 hf (fun v1 hf => ?_)
  refine f_V_i (As := []) (st := []) cs_X11_66 (fun v q => m_X6_firstWrong v1 h q) rfl rfl dX11_fault_4 (rmk rfl) hf (fun v2 hf => ?_)
  exact f_reti dX11_fault_7 rfl (Nat.le_refl 0) (Nat.le_refl 0) hf
def F_X11_court (a0 : Nat) (h : abH) : Option (Int32 × abH) :=
  (gR 11 h a0 0).bind fun v1 =>
  (ko 6 h v1).bind fun _ => (F_X6_isCourt v1 h).bind fun v2 =>
  if v2 = 0 then
    some ((-103), h)
  else
    (gR 11 h a0 1).bind fun v3 =>
    (gR 11 h a0 0).bind fun v4 =>
    (ko 1 h v3).bind fun _ => (F_X1_read v3 v4 h).bind fun h5 =>
    (gR 11 h5 a0 0).bind fun v6 =>
    (sV 6 h5 v6 1 (.int 0)).bind fun h7 =>
    (sV 11 h7 a0 7 (.int 0)).bind fun h8 =>
    (gI 11 h8 a0 8).bind fun v9 =>
    (sV 11 h8 a0 8 (.int (v9 + 1))).bind fun h10 =>
    (gR 11 h10 a0 1).bind fun v11 =>
    (gI 1 h10 v11 0).bind fun v12 =>
    some (v12, h10)
theorem m_X11_court {z0 : Int32} {hz : abH} (a0 : Nat) (h : abH) (hf : F_X11_court a0 h = some (z0, hz)) : abM yX11_court cX11_court 1 (some .int) 8 6 12 [.ref a0] h (some (.int z0)) hz := by
  refine abM_of (ini := false) [some (.ref a0)] (by decide +kernel) (fun q => by first | rfl | cases q) (Nat.le_of_ble_eq_true rfl) rfl ?_
  unfold F_X11_court at hf
  refine ab_aload_n 0 dX11_court_0 rfl rfl ?_
  refine f_getR fs_X11_10 dX11_court_1 hf (fun v1 hf => ?_)
  refine f_V_i (As := []) (st := []) cs_X11_70 (fun v q => m_X6_isCourt v1 h q) rfl rfl dX11_court_4 (rmk2 (by decide) (by decide) (Nat.le_of_ble_eq_true rfl) (by omega) (by omega)) hf (fun v2 hf => ?_)
  refine ab_if_ne 13 dX11_court_7 (by decide) hf (fun hf => ?_) (fun hf => ?_)
  · refine ab_bipush dX11_court_10 kbp_m103 ?_
    exact f_reti2 dX11_court_12 rfl (by omega) (by omega) hf
  refine ab_aload_n 0 dX11_court_13 rfl rfl ?_
  refine f_getR fs_X11_19 dX11_court_14 hf (fun v3 hf => ?_)
  refine ab_aload_n 0 dX11_court_17 rfl rfl ?_
  refine f_getR fs_X11_10 dX11_court_18 hf (fun v4 hf => ?_)
  refine f_V_v2 (As := [.ref v4]) (st := []) cs_X11_74 (fun hq q => m_X1_read v3 v4 h q) rfl rfl dX11_court_21 (rmk2 (by decide) (by decide) (Nat.le_of_ble_eq_true rfl) (by omega) (by omega)) hf (fun h5 hf => ?_)
  refine ab_aload_n 0 dX11_court_24 rfl rfl ?_
  refine f_getR fs_X11_10 dX11_court_25 hf (fun v6 hf => ?_)
  refine ab_iconst dX11_court_28 kic_0 ?_
  refine f_put fp_X11_58 (abFit_i _) dX11_court_29 hf (fun h7 hf => ?_)
  refine ab_aload_n 0 dX11_court_32 rfl rfl ?_
  refine ab_iconst dX11_court_33 kic_0 ?_
  refine f_put fp_X11_78 (abFit_z (by decide)) dX11_court_34 hf (fun h8 hf => ?_)
  refine ab_aload_n 0 dX11_court_37 rfl rfl ?_
  refine ab_dup dX11_court_38 rfl ?_
  refine f_getI fs_X11_82 dX11_court_39 hf (fun v9 hf => ?_)
  refine ab_iconst dX11_court_42 kic_1 ?_
  refine ab_iadd dX11_court_43 ?_
  refine f_put fp_X11_82 (abFit_i _) dX11_court_44 hf (fun h10 hf => ?_)
  refine ab_aload_n 0 dX11_court_47 rfl rfl ?_
  refine f_getR fs_X11_19 dX11_court_48 hf (fun v11 hf => ?_)
  refine f_getI fs_X11_85 dX11_court_51 hf (fun v12 hf => ?_)
  exact f_reti2 dX11_court_54 rfl (by omega) (by omega) hf
def F_X11_party (a0 : Nat) (a1 : Int32) (a2 : Int32) (h : abH) : Option (Int32 × abH) :=
  (gR 11 h a0 1).bind fun v1 =>
  (ko 1 h v1).bind fun _ => (F_X1_has v1 a1 h).bind fun v2 =>
  if v2 = 0 then
    some ((-101), h)
  else
    if a2 = 0 then
      (gR 11 h a0 1).bind fun v3 =>
      (gR 1 h v3 1).bind fun v4 =>
      (gq h v4 a1).bind fun v5 =>
      v5.bind fun v6 =>
      (gK h v6 0).bind fun v7 =>
      some (v7, h)
    else
    if a2 = 1 then
      (gR 11 h a0 1).bind fun v8 =>
      (gR 1 h v8 2).bind fun v9 =>
      (ga 0 h v9 a1).bind fun v10 =>
      some (v10, h)
    else
    if a2 = 2 then
      (gR 11 h a0 1).bind fun v11 =>
      (gR 1 h v11 3).bind fun v12 =>
      (ga 0 h v12 a1).bind fun v13 =>
      some (v13, h)
    else
    if a2 = 3 then
      (gR 11 h a0 1).bind fun v14 =>
      (gR 11 h a0 1).bind fun v15 =>
      (gI 1 h v15 5).bind fun v16 =>
      (ko 1 h v14).bind fun _ => (F_X1_shade v14 a1 v16 h).bind fun v17 =>
      some (v17, h)
    else
    if a2 = 4 then
      (gR 11 h a0 1).bind fun v18 =>
      (gR 11 h a0 1).bind fun v19 =>
      (gR 11 h a0 1).bind fun v20 =>
      (gI 1 h v20 5).bind fun v21 =>
      (ko 1 h v19).bind fun _ => (F_X1_shade v19 a1 v21 h).bind fun v22 =>
      (ko 1 h v18).bind fun _ => (F_X1_worthOf v18 v22 h).bind fun v23 =>
      some (v23, h)
    else
    if a2 = 5 then
      (gR 11 h a0 3).bind fun v24 =>
      (gR 11 h a0 1).bind fun v25 =>
      (ko 8 h v24).bind fun _ => (F_X8_heights v24 v25 a1 h).bind fun v26 =>
      some (v26, h)
    else
    if a2 = 6 then
      (gR 11 h a0 3).bind fun v27 =>
      (gR 11 h a0 1).bind fun v28 =>
      (ko 8 h v27).bind fun _ => bd2 (F_X8_look v27 v28 a1 h) fun v30 h29 =>
      some (v30, h29)
    else
      some ((-102), h)
theorem m_X11_party {z0 : Int32} {hz : abH} (a0 : Nat) (a1 : Int32) (a2 : Int32) (h : abH) (hf : F_X11_party a0 a1 a2 h = some (z0, hz)) : abM yX11_party cX11_party 3 (some .int) 7 0 0 [.ref a0, .int a1, .int a2] h (some (.int z0)) hz := by
  refine abM_of (ini := false) [some (.ref a0), some (.int a1), some (.int a2)] (by decide +kernel) (fun q => by first | rfl | cases q) (Nat.le_of_ble_eq_true rfl) rfl ?_
  unfold F_X11_party at hf
  refine ab_aload_n 0 dX11_party_0 rfl rfl ?_
  refine f_getR fs_X11_19 dX11_party_1 hf (fun v1 hf => ?_)
  refine ab_iload_n 1 dX11_party_4 rfl rfl ?_
  refine f_V_i (As := [.int a1]) (st := []) cs_X11_88 (fun v q => m_X1_has v1 a1 h q) rfl rfl dX11_party_5 (rmk rfl) hf (fun v2 hf => ?_)
  refine ab_if_ne 14 dX11_party_8 (by decide) hf (fun hf => ?_) (fun hf => ?_)
  · refine ab_bipush dX11_party_11 kbp_m101 ?_
    exact f_reti2 dX11_party_13 rfl (Nat.le_refl 0) (Nat.le_refl 0) hf
  refine ab_iload_n 2 dX11_party_14 rfl rfl ?_
  refine f_tab 0 41 56 dX11_party_15 (by decide +kernel) (by decide) hf (fun hf => ?_) (fun q0 hf => ?_)
  · refine ab_aload_n 0 dX11_party_56 rfl rfl ?_
    refine f_getR fs_X11_19 dX11_party_57 hf (fun v3 hf => ?_)
    refine f_getR fs_X11_92 dX11_party_60 hf (fun v4 hf => ?_)
    refine ab_iload_n 1 dX11_party_63 rfl rfl ?_
    refine f_aald dX11_party_64 hf (fun v5 hf => ?_)
    refine f_nn hf (fun v6 hf => ?_)
    refine f_getK ft_X11_96 dX11_party_65 hf (fun v7 hf => ?_)
    exact f_reti2 dX11_party_68 rfl (Nat.le_refl 0) (Nat.le_refl 0) hf
  refine f_tab 1 54 69 dX11_party_15 (by decide +kernel) (by decide) hf (fun hf => ?_) (fun q1 hf => ?_)
  · refine ab_aload_n 0 dX11_party_69 rfl rfl ?_
    refine f_getR fs_X11_19 dX11_party_70 hf (fun v8 hf => ?_)
    refine f_getR fs_X11_101 dX11_party_73 hf (fun v9 hf => ?_)
    refine ab_iload_n 1 dX11_party_76 rfl rfl ?_
    refine f_iald dX11_party_77 hf (fun v10 hf => ?_)
    exact f_reti2 dX11_party_78 rfl (Nat.le_refl 0) (Nat.le_refl 0) hf
  refine f_tab 2 64 79 dX11_party_15 (by decide +kernel) (by decide) hf (fun hf => ?_) (fun q2 hf => ?_)
  · refine ab_aload_n 0 dX11_party_79 rfl rfl ?_
    refine f_getR fs_X11_19 dX11_party_80 hf (fun v11 hf => ?_)
    refine f_getR fs_X11_105 dX11_party_83 hf (fun v12 hf => ?_)
    refine ab_iload_n 1 dX11_party_86 rfl rfl ?_
    refine f_iald dX11_party_87 hf (fun v13 hf => ?_)
    exact f_reti2 dX11_party_88 rfl (Nat.le_refl 0) (Nat.le_refl 0) hf
  refine f_tab 3 74 89 dX11_party_15 (by decide +kernel) (by decide) hf (fun hf => ?_) (fun q3 hf => ?_)
  · refine ab_aload_n 0 dX11_party_89 rfl rfl ?_
    refine f_getR fs_X11_19 dX11_party_90 hf (fun v14 hf => ?_)
    refine ab_iload_n 1 dX11_party_93 rfl rfl ?_
    refine ab_aload_n 0 dX11_party_94 rfl rfl ?_
    refine f_getR fs_X11_19 dX11_party_95 hf (fun v15 hf => ?_)
    refine f_getI fs_X11_108 dX11_party_98 hf (fun v16 hf => ?_)
    refine f_V_i (As := [.int a1, .int v16]) (st := []) cs_X11_111 (fun v q => m_X1_shade v14 a1 v16 h q) rfl rfl dX11_party_101 (rmk rfl) hf (fun v17 hf => ?_)
    exact f_reti2 dX11_party_104 rfl (Nat.le_refl 0) (Nat.le_refl 0) hf
  refine f_tab 4 90 105 dX11_party_15 (by decide +kernel) (by decide) hf (fun hf => ?_) (fun q4 hf => ?_)
  · refine ab_aload_n 0 dX11_party_105 rfl rfl ?_
    refine f_getR fs_X11_19 dX11_party_106 hf (fun v18 hf => ?_)
    refine ab_aload_n 0 dX11_party_109 rfl rfl ?_
    refine f_getR fs_X11_19 dX11_party_110 hf (fun v19 hf => ?_)
    refine ab_iload_n 1 dX11_party_113 rfl rfl ?_
    refine ab_aload_n 0 dX11_party_114 rfl rfl ?_
    refine f_getR fs_X11_19 dX11_party_115 hf (fun v20 hf => ?_)
    refine f_getI fs_X11_108 dX11_party_118 hf (fun v21 hf => ?_)
    refine f_V_i (As := [.int a1, .int v21]) (st := [.ref v18]) cs_X11_111 (fun v q => m_X1_shade v19 a1 v21 h q) rfl rfl dX11_party_121 (rmk rfl) hf (fun v22 hf => ?_)
    refine f_V_i (As := [.int v22]) (st := []) cs_X11_115 (fun v q => m_X1_worthOf v18 v22 h q) rfl rfl dX11_party_124 (rmk rfl) hf (fun v23 hf => ?_)
    exact f_reti2 dX11_party_127 rfl (Nat.le_refl 0) (Nat.le_refl 0) hf
  refine f_tab 5 113 128 dX11_party_15 (by decide +kernel) (by decide) hf (fun hf => ?_) (fun q5 hf => ?_)
  · refine ab_aload_n 0 dX11_party_128 rfl rfl ?_
    refine f_getR fs_X11_29 dX11_party_129 hf (fun v24 hf => ?_)
    refine ab_aload_n 0 dX11_party_132 rfl rfl ?_
    refine f_getR fs_X11_19 dX11_party_133 hf (fun v25 hf => ?_)
    refine ab_iload_n 1 dX11_party_136 rfl rfl ?_
    refine f_V_i (As := [.ref v25, .int a1]) (st := []) cs_X11_119 (fun v q => m_X8_heights v24 v25 a1 h q) rfl rfl dX11_party_137 (rmk rfl) hf (fun v26 hf => ?_)
    exact f_reti2 dX11_party_140 rfl (Nat.le_refl 0) (Nat.le_refl 0) hf
  refine f_tab 6 126 141 dX11_party_15 (by decide +kernel) (by decide) hf (fun hf => ?_) (fun q6 hf => ?_)
  · refine ab_aload_n 0 dX11_party_141 rfl rfl ?_
    refine f_getR fs_X11_29 dX11_party_142 hf (fun v27 hf => ?_)
    refine ab_aload_n 0 dX11_party_145 rfl rfl ?_
    refine f_getR fs_X11_19 dX11_party_146 hf (fun v28 hf => ?_)
    refine ab_iload_n 1 dX11_party_149 rfl rfl ?_
    refine f_V_i2 (As := [.ref v28, .int a1]) (st := []) cs_X11_123 (fun v hq q => m_X8_look v27 v28 a1 h q) rfl rfl dX11_party_150 (rmk rfl) hf (fun v30 h29 hf => ?_)
    exact f_reti2 dX11_party_153 rfl (Nat.le_refl 0) (Nat.le_refl 0) hf
  refine ab_tableOut 154 dX11_party_15 (tout_6 q0 q1 q2 q3 q4 q5 q6) (by decide) ?_
  refine ab_bipush dX11_party_154 kbp_m102 ?_
  exact f_reti2 dX11_party_156 rfl (Nat.le_refl 0) (Nat.le_refl 0) hf
def F_X11_as (a0 : Nat) (a1 : Int32) (a2 : Int32) (h : abH) : Option Int32 :=
  (gR 11 h a0 1).bind fun v1 =>
  (ko 1 h v1).bind fun _ => (F_X1_has v1 a1 h).bind fun v2 =>
  if v2 = 0 then
    some (-101)
  else
    if a2 = 0 then
      some a1
    else
    if a2 = 1 then
      (gR 11 h a0 1).bind fun v3 =>
      (gR 1 h v3 1).bind fun v4 =>
      (gq h v4 a1).bind fun v5 =>
      v5.bind fun v6 =>
      (kc h v6).bind fun cc => (isI cc 4).bind fun v7 =>
      if v7 = 0 then
        some (-1)
      else
        some a1
    else
    if a2 = 2 then
      (gR 11 h a0 1).bind fun v8 =>
      (gR 1 h v8 1).bind fun v9 =>
      (gq h v9 a1).bind fun v10 =>
      v10.bind fun v11 =>
      (kc h v11).bind fun cc => (isI cc 10).bind fun v12 =>
      if v12 = 0 then
        some (-1)
      else
        some a1
    else
    if a2 = 3 then
      (gR 11 h a0 1).bind fun v13 =>
      (gR 1 h v13 1).bind fun v14 =>
      (gq h v14 a1).bind fun v15 =>
      v15.bind fun v16 =>
      (kc h v16).bind fun cc => (isI cc 0).bind fun v17 =>
      if v17 = 0 then
        some (-1)
      else
        some a1
    else
    if a2 = 4 then
      (gR 11 h a0 1).bind fun v18 =>
      (gR 1 h v18 1).bind fun v19 =>
      (gq h v19 a1).bind fun v20 =>
      v20.bind fun v21 =>
      (kc h v21).bind fun cc => (isI cc 7).bind fun v22 =>
      if v22 = 0 then
        some (-1)
      else
        some a1
    else
      some (-102)
theorem m_X11_as {z0 : Int32} (a0 : Nat) (a1 : Int32) (a2 : Int32) (h : abH) (hf : F_X11_as a0 a1 a2 h = some z0) : abM yX11_as cX11_as 3 (some .int) 2 0 0 [.ref a0, .int a1, .int a2] h (some (.int z0)) h := by
  refine abM_of (ini := false) [some (.ref a0), some (.int a1), some (.int a2)] (by decide +kernel) (fun q => by first | rfl | cases q) (Nat.le_of_ble_eq_true rfl) rfl ?_
  unfold F_X11_as at hf
  refine ab_aload_n 0 dX11_as_0 rfl rfl ?_
  refine f_getR fs_X11_19 dX11_as_1 hf (fun v1 hf => ?_)
  refine ab_iload_n 1 dX11_as_4 rfl rfl ?_
  refine f_V_i (As := [.int a1]) (st := []) cs_X11_88 (fun v q => m_X1_has v1 a1 h q) rfl rfl dX11_as_5 (rmk rfl) hf (fun v2 hf => ?_)
  refine ab_if_ne 14 dX11_as_8 (by decide) hf (fun hf => ?_) (fun hf => ?_)
  · refine ab_bipush dX11_as_11 kbp_m101 ?_
    exact f_reti dX11_as_13 rfl (Nat.le_refl 0) (Nat.le_refl 0) hf
  refine ab_iload_n 2 dX11_as_14 rfl rfl ?_
  refine f_tab 0 33 48 dX11_as_15 (by decide +kernel) (by decide) hf (fun hf => ?_) (fun q0 hf => ?_)
  · refine ab_iload_n 1 dX11_as_48 rfl rfl ?_
    exact f_reti dX11_as_49 rfl (Nat.le_refl 0) (Nat.le_refl 0) hf
  refine f_tab 1 35 50 dX11_as_15 (by decide +kernel) (by decide) hf (fun hf => ?_) (fun q1 hf => ?_)
  · refine ab_aload_n 0 dX11_as_50 rfl rfl ?_
    refine f_getR fs_X11_19 dX11_as_51 hf (fun v3 hf => ?_)
    refine f_getR fs_X11_92 dX11_as_54 hf (fun v4 hf => ?_)
    refine ab_iload_n 1 dX11_as_57 rfl rfl ?_
    refine f_aald dX11_as_58 hf (fun v5 hf => ?_)
    refine f_nn hf (fun v6 hf => ?_)
    refine f_inst 4 (Or.inl ⟨rfl, rfl⟩) tb_515 dX11_as_59 hf (fun v7 hf => ?_)
    refine ab_if_eq 69 dX11_as_62 (by decide) hf (fun hf => ?_) (fun hf => ?_)
    · refine ab_iconst dX11_as_69 kic_m1 ?_
      exact f_reti dX11_as_70 rfl (Nat.le_refl 0) (Nat.le_refl 0) hf
    refine ab_iload_n 1 dX11_as_65 rfl rfl ?_
    refine ab_goto 70 dX11_as_66 (by decide) ?_
    exact f_reti dX11_as_70 rfl (Nat.le_refl 0) (Nat.le_refl 0) hf
  refine f_tab 2 56 71 dX11_as_15 (by decide +kernel) (by decide) hf (fun hf => ?_) (fun q2 hf => ?_)
  · refine ab_aload_n 0 dX11_as_71 rfl rfl ?_
    refine f_getR fs_X11_19 dX11_as_72 hf (fun v8 hf => ?_)
    refine f_getR fs_X11_92 dX11_as_75 hf (fun v9 hf => ?_)
    refine ab_iload_n 1 dX11_as_78 rfl rfl ?_
    refine f_aald dX11_as_79 hf (fun v10 hf => ?_)
    refine f_nn hf (fun v11 hf => ?_)
    refine f_inst 10 (Or.inr (Or.inl ⟨rfl, rfl⟩)) tb_516 dX11_as_80 hf (fun v12 hf => ?_)
    refine ab_if_eq 90 dX11_as_83 (by decide) hf (fun hf => ?_) (fun hf => ?_)
    · refine ab_iconst dX11_as_90 kic_m1 ?_
      exact f_reti dX11_as_91 rfl (Nat.le_refl 0) (Nat.le_refl 0) hf
    refine ab_iload_n 1 dX11_as_86 rfl rfl ?_
    refine ab_goto 91 dX11_as_87 (by decide) ?_
    exact f_reti dX11_as_91 rfl (Nat.le_refl 0) (Nat.le_refl 0) hf
  refine f_tab 3 77 92 dX11_as_15 (by decide +kernel) (by decide) hf (fun hf => ?_) (fun q3 hf => ?_)
  · refine ab_aload_n 0 dX11_as_92 rfl rfl ?_
    refine f_getR fs_X11_19 dX11_as_93 hf (fun v13 hf => ?_)
    refine f_getR fs_X11_92 dX11_as_96 hf (fun v14 hf => ?_)
    refine ab_iload_n 1 dX11_as_99 rfl rfl ?_
    refine f_aald dX11_as_100 hf (fun v15 hf => ?_)
    refine f_nn hf (fun v16 hf => ?_)
    refine f_inst 0 (Or.inr (Or.inr (Or.inl ⟨rfl, rfl⟩))) tb_517 dX11_as_101 hf (fun v17 hf => ?_)
    refine ab_if_eq 111 dX11_as_104 (by decide) hf (fun hf => ?_) (fun hf => ?_)
    · refine ab_iconst dX11_as_111 kic_m1 ?_
      exact f_reti dX11_as_112 rfl (Nat.le_refl 0) (Nat.le_refl 0) hf
    refine ab_iload_n 1 dX11_as_107 rfl rfl ?_
    refine ab_goto 112 dX11_as_108 (by decide) ?_
    exact f_reti dX11_as_112 rfl (Nat.le_refl 0) (Nat.le_refl 0) hf
  refine f_tab 4 98 113 dX11_as_15 (by decide +kernel) (by decide) hf (fun hf => ?_) (fun q4 hf => ?_)
  · refine ab_aload_n 0 dX11_as_113 rfl rfl ?_
    refine f_getR fs_X11_19 dX11_as_114 hf (fun v18 hf => ?_)
    refine f_getR fs_X11_92 dX11_as_117 hf (fun v19 hf => ?_)
    refine ab_iload_n 1 dX11_as_120 rfl rfl ?_
    refine f_aald dX11_as_121 hf (fun v20 hf => ?_)
    refine f_nn hf (fun v21 hf => ?_)
    refine f_inst 7 (Or.inr (Or.inr (Or.inr ⟨rfl, rfl⟩))) tb_518 dX11_as_122 hf (fun v22 hf => ?_)
    refine ab_if_eq 132 dX11_as_125 (by decide) hf (fun hf => ?_) (fun hf => ?_)
    · refine ab_iconst dX11_as_132 kic_m1 ?_
      exact f_reti dX11_as_133 rfl (Nat.le_refl 0) (Nat.le_refl 0) hf
    refine ab_iload_n 1 dX11_as_128 rfl rfl ?_
    refine ab_goto 133 dX11_as_129 (by decide) ?_
    exact f_reti dX11_as_133 rfl (Nat.le_refl 0) (Nat.le_refl 0) hf
  refine ab_tableOut 134 dX11_as_15 (tout_4 q0 q1 q2 q3 q4) (by decide) ?_
  refine ab_bipush dX11_as_134 kbp_m102 ?_
  exact f_reti dX11_as_136 rfl (Nat.le_refl 0) (Nat.le_refl 0) hf
def F_X11_covers (a0 : Nat) (a1 : Int32) (a2 : Int32) (h : abH) : Option Int32 :=
  (gR 11 h a0 1).bind fun v1 =>
  (ko 1 h v1).bind fun _ => (F_X1_has v1 a1 h).bind fun v2 =>
  if v2 = 0 then
    some (-101)
  else
    (F_X11_isHour a2).bind fun v3 =>
    if v3 = 0 then
      some (-102)
    else
      (gR 11 h a0 1).bind fun v4 =>
      (ko 1 h v4).bind fun _ => (F_X1_shade v4 a1 a2 h).bind fun v5 =>
      some v5
theorem m_X11_covers {z0 : Int32} (a0 : Nat) (a1 : Int32) (a2 : Int32) (h : abH) (hf : F_X11_covers a0 a1 a2 h = some z0) : abM yX11_covers cX11_covers 3 (some .int) 4 0 0 [.ref a0, .int a1, .int a2] h (some (.int z0)) h := by
  refine abM_of (ini := false) [some (.ref a0), some (.int a1), some (.int a2)] (by decide +kernel) (fun q => by first | rfl | cases q) (Nat.le_of_ble_eq_true rfl) rfl ?_
  unfold F_X11_covers at hf
  refine ab_aload_n 0 dX11_covers_0 rfl rfl ?_
  refine f_getR fs_X11_19 dX11_covers_1 hf (fun v1 hf => ?_)
  refine ab_iload_n 1 dX11_covers_4 rfl rfl ?_
  refine f_V_i (As := [.int a1]) (st := []) cs_X11_88 (fun v q => m_X1_has v1 a1 h q) rfl rfl dX11_covers_5 (rmk rfl) hf (fun v2 hf => ?_)
  refine ab_if_ne 14 dX11_covers_8 (by decide) hf (fun hf => ?_) (fun hf => ?_)
  · refine ab_bipush dX11_covers_11 kbp_m101 ?_
    exact f_reti dX11_covers_13 rfl (Nat.le_refl 0) (Nat.le_refl 0) hf
  refine ab_iload_n 2 dX11_covers_14 rfl rfl ?_
  refine f_S_i (As := [.int a2]) (st := []) cs_X11_134 (fun v q => m_X11_isHour a2 h q) rfl rfl dX11_covers_15 (rmk rfl) hf (fun v3 hf => ?_)
  refine ab_if_ne 24 dX11_covers_18 (by decide) hf (fun hf => ?_) (fun hf => ?_)
  · refine ab_bipush dX11_covers_21 kbp_m102 ?_
    exact f_reti dX11_covers_23 rfl (Nat.le_refl 0) (Nat.le_refl 0) hf
  refine ab_aload_n 0 dX11_covers_24 rfl rfl ?_
  refine f_getR fs_X11_19 dX11_covers_25 hf (fun v4 hf => ?_)
  refine ab_iload_n 1 dX11_covers_28 rfl rfl ?_
  refine ab_iload_n 2 dX11_covers_29 rfl rfl ?_
  refine f_V_i (As := [.int a1, .int a2]) (st := []) cs_X11_111 (fun v q => m_X1_shade v4 a1 a2 h q) rfl rfl dX11_covers_30 (rmk rfl) hf (fun v5 hf => ?_)
  exact f_reti dX11_covers_33 rfl (Nat.le_refl 0) (Nat.le_refl 0) hf
def F_X11_tile (a0 : Nat) (a1 : Int32) (a2 : Int32) (h : abH) : Option Int32 :=
  (gR 11 h a0 1).bind fun v1 =>
  (ko 1 h v1).bind fun _ => (F_X1_hasTile v1 a1 h).bind fun v2 =>
  if v2 = 0 then
    some (-101)
  else
    if a2 = 0 then
      (gR 11 h a0 1).bind fun v3 =>
      (gR 1 h v3 4).bind fun v4 =>
      (ga 0 h v4 a1).bind fun v5 =>
      some v5
    else
    if a2 = 1 then
      (gR 11 h a0 1).bind fun v6 =>
      (ko 1 h v6).bind fun _ => (F_X1_standingOn v6 a1 h).bind fun v7 =>
      some v7
    else
    if a2 = 2 then
      (gR 11 h a0 1).bind fun v8 =>
      (ko 1 h v8).bind fun _ => (F_X1_covering v8 a1 h).bind fun v9 =>
      some v9
    else
      some (-102)
theorem m_X11_tile {z0 : Int32} (a0 : Nat) (a1 : Int32) (a2 : Int32) (h : abH) (hf : F_X11_tile a0 a1 a2 h = some z0) : abM yX11_tile cX11_tile 3 (some .int) 5 0 0 [.ref a0, .int a1, .int a2] h (some (.int z0)) h := by
  refine abM_of (ini := false) [some (.ref a0), some (.int a1), some (.int a2)] (by decide +kernel) (fun q => by first | rfl | cases q) (Nat.le_of_ble_eq_true rfl) rfl ?_
  unfold F_X11_tile at hf
  refine ab_aload_n 0 dX11_tile_0 rfl rfl ?_
  refine f_getR fs_X11_19 dX11_tile_1 hf (fun v1 hf => ?_)
  refine ab_iload_n 1 dX11_tile_4 rfl rfl ?_
  refine f_V_i (As := [.int a1]) (st := []) cs_X11_137 (fun v q => m_X1_hasTile v1 a1 h q) rfl rfl dX11_tile_5 (rmk rfl) hf (fun v2 hf => ?_)
  refine ab_if_ne 14 dX11_tile_8 (by decide) hf (fun hf => ?_) (fun hf => ?_)
  · refine ab_bipush dX11_tile_11 kbp_m101 ?_
    exact f_reti dX11_tile_13 rfl (Nat.le_refl 0) (Nat.le_refl 0) hf
  refine ab_iload_n 2 dX11_tile_14 rfl rfl ?_
  refine f_tab 0 25 40 dX11_tile_15 (by decide +kernel) (by decide) hf (fun hf => ?_) (fun q0 hf => ?_)
  · refine ab_aload_n 0 dX11_tile_40 rfl rfl ?_
    refine f_getR fs_X11_19 dX11_tile_41 hf (fun v3 hf => ?_)
    refine f_getR fs_X11_140 dX11_tile_44 hf (fun v4 hf => ?_)
    refine ab_iload_n 1 dX11_tile_47 rfl rfl ?_
    refine f_iald dX11_tile_48 hf (fun v5 hf => ?_)
    exact f_reti dX11_tile_49 rfl (Nat.le_refl 0) (Nat.le_refl 0) hf
  refine f_tab 1 35 50 dX11_tile_15 (by decide +kernel) (by decide) hf (fun hf => ?_) (fun q1 hf => ?_)
  · refine ab_aload_n 0 dX11_tile_50 rfl rfl ?_
    refine f_getR fs_X11_19 dX11_tile_51 hf (fun v6 hf => ?_)
    refine ab_iload_n 1 dX11_tile_54 rfl rfl ?_
    refine f_V_i (As := [.int a1]) (st := []) cs_X11_143 (fun v q => m_X1_standingOn v6 a1 h q) rfl rfl dX11_tile_55 (rmk rfl) hf (fun v7 hf => ?_)
    exact f_reti dX11_tile_58 rfl (Nat.le_refl 0) (Nat.le_refl 0) hf
  refine f_tab 2 44 59 dX11_tile_15 (by decide +kernel) (by decide) hf (fun hf => ?_) (fun q2 hf => ?_)
  · refine ab_aload_n 0 dX11_tile_59 rfl rfl ?_
    refine f_getR fs_X11_19 dX11_tile_60 hf (fun v8 hf => ?_)
    refine ab_iload_n 1 dX11_tile_63 rfl rfl ?_
    refine f_V_i (As := [.int a1]) (st := []) cs_X11_146 (fun v q => m_X1_covering v8 a1 h q) rfl rfl dX11_tile_64 (rmk rfl) hf (fun v9 hf => ?_)
    exact f_reti dX11_tile_67 rfl (Nat.le_refl 0) (Nat.le_refl 0) hf
  refine ab_tableOut 68 dX11_tile_15 (tout_2 q0 q1 q2) (by decide) ?_
  refine ab_bipush dX11_tile_68 kbp_m102 ?_
  exact f_reti dX11_tile_70 rfl (Nat.le_refl 0) (Nat.le_refl 0) hf
def F_X11_found (a0 : Nat) (a1 : Int32) (a2 : Int32) (a3 : Int32) (h : abH) : Option Int32 :=
  (gR 11 h a0 1).bind fun v1 =>
  (ko 1 h v1).bind fun _ => (F_X1_hasTwo v1 a1 a2 h).bind fun v2 =>
  if v2 = 0 then
    some (-101)
  else
    (F_X11_isHour a3).bind fun v3 =>
    if v3 = 0 then
      some (-102)
    else
      (gR 11 h a0 1).bind fun v4 =>
      (ko 1 h v4).bind fun _ => (F_X1_balance v4 a1 a2 a3 h).bind fun v5 =>
      some (v5 + 100)
theorem m_X11_found {z0 : Int32} (a0 : Nat) (a1 : Int32) (a2 : Int32) (a3 : Int32) (h : abH) (hf : F_X11_found a0 a1 a2 a3 h = some z0) : abM yX11_found cX11_found 4 (some .int) 5 0 0 [.ref a0, .int a1, .int a2, .int a3] h (some (.int z0)) h := by
  refine abM_of (ini := false) [some (.ref a0), some (.int a1), some (.int a2), some (.int a3)] (by decide +kernel) (fun q => by first | rfl | cases q) (Nat.le_of_ble_eq_true rfl) rfl ?_
  unfold F_X11_found at hf
  refine ab_aload_n 0 dX11_found_0 rfl rfl ?_
  refine f_getR fs_X11_19 dX11_found_1 hf (fun v1 hf => ?_)
  refine ab_iload_n 1 dX11_found_4 rfl rfl ?_
  refine ab_iload_n 2 dX11_found_5 rfl rfl ?_
  refine f_V_i (As := [.int a1, .int a2]) (st := []) cs_X11_149 (fun v q => m_X1_hasTwo v1 a1 a2 h q) rfl rfl dX11_found_6 (rmk rfl) hf (fun v2 hf => ?_)
  refine ab_if_ne 15 dX11_found_9 (by decide) hf (fun hf => ?_) (fun hf => ?_)
  · refine ab_bipush dX11_found_12 kbp_m101 ?_
    exact f_reti dX11_found_14 rfl (Nat.le_refl 0) (Nat.le_refl 0) hf
  refine ab_iload_n 3 dX11_found_15 rfl rfl ?_
  refine f_S_i (As := [.int a3]) (st := []) cs_X11_134 (fun v q => m_X11_isHour a3 h q) rfl rfl dX11_found_16 (rmk rfl) hf (fun v3 hf => ?_)
  refine ab_if_ne 25 dX11_found_19 (by decide) hf (fun hf => ?_) (fun hf => ?_)
  · refine ab_bipush dX11_found_22 kbp_m102 ?_
    exact f_reti dX11_found_24 rfl (Nat.le_refl 0) (Nat.le_refl 0) hf
  refine ab_aload_n 0 dX11_found_25 rfl rfl ?_
  refine f_getR fs_X11_19 dX11_found_26 hf (fun v4 hf => ?_)
  refine ab_iload_n 1 dX11_found_29 rfl rfl ?_
  refine ab_iload_n 2 dX11_found_30 rfl rfl ?_
  refine ab_iload_n 3 dX11_found_31 rfl rfl ?_
  refine f_V_i (As := [.int a1, .int a2, .int a3]) (st := []) cs_X11_153 (fun v q => m_X1_balance v4 a1 a2 a3 h q) rfl rfl dX11_found_32 (rmk rfl) hf (fun v5 hf => ?_)
  refine ab_bipush dX11_found_35 kbp_100 ?_
  refine ab_iadd dX11_found_37 ?_
  exact f_reti dX11_found_38 rfl (Nat.le_refl 0) (Nat.le_refl 0) hf
def F_X11_tick_B69 (x0 : Nat) (x1 : Int32) (h : abH) : Option (Int32 × abH) :=
  (gR 11 h x0 1).bind fun v5 =>
  if x1 = 0 then
    (gR 11 h x0 1).bind fun v6 =>
    (gI 1 h v6 5).bind fun v7 =>
    (sV 1 h v5 5 (.int (v7 + 1))).bind fun h8 =>
    (gR 11 h8 x0 1).bind fun v9 =>
    (gI 1 h8 v9 5).bind fun v10 =>
    some (v10, h8)
  else
    (sV 1 h v5 5 (.int 0)).bind fun h11 =>
    (gR 11 h11 x0 1).bind fun v12 =>
    (gI 1 h11 v12 5).bind fun v13 =>
    some (v13, h11)
theorem w_X11_tick_B69 {z0 : Int32} {hz : abH} (x0 : Nat) (x1 : Int32) (h : abH)   (hf : F_X11_tick_B69 x0 x1 h = some (z0, hz)) : abW cX11_tick 2 RX11 (some .int) false 2 0 0 none (some (.int z0), hz) 69 [some (.ref x0), some (.int x1)] [] h 0 0 := by
  unfold F_X11_tick_B69 at hf
  refine ab_aload_n 0 dX11_tick_69 rfl rfl ?_
  refine f_getR fs_X11_19 dX11_tick_70 hf (fun v5 hf => ?_)
  refine ab_iload_n 1 dX11_tick_73 rfl rfl ?_
  refine ab_if_eq 81 dX11_tick_74 (by decide) hf (fun hf => ?_) (fun hf => ?_)
  · refine ab_aload_n 0 dX11_tick_81 rfl rfl ?_
    refine f_getR fs_X11_19 dX11_tick_82 hf (fun v6 hf => ?_)
    refine f_getI fs_X11_108 dX11_tick_85 hf (fun v7 hf => ?_)
    refine ab_iconst dX11_tick_88 kic_1 ?_
    refine ab_iadd dX11_tick_89 ?_
    refine f_put fp_X11_108 (abFit_i _) dX11_tick_90 hf (fun h8 hf => ?_)
    refine ab_aload_n 0 dX11_tick_93 rfl rfl ?_
    refine f_getR fs_X11_19 dX11_tick_94 hf (fun v9 hf => ?_)
    refine f_getI fs_X11_108 dX11_tick_97 hf (fun v10 hf => ?_)
    exact f_reti2 dX11_tick_100 rfl (Nat.le_refl 0) (Nat.le_refl 0) hf
  refine ab_iconst dX11_tick_77 kic_0 ?_
  refine ab_goto 90 dX11_tick_78 (by decide) ?_
  refine f_put fp_X11_108 (abFit_i _) dX11_tick_90 hf (fun h11 hf => ?_)
  refine ab_aload_n 0 dX11_tick_93 rfl rfl ?_
  refine f_getR fs_X11_19 dX11_tick_94 hf (fun v12 hf => ?_)
  refine f_getI fs_X11_108 dX11_tick_97 hf (fun v13 hf => ?_)
  exact f_reti2 dX11_tick_100 rfl (Nat.le_refl 0) (Nat.le_refl 0) hf
def F_X11_tick_B52 (x0 : Nat) (x1 : Int32) (h : abH) : Option (Int32 × abH) :=
  if x1 = 0 then
    F_X11_tick_B69 x0 x1 h
  else
    (gR 11 h x0 1).bind fun v14 =>
    (gI 1 h v14 6).bind fun v15 =>
    (sV 1 h v14 6 (.int (v15 + 1))).bind fun h16 =>
    F_X11_tick_B69 x0 x1 h16
theorem w_X11_tick_B52 {z0 : Int32} {hz : abH} (x0 : Nat) (x1 : Int32) (h : abH)   (hf : F_X11_tick_B52 x0 x1 h = some (z0, hz)) : abW cX11_tick 2 RX11 (some .int) false 2 0 0 none (some (.int z0), hz) 52 [some (.ref x0), some (.int x1)] [] h 0 0 := by
  unfold F_X11_tick_B52 at hf
  refine ab_iload_n 1 dX11_tick_52 rfl rfl ?_
  refine ab_if_eq 69 dX11_tick_53 (by decide) hf (fun hf => ?_) (fun hf => ?_)
  · exact ab_msk [true, true] (w_X11_tick_B69 x0 x1 h hf)
  refine ab_aload_n 0 dX11_tick_56 rfl rfl ?_
  refine f_getR fs_X11_19 dX11_tick_57 hf (fun v14 hf => ?_)
  refine ab_dup dX11_tick_60 rfl ?_
  refine f_getI fs_X11_160 dX11_tick_61 hf (fun v15 hf => ?_)
  refine ab_iconst dX11_tick_64 kic_1 ?_
  refine ab_iadd dX11_tick_65 ?_
  refine f_put fp_X11_160 (abFit_i _) dX11_tick_66 hf (fun h16 hf => ?_)
  exact ab_msk [true, true] (w_X11_tick_B69 x0 x1 h16 hf)
def F_X11_tick_B30 (x0 : Nat) (y0 : Int32) (h : abH) : Option (Int32 × abH) :=
  if y0 = 0 then
    F_X11_tick_B52 x0 y0 h
  else
    (gR 11 h x0 1).bind fun v17 =>
    (gI 1 h v17 6).bind fun v18 =>
    if (v18 + 1) < 100 then
      F_X11_tick_B52 x0 y0 h
    else
      some ((-104), h)
theorem w_X11_tick_B30 {z0 : Int32} {hz : abH} (x0 : Nat) (y0 : Int32) (h : abH)   (hf : F_X11_tick_B30 x0 y0 h = some (z0, hz)) : abW cX11_tick 2 RX11 (some .int) false 2 0 0 none (some (.int z0), hz) 30 [some (.ref x0), none] [.int y0] h 0 0 := by
  unfold F_X11_tick_B30 at hf
  refine ab_istore_n 1 [some (.ref x0), some (.int y0)] dX11_tick_30 rfl (by decide) rfl rfl ?_
  refine ab_iload_n 1 dX11_tick_31 rfl rfl ?_
  refine ab_if_eq 52 dX11_tick_32 (by decide) hf (fun hf => ?_) (fun hf => ?_)
  · exact ab_msk [true, true] (w_X11_tick_B52 x0 y0 h hf)
  refine ab_aload_n 0 dX11_tick_35 rfl rfl ?_
  refine f_getR fs_X11_19 dX11_tick_36 hf (fun v17 hf => ?_)
  refine f_getI fs_X11_160 dX11_tick_39 hf (fun v18 hf => ?_)
  refine ab_iconst dX11_tick_42 kic_1 ?_
  refine ab_iadd dX11_tick_43 ?_
  refine ab_bipush dX11_tick_44 kbp_100 ?_
  refine ab_icmp_lt 52 dX11_tick_46 (by decide) hf (fun hf => ?_) (fun hf => ?_)
  · exact ab_msk [true, true] (w_X11_tick_B52 x0 y0 h hf)
  refine ab_bipush dX11_tick_49 kbp_m104 ?_
  exact f_reti2 dX11_tick_51 rfl (Nat.le_refl 0) (Nat.le_refl 0) hf
def F_X11_tick (a0 : Nat) (h : abH) : Option (Int32 × abH) :=
  (gR 11 h a0 1).bind fun v1 =>
  (ko 1 h v1).bind fun _ => (F_X1_isNone v1 h).bind fun v2 =>
  if v2 = 0 then
    (gR 11 h a0 1).bind fun v3 =>
    (gI 1 h v3 5).bind fun v4 =>
    if v4 = 12 then
      F_X11_tick_B30 a0 1 h
    else
      F_X11_tick_B30 a0 0 h
  else
    some ((-103), h)
theorem m_X11_tick {z0 : Int32} {hz : abH} (a0 : Nat) (h : abH) (hf : F_X11_tick a0 h = some (z0, hz)) : abM yX11_tick cX11_tick 2 (some .int) 2 0 0 [.ref a0] h (some (.int z0)) hz := by
  refine abM_of (ini := false) [some (.ref a0), none] (by decide +kernel) (fun q => by first | rfl | cases q) (Nat.le_of_ble_eq_true rfl) rfl ?_
  unfold F_X11_tick at hf
  refine ab_aload_n 0 dX11_tick_0 rfl rfl ?_
  refine f_getR fs_X11_19 dX11_tick_1 hf (fun v1 hf => ?_)
  refine f_V_i (As := []) (st := []) cs_X11_157 (fun v q => m_X1_isNone v1 h q) rfl rfl dX11_tick_4 (rmk rfl) hf (fun v2 hf => ?_)
  refine ab_if_eq 13 dX11_tick_7 (by decide) hf (fun hf => ?_) (fun hf => ?_)
  · refine ab_aload_n 0 dX11_tick_13 rfl rfl ?_
    refine f_getR fs_X11_19 dX11_tick_14 hf (fun v3 hf => ?_)
    refine f_getI fs_X11_108 dX11_tick_17 hf (fun v4 hf => ?_)
    refine ab_bipush dX11_tick_20 kbp_12 ?_
    refine ab_icmp_ne 29 dX11_tick_22 (by decide) hf (fun hf => ?_) (fun hf => ?_)
    · refine ab_iconst dX11_tick_25 kic_1 ?_
      refine ab_goto 30 dX11_tick_26 (by decide) ?_
      exact ab_msk [true, true] (w_X11_tick_B30 a0 1 h hf)
    refine ab_iconst dX11_tick_29 kic_0 ?_
    exact ab_msk [true, true] (w_X11_tick_B30 a0 0 h hf)
  refine ab_bipush dX11_tick_10 kbp_m103 ?_
  exact f_reti2 dX11_tick_12 rfl (Nat.le_refl 0) (Nat.le_refl 0) hf
def F_X11_step_B27 (x0 : Nat) (x1 : Int32) (x2 : Int32) (h : abH) : Option (Int32 × abH) :=
  (gR 11 h x0 1).bind fun v3 =>
  (gR 1 h v3 3).bind fun v4 =>
  (ga 0 h v4 x1).bind fun v5 =>
  nm (v5 + x2) fun v6 =>
  (F_X11_isTile v6).bind fun v7 =>
  if v7 = 0 then
    some ((-103), h)
  else
    (gR 11 h x0 1).bind fun v8 =>
    (gR 1 h v8 3).bind fun v9 =>
    (sa 0 h v9 x1 v6).bind fun h10 =>
    some (v6, h10)
theorem w_X11_step_B27 {z0 : Int32} {hz : abH} (x0 : Nat) (x1 : Int32) (x2 : Int32) (h : abH)   (hf : F_X11_step_B27 x0 x1 x2 h = some (z0, hz)) : abW cX11_step 4 RX11 (some .int) false 2 0 0 none (some (.int z0), hz) 27 [some (.ref x0), some (.int x1), some (.int x2), none] [] h 0 0 := by
  unfold F_X11_step_B27 at hf
  refine ab_aload_n 0 dX11_step_27 rfl rfl ?_
  refine f_getR fs_X11_19 dX11_step_28 hf (fun v3 hf => ?_)
  refine f_getR fs_X11_105 dX11_step_31 hf (fun v4 hf => ?_)
  refine ab_iload_n 1 dX11_step_34 rfl rfl ?_
  refine f_iald dX11_step_35 hf (fun v5 hf => ?_)
  refine ab_iload_n 2 dX11_step_36 rfl rfl ?_
  refine ab_iadd dX11_step_37 ?_
  refine ab_nmi hf (fun v6 hf => ?_)
  refine ab_istore_n 3 [some (.ref x0), some (.int x1), some (.int x2), some (.int v6)] dX11_step_38 rfl (by decide) rfl rfl ?_
  refine ab_iload_n 3 dX11_step_39 rfl rfl ?_
  refine f_S_i (As := [.int v6]) (st := []) cs_X11_163 (fun v q => m_X11_isTile v6 h q) rfl rfl dX11_step_40 (rmk rfl) hf (fun v7 hf => ?_)
  refine ab_if_ne 49 dX11_step_43 (by decide) hf (fun hf => ?_) (fun hf => ?_)
  · refine ab_bipush dX11_step_46 kbp_m103 ?_
    exact f_reti2 dX11_step_48 rfl (Nat.le_refl 0) (Nat.le_refl 0) hf
  refine ab_aload_n 0 dX11_step_49 rfl rfl ?_
  refine f_getR fs_X11_19 dX11_step_50 hf (fun v8 hf => ?_)
  refine f_getR fs_X11_105 dX11_step_53 hf (fun v9 hf => ?_)
  refine ab_iload_n 1 dX11_step_56 rfl rfl ?_
  refine ab_iload_n 3 dX11_step_57 rfl rfl ?_
  refine f_iast dX11_step_58 hf (fun h10 hf => ?_)
  refine ab_iload_n 3 dX11_step_59 rfl rfl ?_
  exact f_reti2 dX11_step_60 rfl (Nat.le_refl 0) (Nat.le_refl 0) hf
def F_X11_step (a0 : Nat) (a1 : Int32) (a2 : Int32) (h : abH) : Option (Int32 × abH) :=
  (gR 11 h a0 1).bind fun v1 =>
  (ko 1 h v1).bind fun _ => (F_X1_has v1 a1 h).bind fun v2 =>
  if v2 = 0 then
    some ((-101), h)
  else
    if a2 = (-1) then
      F_X11_step_B27 a0 a1 a2 h
    else
      if a2 = 1 then
        F_X11_step_B27 a0 a1 a2 h
      else
        some ((-102), h)
theorem m_X11_step {z0 : Int32} {hz : abH} (a0 : Nat) (a1 : Int32) (a2 : Int32) (h : abH) (hf : F_X11_step a0 a1 a2 h = some (z0, hz)) : abM yX11_step cX11_step 4 (some .int) 2 0 0 [.ref a0, .int a1, .int a2] h (some (.int z0)) hz := by
  refine abM_of (ini := false) [some (.ref a0), some (.int a1), some (.int a2), none] (by decide +kernel) (fun q => by first | rfl | cases q) (Nat.le_of_ble_eq_true rfl) rfl ?_
  unfold F_X11_step at hf
  refine ab_aload_n 0 dX11_step_0 rfl rfl ?_
  refine f_getR fs_X11_19 dX11_step_1 hf (fun v1 hf => ?_)
  refine ab_iload_n 1 dX11_step_4 rfl rfl ?_
  refine f_V_i (As := [.int a1]) (st := []) cs_X11_88 (fun v q => m_X1_has v1 a1 h q) rfl rfl dX11_step_5 (rmk rfl) hf (fun v2 hf => ?_)
  refine ab_if_ne 14 dX11_step_8 (by decide) hf (fun hf => ?_) (fun hf => ?_)
  · refine ab_bipush dX11_step_11 kbp_m101 ?_
    exact f_reti2 dX11_step_13 rfl (Nat.le_refl 0) (Nat.le_refl 0) hf
  refine ab_iload_n 2 dX11_step_14 rfl rfl ?_
  refine ab_iconst dX11_step_15 kic_m1 ?_
  refine ab_icmp_eq 27 dX11_step_16 (by decide) hf (fun hf => ?_) (fun hf => ?_)
  · exact ab_msk [true, true, true, true] (w_X11_step_B27 a0 a1 a2 h hf)
  refine ab_iload_n 2 dX11_step_19 rfl rfl ?_
  refine ab_iconst dX11_step_20 kic_1 ?_
  refine ab_icmp_eq 27 dX11_step_21 (by decide) hf (fun hf => ?_) (fun hf => ?_)
  · exact ab_msk [true, true, true, true] (w_X11_step_B27 a0 a1 a2 h hf)
  refine ab_bipush dX11_step_24 kbp_m102 ?_
  exact f_reti2 dX11_step_26 rfl (Nat.le_refl 0) (Nat.le_refl 0) hf
def F_X11_stand (a0 : Nat) (a1 : Int32) (a2 : Int32) (h : abH) : Option (Int32 × abH) :=
  (gR 11 h a0 1).bind fun v1 =>
  (ko 1 h v1).bind fun _ => (F_X1_has v1 a1 h).bind fun v2 =>
  if v2 = 0 then
    some ((-101), h)
  else
    (F_X11_isTile a2).bind fun v3 =>
    if v3 = 0 then
      some ((-101), h)
    else
      (gR 11 h a0 1).bind fun v4 =>
      (gR 1 h v4 3).bind fun v5 =>
      (ga 0 h v5 a1).bind fun v6 =>
      (gR 11 h a0 1).bind fun v7 =>
      (gR 1 h v7 3).bind fun v8 =>
      (sa 0 h v8 a1 a2).bind fun h9 =>
      some (v6, h9)
theorem m_X11_stand {z0 : Int32} {hz : abH} (a0 : Nat) (a1 : Int32) (a2 : Int32) (h : abH) (hf : F_X11_stand a0 a1 a2 h = some (z0, hz)) : abM yX11_stand cX11_stand 4 (some .int) 2 0 0 [.ref a0, .int a1, .int a2] h (some (.int z0)) hz := by
  refine abM_of (ini := false) [some (.ref a0), some (.int a1), some (.int a2), none] (by decide +kernel) (fun q => by first | rfl | cases q) (Nat.le_of_ble_eq_true rfl) rfl ?_
  unfold F_X11_stand at hf
  refine ab_aload_n 0 dX11_stand_0 rfl rfl ?_
  refine f_getR fs_X11_19 dX11_stand_1 hf (fun v1 hf => ?_)
  refine ab_iload_n 1 dX11_stand_4 rfl rfl ?_
  refine f_V_i (As := [.int a1]) (st := []) cs_X11_88 (fun v q => m_X1_has v1 a1 h q) rfl rfl dX11_stand_5 (rmk rfl) hf (fun v2 hf => ?_)
  refine ab_if_eq 18 dX11_stand_8 (by decide) hf (fun hf => ?_) (fun hf => ?_)
  · refine ab_bipush dX11_stand_18 kbp_m101 ?_
    exact f_reti2 dX11_stand_20 rfl (Nat.le_refl 0) (Nat.le_refl 0) hf
  refine ab_iload_n 2 dX11_stand_11 rfl rfl ?_
  refine f_S_i (As := [.int a2]) (st := []) cs_X11_163 (fun v q => m_X11_isTile a2 h q) rfl rfl dX11_stand_12 (rmk rfl) hf (fun v3 hf => ?_)
  refine ab_if_ne 21 dX11_stand_15 (by decide) hf (fun hf => ?_) (fun hf => ?_)
  · refine ab_bipush dX11_stand_18 kbp_m101 ?_
    exact f_reti2 dX11_stand_20 rfl (Nat.le_refl 0) (Nat.le_refl 0) hf
  refine ab_aload_n 0 dX11_stand_21 rfl rfl ?_
  refine f_getR fs_X11_19 dX11_stand_22 hf (fun v4 hf => ?_)
  refine f_getR fs_X11_105 dX11_stand_25 hf (fun v5 hf => ?_)
  refine ab_iload_n 1 dX11_stand_28 rfl rfl ?_
  refine f_iald dX11_stand_29 hf (fun v6 hf => ?_)
  refine ab_istore_n 3 [some (.ref a0), some (.int a1), some (.int a2), some (.int v6)] dX11_stand_30 rfl (by decide) rfl rfl ?_
  refine ab_aload_n 0 dX11_stand_31 rfl rfl ?_
  refine f_getR fs_X11_19 dX11_stand_32 hf (fun v7 hf => ?_)
  refine f_getR fs_X11_105 dX11_stand_35 hf (fun v8 hf => ?_)
  refine ab_iload_n 1 dX11_stand_38 rfl rfl ?_
  refine ab_iload_n 2 dX11_stand_39 rfl rfl ?_
  refine f_iast dX11_stand_40 hf (fun h9 hf => ?_)
  refine ab_iload_n 3 dX11_stand_41 rfl rfl ?_
  exact f_reti2 dX11_stand_42 rfl (Nat.le_refl 0) (Nat.le_refl 0) hf
def F_X11_rise (a0 : Nat) (a1 : Int32) (a2 : Int32) (h : abH) : Option (Int32 × abH) :=
  (gR 11 h a0 1).bind fun v1 =>
  (ko 1 h v1).bind fun _ => (F_X1_has v1 a1 h).bind fun v2 =>
  if v2 = 0 then
    some ((-101), h)
  else
    (F_X11_within a2 1 9).bind fun v3 =>
    if v3 = 0 then
      some ((-102), h)
    else
      (gR 11 h a0 1).bind fun v4 =>
      (gR 1 h v4 2).bind fun v5 =>
      (ga 0 h v5 a1).bind fun v6 =>
      (gR 11 h a0 1).bind fun v7 =>
      (gR 1 h v7 2).bind fun v8 =>
      (sa 0 h v8 a1 a2).bind fun h9 =>
      some (v6, h9)
theorem m_X11_rise {z0 : Int32} {hz : abH} (a0 : Nat) (a1 : Int32) (a2 : Int32) (h : abH) (hf : F_X11_rise a0 a1 a2 h = some (z0, hz)) : abM yX11_rise cX11_rise 4 (some .int) 2 0 0 [.ref a0, .int a1, .int a2] h (some (.int z0)) hz := by
  refine abM_of (ini := false) [some (.ref a0), some (.int a1), some (.int a2), none] (by decide +kernel) (fun q => by first | rfl | cases q) (Nat.le_of_ble_eq_true rfl) rfl ?_
  unfold F_X11_rise at hf
  refine ab_aload_n 0 dX11_rise_0 rfl rfl ?_
  refine f_getR fs_X11_19 dX11_rise_1 hf (fun v1 hf => ?_)
  refine ab_iload_n 1 dX11_rise_4 rfl rfl ?_
  refine f_V_i (As := [.int a1]) (st := []) cs_X11_88 (fun v q => m_X1_has v1 a1 h q) rfl rfl dX11_rise_5 (rmk rfl) hf (fun v2 hf => ?_)
  refine ab_if_ne 14 dX11_rise_8 (by decide) hf (fun hf => ?_) (fun hf => ?_)
  · refine ab_bipush dX11_rise_11 kbp_m101 ?_
    exact f_reti2 dX11_rise_13 rfl (Nat.le_refl 0) (Nat.le_refl 0) hf
  refine ab_iload_n 2 dX11_rise_14 rfl rfl ?_
  refine ab_iconst dX11_rise_15 kic_1 ?_
  refine ab_bipush dX11_rise_16 kbp_9 ?_
  refine f_S_i (As := [.int a2, .int 1, .int 9]) (st := []) cs_X11_54 (fun v q => m_X11_within a2 1 9 h q) rfl rfl dX11_rise_18 (rmk rfl) hf (fun v3 hf => ?_)
  refine ab_if_ne 27 dX11_rise_21 (by decide) hf (fun hf => ?_) (fun hf => ?_)
  · refine ab_bipush dX11_rise_24 kbp_m102 ?_
    exact f_reti2 dX11_rise_26 rfl (Nat.le_refl 0) (Nat.le_refl 0) hf
  refine ab_aload_n 0 dX11_rise_27 rfl rfl ?_
  refine f_getR fs_X11_19 dX11_rise_28 hf (fun v4 hf => ?_)
  refine f_getR fs_X11_101 dX11_rise_31 hf (fun v5 hf => ?_)
  refine ab_iload_n 1 dX11_rise_34 rfl rfl ?_
  refine f_iald dX11_rise_35 hf (fun v6 hf => ?_)
  refine ab_istore_n 3 [some (.ref a0), some (.int a1), some (.int a2), some (.int v6)] dX11_rise_36 rfl (by decide) rfl rfl ?_
  refine ab_aload_n 0 dX11_rise_37 rfl rfl ?_
  refine f_getR fs_X11_19 dX11_rise_38 hf (fun v7 hf => ?_)
  refine f_getR fs_X11_101 dX11_rise_41 hf (fun v8 hf => ?_)
  refine ab_iload_n 1 dX11_rise_44 rfl rfl ?_
  refine ab_iload_n 2 dX11_rise_45 rfl rfl ?_
  refine f_iast dX11_rise_46 hf (fun h9 hf => ?_)
  refine ab_iload_n 3 dX11_rise_47 rfl rfl ?_
  exact f_reti2 dX11_rise_48 rfl (Nat.le_refl 0) (Nat.le_refl 0) hf
def F_X11_lay (a0 : Nat) (a1 : Int32) (a2 : Int32) (h : abH) : Option (Int32 × abH) :=
  (gR 11 h a0 1).bind fun v1 =>
  (ko 1 h v1).bind fun _ => (F_X1_hasTile v1 a1 h).bind fun v2 =>
  if v2 = 0 then
    some ((-101), h)
  else
    (F_X11_within a2 0 9).bind fun v3 =>
    if v3 = 0 then
      some ((-102), h)
    else
      (gR 11 h a0 1).bind fun v4 =>
      (gR 1 h v4 4).bind fun v5 =>
      (ga 0 h v5 a1).bind fun v6 =>
      (gR 11 h a0 1).bind fun v7 =>
      (gR 1 h v7 4).bind fun v8 =>
      (sa 0 h v8 a1 a2).bind fun h9 =>
      some (v6, h9)
theorem m_X11_lay {z0 : Int32} {hz : abH} (a0 : Nat) (a1 : Int32) (a2 : Int32) (h : abH) (hf : F_X11_lay a0 a1 a2 h = some (z0, hz)) : abM yX11_lay cX11_lay 4 (some .int) 3 0 0 [.ref a0, .int a1, .int a2] h (some (.int z0)) hz := by
  refine abM_of (ini := false) [some (.ref a0), some (.int a1), some (.int a2), none] (by decide +kernel) (fun q => by first | rfl | cases q) (Nat.le_of_ble_eq_true rfl) rfl ?_
  unfold F_X11_lay at hf
  refine ab_aload_n 0 dX11_lay_0 rfl rfl ?_
  refine f_getR fs_X11_19 dX11_lay_1 hf (fun v1 hf => ?_)
  refine ab_iload_n 1 dX11_lay_4 rfl rfl ?_
  refine f_V_i (As := [.int a1]) (st := []) cs_X11_137 (fun v q => m_X1_hasTile v1 a1 h q) rfl rfl dX11_lay_5 (rmk rfl) hf (fun v2 hf => ?_)
  refine ab_if_ne 14 dX11_lay_8 (by decide) hf (fun hf => ?_) (fun hf => ?_)
  · refine ab_bipush dX11_lay_11 kbp_m101 ?_
    exact f_reti2 dX11_lay_13 rfl (Nat.le_refl 0) (Nat.le_refl 0) hf
  refine ab_iload_n 2 dX11_lay_14 rfl rfl ?_
  refine ab_iconst dX11_lay_15 kic_0 ?_
  refine ab_bipush dX11_lay_16 kbp_9 ?_
  refine f_S_i (As := [.int a2, .int 0, .int 9]) (st := []) cs_X11_54 (fun v q => m_X11_within a2 0 9 h q) rfl rfl dX11_lay_18 (rmk rfl) hf (fun v3 hf => ?_)
  refine ab_if_ne 27 dX11_lay_21 (by decide) hf (fun hf => ?_) (fun hf => ?_)
  · refine ab_bipush dX11_lay_24 kbp_m102 ?_
    exact f_reti2 dX11_lay_26 rfl (Nat.le_refl 0) (Nat.le_refl 0) hf
  refine ab_aload_n 0 dX11_lay_27 rfl rfl ?_
  refine f_getR fs_X11_19 dX11_lay_28 hf (fun v4 hf => ?_)
  refine f_getR fs_X11_140 dX11_lay_31 hf (fun v5 hf => ?_)
  refine ab_iload_n 1 dX11_lay_34 rfl rfl ?_
  refine f_iald dX11_lay_35 hf (fun v6 hf => ?_)
  refine ab_istore_n 3 [some (.ref a0), some (.int a1), some (.int a2), some (.int v6)] dX11_lay_36 rfl (by decide) rfl rfl ?_
  refine ab_aload_n 0 dX11_lay_37 rfl rfl ?_
  refine f_getR fs_X11_19 dX11_lay_38 hf (fun v7 hf => ?_)
  refine f_getR fs_X11_140 dX11_lay_41 hf (fun v8 hf => ?_)
  refine ab_iload_n 1 dX11_lay_44 rfl rfl ?_
  refine ab_iload_n 2 dX11_lay_45 rfl rfl ?_
  refine f_iast dX11_lay_46 hf (fun h9 hf => ?_)
  refine ab_iload_n 3 dX11_lay_47 rfl rfl ?_
  exact f_reti2 dX11_lay_48 rfl (Nat.le_refl 0) (Nat.le_refl 0) hf
def F_X11_file (a0 : Nat) (a1 : Int32) (a2 : Int32) (h : abH) : Option (Int32 × abH) :=
  (gR 11 h a0 1).bind fun v1 =>
  (ko 1 h v1).bind fun _ => (F_X1_hasTwo v1 a1 a2 h).bind fun v2 =>
  if v2 = 0 then
    some ((-101), h)
  else
    (gR 11 h a0 1).bind fun v3 =>
    (gI 1 h v3 7).bind fun v4 =>
    if v4 < 5 then
      (gR 11 h a0 1).bind fun v5 =>
      (gR 1 h v5 8).bind fun v6 =>
      (gR 11 h a0 1).bind fun v7 =>
      (gI 1 h v7 7).bind fun v8 =>
      (sa 0 h v6 v8 a1).bind fun h9 =>
      (gR 11 h9 a0 1).bind fun v10 =>
      (gR 1 h9 v10 9).bind fun v11 =>
      (gR 11 h9 a0 1).bind fun v12 =>
      (gI 1 h9 v12 7).bind fun v13 =>
      (sa 0 h9 v11 v13 a2).bind fun h14 =>
      (gR 11 h14 a0 1).bind fun v15 =>
      (gI 1 h14 v15 7).bind fun v16 =>
      (sV 1 h14 v15 7 (.int (v16 + 1))).bind fun h17 =>
      (gR 11 h17 a0 1).bind fun v18 =>
      (gI 1 h17 v18 7).bind fun v19 =>
      some (v19, h17)
    else
      some ((-104), h)
theorem m_X11_file {z0 : Int32} {hz : abH} (a0 : Nat) (a1 : Int32) (a2 : Int32) (h : abH) (hf : F_X11_file a0 a1 a2 h = some (z0, hz)) : abM yX11_file cX11_file 3 (some .int) 3 0 0 [.ref a0, .int a1, .int a2] h (some (.int z0)) hz := by
  refine abM_of (ini := false) [some (.ref a0), some (.int a1), some (.int a2)] (by decide +kernel) (fun q => by first | rfl | cases q) (Nat.le_of_ble_eq_true rfl) rfl ?_
  unfold F_X11_file at hf
  refine ab_aload_n 0 dX11_file_0 rfl rfl ?_
  refine f_getR fs_X11_19 dX11_file_1 hf (fun v1 hf => ?_)
  refine ab_iload_n 1 dX11_file_4 rfl rfl ?_
  refine ab_iload_n 2 dX11_file_5 rfl rfl ?_
  refine f_V_i (As := [.int a1, .int a2]) (st := []) cs_X11_149 (fun v q => m_X1_hasTwo v1 a1 a2 h q) rfl rfl dX11_file_6 (rmk rfl) hf (fun v2 hf => ?_)
  refine ab_if_ne 15 dX11_file_9 (by decide) hf (fun hf => ?_) (fun hf => ?_)
  · refine ab_bipush dX11_file_12 kbp_m101 ?_
    exact f_reti2 dX11_file_14 rfl (Nat.le_refl 0) (Nat.le_refl 0) hf
  refine ab_aload_n 0 dX11_file_15 rfl rfl ?_
  refine f_getR fs_X11_19 dX11_file_16 hf (fun v3 hf => ?_)
  refine f_getI fs_X11_166 dX11_file_19 hf (fun v4 hf => ?_)
  refine ab_iconst dX11_file_22 kic_5 ?_
  refine ab_icmp_lt 29 dX11_file_23 (by decide) hf (fun hf => ?_) (fun hf => ?_)
  · refine ab_aload_n 0 dX11_file_29 rfl rfl ?_
    refine f_getR fs_X11_19 dX11_file_30 hf (fun v5 hf => ?_)
    refine f_getR fs_X11_169 dX11_file_33 hf (fun v6 hf => ?_)
    refine ab_aload_n 0 dX11_file_36 rfl rfl ?_
    refine f_getR fs_X11_19 dX11_file_37 hf (fun v7 hf => ?_)
    refine f_getI fs_X11_166 dX11_file_40 hf (fun v8 hf => ?_)
    refine ab_iload_n 1 dX11_file_43 rfl rfl ?_
    refine f_iast dX11_file_44 hf (fun h9 hf => ?_)
    refine ab_aload_n 0 dX11_file_45 rfl rfl ?_
    refine f_getR fs_X11_19 dX11_file_46 hf (fun v10 hf => ?_)
    refine f_getR fs_X11_172 dX11_file_49 hf (fun v11 hf => ?_)
    refine ab_aload_n 0 dX11_file_52 rfl rfl ?_
    refine f_getR fs_X11_19 dX11_file_53 hf (fun v12 hf => ?_)
    refine f_getI fs_X11_166 dX11_file_56 hf (fun v13 hf => ?_)
    refine ab_iload_n 2 dX11_file_59 rfl rfl ?_
    refine f_iast dX11_file_60 hf (fun h14 hf => ?_)
    refine ab_aload_n 0 dX11_file_61 rfl rfl ?_
    refine f_getR fs_X11_19 dX11_file_62 hf (fun v15 hf => ?_)
    refine ab_dup dX11_file_65 rfl ?_
    refine f_getI fs_X11_166 dX11_file_66 hf (fun v16 hf => ?_)
    refine ab_iconst dX11_file_69 kic_1 ?_
    refine ab_iadd dX11_file_70 ?_
    refine f_put fp_X11_166 (abFit_i _) dX11_file_71 hf (fun h17 hf => ?_)
    refine ab_aload_n 0 dX11_file_74 rfl rfl ?_
    refine f_getR fs_X11_19 dX11_file_75 hf (fun v18 hf => ?_)
    refine f_getI fs_X11_166 dX11_file_78 hf (fun v19 hf => ?_)
    exact f_reti2 dX11_file_81 rfl (Nat.le_refl 0) (Nat.le_refl 0) hf
  refine ab_bipush dX11_file_26 kbp_m104 ?_
  exact f_reti2 dX11_file_28 rfl (Nat.le_refl 0) (Nat.le_refl 0) hf
def F_X11_settle (a0 : Nat) (h : abH) : Option (Int32 × abH) :=
  (gR 11 h a0 1).bind fun v1 =>
  (gI 1 h v1 7).bind fun v2 =>
  (gR 11 h a0 1).bind fun v3 =>
  (sV 1 h v3 7 (.int 0)).bind fun h4 =>
  some (v2, h4)
theorem m_X11_settle {z0 : Int32} {hz : abH} (a0 : Nat) (h : abH) (hf : F_X11_settle a0 h = some (z0, hz)) : abM yX11_settle cX11_settle 2 (some .int) 1 0 0 [.ref a0] h (some (.int z0)) hz := by
  refine abM_of (ini := false) [some (.ref a0), none] (by decide +kernel) (fun q => by first | rfl | cases q) (Nat.le_of_ble_eq_true rfl) rfl ?_
  unfold F_X11_settle at hf
  refine ab_aload_n 0 dX11_settle_0 rfl rfl ?_
  refine f_getR fs_X11_19 dX11_settle_1 hf (fun v1 hf => ?_)
  refine f_getI fs_X11_166 dX11_settle_4 hf (fun v2 hf => ?_)
  refine ab_istore_n 1 [some (.ref a0), some (.int v2)] dX11_settle_7 rfl (by decide) rfl rfl ?_
  refine ab_aload_n 0 dX11_settle_8 rfl rfl ?_
  refine f_getR fs_X11_19 dX11_settle_9 hf (fun v3 hf => ?_)
  refine ab_iconst dX11_settle_12 kic_0 ?_
  refine f_put fp_X11_166 (abFit_i _) dX11_settle_13 hf (fun h4 hf => ?_)
  refine ab_iload_n 1 dX11_settle_16 rfl rfl ?_
  exact f_reti2 dX11_settle_17 rfl (Nat.le_refl 0) (Nat.le_refl 0) hf
def F_X11_game (a0 : Nat) (a1 : Int32) (a2 : Int32) (a3 : Int32) (a4 : Int32) (h : abH) : Option (Int32 × abH) :=
  (gR 11 h a0 1).bind fun v1 =>
  (ko 1 h v1).bind fun _ => (F_X1_hasTwo v1 a1 a2 h).bind fun v2 =>
  if v2 = 0 then
    some ((-101), h)
  else
    (F_X11_within a3 1 4).bind fun v3 =>
    if v3 = 0 then
      some ((-102), h)
    else
      (F_X11_within a4 0 1).bind fun v4 =>
      if v4 = 0 then
        some ((-102), h)
      else
        (gR 11 h a0 4).bind fun v5 =>
        (gR 11 h a0 1).bind fun v6 =>
        (ko 3 h v5).bind fun _ => (F_X3_solve v5 v6 a1 a2 a3 h).bind fun h7 =>
        if a4 = 0 then
          (gR 11 h7 a0 4).bind fun v10 =>
          (gI 3 h7 v10 4).bind fun v11 =>
          some (v11 + 500, h7)
        else
          (gR 11 h7 a0 4).bind fun v8 =>
          (gI 3 h7 v8 5).bind fun v9 =>
          some (v9, h7)
theorem m_X11_game {z0 : Int32} {hz : abH} (a0 : Nat) (a1 : Int32) (a2 : Int32) (a3 : Int32) (a4 : Int32) (h : abH) (hf : F_X11_game a0 a1 a2 a3 a4 h = some (z0, hz)) : abM yX11_game cX11_game 5 (some .int) 7 0 0 [.ref a0, .int a1, .int a2, .int a3, .int a4] h (some (.int z0)) hz := by
  refine abM_of (ini := false) [some (.ref a0), some (.int a1), some (.int a2), some (.int a3), some (.int a4)] (by decide +kernel) (fun q => by first | rfl | cases q) (Nat.le_of_ble_eq_true rfl) rfl ?_
  unfold F_X11_game at hf
  refine ab_aload_n 0 dX11_game_0 rfl rfl ?_
  refine f_getR fs_X11_19 dX11_game_1 hf (fun v1 hf => ?_)
  refine ab_iload_n 1 dX11_game_4 rfl rfl ?_
  refine ab_iload_n 2 dX11_game_5 rfl rfl ?_
  refine f_V_i (As := [.int a1, .int a2]) (st := []) cs_X11_149 (fun v q => m_X1_hasTwo v1 a1 a2 h q) rfl rfl dX11_game_6 (rmk rfl) hf (fun v2 hf => ?_)
  refine ab_if_ne 15 dX11_game_9 (by decide) hf (fun hf => ?_) (fun hf => ?_)
  · refine ab_bipush dX11_game_12 kbp_m101 ?_
    exact f_reti2 dX11_game_14 rfl (Nat.le_refl 0) (Nat.le_refl 0) hf
  refine ab_iload_n 3 dX11_game_15 rfl rfl ?_
  refine ab_iconst dX11_game_16 kic_1 ?_
  refine ab_iconst dX11_game_17 kic_4 ?_
  refine f_S_i (As := [.int a3, .int 1, .int 4]) (st := []) cs_X11_54 (fun v q => m_X11_within a3 1 4 h q) rfl rfl dX11_game_18 (rmk rfl) hf (fun v3 hf => ?_)
  refine ab_if_eq 34 dX11_game_21 (by decide) hf (fun hf => ?_) (fun hf => ?_)
  · refine ab_bipush dX11_game_34 kbp_m102 ?_
    exact f_reti2 dX11_game_36 rfl (Nat.le_refl 0) (Nat.le_refl 0) hf
  refine ab_iload dX11_game_24 rfl ?_
  refine ab_iconst dX11_game_26 kic_0 ?_
  refine ab_iconst dX11_game_27 kic_1 ?_
  refine f_S_i (As := [.int a4, .int 0, .int 1]) (st := []) cs_X11_54 (fun v q => m_X11_within a4 0 1 h q) rfl rfl dX11_game_28 (rmk rfl) hf (fun v4 hf => ?_)
  refine ab_if_ne 37 dX11_game_31 (by decide) hf (fun hf => ?_) (fun hf => ?_)
  · refine ab_bipush dX11_game_34 kbp_m102 ?_
    exact f_reti2 dX11_game_36 rfl (Nat.le_refl 0) (Nat.le_refl 0) hf
  refine ab_aload_n 0 dX11_game_37 rfl rfl ?_
  refine f_getR fs_X11_36 dX11_game_38 hf (fun v5 hf => ?_)
  refine ab_aload_n 0 dX11_game_41 rfl rfl ?_
  refine f_getR fs_X11_19 dX11_game_42 hf (fun v6 hf => ?_)
  refine ab_iload_n 1 dX11_game_45 rfl rfl ?_
  refine ab_iload_n 2 dX11_game_46 rfl rfl ?_
  refine ab_iload_n 3 dX11_game_47 rfl rfl ?_
  refine f_V_v2 (As := [.ref v6, .int a1, .int a2, .int a3]) (st := []) cs_X11_175 (fun hq q => m_X3_solve v5 v6 a1 a2 a3 h q) rfl rfl dX11_game_48 (rmk rfl) hf (fun h7 hf => ?_)
  refine ab_iload dX11_game_51 rfl ?_
  refine ab_if_ne 70 dX11_game_53 (by decide) hf (fun hf => ?_) (fun hf => ?_)
  · refine ab_aload_n 0 dX11_game_56 rfl rfl ?_
    refine f_getR fs_X11_36 dX11_game_57 hf (fun v10 hf => ?_)
    refine f_getI fs_X11_179 dX11_game_60 hf (fun v11 hf => ?_)
    refine ab_sipush dX11_game_63 ksp_500 ?_
    refine ab_iadd dX11_game_66 ?_
    refine ab_goto 77 dX11_game_67 (by decide) ?_
    exact f_reti2 dX11_game_77 rfl (Nat.le_refl 0) (Nat.le_refl 0) hf
  refine ab_aload_n 0 dX11_game_70 rfl rfl ?_
  refine f_getR fs_X11_36 dX11_game_71 hf (fun v8 hf => ?_)
  refine f_getI fs_X11_182 dX11_game_74 hf (fun v9 hf => ?_)
  exact f_reti2 dX11_game_77 rfl (Nat.le_refl 0) (Nat.le_refl 0) hf
def F_X11_docket_B20 (x0 : Nat) (x1 : Int32) (x2 : Int32) (h : abH) : Option (Int32 × abH) :=
  (gR 11 h x0 1).bind fun v2 =>
  (ko 1 h v2).bind fun _ => (F_X1_isNone v2 h).bind fun v3 =>
  if v3 = 0 then
    (gR 11 h x0 5).bind fun v4 =>
    (gR 11 h x0 1).bind fun v5 =>
    (ko 2 h v4).bind fun _ => (F_X2_set v4 v5 h).bind fun h6 =>
    if x2 = 0 then
      (gR 11 h6 x0 5).bind fun v12 =>
      (gI 2 h6 v12 3).bind fun v13 =>
      some (v13, h6)
    else
      (gR 11 h6 x0 1).bind fun v7 =>
      (gI 1 h6 v7 7).bind fun v8 =>
      if (x1 - 10) < v8 then
        (gR 11 h6 x0 5).bind fun v9 =>
        (gR 2 h6 v9 2).bind fun v10 =>
        (ga 0 h6 v10 (x1 - 10)).bind fun v11 =>
        some (v11, h6)
      else
        some ((-1), h6)
  else
    some ((-103), h)
theorem w_X11_docket_B20 {z0 : Int32} {hz : abH} (x0 : Nat) (x1 : Int32) (x2 : Int32) (h : abH)   (hf : F_X11_docket_B20 x0 x1 x2 h = some (z0, hz)) : abW cX11_docket 3 RX11 (some .int) false 7 0 0 none (some (.int z0), hz) 20 [some (.ref x0), some (.int x1), some (.int x2)] [] h 0 0 := by
  unfold F_X11_docket_B20 at hf
  refine ab_aload_n 0 dX11_docket_20 rfl rfl ?_
  refine f_getR fs_X11_19 dX11_docket_21 hf (fun v2 hf => ?_)
  refine f_V_i (As := []) (st := []) cs_X11_157 (fun v q => m_X1_isNone v2 h q) rfl rfl dX11_docket_24 (rmk rfl) hf (fun v3 hf => ?_)
  refine ab_if_eq 33 dX11_docket_27 (by decide) hf (fun hf => ?_) (fun hf => ?_)
  · refine ab_aload_n 0 dX11_docket_33 rfl rfl ?_
    refine f_getR fs_X11_43 dX11_docket_34 hf (fun v4 hf => ?_)
    refine ab_aload_n 0 dX11_docket_37 rfl rfl ?_
    refine f_getR fs_X11_19 dX11_docket_38 hf (fun v5 hf => ?_)
    refine f_V_v2 (As := [.ref v5]) (st := []) cs_X11_185 (fun hq q => m_X2_set v4 v5 h q) rfl rfl dX11_docket_41 (rmk rfl) hf (fun h6 hf => ?_)
    refine ab_iload_n 2 dX11_docket_44 rfl rfl ?_
    refine ab_if_ne 56 dX11_docket_45 (by decide) hf (fun hf => ?_) (fun hf => ?_)
    · refine ab_aload_n 0 dX11_docket_48 rfl rfl ?_
      refine f_getR fs_X11_43 dX11_docket_49 hf (fun v12 hf => ?_)
      refine f_getI fs_X11_189 dX11_docket_52 hf (fun v13 hf => ?_)
      exact f_reti2 dX11_docket_55 rfl (Nat.le_refl 0) (Nat.le_refl 0) hf
    refine ab_iload_n 1 dX11_docket_56 rfl rfl ?_
    refine ab_bipush dX11_docket_57 kbp_10 ?_
    refine ab_isub dX11_docket_59 ?_
    refine ab_aload_n 0 dX11_docket_60 rfl rfl ?_
    refine f_getR fs_X11_19 dX11_docket_61 hf (fun v7 hf => ?_)
    refine f_getI fs_X11_166 dX11_docket_64 hf (fun v8 hf => ?_)
    refine ab_icmp_ge 85 dX11_docket_67 (by decide) hf (fun hf => ?_) (fun hf => ?_)
    · refine ab_aload_n 0 dX11_docket_70 rfl rfl ?_
      refine f_getR fs_X11_43 dX11_docket_71 hf (fun v9 hf => ?_)
      refine f_getR fs_X11_192 dX11_docket_74 hf (fun v10 hf => ?_)
      refine ab_iload_n 1 dX11_docket_77 rfl rfl ?_
      refine ab_bipush dX11_docket_78 kbp_10 ?_
      refine ab_isub dX11_docket_80 ?_
      refine f_iald dX11_docket_81 hf (fun v11 hf => ?_)
      refine ab_goto 86 dX11_docket_82 (by decide) ?_
      exact f_reti2 dX11_docket_86 rfl (Nat.le_refl 0) (Nat.le_refl 0) hf
    refine ab_iconst dX11_docket_85 kic_m1 ?_
    exact f_reti2 dX11_docket_86 rfl (Nat.le_refl 0) (Nat.le_refl 0) hf
  refine ab_bipush dX11_docket_30 kbp_m103 ?_
  exact f_reti2 dX11_docket_32 rfl (Nat.le_refl 0) (Nat.le_refl 0) hf
def F_X11_docket (a0 : Nat) (a1 : Int32) (h : abH) : Option (Int32 × abH) :=
  (F_X11_within a1 10 14).bind fun v1 =>
  if a1 = 0 then
    F_X11_docket_B20 a0 a1 v1 h
  else
    if v1 = 0 then
      some ((-102), h)
    else
      F_X11_docket_B20 a0 a1 v1 h
theorem m_X11_docket {z0 : Int32} {hz : abH} (a0 : Nat) (a1 : Int32) (h : abH) (hf : F_X11_docket a0 a1 h = some (z0, hz)) : abM yX11_docket cX11_docket 3 (some .int) 7 0 0 [.ref a0, .int a1] h (some (.int z0)) hz := by
  refine abM_of (ini := false) [some (.ref a0), some (.int a1), none] (by decide +kernel) (fun q => by first | rfl | cases q) (Nat.le_of_ble_eq_true rfl) rfl ?_
  unfold F_X11_docket at hf
  refine ab_iload_n 1 dX11_docket_0 rfl rfl ?_
  refine ab_bipush dX11_docket_1 kbp_10 ?_
  refine ab_bipush dX11_docket_3 kbp_14 ?_
  refine f_S_i (As := [.int a1, .int 10, .int 14]) (st := []) cs_X11_54 (fun v q => m_X11_within a1 10 14 h q) rfl rfl dX11_docket_5 (rmk rfl) hf (fun v1 hf => ?_)
  refine ab_istore_n 2 [some (.ref a0), some (.int a1), some (.int v1)] dX11_docket_8 rfl (by decide) rfl rfl ?_
  refine ab_iload_n 1 dX11_docket_9 rfl rfl ?_
  refine ab_if_eq 20 dX11_docket_10 (by decide) hf (fun hf => ?_) (fun hf => ?_)
  · exact ab_msk [true, true, true] (w_X11_docket_B20 a0 a1 v1 h hf)
  refine ab_iload_n 2 dX11_docket_13 rfl rfl ?_
  refine ab_if_ne 20 dX11_docket_14 (by decide) hf (fun hf => ?_) (fun hf => ?_)
  · refine ab_bipush dX11_docket_17 kbp_m102 ?_
    exact f_reti2 dX11_docket_19 rfl (Nat.le_refl 0) (Nat.le_refl 0) hf
  exact ab_msk [true, true, true] (w_X11_docket_B20 a0 a1 v1 h hf)
def F_X11_inLowestTerms_B38 (x2 : Int32) (x3 : Int32) (x4 : Int32) (x5 : Int32) (k8 : Int32 → Int32 → Int32 → Option Int32) : Option Int32 :=
  dz 5 <|
  if (x3 - x3 / 5 * 5) = 0 then
    dz 5 <|
    if (x4 - x4 / 5 * 5) = 0 then
      dz 5 <|
      nm (x3 / 5) fun v1 =>
      dz 5 <|
      nm (x4 / 5) fun v2 =>
      k8 v1 v2 (x5 + 1)
    else
      k8 x3 x4 (x5 + 1)
  else
    k8 x3 x4 (x5 + 1)
theorem w_X11_inLowestTerms_B38 {z0 : Int32} (x2 : Int32) (x3 : Int32) (x4 : Int32) (x5 : Int32) (h : abH) (k8 : Int32 → Int32 → Int32 → Option Int32) (hk8 : ∀ (w3 : Int32) (w4 : Int32) (w5 : Int32), k8 w3 w4 w5 = some z0 → abW cX11_inLowestTerms 6 RX11 (some .int) false 1 0 0 none (some (.int z0), h) 8 [none, none, some (.int x2), some (.int w3), some (.int w4), some (.int w5)] [] h 0 0) (hf : F_X11_inLowestTerms_B38 x2 x3 x4 x5 k8 = some z0) : abW cX11_inLowestTerms 6 RX11 (some .int) false 1 0 0 none (some (.int z0), h) 38 [none, none, some (.int x2), some (.int x3), some (.int x4), some (.int x5)] [] h 0 0 := by
  unfold F_X11_inLowestTerms_B38 at hf
  refine ab_iload_n 3 dX11_inLowestTerms_38 rfl rfl ?_
  refine ab_iconst dX11_inLowestTerms_39 kic_5 ?_
  refine f_irem dX11_inLowestTerms_40 hf (fun hf => ?_)
  refine ab_if_ne 61 dX11_inLowestTerms_41 (by decide) hf (fun hf => ?_) (fun hf => ?_)
  · refine ab_iload dX11_inLowestTerms_44 rfl ?_
    refine ab_iconst dX11_inLowestTerms_46 kic_5 ?_
    refine f_irem dX11_inLowestTerms_47 hf (fun hf => ?_)
    refine ab_if_ne 61 dX11_inLowestTerms_48 (by decide) hf (fun hf => ?_) (fun hf => ?_)
    · refine ab_iload_n 3 dX11_inLowestTerms_51 rfl rfl ?_
      refine ab_iconst dX11_inLowestTerms_52 kic_5 ?_
      refine f_idiv dX11_inLowestTerms_53 hf (fun hf => ?_)
      refine ab_nmi hf (fun v1 hf => ?_)
      refine ab_istore_n 3 [none, none, some (.int x2), some (.int v1), some (.int x4), some (.int x5)] dX11_inLowestTerms_54 rfl (by decide) rfl rfl ?_
      refine ab_iload dX11_inLowestTerms_55 rfl ?_
      refine ab_iconst dX11_inLowestTerms_57 kic_5 ?_
      refine f_idiv dX11_inLowestTerms_58 hf (fun hf => ?_)
      refine ab_nmi hf (fun v2 hf => ?_)
      refine ab_istore [none, none, some (.int x2), some (.int v1), some (.int v2), some (.int x5)] dX11_inLowestTerms_59 (by decide) rfl rfl ?_
      refine ab_iinc (v := x5 + 1) [none, none, some (.int x2), some (.int v1), some (.int v2), some (.int (x5 + 1))] dX11_inLowestTerms_61 rfl (kinc_1 _) (by decide) rfl rfl ?_
      refine ab_goto 8 dX11_inLowestTerms_64 (by decide) ?_
      exact ab_msk [true, true, true, true, true, true] (hk8 v1 v2 (x5 + 1) hf)
    refine ab_iinc (v := x5 + 1) [none, none, some (.int x2), some (.int x3), some (.int x4), some (.int (x5 + 1))] dX11_inLowestTerms_61 rfl (kinc_1 _) (by decide) rfl rfl ?_
    refine ab_goto 8 dX11_inLowestTerms_64 (by decide) ?_
    exact ab_msk [true, true, true, true, true, true] (hk8 x3 x4 (x5 + 1) hf)
  refine ab_iinc (v := x5 + 1) [none, none, some (.int x2), some (.int x3), some (.int x4), some (.int (x5 + 1))] dX11_inLowestTerms_61 rfl (kinc_1 _) (by decide) rfl rfl ?_
  refine ab_goto 8 dX11_inLowestTerms_64 (by decide) ?_
  exact ab_msk [true, true, true, true, true, true] (hk8 x3 x4 (x5 + 1) hf)
def F_X11_inLowestTerms_B8 (x2 : Int32) : Nat → Int32 → Int32 → Int32 → Option Int32
  | 0, _, _, _ => none
  | n + 1, x3, x4, x5 =>
    if x5 < 6 then
      dz 2 <|
      if (x3 - x3 / 2 * 2) = 0 then
        dz 2 <|
        if (x4 - x4 / 2 * 2) = 0 then
          dz 2 <|
          nm (x3 / 2) fun v3 =>
          dz 2 <|
          nm (x4 / 2) fun v4 =>
          F_X11_inLowestTerms_B38 x2 v3 v4 x5 (fun u3 u4 u5 => F_X11_inLowestTerms_B8 x2 n u3 u4 u5)
        else
          F_X11_inLowestTerms_B38 x2 x3 x4 x5 (fun u3 u4 u5 => F_X11_inLowestTerms_B8 x2 n u3 u4 u5)
      else
        F_X11_inLowestTerms_B38 x2 x3 x4 x5 (fun u3 u4 u5 => F_X11_inLowestTerms_B8 x2 n u3 u4 u5)
    else
      if x2 = 0 then
        some x4
      else
        some x3
theorem w_X11_inLowestTerms_B8 {z0 : Int32} (x2 : Int32) (h : abH)   : ∀ (n : Nat) (x3 : Int32) (x4 : Int32) (x5 : Int32), F_X11_inLowestTerms_B8 x2 n x3 x4 x5 = some z0 → abW cX11_inLowestTerms 6 RX11 (some .int) false 1 0 0 none (some (.int z0), h) 8 [none, none, some (.int x2), some (.int x3), some (.int x4), some (.int x5)] [] h 0 0 := by
  intro n
  induction n with
  | zero =>
    intro x3 x4 x5 hf
    exact absurd (show (none : Option Int32) = some _ from hf) (by simp)
  | succ n ih =>
    intro x3 x4 x5 hf
    rw [F_X11_inLowestTerms_B8.eq_2] at hf
    refine ab_iload dX11_inLowestTerms_8 rfl ?_
    refine ab_bipush dX11_inLowestTerms_10 kbp_6 ?_
    refine ab_icmp_ge 67 dX11_inLowestTerms_12 (by decide) hf (fun hf => ?_) (fun hf => ?_)
    · refine ab_iload_n 3 dX11_inLowestTerms_15 rfl rfl ?_
      refine ab_iconst dX11_inLowestTerms_16 kic_2 ?_
      refine f_irem dX11_inLowestTerms_17 hf (fun hf => ?_)
      refine ab_if_ne 38 dX11_inLowestTerms_18 (by decide) hf (fun hf => ?_) (fun hf => ?_)
      · refine ab_iload dX11_inLowestTerms_21 rfl ?_
        refine ab_iconst dX11_inLowestTerms_23 kic_2 ?_
        refine f_irem dX11_inLowestTerms_24 hf (fun hf => ?_)
        refine ab_if_ne 38 dX11_inLowestTerms_25 (by decide) hf (fun hf => ?_) (fun hf => ?_)
        · refine ab_iload_n 3 dX11_inLowestTerms_28 rfl rfl ?_
          refine ab_iconst dX11_inLowestTerms_29 kic_2 ?_
          refine f_idiv dX11_inLowestTerms_30 hf (fun hf => ?_)
          refine ab_nmi hf (fun v3 hf => ?_)
          refine ab_istore_n 3 [none, none, some (.int x2), some (.int v3), some (.int x4), some (.int x5)] dX11_inLowestTerms_31 rfl (by decide) rfl rfl ?_
          refine ab_iload dX11_inLowestTerms_32 rfl ?_
          refine ab_iconst dX11_inLowestTerms_34 kic_2 ?_
          refine f_idiv dX11_inLowestTerms_35 hf (fun hf => ?_)
          refine ab_nmi hf (fun v4 hf => ?_)
          refine ab_istore [none, none, some (.int x2), some (.int v3), some (.int v4), some (.int x5)] dX11_inLowestTerms_36 (by decide) rfl rfl ?_
          exact ab_msk [true, true, true, true, true, true] (w_X11_inLowestTerms_B38 x2 v3 v4 x5 h (fun u3 u4 u5 => F_X11_inLowestTerms_B8 x2 n u3 u4 u5) (fun u3 u4 u5 hf => ih u3 u4 u5 hf) hf)
        exact ab_msk [true, true, true, true, true, true] (w_X11_inLowestTerms_B38 x2 x3 x4 x5 h (fun u3 u4 u5 => F_X11_inLowestTerms_B8 x2 n u3 u4 u5) (fun u3 u4 u5 hf => ih u3 u4 u5 hf) hf)
      exact ab_msk [true, true, true, true, true, true] (w_X11_inLowestTerms_B38 x2 x3 x4 x5 h (fun u3 u4 u5 => F_X11_inLowestTerms_B8 x2 n u3 u4 u5) (fun u3 u4 u5 hf => ih u3 u4 u5 hf) hf)
    refine ab_iload_n 2 dX11_inLowestTerms_67 rfl rfl ?_
    refine ab_if_eq 75 dX11_inLowestTerms_68 (by decide) hf (fun hf => ?_) (fun hf => ?_)
    · refine ab_iload dX11_inLowestTerms_75 rfl ?_
      exact f_reti dX11_inLowestTerms_77 rfl (Nat.le_refl 0) (Nat.le_refl 0) hf
    refine ab_iload_n 3 dX11_inLowestTerms_71 rfl rfl ?_
    refine ab_goto 77 dX11_inLowestTerms_72 (by decide) ?_
    exact f_reti dX11_inLowestTerms_77 rfl (Nat.le_refl 0) (Nat.le_refl 0) hf
def F_X11_inLowestTerms (a0 : Int32) (a1 : Int32) (a2 : Int32) : Option Int32 :=
  F_X11_inLowestTerms_B8 a2 200 a0 a1 0
theorem m_X11_inLowestTerms {z0 : Int32} (a0 : Int32) (a1 : Int32) (a2 : Int32) (h : abH) (hf : F_X11_inLowestTerms a0 a1 a2 = some z0) : abM yX11_inLowestTerms cX11_inLowestTerms 6 (some .int) 1 0 0 [.int a0, .int a1, .int a2] h (some (.int z0)) h := by
  refine abM_of (ini := false) [some (.int a0), some (.int a1), some (.int a2), none, none, none] (by decide +kernel) (fun q => by first | rfl | cases q) (Nat.le_of_ble_eq_true rfl) rfl ?_
  unfold F_X11_inLowestTerms at hf
  refine ab_iload_n 0 dX11_inLowestTerms_0 rfl rfl ?_
  refine ab_istore_n 3 [some (.int a0), some (.int a1), some (.int a2), some (.int a0), none, none] dX11_inLowestTerms_1 rfl (by decide) rfl rfl ?_
  refine ab_iload_n 1 dX11_inLowestTerms_2 rfl rfl ?_
  refine ab_istore [some (.int a0), some (.int a1), some (.int a2), some (.int a0), some (.int a1), none] dX11_inLowestTerms_3 (by decide) rfl rfl ?_
  refine ab_iconst dX11_inLowestTerms_5 kic_0 ?_
  refine ab_istore [some (.int a0), some (.int a1), some (.int a2), some (.int a0), some (.int a1), some (.int 0)] dX11_inLowestTerms_6 (by decide) rfl rfl ?_
  exact ab_msk [false, false, true, true, true, true] (w_X11_inLowestTerms_B8 a2 h 200 a0 a1 0 hf)
def F_X11_odds_B121 (x0 : Nat) (x1 : Int32) (x2 : Int32) (x3 : Int32) (x4 : Int32) (x5 : Int32) (x7 : Int32) (x8 : Int32) (x9 : Int32) (y0 : Int32) (y1 : Int32) (h : abH) (k61 : Int32 → Int32 → Int32 → Int32 → Option Int32) : Option Int32 :=
  nm (y0 + y1) fun v12 =>
  nm (x7 * 10) fun v13 =>
  nm (x8 * x4) fun v14 =>
  k61 v12 v13 v14 (x9 + 1)
theorem w_X11_odds_B121 {z0 : Int32} (x0 : Nat) (x1 : Int32) (x2 : Int32) (x3 : Int32) (x4 : Int32) (x5 : Int32) (x7 : Int32) (x8 : Int32) (x9 : Int32) (y0 : Int32) (y1 : Int32) (h : abH) (k61 : Int32 → Int32 → Int32 → Int32 → Option Int32) (hk61 : ∀ (w6 : Int32) (w7 : Int32) (w8 : Int32) (w9 : Int32), k61 w6 w7 w8 w9 = some z0 → abW cX11_odds 11 RX11 (some .int) false 5 0 0 none (some (.int z0), h) 61 [some (.ref x0), some (.int x1), some (.int x2), some (.int x3), some (.int x4), some (.int x5), some (.int w6), some (.int w7), some (.int w8), some (.int w9), none] [] h 0 0) (hf : F_X11_odds_B121 x0 x1 x2 x3 x4 x5 x7 x8 x9 y0 y1 h k61 = some z0) : abW cX11_odds 11 RX11 (some .int) false 5 0 0 none (some (.int z0), h) 121 [some (.ref x0), some (.int x1), some (.int x2), some (.int x3), some (.int x4), some (.int x5), none, some (.int x7), some (.int x8), some (.int x9), none] [.int y1, .int y0] h 0 0 := by
  unfold F_X11_odds_B121 at hf
  refine ab_iadd dX11_odds_121 ?_
  refine ab_nmi hf (fun v12 hf => ?_)
  refine ab_istore [some (.ref x0), some (.int x1), some (.int x2), some (.int x3), some (.int x4), some (.int x5), some (.int v12), some (.int x7), some (.int x8), some (.int x9), none] dX11_odds_122 (by decide) rfl rfl ?_
  refine ab_iload dX11_odds_124 rfl ?_
  refine ab_bipush dX11_odds_126 kbp_10 ?_
  refine ab_imul dX11_odds_128 ?_
  refine ab_nmi hf (fun v13 hf => ?_)
  refine ab_istore [some (.ref x0), some (.int x1), some (.int x2), some (.int x3), some (.int x4), some (.int x5), some (.int v12), some (.int v13), some (.int x8), some (.int x9), none] dX11_odds_129 (by decide) rfl rfl ?_
  refine ab_iload dX11_odds_131 rfl ?_
  refine ab_iload dX11_odds_133 rfl ?_
  refine ab_imul dX11_odds_135 ?_
  refine ab_nmi hf (fun v14 hf => ?_)
  refine ab_istore [some (.ref x0), some (.int x1), some (.int x2), some (.int x3), some (.int x4), some (.int x5), some (.int v12), some (.int v13), some (.int v14), some (.int x9), none] dX11_odds_136 (by decide) rfl rfl ?_
  refine ab_iinc (v := x9 + 1) [some (.ref x0), some (.int x1), some (.int x2), some (.int x3), some (.int x4), some (.int x5), some (.int v12), some (.int v13), some (.int v14), some (.int (x9 + 1)), none] dX11_odds_138 rfl (kinc_1 _) (by decide) rfl rfl ?_
  refine ab_goto 61 dX11_odds_141 (by decide) ?_
  exact ab_msk [true, true, true, true, true, true, true, true, true, true, true] (hk61 v12 v13 v14 (x9 + 1) hf)
def F_X11_odds_B97 (x0 : Nat) (x1 : Int32) (x2 : Int32) (x3 : Int32) (x4 : Int32) (x5 : Int32) (x6 : Int32) (x7 : Int32) (x8 : Int32) (x9 : Int32) (y0 : Int32) (h : abH) (k61 : Int32 → Int32 → Int32 → Int32 → Option Int32) : Option Int32 :=
  if y0 = 0 then
    F_X11_odds_B121 x0 x1 x2 x3 x4 x5 x7 x8 x9 (x6 * 10) 0 h k61
  else
    F_X11_odds_B121 x0 x1 x2 x3 x4 x5 x7 x8 x9 (x6 * 10) (x8 * (10 - x4)) h k61
theorem w_X11_odds_B97 {z0 : Int32} (x0 : Nat) (x1 : Int32) (x2 : Int32) (x3 : Int32) (x4 : Int32) (x5 : Int32) (x6 : Int32) (x7 : Int32) (x8 : Int32) (x9 : Int32) (y0 : Int32) (h : abH) (k61 : Int32 → Int32 → Int32 → Int32 → Option Int32) (hk61 : ∀ (w6 : Int32) (w7 : Int32) (w8 : Int32) (w9 : Int32), k61 w6 w7 w8 w9 = some z0 → abW cX11_odds 11 RX11 (some .int) false 5 0 0 none (some (.int z0), h) 61 [some (.ref x0), some (.int x1), some (.int x2), some (.int x3), some (.int x4), some (.int x5), some (.int w6), some (.int w7), some (.int w8), some (.int w9), none] [] h 0 0) (hf : F_X11_odds_B97 x0 x1 x2 x3 x4 x5 x6 x7 x8 x9 y0 h k61 = some z0) : abW cX11_odds 11 RX11 (some .int) false 5 0 0 none (some (.int z0), h) 97 [some (.ref x0), some (.int x1), some (.int x2), some (.int x3), some (.int x4), some (.int x5), some (.int x6), some (.int x7), some (.int x8), some (.int x9), none] [.int y0] h 0 0 := by
  unfold F_X11_odds_B97 at hf
  refine ab_istore [some (.ref x0), some (.int x1), some (.int x2), some (.int x3), some (.int x4), some (.int x5), some (.int x6), some (.int x7), some (.int x8), some (.int x9), some (.int y0)] dX11_odds_97 (by decide) rfl rfl ?_
  refine ab_iload dX11_odds_99 rfl ?_
  refine ab_bipush dX11_odds_101 kbp_10 ?_
  refine ab_imul dX11_odds_103 ?_
  refine ab_iload dX11_odds_104 rfl ?_
  refine ab_if_eq 120 dX11_odds_106 (by decide) hf (fun hf => ?_) (fun hf => ?_)
  · refine ab_iconst dX11_odds_120 kic_0 ?_
    exact ab_msk [true, true, true, true, true, true, false, true, true, true, false] (w_X11_odds_B121 x0 x1 x2 x3 x4 x5 x7 x8 x9 (x6 * 10) 0 h k61 hk61 hf)
  refine ab_iload dX11_odds_109 rfl ?_
  refine ab_bipush dX11_odds_111 kbp_10 ?_
  refine ab_iload dX11_odds_113 rfl ?_
  refine ab_isub dX11_odds_115 ?_
  refine ab_imul dX11_odds_116 ?_
  refine ab_goto 121 dX11_odds_117 (by decide) ?_
  exact ab_msk [true, true, true, true, true, true, false, true, true, true, false] (w_X11_odds_B121 x0 x1 x2 x3 x4 x5 x7 x8 x9 (x6 * 10) (x8 * (10 - x4)) h k61 hk61 hf)
def F_X11_odds_B61 (x0 : Nat) (x1 : Int32) (x2 : Int32) (x3 : Int32) (x4 : Int32) (x5 : Int32) (h : abH) : Nat → Int32 → Int32 → Int32 → Int32 → Option Int32
  | 0, _, _, _, _ => none
  | n + 1, x6, x7, x8, x9 =>
    if x9 < x3 then
      (gR 11 h x0 1).bind fun v8 =>
      (gR 11 h x0 1).bind fun v9 =>
      (gI 1 h v9 5).bind fun v10 =>
      dz 13 <|
      (ko 1 h v8).bind fun _ => (F_X1_balance v8 x1 x2 ((v10 + x9) - (v10 + x9) / 13 * 13) h).bind fun v11 =>
      if v11 ≤ 0 then
        F_X11_odds_B97 x0 x1 x2 x3 x4 x5 x6 x7 x8 x9 0 h (fun u6 u7 u8 u9 => F_X11_odds_B61 x0 x1 x2 x3 x4 x5 h n u6 u7 u8 u9)
      else
        F_X11_odds_B97 x0 x1 x2 x3 x4 x5 x6 x7 x8 x9 1 h (fun u6 u7 u8 u9 => F_X11_odds_B61 x0 x1 x2 x3 x4 x5 h n u6 u7 u8 u9)
    else
      if x5 = 0 then
        (F_X11_inLowestTerms x6 x7 1).bind fun v7 =>
        some v7
      else
        (F_X11_inLowestTerms x6 x7 0).bind fun v6 =>
        some v6
theorem w_X11_odds_B61 {z0 : Int32} (x0 : Nat) (x1 : Int32) (x2 : Int32) (x3 : Int32) (x4 : Int32) (x5 : Int32) (h : abH)   : ∀ (n : Nat) (x6 : Int32) (x7 : Int32) (x8 : Int32) (x9 : Int32), F_X11_odds_B61 x0 x1 x2 x3 x4 x5 h n x6 x7 x8 x9 = some z0 → abW cX11_odds 11 RX11 (some .int) false 5 0 0 none (some (.int z0), h) 61 [some (.ref x0), some (.int x1), some (.int x2), some (.int x3), some (.int x4), some (.int x5), some (.int x6), some (.int x7), some (.int x8), some (.int x9), none] [] h 0 0 := by
  intro n
  induction n with
  | zero =>
    intro x6 x7 x8 x9 hf
    exact absurd (show (none : Option Int32) = some _ from hf) (by simp)
  | succ n ih =>
    intro x6 x7 x8 x9 hf
    rw [F_X11_odds_B61.eq_2] at hf
    refine ab_iload dX11_odds_61 rfl ?_
    refine ab_iload_n 3 dX11_odds_63 rfl rfl ?_
    refine ab_icmp_ge 144 dX11_odds_64 (by decide) hf (fun hf => ?_) (fun hf => ?_)
    · refine ab_aload_n 0 dX11_odds_67 rfl rfl ?_
      refine f_getR fs_X11_19 dX11_odds_68 hf (fun v8 hf => ?_)
      refine ab_iload_n 1 dX11_odds_71 rfl rfl ?_
      refine ab_iload_n 2 dX11_odds_72 rfl rfl ?_
      refine ab_aload_n 0 dX11_odds_73 rfl rfl ?_
      refine f_getR fs_X11_19 dX11_odds_74 hf (fun v9 hf => ?_)
      refine f_getI fs_X11_108 dX11_odds_77 hf (fun v10 hf => ?_)
      refine ab_iload dX11_odds_80 rfl ?_
      refine ab_iadd dX11_odds_82 ?_
      refine ab_bipush dX11_odds_83 kbp_13 ?_
      refine f_irem dX11_odds_85 hf (fun hf => ?_)
      refine f_V_i (As := [.int x1, .int x2, .int ((v10 + x9) - (v10 + x9) / 13 * 13)]) (st := []) cs_X11_153 (fun v q => m_X1_balance v8 x1 x2 ((v10 + x9) - (v10 + x9) / 13 * 13) h q) rfl rfl dX11_odds_86 (rmk rfl) hf (fun v11 hf => ?_)
      refine ab_if_le 96 dX11_odds_89 (by decide) hf (fun hf => ?_) (fun hf => ?_)
      · refine ab_iconst dX11_odds_96 kic_0 ?_
        exact ab_msk [true, true, true, true, true, true, true, true, true, true, true] (w_X11_odds_B97 x0 x1 x2 x3 x4 x5 x6 x7 x8 x9 0 h (fun u6 u7 u8 u9 => F_X11_odds_B61 x0 x1 x2 x3 x4 x5 h n u6 u7 u8 u9) (fun u6 u7 u8 u9 hf => ih u6 u7 u8 u9 hf) hf)
      refine ab_iconst dX11_odds_92 kic_1 ?_
      refine ab_goto 97 dX11_odds_93 (by decide) ?_
      exact ab_msk [true, true, true, true, true, true, true, true, true, true, true] (w_X11_odds_B97 x0 x1 x2 x3 x4 x5 x6 x7 x8 x9 1 h (fun u6 u7 u8 u9 => F_X11_odds_B61 x0 x1 x2 x3 x4 x5 h n u6 u7 u8 u9) (fun u6 u7 u8 u9 hf => ih u6 u7 u8 u9 hf) hf)
    refine ab_iload dX11_odds_144 rfl ?_
    refine ab_iload dX11_odds_146 rfl ?_
    refine ab_iload dX11_odds_148 rfl ?_
    refine ab_if_ne 157 dX11_odds_150 (by decide) hf (fun hf => ?_) (fun hf => ?_)
    · refine ab_iconst dX11_odds_153 kic_1 ?_
      refine ab_goto 158 dX11_odds_154 (by decide) ?_
      refine f_S_i (As := [.int x6, .int x7, .int 1]) (st := []) cs_X11_195 (fun v q => m_X11_inLowestTerms x6 x7 1 h q) rfl rfl dX11_odds_158 (rmk rfl) hf (fun v7 hf => ?_)
      exact f_reti dX11_odds_161 rfl (Nat.le_refl 0) (Nat.le_refl 0) hf
    refine ab_iconst dX11_odds_157 kic_0 ?_
    refine f_S_i (As := [.int x6, .int x7, .int 0]) (st := []) cs_X11_195 (fun v q => m_X11_inLowestTerms x6 x7 0 h q) rfl rfl dX11_odds_158 (rmk rfl) hf (fun v6 hf => ?_)
    exact f_reti dX11_odds_161 rfl (Nat.le_refl 0) (Nat.le_refl 0) hf
def F_X11_odds (a0 : Nat) (a1 : Int32) (a2 : Int32) (a3 : Int32) (a4 : Int32) (a5 : Int32) (h : abH) : Option Int32 :=
  (gR 11 h a0 1).bind fun v1 =>
  (ko 1 h v1).bind fun _ => (F_X1_hasTwo v1 a1 a2 h).bind fun v2 =>
  if v2 = 0 then
    some (-101)
  else
    (F_X11_within a3 1 6).bind fun v3 =>
    if v3 = 0 then
      some (-102)
    else
      (F_X11_within a4 0 10).bind fun v4 =>
      if v4 = 0 then
        some (-102)
      else
        (F_X11_within a5 0 1).bind fun v5 =>
        if v5 = 0 then
          some (-102)
        else
          F_X11_odds_B61 a0 a1 a2 a3 a4 a5 h 200 0 1 1 0
theorem m_X11_odds {z0 : Int32} (a0 : Nat) (a1 : Int32) (a2 : Int32) (a3 : Int32) (a4 : Int32) (a5 : Int32) (h : abH) (hf : F_X11_odds a0 a1 a2 a3 a4 a5 h = some z0) : abM yX11_odds cX11_odds 11 (some .int) 5 0 0 [.ref a0, .int a1, .int a2, .int a3, .int a4, .int a5] h (some (.int z0)) h := by
  refine abM_of (ini := false) [some (.ref a0), some (.int a1), some (.int a2), some (.int a3), some (.int a4), some (.int a5), none, none, none, none, none] (by decide +kernel) (fun q => by first | rfl | cases q) (Nat.le_of_ble_eq_true rfl) rfl ?_
  unfold F_X11_odds at hf
  refine ab_aload_n 0 dX11_odds_0 rfl rfl ?_
  refine f_getR fs_X11_19 dX11_odds_1 hf (fun v1 hf => ?_)
  refine ab_iload_n 1 dX11_odds_4 rfl rfl ?_
  refine ab_iload_n 2 dX11_odds_5 rfl rfl ?_
  refine f_V_i (As := [.int a1, .int a2]) (st := []) cs_X11_149 (fun v q => m_X1_hasTwo v1 a1 a2 h q) rfl rfl dX11_odds_6 (rmk rfl) hf (fun v2 hf => ?_)
  refine ab_if_ne 15 dX11_odds_9 (by decide) hf (fun hf => ?_) (fun hf => ?_)
  · refine ab_bipush dX11_odds_12 kbp_m101 ?_
    exact f_reti dX11_odds_14 rfl (Nat.le_refl 0) (Nat.le_refl 0) hf
  refine ab_iload_n 3 dX11_odds_15 rfl rfl ?_
  refine ab_iconst dX11_odds_16 kic_1 ?_
  refine ab_bipush dX11_odds_17 kbp_6 ?_
  refine f_S_i (As := [.int a3, .int 1, .int 6]) (st := []) cs_X11_54 (fun v q => m_X11_within a3 1 6 h q) rfl rfl dX11_odds_19 (rmk rfl) hf (fun v3 hf => ?_)
  refine ab_if_eq 46 dX11_odds_22 (by decide) hf (fun hf => ?_) (fun hf => ?_)
  · refine ab_bipush dX11_odds_46 kbp_m102 ?_
    exact f_reti dX11_odds_48 rfl (Nat.le_refl 0) (Nat.le_refl 0) hf
  refine ab_iload dX11_odds_25 rfl ?_
  refine ab_iconst dX11_odds_27 kic_0 ?_
  refine ab_bipush dX11_odds_28 kbp_10 ?_
  refine f_S_i (As := [.int a4, .int 0, .int 10]) (st := []) cs_X11_54 (fun v q => m_X11_within a4 0 10 h q) rfl rfl dX11_odds_30 (rmk rfl) hf (fun v4 hf => ?_)
  refine ab_if_eq 46 dX11_odds_33 (by decide) hf (fun hf => ?_) (fun hf => ?_)
  · refine ab_bipush dX11_odds_46 kbp_m102 ?_
    exact f_reti dX11_odds_48 rfl (Nat.le_refl 0) (Nat.le_refl 0) hf
  refine ab_iload dX11_odds_36 rfl ?_
  refine ab_iconst dX11_odds_38 kic_0 ?_
  refine ab_iconst dX11_odds_39 kic_1 ?_
  refine f_S_i (As := [.int a5, .int 0, .int 1]) (st := []) cs_X11_54 (fun v q => m_X11_within a5 0 1 h q) rfl rfl dX11_odds_40 (rmk rfl) hf (fun v5 hf => ?_)
  refine ab_if_ne 49 dX11_odds_43 (by decide) hf (fun hf => ?_) (fun hf => ?_)
  · refine ab_bipush dX11_odds_46 kbp_m102 ?_
    exact f_reti dX11_odds_48 rfl (Nat.le_refl 0) (Nat.le_refl 0) hf
  refine ab_iconst dX11_odds_49 kic_0 ?_
  refine ab_istore [some (.ref a0), some (.int a1), some (.int a2), some (.int a3), some (.int a4), some (.int a5), some (.int 0), none, none, none, none] dX11_odds_50 (by decide) rfl rfl ?_
  refine ab_iconst dX11_odds_52 kic_1 ?_
  refine ab_istore [some (.ref a0), some (.int a1), some (.int a2), some (.int a3), some (.int a4), some (.int a5), some (.int 0), some (.int 1), none, none, none] dX11_odds_53 (by decide) rfl rfl ?_
  refine ab_iconst dX11_odds_55 kic_1 ?_
  refine ab_istore [some (.ref a0), some (.int a1), some (.int a2), some (.int a3), some (.int a4), some (.int a5), some (.int 0), some (.int 1), some (.int 1), none, none] dX11_odds_56 (by decide) rfl rfl ?_
  refine ab_iconst dX11_odds_58 kic_0 ?_
  refine ab_istore [some (.ref a0), some (.int a1), some (.int a2), some (.int a3), some (.int a4), some (.int a5), some (.int 0), some (.int 1), some (.int 1), some (.int 0), none] dX11_odds_59 (by decide) rfl rfl ?_
  exact ab_msk [true, true, true, true, true, true, true, true, true, true, true] (w_X11_odds_B61 a0 a1 a2 a3 a4 a5 h 200 0 1 1 0 hf)
def F_X11_see_B118 (x0 : Nat) (y0 : Nat) (y1 : Int32) (y2 : Int32) (h : abH) : Option (Int32 × abH) :=
  (sa 0 h y0 y1 y2).bind fun h26 =>
  (gR 11 h26 x0 1).bind fun v27 =>
  (gI 1 h26 v27 10).bind fun v28 =>
  (sV 1 h26 v27 10 (.int (v28 + 1))).bind fun h29 =>
  (gR 11 h29 x0 1).bind fun v30 =>
  (gI 1 h29 v30 10).bind fun v31 =>
  some (v31, h29)
theorem w_X11_see_B118 {z0 : Int32} {hz : abH} (x0 : Nat) (y0 : Nat) (y1 : Int32) (y2 : Int32) (h : abH)   (hf : F_X11_see_B118 x0 y0 y1 y2 h = some (z0, hz)) : abW cX11_see 5 RX11 (some .int) false 2 0 0 none (some (.int z0), hz) 118 [some (.ref x0), none, none, none, none] [.int y2, .int y1, .ref y0] h 0 0 := by
  unfold F_X11_see_B118 at hf
  refine f_iast dX11_see_118 hf (fun h26 hf => ?_)
  refine ab_aload_n 0 dX11_see_119 rfl rfl ?_
  refine f_getR fs_X11_19 dX11_see_120 hf (fun v27 hf => ?_)
  refine ab_dup dX11_see_123 rfl ?_
  refine f_getI fs_X11_199 dX11_see_124 hf (fun v28 hf => ?_)
  refine ab_iconst dX11_see_127 kic_1 ?_
  refine ab_iadd dX11_see_128 ?_
  refine f_put fp_X11_199 (abFit_i _) dX11_see_129 hf (fun h29 hf => ?_)
  refine ab_aload_n 0 dX11_see_132 rfl rfl ?_
  refine f_getR fs_X11_19 dX11_see_133 hf (fun v30 hf => ?_)
  refine f_getI fs_X11_199 dX11_see_136 hf (fun v31 hf => ?_)
  exact f_reti2 dX11_see_139 rfl (Nat.le_refl 0) (Nat.le_refl 0) hf
def F_X11_see (a0 : Nat) (a1 : Int32) (a2 : Int32) (a3 : Int32) (a4 : Int32) (h : abH) : Option (Int32 × abH) :=
  (gR 11 h a0 1).bind fun v1 =>
  (ko 1 h v1).bind fun _ => (F_X1_has v1 a1 h).bind fun v2 =>
  if v2 = 0 then
    some ((-101), h)
  else
    (F_X11_isHour a2).bind fun v3 =>
    if v3 = 0 then
      some ((-102), h)
    else
      (F_X11_isTile a3).bind fun v4 =>
      if v4 = 0 then
        some ((-102), h)
      else
        (gR 11 h a0 1).bind fun v5 =>
        (gI 1 h v5 10).bind fun v6 =>
        if v6 < 8 then
          (gR 11 h a0 1).bind fun v7 =>
          (gR 1 h v7 11).bind fun v8 =>
          (gR 11 h a0 1).bind fun v9 =>
          (gI 1 h v9 10).bind fun v10 =>
          (sa 0 h v8 v10 a1).bind fun h11 =>
          (gR 11 h11 a0 1).bind fun v12 =>
          (gR 1 h11 v12 12).bind fun v13 =>
          (gR 11 h11 a0 1).bind fun v14 =>
          (gI 1 h11 v14 10).bind fun v15 =>
          (sa 0 h11 v13 v15 a2).bind fun h16 =>
          (gR 11 h16 a0 1).bind fun v17 =>
          (gR 1 h16 v17 13).bind fun v18 =>
          (gR 11 h16 a0 1).bind fun v19 =>
          (gI 1 h16 v19 10).bind fun v20 =>
          (sa 0 h16 v18 v20 a3).bind fun h21 =>
          (gR 11 h21 a0 1).bind fun v22 =>
          (gR 1 h21 v22 14).bind fun v23 =>
          (gR 11 h21 a0 1).bind fun v24 =>
          (gI 1 h21 v24 10).bind fun v25 =>
          if a4 = 0 then
            F_X11_see_B118 a0 v23 v25 0 h21
          else
            F_X11_see_B118 a0 v23 v25 1 h21
        else
          some ((-104), h)
theorem m_X11_see {z0 : Int32} {hz : abH} (a0 : Nat) (a1 : Int32) (a2 : Int32) (a3 : Int32) (a4 : Int32) (h : abH) (hf : F_X11_see a0 a1 a2 a3 a4 h = some (z0, hz)) : abM yX11_see cX11_see 5 (some .int) 2 0 0 [.ref a0, .int a1, .int a2, .int a3, .int a4] h (some (.int z0)) hz := by
  refine abM_of (ini := false) [some (.ref a0), some (.int a1), some (.int a2), some (.int a3), some (.int a4)] (by decide +kernel) (fun q => by first | rfl | cases q) (Nat.le_of_ble_eq_true rfl) rfl ?_
  unfold F_X11_see at hf
  refine ab_aload_n 0 dX11_see_0 rfl rfl ?_
  refine f_getR fs_X11_19 dX11_see_1 hf (fun v1 hf => ?_)
  refine ab_iload_n 1 dX11_see_4 rfl rfl ?_
  refine f_V_i (As := [.int a1]) (st := []) cs_X11_88 (fun v q => m_X1_has v1 a1 h q) rfl rfl dX11_see_5 (rmk rfl) hf (fun v2 hf => ?_)
  refine ab_if_ne 14 dX11_see_8 (by decide) hf (fun hf => ?_) (fun hf => ?_)
  · refine ab_bipush dX11_see_11 kbp_m101 ?_
    exact f_reti2 dX11_see_13 rfl (Nat.le_refl 0) (Nat.le_refl 0) hf
  refine ab_iload_n 2 dX11_see_14 rfl rfl ?_
  refine f_S_i (As := [.int a2]) (st := []) cs_X11_134 (fun v q => m_X11_isHour a2 h q) rfl rfl dX11_see_15 (rmk rfl) hf (fun v3 hf => ?_)
  refine ab_if_eq 28 dX11_see_18 (by decide) hf (fun hf => ?_) (fun hf => ?_)
  · refine ab_bipush dX11_see_28 kbp_m102 ?_
    exact f_reti2 dX11_see_30 rfl (Nat.le_refl 0) (Nat.le_refl 0) hf
  refine ab_iload_n 3 dX11_see_21 rfl rfl ?_
  refine f_S_i (As := [.int a3]) (st := []) cs_X11_163 (fun v q => m_X11_isTile a3 h q) rfl rfl dX11_see_22 (rmk rfl) hf (fun v4 hf => ?_)
  refine ab_if_ne 31 dX11_see_25 (by decide) hf (fun hf => ?_) (fun hf => ?_)
  · refine ab_bipush dX11_see_28 kbp_m102 ?_
    exact f_reti2 dX11_see_30 rfl (Nat.le_refl 0) (Nat.le_refl 0) hf
  refine ab_aload_n 0 dX11_see_31 rfl rfl ?_
  refine f_getR fs_X11_19 dX11_see_32 hf (fun v5 hf => ?_)
  refine f_getI fs_X11_199 dX11_see_35 hf (fun v6 hf => ?_)
  refine ab_bipush dX11_see_38 kbp_8 ?_
  refine ab_icmp_lt 46 dX11_see_40 (by decide) hf (fun hf => ?_) (fun hf => ?_)
  · refine ab_aload_n 0 dX11_see_46 rfl rfl ?_
    refine f_getR fs_X11_19 dX11_see_47 hf (fun v7 hf => ?_)
    refine f_getR fs_X11_202 dX11_see_50 hf (fun v8 hf => ?_)
    refine ab_aload_n 0 dX11_see_53 rfl rfl ?_
    refine f_getR fs_X11_19 dX11_see_54 hf (fun v9 hf => ?_)
    refine f_getI fs_X11_199 dX11_see_57 hf (fun v10 hf => ?_)
    refine ab_iload_n 1 dX11_see_60 rfl rfl ?_
    refine f_iast dX11_see_61 hf (fun h11 hf => ?_)
    refine ab_aload_n 0 dX11_see_62 rfl rfl ?_
    refine f_getR fs_X11_19 dX11_see_63 hf (fun v12 hf => ?_)
    refine f_getR fs_X11_205 dX11_see_66 hf (fun v13 hf => ?_)
    refine ab_aload_n 0 dX11_see_69 rfl rfl ?_
    refine f_getR fs_X11_19 dX11_see_70 hf (fun v14 hf => ?_)
    refine f_getI fs_X11_199 dX11_see_73 hf (fun v15 hf => ?_)
    refine ab_iload_n 2 dX11_see_76 rfl rfl ?_
    refine f_iast dX11_see_77 hf (fun h16 hf => ?_)
    refine ab_aload_n 0 dX11_see_78 rfl rfl ?_
    refine f_getR fs_X11_19 dX11_see_79 hf (fun v17 hf => ?_)
    refine f_getR fs_X11_208 dX11_see_82 hf (fun v18 hf => ?_)
    refine ab_aload_n 0 dX11_see_85 rfl rfl ?_
    refine f_getR fs_X11_19 dX11_see_86 hf (fun v19 hf => ?_)
    refine f_getI fs_X11_199 dX11_see_89 hf (fun v20 hf => ?_)
    refine ab_iload_n 3 dX11_see_92 rfl rfl ?_
    refine f_iast dX11_see_93 hf (fun h21 hf => ?_)
    refine ab_aload_n 0 dX11_see_94 rfl rfl ?_
    refine f_getR fs_X11_19 dX11_see_95 hf (fun v22 hf => ?_)
    refine f_getR fs_X11_211 dX11_see_98 hf (fun v23 hf => ?_)
    refine ab_aload_n 0 dX11_see_101 rfl rfl ?_
    refine f_getR fs_X11_19 dX11_see_102 hf (fun v24 hf => ?_)
    refine f_getI fs_X11_199 dX11_see_105 hf (fun v25 hf => ?_)
    refine ab_iload dX11_see_108 rfl ?_
    refine ab_if_eq 117 dX11_see_110 (by decide) hf (fun hf => ?_) (fun hf => ?_)
    · refine ab_iconst dX11_see_117 kic_0 ?_
      exact ab_msk [true, false, false, false, false] (w_X11_see_B118 a0 v23 v25 0 h21 hf)
    refine ab_iconst dX11_see_113 kic_1 ?_
    refine ab_goto 118 dX11_see_114 (by decide) ?_
    exact ab_msk [true, false, false, false, false] (w_X11_see_B118 a0 v23 v25 1 h21 hf)
  refine ab_bipush dX11_see_43 kbp_m104 ?_
  exact f_reti2 dX11_see_45 rfl (Nat.le_refl 0) (Nat.le_refl 0) hf
def F_X11_forget (a0 : Nat) (h : abH) : Option (Int32 × abH) :=
  (gR 11 h a0 1).bind fun v1 =>
  (gI 1 h v1 10).bind fun v2 =>
  (gR 11 h a0 1).bind fun v3 =>
  (sV 1 h v3 10 (.int 0)).bind fun h4 =>
  some (v2, h4)
theorem m_X11_forget {z0 : Int32} {hz : abH} (a0 : Nat) (h : abH) (hf : F_X11_forget a0 h = some (z0, hz)) : abM yX11_forget cX11_forget 2 (some .int) 1 0 0 [.ref a0] h (some (.int z0)) hz := by
  refine abM_of (ini := false) [some (.ref a0), none] (by decide +kernel) (fun q => by first | rfl | cases q) (Nat.le_of_ble_eq_true rfl) rfl ?_
  unfold F_X11_forget at hf
  refine ab_aload_n 0 dX11_forget_0 rfl rfl ?_
  refine f_getR fs_X11_19 dX11_forget_1 hf (fun v1 hf => ?_)
  refine f_getI fs_X11_199 dX11_forget_4 hf (fun v2 hf => ?_)
  refine ab_istore_n 1 [some (.ref a0), some (.int v2)] dX11_forget_7 rfl (by decide) rfl rfl ?_
  refine ab_aload_n 0 dX11_forget_8 rfl rfl ?_
  refine f_getR fs_X11_19 dX11_forget_9 hf (fun v3 hf => ?_)
  refine ab_iconst dX11_forget_12 kic_0 ?_
  refine f_put fp_X11_199 (abFit_i _) dX11_forget_13 hf (fun h4 hf => ?_)
  refine ab_iload_n 1 dX11_forget_16 rfl rfl ?_
  exact f_reti2 dX11_forget_17 rfl (Nat.le_refl 0) (Nat.le_refl 0) hf
def F_X11_terms (a0 : Nat) (a1 : Int32) (a2 : Int32) (a3 : Int32) (h : abH) : Option (Int32 × abH) :=
  (F_X11_within a1 1 60).bind fun v1 =>
  if v1 = 0 then
    some ((-102), h)
  else
    if a2 < 0 then
      some ((-102), h)
    else
      (F_X11_within a3 0 2).bind fun v2 =>
      if v2 = 0 then
        some ((-102), h)
      else
        (gR 11 h a0 1).bind fun v3 =>
        (ko 1 h v3).bind fun _ => (F_X1_isNone v3 h).bind fun v4 =>
        if v4 = 0 then
          (gR 11 h a0 6).bind fun v5 =>
          (gR 11 h a0 1).bind fun v6 =>
          (ko 9 h v5).bind fun _ => (F_X9_hold v5 v6 a1 a2 h).bind fun h7 =>
          if a3 = 0 then
            (gR 11 h7 a0 6).bind fun v12 =>
            (gI 9 h7 v12 1).bind fun v13 =>
            some (v13, h7)
          else
            if a3 = 1 then
              (gR 11 h7 a0 6).bind fun v10 =>
              (gI 9 h7 v10 2).bind fun v11 =>
              some (v11, h7)
            else
              (gR 11 h7 a0 6).bind fun v8 =>
              (gJ 9 h7 v8 0).bind fun v9 =>
              some (v9.toInt32, h7)
        else
          some ((-103), h)
theorem m_X11_terms {z0 : Int32} {hz : abH} (a0 : Nat) (a1 : Int32) (a2 : Int32) (a3 : Int32) (h : abH) (hf : F_X11_terms a0 a1 a2 a3 h = some (z0, hz)) : abM yX11_terms cX11_terms 4 (some .int) 6 0 0 [.ref a0, .int a1, .int a2, .int a3] h (some (.int z0)) hz := by
  refine abM_of (ini := false) [some (.ref a0), some (.int a1), some (.int a2), some (.int a3)] (by decide +kernel) (fun q => by first | rfl | cases q) (Nat.le_of_ble_eq_true rfl) rfl ?_
  unfold F_X11_terms at hf
  refine ab_iload_n 1 dX11_terms_0 rfl rfl ?_
  refine ab_iconst dX11_terms_1 kic_1 ?_
  refine ab_bipush dX11_terms_2 kbp_60 ?_
  refine f_S_i (As := [.int a1, .int 1, .int 60]) (st := []) cs_X11_54 (fun v q => m_X11_within a1 1 60 h q) rfl rfl dX11_terms_4 (rmk rfl) hf (fun v1 hf => ?_)
  refine ab_if_eq 23 dX11_terms_7 (by decide) hf (fun hf => ?_) (fun hf => ?_)
  · refine ab_bipush dX11_terms_23 kbp_m102 ?_
    exact f_reti2 dX11_terms_25 rfl (Nat.le_refl 0) (Nat.le_refl 0) hf
  refine ab_iload_n 2 dX11_terms_10 rfl rfl ?_
  refine ab_if_lt 23 dX11_terms_11 (by decide) hf (fun hf => ?_) (fun hf => ?_)
  · refine ab_bipush dX11_terms_23 kbp_m102 ?_
    exact f_reti2 dX11_terms_25 rfl (Nat.le_refl 0) (Nat.le_refl 0) hf
  refine ab_iload_n 3 dX11_terms_14 rfl rfl ?_
  refine ab_iconst dX11_terms_15 kic_0 ?_
  refine ab_iconst dX11_terms_16 kic_2 ?_
  refine f_S_i (As := [.int a3, .int 0, .int 2]) (st := []) cs_X11_54 (fun v q => m_X11_within a3 0 2 h q) rfl rfl dX11_terms_17 (rmk rfl) hf (fun v2 hf => ?_)
  refine ab_if_ne 26 dX11_terms_20 (by decide) hf (fun hf => ?_) (fun hf => ?_)
  · refine ab_bipush dX11_terms_23 kbp_m102 ?_
    exact f_reti2 dX11_terms_25 rfl (Nat.le_refl 0) (Nat.le_refl 0) hf
  refine ab_aload_n 0 dX11_terms_26 rfl rfl ?_
  refine f_getR fs_X11_19 dX11_terms_27 hf (fun v3 hf => ?_)
  refine f_V_i (As := []) (st := []) cs_X11_157 (fun v q => m_X1_isNone v3 h q) rfl rfl dX11_terms_30 (rmk rfl) hf (fun v4 hf => ?_)
  refine ab_if_eq 39 dX11_terms_33 (by decide) hf (fun hf => ?_) (fun hf => ?_)
  · refine ab_aload_n 0 dX11_terms_39 rfl rfl ?_
    refine f_getR fs_X11_50 dX11_terms_40 hf (fun v5 hf => ?_)
    refine ab_aload_n 0 dX11_terms_43 rfl rfl ?_
    refine f_getR fs_X11_19 dX11_terms_44 hf (fun v6 hf => ?_)
    refine ab_iload_n 1 dX11_terms_47 rfl rfl ?_
    refine ab_iload_n 2 dX11_terms_48 rfl rfl ?_
    refine f_V_v2 (As := [.ref v6, .int a1, .int a2]) (st := []) cs_X11_214 (fun hq q => m_X9_hold v5 v6 a1 a2 h q) rfl rfl dX11_terms_49 (rmk rfl) hf (fun h7 hf => ?_)
    refine ab_iload_n 3 dX11_terms_52 rfl rfl ?_
    refine ab_if_ne 64 dX11_terms_53 (by decide) hf (fun hf => ?_) (fun hf => ?_)
    · refine ab_aload_n 0 dX11_terms_56 rfl rfl ?_
      refine f_getR fs_X11_50 dX11_terms_57 hf (fun v12 hf => ?_)
      refine f_getI fs_X11_218 dX11_terms_60 hf (fun v13 hf => ?_)
      exact f_reti2 dX11_terms_63 rfl (Nat.le_refl 0) (Nat.le_refl 0) hf
    refine ab_iload_n 3 dX11_terms_64 rfl rfl ?_
    refine ab_iconst dX11_terms_65 kic_1 ?_
    refine ab_icmp_ne 79 dX11_terms_66 (by decide) hf (fun hf => ?_) (fun hf => ?_)
    · refine ab_aload_n 0 dX11_terms_69 rfl rfl ?_
      refine f_getR fs_X11_50 dX11_terms_70 hf (fun v10 hf => ?_)
      refine f_getI fs_X11_221 dX11_terms_73 hf (fun v11 hf => ?_)
      refine ab_goto 87 dX11_terms_76 (by decide) ?_
      exact f_reti2 dX11_terms_87 rfl (Nat.le_refl 0) (Nat.le_refl 0) hf
    refine ab_aload_n 0 dX11_terms_79 rfl rfl ?_
    refine f_getR fs_X11_50 dX11_terms_80 hf (fun v8 hf => ?_)
    refine f_getJ fs_X11_224 dX11_terms_83 hf (fun v9 hf => ?_)
    refine ab_l2i dX11_terms_86 ?_
    exact f_reti2 dX11_terms_87 rfl (Nat.le_refl 0) (Nat.le_refl 0) hf
  refine ab_bipush dX11_terms_36 kbp_m103 ?_
  exact f_reti2 dX11_terms_38 rfl (Nat.le_refl 0) (Nat.le_refl 0) hf
def F_X11_image (a0 : Nat) (h : abH) : Option (Int32 × abH) :=
  (gR 11 h a0 1).bind fun v1 =>
  (ko 1 h v1).bind fun _ => (F_X1_isNone v1 h).bind fun v2 =>
  if v2 = 0 then
    (gR 11 h a0 2).bind fun v3 =>
    (gR 11 h a0 1).bind fun v4 =>
    (ko 1 h v3).bind fun _ => (F_X1_keepAllOf v3 v4 h).bind fun h5 =>
    (sV 11 h5 a0 7 (.int 1)).bind fun h6 =>
    (gR 11 h6 a0 2).bind fun v7 =>
    (ko 1 h6 v7).bind fun _ => (F_X1_hoursInAll v7 h6).bind fun v8 =>
    some (v8, h6)
  else
    some ((-103), h)
theorem m_X11_image {z0 : Int32} {hz : abH} (a0 : Nat) (h : abH) (hf : F_X11_image a0 h = some (z0, hz)) : abM yX11_image cX11_image 1 (some .int) 4 0 0 [.ref a0] h (some (.int z0)) hz := by
  refine abM_of (ini := false) [some (.ref a0)] (by decide +kernel) (fun q => by first | rfl | cases q) (Nat.le_of_ble_eq_true rfl) rfl ?_
  unfold F_X11_image at hf
  refine ab_aload_n 0 dX11_image_0 rfl rfl ?_
  refine f_getR fs_X11_19 dX11_image_1 hf (fun v1 hf => ?_)
  refine f_V_i (As := []) (st := []) cs_X11_157 (fun v q => m_X1_isNone v1 h q) rfl rfl dX11_image_4 (rmk rfl) hf (fun v2 hf => ?_)
  refine ab_if_eq 13 dX11_image_7 (by decide) hf (fun hf => ?_) (fun hf => ?_)
  · refine ab_aload_n 0 dX11_image_13 rfl rfl ?_
    refine f_getR fs_X11_23 dX11_image_14 hf (fun v3 hf => ?_)
    refine ab_aload_n 0 dX11_image_17 rfl rfl ?_
    refine f_getR fs_X11_19 dX11_image_18 hf (fun v4 hf => ?_)
    refine f_V_v2 (As := [.ref v4]) (st := []) cs_X11_228 (fun hq q => m_X1_keepAllOf v3 v4 h q) rfl rfl dX11_image_21 (rmk rfl) hf (fun h5 hf => ?_)
    refine ab_aload_n 0 dX11_image_24 rfl rfl ?_
    refine ab_iconst dX11_image_25 kic_1 ?_
    refine f_put fp_X11_78 (abFit_z (by decide)) dX11_image_26 hf (fun h6 hf => ?_)
    refine ab_aload_n 0 dX11_image_29 rfl rfl ?_
    refine f_getR fs_X11_23 dX11_image_30 hf (fun v7 hf => ?_)
    refine f_V_i (As := []) (st := []) cs_X11_231 (fun v q => m_X1_hoursInAll v7 h6 q) rfl rfl dX11_image_33 (rmk rfl) hf (fun v8 hf => ?_)
    exact f_reti2 dX11_image_36 rfl (Nat.le_refl 0) (Nat.le_refl 0) hf
  refine ab_bipush dX11_image_10 kbp_m103 ?_
  exact f_reti2 dX11_image_12 rfl (Nat.le_refl 0) (Nat.le_refl 0) hf
def F_X11_restore (a0 : Nat) (h : abH) : Option (Int32 × abH) :=
  (gI 11 h a0 7).bind fun v1 =>
  if v1 = 0 then
    some ((-103), h)
  else
    (gR 11 h a0 1).bind fun v2 =>
    (gR 11 h a0 2).bind fun v3 =>
    (ko 1 h v2).bind fun _ => (F_X1_keepAllOf v2 v3 h).bind fun h4 =>
    (gR 11 h4 a0 1).bind fun v5 =>
    (ko 1 h4 v5).bind fun _ => (F_X1_hoursInAll v5 h4).bind fun v6 =>
    some (v6, h4)
theorem m_X11_restore {z0 : Int32} {hz : abH} (a0 : Nat) (h : abH) (hf : F_X11_restore a0 h = some (z0, hz)) : abM yX11_restore cX11_restore 1 (some .int) 4 0 0 [.ref a0] h (some (.int z0)) hz := by
  refine abM_of (ini := false) [some (.ref a0)] (by decide +kernel) (fun q => by first | rfl | cases q) (Nat.le_of_ble_eq_true rfl) rfl ?_
  unfold F_X11_restore at hf
  refine ab_aload_n 0 dX11_restore_0 rfl rfl ?_
  refine f_getI fs_X11_78 dX11_restore_1 hf (fun v1 hf => ?_)
  refine ab_if_ne 10 dX11_restore_4 (by decide) hf (fun hf => ?_) (fun hf => ?_)
  · refine ab_bipush dX11_restore_7 kbp_m103 ?_
    exact f_reti2 dX11_restore_9 rfl (Nat.le_refl 0) (Nat.le_refl 0) hf
  refine ab_aload_n 0 dX11_restore_10 rfl rfl ?_
  refine f_getR fs_X11_19 dX11_restore_11 hf (fun v2 hf => ?_)
  refine ab_aload_n 0 dX11_restore_14 rfl rfl ?_
  refine f_getR fs_X11_23 dX11_restore_15 hf (fun v3 hf => ?_)
  refine f_V_v2 (As := [.ref v3]) (st := []) cs_X11_228 (fun hq q => m_X1_keepAllOf v2 v3 h q) rfl rfl dX11_restore_18 (rmk rfl) hf (fun h4 hf => ?_)
  refine ab_aload_n 0 dX11_restore_21 rfl rfl ?_
  refine f_getR fs_X11_19 dX11_restore_22 hf (fun v5 hf => ?_)
  refine f_V_i (As := []) (st := []) cs_X11_231 (fun v q => m_X1_hoursInAll v5 h4 q) rfl rfl dX11_restore_25 (rmk rfl) hf (fun v6 hf => ?_)
  exact f_reti2 dX11_restore_28 rfl (Nat.le_refl 0) (Nat.le_refl 0) hf
def F_X11_count (a0 : Nat) (a1 : Int32) (h : abH) : Option Int32 :=
  if a1 = 0 then
    (gR 11 h a0 1).bind fun v1 =>
    (gI 1 h v1 0).bind fun v2 =>
    some v2
  else
  if a1 = 1 then
    (gR 11 h a0 1).bind fun v3 =>
    (gI 1 h v3 5).bind fun v4 =>
    some v4
  else
  if a1 = 2 then
    (gR 11 h a0 1).bind fun v5 =>
    (gI 1 h v5 6).bind fun v6 =>
    some v6
  else
  if a1 = 3 then
    (gR 11 h a0 1).bind fun v7 =>
    (ko 1 h v7).bind fun _ => (F_X1_worthOf v7 1023 h).bind fun v8 =>
    some v8
  else
  if a1 = 4 then
    (gR 11 h a0 1).bind fun v9 =>
    (ko 1 h v9).bind fun _ => (F_X1_tilesCoveredBy v9 1 h).bind fun v10 =>
    some v10
  else
  if a1 = 5 then
    (gR 11 h a0 1).bind fun v11 =>
    (ko 1 h v11).bind fun _ => (F_X1_tilesCoveredBy v11 2 h).bind fun v12 =>
    some v12
  else
  if a1 = 6 then
    (gR 11 h a0 1).bind fun v13 =>
    (gI 1 h v13 7).bind fun v14 =>
    some v14
  else
  if a1 = 7 then
    (gR 11 h a0 1).bind fun v15 =>
    (ko 1 h v15).bind fun _ => (F_X1_casesAsTheyShouldBe v15 h).bind fun v16 =>
    some v16
  else
  if a1 = 8 then
    (gR 11 h a0 1).bind fun v17 =>
    (gI 1 h v17 10).bind fun v18 =>
    some v18
  else
  if a1 = 9 then
    (gR 11 h a0 0).bind fun v19 =>
    (gI 6 h v19 1).bind fun v20 =>
    some v20
  else
  if a1 = 10 then
    (gI 11 h a0 8).bind fun v21 =>
    some v21
  else
    some (-102)
theorem m_X11_count {z0 : Int32} (a0 : Nat) (a1 : Int32) (h : abH) (hf : F_X11_count a0 a1 h = some z0) : abM yX11_count cX11_count 2 (some .int) 6 0 0 [.ref a0, .int a1] h (some (.int z0)) h := by
  refine abM_of (ini := false) [some (.ref a0), some (.int a1)] (by decide +kernel) (fun q => by first | rfl | cases q) (Nat.le_of_ble_eq_true rfl) rfl ?_
  unfold F_X11_count at hf
  refine ab_iload_n 1 dX11_count_0 rfl rfl ?_
  refine f_tab 0 59 60 dX11_count_1 (by decide +kernel) (by decide) hf (fun hf => ?_) (fun q0 hf => ?_)
  · refine ab_aload_n 0 dX11_count_60 rfl rfl ?_
    refine f_getR fs_X11_19 dX11_count_61 hf (fun v1 hf => ?_)
    refine f_getI fs_X11_85 dX11_count_64 hf (fun v2 hf => ?_)
    exact f_reti dX11_count_67 rfl (Nat.le_refl 0) (Nat.le_refl 0) hf
  refine f_tab 1 67 68 dX11_count_1 (by decide +kernel) (by decide) hf (fun hf => ?_) (fun q1 hf => ?_)
  · refine ab_aload_n 0 dX11_count_68 rfl rfl ?_
    refine f_getR fs_X11_19 dX11_count_69 hf (fun v3 hf => ?_)
    refine f_getI fs_X11_108 dX11_count_72 hf (fun v4 hf => ?_)
    exact f_reti dX11_count_75 rfl (Nat.le_refl 0) (Nat.le_refl 0) hf
  refine f_tab 2 75 76 dX11_count_1 (by decide +kernel) (by decide) hf (fun hf => ?_) (fun q2 hf => ?_)
  · refine ab_aload_n 0 dX11_count_76 rfl rfl ?_
    refine f_getR fs_X11_19 dX11_count_77 hf (fun v5 hf => ?_)
    refine f_getI fs_X11_160 dX11_count_80 hf (fun v6 hf => ?_)
    exact f_reti dX11_count_83 rfl (Nat.le_refl 0) (Nat.le_refl 0) hf
  refine f_tab 3 83 84 dX11_count_1 (by decide +kernel) (by decide) hf (fun hf => ?_) (fun q3 hf => ?_)
  · refine ab_aload_n 0 dX11_count_84 rfl rfl ?_
    refine f_getR fs_X11_19 dX11_count_85 hf (fun v7 hf => ?_)
    refine ab_sipush dX11_count_88 ksp_1023 ?_
    refine f_V_i (As := [.int 1023]) (st := []) cs_X11_115 (fun v q => m_X1_worthOf v7 1023 h q) rfl rfl dX11_count_91 (rmk rfl) hf (fun v8 hf => ?_)
    exact f_reti dX11_count_94 rfl (Nat.le_refl 0) (Nat.le_refl 0) hf
  refine f_tab 4 94 95 dX11_count_1 (by decide +kernel) (by decide) hf (fun hf => ?_) (fun q4 hf => ?_)
  · refine ab_aload_n 0 dX11_count_95 rfl rfl ?_
    refine f_getR fs_X11_19 dX11_count_96 hf (fun v9 hf => ?_)
    refine ab_iconst dX11_count_99 kic_1 ?_
    refine f_V_i (As := [.int 1]) (st := []) cs_X11_234 (fun v q => m_X1_tilesCoveredBy v9 1 h q) rfl rfl dX11_count_100 (rmk rfl) hf (fun v10 hf => ?_)
    exact f_reti dX11_count_103 rfl (Nat.le_refl 0) (Nat.le_refl 0) hf
  refine f_tab 5 103 104 dX11_count_1 (by decide +kernel) (by decide) hf (fun hf => ?_) (fun q5 hf => ?_)
  · refine ab_aload_n 0 dX11_count_104 rfl rfl ?_
    refine f_getR fs_X11_19 dX11_count_105 hf (fun v11 hf => ?_)
    refine ab_iconst dX11_count_108 kic_2 ?_
    refine f_V_i (As := [.int 2]) (st := []) cs_X11_234 (fun v q => m_X1_tilesCoveredBy v11 2 h q) rfl rfl dX11_count_109 (rmk rfl) hf (fun v12 hf => ?_)
    exact f_reti dX11_count_112 rfl (Nat.le_refl 0) (Nat.le_refl 0) hf
  refine f_tab 6 112 113 dX11_count_1 (by decide +kernel) (by decide) hf (fun hf => ?_) (fun q6 hf => ?_)
  · refine ab_aload_n 0 dX11_count_113 rfl rfl ?_
    refine f_getR fs_X11_19 dX11_count_114 hf (fun v13 hf => ?_)
    refine f_getI fs_X11_166 dX11_count_117 hf (fun v14 hf => ?_)
    exact f_reti dX11_count_120 rfl (Nat.le_refl 0) (Nat.le_refl 0) hf
  refine f_tab 7 120 121 dX11_count_1 (by decide +kernel) (by decide) hf (fun hf => ?_) (fun q7 hf => ?_)
  · refine ab_aload_n 0 dX11_count_121 rfl rfl ?_
    refine f_getR fs_X11_19 dX11_count_122 hf (fun v15 hf => ?_)
    refine f_V_i (As := []) (st := []) cs_X11_237 (fun v q => m_X1_casesAsTheyShouldBe v15 h q) rfl rfl dX11_count_125 (rmk rfl) hf (fun v16 hf => ?_)
    exact f_reti dX11_count_128 rfl (Nat.le_refl 0) (Nat.le_refl 0) hf
  refine f_tab 8 128 129 dX11_count_1 (by decide +kernel) (by decide) hf (fun hf => ?_) (fun q8 hf => ?_)
  · refine ab_aload_n 0 dX11_count_129 rfl rfl ?_
    refine f_getR fs_X11_19 dX11_count_130 hf (fun v17 hf => ?_)
    refine f_getI fs_X11_199 dX11_count_133 hf (fun v18 hf => ?_)
    exact f_reti dX11_count_136 rfl (Nat.le_refl 0) (Nat.le_refl 0) hf
  refine f_tab 9 136 137 dX11_count_1 (by decide +kernel) (by decide) hf (fun hf => ?_) (fun q9 hf => ?_)
  · refine ab_aload_n 0 dX11_count_137 rfl rfl ?_
    refine f_getR fs_X11_10 dX11_count_138 hf (fun v19 hf => ?_)
    refine f_getI fs_X11_58 dX11_count_141 hf (fun v20 hf => ?_)
    exact f_reti dX11_count_144 rfl (Nat.le_refl 0) (Nat.le_refl 0) hf
  refine f_tab 10 144 145 dX11_count_1 (by decide +kernel) (by decide) hf (fun hf => ?_) (fun q10 hf => ?_)
  · refine ab_aload_n 0 dX11_count_145 rfl rfl ?_
    refine f_getI fs_X11_82 dX11_count_146 hf (fun v21 hf => ?_)
    exact f_reti dX11_count_149 rfl (Nat.le_refl 0) (Nat.le_refl 0) hf
  refine ab_tableOut 150 dX11_count_1 (tout_10 q0 q1 q2 q3 q4 q5 q6 q7 q8 q9 q10) (by decide) ?_
  refine ab_bipush dX11_count_150 kbp_m102 ?_
  exact f_reti dX11_count_152 rfl (Nat.le_refl 0) (Nat.le_refl 0) hf
def F_X11_digest_B304 (x0 : Nat) : Nat → Int64 → Int32 → abH → Option (Int64 × abH)
  | 0, _, _, _ => none
  | n + 1, x1, x3, h =>
    if x3 ≤ 10 then
      (ko 11 h x0).bind fun _ => (F_X11_count x0 x3 h).bind fun v7 =>
      nm ((x1 * 31) + v7.toInt64) fun v8 =>
      F_X11_digest_B304 x0 n v8 (x3 + 1) h
    else
      some (x1, h)
theorem w_X11_digest_B304 {z0 : Int64} {hz : abH} (x0 : Nat)   : ∀ (n : Nat) (x1 : Int64) (x3 : Int32) (h : abH), F_X11_digest_B304 x0 n x1 x3 h = some (z0, hz) → abW cX11_digest 5 RX11 (some .long) false 8 0 0 none (some (.long z0), hz) 304 [some (.ref x0), some (.long x1), none, some (.int x3), none] [] h 0 0 := by
  intro n
  induction n with
  | zero =>
    intro x1 x3 h hf
    exact absurd (show (none : Option (Int64 × abH)) = some _ from hf) (by simp)
  | succ n ih =>
    intro x1 x3 h hf
    rw [F_X11_digest_B304.eq_2] at hf
    refine ab_iload_n 3 dX11_digest_304 rfl rfl ?_
    refine ab_bipush dX11_digest_305 kbp_10 ?_
    refine ab_icmp_gt 329 dX11_digest_307 (by decide) hf (fun hf => ?_) (fun hf => ?_)
    · refine ab_lload_n 1 dX11_digest_310 rfl rfl ?_
      refine ab_ldc2 (v := 31) tb_720 dX11_digest_311 ?_
      refine ab_lmul dX11_digest_314 ?_
      refine ab_aload_n 0 dX11_digest_315 rfl rfl ?_
      refine ab_iload_n 3 dX11_digest_316 rfl rfl ?_
      refine f_V_i (As := [.int x3]) (st := [.long (x1 * 31)]) cs_X11_266 (fun v q => m_X11_count x0 x3 h q) rfl rfl dX11_digest_317 (rmk rfl) hf (fun v7 hf => ?_)
      refine ab_i2l dX11_digest_320 ?_
      refine ab_ladd dX11_digest_321 ?_
      refine ab_nml hf (fun v8 hf => ?_)
      refine ab_lstore_n 1 [some (.ref x0), some (.long v8), none, some (.int x3), none] dX11_digest_322 rfl (by decide) rfl rfl ?_
      refine ab_iinc (v := x3 + 1) [some (.ref x0), some (.long v8), none, some (.int (x3 + 1)), none] dX11_digest_323 rfl (kinc_1 _) (by decide) rfl rfl ?_
      refine ab_goto 304 dX11_digest_326 (by decide) ?_
      exact ab_msk [true, true, true, true, true] (ih v8 (x3 + 1) h hf)
    refine ab_lload_n 1 dX11_digest_329 rfl rfl ?_
    exact f_retl2 dX11_digest_330 rfl (Nat.le_refl 0) (Nat.le_refl 0) hf
def F_X11_digest_B268 (x0 : Nat) : Nat → Int64 → Int32 → abH → Option (Int64 × abH)
  | 0, _, _, _ => none
  | n + 1, x1, x3, h =>
    (gR 11 h x0 0).bind fun v5 =>
    (gI 6 h v5 1).bind fun v6 =>
    if x3 < v6 then
      (gR 11 h x0 0).bind fun v9 =>
      (gR 6 h v9 0).bind fun v10 =>
      (ga 1 h v10 x3).bind fun v11 =>
      nm ((x1 * 31) + v11.toInt64) fun v12 =>
      F_X11_digest_B268 x0 n v12 (x3 + 1) h
    else
      F_X11_digest_B304 x0 200 x1 0 h
theorem w_X11_digest_B268 {z0 : Int64} {hz : abH} (x0 : Nat)   : ∀ (n : Nat) (x1 : Int64) (x3 : Int32) (h : abH), F_X11_digest_B268 x0 n x1 x3 h = some (z0, hz) → abW cX11_digest 5 RX11 (some .long) false 8 0 0 none (some (.long z0), hz) 268 [some (.ref x0), some (.long x1), none, some (.int x3), none] [] h 0 0 := by
  intro n
  induction n with
  | zero =>
    intro x1 x3 h hf
    exact absurd (show (none : Option (Int64 × abH)) = some _ from hf) (by simp)
  | succ n ih =>
    intro x1 x3 h hf
    rw [F_X11_digest_B268.eq_2] at hf
    refine ab_iload_n 3 dX11_digest_268 rfl rfl ?_
    refine ab_aload_n 0 dX11_digest_269 rfl rfl ?_
    refine f_getR fs_X11_10 dX11_digest_270 hf (fun v5 hf => ?_)
    refine f_getI fs_X11_58 dX11_digest_273 hf (fun v6 hf => ?_)
    refine ab_icmp_ge 302 dX11_digest_276 (by decide) hf (fun hf => ?_) (fun hf => ?_)
    · refine ab_lload_n 1 dX11_digest_279 rfl rfl ?_
      refine ab_ldc2 (v := 31) tb_720 dX11_digest_280 ?_
      refine ab_lmul dX11_digest_283 ?_
      refine ab_aload_n 0 dX11_digest_284 rfl rfl ?_
      refine f_getR fs_X11_10 dX11_digest_285 hf (fun v9 hf => ?_)
      refine f_getR fs_X11_62 dX11_digest_288 hf (fun v10 hf => ?_)
      refine ab_iload_n 3 dX11_digest_291 rfl rfl ?_
      refine f_cald dX11_digest_292 hf (fun v11 hf => ?_)
      refine ab_i2l dX11_digest_293 ?_
      refine ab_ladd dX11_digest_294 ?_
      refine ab_nml hf (fun v12 hf => ?_)
      refine ab_lstore_n 1 [some (.ref x0), some (.long v12), none, some (.int x3), none] dX11_digest_295 rfl (by decide) rfl rfl ?_
      refine ab_iinc (v := x3 + 1) [some (.ref x0), some (.long v12), none, some (.int (x3 + 1)), none] dX11_digest_296 rfl (kinc_1 _) (by decide) rfl rfl ?_
      refine ab_goto 268 dX11_digest_299 (by decide) ?_
      exact ab_msk [true, true, true, true, true] (ih v12 (x3 + 1) h hf)
    refine ab_iconst dX11_digest_302 kic_0 ?_
    refine ab_istore_n 3 [some (.ref x0), some (.long x1), none, some (.int 0), none] dX11_digest_303 rfl (by decide) rfl rfl ?_
    exact ab_msk [true, true, true, true, true] (w_X11_digest_B304 x0 200 x1 0 h hf)
def F_X11_digest_B241 (x0 : Nat) : Nat → Int64 → Int32 → abH → Option (Int64 × abH)
  | 0, _, _, _ => none
  | n + 1, x1, x3, h =>
    if x3 ≤ 14 then
      (ko 11 h x0).bind fun _ => bd2 (F_X11_docket x0 x3 h) fun v17 h16 =>
      nm ((x1 * 31) + v17.toInt64) fun v18 =>
      F_X11_digest_B241 x0 n v18 (x3 + 1) h16
    else
      F_X11_digest_B268 x0 200 x1 0 h
theorem w_X11_digest_B241 {z0 : Int64} {hz : abH} (x0 : Nat)   : ∀ (n : Nat) (x1 : Int64) (x3 : Int32) (h : abH), F_X11_digest_B241 x0 n x1 x3 h = some (z0, hz) → abW cX11_digest 5 RX11 (some .long) false 8 0 0 none (some (.long z0), hz) 241 [some (.ref x0), some (.long x1), none, some (.int x3), none] [] h 0 0 := by
  intro n
  induction n with
  | zero =>
    intro x1 x3 h hf
    exact absurd (show (none : Option (Int64 × abH)) = some _ from hf) (by simp)
  | succ n ih =>
    intro x1 x3 h hf
    rw [F_X11_digest_B241.eq_2] at hf
    refine ab_iload_n 3 dX11_digest_241 rfl rfl ?_
    refine ab_bipush dX11_digest_242 kbp_14 ?_
    refine ab_icmp_gt 266 dX11_digest_244 (by decide) hf (fun hf => ?_) (fun hf => ?_)
    · refine ab_lload_n 1 dX11_digest_247 rfl rfl ?_
      refine ab_ldc2 (v := 31) tb_720 dX11_digest_248 ?_
      refine ab_lmul dX11_digest_251 ?_
      refine ab_aload_n 0 dX11_digest_252 rfl rfl ?_
      refine ab_iload_n 3 dX11_digest_253 rfl rfl ?_
      refine f_V_i2 (As := [.int x3]) (st := [.long (x1 * 31)]) cs_X11_263 (fun v hq q => m_X11_docket x0 x3 h q) rfl rfl dX11_digest_254 (rmk rfl) hf (fun v17 h16 hf => ?_)
      refine ab_i2l dX11_digest_257 ?_
      refine ab_ladd dX11_digest_258 ?_
      refine ab_nml hf (fun v18 hf => ?_)
      refine ab_lstore_n 1 [some (.ref x0), some (.long v18), none, some (.int x3), none] dX11_digest_259 rfl (by decide) rfl rfl ?_
      refine ab_iinc (v := x3 + 1) [some (.ref x0), some (.long v18), none, some (.int (x3 + 1)), none] dX11_digest_260 rfl (kinc_1 _) (by decide) rfl rfl ?_
      refine ab_goto 241 dX11_digest_263 (by decide) ?_
      exact ab_msk [true, true, true, true, true] (ih v18 (x3 + 1) h16 hf)
    refine ab_iconst dX11_digest_266 kic_0 ?_
    refine ab_istore_n 3 [some (.ref x0), some (.long x1), none, some (.int 0), none] dX11_digest_267 rfl (by decide) rfl rfl ?_
    exact ab_msk [true, true, true, true, true] (w_X11_digest_B268 x0 200 x1 0 h hf)
def F_X11_digest_B197 (x0 : Nat) : Nat → Int64 → Int32 → abH → Option (Int64 × abH)
  | 0, _, _, _ => none
  | n + 1, x1, x3, h =>
    if x3 ≤ 1 then
      (ko 11 h x0).bind fun _ => (F_X11_odds x0 0 1 4 3 x3 h).bind fun v19 =>
      nm ((x1 * 31) + v19.toInt64) fun v20 =>
      F_X11_digest_B197 x0 n v20 (x3 + 1) h
    else
      (ko 11 h x0).bind fun _ => bd2 (F_X11_docket x0 0 h) fun v14 h13 =>
      nm ((x1 * 31) + v14.toInt64) fun v15 =>
      F_X11_digest_B241 x0 200 v15 10 h13
theorem w_X11_digest_B197 {z0 : Int64} {hz : abH} (x0 : Nat)   : ∀ (n : Nat) (x1 : Int64) (x3 : Int32) (h : abH), F_X11_digest_B197 x0 n x1 x3 h = some (z0, hz) → abW cX11_digest 5 RX11 (some .long) false 8 0 0 none (some (.long z0), hz) 197 [some (.ref x0), some (.long x1), none, some (.int x3), none] [] h 0 0 := by
  intro n
  induction n with
  | zero =>
    intro x1 x3 h hf
    exact absurd (show (none : Option (Int64 × abH)) = some _ from hf) (by simp)
  | succ n ih =>
    intro x1 x3 h hf
    rw [F_X11_digest_B197.eq_2] at hf
    refine ab_iload_n 3 dX11_digest_197 rfl rfl ?_
    refine ab_iconst dX11_digest_198 kic_1 ?_
    refine ab_icmp_gt 225 dX11_digest_199 (by decide) hf (fun hf => ?_) (fun hf => ?_)
    · refine ab_lload_n 1 dX11_digest_202 rfl rfl ?_
      refine ab_ldc2 (v := 31) tb_720 dX11_digest_203 ?_
      refine ab_lmul dX11_digest_206 ?_
      refine ab_aload_n 0 dX11_digest_207 rfl rfl ?_
      refine ab_iconst dX11_digest_208 kic_0 ?_
      refine ab_iconst dX11_digest_209 kic_1 ?_
      refine ab_iconst dX11_digest_210 kic_4 ?_
      refine ab_iconst dX11_digest_211 kic_3 ?_
      refine ab_iload_n 3 dX11_digest_212 rfl rfl ?_
      refine f_V_i (As := [.int 0, .int 1, .int 4, .int 3, .int x3]) (st := [.long (x1 * 31)]) cs_X11_259 (fun v q => m_X11_odds x0 0 1 4 3 x3 h q) rfl rfl dX11_digest_213 (rmk rfl) hf (fun v19 hf => ?_)
      refine ab_i2l dX11_digest_216 ?_
      refine ab_ladd dX11_digest_217 ?_
      refine ab_nml hf (fun v20 hf => ?_)
      refine ab_lstore_n 1 [some (.ref x0), some (.long v20), none, some (.int x3), none] dX11_digest_218 rfl (by decide) rfl rfl ?_
      refine ab_iinc (v := x3 + 1) [some (.ref x0), some (.long v20), none, some (.int (x3 + 1)), none] dX11_digest_219 rfl (kinc_1 _) (by decide) rfl rfl ?_
      refine ab_goto 197 dX11_digest_222 (by decide) ?_
      exact ab_msk [true, true, true, true, true] (ih v20 (x3 + 1) h hf)
    refine ab_lload_n 1 dX11_digest_225 rfl rfl ?_
    refine ab_ldc2 (v := 31) tb_720 dX11_digest_226 ?_
    refine ab_lmul dX11_digest_229 ?_
    refine ab_aload_n 0 dX11_digest_230 rfl rfl ?_
    refine ab_iconst dX11_digest_231 kic_0 ?_
    refine f_V_i2 (As := [.int 0]) (st := [.long (x1 * 31)]) cs_X11_263 (fun v hq q => m_X11_docket x0 0 h q) rfl rfl dX11_digest_232 (rmk rfl) hf (fun v14 h13 hf => ?_)
    refine ab_i2l dX11_digest_235 ?_
    refine ab_ladd dX11_digest_236 ?_
    refine ab_nml hf (fun v15 hf => ?_)
    refine ab_lstore_n 1 [some (.ref x0), some (.long v15), none, some (.int x3), none] dX11_digest_237 rfl (by decide) rfl rfl ?_
    refine ab_bipush dX11_digest_238 kbp_10 ?_
    refine ab_istore_n 3 [some (.ref x0), some (.long v15), none, some (.int 10), none] dX11_digest_240 rfl (by decide) rfl rfl ?_
    exact ab_msk [true, true, true, true, true] (w_X11_digest_B241 x0 200 v15 10 h13 hf)
def F_X11_digest_B168 (x0 : Nat) : Nat → Int64 → Int32 → abH → Option (Int64 × abH)
  | 0, _, _, _ => none
  | n + 1, x1, x3, h =>
    if x3 ≤ 1 then
      (ko 11 h x0).bind fun _ => bd2 (F_X11_game x0 0 1 2 x3 h) fun v22 h21 =>
      nm ((x1 * 31) + v22.toInt64) fun v23 =>
      F_X11_digest_B168 x0 n v23 (x3 + 1) h21
    else
      F_X11_digest_B197 x0 200 x1 0 h
theorem w_X11_digest_B168 {z0 : Int64} {hz : abH} (x0 : Nat)   : ∀ (n : Nat) (x1 : Int64) (x3 : Int32) (h : abH), F_X11_digest_B168 x0 n x1 x3 h = some (z0, hz) → abW cX11_digest 5 RX11 (some .long) false 8 0 0 none (some (.long z0), hz) 168 [some (.ref x0), some (.long x1), none, some (.int x3), none] [] h 0 0 := by
  intro n
  induction n with
  | zero =>
    intro x1 x3 h hf
    exact absurd (show (none : Option (Int64 × abH)) = some _ from hf) (by simp)
  | succ n ih =>
    intro x1 x3 h hf
    rw [F_X11_digest_B168.eq_2] at hf
    refine ab_iload_n 3 dX11_digest_168 rfl rfl ?_
    refine ab_iconst dX11_digest_169 kic_1 ?_
    refine ab_icmp_gt 195 dX11_digest_170 (by decide) hf (fun hf => ?_) (fun hf => ?_)
    · refine ab_lload_n 1 dX11_digest_173 rfl rfl ?_
      refine ab_ldc2 (v := 31) tb_720 dX11_digest_174 ?_
      refine ab_lmul dX11_digest_177 ?_
      refine ab_aload_n 0 dX11_digest_178 rfl rfl ?_
      refine ab_iconst dX11_digest_179 kic_0 ?_
      refine ab_iconst dX11_digest_180 kic_1 ?_
      refine ab_iconst dX11_digest_181 kic_2 ?_
      refine ab_iload_n 3 dX11_digest_182 rfl rfl ?_
      refine f_V_i2 (As := [.int 0, .int 1, .int 2, .int x3]) (st := [.long (x1 * 31)]) cs_X11_255 (fun v hq q => m_X11_game x0 0 1 2 x3 h q) rfl rfl dX11_digest_183 (rmk rfl) hf (fun v22 h21 hf => ?_)
      refine ab_i2l dX11_digest_186 ?_
      refine ab_ladd dX11_digest_187 ?_
      refine ab_nml hf (fun v23 hf => ?_)
      refine ab_lstore_n 1 [some (.ref x0), some (.long v23), none, some (.int x3), none] dX11_digest_188 rfl (by decide) rfl rfl ?_
      refine ab_iinc (v := x3 + 1) [some (.ref x0), some (.long v23), none, some (.int (x3 + 1)), none] dX11_digest_189 rfl (kinc_1 _) (by decide) rfl rfl ?_
      refine ab_goto 168 dX11_digest_192 (by decide) ?_
      exact ab_msk [true, true, true, true, true] (ih v23 (x3 + 1) h21 hf)
    refine ab_iconst dX11_digest_195 kic_0 ?_
    refine ab_istore_n 3 [some (.ref x0), some (.long x1), none, some (.int 0), none] dX11_digest_196 rfl (by decide) rfl rfl ?_
    exact ab_msk [true, true, true, true, true] (w_X11_digest_B197 x0 200 x1 0 h hf)
def F_X11_digest_B139 (x0 : Nat) : Nat → Int64 → Int32 → abH → Option (Int64 × abH)
  | 0, _, _, _ => none
  | n + 1, x1, x3, h =>
    if x3 < 13 then
      (ko 11 h x0).bind fun _ => (F_X11_found x0 0 1 x3 h).bind fun v24 =>
      nm ((x1 * 31) + v24.toInt64) fun v25 =>
      F_X11_digest_B139 x0 n v25 (x3 + 1) h
    else
      F_X11_digest_B168 x0 200 x1 0 h
theorem w_X11_digest_B139 {z0 : Int64} {hz : abH} (x0 : Nat)   : ∀ (n : Nat) (x1 : Int64) (x3 : Int32) (h : abH), F_X11_digest_B139 x0 n x1 x3 h = some (z0, hz) → abW cX11_digest 5 RX11 (some .long) false 8 0 0 none (some (.long z0), hz) 139 [some (.ref x0), some (.long x1), none, some (.int x3), none] [] h 0 0 := by
  intro n
  induction n with
  | zero =>
    intro x1 x3 h hf
    exact absurd (show (none : Option (Int64 × abH)) = some _ from hf) (by simp)
  | succ n ih =>
    intro x1 x3 h hf
    rw [F_X11_digest_B139.eq_2] at hf
    refine ab_iload_n 3 dX11_digest_139 rfl rfl ?_
    refine ab_bipush dX11_digest_140 kbp_13 ?_
    refine ab_icmp_ge 166 dX11_digest_142 (by decide) hf (fun hf => ?_) (fun hf => ?_)
    · refine ab_lload_n 1 dX11_digest_145 rfl rfl ?_
      refine ab_ldc2 (v := 31) tb_720 dX11_digest_146 ?_
      refine ab_lmul dX11_digest_149 ?_
      refine ab_aload_n 0 dX11_digest_150 rfl rfl ?_
      refine ab_iconst dX11_digest_151 kic_0 ?_
      refine ab_iconst dX11_digest_152 kic_1 ?_
      refine ab_iload_n 3 dX11_digest_153 rfl rfl ?_
      refine f_V_i (As := [.int 0, .int 1, .int x3]) (st := [.long (x1 * 31)]) cs_X11_252 (fun v q => m_X11_found x0 0 1 x3 h q) rfl rfl dX11_digest_154 (rmk rfl) hf (fun v24 hf => ?_)
      refine ab_i2l dX11_digest_157 ?_
      refine ab_ladd dX11_digest_158 ?_
      refine ab_nml hf (fun v25 hf => ?_)
      refine ab_lstore_n 1 [some (.ref x0), some (.long v25), none, some (.int x3), none] dX11_digest_159 rfl (by decide) rfl rfl ?_
      refine ab_iinc (v := x3 + 1) [some (.ref x0), some (.long v25), none, some (.int (x3 + 1)), none] dX11_digest_160 rfl (kinc_1 _) (by decide) rfl rfl ?_
      refine ab_goto 139 dX11_digest_163 (by decide) ?_
      exact ab_msk [true, true, true, true, true] (ih v25 (x3 + 1) h hf)
    refine ab_iconst dX11_digest_166 kic_0 ?_
    refine ab_istore_n 3 [some (.ref x0), some (.long x1), none, some (.int 0), none] dX11_digest_167 rfl (by decide) rfl rfl ?_
    exact ab_msk [true, true, true, true, true] (w_X11_digest_B168 x0 200 x1 0 h hf)
def F_X11_digest_B104 (x0 : Nat) (x3 : Int32) (k95 : Int64 → Int32 → abH → Option (Int64 × abH)) : Nat → Int64 → Int32 → abH → Option (Int64 × abH)
  | 0, _, _, _ => none
  | n + 1, x1, x4, h =>
    if x4 ≤ 2 then
      (ko 11 h x0).bind fun _ => (F_X11_tile x0 x3 x4 h).bind fun v26 =>
      nm ((x1 * 31) + v26.toInt64) fun v27 =>
      F_X11_digest_B104 x0 x3 k95 n v27 (x4 + 1) h
    else
      k95 x1 (x3 + 1) h
theorem w_X11_digest_B104 {z0 : Int64} {hz : abH} (x0 : Nat) (x3 : Int32) (k95 : Int64 → Int32 → abH → Option (Int64 × abH)) (hk95 : ∀ (w1 : Int64) (w3 : Int32) (hw : abH), k95 w1 w3 hw = some (z0, hz) → abW cX11_digest 5 RX11 (some .long) false 8 0 0 none (some (.long z0), hz) 95 [some (.ref x0), some (.long w1), none, some (.int w3), none] [] hw 0 0) : ∀ (n : Nat) (x1 : Int64) (x4 : Int32) (h : abH), F_X11_digest_B104 x0 x3 k95 n x1 x4 h = some (z0, hz) → abW cX11_digest 5 RX11 (some .long) false 8 0 0 none (some (.long z0), hz) 104 [some (.ref x0), some (.long x1), none, some (.int x3), some (.int x4)] [] h 0 0 := by
  intro n
  induction n with
  | zero =>
    intro x1 x4 h hf
    exact absurd (show (none : Option (Int64 × abH)) = some _ from hf) (by simp)
  | succ n ih =>
    intro x1 x4 h hf
    rw [F_X11_digest_B104.eq_2] at hf
    refine ab_iload dX11_digest_104 rfl ?_
    refine ab_iconst dX11_digest_106 kic_2 ?_
    refine ab_icmp_gt 131 dX11_digest_107 (by decide) hf (fun hf => ?_) (fun hf => ?_)
    · refine ab_lload_n 1 dX11_digest_110 rfl rfl ?_
      refine ab_ldc2 (v := 31) tb_720 dX11_digest_111 ?_
      refine ab_lmul dX11_digest_114 ?_
      refine ab_aload_n 0 dX11_digest_115 rfl rfl ?_
      refine ab_iload_n 3 dX11_digest_116 rfl rfl ?_
      refine ab_iload dX11_digest_117 rfl ?_
      refine f_V_i (As := [.int x3, .int x4]) (st := [.long (x1 * 31)]) cs_X11_250 (fun v q => m_X11_tile x0 x3 x4 h q) rfl rfl dX11_digest_119 (rmk rfl) hf (fun v26 hf => ?_)
      refine ab_i2l dX11_digest_122 ?_
      refine ab_ladd dX11_digest_123 ?_
      refine ab_nml hf (fun v27 hf => ?_)
      refine ab_lstore_n 1 [some (.ref x0), some (.long v27), none, some (.int x3), some (.int x4)] dX11_digest_124 rfl (by decide) rfl rfl ?_
      refine ab_iinc (v := x4 + 1) [some (.ref x0), some (.long v27), none, some (.int x3), some (.int (x4 + 1))] dX11_digest_125 rfl (kinc_1 _) (by decide) rfl rfl ?_
      refine ab_goto 104 dX11_digest_128 (by decide) ?_
      exact ab_msk [true, true, true, true, true] (ih v27 (x4 + 1) h hf)
    refine ab_iinc (v := x3 + 1) [some (.ref x0), some (.long x1), none, some (.int (x3 + 1)), some (.int x4)] dX11_digest_131 rfl (kinc_1 _) (by decide) rfl rfl ?_
    refine ab_goto 95 dX11_digest_134 (by decide) ?_
    exact ab_msk [true, true, true, true, false] (hk95 x1 (x3 + 1) h hf)
def F_X11_digest_B95 (x0 : Nat) : Nat → Int64 → Int32 → abH → Option (Int64 × abH)
  | 0, _, _, _ => none
  | n + 1, x1, x3, h =>
    if x3 < 10 then
      F_X11_digest_B104 x0 x3 (fun u1 u3 hu => F_X11_digest_B95 x0 n u1 u3 hu) 200 x1 0 h
    else
      F_X11_digest_B139 x0 200 x1 0 h
theorem w_X11_digest_B95 {z0 : Int64} {hz : abH} (x0 : Nat)   : ∀ (n : Nat) (x1 : Int64) (x3 : Int32) (h : abH), F_X11_digest_B95 x0 n x1 x3 h = some (z0, hz) → abW cX11_digest 5 RX11 (some .long) false 8 0 0 none (some (.long z0), hz) 95 [some (.ref x0), some (.long x1), none, some (.int x3), none] [] h 0 0 := by
  intro n
  induction n with
  | zero =>
    intro x1 x3 h hf
    exact absurd (show (none : Option (Int64 × abH)) = some _ from hf) (by simp)
  | succ n ih =>
    intro x1 x3 h hf
    rw [F_X11_digest_B95.eq_2] at hf
    refine ab_iload_n 3 dX11_digest_95 rfl rfl ?_
    refine ab_bipush dX11_digest_96 kbp_10 ?_
    refine ab_icmp_ge 137 dX11_digest_98 (by decide) hf (fun hf => ?_) (fun hf => ?_)
    · refine ab_iconst dX11_digest_101 kic_0 ?_
      refine ab_istore [some (.ref x0), some (.long x1), none, some (.int x3), some (.int 0)] dX11_digest_102 (by decide) rfl rfl ?_
      exact ab_msk [true, true, true, true, true] (w_X11_digest_B104 x0 x3 (fun u1 u3 hu => F_X11_digest_B95 x0 n u1 u3 hu) (fun u1 u3 hu hf => ih u1 u3 hu hf) 200 x1 0 h hf)
    refine ab_iconst dX11_digest_137 kic_0 ?_
    refine ab_istore_n 3 [some (.ref x0), some (.long x1), none, some (.int 0), none] dX11_digest_138 rfl (by decide) rfl rfl ?_
    exact ab_msk [true, true, true, true, true] (w_X11_digest_B139 x0 200 x1 0 h hf)
def F_X11_digest_B20 (x0 : Nat) (x3 : Int32) (k6 : Int64 → Int32 → abH → Option (Int64 × abH)) : Nat → Int64 → Int32 → abH → Option (Int64 × abH)
  | 0, _, _, _ => none
  | n + 1, x1, x4, h =>
    if x4 ≤ 6 then
      (ko 11 h x0).bind fun _ => bd2 (F_X11_party x0 x3 x4 h) fun v33 h32 =>
      nm ((x1 * 31) + v33.toInt64) fun v34 =>
      F_X11_digest_B20 x0 x3 k6 n v34 (x4 + 1) h32
    else
      (ko 11 h x0).bind fun _ => (F_X11_covers x0 x3 3 h).bind fun v28 =>
      nm ((x1 * 31) + v28.toInt64) fun v29 =>
      (ko 11 h x0).bind fun _ => (F_X11_covers x0 x3 10 h).bind fun v30 =>
      nm ((v29 * 31) + v30.toInt64) fun v31 =>
      k6 v31 (x3 + 1) h
theorem w_X11_digest_B20 {z0 : Int64} {hz : abH} (x0 : Nat) (x3 : Int32) (k6 : Int64 → Int32 → abH → Option (Int64 × abH)) (hk6 : ∀ (w1 : Int64) (w3 : Int32) (hw : abH), k6 w1 w3 hw = some (z0, hz) → abW cX11_digest 5 RX11 (some .long) false 8 0 0 none (some (.long z0), hz) 6 [some (.ref x0), some (.long w1), none, some (.int w3), none] [] hw 0 0) : ∀ (n : Nat) (x1 : Int64) (x4 : Int32) (h : abH), F_X11_digest_B20 x0 x3 k6 n x1 x4 h = some (z0, hz) → abW cX11_digest 5 RX11 (some .long) false 8 0 0 none (some (.long z0), hz) 20 [some (.ref x0), some (.long x1), none, some (.int x3), some (.int x4)] [] h 0 0 := by
  intro n
  induction n with
  | zero =>
    intro x1 x4 h hf
    exact absurd (show (none : Option (Int64 × abH)) = some _ from hf) (by simp)
  | succ n ih =>
    intro x1 x4 h hf
    rw [F_X11_digest_B20.eq_2] at hf
    refine ab_iload dX11_digest_20 rfl ?_
    refine ab_bipush dX11_digest_22 kbp_6 ?_
    refine ab_icmp_gt 48 dX11_digest_24 (by decide) hf (fun hf => ?_) (fun hf => ?_)
    · refine ab_lload_n 1 dX11_digest_27 rfl rfl ?_
      refine ab_ldc2 (v := 31) tb_720 dX11_digest_28 ?_
      refine ab_lmul dX11_digest_31 ?_
      refine ab_aload_n 0 dX11_digest_32 rfl rfl ?_
      refine ab_iload_n 3 dX11_digest_33 rfl rfl ?_
      refine ab_iload dX11_digest_34 rfl ?_
      refine f_V_i2 (As := [.int x3, .int x4]) (st := [.long (x1 * 31)]) cs_X11_244 (fun v hq q => m_X11_party x0 x3 x4 h q) rfl rfl dX11_digest_36 (rmk rfl) hf (fun v33 h32 hf => ?_)
      refine ab_i2l dX11_digest_39 ?_
      refine ab_ladd dX11_digest_40 ?_
      refine ab_nml hf (fun v34 hf => ?_)
      refine ab_lstore_n 1 [some (.ref x0), some (.long v34), none, some (.int x3), some (.int x4)] dX11_digest_41 rfl (by decide) rfl rfl ?_
      refine ab_iinc (v := x4 + 1) [some (.ref x0), some (.long v34), none, some (.int x3), some (.int (x4 + 1))] dX11_digest_42 rfl (kinc_1 _) (by decide) rfl rfl ?_
      refine ab_goto 20 dX11_digest_45 (by decide) ?_
      exact ab_msk [true, true, true, true, true] (ih v34 (x4 + 1) h32 hf)
    refine ab_lload_n 1 dX11_digest_48 rfl rfl ?_
    refine ab_ldc2 (v := 31) tb_720 dX11_digest_49 ?_
    refine ab_lmul dX11_digest_52 ?_
    refine ab_aload_n 0 dX11_digest_53 rfl rfl ?_
    refine ab_iload_n 3 dX11_digest_54 rfl rfl ?_
    refine ab_iconst dX11_digest_55 kic_3 ?_
    refine f_V_i (As := [.int x3, .int 3]) (st := [.long (x1 * 31)]) cs_X11_247 (fun v q => m_X11_covers x0 x3 3 h q) rfl rfl dX11_digest_56 (rmk rfl) hf (fun v28 hf => ?_)
    refine ab_i2l dX11_digest_59 ?_
    refine ab_ladd dX11_digest_60 ?_
    refine ab_nml hf (fun v29 hf => ?_)
    refine ab_lstore_n 1 [some (.ref x0), some (.long v29), none, some (.int x3), some (.int x4)] dX11_digest_61 rfl (by decide) rfl rfl ?_
    refine ab_lload_n 1 dX11_digest_62 rfl rfl ?_
    refine ab_ldc2 (v := 31) tb_720 dX11_digest_63 ?_
    refine ab_lmul dX11_digest_66 ?_
    refine ab_aload_n 0 dX11_digest_67 rfl rfl ?_
    refine ab_iload_n 3 dX11_digest_68 rfl rfl ?_
    refine ab_bipush dX11_digest_69 kbp_10 ?_
    refine f_V_i (As := [.int x3, .int 10]) (st := [.long (v29 * 31)]) cs_X11_247 (fun v q => m_X11_covers x0 x3 10 h q) rfl rfl dX11_digest_71 (rmk rfl) hf (fun v30 hf => ?_)
    refine ab_i2l dX11_digest_74 ?_
    refine ab_ladd dX11_digest_75 ?_
    refine ab_nml hf (fun v31 hf => ?_)
    refine ab_lstore_n 1 [some (.ref x0), some (.long v31), none, some (.int x3), some (.int x4)] dX11_digest_76 rfl (by decide) rfl rfl ?_
    refine ab_iinc (v := x3 + 1) [some (.ref x0), some (.long v31), none, some (.int (x3 + 1)), some (.int x4)] dX11_digest_77 rfl (kinc_1 _) (by decide) rfl rfl ?_
    refine ab_goto 6 dX11_digest_80 (by decide) ?_
    exact ab_msk [true, true, true, true, false] (hk6 v31 (x3 + 1) h hf)
def F_X11_digest_B6 (x0 : Nat) : Nat → Int64 → Int32 → abH → Option (Int64 × abH)
  | 0, _, _, _ => none
  | n + 1, x1, x3, h =>
    (gR 11 h x0 1).bind fun v1 =>
    (gI 1 h v1 0).bind fun v2 =>
    if x3 < v2 then
      F_X11_digest_B20 x0 x3 (fun u1 u3 hu => F_X11_digest_B6 x0 n u1 u3 hu) 200 x1 0 h
    else
      (gR 11 h x0 1).bind fun v3 =>
      (ko 1 h v3).bind fun _ => (F_X1_isNone v3 h).bind fun v4 =>
      if v4 = 0 then
        F_X11_digest_B95 x0 200 x1 0 h
      else
        F_X11_digest_B268 x0 200 x1 0 h
theorem w_X11_digest_B6 {z0 : Int64} {hz : abH} (x0 : Nat)   : ∀ (n : Nat) (x1 : Int64) (x3 : Int32) (h : abH), F_X11_digest_B6 x0 n x1 x3 h = some (z0, hz) → abW cX11_digest 5 RX11 (some .long) false 8 0 0 none (some (.long z0), hz) 6 [some (.ref x0), some (.long x1), none, some (.int x3), none] [] h 0 0 := by
  intro n
  induction n with
  | zero =>
    intro x1 x3 h hf
    exact absurd (show (none : Option (Int64 × abH)) = some _ from hf) (by simp)
  | succ n ih =>
    intro x1 x3 h hf
    rw [F_X11_digest_B6.eq_2] at hf
    refine ab_iload_n 3 dX11_digest_6 rfl rfl ?_
    refine ab_aload_n 0 dX11_digest_7 rfl rfl ?_
    refine f_getR fs_X11_19 dX11_digest_8 hf (fun v1 hf => ?_)
    refine f_getI fs_X11_85 dX11_digest_11 hf (fun v2 hf => ?_)
    refine ab_icmp_ge 83 dX11_digest_14 (by decide) hf (fun hf => ?_) (fun hf => ?_)
    · refine ab_iconst dX11_digest_17 kic_0 ?_
      refine ab_istore [some (.ref x0), some (.long x1), none, some (.int x3), some (.int 0)] dX11_digest_18 (by decide) rfl rfl ?_
      exact ab_msk [true, true, true, true, true] (w_X11_digest_B20 x0 x3 (fun u1 u3 hu => F_X11_digest_B6 x0 n u1 u3 hu) (fun u1 u3 hu hf => ih u1 u3 hu hf) 200 x1 0 h hf)
    refine ab_aload_n 0 dX11_digest_83 rfl rfl ?_
    refine f_getR fs_X11_19 dX11_digest_84 hf (fun v3 hf => ?_)
    refine f_V_i (As := []) (st := []) cs_X11_157 (fun v q => m_X1_isNone v3 h q) rfl rfl dX11_digest_87 (rmk rfl) hf (fun v4 hf => ?_)
    refine ab_if_ne 266 dX11_digest_90 (by decide) hf (fun hf => ?_) (fun hf => ?_)
    · refine ab_iconst dX11_digest_93 kic_0 ?_
      refine ab_istore_n 3 [some (.ref x0), some (.long x1), none, some (.int 0), none] dX11_digest_94 rfl (by decide) rfl rfl ?_
      exact ab_msk [true, true, true, true, true] (w_X11_digest_B95 x0 200 x1 0 h hf)
    refine ab_iconst dX11_digest_266 kic_0 ?_
    refine ab_istore_n 3 [some (.ref x0), some (.long x1), none, some (.int 0), none] dX11_digest_267 rfl (by decide) rfl rfl ?_
    exact ab_msk [true, true, true, true, true] (w_X11_digest_B268 x0 200 x1 0 h hf)
def F_X11_digest (a0 : Nat) (h : abH) : Option (Int64 × abH) :=
  F_X11_digest_B6 a0 200 1217 0 h
theorem m_X11_digest {z0 : Int64} {hz : abH} (a0 : Nat) (h : abH) (hf : F_X11_digest a0 h = some (z0, hz)) : abM yX11_digest cX11_digest 5 (some .long) 8 0 0 [.ref a0] h (some (.long z0)) hz := by
  refine abM_of (ini := false) [some (.ref a0), none, none, none, none] (by decide +kernel) (fun q => by first | rfl | cases q) (Nat.le_of_ble_eq_true rfl) rfl ?_
  unfold F_X11_digest at hf
  refine ab_ldc2 (v := 1217) tb_719 dX11_digest_0 ?_
  refine ab_lstore_n 1 [some (.ref a0), some (.long 1217), none, none, none] dX11_digest_3 rfl (by decide) rfl rfl ?_
  refine ab_iconst dX11_digest_4 kic_0 ?_
  refine ab_istore_n 3 [some (.ref a0), some (.long 1217), none, some (.int 0), none] dX11_digest_5 rfl (by decide) rfl rfl ?_
  exact ab_msk [true, true, true, true, true] (w_X11_digest_B6 a0 200 1217 0 h hf)
