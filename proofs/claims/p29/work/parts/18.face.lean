def F_X11_init (a0 : Nat) (h : abH) : Option abH :=
  nm (h ++ [.inr (.inr (6, [.null, .int 0]))]) fun h1 =>
  (F_X6_init (h.length + 3) h1).bind fun h2 =>
  (sV 11 h2 a0 0 (.ref (h.length + 3))).bind fun h3 =>
  nm (h3 ++ [.inr (.inr (1, [.int 0, .null, .null, .null, .null, .int 0, .int 0, .int 0, .null, .null, .int 0, .null, .null, .null, .null]))]) fun h4 =>
  (F_X1_init (h3.length + 3) h4).bind fun h5 =>
  (sV 11 h5 a0 1 (.ref (h3.length + 3))).bind fun h6 =>
  nm (h6 ++ [.inr (.inr (1, [.int 0, .null, .null, .null, .null, .int 0, .int 0, .int 0, .null, .null, .int 0, .null, .null, .null, .null]))]) fun h7 =>
  (F_X1_init (h6.length + 3) h7).bind fun h8 =>
  (sV 11 h8 a0 2 (.ref (h6.length + 3))).bind fun h9 =>
  nm (h9 ++ [.inr (.inr (8, [.null]))]) fun h10 =>
  (F_X8_init (h9.length + 3) h10).bind fun h11 =>
  (sV 11 h11 a0 3 (.ref (h9.length + 3))).bind fun h12 =>
  nm (h12 ++ [.inr (.inr (3, [.null, .null, .null, .null, .int 0, .int 0]))]) fun h13 =>
  (F_X3_init (h12.length + 3) h13).bind fun h14 =>
  (sV 11 h14 a0 4 (.ref (h12.length + 3))).bind fun h15 =>
  nm (h15 ++ [.inr (.inr (2, [.null, .int 0, .null, .int 0]))]) fun h16 =>
  (F_X2_init (h15.length + 3) h16).bind fun h17 =>
  (sV 11 h17 a0 5 (.ref (h15.length + 3))).bind fun h18 =>
  nm (h18 ++ [.inr (.inr (9, [.long 0, .int 0, .int 0]))]) fun h19 =>
  (F_X9_init (h18.length + 3)).bind fun v20 =>
  (sV 11 h19 a0 6 (.ref (h18.length + 3))).bind fun h21 =>
  some h21
theorem m_X11_init {hz : abH} (a0 : Nat) (h : abH) (hf : F_X11_init a0 h = some hz) : abM yX11_init cX11_init 1 none 2 35 454 [.ref a0] h none hz := by
  refine abM_of (ini := true) [some (.ref a0)] (by decide +kernel) (fun q => by first | rfl | cases q) (Nat.le_of_ble_eq_true rfl) rfl ?_
  unfold F_X11_init at hf
  refine ab_aload_n 0 dX11_init_0 rfl rfl ?_
  refine ab_obj tb_25 tb_26 tb_27 dX11_init_1 (by decide) (Nat.le_of_ble_eq_true rfl) ?_
  refine ab_aload_n 0 dX11_init_4 rfl rfl ?_
  refine ab_new ns_X11_7 dX11_init_5 (by omega) (by omega) ?_
  refine ab_nmh hf (fun h1 hf => ?_)
  refine ab_dup dX11_init_8 rfl ?_
  refine f_IN_v2 (As := []) (st := [.ref (h.length + 3), .ref a0]) rfl rfl cs_X11_9 (fun hq q => m_X6_init (h.length + 3) h1 q) rfl rfl dX11_init_9 (rmk2 (by decide) (by decide) (Nat.le_of_ble_eq_true rfl) (by omega) (by omega)) hf (fun h2 hf => ?_)
  refine f_putF fp_X11_10 rfl (abFit_o _ _) dX11_init_12 hf (fun h3 hf => ?_)
  refine ab_aload_n 0 dX11_init_15 rfl rfl ?_
  refine ab_new ns_X11_16 dX11_init_16 (by omega) (by omega) ?_
  refine ab_nmh hf (fun h4 hf => ?_)
  refine ab_dup dX11_init_19 rfl ?_
  refine f_IN_v2 (As := []) (st := [.ref (h3.length + 3), .ref a0]) rfl rfl cs_X11_18 (fun hq q => m_X1_init (h3.length + 3) h4 q) rfl rfl dX11_init_20 (rmk2 (by decide) (by decide) (Nat.le_of_ble_eq_true rfl) (by omega) (by omega)) hf (fun h5 hf => ?_)
  refine f_putF fp_X11_19 rfl (abFit_o _ _) dX11_init_23 hf (fun h6 hf => ?_)
  refine ab_aload_n 0 dX11_init_26 rfl rfl ?_
  refine ab_new ns_X11_16 dX11_init_27 (by omega) (by omega) ?_
  refine ab_nmh hf (fun h7 hf => ?_)
  refine ab_dup dX11_init_30 rfl ?_
  refine f_IN_v2 (As := []) (st := [.ref (h6.length + 3), .ref a0]) rfl rfl cs_X11_18 (fun hq q => m_X1_init (h6.length + 3) h7 q) rfl rfl dX11_init_31 (rmk2 (by decide) (by decide) (Nat.le_of_ble_eq_true rfl) (by omega) (by omega)) hf (fun h8 hf => ?_)
  refine f_putF fp_X11_23 rfl (abFit_o _ _) dX11_init_34 hf (fun h9 hf => ?_)
  refine ab_aload_n 0 dX11_init_37 rfl rfl ?_
  refine ab_new ns_X11_26 dX11_init_38 (by omega) (by omega) ?_
  refine ab_nmh hf (fun h10 hf => ?_)
  refine ab_dup dX11_init_41 rfl ?_
  refine f_IN_v2 (As := []) (st := [.ref (h9.length + 3), .ref a0]) rfl rfl cs_X11_28 (fun hq q => m_X8_init (h9.length + 3) h10 q) rfl rfl dX11_init_42 (rmk2 (by decide) (by decide) (Nat.le_of_ble_eq_true rfl) (by omega) (by omega)) hf (fun h11 hf => ?_)
  refine f_putF fp_X11_29 rfl (abFit_o _ _) dX11_init_45 hf (fun h12 hf => ?_)
  refine ab_aload_n 0 dX11_init_48 rfl rfl ?_
  refine ab_new ns_X11_33 dX11_init_49 (by omega) (by omega) ?_
  refine ab_nmh hf (fun h13 hf => ?_)
  refine ab_dup dX11_init_52 rfl ?_
  refine f_IN_v2 (As := []) (st := [.ref (h12.length + 3), .ref a0]) rfl rfl cs_X11_35 (fun hq q => m_X3_init (h12.length + 3) h13 q) rfl rfl dX11_init_53 (rmk2 (by decide) (by decide) (Nat.le_of_ble_eq_true rfl) (by omega) (by omega)) hf (fun h14 hf => ?_)
  refine f_putF fp_X11_36 rfl (abFit_o _ _) dX11_init_56 hf (fun h15 hf => ?_)
  refine ab_aload_n 0 dX11_init_59 rfl rfl ?_
  refine ab_new ns_X11_40 dX11_init_60 (by omega) (by omega) ?_
  refine ab_nmh hf (fun h16 hf => ?_)
  refine ab_dup dX11_init_63 rfl ?_
  refine f_IN_v2 (As := []) (st := [.ref (h15.length + 3), .ref a0]) rfl rfl cs_X11_42 (fun hq q => m_X2_init (h15.length + 3) h16 q) rfl rfl dX11_init_64 (rmk2 (by decide) (by decide) (Nat.le_of_ble_eq_true rfl) (by omega) (by omega)) hf (fun h17 hf => ?_)
  refine f_putF fp_X11_43 rfl (abFit_o _ _) dX11_init_67 hf (fun h18 hf => ?_)
  refine ab_aload_n 0 dX11_init_70 rfl rfl ?_
  refine ab_new ns_X11_47 dX11_init_71 (by omega) (by omega) ?_
  refine ab_nmh hf (fun h19 hf => ?_)
  refine ab_dup dX11_init_74 rfl ?_
  refine f_IN_v (As := []) (st := [.ref (h18.length + 3), .ref a0]) rfl rfl cs_X11_49 (fun v q => m_X9_init (h18.length + 3) h19 q) rfl rfl dX11_init_75 (rmk2 (by decide) (by decide) (Nat.le_of_ble_eq_true rfl) (by omega) (by omega)) hf (fun v20 hf => ?_)
  refine f_putF fp_X11_50 rfl (abFit_o _ _) dX11_init_78 hf (fun h21 hf => ?_)
  exact f_retv2 dX11_init_81 rfl (by omega) (by omega) hf
def F_X11_letter (a0 : Nat) (a1 : Int32) (h : abH) : Option (Int32 × abH) :=
  (F_X11_within a1 32 126).bind fun v1 =>
  if v1 = 0 then
    some ((-102), h)
  else
    (gR 11 h a0 0).bind fun v2 =>
    (gI 6 h v2 1).bind fun v3 =>
    if v3 < 34 then
      (gR 11 h a0 0).bind fun v4 =>
      (gR 6 h v4 0).bind fun v5 =>
      (gR 11 h a0 0).bind fun v6 =>
      (gI 6 h v6 1).bind fun v7 =>
      (sa 1 h v5 v7 ((a1.toUInt32 % 65536).toInt32)).bind fun h8 =>
      (gR 11 h8 a0 0).bind fun v9 =>
      (gI 6 h8 v9 1).bind fun v10 =>
      (sV 6 h8 v9 1 (.int (v10 + 1))).bind fun h11 =>
      (gR 11 h11 a0 0).bind fun v12 =>
      (gI 6 h11 v12 1).bind fun v13 =>
      some (v13, h11)
    else
      some ((-104), h)
theorem m_X11_letter {z0 : Int32} {hz : abH} (a0 : Nat) (a1 : Int32) (h : abH) (hf : F_X11_letter a0 a1 h = some (z0, hz)) : abM yX11_letter cX11_letter 2 (some .int) 2 0 0 [.ref a0, .int a1] h (some (.int z0)) hz := by
  refine abM_of (ini := false) [some (.ref a0), some (.int a1)] (by decide +kernel) (fun q => by first | rfl | cases q) (Nat.le_of_ble_eq_true rfl) rfl ?_
  unfold F_X11_letter at hf
  refine ab_iload_n 1 dX11_letter_0 rfl rfl ?_
  refine ab_bipush dX11_letter_1 kbp_32 ?_
  refine ab_bipush dX11_letter_3 kbp_126 ?_
  refine f_S_i (As := [.int a1, .int 32, .int 126]) (st := []) cs_X11_54 (fun v q => m_X11_within a1 32 126 h q) rfl rfl dX11_letter_5 (rmk rfl) hf (fun v1 hf => ?_)
  refine ab_if_ne 14 dX11_letter_8 (by decide) hf (fun hf => ?_) (fun hf => ?_)
  · refine ab_bipush dX11_letter_11 kbp_m102 ?_
    exact f_reti2 dX11_letter_13 rfl (Nat.le_refl 0) (Nat.le_refl 0) hf
  refine ab_aload_n 0 dX11_letter_14 rfl rfl ?_
  refine f_getR fs_X11_10 dX11_letter_15 hf (fun v2 hf => ?_)
  refine f_getI fs_X11_58 dX11_letter_18 hf (fun v3 hf => ?_)
  refine ab_bipush dX11_letter_21 kbp_34 ?_
  refine ab_icmp_lt 29 dX11_letter_23 (by decide) hf (fun hf => ?_) (fun hf => ?_)
  · refine ab_aload_n 0 dX11_letter_29 rfl rfl ?_
    refine f_getR fs_X11_10 dX11_letter_30 hf (fun v4 hf => ?_)
    refine f_getR fs_X11_62 dX11_letter_33 hf (fun v5 hf => ?_)
    refine ab_aload_n 0 dX11_letter_36 rfl rfl ?_
    refine f_getR fs_X11_10 dX11_letter_37 hf (fun v6 hf => ?_)
    refine f_getI fs_X11_58 dX11_letter_40 hf (fun v7 hf => ?_)
    refine ab_iload_n 1 dX11_letter_43 rfl rfl ?_
    refine ab_i2c dX11_letter_44 ?_
    refine f_cast dX11_letter_45 hf (fun h8 hf => ?_)
    refine ab_aload_n 0 dX11_letter_46 rfl rfl ?_
    refine f_getR fs_X11_10 dX11_letter_47 hf (fun v9 hf => ?_)
    refine ab_dup dX11_letter_50 rfl ?_
    refine f_getI fs_X11_58 dX11_letter_51 hf (fun v10 hf => ?_)
    refine ab_iconst dX11_letter_54 kic_1 ?_
    refine ab_iadd dX11_letter_55 ?_
    refine f_put fp_X11_58 (abFit_i _) dX11_letter_56 hf (fun h11 hf => ?_)
    refine ab_aload_n 0 dX11_letter_59 rfl rfl ?_
    refine f_getR fs_X11_10 dX11_letter_60 hf (fun v12 hf => ?_)
    refine f_getI fs_X11_58 dX11_letter_63 hf (fun v13 hf => ?_)
    exact f_reti2 dX11_letter_66 rfl (Nat.le_refl 0) (Nat.le_refl 0) hf
  refine ab_bipush dX11_letter_26 kbp_m104 ?_
  exact f_reti2 dX11_letter_28 rfl (Nat.le_refl 0) (Nat.le_refl 0) hf
def F_X11_fault (a0 : Nat) (h : abH) : Option Int32 :=
  (gR 11 h a0 0).bind fun v1 =>
  (ko 6 h v1).bind fun _ => (F_X6_firstWrong v1 h).bind fun v2 =>
  some v2
theorem m_X11_fault {z0 : Int32} (a0 : Nat) (h : abH) (hf : F_X11_fault a0 h = some z0) : abM yX11_fault cX11_fault 1 (some .int) 7 0 0 [.ref a0] h (some (.int z0)) h := by
  refine abM_of (ini := false) [some (.ref a0)] (by decide +kernel) (fun q => by first | rfl | cases q) (Nat.le_of_ble_eq_true rfl) rfl ?_
  unfold F_X11_fault at hf
  refine ab_aload_n 0 dX11_fault_0 rfl rfl ?_
  refine f_getR fs_X11_10 dX11_fault_1 hf (fun v1 hf => ?_)
  refine f_V_i (As := []) (st := []) cs_X11_66 (fun v q => m_X6_firstWrong v1 h q) rfl rfl dX11_fault_4 (rmk rfl) hf (fun v2 hf => ?_)
  exact f_reti dX11_fault_7 rfl (Nat.le_refl 0) (Nat.le_refl 0) hf
def F_X11_court (a0 : Nat) (h : abH) : Option (Int32 × abH) :=
  (gR 11 h a0 0).bind fun v1 =>
  (ko 6 h v1).bind fun _ => (F_X6_isCourt v1 h).bind fun v2 =>
  if v2 = 0 then
    some ((-103), h)
  else
    (gR 11 h a0 1).bind fun v3 =>
    (gR 11 h a0 0).bind fun v4 =>
    (ko 1 h v3).bind fun _ => (F_X1_read v3 v4 h).bind fun h5 =>
    (gR 11 h5 a0 0).bind fun v6 =>
    (sV 6 h5 v6 1 (.int 0)).bind fun h7 =>
    (sV 11 h7 a0 7 (.int 0)).bind fun h8 =>
    (gI 11 h8 a0 8).bind fun v9 =>
    (sV 11 h8 a0 8 (.int (v9 + 1))).bind fun h10 =>
    (gR 11 h10 a0 1).bind fun v11 =>
    (gI 1 h10 v11 0).bind fun v12 =>
    some (v12, h10)
theorem m_X11_court {z0 : Int32} {hz : abH} (a0 : Nat) (h : abH) (hf : F_X11_court a0 h = some (z0, hz)) : abM yX11_court cX11_court 1 (some .int) 8 6 12 [.ref a0] h (some (.int z0)) hz := by
  refine abM_of (ini := false) [some (.ref a0)] (by decide +kernel) (fun q => by first | rfl | cases q) (Nat.le_of_ble_eq_true rfl) rfl ?_
  unfold F_X11_court at hf
  refine ab_aload_n 0 dX11_court_0 rfl rfl ?_
  refine f_getR fs_X11_10 dX11_court_1 hf (fun v1 hf => ?_)
  refine f_V_i (As := []) (st := []) cs_X11_70 (fun v q => m_X6_isCourt v1 h q) rfl rfl dX11_court_4 (rmk2 (by decide) (by decide) (Nat.le_of_ble_eq_true rfl) (by omega) (by omega)) hf (fun v2 hf => ?_)
  refine ab_if_ne 13 dX11_court_7 (by decide) hf (fun hf => ?_) (fun hf => ?_)
  · refine ab_bipush dX11_court_10 kbp_m103 ?_
    exact f_reti2 dX11_court_12 rfl (by omega) (by omega) hf
  refine ab_aload_n 0 dX11_court_13 rfl rfl ?_
  refine f_getR fs_X11_19 dX11_court_14 hf (fun v3 hf => ?_)
  refine ab_aload_n 0 dX11_court_17 rfl rfl ?_
  refine f_getR fs_X11_10 dX11_court_18 hf (fun v4 hf => ?_)
  refine f_V_v2 (As := [.ref v4]) (st := []) cs_X11_74 (fun hq q => m_X1_read v3 v4 h q) rfl rfl dX11_court_21 (rmk2 (by decide) (by decide) (Nat.le_of_ble_eq_true rfl) (by omega) (by omega)) hf (fun h5 hf => ?_)
  refine ab_aload_n 0 dX11_court_24 rfl rfl ?_
  refine f_getR fs_X11_10 dX11_court_25 hf (fun v6 hf => ?_)
  refine ab_iconst dX11_court_28 kic_0 ?_
  refine f_put fp_X11_58 (abFit_i _) dX11_court_29 hf (fun h7 hf => ?_)
  refine ab_aload_n 0 dX11_court_32 rfl rfl ?_
  refine ab_iconst dX11_court_33 kic_0 ?_
  refine f_put fp_X11_78 (abFit_z (by decide)) dX11_court_34 hf (fun h8 hf => ?_)
  refine ab_aload_n 0 dX11_court_37 rfl rfl ?_
  refine ab_dup dX11_court_38 rfl ?_
  refine f_getI fs_X11_82 dX11_court_39 hf (fun v9 hf => ?_)
  refine ab_iconst dX11_court_42 kic_1 ?_
  refine ab_iadd dX11_court_43 ?_
  refine f_put fp_X11_82 (abFit_i _) dX11_court_44 hf (fun h10 hf => ?_)
  refine ab_aload_n 0 dX11_court_47 rfl rfl ?_
  refine f_getR fs_X11_19 dX11_court_48 hf (fun v11 hf => ?_)
  refine f_getI fs_X11_85 dX11_court_51 hf (fun v12 hf => ?_)
  exact f_reti2 dX11_court_54 rfl (by omega) (by omega) hf
def F_X11_party (a0 : Nat) (a1 : Int32) (a2 : Int32) (h : abH) : Option (Int32 × abH) :=
  (gR 11 h a0 1).bind fun v1 =>
  (ko 1 h v1).bind fun _ => (F_X1_has v1 a1 h).bind fun v2 =>
  if v2 = 0 then
    some ((-101), h)
  else
    if a2 = 0 then
      (gR 11 h a0 1).bind fun v3 =>
      (gR 1 h v3 1).bind fun v4 =>
      (gq h v4 a1).bind fun v5 =>
      v5.bind fun v6 =>
      (gK h v6 0).bind fun v7 =>
      some (v7, h)
    else
    if a2 = 1 then
      (gR 11 h a0 1).bind fun v8 =>
      (gR 1 h v8 2).bind fun v9 =>
      (ga 0 h v9 a1).bind fun v10 =>
      some (v10, h)
    else
    if a2 = 2 then
      (gR 11 h a0 1).bind fun v11 =>
      (gR 1 h v11 3).bind fun v12 =>
      (ga 0 h v12 a1).bind fun v13 =>
      some (v13, h)
    else
    if a2 = 3 then
      (gR 11 h a0 1).bind fun v14 =>
      (gR 11 h a0 1).bind fun v15 =>
      (gI 1 h v15 5).bind fun v16 =>
      (ko 1 h v14).bind fun _ => (F_X1_shade v14 a1 v16 h).bind fun v17 =>
      some (v17, h)
    else
    if a2 = 4 then
      (gR 11 h a0 1).bind fun v18 =>
      (gR 11 h a0 1).bind fun v19 =>
      (gR 11 h a0 1).bind fun v20 =>
      (gI 1 h v20 5).bind fun v21 =>
      (ko 1 h v19).bind fun _ => (F_X1_shade v19 a1 v21 h).bind fun v22 =>
      (ko 1 h v18).bind fun _ => (F_X1_worthOf v18 v22 h).bind fun v23 =>
      some (v23, h)
    else
    if a2 = 5 then
      (gR 11 h a0 3).bind fun v24 =>
      (gR 11 h a0 1).bind fun v25 =>
      (ko 8 h v24).bind fun _ => (F_X8_heights v24 v25 a1 h).bind fun v26 =>
      some (v26, h)
    else
    if a2 = 6 then
      (gR 11 h a0 3).bind fun v27 =>
      (gR 11 h a0 1).bind fun v28 =>
      (ko 8 h v27).bind fun _ => bd2 (F_X8_look v27 v28 a1 h) fun v30 h29 =>
      some (v30, h29)
    else
      some ((-102), h)
theorem m_X11_party {z0 : Int32} {hz : abH} (a0 : Nat) (a1 : Int32) (a2 : Int32) (h : abH) (hf : F_X11_party a0 a1 a2 h = some (z0, hz)) : abM yX11_party cX11_party 3 (some .int) 7 0 0 [.ref a0, .int a1, .int a2] h (some (.int z0)) hz := by
  refine abM_of (ini := false) [some (.ref a0), some (.int a1), some (.int a2)] (by decide +kernel) (fun q => by first | rfl | cases q) (Nat.le_of_ble_eq_true rfl) rfl ?_
  unfold F_X11_party at hf
  refine ab_aload_n 0 dX11_party_0 rfl rfl ?_
  refine f_getR fs_X11_19 dX11_party_1 hf (fun v1 hf => ?_)
  refine ab_iload_n 1 dX11_party_4 rfl rfl ?_
  refine f_V_i (As := [.int a1]) (st := []) cs_X11_88 (fun v q => m_X1_has v1 a1 h q) rfl rfl dX11_party_5 (rmk rfl) hf (fun v2 hf => ?_)
  refine ab_if_ne 14 dX11_party_8 (by decide) hf (fun hf => ?_) (fun hf => ?_)
  · refine ab_bipush dX11_party_11 kbp_m101 ?_
    exact f_reti2 dX11_party_13 rfl (Nat.le_refl 0) (Nat.le_refl 0) hf
  refine ab_iload_n 2 dX11_party_14 rfl rfl ?_
  refine f_tab 0 41 56 dX11_party_15 (by decide +kernel) (by decide) hf (fun hf => ?_) (fun q0 hf => ?_)
  · refine ab_aload_n 0 dX11_party_56 rfl rfl ?_
    refine f_getR fs_X11_19 dX11_party_57 hf (fun v3 hf => ?_)
    refine f_getR fs_X11_92 dX11_party_60 hf (fun v4 hf => ?_)
    refine ab_iload_n 1 dX11_party_63 rfl rfl ?_
    refine f_aald dX11_party_64 hf (fun v5 hf => ?_)
    refine f_nn hf (fun v6 hf => ?_)
    refine f_getK ft_X11_96 dX11_party_65 hf (fun v7 hf => ?_)
    exact f_reti2 dX11_party_68 rfl (Nat.le_refl 0) (Nat.le_refl 0) hf
  refine f_tab 1 54 69 dX11_party_15 (by decide +kernel) (by decide) hf (fun hf => ?_) (fun q1 hf => ?_)
  · refine ab_aload_n 0 dX11_party_69 rfl rfl ?_
    refine f_getR fs_X11_19 dX11_party_70 hf (fun v8 hf => ?_)
    refine f_getR fs_X11_101 dX11_party_73 hf (fun v9 hf => ?_)
    refine ab_iload_n 1 dX11_party_76 rfl rfl ?_
    refine f_iald dX11_party_77 hf (fun v10 hf => ?_)
    exact f_reti2 dX11_party_78 rfl (Nat.le_refl 0) (Nat.le_refl 0) hf
  refine f_tab 2 64 79 dX11_party_15 (by decide +kernel) (by decide) hf (fun hf => ?_) (fun q2 hf => ?_)
  · refine ab_aload_n 0 dX11_party_79 rfl rfl ?_
    refine f_getR fs_X11_19 dX11_party_80 hf (fun v11 hf => ?_)
    refine f_getR fs_X11_105 dX11_party_83 hf (fun v12 hf => ?_)
    refine ab_iload_n 1 dX11_party_86 rfl rfl ?_
    refine f_iald dX11_party_87 hf (fun v13 hf => ?_)
    exact f_reti2 dX11_party_88 rfl (Nat.le_refl 0) (Nat.le_refl 0) hf
  refine f_tab 3 74 89 dX11_party_15 (by decide +kernel) (by decide) hf (fun hf => ?_) (fun q3 hf => ?_)
  · refine ab_aload_n 0 dX11_party_89 rfl rfl ?_
    refine f_getR fs_X11_19 dX11_party_90 hf (fun v14 hf => ?_)
    refine ab_iload_n 1 dX11_party_93 rfl rfl ?_
    refine ab_aload_n 0 dX11_party_94 rfl rfl ?_
    refine f_getR fs_X11_19 dX11_party_95 hf (fun v15 hf => ?_)
    refine f_getI fs_X11_108 dX11_party_98 hf (fun v16 hf => ?_)
    refine f_V_i (As := [.int a1, .int v16]) (st := []) cs_X11_111 (fun v q => m_X1_shade v14 a1 v16 h q) rfl rfl dX11_party_101 (rmk rfl) hf (fun v17 hf => ?_)
    exact f_reti2 dX11_party_104 rfl (Nat.le_refl 0) (Nat.le_refl 0) hf
  refine f_tab 4 90 105 dX11_party_15 (by decide +kernel) (by decide) hf (fun hf => ?_) (fun q4 hf => ?_)
  · refine ab_aload_n 0 dX11_party_105 rfl rfl ?_
    refine f_getR fs_X11_19 dX11_party_106 hf (fun v18 hf => ?_)
    refine ab_aload_n 0 dX11_party_109 rfl rfl ?_
    refine f_getR fs_X11_19 dX11_party_110 hf (fun v19 hf => ?_)
    refine ab_iload_n 1 dX11_party_113 rfl rfl ?_
    refine ab_aload_n 0 dX11_party_114 rfl rfl ?_
    refine f_getR fs_X11_19 dX11_party_115 hf (fun v20 hf => ?_)
    refine f_getI fs_X11_108 dX11_party_118 hf (fun v21 hf => ?_)
    refine f_V_i (As := [.int a1, .int v21]) (st := [.ref v18]) cs_X11_111 (fun v q => m_X1_shade v19 a1 v21 h q) rfl rfl dX11_party_121 (rmk rfl) hf (fun v22 hf => ?_)
    refine f_V_i (As := [.int v22]) (st := []) cs_X11_115 (fun v q => m_X1_worthOf v18 v22 h q) rfl rfl dX11_party_124 (rmk rfl) hf (fun v23 hf => ?_)
    exact f_reti2 dX11_party_127 rfl (Nat.le_refl 0) (Nat.le_refl 0) hf
  refine f_tab 5 113 128 dX11_party_15 (by decide +kernel) (by decide) hf (fun hf => ?_) (fun q5 hf => ?_)
  · refine ab_aload_n 0 dX11_party_128 rfl rfl ?_
    refine f_getR fs_X11_29 dX11_party_129 hf (fun v24 hf => ?_)
    refine ab_aload_n 0 dX11_party_132 rfl rfl ?_
    refine f_getR fs_X11_19 dX11_party_133 hf (fun v25 hf => ?_)
    refine ab_iload_n 1 dX11_party_136 rfl rfl ?_
    refine f_V_i (As := [.ref v25, .int a1]) (st := []) cs_X11_119 (fun v q => m_X8_heights v24 v25 a1 h q) rfl rfl dX11_party_137 (rmk rfl) hf (fun v26 hf => ?_)
    exact f_reti2 dX11_party_140 rfl (Nat.le_refl 0) (Nat.le_refl 0) hf
  refine f_tab 6 126 141 dX11_party_15 (by decide +kernel) (by decide) hf (fun hf => ?_) (fun q6 hf => ?_)
  · refine ab_aload_n 0 dX11_party_141 rfl rfl ?_
    refine f_getR fs_X11_29 dX11_party_142 hf (fun v27 hf => ?_)
    refine ab_aload_n 0 dX11_party_145 rfl rfl ?_
    refine f_getR fs_X11_19 dX11_party_146 hf (fun v28 hf => ?_)
    refine ab_iload_n 1 dX11_party_149 rfl rfl ?_
    refine f_V_i2 (As := [.ref v28, .int a1]) (st := []) cs_X11_123 (fun v hq q => m_X8_look v27 v28 a1 h q) rfl rfl dX11_party_150 (rmk rfl) hf (fun v30 h29 hf => ?_)
    exact f_reti2 dX11_party_153 rfl (Nat.le_refl 0) (Nat.le_refl 0) hf
  refine ab_tableOut 154 dX11_party_15 (tout_6 q0 q1 q2 q3 q4 q5 q6) (by decide) ?_
  refine ab_bipush dX11_party_154 kbp_m102 ?_
  exact f_reti2 dX11_party_156 rfl (Nat.le_refl 0) (Nat.le_refl 0) hf
def F_X11_covers (a0 : Nat) (a1 : Int32) (a2 : Int32) (h : abH) : Option Int32 :=
  (gR 11 h a0 1).bind fun v1 =>
  (ko 1 h v1).bind fun _ => (F_X1_has v1 a1 h).bind fun v2 =>
  if v2 = 0 then
    some (-101)
  else
    (F_X11_isHour a2).bind fun v3 =>
    if v3 = 0 then
      some (-102)
    else
      (gR 11 h a0 1).bind fun v4 =>
      (ko 1 h v4).bind fun _ => (F_X1_shade v4 a1 a2 h).bind fun v5 =>
      some v5
theorem m_X11_covers {z0 : Int32} (a0 : Nat) (a1 : Int32) (a2 : Int32) (h : abH) (hf : F_X11_covers a0 a1 a2 h = some z0) : abM yX11_covers cX11_covers 3 (some .int) 4 0 0 [.ref a0, .int a1, .int a2] h (some (.int z0)) h := by
  refine abM_of (ini := false) [some (.ref a0), some (.int a1), some (.int a2)] (by decide +kernel) (fun q => by first | rfl | cases q) (Nat.le_of_ble_eq_true rfl) rfl ?_
  unfold F_X11_covers at hf
  refine ab_aload_n 0 dX11_covers_0 rfl rfl ?_
  refine f_getR fs_X11_19 dX11_covers_1 hf (fun v1 hf => ?_)
  refine ab_iload_n 1 dX11_covers_4 rfl rfl ?_
  refine f_V_i (As := [.int a1]) (st := []) cs_X11_88 (fun v q => m_X1_has v1 a1 h q) rfl rfl dX11_covers_5 (rmk rfl) hf (fun v2 hf => ?_)
  refine ab_if_ne 14 dX11_covers_8 (by decide) hf (fun hf => ?_) (fun hf => ?_)
  · refine ab_bipush dX11_covers_11 kbp_m101 ?_
    exact f_reti dX11_covers_13 rfl (Nat.le_refl 0) (Nat.le_refl 0) hf
  refine ab_iload_n 2 dX11_covers_14 rfl rfl ?_
  refine f_S_i (As := [.int a2]) (st := []) cs_X11_134 (fun v q => m_X11_isHour a2 h q) rfl rfl dX11_covers_15 (rmk rfl) hf (fun v3 hf => ?_)
  refine ab_if_ne 24 dX11_covers_18 (by decide) hf (fun hf => ?_) (fun hf => ?_)
  · refine ab_bipush dX11_covers_21 kbp_m102 ?_
    exact f_reti dX11_covers_23 rfl (Nat.le_refl 0) (Nat.le_refl 0) hf
  refine ab_aload_n 0 dX11_covers_24 rfl rfl ?_
  refine f_getR fs_X11_19 dX11_covers_25 hf (fun v4 hf => ?_)
  refine ab_iload_n 1 dX11_covers_28 rfl rfl ?_
  refine ab_iload_n 2 dX11_covers_29 rfl rfl ?_
  refine f_V_i (As := [.int a1, .int a2]) (st := []) cs_X11_111 (fun v q => m_X1_shade v4 a1 a2 h q) rfl rfl dX11_covers_30 (rmk rfl) hf (fun v5 hf => ?_)
  exact f_reti dX11_covers_33 rfl (Nat.le_refl 0) (Nat.le_refl 0) hf
def F_X11_as (a0 : Nat) (a1 : Int32) (a2 : Int32) (h : abH) : Option Int32 :=
  (gR 11 h a0 1).bind fun v1 =>
  (ko 1 h v1).bind fun _ => (F_X1_has v1 a1 h).bind fun v2 =>
  if v2 = 0 then
    some (-101)
  else
    if a2 = 0 then
      some a1
    else
    if a2 = 1 then
      (gR 11 h a0 1).bind fun v3 =>
      (gR 1 h v3 1).bind fun v4 =>
      (gq h v4 a1).bind fun v5 =>
      v5.bind fun v6 =>
      (kc h v6).bind fun cc => (isI cc 4).bind fun v7 =>
      if v7 = 0 then
        some (-1)
      else
        some a1
    else
    if a2 = 2 then
      (gR 11 h a0 1).bind fun v8 =>
      (gR 1 h v8 1).bind fun v9 =>
      (gq h v9 a1).bind fun v10 =>
      v10.bind fun v11 =>
      (kc h v11).bind fun cc => (isI cc 10).bind fun v12 =>
      if v12 = 0 then
        some (-1)
      else
        some a1
    else
    if a2 = 3 then
      (gR 11 h a0 1).bind fun v13 =>
      (gR 1 h v13 1).bind fun v14 =>
      (gq h v14 a1).bind fun v15 =>
      v15.bind fun v16 =>
      (kc h v16).bind fun cc => (isI cc 0).bind fun v17 =>
      if v17 = 0 then
        some (-1)
      else
        some a1
    else
    if a2 = 4 then
      (gR 11 h a0 1).bind fun v18 =>
      (gR 1 h v18 1).bind fun v19 =>
      (gq h v19 a1).bind fun v20 =>
      v20.bind fun v21 =>
      (kc h v21).bind fun cc => (isI cc 7).bind fun v22 =>
      if v22 = 0 then
        some (-1)
      else
        some a1
    else
      some (-102)
theorem m_X11_as {z0 : Int32} (a0 : Nat) (a1 : Int32) (a2 : Int32) (h : abH) (hf : F_X11_as a0 a1 a2 h = some z0) : abM yX11_as cX11_as 3 (some .int) 2 0 0 [.ref a0, .int a1, .int a2] h (some (.int z0)) h := by
  refine abM_of (ini := false) [some (.ref a0), some (.int a1), some (.int a2)] (by decide +kernel) (fun q => by first | rfl | cases q) (Nat.le_of_ble_eq_true rfl) rfl ?_
  unfold F_X11_as at hf
  refine ab_aload_n 0 dX11_as_0 rfl rfl ?_
  refine f_getR fs_X11_19 dX11_as_1 hf (fun v1 hf => ?_)
  refine ab_iload_n 1 dX11_as_4 rfl rfl ?_
  refine f_V_i (As := [.int a1]) (st := []) cs_X11_88 (fun v q => m_X1_has v1 a1 h q) rfl rfl dX11_as_5 (rmk rfl) hf (fun v2 hf => ?_)
  refine ab_if_ne 14 dX11_as_8 (by decide) hf (fun hf => ?_) (fun hf => ?_)
  · refine ab_bipush dX11_as_11 kbp_m101 ?_
    exact f_reti dX11_as_13 rfl (Nat.le_refl 0) (Nat.le_refl 0) hf
  refine ab_iload_n 2 dX11_as_14 rfl rfl ?_
  refine f_tab 0 33 48 dX11_as_15 (by decide +kernel) (by decide) hf (fun hf => ?_) (fun q0 hf => ?_)
  · refine ab_iload_n 1 dX11_as_48 rfl rfl ?_
    exact f_reti dX11_as_49 rfl (Nat.le_refl 0) (Nat.le_refl 0) hf
  refine f_tab 1 35 50 dX11_as_15 (by decide +kernel) (by decide) hf (fun hf => ?_) (fun q1 hf => ?_)
  · refine ab_aload_n 0 dX11_as_50 rfl rfl ?_
    refine f_getR fs_X11_19 dX11_as_51 hf (fun v3 hf => ?_)
    refine f_getR fs_X11_92 dX11_as_54 hf (fun v4 hf => ?_)
    refine ab_iload_n 1 dX11_as_57 rfl rfl ?_
    refine f_aald dX11_as_58 hf (fun v5 hf => ?_)
    refine f_nn hf (fun v6 hf => ?_)
    refine f_inst 4 (Or.inl ⟨rfl, rfl⟩) tb_302 dX11_as_59 hf (fun v7 hf => ?_)
    refine ab_if_eq 69 dX11_as_62 (by decide) hf (fun hf => ?_) (fun hf => ?_)
    · refine ab_iconst dX11_as_69 kic_m1 ?_
      exact f_reti dX11_as_70 rfl (Nat.le_refl 0) (Nat.le_refl 0) hf
    refine ab_iload_n 1 dX11_as_65 rfl rfl ?_
    refine ab_goto 70 dX11_as_66 (by decide) ?_
    exact f_reti dX11_as_70 rfl (Nat.le_refl 0) (Nat.le_refl 0) hf
  refine f_tab 2 56 71 dX11_as_15 (by decide +kernel) (by decide) hf (fun hf => ?_) (fun q2 hf => ?_)
  · refine ab_aload_n 0 dX11_as_71 rfl rfl ?_
    refine f_getR fs_X11_19 dX11_as_72 hf (fun v8 hf => ?_)
    refine f_getR fs_X11_92 dX11_as_75 hf (fun v9 hf => ?_)
    refine ab_iload_n 1 dX11_as_78 rfl rfl ?_
    refine f_aald dX11_as_79 hf (fun v10 hf => ?_)
    refine f_nn hf (fun v11 hf => ?_)
    refine f_inst 10 (Or.inr (Or.inl ⟨rfl, rfl⟩)) tb_303 dX11_as_80 hf (fun v12 hf => ?_)
    refine ab_if_eq 90 dX11_as_83 (by decide) hf (fun hf => ?_) (fun hf => ?_)
    · refine ab_iconst dX11_as_90 kic_m1 ?_
      exact f_reti dX11_as_91 rfl (Nat.le_refl 0) (Nat.le_refl 0) hf
    refine ab_iload_n 1 dX11_as_86 rfl rfl ?_
    refine ab_goto 91 dX11_as_87 (by decide) ?_
    exact f_reti dX11_as_91 rfl (Nat.le_refl 0) (Nat.le_refl 0) hf
  refine f_tab 3 77 92 dX11_as_15 (by decide +kernel) (by decide) hf (fun hf => ?_) (fun q3 hf => ?_)
  · refine ab_aload_n 0 dX11_as_92 rfl rfl ?_
    refine f_getR fs_X11_19 dX11_as_93 hf (fun v13 hf => ?_)
    refine f_getR fs_X11_92 dX11_as_96 hf (fun v14 hf => ?_)
    refine ab_iload_n 1 dX11_as_99 rfl rfl ?_
    refine f_aald dX11_as_100 hf (fun v15 hf => ?_)
    refine f_nn hf (fun v16 hf => ?_)
    refine f_inst 0 (Or.inr (Or.inr (Or.inl ⟨rfl, rfl⟩))) tb_304 dX11_as_101 hf (fun v17 hf => ?_)
    refine ab_if_eq 111 dX11_as_104 (by decide) hf (fun hf => ?_) (fun hf => ?_)
    · refine ab_iconst dX11_as_111 kic_m1 ?_
      exact f_reti dX11_as_112 rfl (Nat.le_refl 0) (Nat.le_refl 0) hf
    refine ab_iload_n 1 dX11_as_107 rfl rfl ?_
    refine ab_goto 112 dX11_as_108 (by decide) ?_
    exact f_reti dX11_as_112 rfl (Nat.le_refl 0) (Nat.le_refl 0) hf
  refine f_tab 4 98 113 dX11_as_15 (by decide +kernel) (by decide) hf (fun hf => ?_) (fun q4 hf => ?_)
  · refine ab_aload_n 0 dX11_as_113 rfl rfl ?_
    refine f_getR fs_X11_19 dX11_as_114 hf (fun v18 hf => ?_)
    refine f_getR fs_X11_92 dX11_as_117 hf (fun v19 hf => ?_)
    refine ab_iload_n 1 dX11_as_120 rfl rfl ?_
    refine f_aald dX11_as_121 hf (fun v20 hf => ?_)
    refine f_nn hf (fun v21 hf => ?_)
    refine f_inst 7 (Or.inr (Or.inr (Or.inr ⟨rfl, rfl⟩))) tb_305 dX11_as_122 hf (fun v22 hf => ?_)
    refine ab_if_eq 132 dX11_as_125 (by decide) hf (fun hf => ?_) (fun hf => ?_)
    · refine ab_iconst dX11_as_132 kic_m1 ?_
      exact f_reti dX11_as_133 rfl (Nat.le_refl 0) (Nat.le_refl 0) hf
    refine ab_iload_n 1 dX11_as_128 rfl rfl ?_
    refine ab_goto 133 dX11_as_129 (by decide) ?_
    exact f_reti dX11_as_133 rfl (Nat.le_refl 0) (Nat.le_refl 0) hf
  refine ab_tableOut 134 dX11_as_15 (tout_4 q0 q1 q2 q3 q4) (by decide) ?_
  refine ab_bipush dX11_as_134 kbp_m102 ?_
  exact f_reti dX11_as_136 rfl (Nat.le_refl 0) (Nat.le_refl 0) hf
def F_X11_found (a0 : Nat) (a1 : Int32) (a2 : Int32) (a3 : Int32) (h : abH) : Option Int32 :=
  (gR 11 h a0 1).bind fun v1 =>
  (ko 1 h v1).bind fun _ => (F_X1_hasTwo v1 a1 a2 h).bind fun v2 =>
  if v2 = 0 then
    some (-101)
  else
    (F_X11_isHour a3).bind fun v3 =>
    if v3 = 0 then
      some (-102)
    else
      (gR 11 h a0 1).bind fun v4 =>
      (ko 1 h v4).bind fun _ => (F_X1_balance v4 a1 a2 a3 h).bind fun v5 =>
      some (v5 + 100)
theorem m_X11_found {z0 : Int32} (a0 : Nat) (a1 : Int32) (a2 : Int32) (a3 : Int32) (h : abH) (hf : F_X11_found a0 a1 a2 a3 h = some z0) : abM yX11_found cX11_found 4 (some .int) 5 0 0 [.ref a0, .int a1, .int a2, .int a3] h (some (.int z0)) h := by
  refine abM_of (ini := false) [some (.ref a0), some (.int a1), some (.int a2), some (.int a3)] (by decide +kernel) (fun q => by first | rfl | cases q) (Nat.le_of_ble_eq_true rfl) rfl ?_
  unfold F_X11_found at hf
  refine ab_aload_n 0 dX11_found_0 rfl rfl ?_
  refine f_getR fs_X11_19 dX11_found_1 hf (fun v1 hf => ?_)
  refine ab_iload_n 1 dX11_found_4 rfl rfl ?_
  refine ab_iload_n 2 dX11_found_5 rfl rfl ?_
  refine f_V_i (As := [.int a1, .int a2]) (st := []) cs_X11_149 (fun v q => m_X1_hasTwo v1 a1 a2 h q) rfl rfl dX11_found_6 (rmk rfl) hf (fun v2 hf => ?_)
  refine ab_if_ne 15 dX11_found_9 (by decide) hf (fun hf => ?_) (fun hf => ?_)
  · refine ab_bipush dX11_found_12 kbp_m101 ?_
    exact f_reti dX11_found_14 rfl (Nat.le_refl 0) (Nat.le_refl 0) hf
  refine ab_iload_n 3 dX11_found_15 rfl rfl ?_
  refine f_S_i (As := [.int a3]) (st := []) cs_X11_134 (fun v q => m_X11_isHour a3 h q) rfl rfl dX11_found_16 (rmk rfl) hf (fun v3 hf => ?_)
  refine ab_if_ne 25 dX11_found_19 (by decide) hf (fun hf => ?_) (fun hf => ?_)
  · refine ab_bipush dX11_found_22 kbp_m102 ?_
    exact f_reti dX11_found_24 rfl (Nat.le_refl 0) (Nat.le_refl 0) hf
  refine ab_aload_n 0 dX11_found_25 rfl rfl ?_
  refine f_getR fs_X11_19 dX11_found_26 hf (fun v4 hf => ?_)
  refine ab_iload_n 1 dX11_found_29 rfl rfl ?_
  refine ab_iload_n 2 dX11_found_30 rfl rfl ?_
  refine ab_iload_n 3 dX11_found_31 rfl rfl ?_
  refine f_V_i (As := [.int a1, .int a2, .int a3]) (st := []) cs_X11_153 (fun v q => m_X1_balance v4 a1 a2 a3 h q) rfl rfl dX11_found_32 (rmk rfl) hf (fun v5 hf => ?_)
  refine ab_bipush dX11_found_35 kbp_100 ?_
  refine ab_iadd dX11_found_37 ?_
  exact f_reti dX11_found_38 rfl (Nat.le_refl 0) (Nat.le_refl 0) hf
def F_X11_tile (a0 : Nat) (a1 : Int32) (a2 : Int32) (h : abH) : Option Int32 :=
  (gR 11 h a0 1).bind fun v1 =>
  (ko 1 h v1).bind fun _ => (F_X1_hasTile v1 a1 h).bind fun v2 =>
  if v2 = 0 then
    some (-101)
  else
    if a2 = 0 then
      (gR 11 h a0 1).bind fun v3 =>
      (gR 1 h v3 4).bind fun v4 =>
      (ga 0 h v4 a1).bind fun v5 =>
      some v5
    else
    if a2 = 1 then
      (gR 11 h a0 1).bind fun v6 =>
      (ko 1 h v6).bind fun _ => (F_X1_standingOn v6 a1 h).bind fun v7 =>
      some v7
    else
    if a2 = 2 then
      (gR 11 h a0 1).bind fun v8 =>
      (ko 1 h v8).bind fun _ => (F_X1_covering v8 a1 h).bind fun v9 =>
      some v9
    else
      some (-102)
theorem m_X11_tile {z0 : Int32} (a0 : Nat) (a1 : Int32) (a2 : Int32) (h : abH) (hf : F_X11_tile a0 a1 a2 h = some z0) : abM yX11_tile cX11_tile 3 (some .int) 5 0 0 [.ref a0, .int a1, .int a2] h (some (.int z0)) h := by
  refine abM_of (ini := false) [some (.ref a0), some (.int a1), some (.int a2)] (by decide +kernel) (fun q => by first | rfl | cases q) (Nat.le_of_ble_eq_true rfl) rfl ?_
  unfold F_X11_tile at hf
  refine ab_aload_n 0 dX11_tile_0 rfl rfl ?_
  refine f_getR fs_X11_19 dX11_tile_1 hf (fun v1 hf => ?_)
  refine ab_iload_n 1 dX11_tile_4 rfl rfl ?_
  refine f_V_i (As := [.int a1]) (st := []) cs_X11_137 (fun v q => m_X1_hasTile v1 a1 h q) rfl rfl dX11_tile_5 (rmk rfl) hf (fun v2 hf => ?_)
  refine ab_if_ne 14 dX11_tile_8 (by decide) hf (fun hf => ?_) (fun hf => ?_)
  · refine ab_bipush dX11_tile_11 kbp_m101 ?_
    exact f_reti dX11_tile_13 rfl (Nat.le_refl 0) (Nat.le_refl 0) hf
  refine ab_iload_n 2 dX11_tile_14 rfl rfl ?_
  refine f_tab 0 25 40 dX11_tile_15 (by decide +kernel) (by decide) hf (fun hf => ?_) (fun q0 hf => ?_)
  · refine ab_aload_n 0 dX11_tile_40 rfl rfl ?_
    refine f_getR fs_X11_19 dX11_tile_41 hf (fun v3 hf => ?_)
    refine f_getR fs_X11_140 dX11_tile_44 hf (fun v4 hf => ?_)
    refine ab_iload_n 1 dX11_tile_47 rfl rfl ?_
    refine f_iald dX11_tile_48 hf (fun v5 hf => ?_)
    exact f_reti dX11_tile_49 rfl (Nat.le_refl 0) (Nat.le_refl 0) hf
  refine f_tab 1 35 50 dX11_tile_15 (by decide +kernel) (by decide) hf (fun hf => ?_) (fun q1 hf => ?_)
  · refine ab_aload_n 0 dX11_tile_50 rfl rfl ?_
    refine f_getR fs_X11_19 dX11_tile_51 hf (fun v6 hf => ?_)
    refine ab_iload_n 1 dX11_tile_54 rfl rfl ?_
    refine f_V_i (As := [.int a1]) (st := []) cs_X11_143 (fun v q => m_X1_standingOn v6 a1 h q) rfl rfl dX11_tile_55 (rmk rfl) hf (fun v7 hf => ?_)
    exact f_reti dX11_tile_58 rfl (Nat.le_refl 0) (Nat.le_refl 0) hf
  refine f_tab 2 44 59 dX11_tile_15 (by decide +kernel) (by decide) hf (fun hf => ?_) (fun q2 hf => ?_)
  · refine ab_aload_n 0 dX11_tile_59 rfl rfl ?_
    refine f_getR fs_X11_19 dX11_tile_60 hf (fun v8 hf => ?_)
    refine ab_iload_n 1 dX11_tile_63 rfl rfl ?_
    refine f_V_i (As := [.int a1]) (st := []) cs_X11_146 (fun v q => m_X1_covering v8 a1 h q) rfl rfl dX11_tile_64 (rmk rfl) hf (fun v9 hf => ?_)
    exact f_reti dX11_tile_67 rfl (Nat.le_refl 0) (Nat.le_refl 0) hf
  refine ab_tableOut 68 dX11_tile_15 (tout_2 q0 q1 q2) (by decide) ?_
  refine ab_bipush dX11_tile_68 kbp_m102 ?_
  exact f_reti dX11_tile_70 rfl (Nat.le_refl 0) (Nat.le_refl 0) hf
def F_X11_count (a0 : Nat) (a1 : Int32) (h : abH) : Option Int32 :=
  if a1 = 0 then
    (gR 11 h a0 1).bind fun v1 =>
    (gI 1 h v1 0).bind fun v2 =>
    some v2
  else
  if a1 = 1 then
    (gR 11 h a0 1).bind fun v3 =>
    (gI 1 h v3 5).bind fun v4 =>
    some v4
  else
  if a1 = 2 then
    (gR 11 h a0 1).bind fun v5 =>
    (gI 1 h v5 6).bind fun v6 =>
    some v6
  else
  if a1 = 3 then
    (gR 11 h a0 1).bind fun v7 =>
    (ko 1 h v7).bind fun _ => (F_X1_worthOf v7 1023 h).bind fun v8 =>
    some v8
  else
  if a1 = 4 then
    (gR 11 h a0 1).bind fun v9 =>
    (ko 1 h v9).bind fun _ => (F_X1_tilesCoveredBy v9 1 h).bind fun v10 =>
    some v10
  else
  if a1 = 5 then
    (gR 11 h a0 1).bind fun v11 =>
    (ko 1 h v11).bind fun _ => (F_X1_tilesCoveredBy v11 2 h).bind fun v12 =>
    some v12
  else
  if a1 = 6 then
    (gR 11 h a0 1).bind fun v13 =>
    (gI 1 h v13 7).bind fun v14 =>
    some v14
  else
  if a1 = 7 then
    (gR 11 h a0 1).bind fun v15 =>
    (ko 1 h v15).bind fun _ => (F_X1_casesAsTheyShouldBe v15 h).bind fun v16 =>
    some v16
  else
  if a1 = 8 then
    (gR 11 h a0 1).bind fun v17 =>
    (gI 1 h v17 10).bind fun v18 =>
    some v18
  else
  if a1 = 9 then
    (gR 11 h a0 0).bind fun v19 =>
    (gI 6 h v19 1).bind fun v20 =>
    some v20
  else
  if a1 = 10 then
    (gI 11 h a0 8).bind fun v21 =>
    some v21
  else
    some (-102)
theorem m_X11_count {z0 : Int32} (a0 : Nat) (a1 : Int32) (h : abH) (hf : F_X11_count a0 a1 h = some z0) : abM yX11_count cX11_count 2 (some .int) 6 0 0 [.ref a0, .int a1] h (some (.int z0)) h := by
  refine abM_of (ini := false) [some (.ref a0), some (.int a1)] (by decide +kernel) (fun q => by first | rfl | cases q) (Nat.le_of_ble_eq_true rfl) rfl ?_
  unfold F_X11_count at hf
  refine ab_iload_n 1 dX11_count_0 rfl rfl ?_
  refine f_tab 0 59 60 dX11_count_1 (by decide +kernel) (by decide) hf (fun hf => ?_) (fun q0 hf => ?_)
  · refine ab_aload_n 0 dX11_count_60 rfl rfl ?_
    refine f_getR fs_X11_19 dX11_count_61 hf (fun v1 hf => ?_)
    refine f_getI fs_X11_85 dX11_count_64 hf (fun v2 hf => ?_)
    exact f_reti dX11_count_67 rfl (Nat.le_refl 0) (Nat.le_refl 0) hf
  refine f_tab 1 67 68 dX11_count_1 (by decide +kernel) (by decide) hf (fun hf => ?_) (fun q1 hf => ?_)
  · refine ab_aload_n 0 dX11_count_68 rfl rfl ?_
    refine f_getR fs_X11_19 dX11_count_69 hf (fun v3 hf => ?_)
    refine f_getI fs_X11_108 dX11_count_72 hf (fun v4 hf => ?_)
    exact f_reti dX11_count_75 rfl (Nat.le_refl 0) (Nat.le_refl 0) hf
  refine f_tab 2 75 76 dX11_count_1 (by decide +kernel) (by decide) hf (fun hf => ?_) (fun q2 hf => ?_)
  · refine ab_aload_n 0 dX11_count_76 rfl rfl ?_
    refine f_getR fs_X11_19 dX11_count_77 hf (fun v5 hf => ?_)
    refine f_getI fs_X11_160 dX11_count_80 hf (fun v6 hf => ?_)
    exact f_reti dX11_count_83 rfl (Nat.le_refl 0) (Nat.le_refl 0) hf
  refine f_tab 3 83 84 dX11_count_1 (by decide +kernel) (by decide) hf (fun hf => ?_) (fun q3 hf => ?_)
  · refine ab_aload_n 0 dX11_count_84 rfl rfl ?_
    refine f_getR fs_X11_19 dX11_count_85 hf (fun v7 hf => ?_)
    refine ab_sipush dX11_count_88 ksp_1023 ?_
    refine f_V_i (As := [.int 1023]) (st := []) cs_X11_115 (fun v q => m_X1_worthOf v7 1023 h q) rfl rfl dX11_count_91 (rmk rfl) hf (fun v8 hf => ?_)
    exact f_reti dX11_count_94 rfl (Nat.le_refl 0) (Nat.le_refl 0) hf
  refine f_tab 4 94 95 dX11_count_1 (by decide +kernel) (by decide) hf (fun hf => ?_) (fun q4 hf => ?_)
  · refine ab_aload_n 0 dX11_count_95 rfl rfl ?_
    refine f_getR fs_X11_19 dX11_count_96 hf (fun v9 hf => ?_)
    refine ab_iconst dX11_count_99 kic_1 ?_
    refine f_V_i (As := [.int 1]) (st := []) cs_X11_234 (fun v q => m_X1_tilesCoveredBy v9 1 h q) rfl rfl dX11_count_100 (rmk rfl) hf (fun v10 hf => ?_)
    exact f_reti dX11_count_103 rfl (Nat.le_refl 0) (Nat.le_refl 0) hf
  refine f_tab 5 103 104 dX11_count_1 (by decide +kernel) (by decide) hf (fun hf => ?_) (fun q5 hf => ?_)
  · refine ab_aload_n 0 dX11_count_104 rfl rfl ?_
    refine f_getR fs_X11_19 dX11_count_105 hf (fun v11 hf => ?_)
    refine ab_iconst dX11_count_108 kic_2 ?_
    refine f_V_i (As := [.int 2]) (st := []) cs_X11_234 (fun v q => m_X1_tilesCoveredBy v11 2 h q) rfl rfl dX11_count_109 (rmk rfl) hf (fun v12 hf => ?_)
    exact f_reti dX11_count_112 rfl (Nat.le_refl 0) (Nat.le_refl 0) hf
  refine f_tab 6 112 113 dX11_count_1 (by decide +kernel) (by decide) hf (fun hf => ?_) (fun q6 hf => ?_)
  · refine ab_aload_n 0 dX11_count_113 rfl rfl ?_
    refine f_getR fs_X11_19 dX11_count_114 hf (fun v13 hf => ?_)
    refine f_getI fs_X11_166 dX11_count_117 hf (fun v14 hf => ?_)
    exact f_reti dX11_count_120 rfl (Nat.le_refl 0) (Nat.le_refl 0) hf
  refine f_tab 7 120 121 dX11_count_1 (by decide +kernel) (by decide) hf (fun hf => ?_) (fun q7 hf => ?_)
  · refine ab_aload_n 0 dX11_count_121 rfl rfl ?_
    refine f_getR fs_X11_19 dX11_count_122 hf (fun v15 hf => ?_)
    refine f_V_i (As := []) (st := []) cs_X11_237 (fun v q => m_X1_casesAsTheyShouldBe v15 h q) rfl rfl dX11_count_125 (rmk rfl) hf (fun v16 hf => ?_)
    exact f_reti dX11_count_128 rfl (Nat.le_refl 0) (Nat.le_refl 0) hf
  refine f_tab 8 128 129 dX11_count_1 (by decide +kernel) (by decide) hf (fun hf => ?_) (fun q8 hf => ?_)
  · refine ab_aload_n 0 dX11_count_129 rfl rfl ?_
    refine f_getR fs_X11_19 dX11_count_130 hf (fun v17 hf => ?_)
    refine f_getI fs_X11_199 dX11_count_133 hf (fun v18 hf => ?_)
    exact f_reti dX11_count_136 rfl (Nat.le_refl 0) (Nat.le_refl 0) hf
  refine f_tab 9 136 137 dX11_count_1 (by decide +kernel) (by decide) hf (fun hf => ?_) (fun q9 hf => ?_)
  · refine ab_aload_n 0 dX11_count_137 rfl rfl ?_
    refine f_getR fs_X11_10 dX11_count_138 hf (fun v19 hf => ?_)
    refine f_getI fs_X11_58 dX11_count_141 hf (fun v20 hf => ?_)
    exact f_reti dX11_count_144 rfl (Nat.le_refl 0) (Nat.le_refl 0) hf
  refine f_tab 10 144 145 dX11_count_1 (by decide +kernel) (by decide) hf (fun hf => ?_) (fun q10 hf => ?_)
  · refine ab_aload_n 0 dX11_count_145 rfl rfl ?_
    refine f_getI fs_X11_82 dX11_count_146 hf (fun v21 hf => ?_)
    exact f_reti dX11_count_149 rfl (Nat.le_refl 0) (Nat.le_refl 0) hf
  refine ab_tableOut 150 dX11_count_1 (tout_10 q0 q1 q2 q3 q4 q5 q6 q7 q8 q9 q10) (by decide) ?_
  refine ab_bipush dX11_count_150 kbp_m102 ?_
  exact f_reti dX11_count_152 rfl (Nat.le_refl 0) (Nat.le_refl 0) hf
def F_X11_tick_B69 (x0 : Nat) (x1 : Int32) (h : abH) : Option (Int32 × abH) :=
  (gR 11 h x0 1).bind fun v5 =>
  if x1 = 0 then
    (gR 11 h x0 1).bind fun v6 =>
    (gI 1 h v6 5).bind fun v7 =>
    (sV 1 h v5 5 (.int (v7 + 1))).bind fun h8 =>
    (gR 11 h8 x0 1).bind fun v9 =>
    (gI 1 h8 v9 5).bind fun v10 =>
    some (v10, h8)
  else
    (sV 1 h v5 5 (.int 0)).bind fun h11 =>
    (gR 11 h11 x0 1).bind fun v12 =>
    (gI 1 h11 v12 5).bind fun v13 =>
    some (v13, h11)
theorem w_X11_tick_B69 {z0 : Int32} {hz : abH} (x0 : Nat) (x1 : Int32) (h : abH)   (hf : F_X11_tick_B69 x0 x1 h = some (z0, hz)) : abW cX11_tick 2 RX11 (some .int) false 2 0 0 none (some (.int z0), hz) 69 [some (.ref x0), some (.int x1)] [] h 0 0 := by
  unfold F_X11_tick_B69 at hf
  refine ab_aload_n 0 dX11_tick_69 rfl rfl ?_
  refine f_getR fs_X11_19 dX11_tick_70 hf (fun v5 hf => ?_)
  refine ab_iload_n 1 dX11_tick_73 rfl rfl ?_
  refine ab_if_eq 81 dX11_tick_74 (by decide) hf (fun hf => ?_) (fun hf => ?_)
  · refine ab_aload_n 0 dX11_tick_81 rfl rfl ?_
    refine f_getR fs_X11_19 dX11_tick_82 hf (fun v6 hf => ?_)
    refine f_getI fs_X11_108 dX11_tick_85 hf (fun v7 hf => ?_)
    refine ab_iconst dX11_tick_88 kic_1 ?_
    refine ab_iadd dX11_tick_89 ?_
    refine f_put fp_X11_108 (abFit_i _) dX11_tick_90 hf (fun h8 hf => ?_)
    refine ab_aload_n 0 dX11_tick_93 rfl rfl ?_
    refine f_getR fs_X11_19 dX11_tick_94 hf (fun v9 hf => ?_)
    refine f_getI fs_X11_108 dX11_tick_97 hf (fun v10 hf => ?_)
    exact f_reti2 dX11_tick_100 rfl (Nat.le_refl 0) (Nat.le_refl 0) hf
  refine ab_iconst dX11_tick_77 kic_0 ?_
  refine ab_goto 90 dX11_tick_78 (by decide) ?_
  refine f_put fp_X11_108 (abFit_i _) dX11_tick_90 hf (fun h11 hf => ?_)
  refine ab_aload_n 0 dX11_tick_93 rfl rfl ?_
  refine f_getR fs_X11_19 dX11_tick_94 hf (fun v12 hf => ?_)
  refine f_getI fs_X11_108 dX11_tick_97 hf (fun v13 hf => ?_)
  exact f_reti2 dX11_tick_100 rfl (Nat.le_refl 0) (Nat.le_refl 0) hf
def F_X11_tick_B52 (x0 : Nat) (x1 : Int32) (h : abH) : Option (Int32 × abH) :=
  if x1 = 0 then
    F_X11_tick_B69 x0 x1 h
  else
    (gR 11 h x0 1).bind fun v14 =>
    (gI 1 h v14 6).bind fun v15 =>
    (sV 1 h v14 6 (.int (v15 + 1))).bind fun h16 =>
    F_X11_tick_B69 x0 x1 h16
theorem w_X11_tick_B52 {z0 : Int32} {hz : abH} (x0 : Nat) (x1 : Int32) (h : abH)   (hf : F_X11_tick_B52 x0 x1 h = some (z0, hz)) : abW cX11_tick 2 RX11 (some .int) false 2 0 0 none (some (.int z0), hz) 52 [some (.ref x0), some (.int x1)] [] h 0 0 := by
  unfold F_X11_tick_B52 at hf
  refine ab_iload_n 1 dX11_tick_52 rfl rfl ?_
  refine ab_if_eq 69 dX11_tick_53 (by decide) hf (fun hf => ?_) (fun hf => ?_)
  · exact ab_msk [true, true] (w_X11_tick_B69 x0 x1 h hf)
  refine ab_aload_n 0 dX11_tick_56 rfl rfl ?_
  refine f_getR fs_X11_19 dX11_tick_57 hf (fun v14 hf => ?_)
  refine ab_dup dX11_tick_60 rfl ?_
  refine f_getI fs_X11_160 dX11_tick_61 hf (fun v15 hf => ?_)
  refine ab_iconst dX11_tick_64 kic_1 ?_
  refine ab_iadd dX11_tick_65 ?_
  refine f_put fp_X11_160 (abFit_i _) dX11_tick_66 hf (fun h16 hf => ?_)
  exact ab_msk [true, true] (w_X11_tick_B69 x0 x1 h16 hf)
def F_X11_tick_B30 (x0 : Nat) (y0 : Int32) (h : abH) : Option (Int32 × abH) :=
  if y0 = 0 then
    F_X11_tick_B52 x0 y0 h
  else
    (gR 11 h x0 1).bind fun v17 =>
    (gI 1 h v17 6).bind fun v18 =>
    if (v18 + 1) < 100 then
      F_X11_tick_B52 x0 y0 h
    else
      some ((-104), h)
theorem w_X11_tick_B30 {z0 : Int32} {hz : abH} (x0 : Nat) (y0 : Int32) (h : abH)   (hf : F_X11_tick_B30 x0 y0 h = some (z0, hz)) : abW cX11_tick 2 RX11 (some .int) false 2 0 0 none (some (.int z0), hz) 30 [some (.ref x0), none] [.int y0] h 0 0 := by
  unfold F_X11_tick_B30 at hf
  refine ab_istore_n 1 [some (.ref x0), some (.int y0)] dX11_tick_30 rfl (by decide) rfl rfl ?_
  refine ab_iload_n 1 dX11_tick_31 rfl rfl ?_
  refine ab_if_eq 52 dX11_tick_32 (by decide) hf (fun hf => ?_) (fun hf => ?_)
  · exact ab_msk [true, true] (w_X11_tick_B52 x0 y0 h hf)
  refine ab_aload_n 0 dX11_tick_35 rfl rfl ?_
  refine f_getR fs_X11_19 dX11_tick_36 hf (fun v17 hf => ?_)
  refine f_getI fs_X11_160 dX11_tick_39 hf (fun v18 hf => ?_)
  refine ab_iconst dX11_tick_42 kic_1 ?_
  refine ab_iadd dX11_tick_43 ?_
  refine ab_bipush dX11_tick_44 kbp_100 ?_
  refine ab_icmp_lt 52 dX11_tick_46 (by decide) hf (fun hf => ?_) (fun hf => ?_)
  · exact ab_msk [true, true] (w_X11_tick_B52 x0 y0 h hf)
  refine ab_bipush dX11_tick_49 kbp_m104 ?_
  exact f_reti2 dX11_tick_51 rfl (Nat.le_refl 0) (Nat.le_refl 0) hf
def F_X11_tick (a0 : Nat) (h : abH) : Option (Int32 × abH) :=
  (gR 11 h a0 1).bind fun v1 =>
  (ko 1 h v1).bind fun _ => (F_X1_isNone v1 h).bind fun v2 =>
  if v2 = 0 then
    (gR 11 h a0 1).bind fun v3 =>
    (gI 1 h v3 5).bind fun v4 =>
    if v4 = 12 then
      F_X11_tick_B30 a0 1 h
    else
      F_X11_tick_B30 a0 0 h
  else
    some ((-103), h)
theorem m_X11_tick {z0 : Int32} {hz : abH} (a0 : Nat) (h : abH) (hf : F_X11_tick a0 h = some (z0, hz)) : abM yX11_tick cX11_tick 2 (some .int) 2 0 0 [.ref a0] h (some (.int z0)) hz := by
  refine abM_of (ini := false) [some (.ref a0), none] (by decide +kernel) (fun q => by first | rfl | cases q) (Nat.le_of_ble_eq_true rfl) rfl ?_
  unfold F_X11_tick at hf
  refine ab_aload_n 0 dX11_tick_0 rfl rfl ?_
  refine f_getR fs_X11_19 dX11_tick_1 hf (fun v1 hf => ?_)
  refine f_V_i (As := []) (st := []) cs_X11_157 (fun v q => m_X1_isNone v1 h q) rfl rfl dX11_tick_4 (rmk rfl) hf (fun v2 hf => ?_)
  refine ab_if_eq 13 dX11_tick_7 (by decide) hf (fun hf => ?_) (fun hf => ?_)
  · refine ab_aload_n 0 dX11_tick_13 rfl rfl ?_
    refine f_getR fs_X11_19 dX11_tick_14 hf (fun v3 hf => ?_)
    refine f_getI fs_X11_108 dX11_tick_17 hf (fun v4 hf => ?_)
    refine ab_bipush dX11_tick_20 kbp_12 ?_
    refine ab_icmp_ne 29 dX11_tick_22 (by decide) hf (fun hf => ?_) (fun hf => ?_)
    · refine ab_iconst dX11_tick_25 kic_1 ?_
      refine ab_goto 30 dX11_tick_26 (by decide) ?_
      exact ab_msk [true, true] (w_X11_tick_B30 a0 1 h hf)
    refine ab_iconst dX11_tick_29 kic_0 ?_
    exact ab_msk [true, true] (w_X11_tick_B30 a0 0 h hf)
  refine ab_bipush dX11_tick_10 kbp_m103 ?_
  exact f_reti2 dX11_tick_12 rfl (Nat.le_refl 0) (Nat.le_refl 0) hf
def F_X11_step_B27 (x0 : Nat) (x1 : Int32) (x2 : Int32) (h : abH) : Option (Int32 × abH) :=
  (gR 11 h x0 1).bind fun v3 =>
  (gR 1 h v3 3).bind fun v4 =>
  (ga 0 h v4 x1).bind fun v5 =>
  nm (v5 + x2) fun v6 =>
  (F_X11_isTile v6).bind fun v7 =>
  if v7 = 0 then
    some ((-103), h)
  else
    (gR 11 h x0 1).bind fun v8 =>
    (gR 1 h v8 3).bind fun v9 =>
    (sa 0 h v9 x1 v6).bind fun h10 =>
    some (v6, h10)
theorem w_X11_step_B27 {z0 : Int32} {hz : abH} (x0 : Nat) (x1 : Int32) (x2 : Int32) (h : abH)   (hf : F_X11_step_B27 x0 x1 x2 h = some (z0, hz)) : abW cX11_step 4 RX11 (some .int) false 2 0 0 none (some (.int z0), hz) 27 [some (.ref x0), some (.int x1), some (.int x2), none] [] h 0 0 := by
  unfold F_X11_step_B27 at hf
  refine ab_aload_n 0 dX11_step_27 rfl rfl ?_
  refine f_getR fs_X11_19 dX11_step_28 hf (fun v3 hf => ?_)
  refine f_getR fs_X11_105 dX11_step_31 hf (fun v4 hf => ?_)
  refine ab_iload_n 1 dX11_step_34 rfl rfl ?_
  refine f_iald dX11_step_35 hf (fun v5 hf => ?_)
  refine ab_iload_n 2 dX11_step_36 rfl rfl ?_
  refine ab_iadd dX11_step_37 ?_
  refine ab_nmi hf (fun v6 hf => ?_)
  refine ab_istore_n 3 [some (.ref x0), some (.int x1), some (.int x2), some (.int v6)] dX11_step_38 rfl (by decide) rfl rfl ?_
  refine ab_iload_n 3 dX11_step_39 rfl rfl ?_
  refine f_S_i (As := [.int v6]) (st := []) cs_X11_163 (fun v q => m_X11_isTile v6 h q) rfl rfl dX11_step_40 (rmk rfl) hf (fun v7 hf => ?_)
  refine ab_if_ne 49 dX11_step_43 (by decide) hf (fun hf => ?_) (fun hf => ?_)
  · refine ab_bipush dX11_step_46 kbp_m103 ?_
    exact f_reti2 dX11_step_48 rfl (Nat.le_refl 0) (Nat.le_refl 0) hf
  refine ab_aload_n 0 dX11_step_49 rfl rfl ?_
  refine f_getR fs_X11_19 dX11_step_50 hf (fun v8 hf => ?_)
  refine f_getR fs_X11_105 dX11_step_53 hf (fun v9 hf => ?_)
  refine ab_iload_n 1 dX11_step_56 rfl rfl ?_
  refine ab_iload_n 3 dX11_step_57 rfl rfl ?_
  refine f_iast dX11_step_58 hf (fun h10 hf => ?_)
  refine ab_iload_n 3 dX11_step_59 rfl rfl ?_
  exact f_reti2 dX11_step_60 rfl (Nat.le_refl 0) (Nat.le_refl 0) hf
def F_X11_step (a0 : Nat) (a1 : Int32) (a2 : Int32) (h : abH) : Option (Int32 × abH) :=
  (gR 11 h a0 1).bind fun v1 =>
  (ko 1 h v1).bind fun _ => (F_X1_has v1 a1 h).bind fun v2 =>
  if v2 = 0 then
    some ((-101), h)
  else
    if a2 = (-1) then
      F_X11_step_B27 a0 a1 a2 h
    else
      if a2 = 1 then
        F_X11_step_B27 a0 a1 a2 h
      else
        some ((-102), h)
theorem m_X11_step {z0 : Int32} {hz : abH} (a0 : Nat) (a1 : Int32) (a2 : Int32) (h : abH) (hf : F_X11_step a0 a1 a2 h = some (z0, hz)) : abM yX11_step cX11_step 4 (some .int) 2 0 0 [.ref a0, .int a1, .int a2] h (some (.int z0)) hz := by
  refine abM_of (ini := false) [some (.ref a0), some (.int a1), some (.int a2), none] (by decide +kernel) (fun q => by first | rfl | cases q) (Nat.le_of_ble_eq_true rfl) rfl ?_
  unfold F_X11_step at hf
  refine ab_aload_n 0 dX11_step_0 rfl rfl ?_
  refine f_getR fs_X11_19 dX11_step_1 hf (fun v1 hf => ?_)
  refine ab_iload_n 1 dX11_step_4 rfl rfl ?_
  refine f_V_i (As := [.int a1]) (st := []) cs_X11_88 (fun v q => m_X1_has v1 a1 h q) rfl rfl dX11_step_5 (rmk rfl) hf (fun v2 hf => ?_)
  refine ab_if_ne 14 dX11_step_8 (by decide) hf (fun hf => ?_) (fun hf => ?_)
  · refine ab_bipush dX11_step_11 kbp_m101 ?_
    exact f_reti2 dX11_step_13 rfl (Nat.le_refl 0) (Nat.le_refl 0) hf
  refine ab_iload_n 2 dX11_step_14 rfl rfl ?_
  refine ab_iconst dX11_step_15 kic_m1 ?_
  refine ab_icmp_eq 27 dX11_step_16 (by decide) hf (fun hf => ?_) (fun hf => ?_)
  · exact ab_msk [true, true, true, true] (w_X11_step_B27 a0 a1 a2 h hf)
  refine ab_iload_n 2 dX11_step_19 rfl rfl ?_
  refine ab_iconst dX11_step_20 kic_1 ?_
  refine ab_icmp_eq 27 dX11_step_21 (by decide) hf (fun hf => ?_) (fun hf => ?_)
  · exact ab_msk [true, true, true, true] (w_X11_step_B27 a0 a1 a2 h hf)
  refine ab_bipush dX11_step_24 kbp_m102 ?_
  exact f_reti2 dX11_step_26 rfl (Nat.le_refl 0) (Nat.le_refl 0) hf
def F_X11_stand (a0 : Nat) (a1 : Int32) (a2 : Int32) (h : abH) : Option (Int32 × abH) :=
  (gR 11 h a0 1).bind fun v1 =>
  (ko 1 h v1).bind fun _ => (F_X1_has v1 a1 h).bind fun v2 =>
  if v2 = 0 then
    some ((-101), h)
  else
    (F_X11_isTile a2).bind fun v3 =>
    if v3 = 0 then
      some ((-101), h)
    else
      (gR 11 h a0 1).bind fun v4 =>
      (gR 1 h v4 3).bind fun v5 =>
      (ga 0 h v5 a1).bind fun v6 =>
      (gR 11 h a0 1).bind fun v7 =>
      (gR 1 h v7 3).bind fun v8 =>
      (sa 0 h v8 a1 a2).bind fun h9 =>
      some (v6, h9)
theorem m_X11_stand {z0 : Int32} {hz : abH} (a0 : Nat) (a1 : Int32) (a2 : Int32) (h : abH) (hf : F_X11_stand a0 a1 a2 h = some (z0, hz)) : abM yX11_stand cX11_stand 4 (some .int) 2 0 0 [.ref a0, .int a1, .int a2] h (some (.int z0)) hz := by
  refine abM_of (ini := false) [some (.ref a0), some (.int a1), some (.int a2), none] (by decide +kernel) (fun q => by first | rfl | cases q) (Nat.le_of_ble_eq_true rfl) rfl ?_
  unfold F_X11_stand at hf
  refine ab_aload_n 0 dX11_stand_0 rfl rfl ?_
  refine f_getR fs_X11_19 dX11_stand_1 hf (fun v1 hf => ?_)
  refine ab_iload_n 1 dX11_stand_4 rfl rfl ?_
  refine f_V_i (As := [.int a1]) (st := []) cs_X11_88 (fun v q => m_X1_has v1 a1 h q) rfl rfl dX11_stand_5 (rmk rfl) hf (fun v2 hf => ?_)
  refine ab_if_eq 18 dX11_stand_8 (by decide) hf (fun hf => ?_) (fun hf => ?_)
  · refine ab_bipush dX11_stand_18 kbp_m101 ?_
    exact f_reti2 dX11_stand_20 rfl (Nat.le_refl 0) (Nat.le_refl 0) hf
  refine ab_iload_n 2 dX11_stand_11 rfl rfl ?_
  refine f_S_i (As := [.int a2]) (st := []) cs_X11_163 (fun v q => m_X11_isTile a2 h q) rfl rfl dX11_stand_12 (rmk rfl) hf (fun v3 hf => ?_)
  refine ab_if_ne 21 dX11_stand_15 (by decide) hf (fun hf => ?_) (fun hf => ?_)
  · refine ab_bipush dX11_stand_18 kbp_m101 ?_
    exact f_reti2 dX11_stand_20 rfl (Nat.le_refl 0) (Nat.le_refl 0) hf
  refine ab_aload_n 0 dX11_stand_21 rfl rfl ?_
  refine f_getR fs_X11_19 dX11_stand_22 hf (fun v4 hf => ?_)
  refine f_getR fs_X11_105 dX11_stand_25 hf (fun v5 hf => ?_)
  refine ab_iload_n 1 dX11_stand_28 rfl rfl ?_
  refine f_iald dX11_stand_29 hf (fun v6 hf => ?_)
  refine ab_istore_n 3 [some (.ref a0), some (.int a1), some (.int a2), some (.int v6)] dX11_stand_30 rfl (by decide) rfl rfl ?_
  refine ab_aload_n 0 dX11_stand_31 rfl rfl ?_
  refine f_getR fs_X11_19 dX11_stand_32 hf (fun v7 hf => ?_)
  refine f_getR fs_X11_105 dX11_stand_35 hf (fun v8 hf => ?_)
  refine ab_iload_n 1 dX11_stand_38 rfl rfl ?_
  refine ab_iload_n 2 dX11_stand_39 rfl rfl ?_
  refine f_iast dX11_stand_40 hf (fun h9 hf => ?_)
  refine ab_iload_n 3 dX11_stand_41 rfl rfl ?_
  exact f_reti2 dX11_stand_42 rfl (Nat.le_refl 0) (Nat.le_refl 0) hf
def F_X11_rise (a0 : Nat) (a1 : Int32) (a2 : Int32) (h : abH) : Option (Int32 × abH) :=
  (gR 11 h a0 1).bind fun v1 =>
  (ko 1 h v1).bind fun _ => (F_X1_has v1 a1 h).bind fun v2 =>
  if v2 = 0 then
    some ((-101), h)
  else
    (F_X11_within a2 1 9).bind fun v3 =>
    if v3 = 0 then
      some ((-102), h)
    else
      (gR 11 h a0 1).bind fun v4 =>
      (gR 1 h v4 2).bind fun v5 =>
      (ga 0 h v5 a1).bind fun v6 =>
      (gR 11 h a0 1).bind fun v7 =>
      (gR 1 h v7 2).bind fun v8 =>
      (sa 0 h v8 a1 a2).bind fun h9 =>
      some (v6, h9)
theorem m_X11_rise {z0 : Int32} {hz : abH} (a0 : Nat) (a1 : Int32) (a2 : Int32) (h : abH) (hf : F_X11_rise a0 a1 a2 h = some (z0, hz)) : abM yX11_rise cX11_rise 4 (some .int) 2 0 0 [.ref a0, .int a1, .int a2] h (some (.int z0)) hz := by
  refine abM_of (ini := false) [some (.ref a0), some (.int a1), some (.int a2), none] (by decide +kernel) (fun q => by first | rfl | cases q) (Nat.le_of_ble_eq_true rfl) rfl ?_
  unfold F_X11_rise at hf
  refine ab_aload_n 0 dX11_rise_0 rfl rfl ?_
  refine f_getR fs_X11_19 dX11_rise_1 hf (fun v1 hf => ?_)
  refine ab_iload_n 1 dX11_rise_4 rfl rfl ?_
  refine f_V_i (As := [.int a1]) (st := []) cs_X11_88 (fun v q => m_X1_has v1 a1 h q) rfl rfl dX11_rise_5 (rmk rfl) hf (fun v2 hf => ?_)
  refine ab_if_ne 14 dX11_rise_8 (by decide) hf (fun hf => ?_) (fun hf => ?_)
  · refine ab_bipush dX11_rise_11 kbp_m101 ?_
    exact f_reti2 dX11_rise_13 rfl (Nat.le_refl 0) (Nat.le_refl 0) hf
  refine ab_iload_n 2 dX11_rise_14 rfl rfl ?_
  refine ab_iconst dX11_rise_15 kic_1 ?_
  refine ab_bipush dX11_rise_16 kbp_9 ?_
  refine f_S_i (As := [.int a2, .int 1, .int 9]) (st := []) cs_X11_54 (fun v q => m_X11_within a2 1 9 h q) rfl rfl dX11_rise_18 (rmk rfl) hf (fun v3 hf => ?_)
  refine ab_if_ne 27 dX11_rise_21 (by decide) hf (fun hf => ?_) (fun hf => ?_)
  · refine ab_bipush dX11_rise_24 kbp_m102 ?_
    exact f_reti2 dX11_rise_26 rfl (Nat.le_refl 0) (Nat.le_refl 0) hf
  refine ab_aload_n 0 dX11_rise_27 rfl rfl ?_
  refine f_getR fs_X11_19 dX11_rise_28 hf (fun v4 hf => ?_)
  refine f_getR fs_X11_101 dX11_rise_31 hf (fun v5 hf => ?_)
  refine ab_iload_n 1 dX11_rise_34 rfl rfl ?_
  refine f_iald dX11_rise_35 hf (fun v6 hf => ?_)
  refine ab_istore_n 3 [some (.ref a0), some (.int a1), some (.int a2), some (.int v6)] dX11_rise_36 rfl (by decide) rfl rfl ?_
  refine ab_aload_n 0 dX11_rise_37 rfl rfl ?_
  refine f_getR fs_X11_19 dX11_rise_38 hf (fun v7 hf => ?_)
  refine f_getR fs_X11_101 dX11_rise_41 hf (fun v8 hf => ?_)
  refine ab_iload_n 1 dX11_rise_44 rfl rfl ?_
  refine ab_iload_n 2 dX11_rise_45 rfl rfl ?_
  refine f_iast dX11_rise_46 hf (fun h9 hf => ?_)
  refine ab_iload_n 3 dX11_rise_47 rfl rfl ?_
  exact f_reti2 dX11_rise_48 rfl (Nat.le_refl 0) (Nat.le_refl 0) hf
def F_X11_lay (a0 : Nat) (a1 : Int32) (a2 : Int32) (h : abH) : Option (Int32 × abH) :=
  (gR 11 h a0 1).bind fun v1 =>
  (ko 1 h v1).bind fun _ => (F_X1_hasTile v1 a1 h).bind fun v2 =>
  if v2 = 0 then
    some ((-101), h)
  else
    (F_X11_within a2 0 9).bind fun v3 =>
    if v3 = 0 then
      some ((-102), h)
    else
      (gR 11 h a0 1).bind fun v4 =>
      (gR 1 h v4 4).bind fun v5 =>
      (ga 0 h v5 a1).bind fun v6 =>
      (gR 11 h a0 1).bind fun v7 =>
      (gR 1 h v7 4).bind fun v8 =>
      (sa 0 h v8 a1 a2).bind fun h9 =>
      some (v6, h9)
theorem m_X11_lay {z0 : Int32} {hz : abH} (a0 : Nat) (a1 : Int32) (a2 : Int32) (h : abH) (hf : F_X11_lay a0 a1 a2 h = some (z0, hz)) : abM yX11_lay cX11_lay 4 (some .int) 3 0 0 [.ref a0, .int a1, .int a2] h (some (.int z0)) hz := by
  refine abM_of (ini := false) [some (.ref a0), some (.int a1), some (.int a2), none] (by decide +kernel) (fun q => by first | rfl | cases q) (Nat.le_of_ble_eq_true rfl) rfl ?_
  unfold F_X11_lay at hf
  refine ab_aload_n 0 dX11_lay_0 rfl rfl ?_
  refine f_getR fs_X11_19 dX11_lay_1 hf (fun v1 hf => ?_)
  refine ab_iload_n 1 dX11_lay_4 rfl rfl ?_
  refine f_V_i (As := [.int a1]) (st := []) cs_X11_137 (fun v q => m_X1_hasTile v1 a1 h q) rfl rfl dX11_lay_5 (rmk rfl) hf (fun v2 hf => ?_)
  refine ab_if_ne 14 dX11_lay_8 (by decide) hf (fun hf => ?_) (fun hf => ?_)
  · refine ab_bipush dX11_lay_11 kbp_m101 ?_
    exact f_reti2 dX11_lay_13 rfl (Nat.le_refl 0) (Nat.le_refl 0) hf
  refine ab_iload_n 2 dX11_lay_14 rfl rfl ?_
  refine ab_iconst dX11_lay_15 kic_0 ?_
  refine ab_bipush dX11_lay_16 kbp_9 ?_
  refine f_S_i (As := [.int a2, .int 0, .int 9]) (st := []) cs_X11_54 (fun v q => m_X11_within a2 0 9 h q) rfl rfl dX11_lay_18 (rmk rfl) hf (fun v3 hf => ?_)
  refine ab_if_ne 27 dX11_lay_21 (by decide) hf (fun hf => ?_) (fun hf => ?_)
  · refine ab_bipush dX11_lay_24 kbp_m102 ?_
    exact f_reti2 dX11_lay_26 rfl (Nat.le_refl 0) (Nat.le_refl 0) hf
  refine ab_aload_n 0 dX11_lay_27 rfl rfl ?_
  refine f_getR fs_X11_19 dX11_lay_28 hf (fun v4 hf => ?_)
  refine f_getR fs_X11_140 dX11_lay_31 hf (fun v5 hf => ?_)
  refine ab_iload_n 1 dX11_lay_34 rfl rfl ?_
  refine f_iald dX11_lay_35 hf (fun v6 hf => ?_)
  refine ab_istore_n 3 [some (.ref a0), some (.int a1), some (.int a2), some (.int v6)] dX11_lay_36 rfl (by decide) rfl rfl ?_
  refine ab_aload_n 0 dX11_lay_37 rfl rfl ?_
  refine f_getR fs_X11_19 dX11_lay_38 hf (fun v7 hf => ?_)
  refine f_getR fs_X11_140 dX11_lay_41 hf (fun v8 hf => ?_)
  refine ab_iload_n 1 dX11_lay_44 rfl rfl ?_
  refine ab_iload_n 2 dX11_lay_45 rfl rfl ?_
  refine f_iast dX11_lay_46 hf (fun h9 hf => ?_)
  refine ab_iload_n 3 dX11_lay_47 rfl rfl ?_
  exact f_reti2 dX11_lay_48 rfl (Nat.le_refl 0) (Nat.le_refl 0) hf
def F_X11_file (a0 : Nat) (a1 : Int32) (a2 : Int32) (h : abH) : Option (Int32 × abH) :=
  (gR 11 h a0 1).bind fun v1 =>
  (ko 1 h v1).bind fun _ => (F_X1_hasTwo v1 a1 a2 h).bind fun v2 =>
  if v2 = 0 then
    some ((-101), h)
  else
    (gR 11 h a0 1).bind fun v3 =>
    (gI 1 h v3 7).bind fun v4 =>
    if v4 < 5 then
      (gR 11 h a0 1).bind fun v5 =>
      (gR 1 h v5 8).bind fun v6 =>
      (gR 11 h a0 1).bind fun v7 =>
      (gI 1 h v7 7).bind fun v8 =>
      (sa 0 h v6 v8 a1).bind fun h9 =>
      (gR 11 h9 a0 1).bind fun v10 =>
      (gR 1 h9 v10 9).bind fun v11 =>
      (gR 11 h9 a0 1).bind fun v12 =>
      (gI 1 h9 v12 7).bind fun v13 =>
      (sa 0 h9 v11 v13 a2).bind fun h14 =>
      (gR 11 h14 a0 1).bind fun v15 =>
      (gI 1 h14 v15 7).bind fun v16 =>
      (sV 1 h14 v15 7 (.int (v16 + 1))).bind fun h17 =>
      (gR 11 h17 a0 1).bind fun v18 =>
      (gI 1 h17 v18 7).bind fun v19 =>
      some (v19, h17)
    else
      some ((-104), h)
theorem m_X11_file {z0 : Int32} {hz : abH} (a0 : Nat) (a1 : Int32) (a2 : Int32) (h : abH) (hf : F_X11_file a0 a1 a2 h = some (z0, hz)) : abM yX11_file cX11_file 3 (some .int) 3 0 0 [.ref a0, .int a1, .int a2] h (some (.int z0)) hz := by
  refine abM_of (ini := false) [some (.ref a0), some (.int a1), some (.int a2)] (by decide +kernel) (fun q => by first | rfl | cases q) (Nat.le_of_ble_eq_true rfl) rfl ?_
  unfold F_X11_file at hf
  refine ab_aload_n 0 dX11_file_0 rfl rfl ?_
  refine f_getR fs_X11_19 dX11_file_1 hf (fun v1 hf => ?_)
  refine ab_iload_n 1 dX11_file_4 rfl rfl ?_
  refine ab_iload_n 2 dX11_file_5 rfl rfl ?_
  refine f_V_i (As := [.int a1, .int a2]) (st := []) cs_X11_149 (fun v q => m_X1_hasTwo v1 a1 a2 h q) rfl rfl dX11_file_6 (rmk rfl) hf (fun v2 hf => ?_)
  refine ab_if_ne 15 dX11_file_9 (by decide) hf (fun hf => ?_) (fun hf => ?_)
  · refine ab_bipush dX11_file_12 kbp_m101 ?_
    exact f_reti2 dX11_file_14 rfl (Nat.le_refl 0) (Nat.le_refl 0) hf
  refine ab_aload_n 0 dX11_file_15 rfl rfl ?_
  refine f_getR fs_X11_19 dX11_file_16 hf (fun v3 hf => ?_)
  refine f_getI fs_X11_166 dX11_file_19 hf (fun v4 hf => ?_)
  refine ab_iconst dX11_file_22 kic_5 ?_
  refine ab_icmp_lt 29 dX11_file_23 (by decide) hf (fun hf => ?_) (fun hf => ?_)
  · refine ab_aload_n 0 dX11_file_29 rfl rfl ?_
    refine f_getR fs_X11_19 dX11_file_30 hf (fun v5 hf => ?_)
    refine f_getR fs_X11_169 dX11_file_33 hf (fun v6 hf => ?_)
    refine ab_aload_n 0 dX11_file_36 rfl rfl ?_
    refine f_getR fs_X11_19 dX11_file_37 hf (fun v7 hf => ?_)
    refine f_getI fs_X11_166 dX11_file_40 hf (fun v8 hf => ?_)
    refine ab_iload_n 1 dX11_file_43 rfl rfl ?_
    refine f_iast dX11_file_44 hf (fun h9 hf => ?_)
    refine ab_aload_n 0 dX11_file_45 rfl rfl ?_
    refine f_getR fs_X11_19 dX11_file_46 hf (fun v10 hf => ?_)
    refine f_getR fs_X11_172 dX11_file_49 hf (fun v11 hf => ?_)
    refine ab_aload_n 0 dX11_file_52 rfl rfl ?_
    refine f_getR fs_X11_19 dX11_file_53 hf (fun v12 hf => ?_)
    refine f_getI fs_X11_166 dX11_file_56 hf (fun v13 hf => ?_)
    refine ab_iload_n 2 dX11_file_59 rfl rfl ?_
    refine f_iast dX11_file_60 hf (fun h14 hf => ?_)
    refine ab_aload_n 0 dX11_file_61 rfl rfl ?_
    refine f_getR fs_X11_19 dX11_file_62 hf (fun v15 hf => ?_)
    refine ab_dup dX11_file_65 rfl ?_
    refine f_getI fs_X11_166 dX11_file_66 hf (fun v16 hf => ?_)
    refine ab_iconst dX11_file_69 kic_1 ?_
    refine ab_iadd dX11_file_70 ?_
    refine f_put fp_X11_166 (abFit_i _) dX11_file_71 hf (fun h17 hf => ?_)
    refine ab_aload_n 0 dX11_file_74 rfl rfl ?_
    refine f_getR fs_X11_19 dX11_file_75 hf (fun v18 hf => ?_)
    refine f_getI fs_X11_166 dX11_file_78 hf (fun v19 hf => ?_)
    exact f_reti2 dX11_file_81 rfl (Nat.le_refl 0) (Nat.le_refl 0) hf
  refine ab_bipush dX11_file_26 kbp_m104 ?_
  exact f_reti2 dX11_file_28 rfl (Nat.le_refl 0) (Nat.le_refl 0) hf
def F_X11_settle (a0 : Nat) (h : abH) : Option (Int32 × abH) :=
  (gR 11 h a0 1).bind fun v1 =>
  (gI 1 h v1 7).bind fun v2 =>
  (gR 11 h a0 1).bind fun v3 =>
  (sV 1 h v3 7 (.int 0)).bind fun h4 =>
  some (v2, h4)
theorem m_X11_settle {z0 : Int32} {hz : abH} (a0 : Nat) (h : abH) (hf : F_X11_settle a0 h = some (z0, hz)) : abM yX11_settle cX11_settle 2 (some .int) 1 0 0 [.ref a0] h (some (.int z0)) hz := by
  refine abM_of (ini := false) [some (.ref a0), none] (by decide +kernel) (fun q => by first | rfl | cases q) (Nat.le_of_ble_eq_true rfl) rfl ?_
  unfold F_X11_settle at hf
  refine ab_aload_n 0 dX11_settle_0 rfl rfl ?_
  refine f_getR fs_X11_19 dX11_settle_1 hf (fun v1 hf => ?_)
  refine f_getI fs_X11_166 dX11_settle_4 hf (fun v2 hf => ?_)
  refine ab_istore_n 1 [some (.ref a0), some (.int v2)] dX11_settle_7 rfl (by decide) rfl rfl ?_
  refine ab_aload_n 0 dX11_settle_8 rfl rfl ?_
  refine f_getR fs_X11_19 dX11_settle_9 hf (fun v3 hf => ?_)
  refine ab_iconst dX11_settle_12 kic_0 ?_
  refine f_put fp_X11_166 (abFit_i _) dX11_settle_13 hf (fun h4 hf => ?_)
  refine ab_iload_n 1 dX11_settle_16 rfl rfl ?_
  exact f_reti2 dX11_settle_17 rfl (Nat.le_refl 0) (Nat.le_refl 0) hf
def F_X11_terms (a0 : Nat) (a1 : Int32) (a2 : Int32) (a3 : Int32) (h : abH) : Option (Int32 × abH) :=
  (F_X11_within a1 1 60).bind fun v1 =>
  if v1 = 0 then
    some ((-102), h)
  else
    if a2 < 0 then
      some ((-102), h)
    else
      (F_X11_within a3 0 2).bind fun v2 =>
      if v2 = 0 then
        some ((-102), h)
      else
        (gR 11 h a0 1).bind fun v3 =>
        (ko 1 h v3).bind fun _ => (F_X1_isNone v3 h).bind fun v4 =>
        if v4 = 0 then
          (gR 11 h a0 6).bind fun v5 =>
          (gR 11 h a0 1).bind fun v6 =>
          (ko 9 h v5).bind fun _ => (F_X9_hold v5 v6 a1 a2 h).bind fun h7 =>
          if a3 = 0 then
            (gR 11 h7 a0 6).bind fun v12 =>
            (gI 9 h7 v12 1).bind fun v13 =>
            some (v13, h7)
          else
            if a3 = 1 then
              (gR 11 h7 a0 6).bind fun v10 =>
              (gI 9 h7 v10 2).bind fun v11 =>
              some (v11, h7)
            else
              (gR 11 h7 a0 6).bind fun v8 =>
              (gJ 9 h7 v8 0).bind fun v9 =>
              some (v9.toInt32, h7)
        else
          some ((-103), h)
theorem m_X11_terms {z0 : Int32} {hz : abH} (a0 : Nat) (a1 : Int32) (a2 : Int32) (a3 : Int32) (h : abH) (hf : F_X11_terms a0 a1 a2 a3 h = some (z0, hz)) : abM yX11_terms cX11_terms 4 (some .int) 6 0 0 [.ref a0, .int a1, .int a2, .int a3] h (some (.int z0)) hz := by
  refine abM_of (ini := false) [some (.ref a0), some (.int a1), some (.int a2), some (.int a3)] (by decide +kernel) (fun q => by first | rfl | cases q) (Nat.le_of_ble_eq_true rfl) rfl ?_
  unfold F_X11_terms at hf
  refine ab_iload_n 1 dX11_terms_0 rfl rfl ?_
  refine ab_iconst dX11_terms_1 kic_1 ?_
  refine ab_bipush dX11_terms_2 kbp_60 ?_
  refine f_S_i (As := [.int a1, .int 1, .int 60]) (st := []) cs_X11_54 (fun v q => m_X11_within a1 1 60 h q) rfl rfl dX11_terms_4 (rmk rfl) hf (fun v1 hf => ?_)
  refine ab_if_eq 23 dX11_terms_7 (by decide) hf (fun hf => ?_) (fun hf => ?_)
  · refine ab_bipush dX11_terms_23 kbp_m102 ?_
    exact f_reti2 dX11_terms_25 rfl (Nat.le_refl 0) (Nat.le_refl 0) hf
  refine ab_iload_n 2 dX11_terms_10 rfl rfl ?_
  refine ab_if_lt 23 dX11_terms_11 (by decide) hf (fun hf => ?_) (fun hf => ?_)
  · refine ab_bipush dX11_terms_23 kbp_m102 ?_
    exact f_reti2 dX11_terms_25 rfl (Nat.le_refl 0) (Nat.le_refl 0) hf
  refine ab_iload_n 3 dX11_terms_14 rfl rfl ?_
  refine ab_iconst dX11_terms_15 kic_0 ?_
  refine ab_iconst dX11_terms_16 kic_2 ?_
  refine f_S_i (As := [.int a3, .int 0, .int 2]) (st := []) cs_X11_54 (fun v q => m_X11_within a3 0 2 h q) rfl rfl dX11_terms_17 (rmk rfl) hf (fun v2 hf => ?_)
  refine ab_if_ne 26 dX11_terms_20 (by decide) hf (fun hf => ?_) (fun hf => ?_)
  · refine ab_bipush dX11_terms_23 kbp_m102 ?_
    exact f_reti2 dX11_terms_25 rfl (Nat.le_refl 0) (Nat.le_refl 0) hf
  refine ab_aload_n 0 dX11_terms_26 rfl rfl ?_
  refine f_getR fs_X11_19 dX11_terms_27 hf (fun v3 hf => ?_)
  refine f_V_i (As := []) (st := []) cs_X11_157 (fun v q => m_X1_isNone v3 h q) rfl rfl dX11_terms_30 (rmk rfl) hf (fun v4 hf => ?_)
  refine ab_if_eq 39 dX11_terms_33 (by decide) hf (fun hf => ?_) (fun hf => ?_)
  · refine ab_aload_n 0 dX11_terms_39 rfl rfl ?_
    refine f_getR fs_X11_50 dX11_terms_40 hf (fun v5 hf => ?_)
    refine ab_aload_n 0 dX11_terms_43 rfl rfl ?_
    refine f_getR fs_X11_19 dX11_terms_44 hf (fun v6 hf => ?_)
    refine ab_iload_n 1 dX11_terms_47 rfl rfl ?_
    refine ab_iload_n 2 dX11_terms_48 rfl rfl ?_
    refine f_V_v2 (As := [.ref v6, .int a1, .int a2]) (st := []) cs_X11_214 (fun hq q => m_X9_hold v5 v6 a1 a2 h q) rfl rfl dX11_terms_49 (rmk rfl) hf (fun h7 hf => ?_)
    refine ab_iload_n 3 dX11_terms_52 rfl rfl ?_
    refine ab_if_ne 64 dX11_terms_53 (by decide) hf (fun hf => ?_) (fun hf => ?_)
    · refine ab_aload_n 0 dX11_terms_56 rfl rfl ?_
      refine f_getR fs_X11_50 dX11_terms_57 hf (fun v12 hf => ?_)
      refine f_getI fs_X11_218 dX11_terms_60 hf (fun v13 hf => ?_)
      exact f_reti2 dX11_terms_63 rfl (Nat.le_refl 0) (Nat.le_refl 0) hf
    refine ab_iload_n 3 dX11_terms_64 rfl rfl ?_
    refine ab_iconst dX11_terms_65 kic_1 ?_
    refine ab_icmp_ne 79 dX11_terms_66 (by decide) hf (fun hf => ?_) (fun hf => ?_)
    · refine ab_aload_n 0 dX11_terms_69 rfl rfl ?_
      refine f_getR fs_X11_50 dX11_terms_70 hf (fun v10 hf => ?_)
      refine f_getI fs_X11_221 dX11_terms_73 hf (fun v11 hf => ?_)
      refine ab_goto 87 dX11_terms_76 (by decide) ?_
      exact f_reti2 dX11_terms_87 rfl (Nat.le_refl 0) (Nat.le_refl 0) hf
    refine ab_aload_n 0 dX11_terms_79 rfl rfl ?_
    refine f_getR fs_X11_50 dX11_terms_80 hf (fun v8 hf => ?_)
    refine f_getJ fs_X11_224 dX11_terms_83 hf (fun v9 hf => ?_)
    refine ab_l2i dX11_terms_86 ?_
    exact f_reti2 dX11_terms_87 rfl (Nat.le_refl 0) (Nat.le_refl 0) hf
  refine ab_bipush dX11_terms_36 kbp_m103 ?_
  exact f_reti2 dX11_terms_38 rfl (Nat.le_refl 0) (Nat.le_refl 0) hf
