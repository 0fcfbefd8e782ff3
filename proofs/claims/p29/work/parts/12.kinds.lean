def F_X5_init (a0 : Nat) (a1 : Int32) (a2 : Int32) (h : abH) : Option abH :=
  (sK h a0 0 (.int a1)).bind fun h1 =>
  (sK h1 a0 1 (.int a2)).bind fun h2 =>
  some h2
theorem m_X5_init {hz : abH} (a0 : Nat) (a1 : Int32) (a2 : Int32) (h : abH) (hf : F_X5_init a0 a1 a2 h = some hz) : abM yX5_init cX5_init 3 none 1 0 0 [.ref a0, .int a1, .int a2] h none hz := by
  refine abM_of (ini := true) [some (.ref a0), some (.int a1), some (.int a2)] (by decide +kernel) (fun q => by first | rfl | cases q) (Nat.le_of_ble_eq_true rfl) rfl ?_
  unfold F_X5_init at hf
  refine ab_aload_n 0 dX5_init_0 rfl rfl ?_
  refine ab_obj tb_539 tb_26 tb_27 dX5_init_1 (by decide) (Nat.le_of_ble_eq_true rfl) ?_
  refine ab_aload_n 0 dX5_init_4 rfl rfl ?_
  refine ab_iload_n 1 dX5_init_5 rfl rfl ?_
  refine f_putK fq_X5_9 rfl (abFit_i _) dX5_init_6 hf (fun h1 hf => ?_)
  refine ab_aload_n 0 dX5_init_9 rfl rfl ?_
  refine ab_iload_n 2 dX5_init_10 rfl rfl ?_
  refine f_putK fq_X5_15 rfl (abFit_i _) dX5_init_11 hf (fun h2 hf => ?_)
  exact f_retv2 dX5_init_14 rfl (Nat.le_refl 0) (Nat.le_refl 0) hf
def F_X4_init_ (a0 : Nat) (a1 : Int32) (a2 : Int32) (h : abH) : Option abH :=
  (F_X5_init a0 a1 a2 h).bind fun h1 =>
  some h1
theorem m_X4_init_ {hz : abH} (a0 : Nat) (a1 : Int32) (a2 : Int32) (h : abH) (hf : F_X4_init_ a0 a1 a2 h = some hz) : abM yX4_init_ cX4_init_ 3 none 2 0 0 [.ref a0, .int a1, .int a2] h none hz := by
  refine abM_of (ini := true) [some (.ref a0), some (.int a1), some (.int a2)] (by decide +kernel) (fun q => by first | rfl | cases q) (Nat.le_of_ble_eq_true rfl) rfl ?_
  unfold F_X4_init_ at hf
  refine ab_aload_n 0 dX4_init__0 rfl rfl ?_
  refine ab_iload_n 1 dX4_init__1 rfl rfl ?_
  refine ab_iload_n 2 dX4_init__2 rfl rfl ?_
  refine f_I_v2 (As := [.int a1, .int a2]) (st := []) rfl rfl cs_X4_9 (fun hq q => m_X5_init a0 a1 a2 h q) rfl rfl dX4_init__3 (rmk rfl) hf (fun h1 hf => ?_)
  exact f_retv2 dX4_init__6 rfl (Nat.le_refl 0) (Nat.le_refl 0) hf
def F_X4_init (a0 : Nat) (h : abH) : Option abH :=
  (F_X4_init_ a0 1 2 h).bind fun h1 =>
  some h1
theorem m_X4_init {hz : abH} (a0 : Nat) (h : abH) (hf : F_X4_init a0 h = some hz) : abM yX4_init cX4_init 1 none 3 0 0 [.ref a0] h none hz := by
  refine abM_of (ini := true) [some (.ref a0)] (by decide +kernel) (fun q => by first | rfl | cases q) (Nat.le_of_ble_eq_true rfl) rfl ?_
  unfold F_X4_init at hf
  refine ab_aload_n 0 dX4_init_0 rfl rfl ?_
  refine ab_iconst dX4_init_1 kic_1 ?_
  refine ab_iconst dX4_init_2 kic_2 ?_
  refine f_I_v2 (As := [.int 1, .int 2]) (st := []) rfl rfl cs_X4_5 (fun hq q => m_X4_init_ a0 1 2 h q) rfl rfl dX4_init_3 (rmk rfl) hf (fun h1 hf => ?_)
  exact f_retv2 dX4_init_6 rfl (Nat.le_refl 0) (Nat.le_refl 0) hf
def F_X10_init (a0 : Nat) (h : abH) : Option abH :=
  (F_X5_init a0 2 0 h).bind fun h1 =>
  some h1
theorem m_X10_init {hz : abH} (a0 : Nat) (h : abH) (hf : F_X10_init a0 h = some hz) : abM yX10_init cX10_init 1 none 2 0 0 [.ref a0] h none hz := by
  refine abM_of (ini := true) [some (.ref a0)] (by decide +kernel) (fun q => by first | rfl | cases q) (Nat.le_of_ble_eq_true rfl) rfl ?_
  unfold F_X10_init at hf
  refine ab_aload_n 0 dX10_init_0 rfl rfl ?_
  refine ab_iconst dX10_init_1 kic_2 ?_
  refine ab_iconst dX10_init_2 kic_0 ?_
  refine f_I_v2 (As := [.int 2, .int 0]) (st := []) rfl rfl cs_X10_3 (fun hq q => m_X5_init a0 2 0 h q) rfl rfl dX10_init_3 (rmk rfl) hf (fun h1 hf => ?_)
  exact f_retv2 dX10_init_6 rfl (Nat.le_refl 0) (Nat.le_refl 0) hf
def F_X0_init (a0 : Nat) (h : abH) : Option abH :=
  (F_X5_init a0 3 0 h).bind fun h1 =>
  some h1
theorem m_X0_init {hz : abH} (a0 : Nat) (h : abH) (hf : F_X0_init a0 h = some hz) : abM yX0_init cX0_init 1 none 2 0 0 [.ref a0] h none hz := by
  refine abM_of (ini := true) [some (.ref a0)] (by decide +kernel) (fun q => by first | rfl | cases q) (Nat.le_of_ble_eq_true rfl) rfl ?_
  unfold F_X0_init at hf
  refine ab_aload_n 0 dX0_init_0 rfl rfl ?_
  refine ab_iconst dX0_init_1 kic_3 ?_
  refine ab_iconst dX0_init_2 kic_0 ?_
  refine f_I_v2 (As := [.int 3, .int 0]) (st := []) rfl rfl cs_X0_3 (fun hq q => m_X5_init a0 3 0 h q) rfl rfl dX0_init_3 (rmk rfl) hf (fun h1 hf => ?_)
  exact f_retv2 dX0_init_6 rfl (Nat.le_refl 0) (Nat.le_refl 0) hf
def F_X7_init (a0 : Nat) (h : abH) : Option abH :=
  (F_X4_init_ a0 4 4 h).bind fun h1 =>
  some h1
theorem m_X7_init {hz : abH} (a0 : Nat) (h : abH) (hf : F_X7_init a0 h = some hz) : abM yX7_init cX7_init 1 none 3 0 0 [.ref a0] h none hz := by
  refine abM_of (ini := true) [some (.ref a0)] (by decide +kernel) (fun q => by first | rfl | cases q) (Nat.le_of_ble_eq_true rfl) rfl ?_
  unfold F_X7_init at hf
  refine ab_aload_n 0 dX7_init_0 rfl rfl ?_
  refine ab_iconst dX7_init_1 kic_4 ?_
  refine ab_iconst dX7_init_2 kic_4 ?_
  refine f_I_v2 (As := [.int 4, .int 4]) (st := []) rfl rfl cs_X7_5 (fun hq q => m_X4_init_ a0 4 4 h q) rfl rfl dX7_init_3 (rmk rfl) hf (fun h1 hf => ?_)
  exact f_retv2 dX7_init_6 rfl (Nat.le_refl 0) (Nat.le_refl 0) hf
def F_X5_length_B17 (x0 : Nat) (x1 : Int32) (y0 : Int32) (h : abH) : Option Int32 :=
  (gK h x0 1).bind fun v1 =>
  dz 3 <|
  some (((x1 + v1) * y0) / 3)
theorem w_X5_length_B17 {z0 : Int32} (x0 : Nat) (x1 : Int32) (y0 : Int32) (h : abH)   (hf : F_X5_length_B17 x0 x1 y0 h = some z0) : abW cX5_length 4 RX5 (some .int) false 1 0 0 none (some (.int z0), h) 17 [some (.ref x0), some (.int x1), none, none] [.int y0] h 0 0 := by
  unfold F_X5_length_B17 at hf
  refine ab_istore_n 3 [some (.ref x0), some (.int x1), none, some (.int y0)] dX5_length_17 rfl (by decide) rfl rfl ?_
  refine ab_iload_n 1 dX5_length_18 rfl rfl ?_
  refine ab_aload_n 0 dX5_length_19 rfl rfl ?_
  refine f_getK ft_X5_15 dX5_length_20 hf (fun v1 hf => ?_)
  refine ab_iadd dX5_length_23 ?_
  refine ab_iload_n 3 dX5_length_24 rfl rfl ?_
  refine ab_imul dX5_length_25 ?_
  refine ab_iconst dX5_length_26 kic_3 ?_
  refine f_idiv dX5_length_27 hf (fun hf => ?_)
  exact f_reti dX5_length_28 rfl (Nat.le_refl 0) (Nat.le_refl 0) hf
def F_X5_length (a0 : Nat) (a1 : Int32) (a2 : Int32) (h : abH) : Option Int32 :=
  if a2 < 6 then
    F_X5_length_B17 a0 a1 (6 - a2) h
  else
    F_X5_length_B17 a0 a1 (a2 - 6) h
theorem m_X5_length {z0 : Int32} (a0 : Nat) (a1 : Int32) (a2 : Int32) (h : abH) (hf : F_X5_length a0 a1 a2 h = some z0) : abM yX5_length cX5_length 4 (some .int) 1 0 0 [.ref a0, .int a1, .int a2] h (some (.int z0)) h := by
  refine abM_of (ini := false) [some (.ref a0), some (.int a1), some (.int a2), none] (by decide +kernel) (fun q => by first | rfl | cases q) (Nat.le_of_ble_eq_true rfl) rfl ?_
  unfold F_X5_length at hf
  refine ab_iload_n 2 dX5_length_0 rfl rfl ?_
  refine ab_bipush dX5_length_1 kbp_6 ?_
  refine ab_icmp_ge 13 dX5_length_3 (by decide) hf (fun hf => ?_) (fun hf => ?_)
  · refine ab_bipush dX5_length_6 kbp_6 ?_
    refine ab_iload_n 2 dX5_length_8 rfl rfl ?_
    refine ab_isub dX5_length_9 ?_
    refine ab_goto 17 dX5_length_10 (by decide) ?_
    exact ab_msk [true, true, false, true] (w_X5_length_B17 a0 a1 (6 - a2) h hf)
  refine ab_iload_n 2 dX5_length_13 rfl rfl ?_
  refine ab_bipush dX5_length_14 kbp_6 ?_
  refine ab_isub dX5_length_16 ?_
  exact ab_msk [true, true, false, true] (w_X5_length_B17 a0 a1 (a2 - 6) h hf)
def F_X5_west (a0 : Int32) (a1 : Int32) : Option Int32 :=
  if a0 ≤ a1 then
    some (((1 : Int32) <<< (a0 &&& 31)) - ((1 : Int32) <<< ((0 : Int32) &&& 31)))
  else
    nm (a0 - a1) fun v1 =>
    some (((1 : Int32) <<< (a0 &&& 31)) - ((1 : Int32) <<< (v1 &&& 31)))
theorem m_X5_west {z0 : Int32} (a0 : Int32) (a1 : Int32) (h : abH) (hf : F_X5_west a0 a1 = some z0) : abM yX5_west cX5_west 3 (some .int) 1 0 0 [.int a0, .int a1] h (some (.int z0)) h := by
  refine abM_of (ini := false) [some (.int a0), some (.int a1), none] (by decide +kernel) (fun q => by first | rfl | cases q) (Nat.le_of_ble_eq_true rfl) rfl ?_
  unfold F_X5_west at hf
  refine ab_iload_n 0 dX5_west_0 rfl rfl ?_
  refine ab_iload_n 1 dX5_west_1 rfl rfl ?_
  refine ab_icmp_le 11 dX5_west_2 (by decide) hf (fun hf => ?_) (fun hf => ?_)
  · refine ab_iconst dX5_west_11 kic_0 ?_
    refine ab_istore_n 2 [some (.int a0), some (.int a1), some (.int 0)] dX5_west_12 rfl (by decide) rfl rfl ?_
    refine ab_iconst dX5_west_13 kic_1 ?_
    refine ab_iload_n 0 dX5_west_14 rfl rfl ?_
    refine ab_ishl dX5_west_15 ?_
    refine ab_iconst dX5_west_16 kic_1 ?_
    refine ab_iload_n 2 dX5_west_17 rfl rfl ?_
    refine ab_ishl dX5_west_18 ?_
    refine ab_isub dX5_west_19 ?_
    exact f_reti dX5_west_20 rfl (Nat.le_refl 0) (Nat.le_refl 0) hf
  refine ab_iload_n 0 dX5_west_5 rfl rfl ?_
  refine ab_iload_n 1 dX5_west_6 rfl rfl ?_
  refine ab_isub dX5_west_7 ?_
  refine ab_goto 12 dX5_west_8 (by decide) ?_
  refine ab_nmi hf (fun v1 hf => ?_)
  refine ab_istore_n 2 [some (.int a0), some (.int a1), some (.int v1)] dX5_west_12 rfl (by decide) rfl rfl ?_
  refine ab_iconst dX5_west_13 kic_1 ?_
  refine ab_iload_n 0 dX5_west_14 rfl rfl ?_
  refine ab_ishl dX5_west_15 ?_
  refine ab_iconst dX5_west_16 kic_1 ?_
  refine ab_iload_n 2 dX5_west_17 rfl rfl ?_
  refine ab_ishl dX5_west_18 ?_
  refine ab_isub dX5_west_19 ?_
  exact f_reti dX5_west_20 rfl (Nat.le_refl 0) (Nat.le_refl 0) hf
def F_X5_east_B16 (x0 : Int32) (y0 : Int32) : Option Int32 :=
  some (((1 : Int32) <<< ((y0 + 1) &&& 31)) - ((1 : Int32) <<< ((x0 + 1) &&& 31)))
theorem w_X5_east_B16 {z0 : Int32} (x0 : Int32) (y0 : Int32) (h : abH)   (hf : F_X5_east_B16 x0 y0 = some z0) : abW cX5_east 3 RX5 (some .int) false 1 0 0 none (some (.int z0), h) 16 [some (.int x0), none, none] [.int y0] h 0 0 := by
  unfold F_X5_east_B16 at hf
  refine ab_istore_n 2 [some (.int x0), none, some (.int y0)] dX5_east_16 rfl (by decide) rfl rfl ?_
  refine ab_iconst dX5_east_17 kic_1 ?_
  refine ab_iload_n 2 dX5_east_18 rfl rfl ?_
  refine ab_iconst dX5_east_19 kic_1 ?_
  refine ab_iadd dX5_east_20 ?_
  refine ab_ishl dX5_east_21 ?_
  refine ab_iconst dX5_east_22 kic_1 ?_
  refine ab_iload_n 0 dX5_east_23 rfl rfl ?_
  refine ab_iconst dX5_east_24 kic_1 ?_
  refine ab_iadd dX5_east_25 ?_
  refine ab_ishl dX5_east_26 ?_
  refine ab_isub dX5_east_27 ?_
  exact f_reti dX5_east_28 rfl (Nat.le_refl 0) (Nat.le_refl 0) hf
def F_X5_east (a0 : Int32) (a1 : Int32) : Option Int32 :=
  if (a0 + a1) < 10 then
    F_X5_east_B16 a0 (a0 + a1)
  else
    F_X5_east_B16 a0 9
theorem m_X5_east {z0 : Int32} (a0 : Int32) (a1 : Int32) (h : abH) (hf : F_X5_east a0 a1 = some z0) : abM yX5_east cX5_east 3 (some .int) 1 0 0 [.int a0, .int a1] h (some (.int z0)) h := by
  refine abM_of (ini := false) [some (.int a0), some (.int a1), none] (by decide +kernel) (fun q => by first | rfl | cases q) (Nat.le_of_ble_eq_true rfl) rfl ?_
  unfold F_X5_east at hf
  refine ab_iload_n 0 dX5_east_0 rfl rfl ?_
  refine ab_iload_n 1 dX5_east_1 rfl rfl ?_
  refine ab_iadd dX5_east_2 ?_
  refine ab_bipush dX5_east_3 kbp_10 ?_
  refine ab_icmp_ge 14 dX5_east_5 (by decide) hf (fun hf => ?_) (fun hf => ?_)
  · refine ab_iload_n 0 dX5_east_8 rfl rfl ?_
    refine ab_iload_n 1 dX5_east_9 rfl rfl ?_
    refine ab_iadd dX5_east_10 ?_
    refine ab_goto 16 dX5_east_11 (by decide) ?_
    exact ab_msk [true, false, true] (w_X5_east_B16 a0 (a0 + a1) h hf)
  refine ab_bipush dX5_east_14 kbp_9 ?_
  exact ab_msk [true, false, true] (w_X5_east_B16 a0 9 h hf)
def F_X0_shade (a0 : Nat) (a1 : Int32) (a2 : Int32) (a3 : Int32) (h : abH) : Option Int32 :=
  (ko 0 h a0).bind fun _ => (F_X5_length a0 a1 a3 h).bind fun v1 =>
  (F_X5_west a2 v1).bind fun v2 =>
  (F_X5_east a2 v1).bind fun v3 =>
  some (v2 ||| v3)
theorem m_X0_shade {z0 : Int32} (a0 : Nat) (a1 : Int32) (a2 : Int32) (a3 : Int32) (h : abH) (hf : F_X0_shade a0 a1 a2 a3 h = some z0) : abM yX0_shade cX0_shade 5 (some .int) 2 0 0 [.ref a0, .int a1, .int a2, .int a3] h (some (.int z0)) h := by
  refine abM_of (ini := false) [some (.ref a0), some (.int a1), some (.int a2), some (.int a3), none] (by decide +kernel) (fun q => by first | rfl | cases q) (Nat.le_of_ble_eq_true rfl) rfl ?_
  unfold F_X0_shade at hf
  refine ab_aload_n 0 dX0_shade_0 rfl rfl ?_
  refine ab_iload_n 1 dX0_shade_1 rfl rfl ?_
  refine ab_iload_n 3 dX0_shade_2 rfl rfl ?_
  refine f_U_i (As := [.int a1, .int a3]) (st := []) cs_X0_9_0 (fun v q => m_X5_length a0 a1 a3 h q) rfl rfl dX0_shade_3 (rmk rfl) hf (fun v1 hf => ?_)
  refine ab_istore [some (.ref a0), some (.int a1), some (.int a2), some (.int a3), some (.int v1)] dX0_shade_6 (by decide) rfl rfl ?_
  refine ab_iload_n 2 dX0_shade_8 rfl rfl ?_
  refine ab_iload dX0_shade_9 rfl ?_
  refine f_T_i (As := [.int a2, .int v1]) (st := []) cs_X0_15 (fun v q => m_X5_west a2 v1 h q) rfl rfl dX0_shade_11 (rmk rfl) hf (fun v2 hf => ?_)
  refine ab_iload_n 2 dX0_shade_14 rfl rfl ?_
  refine ab_iload dX0_shade_15 rfl ?_
  refine f_T_i (As := [.int a2, .int v1]) (st := [.int v2]) cs_X0_18 (fun v q => m_X5_east a2 v1 h q) rfl rfl dX0_shade_17 (rmk rfl) hf (fun v3 hf => ?_)
  refine ab_ior dX0_shade_20 ?_
  exact f_reti dX0_shade_21 rfl (Nat.le_refl 0) (Nat.le_refl 0) hf
def F_X5_shade (a0 : Nat) (a1 : Int32) (a2 : Int32) (a3 : Int32) (h : abH) : Option Int32 :=
  (kc h a0).bind fun cc => (dsp cc (F_X5_length a0 a1 a3 h) (F_X5_length a0 a1 a3 h) (F_X5_length a0 a1 a3 h) (F_X5_length a0 a1 a3 h) (F_X5_length a0 a1 a3 h)).bind fun v1 =>
  if a3 < 6 then
    (F_X5_west a2 v1).bind fun v3 =>
    some v3
  else
    (F_X5_east a2 v1).bind fun v2 =>
    some v2
theorem m_X5_shade {z0 : Int32} (a0 : Nat) (a1 : Int32) (a2 : Int32) (a3 : Int32) (h : abH) (hf : F_X5_shade a0 a1 a2 a3 h = some z0) : abM yX5_shade cX5_shade 5 (some .int) 2 0 0 [.ref a0, .int a1, .int a2, .int a3] h (some (.int z0)) h := by
  refine abM_of (ini := false) [some (.ref a0), some (.int a1), some (.int a2), some (.int a3), none] (by decide +kernel) (fun q => by first | rfl | cases q) (Nat.le_of_ble_eq_true rfl) rfl ?_
  unfold F_X5_shade at hf
  refine ab_aload_n 0 dX5_shade_0 rfl rfl ?_
  refine ab_iload_n 1 dX5_shade_1 rfl rfl ?_
  refine ab_iload_n 3 dX5_shade_2 rfl rfl ?_
  refine f_D hf
    (fun v q0 q1 kk => ab_callUi (As := [.int a1, .int a3]) (st := []) cs_X5_18_0 q0 (m_X5_length a0 a1 a3 h q1) rfl rfl dX5_shade_3 (rmk rfl) kk)
    (fun v q0 q1 kk => ab_callUi (As := [.int a1, .int a3]) (st := []) cs_X5_18_4 q0 (m_X5_length a0 a1 a3 h q1) rfl rfl dX5_shade_3 (rmk rfl) kk)
    (fun v q0 q1 kk => ab_callVi (As := [.int a1, .int a3]) (st := []) cs_X5_18_5 q0 (m_X5_length a0 a1 a3 h q1) rfl rfl dX5_shade_3 (rmk rfl) kk)
    (fun v q0 q1 kk => ab_callUi (As := [.int a1, .int a3]) (st := []) cs_X5_18_7 q0 (m_X5_length a0 a1 a3 h q1) rfl rfl dX5_shade_3 (rmk rfl) kk)
    (fun v q0 q1 kk => ab_callUi (As := [.int a1, .int a3]) (st := []) cs_X5_18_10 q0 (m_X5_length a0 a1 a3 h q1) rfl rfl dX5_shade_3 (rmk rfl) kk)
    (fun v1 hf => ?_)
  refine ab_istore [some (.ref a0), some (.int a1), some (.int a2), some (.int a3), some (.int v1)] dX5_shade_6 (by decide) rfl rfl ?_
  refine ab_iload_n 3 dX5_shade_8 rfl rfl ?_
  refine ab_bipush dX5_shade_9 kbp_6 ?_
  refine ab_icmp_ge 23 dX5_shade_11 (by decide) hf (fun hf => ?_) (fun hf => ?_)
  · refine ab_iload_n 2 dX5_shade_14 rfl rfl ?_
    refine ab_iload dX5_shade_15 rfl ?_
    refine f_S_i (As := [.int a2, .int v1]) (st := []) cs_X5_22 (fun v q => m_X5_west a2 v1 h q) rfl rfl dX5_shade_17 (rmk rfl) hf (fun v3 hf => ?_)
    refine ab_goto 29 dX5_shade_20 (by decide) ?_
    exact f_reti dX5_shade_29 rfl (Nat.le_refl 0) (Nat.le_refl 0) hf
  refine ab_iload_n 2 dX5_shade_23 rfl rfl ?_
  refine ab_iload dX5_shade_24 rfl ?_
  refine f_S_i (As := [.int a2, .int v1]) (st := []) cs_X5_25 (fun v q => m_X5_east a2 v1 h q) rfl rfl dX5_shade_26 (rmk rfl) hf (fun v2 hf => ?_)
  exact f_reti dX5_shade_29 rfl (Nat.le_refl 0) (Nat.le_refl 0) hf
def F_X10_shade_B25 (x4 : Int32) (y0 : Int32) (h : abH) : Option Int32 :=
  if x4 ≤ 0 then
    some 0
  else
    (F_X11_isTile y0).bind fun v2 =>
    if v2 = 0 then
      some 0
    else
      some ((1 : Int32) <<< (y0 &&& 31))
theorem w_X10_shade_B25 {z0 : Int32} (x4 : Int32) (y0 : Int32) (h : abH)   (hf : F_X10_shade_B25 x4 y0 h = some z0) : abW cX10_shade 6 RX10 (some .int) false 2 0 0 none (some (.int z0), h) 25 [none, none, none, none, some (.int x4), none] [.int y0] h 0 0 := by
  unfold F_X10_shade_B25 at hf
  refine ab_istore [none, none, none, none, some (.int x4), some (.int y0)] dX10_shade_25 (by decide) rfl rfl ?_
  refine ab_iload dX10_shade_27 rfl ?_
  refine ab_if_le 47 dX10_shade_29 (by decide) hf (fun hf => ?_) (fun hf => ?_)
  · refine ab_iconst dX10_shade_47 kic_0 ?_
    exact f_reti dX10_shade_48 rfl (Nat.le_refl 0) (Nat.le_refl 0) hf
  refine ab_iload dX10_shade_32 rfl ?_
  refine f_SN_i (As := [.int y0]) (st := []) cs_X10_15 (fun v q => m_X11_isTile y0 h q) rfl rfl dX10_shade_34 (rmk rfl) hf (fun v2 hf => ?_)
  refine ab_if_eq 47 dX10_shade_37 (by decide) hf (fun hf => ?_) (fun hf => ?_)
  · refine ab_iconst dX10_shade_47 kic_0 ?_
    exact f_reti dX10_shade_48 rfl (Nat.le_refl 0) (Nat.le_refl 0) hf
  refine ab_iconst dX10_shade_40 kic_1 ?_
  refine ab_iload dX10_shade_41 rfl ?_
  refine ab_ishl dX10_shade_43 ?_
  refine ab_goto 48 dX10_shade_44 (by decide) ?_
  exact f_reti dX10_shade_48 rfl (Nat.le_refl 0) (Nat.le_refl 0) hf
def F_X10_shade (a0 : Nat) (a1 : Int32) (a2 : Int32) (a3 : Int32) (h : abH) : Option Int32 :=
  (ko 10 h a0).bind fun _ => (F_X5_length a0 a1 a3 h).bind fun v1 =>
  if a3 < 6 then
    F_X10_shade_B25 v1 (a2 - v1) h
  else
    F_X10_shade_B25 v1 (a2 + v1) h
theorem m_X10_shade {z0 : Int32} (a0 : Nat) (a1 : Int32) (a2 : Int32) (a3 : Int32) (h : abH) (hf : F_X10_shade a0 a1 a2 a3 h = some z0) : abM yX10_shade cX10_shade 6 (some .int) 2 0 0 [.ref a0, .int a1, .int a2, .int a3] h (some (.int z0)) h := by
  refine abM_of (ini := false) [some (.ref a0), some (.int a1), some (.int a2), some (.int a3), none, none] (by decide +kernel) (fun q => by first | rfl | cases q) (Nat.le_of_ble_eq_true rfl) rfl ?_
  unfold F_X10_shade at hf
  refine ab_aload_n 0 dX10_shade_0 rfl rfl ?_
  refine ab_iload_n 1 dX10_shade_1 rfl rfl ?_
  refine ab_iload_n 3 dX10_shade_2 rfl rfl ?_
  refine f_U_i (As := [.int a1, .int a3]) (st := []) cs_X10_9_10 (fun v q => m_X5_length a0 a1 a3 h q) rfl rfl dX10_shade_3 (rmk rfl) hf (fun v1 hf => ?_)
  refine ab_istore [some (.ref a0), some (.int a1), some (.int a2), some (.int a3), some (.int v1), none] dX10_shade_6 (by decide) rfl rfl ?_
  refine ab_iload_n 3 dX10_shade_8 rfl rfl ?_
  refine ab_bipush dX10_shade_9 kbp_6 ?_
  refine ab_icmp_ge 21 dX10_shade_11 (by decide) hf (fun hf => ?_) (fun hf => ?_)
  · refine ab_iload_n 2 dX10_shade_14 rfl rfl ?_
    refine ab_iload dX10_shade_15 rfl ?_
    refine ab_isub dX10_shade_17 ?_
    refine ab_goto 25 dX10_shade_18 (by decide) ?_
    exact ab_msk [false, false, false, false, true, true] (w_X10_shade_B25 v1 (a2 - v1) h hf)
  refine ab_iload_n 2 dX10_shade_21 rfl rfl ?_
  refine ab_iload dX10_shade_22 rfl ?_
  refine ab_iadd dX10_shade_24 ?_
  exact ab_msk [false, false, false, false, true, true] (w_X10_shade_B25 v1 (a2 + v1) h hf)
