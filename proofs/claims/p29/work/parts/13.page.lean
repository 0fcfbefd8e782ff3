def F_X6_init (a0 : Nat) (h : abH) : Option abH :=
  nm (h ++ [.inl (1, 34, fun _ => 0)]) fun h1 =>
  (sV 6 h1 a0 0 (.ref (h.length + 3))).bind fun h2 =>
  some h2
theorem m_X6_init {hz : abH} (a0 : Nat) (h : abH) (hf : F_X6_init a0 h = some hz) : abM yX6_init cX6_init 1 none 1 1 34 [.ref a0] h none hz := by
  refine abM_of (ini := true) [some (.ref a0)] (by decide +kernel) (fun q => by first | rfl | cases q) (Nat.le_of_ble_eq_true rfl) rfl ?_
  unfold F_X6_init at hf
  refine ab_aload_n 0 dX6_init_0 rfl rfl ?_
  refine ab_obj tb_33 tb_26 tb_27 dX6_init_1 (by decide) (Nat.le_of_ble_eq_true rfl) ?_
  refine ab_aload_n 0 dX6_init_4 rfl rfl ?_
  refine ab_bipush dX6_init_5 kbp_34 ?_
  refine ab_newa (a := .char) 1 34 tb_44 (by simp) (by decide) (by decide +kernel) (by decide) dX6_init_7 (by omega) (by omega) ?_
  refine ab_nmh hf (fun h1 hf => ?_)
  refine f_putF fp_X6_11 rfl (abFit_a _ _) dX6_init_9 hf (fun h2 hf => ?_)
  exact f_retv2 dX6_init_12 rfl (by omega) (by omega) hf
def F_X6_fits (a0 : Nat) (a1 : Int32) (h : abH) : Option Int32 :=
  (gR 6 h a0 0).bind fun v1 =>
  (ga 1 h v1 a1).bind fun v2 =>
  if a1 < 10 then
    (F_X11_within v2 48 57).bind fun v7 =>
    rz v7
  else
    if a1 = 10 then
      if v2 = 59 then
        some 1
      else
        some 0
    else
      if a1 < 30 then
        dz 4 <|
        nm ((a1 - 11) - (a1 - 11) / 4 * 4) fun v3 =>
        if v3 = 0 then
          (F_J0_indexOf_0f7a4 v2).bind fun v4 =>
          if v4 < 0 then
            some 0
          else
            some 1
        else
        if v3 = 1 then
          (F_X11_within v2 49 57).bind fun v5 =>
          rz v5
        else
        if v3 = 2 then
          (F_X11_within v2 48 57).bind fun v6 =>
          rz v6
        else
          if v2 = 44 then
            some 1
          else
            some 0
      else
        some 0
theorem m_X6_fits {z0 : Int32} (a0 : Nat) (a1 : Int32) (h : abH) (hf : F_X6_fits a0 a1 h = some z0) : abM yX6_fits cX6_fits 3 (some .boolean) 5 0 0 [.ref a0, .int a1] h (some (.int z0)) h := by
  refine abM_of (ini := false) [some (.ref a0), some (.int a1), none] (by decide +kernel) (fun q => by first | rfl | cases q) (Nat.le_of_ble_eq_true rfl) rfl ?_
  unfold F_X6_fits at hf
  refine ab_aload_n 0 dX6_fits_0 rfl rfl ?_
  refine f_getR fs_X6_11 dX6_fits_1 hf (fun v1 hf => ?_)
  refine ab_iload_n 1 dX6_fits_4 rfl rfl ?_
  refine f_cald dX6_fits_5 hf (fun v2 hf => ?_)
  refine ab_istore_n 2 [some (.ref a0), some (.int a1), some (.int v2)] dX6_fits_6 rfl (by decide) rfl rfl ?_
  refine ab_iload_n 1 dX6_fits_7 rfl rfl ?_
  refine ab_bipush dX6_fits_8 kbp_10 ?_
  refine ab_icmp_ge 22 dX6_fits_10 (by decide) hf (fun hf => ?_) (fun hf => ?_)
  · refine ab_iload_n 2 dX6_fits_13 rfl rfl ?_
    refine ab_bipush dX6_fits_14 kbp_48 ?_
    refine ab_bipush dX6_fits_16 kbp_57 ?_
    refine f_SN_i (As := [.int v2, .int 48, .int 57]) (st := []) cs_X6_48 (fun v q => m_X11_within v2 48 57 h q) rfl rfl dX6_fits_18 (rmk rfl) hf (fun v7 hf => ?_)
    exact f_retz dX6_fits_21 rfl (Nat.le_refl 0) (Nat.le_refl 0) hf
  refine ab_iload_n 1 dX6_fits_22 rfl rfl ?_
  refine ab_bipush dX6_fits_23 kbp_10 ?_
  refine ab_icmp_ne 40 dX6_fits_25 (by decide) hf (fun hf => ?_) (fun hf => ?_)
  · refine ab_iload_n 2 dX6_fits_28 rfl rfl ?_
    refine ab_bipush dX6_fits_29 kbp_59 ?_
    refine ab_icmp_ne 38 dX6_fits_31 (by decide) hf (fun hf => ?_) (fun hf => ?_)
    · refine ab_iconst dX6_fits_34 kic_1 ?_
      refine ab_goto 39 dX6_fits_35 (by decide) ?_
      exact f_retzc rfl dX6_fits_39 rfl (Nat.le_refl 0) (Nat.le_refl 0) hf
    refine ab_iconst dX6_fits_38 kic_0 ?_
    exact f_retzc rfl dX6_fits_39 rfl (Nat.le_refl 0) (Nat.le_refl 0) hf
  refine ab_iload_n 1 dX6_fits_40 rfl rfl ?_
  refine ab_bipush dX6_fits_41 kbp_30 ?_
  refine ab_icmp_lt 48 dX6_fits_43 (by decide) hf (fun hf => ?_) (fun hf => ?_)
  · refine ab_iload_n 1 dX6_fits_48 rfl rfl ?_
    refine ab_bipush dX6_fits_49 kbp_11 ?_
    refine ab_isub dX6_fits_51 ?_
    refine ab_iconst dX6_fits_52 kic_4 ?_
    refine f_irem dX6_fits_53 hf (fun hf => ?_)
    refine ab_nmi hf (fun v3 hf => ?_)
    refine f_tab 0 26 80 dX6_fits_54 (by decide +kernel) (by decide) hf (fun hf => ?_) (fun q0 hf => ?_)
    · refine ab_ldcS rfl rfl dX6_fits_80 ?_
      refine ab_iload_n 2 dX6_fits_82 rfl rfl ?_
      refine f_Q_i (As := [.int v2]) (st := []) cs_X6_54 (fun v q => m_J0_indexOf_0f7a4 v2 h q) rfl rfl dX6_fits_83 (rmk rfl) hf (fun v4 hf => ?_)
      refine ab_if_lt 93 dX6_fits_86 (by decide) hf (fun hf => ?_) (fun hf => ?_)
      · refine ab_iconst dX6_fits_93 kic_0 ?_
        exact f_retzc rfl dX6_fits_94 rfl (Nat.le_refl 0) (Nat.le_refl 0) hf
      refine ab_iconst dX6_fits_89 kic_1 ?_
      refine ab_goto 94 dX6_fits_90 (by decide) ?_
      exact f_retzc rfl dX6_fits_94 rfl (Nat.le_refl 0) (Nat.le_refl 0) hf
    refine f_tab 1 41 95 dX6_fits_54 (by decide +kernel) (by decide) hf (fun hf => ?_) (fun q1 hf => ?_)
    · refine ab_iload_n 2 dX6_fits_95 rfl rfl ?_
      refine ab_bipush dX6_fits_96 kbp_49 ?_
      refine ab_bipush dX6_fits_98 kbp_57 ?_
      refine f_SN_i (As := [.int v2, .int 49, .int 57]) (st := []) cs_X6_48 (fun v q => m_X11_within v2 49 57 h q) rfl rfl dX6_fits_100 (rmk rfl) hf (fun v5 hf => ?_)
      exact f_retz dX6_fits_103 rfl (Nat.le_refl 0) (Nat.le_refl 0) hf
    refine f_tab 2 50 104 dX6_fits_54 (by decide +kernel) (by decide) hf (fun hf => ?_) (fun q2 hf => ?_)
    · refine ab_iload_n 2 dX6_fits_104 rfl rfl ?_
      refine ab_bipush dX6_fits_105 kbp_48 ?_
      refine ab_bipush dX6_fits_107 kbp_57 ?_
      refine f_SN_i (As := [.int v2, .int 48, .int 57]) (st := []) cs_X6_48 (fun v q => m_X11_within v2 48 57 h q) rfl rfl dX6_fits_109 (rmk rfl) hf (fun v6 hf => ?_)
      exact f_retz dX6_fits_112 rfl (Nat.le_refl 0) (Nat.le_refl 0) hf
    refine ab_tableOut 113 dX6_fits_54 (tout_2 q0 q1 q2) (by decide) ?_
    refine ab_iload_n 2 dX6_fits_113 rfl rfl ?_
    refine ab_bipush dX6_fits_114 kbp_44 ?_
    refine ab_icmp_ne 123 dX6_fits_116 (by decide) hf (fun hf => ?_) (fun hf => ?_)
    · refine ab_iconst dX6_fits_119 kic_1 ?_
      refine ab_goto 124 dX6_fits_120 (by decide) ?_
      exact f_retzc rfl dX6_fits_124 rfl (Nat.le_refl 0) (Nat.le_refl 0) hf
    refine ab_iconst dX6_fits_123 kic_0 ?_
    exact f_retzc rfl dX6_fits_124 rfl (Nat.le_refl 0) (Nat.le_refl 0) hf
  refine ab_iconst dX6_fits_46 kic_0 ?_
  exact f_retzc rfl dX6_fits_47 rfl (Nat.le_refl 0) (Nat.le_refl 0) hf
def F_X6_firstWrong_B2 (x0 : Nat) (h : abH) : Nat → Int32 → Option Int32
  | 0, _ => none
  | n + 1, x1 =>
    (gI 6 h x0 1).bind fun v1 =>
    if x1 < v1 then
      (ko 6 h x0).bind fun _ => (F_X6_fits x0 x1 h).bind fun v2 =>
      if v2 = 0 then
        some x1
      else
        F_X6_firstWrong_B2 x0 h n (x1 + 1)
    else
      some x1
theorem w_X6_firstWrong_B2 {z0 : Int32} (x0 : Nat) (h : abH)   : ∀ (n : Nat) (x1 : Int32), F_X6_firstWrong_B2 x0 h n x1 = some z0 → abW cX6_firstWrong 2 RX6 (some .int) false 6 0 0 none (some (.int z0), h) 2 [some (.ref x0), some (.int x1)] [] h 0 0 := by
  intro n
  induction n with
  | zero =>
    intro x1 hf
    exact absurd (show (none : Option Int32) = some _ from hf) (by simp)
  | succ n ih =>
    intro x1 hf
    rw [F_X6_firstWrong_B2.eq_2] at hf
    refine ab_iload_n 1 dX6_firstWrong_2 rfl rfl ?_
    refine ab_aload_n 0 dX6_firstWrong_3 rfl rfl ?_
    refine f_getI fs_X6_15 dX6_firstWrong_4 hf (fun v1 hf => ?_)
    refine ab_icmp_ge 24 dX6_firstWrong_7 (by decide) hf (fun hf => ?_) (fun hf => ?_)
    · refine ab_aload_n 0 dX6_firstWrong_10 rfl rfl ?_
      refine ab_iload_n 1 dX6_firstWrong_11 rfl rfl ?_
      refine f_V_i (As := [.int x1]) (st := []) cs_X6_19 (fun v q => m_X6_fits x0 x1 h q) rfl rfl dX6_firstWrong_12 (rmk rfl) hf (fun v2 hf => ?_)
      refine ab_if_eq 24 dX6_firstWrong_15 (by decide) hf (fun hf => ?_) (fun hf => ?_)
      · refine ab_iload_n 1 dX6_firstWrong_24 rfl rfl ?_
        exact f_reti dX6_firstWrong_25 rfl (Nat.le_refl 0) (Nat.le_refl 0) hf
      refine ab_iinc (v := x1 + 1) [some (.ref x0), some (.int (x1 + 1))] dX6_firstWrong_18 rfl (kinc_1 _) (by decide) rfl rfl ?_
      refine ab_goto 2 dX6_firstWrong_21 (by decide) ?_
      exact ab_msk [true, true] (ih (x1 + 1) hf)
    refine ab_iload_n 1 dX6_firstWrong_24 rfl rfl ?_
    exact f_reti dX6_firstWrong_25 rfl (Nat.le_refl 0) (Nat.le_refl 0) hf
def F_X6_firstWrong (a0 : Nat) (h : abH) : Option Int32 :=
  F_X6_firstWrong_B2 a0 h 200 0
theorem m_X6_firstWrong {z0 : Int32} (a0 : Nat) (h : abH) (hf : F_X6_firstWrong a0 h = some z0) : abM yX6_firstWrong cX6_firstWrong 2 (some .int) 6 0 0 [.ref a0] h (some (.int z0)) h := by
  refine abM_of (ini := false) [some (.ref a0), none] (by decide +kernel) (fun q => by first | rfl | cases q) (Nat.le_of_ble_eq_true rfl) rfl ?_
  unfold F_X6_firstWrong at hf
  refine ab_iconst dX6_firstWrong_0 kic_0 ?_
  refine ab_istore_n 1 [some (.ref a0), some (.int 0)] dX6_firstWrong_1 rfl (by decide) rfl rfl ?_
  exact ab_msk [true, true] (w_X6_firstWrong_B2 a0 h 200 0 hf)
def F_X6_hasWholeParties (a0 : Nat) (h : abH) : Option Int32 :=
  (gI 6 h a0 1).bind fun v1 =>
  dz 4 <|
  if (((v1 + 1) - 11) - ((v1 + 1) - 11) / 4 * 4) = 0 then
    some 1
  else
    some 0
theorem m_X6_hasWholeParties {z0 : Int32} (a0 : Nat) (h : abH) (hf : F_X6_hasWholeParties a0 h = some z0) : abM yX6_hasWholeParties cX6_hasWholeParties 1 (some .boolean) 1 0 0 [.ref a0] h (some (.int z0)) h := by
  refine abM_of (ini := false) [some (.ref a0)] (by decide +kernel) (fun q => by first | rfl | cases q) (Nat.le_of_ble_eq_true rfl) rfl ?_
  unfold F_X6_hasWholeParties at hf
  refine ab_aload_n 0 dX6_hasWholeParties_0 rfl rfl ?_
  refine f_getI fs_X6_15 dX6_hasWholeParties_1 hf (fun v1 hf => ?_)
  refine ab_iconst dX6_hasWholeParties_4 kic_1 ?_
  refine ab_iadd dX6_hasWholeParties_5 ?_
  refine ab_bipush dX6_hasWholeParties_6 kbp_11 ?_
  refine ab_isub dX6_hasWholeParties_8 ?_
  refine ab_iconst dX6_hasWholeParties_9 kic_4 ?_
  refine f_irem dX6_hasWholeParties_10 hf (fun hf => ?_)
  refine ab_if_ne 18 dX6_hasWholeParties_11 (by decide) hf (fun hf => ?_) (fun hf => ?_)
  · refine ab_iconst dX6_hasWholeParties_14 kic_1 ?_
    refine ab_goto 19 dX6_hasWholeParties_15 (by decide) ?_
    exact f_retzc rfl dX6_hasWholeParties_19 rfl (Nat.le_refl 0) (Nat.le_refl 0) hf
  refine ab_iconst dX6_hasWholeParties_18 kic_0 ?_
  exact f_retzc rfl dX6_hasWholeParties_19 rfl (Nat.le_refl 0) (Nat.le_refl 0) hf
def F_X6_isCourt (a0 : Nat) (h : abH) : Option Int32 :=
  (gI 6 h a0 1).bind fun v1 =>
  if v1 < 18 then
    some 0
  else
    (ko 6 h a0).bind fun _ => (F_X6_hasWholeParties a0 h).bind fun v2 =>
    if v2 = 0 then
      some 0
    else
      (ko 6 h a0).bind fun _ => (F_X6_firstWrong a0 h).bind fun v3 =>
      (gI 6 h a0 1).bind fun v4 =>
      if v3 = v4 then
        some 1
      else
        some 0
theorem m_X6_isCourt {z0 : Int32} (a0 : Nat) (h : abH) (hf : F_X6_isCourt a0 h = some z0) : abM yX6_isCourt cX6_isCourt 1 (some .boolean) 7 0 0 [.ref a0] h (some (.int z0)) h := by
  refine abM_of (ini := false) [some (.ref a0)] (by decide +kernel) (fun q => by first | rfl | cases q) (Nat.le_of_ble_eq_true rfl) rfl ?_
  unfold F_X6_isCourt at hf
  refine ab_aload_n 0 dX6_isCourt_0 rfl rfl ?_
  refine f_getI fs_X6_15 dX6_isCourt_1 hf (fun v1 hf => ?_)
  refine ab_bipush dX6_isCourt_4 kbp_18 ?_
  refine ab_icmp_lt 31 dX6_isCourt_6 (by decide) hf (fun hf => ?_) (fun hf => ?_)
  · refine ab_iconst dX6_isCourt_31 kic_0 ?_
    exact f_retzc rfl dX6_isCourt_32 rfl (Nat.le_refl 0) (Nat.le_refl 0) hf
  refine ab_aload_n 0 dX6_isCourt_9 rfl rfl ?_
  refine f_V_i (As := []) (st := []) cs_X6_23 (fun v q => m_X6_hasWholeParties a0 h q) rfl rfl dX6_isCourt_10 (rmk rfl) hf (fun v2 hf => ?_)
  refine ab_if_eq 31 dX6_isCourt_13 (by decide) hf (fun hf => ?_) (fun hf => ?_)
  · refine ab_iconst dX6_isCourt_31 kic_0 ?_
    exact f_retzc rfl dX6_isCourt_32 rfl (Nat.le_refl 0) (Nat.le_refl 0) hf
  refine ab_aload_n 0 dX6_isCourt_16 rfl rfl ?_
  refine f_V_i (As := []) (st := []) cs_X6_27 (fun v q => m_X6_firstWrong a0 h q) rfl rfl dX6_isCourt_17 (rmk rfl) hf (fun v3 hf => ?_)
  refine ab_aload_n 0 dX6_isCourt_20 rfl rfl ?_
  refine f_getI fs_X6_15 dX6_isCourt_21 hf (fun v4 hf => ?_)
  refine ab_icmp_ne 31 dX6_isCourt_24 (by decide) hf (fun hf => ?_) (fun hf => ?_)
  · refine ab_iconst dX6_isCourt_27 kic_1 ?_
    refine ab_goto 32 dX6_isCourt_28 (by decide) ?_
    exact f_retzc rfl dX6_isCourt_32 rfl (Nat.le_refl 0) (Nat.le_refl 0) hf
  refine ab_iconst dX6_isCourt_31 kic_0 ?_
  exact f_retzc rfl dX6_isCourt_32 rfl (Nat.le_refl 0) (Nat.le_refl 0) hf
def F_X6_parties (a0 : Nat) (h : abH) : Option Int32 :=
  (gI 6 h a0 1).bind fun v1 =>
  dz 4 <|
  some (((v1 + 1) - 11) / 4)
theorem m_X6_parties {z0 : Int32} (a0 : Nat) (h : abH) (hf : F_X6_parties a0 h = some z0) : abM yX6_parties cX6_parties 1 (some .int) 1 0 0 [.ref a0] h (some (.int z0)) h := by
  refine abM_of (ini := false) [some (.ref a0)] (by decide +kernel) (fun q => by first | rfl | cases q) (Nat.le_of_ble_eq_true rfl) rfl ?_
  unfold F_X6_parties at hf
  refine ab_aload_n 0 dX6_parties_0 rfl rfl ?_
  refine f_getI fs_X6_15 dX6_parties_1 hf (fun v1 hf => ?_)
  refine ab_iconst dX6_parties_4 kic_1 ?_
  refine ab_iadd dX6_parties_5 ?_
  refine ab_bipush dX6_parties_6 kbp_11 ?_
  refine ab_isub dX6_parties_8 ?_
  refine ab_iconst dX6_parties_9 kic_4 ?_
  refine f_idiv dX6_parties_10 hf (fun hf => ?_)
  exact f_reti dX6_parties_11 rfl (Nat.le_refl 0) (Nat.le_refl 0) hf
def F_X6_kindOf (a0 : Nat) (a1 : Int32) (h : abH) : Option (Nat × abH) :=
  (gR 6 h a0 0).bind fun v1 =>
  (ga 1 h v1 (11 + (a1 * 4))).bind fun v2 =>
  if v2 = 99 then
    nm (h ++ [.inr (.inr (0, [.int 0, .int 0]))]) fun h3 =>
    (F_X0_init (h.length + 3) h3).bind fun h4 =>
    some ((h.length + 3), h4)
  else
  if v2 = 104 then
    nm (h ++ [.inr (.inr (4, [.int 0, .int 0]))]) fun h5 =>
    (F_X4_init (h.length + 3) h5).bind fun h6 =>
    some ((h.length + 3), h6)
  else
  if v2 = 116 then
    nm (h ++ [.inr (.inr (10, [.int 0, .int 0]))]) fun h7 =>
    (F_X10_init (h.length + 3) h7).bind fun h8 =>
    some ((h.length + 3), h8)
  else
  if v2 = 117 then
    nm (h ++ [.inr (.inr (7, [.int 0, .int 0]))]) fun h9 =>
    (F_X7_init (h.length + 3) h9).bind fun h10 =>
    some ((h.length + 3), h10)
  else
    nm (h ++ [.inr (.inr (5, [.int 0, .int 0]))]) fun h11 =>
    (F_X5_init (h.length + 3) 0 0 h11).bind fun h12 =>
    some ((h.length + 3), h12)
theorem m_X6_kindOf {z0 : Nat} {hz : abH} (a0 : Nat) (a1 : Int32) (h : abH) (hf : F_X6_kindOf a0 a1 h = some (z0, hz)) : abM yX6_kindOf cX6_kindOf 2 (some (.object "ShadowCourt$Kind")) 4 1 2 [.ref a0, .int a1] h (some (.ref z0)) hz := by
  refine abM_of (ini := false) [some (.ref a0), some (.int a1)] (by decide +kernel) (fun q => by first | rfl | cases q) (Nat.le_of_ble_eq_true rfl) rfl ?_
  unfold F_X6_kindOf at hf
  refine ab_aload_n 0 dX6_kindOf_0 rfl rfl ?_
  refine f_getR fs_X6_11 dX6_kindOf_1 hf (fun v1 hf => ?_)
  refine ab_bipush dX6_kindOf_4 kbp_11 ?_
  refine ab_iload_n 1 dX6_kindOf_6 rfl rfl ?_
  refine ab_iconst dX6_kindOf_7 kic_4 ?_
  refine ab_imul dX6_kindOf_8 ?_
  refine ab_iadd dX6_kindOf_9 ?_
  refine f_cald dX6_kindOf_10 hf (fun v2 hf => ?_)
  refine f_lks 99 57 68 dX6_kindOf_11 (by decide +kernel) (by decide +kernel) (by decide) hf (fun hf => ?_) (fun q0 hf => ?_)
  · refine ab_new ns_X6_37 dX6_kindOf_68 (by omega) (by omega) ?_
    refine ab_nmh hf (fun h3 hf => ?_)
    refine ab_dup dX6_kindOf_71 rfl ?_
    refine f_I_v2 (As := []) (st := [.ref (h.length + 3)]) rfl rfl cs_X6_39 (fun hq q => m_X0_init (h.length + 3) h3 q) rfl rfl dX6_kindOf_72 (rmk2 (by decide) (by decide) (Nat.le_of_ble_eq_true rfl) (by omega) (by omega)) hf (fun h4 hf => ?_)
    exact f_retr2 _ dX6_kindOf_75 rfl (by omega) (by omega) hf
  refine f_lks 104 41 52 dX6_kindOf_11 (by decide +kernel) (by decide +kernel) (by decide) hf (fun hf => ?_) (fun q1 hf => ?_)
  · refine ab_new ns_X6_31 dX6_kindOf_52 (by omega) (by omega) ?_
    refine ab_nmh hf (fun h5 hf => ?_)
    refine ab_dup dX6_kindOf_55 rfl ?_
    refine f_I_v2 (As := []) (st := [.ref (h.length + 3)]) rfl rfl cs_X6_33 (fun hq q => m_X4_init (h.length + 3) h5 q) rfl rfl dX6_kindOf_56 (rmk2 (by decide) (by decide) (Nat.le_of_ble_eq_true rfl) (by omega) (by omega)) hf (fun h6 hf => ?_)
    exact f_retr2 _ dX6_kindOf_59 rfl (by omega) (by omega) hf
  refine f_lks 116 49 60 dX6_kindOf_11 (by decide +kernel) (by decide +kernel) (by decide) hf (fun hf => ?_) (fun q2 hf => ?_)
  · refine ab_new ns_X6_34 dX6_kindOf_60 (by omega) (by omega) ?_
    refine ab_nmh hf (fun h7 hf => ?_)
    refine ab_dup dX6_kindOf_63 rfl ?_
    refine f_I_v2 (As := []) (st := [.ref (h.length + 3)]) rfl rfl cs_X6_36 (fun hq q => m_X10_init (h.length + 3) h7 q) rfl rfl dX6_kindOf_64 (rmk2 (by decide) (by decide) (Nat.le_of_ble_eq_true rfl) (by omega) (by omega)) hf (fun h8 hf => ?_)
    exact f_retr2 _ dX6_kindOf_67 rfl (by omega) (by omega) hf
  refine f_lks 117 65 76 dX6_kindOf_11 (by decide +kernel) (by decide +kernel) (by decide) hf (fun hf => ?_) (fun q3 hf => ?_)
  · refine ab_new ns_X6_40 dX6_kindOf_76 (by omega) (by omega) ?_
    refine ab_nmh hf (fun h9 hf => ?_)
    refine ab_dup dX6_kindOf_79 rfl ?_
    refine f_I_v2 (As := []) (st := [.ref (h.length + 3)]) rfl rfl cs_X6_42 (fun hq q => m_X7_init (h.length + 3) h9 q) rfl rfl dX6_kindOf_80 (rmk2 (by decide) (by decide) (Nat.le_of_ble_eq_true rfl) (by omega) (by omega)) hf (fun h10 hf => ?_)
    exact f_retr2 _ dX6_kindOf_83 rfl (by omega) (by omega) hf
  refine ab_lookup (off := 73) 84 dX6_kindOf_11 (by decide +kernel) (by rw [lv_osw q0 (by decide +kernel), lv_osw q1 (by decide +kernel), lv_osw q2 (by decide +kernel), lv_osw q3 (by decide +kernel)]; rfl) (by decide) ?_
  refine ab_new ns_X6_43 dX6_kindOf_84 (by omega) (by omega) ?_
  refine ab_nmh hf (fun h11 hf => ?_)
  refine ab_dup dX6_kindOf_87 rfl ?_
  refine ab_iconst dX6_kindOf_88 kic_0 ?_
  refine ab_iconst dX6_kindOf_89 kic_0 ?_
  refine f_I_v2 (As := [.int 0, .int 0]) (st := [.ref (h.length + 3)]) rfl rfl cs_X6_45 (fun hq q => m_X5_init (h.length + 3) 0 0 h11 q) rfl rfl dX6_kindOf_90 (rmk2 (by decide) (by decide) (Nat.le_of_ble_eq_true rfl) (by omega) (by omega)) hf (fun h12 hf => ?_)
  exact f_retr2 _ dX6_kindOf_93 rfl (by omega) (by omega) hf
def F_X6_digitOf (a0 : Nat) (a1 : Int32) (a2 : Int32) (h : abH) : Option Int32 :=
  (gR 6 h a0 0).bind fun v1 =>
  (ga 1 h v1 ((11 + (a1 * 4)) + a2)).bind fun v2 =>
  some (v2 - 48)
theorem m_X6_digitOf {z0 : Int32} (a0 : Nat) (a1 : Int32) (a2 : Int32) (h : abH) (hf : F_X6_digitOf a0 a1 a2 h = some z0) : abM yX6_digitOf cX6_digitOf 3 (some .int) 1 0 0 [.ref a0, .int a1, .int a2] h (some (.int z0)) h := by
  refine abM_of (ini := false) [some (.ref a0), some (.int a1), some (.int a2)] (by decide +kernel) (fun q => by first | rfl | cases q) (Nat.le_of_ble_eq_true rfl) rfl ?_
  unfold F_X6_digitOf at hf
  refine ab_aload_n 0 dX6_digitOf_0 rfl rfl ?_
  refine f_getR fs_X6_11 dX6_digitOf_1 hf (fun v1 hf => ?_)
  refine ab_bipush dX6_digitOf_4 kbp_11 ?_
  refine ab_iload_n 1 dX6_digitOf_6 rfl rfl ?_
  refine ab_iconst dX6_digitOf_7 kic_4 ?_
  refine ab_imul dX6_digitOf_8 ?_
  refine ab_iadd dX6_digitOf_9 ?_
  refine ab_iload_n 2 dX6_digitOf_10 rfl rfl ?_
  refine ab_iadd dX6_digitOf_11 ?_
  refine f_cald dX6_digitOf_12 hf (fun v2 hf => ?_)
  refine ab_bipush dX6_digitOf_13 kbp_48 ?_
  refine ab_isub dX6_digitOf_15 ?_
  exact f_reti dX6_digitOf_16 rfl (Nat.le_refl 0) (Nat.le_refl 0) hf
