def F_X12_init (a0 : Nat) (h : abH) : Option abH :=
  nm (h ++ [.inl (0, 10, fun _ => 0)]) fun h1 =>
  (sV 12 h1 a0 2 (.ref (h.length + 3))).bind fun h2 =>
  nm (h2 ++ [.inl (0, 5, fun _ => 0)]) fun h3 =>
  (sV 12 h3 a0 3 (.ref (h2.length + 3))).bind fun h4 =>
  nm (h4 ++ [.inl (0, 5, fun _ => 0)]) fun h5 =>
  (sV 12 h5 a0 4 (.ref (h4.length + 3))).bind fun h6 =>
  nm (h6 ++ [.inl (0, 5, fun _ => 0)]) fun h7 =>
  (sV 12 h7 a0 5 (.ref (h6.length + 3))).bind fun h8 =>
  nm (h8 ++ [.inl (0, 5, fun _ => 0)]) fun h9 =>
  (sV 12 h9 a0 9 (.ref (h8.length + 3))).bind fun h10 =>
  nm (h10 ++ [.inl (0, 5, fun _ => 0)]) fun h11 =>
  (sV 12 h11 a0 10 (.ref (h10.length + 3))).bind fun h12 =>
  nm (h12 ++ [.inl (0, 8, fun _ => 0)]) fun h13 =>
  (sV 12 h13 a0 12 (.ref (h12.length + 3))).bind fun h14 =>
  nm (h14 ++ [.inl (0, 8, fun _ => 0)]) fun h15 =>
  (sV 12 h15 a0 13 (.ref (h14.length + 3))).bind fun h16 =>
  nm (h16 ++ [.inl (0, 8, fun _ => 0)]) fun h17 =>
  (sV 12 h17 a0 14 (.ref (h16.length + 3))).bind fun h18 =>
  nm (h18 ++ [.inl (0, 8, fun _ => 0)]) fun h19 =>
  (sV 12 h19 a0 15 (.ref (h18.length + 3))).bind fun h20 =>
  nm (h20 ++ [.inl (2, 34, fun _ => 0)]) fun h21 =>
  (sV 12 h21 a0 17 (.ref (h20.length + 3))).bind fun h22 =>
  nm (h22 ++ [.inl (0, 100, fun _ => 0)]) fun h23 =>
  (sV 12 h23 a0 20 (.ref (h22.length + 3))).bind fun h24 =>
  nm (h24 ++ [.inl (0, 100, fun _ => 0)]) fun h25 =>
  (sV 12 h25 a0 21 (.ref (h24.length + 3))).bind fun h26 =>
  nm (h26 ++ [.inl (0, 5, fun _ => 0)]) fun h27 =>
  (sV 12 h27 a0 22 (.ref (h26.length + 3))).bind fun h28 =>
  nm (h28 ++ [.inl (0, 5, fun _ => 0)]) fun h29 =>
  (sV 12 h29 a0 23 (.ref (h28.length + 3))).bind fun h30 =>
  nm (h30 ++ [.inl (0, 10, fun _ => 0)]) fun h31 =>
  (sV 12 h31 a0 31 (.ref (h30.length + 3))).bind fun h32 =>
  nm (h32 ++ [.inl (0, 5, fun _ => 0)]) fun h33 =>
  (sV 12 h33 a0 32 (.ref (h32.length + 3))).bind fun h34 =>
  nm (h34 ++ [.inl (0, 5, fun _ => 0)]) fun h35 =>
  (sV 12 h35 a0 33 (.ref (h34.length + 3))).bind fun h36 =>
  nm (h36 ++ [.inl (0, 5, fun _ => 0)]) fun h37 =>
  (sV 12 h37 a0 34 (.ref (h36.length + 3))).bind fun h38 =>
  nm (h38 ++ [.inl (0, 5, fun _ => 0)]) fun h39 =>
  (sV 12 h39 a0 35 (.ref (h38.length + 3))).bind fun h40 =>
  nm (h40 ++ [.inl (0, 8, fun _ => 0)]) fun h41 =>
  (sV 12 h41 a0 36 (.ref (h40.length + 3))).bind fun h42 =>
  nm (h42 ++ [.inl (0, 8, fun _ => 0)]) fun h43 =>
  (sV 12 h43 a0 37 (.ref (h42.length + 3))).bind fun h44 =>
  nm (h44 ++ [.inl (0, 8, fun _ => 0)]) fun h45 =>
  (sV 12 h45 a0 38 (.ref (h44.length + 3))).bind fun h46 =>
  nm (h46 ++ [.inl (0, 8, fun _ => 0)]) fun h47 =>
  (sV 12 h47 a0 39 (.ref (h46.length + 3))).bind fun h48 =>
  some h48
theorem m_X12_init {hz : abH} (a0 : Nat) (h : abH) (hf : F_X12_init a0 h = some hz) : abM yX12_init cX12_init 1 none 1 24 373 [.ref a0] h none hz := by
  refine abM_of (ini := true) [some (.ref a0)] (by decide +kernel) (fun q => by first | rfl | cases q) (Nat.le_of_ble_eq_true rfl) rfl ?_
  unfold F_X12_init at hf
  refine ab_aload_n 0 dX12_init_0 rfl rfl ?_
  refine ab_obj tb_734 tb_28 tb_29 dX12_init_1 (by decide) (Nat.le_of_ble_eq_true rfl) ?_
  refine ab_aload_n 0 dX12_init_4 rfl rfl ?_
  refine ab_bipush dX12_init_5 kbp_10 ?_
  refine ab_newa (a := .int) 0 10 tb_129 (by simp) (by decide) (by decide +kernel) (by decide) dX12_init_7 (by omega) (by omega) ?_
  refine ab_nmh hf (fun h1 hf => ?_)
  refine f_putF fp_X12_7 rfl (abFit_a _ _) dX12_init_9 hf (fun h2 hf => ?_)
  refine ab_aload_n 0 dX12_init_12 rfl rfl ?_
  refine ab_iconst dX12_init_13 kic_5 ?_
  refine ab_newa (a := .int) 0 5 tb_129 (by simp) (by decide) (by decide +kernel) (by decide) dX12_init_14 (by omega) (by omega) ?_
  refine ab_nmh hf (fun h3 hf => ?_)
  refine f_putF fp_X12_13 rfl (abFit_a _ _) dX12_init_16 hf (fun h4 hf => ?_)
  refine ab_aload_n 0 dX12_init_19 rfl rfl ?_
  refine ab_iconst dX12_init_20 kic_5 ?_
  refine ab_newa (a := .int) 0 5 tb_129 (by simp) (by decide) (by decide +kernel) (by decide) dX12_init_21 (by omega) (by omega) ?_
  refine ab_nmh hf (fun h5 hf => ?_)
  refine f_putF fp_X12_16 rfl (abFit_a _ _) dX12_init_23 hf (fun h6 hf => ?_)
  refine ab_aload_n 0 dX12_init_26 rfl rfl ?_
  refine ab_iconst dX12_init_27 kic_5 ?_
  refine ab_newa (a := .int) 0 5 tb_129 (by simp) (by decide) (by decide +kernel) (by decide) dX12_init_28 (by omega) (by omega) ?_
  refine ab_nmh hf (fun h7 hf => ?_)
  refine f_putF fp_X12_19 rfl (abFit_a _ _) dX12_init_30 hf (fun h8 hf => ?_)
  refine ab_aload_n 0 dX12_init_33 rfl rfl ?_
  refine ab_iconst dX12_init_34 kic_5 ?_
  refine ab_newa (a := .int) 0 5 tb_129 (by simp) (by decide) (by decide +kernel) (by decide) dX12_init_35 (by omega) (by omega) ?_
  refine ab_nmh hf (fun h9 hf => ?_)
  refine f_putF fp_X12_22 rfl (abFit_a _ _) dX12_init_37 hf (fun h10 hf => ?_)
  refine ab_aload_n 0 dX12_init_40 rfl rfl ?_
  refine ab_iconst dX12_init_41 kic_5 ?_
  refine ab_newa (a := .int) 0 5 tb_129 (by simp) (by decide) (by decide +kernel) (by decide) dX12_init_42 (by omega) (by omega) ?_
  refine ab_nmh hf (fun h11 hf => ?_)
  refine f_putF fp_X12_25 rfl (abFit_a _ _) dX12_init_44 hf (fun h12 hf => ?_)
  refine ab_aload_n 0 dX12_init_47 rfl rfl ?_
  refine ab_bipush dX12_init_48 kbp_8 ?_
  refine ab_newa (a := .int) 0 8 tb_129 (by simp) (by decide) (by decide +kernel) (by decide) dX12_init_50 (by omega) (by omega) ?_
  refine ab_nmh hf (fun h13 hf => ?_)
  refine f_putF fp_X12_28 rfl (abFit_a _ _) dX12_init_52 hf (fun h14 hf => ?_)
  refine ab_aload_n 0 dX12_init_55 rfl rfl ?_
  refine ab_bipush dX12_init_56 kbp_8 ?_
  refine ab_newa (a := .int) 0 8 tb_129 (by simp) (by decide) (by decide +kernel) (by decide) dX12_init_58 (by omega) (by omega) ?_
  refine ab_nmh hf (fun h15 hf => ?_)
  refine f_putF fp_X12_31 rfl (abFit_a _ _) dX12_init_60 hf (fun h16 hf => ?_)
  refine ab_aload_n 0 dX12_init_63 rfl rfl ?_
  refine ab_bipush dX12_init_64 kbp_8 ?_
  refine ab_newa (a := .int) 0 8 tb_129 (by simp) (by decide) (by decide +kernel) (by decide) dX12_init_66 (by omega) (by omega) ?_
  refine ab_nmh hf (fun h17 hf => ?_)
  refine f_putF fp_X12_34 rfl (abFit_a _ _) dX12_init_68 hf (fun h18 hf => ?_)
  refine ab_aload_n 0 dX12_init_71 rfl rfl ?_
  refine ab_bipush dX12_init_72 kbp_8 ?_
  refine ab_newa (a := .int) 0 8 tb_129 (by simp) (by decide) (by decide +kernel) (by decide) dX12_init_74 (by omega) (by omega) ?_
  refine ab_nmh hf (fun h19 hf => ?_)
  refine f_putF fp_X12_37 rfl (abFit_a _ _) dX12_init_76 hf (fun h20 hf => ?_)
  refine ab_aload_n 0 dX12_init_79 rfl rfl ?_
  refine ab_bipush dX12_init_80 kbp_34 ?_
  refine ab_newa (a := .byte) 2 34 tb_346 (by simp) (by decide) (by decide +kernel) (by decide) dX12_init_82 (by omega) (by omega) ?_
  refine ab_nmh hf (fun h21 hf => ?_)
  refine f_putF fp_X12_40 rfl (abFit_a _ _) dX12_init_84 hf (fun h22 hf => ?_)
  refine ab_aload_n 0 dX12_init_87 rfl rfl ?_
  refine ab_bipush dX12_init_88 kbp_100 ?_
  refine ab_newa (a := .int) 0 100 tb_129 (by simp) (by decide) (by decide +kernel) (by decide) dX12_init_90 (by omega) (by omega) ?_
  refine ab_nmh hf (fun h23 hf => ?_)
  refine f_putF fp_X12_44 rfl (abFit_a _ _) dX12_init_92 hf (fun h24 hf => ?_)
  refine ab_aload_n 0 dX12_init_95 rfl rfl ?_
  refine ab_bipush dX12_init_96 kbp_100 ?_
  refine ab_newa (a := .int) 0 100 tb_129 (by simp) (by decide) (by decide +kernel) (by decide) dX12_init_98 (by omega) (by omega) ?_
  refine ab_nmh hf (fun h25 hf => ?_)
  refine f_putF fp_X12_47 rfl (abFit_a _ _) dX12_init_100 hf (fun h26 hf => ?_)
  refine ab_aload_n 0 dX12_init_103 rfl rfl ?_
  refine ab_iconst dX12_init_104 kic_5 ?_
  refine ab_newa (a := .int) 0 5 tb_129 (by simp) (by decide) (by decide +kernel) (by decide) dX12_init_105 (by omega) (by omega) ?_
  refine ab_nmh hf (fun h27 hf => ?_)
  refine f_putF fp_X12_50 rfl (abFit_a _ _) dX12_init_107 hf (fun h28 hf => ?_)
  refine ab_aload_n 0 dX12_init_110 rfl rfl ?_
  refine ab_iconst dX12_init_111 kic_5 ?_
  refine ab_newa (a := .int) 0 5 tb_129 (by simp) (by decide) (by decide +kernel) (by decide) dX12_init_112 (by omega) (by omega) ?_
  refine ab_nmh hf (fun h29 hf => ?_)
  refine f_putF fp_X12_53 rfl (abFit_a _ _) dX12_init_114 hf (fun h30 hf => ?_)
  refine ab_aload_n 0 dX12_init_117 rfl rfl ?_
  refine ab_bipush dX12_init_118 kbp_10 ?_
  refine ab_newa (a := .int) 0 10 tb_129 (by simp) (by decide) (by decide +kernel) (by decide) dX12_init_120 (by omega) (by omega) ?_
  refine ab_nmh hf (fun h31 hf => ?_)
  refine f_putF fp_X12_56 rfl (abFit_a _ _) dX12_init_122 hf (fun h32 hf => ?_)
  refine ab_aload_n 0 dX12_init_125 rfl rfl ?_
  refine ab_iconst dX12_init_126 kic_5 ?_
  refine ab_newa (a := .int) 0 5 tb_129 (by simp) (by decide) (by decide +kernel) (by decide) dX12_init_127 (by omega) (by omega) ?_
  refine ab_nmh hf (fun h33 hf => ?_)
  refine f_putF fp_X12_59 rfl (abFit_a _ _) dX12_init_129 hf (fun h34 hf => ?_)
  refine ab_aload_n 0 dX12_init_132 rfl rfl ?_
  refine ab_iconst dX12_init_133 kic_5 ?_
  refine ab_newa (a := .int) 0 5 tb_129 (by simp) (by decide) (by decide +kernel) (by decide) dX12_init_134 (by omega) (by omega) ?_
  refine ab_nmh hf (fun h35 hf => ?_)
  refine f_putF fp_X12_62 rfl (abFit_a _ _) dX12_init_136 hf (fun h36 hf => ?_)
  refine ab_aload_n 0 dX12_init_139 rfl rfl ?_
  refine ab_iconst dX12_init_140 kic_5 ?_
  refine ab_newa (a := .int) 0 5 tb_129 (by simp) (by decide) (by decide +kernel) (by decide) dX12_init_141 (by omega) (by omega) ?_
  refine ab_nmh hf (fun h37 hf => ?_)
  refine f_putF fp_X12_65 rfl (abFit_a _ _) dX12_init_143 hf (fun h38 hf => ?_)
  refine ab_aload_n 0 dX12_init_146 rfl rfl ?_
  refine ab_iconst dX12_init_147 kic_5 ?_
  refine ab_newa (a := .int) 0 5 tb_129 (by simp) (by decide) (by decide +kernel) (by decide) dX12_init_148 (by omega) (by omega) ?_
  refine ab_nmh hf (fun h39 hf => ?_)
  refine f_putF fp_X12_68 rfl (abFit_a _ _) dX12_init_150 hf (fun h40 hf => ?_)
  refine ab_aload_n 0 dX12_init_153 rfl rfl ?_
  refine ab_bipush dX12_init_154 kbp_8 ?_
  refine ab_newa (a := .int) 0 8 tb_129 (by simp) (by decide) (by decide +kernel) (by decide) dX12_init_156 (by omega) (by omega) ?_
  refine ab_nmh hf (fun h41 hf => ?_)
  refine f_putF fp_X12_71 rfl (abFit_a _ _) dX12_init_158 hf (fun h42 hf => ?_)
  refine ab_aload_n 0 dX12_init_161 rfl rfl ?_
  refine ab_bipush dX12_init_162 kbp_8 ?_
  refine ab_newa (a := .int) 0 8 tb_129 (by simp) (by decide) (by decide +kernel) (by decide) dX12_init_164 (by omega) (by omega) ?_
  refine ab_nmh hf (fun h43 hf => ?_)
  refine f_putF fp_X12_74 rfl (abFit_a _ _) dX12_init_166 hf (fun h44 hf => ?_)
  refine ab_aload_n 0 dX12_init_169 rfl rfl ?_
  refine ab_bipush dX12_init_170 kbp_8 ?_
  refine ab_newa (a := .int) 0 8 tb_129 (by simp) (by decide) (by decide +kernel) (by decide) dX12_init_172 (by omega) (by omega) ?_
  refine ab_nmh hf (fun h45 hf => ?_)
  refine f_putF fp_X12_77 rfl (abFit_a _ _) dX12_init_174 hf (fun h46 hf => ?_)
  refine ab_aload_n 0 dX12_init_177 rfl rfl ?_
  refine ab_bipush dX12_init_178 kbp_8 ?_
  refine ab_newa (a := .int) 0 8 tb_129 (by simp) (by decide) (by decide +kernel) (by decide) dX12_init_180 (by omega) (by omega) ?_
  refine ab_nmh hf (fun h47 hf => ?_)
  refine f_putF fp_X12_80 rfl (abFit_a _ _) dX12_init_182 hf (fun h48 hf => ?_)
  exact f_retv2 dX12_init_185 rfl (by omega) (by omega) hf
def F_X12_within (a0 : Int32) (a1 : Int32) (a2 : Int32) : Option Int32 :=
  if a0 < a1 then
    some 0
  else
    if a0 ≤ a2 then
      some 1
    else
      some 0
theorem m_X12_within {z0 : Int32} (a0 : Int32) (a1 : Int32) (a2 : Int32) (h : abH) (hf : F_X12_within a0 a1 a2 = some z0) : abM yX12_within cX12_within 3 (some .boolean) 1 0 0 [.int a0, .int a1, .int a2] h (some (.int z0)) h := by
  refine abM_of (ini := false) [some (.int a0), some (.int a1), some (.int a2)] (by decide +kernel) (fun q => by first | rfl | cases q) (Nat.le_of_ble_eq_true rfl) rfl ?_
  unfold F_X12_within at hf
  refine ab_iload_n 0 dX12_within_0 rfl rfl ?_
  refine ab_iload_n 1 dX12_within_1 rfl rfl ?_
  refine ab_icmp_lt 14 dX12_within_2 (by decide) hf (fun hf => ?_) (fun hf => ?_)
  · refine ab_iconst dX12_within_14 kic_0 ?_
    exact f_retzc rfl dX12_within_15 rfl (Nat.le_refl 0) (Nat.le_refl 0) hf
  refine ab_iload_n 0 dX12_within_5 rfl rfl ?_
  refine ab_iload_n 2 dX12_within_6 rfl rfl ?_
  refine ab_icmp_gt 14 dX12_within_7 (by decide) hf (fun hf => ?_) (fun hf => ?_)
  · refine ab_iconst dX12_within_10 kic_1 ?_
    refine ab_goto 15 dX12_within_11 (by decide) ?_
    exact f_retzc rfl dX12_within_15 rfl (Nat.le_refl 0) (Nat.le_refl 0) hf
  refine ab_iconst dX12_within_14 kic_0 ?_
  exact f_retzc rfl dX12_within_15 rfl (Nat.le_refl 0) (Nat.le_refl 0) hf
def F_X12_letter (a0 : Nat) (a1 : Int32) (h : abH) : Option (Int32 × abH) :=
  (F_X12_within a1 32 126).bind fun v1 =>
  if v1 = 0 then
    some ((-102), h)
  else
    (gI 12 h a0 16).bind fun v2 =>
    if v2 = 34 then
      some ((-104), h)
    else
      (gR 12 h a0 17).bind fun v3 =>
      (gI 12 h a0 16).bind fun v4 =>
      (sa 2 h v3 v4 a1.toInt8.toInt32).bind fun h5 =>
      (gI 12 h5 a0 16).bind fun v6 =>
      (sV 12 h5 a0 16 (.int (v6 + 1))).bind fun h7 =>
      (gI 12 h7 a0 16).bind fun v8 =>
      some (v8, h7)
theorem m_X12_letter {z0 : Int32} {hz : abH} (a0 : Nat) (a1 : Int32) (h : abH) (hf : F_X12_letter a0 a1 h = some (z0, hz)) : abM yX12_letter cX12_letter 2 (some .int) 2 0 0 [.ref a0, .int a1] h (some (.int z0)) hz := by
  refine abM_of (ini := false) [some (.ref a0), some (.int a1)] (by decide +kernel) (fun q => by first | rfl | cases q) (Nat.le_of_ble_eq_true rfl) rfl ?_
  unfold F_X12_letter at hf
  refine ab_iload_n 1 dX12_letter_0 rfl rfl ?_
  refine ab_bipush dX12_letter_1 kbp_32 ?_
  refine ab_bipush dX12_letter_3 kbp_126 ?_
  refine f_S_i (As := [.int a1, .int 32, .int 126]) (st := []) cs_X12_83 (fun v q => m_X12_within a1 32 126 h q) rfl rfl dX12_letter_5 (rmk rfl) hf (fun v1 hf => ?_)
  refine ab_if_ne 14 dX12_letter_8 (by decide) hf (fun hf => ?_) (fun hf => ?_)
  · refine ab_bipush dX12_letter_11 kbp_m102 ?_
    exact f_reti2 dX12_letter_13 rfl (Nat.le_refl 0) (Nat.le_refl 0) hf
  refine ab_aload_n 0 dX12_letter_14 rfl rfl ?_
  refine f_getI fs_X12_87 dX12_letter_15 hf (fun v2 hf => ?_)
  refine ab_bipush dX12_letter_18 kbp_34 ?_
  refine ab_icmp_ne 26 dX12_letter_20 (by decide) hf (fun hf => ?_) (fun hf => ?_)
  · refine ab_bipush dX12_letter_23 kbp_m104 ?_
    exact f_reti2 dX12_letter_25 rfl (Nat.le_refl 0) (Nat.le_refl 0) hf
  refine ab_aload_n 0 dX12_letter_26 rfl rfl ?_
  refine f_getR fs_X12_40 dX12_letter_27 hf (fun v3 hf => ?_)
  refine ab_aload_n 0 dX12_letter_30 rfl rfl ?_
  refine f_getI fs_X12_87 dX12_letter_31 hf (fun v4 hf => ?_)
  refine ab_iload_n 1 dX12_letter_34 rfl rfl ?_
  refine ab_i2b dX12_letter_35 ?_
  refine f_bast dX12_letter_36 hf (fun h5 hf => ?_)
  refine ab_aload_n 0 dX12_letter_37 rfl rfl ?_
  refine ab_dup dX12_letter_38 rfl ?_
  refine f_getI fs_X12_87 dX12_letter_39 hf (fun v6 hf => ?_)
  refine ab_iconst dX12_letter_42 kic_1 ?_
  refine ab_iadd dX12_letter_43 ?_
  refine f_put fp_X12_87 (abFit_i _) dX12_letter_44 hf (fun h7 hf => ?_)
  refine ab_aload_n 0 dX12_letter_47 rfl rfl ?_
  refine f_getI fs_X12_87 dX12_letter_48 hf (fun v8 hf => ?_)
  exact f_reti2 dX12_letter_51 rfl (Nat.le_refl 0) (Nat.le_refl 0) hf
def F_X12_blank (a0 : Nat) (h : abH) : Option (Int32 × abH) :=
  (gI 12 h a0 16).bind fun v1 =>
  (sV 12 h a0 16 (.int 0)).bind fun h2 =>
  some (v1, h2)
theorem m_X12_blank {z0 : Int32} {hz : abH} (a0 : Nat) (h : abH) (hf : F_X12_blank a0 h = some (z0, hz)) : abM yX12_blank cX12_blank 2 (some .int) 1 0 0 [.ref a0] h (some (.int z0)) hz := by
  refine abM_of (ini := false) [some (.ref a0), none] (by decide +kernel) (fun q => by first | rfl | cases q) (Nat.le_of_ble_eq_true rfl) rfl ?_
  unfold F_X12_blank at hf
  refine ab_aload_n 0 dX12_blank_0 rfl rfl ?_
  refine f_getI fs_X12_87 dX12_blank_1 hf (fun v1 hf => ?_)
  refine ab_istore_n 1 [some (.ref a0), some (.int v1)] dX12_blank_4 rfl (by decide) rfl rfl ?_
  refine ab_aload_n 0 dX12_blank_5 rfl rfl ?_
  refine ab_iconst dX12_blank_6 kic_0 ?_
  refine f_put fp_X12_87 (abFit_i _) dX12_blank_7 hf (fun h2 hf => ?_)
  refine ab_iload_n 1 dX12_blank_10 rfl rfl ?_
  exact f_reti2 dX12_blank_11 rfl (Nat.le_refl 0) (Nat.le_refl 0) hf
def F_X12_at (a0 : Nat) (a1 : Int32) (h : abH) : Option Int32 :=
  (gI 12 h a0 16).bind fun v1 =>
  if a1 < v1 then
    (gR 12 h a0 17).bind fun v2 =>
    (ga 2 h v2 a1).bind fun v3 =>
    some v3
  else
    some 0
theorem m_X12_at {z0 : Int32} (a0 : Nat) (a1 : Int32) (h : abH) (hf : F_X12_at a0 a1 h = some z0) : abM yX12_at cX12_at 2 (some .int) 1 0 0 [.ref a0, .int a1] h (some (.int z0)) h := by
  refine abM_of (ini := false) [some (.ref a0), some (.int a1)] (by decide +kernel) (fun q => by first | rfl | cases q) (Nat.le_of_ble_eq_true rfl) rfl ?_
  unfold F_X12_at at hf
  refine ab_iload_n 1 dX12_at_0 rfl rfl ?_
  refine ab_aload_n 0 dX12_at_1 rfl rfl ?_
  refine f_getI fs_X12_87 dX12_at_2 hf (fun v1 hf => ?_)
  refine ab_icmp_ge 17 dX12_at_5 (by decide) hf (fun hf => ?_) (fun hf => ?_)
  · refine ab_aload_n 0 dX12_at_8 rfl rfl ?_
    refine f_getR fs_X12_40 dX12_at_9 hf (fun v2 hf => ?_)
    refine ab_iload_n 1 dX12_at_12 rfl rfl ?_
    refine f_bald dX12_at_13 hf (fun v3 hf => ?_)
    refine ab_goto 18 dX12_at_14 (by decide) ?_
    exact f_reti dX12_at_18 rfl (Nat.le_refl 0) (Nat.le_refl 0) hf
  refine ab_iconst dX12_at_17 kic_0 ?_
  exact f_reti dX12_at_18 rfl (Nat.le_refl 0) (Nat.le_refl 0) hf
def F_X12_isFigure (a0 : Nat) (a1 : Int32) (a2 : Int32) (h : abH) : Option Int32 :=
  (ko 12 h a0).bind fun _ => (F_X12_at a0 a1 h).bind fun v1 =>
  (F_X12_within (v1 - 48) a2 9).bind fun v2 =>
  rz v2
theorem m_X12_isFigure {z0 : Int32} (a0 : Nat) (a1 : Int32) (a2 : Int32) (h : abH) (hf : F_X12_isFigure a0 a1 a2 h = some z0) : abM yX12_isFigure cX12_isFigure 3 (some .boolean) 2 0 0 [.ref a0, .int a1, .int a2] h (some (.int z0)) h := by
  refine abM_of (ini := false) [some (.ref a0), some (.int a1), some (.int a2)] (by decide +kernel) (fun q => by first | rfl | cases q) (Nat.le_of_ble_eq_true rfl) rfl ?_
  unfold F_X12_isFigure at hf
  refine ab_aload_n 0 dX12_isFigure_0 rfl rfl ?_
  refine ab_iload_n 1 dX12_isFigure_1 rfl rfl ?_
  refine f_V_i (As := [.int a1]) (st := []) cs_X12_91 (fun v q => m_X12_at a0 a1 h q) rfl rfl dX12_isFigure_2 (rmk rfl) hf (fun v1 hf => ?_)
  refine ab_bipush dX12_isFigure_5 kbp_48 ?_
  refine ab_isub dX12_isFigure_7 ?_
  refine ab_iload_n 2 dX12_isFigure_8 rfl rfl ?_
  refine ab_bipush dX12_isFigure_9 kbp_9 ?_
  refine f_S_i (As := [.int (v1 - 48), .int a2, .int 9]) (st := []) cs_X12_83 (fun v q => m_X12_within (v1 - 48) a2 9 h q) rfl rfl dX12_isFigure_11 (rmk rfl) hf (fun v2 hf => ?_)
  exact f_retz dX12_isFigure_14 rfl (Nat.le_refl 0) (Nat.le_refl 0) hf
def F_X12_kindBy (a0 : Int32) : Option Int32 :=
  if a0 = 99 then
    some 3
  else
  if a0 = 104 then
    some 1
  else
  if a0 = 112 then
    some 0
  else
  if a0 = 116 then
    some 2
  else
  if a0 = 117 then
    some 4
  else
    some (-1)
theorem m_X12_kindBy {z0 : Int32} (a0 : Int32) (h : abH) (hf : F_X12_kindBy a0 = some z0) : abM yX12_kindBy cX12_kindBy 1 (some .int) 1 0 0 [.int a0] h (some (.int z0)) h := by
  refine abM_of (ini := false) [some (.int a0)] (by decide +kernel) (fun q => by first | rfl | cases q) (Nat.le_of_ble_eq_true rfl) rfl ?_
  unfold F_X12_kindBy at hf
  refine ab_iload_n 0 dX12_kindBy_0 rfl rfl ?_
  refine f_lks 99 57 58 dX12_kindBy_1 (by decide +kernel) (by decide +kernel) (by decide) hf (fun hf => ?_) (fun q0 hf => ?_)
  · refine ab_iconst dX12_kindBy_58 kic_3 ?_
    exact f_reti dX12_kindBy_59 rfl (Nat.le_refl 0) (Nat.le_refl 0) hf
  refine f_lks 104 53 54 dX12_kindBy_1 (by decide +kernel) (by decide +kernel) (by decide) hf (fun hf => ?_) (fun q1 hf => ?_)
  · refine ab_iconst dX12_kindBy_54 kic_1 ?_
    exact f_reti dX12_kindBy_55 rfl (Nat.le_refl 0) (Nat.le_refl 0) hf
  refine f_lks 112 51 52 dX12_kindBy_1 (by decide +kernel) (by decide +kernel) (by decide) hf (fun hf => ?_) (fun q2 hf => ?_)
  · refine ab_iconst dX12_kindBy_52 kic_0 ?_
    exact f_reti dX12_kindBy_53 rfl (Nat.le_refl 0) (Nat.le_refl 0) hf
  refine f_lks 116 55 56 dX12_kindBy_1 (by decide +kernel) (by decide +kernel) (by decide) hf (fun hf => ?_) (fun q3 hf => ?_)
  · refine ab_iconst dX12_kindBy_56 kic_2 ?_
    exact f_reti dX12_kindBy_57 rfl (Nat.le_refl 0) (Nat.le_refl 0) hf
  refine f_lks 117 59 60 dX12_kindBy_1 (by decide +kernel) (by decide +kernel) (by decide) hf (fun hf => ?_) (fun q4 hf => ?_)
  · refine ab_iconst dX12_kindBy_60 kic_4 ?_
    exact f_reti dX12_kindBy_61 rfl (Nat.le_refl 0) (Nat.le_refl 0) hf
  refine ab_lookup (off := 61) 62 dX12_kindBy_1 (by decide +kernel) (by rw [lv_osw q0 (by decide +kernel), lv_osw q1 (by decide +kernel), lv_osw q2 (by decide +kernel), lv_osw q3 (by decide +kernel), lv_osw q4 (by decide +kernel)]; rfl) (by decide) ?_
  refine ab_iconst dX12_kindBy_62 kic_m1 ?_
  exact f_reti dX12_kindBy_63 rfl (Nat.le_refl 0) (Nat.le_refl 0) hf
def F_X12_readParty (a0 : Nat) (a1 : Int32) (h : abH) : Option Int32 :=
  (ko 12 h a0).bind fun _ => (F_X12_at a0 a1 h).bind fun v1 =>
  (F_X12_kindBy v1).bind fun v2 =>
  if v2 = (-1) then
    some a1
  else
    (ko 12 h a0).bind fun _ => (F_X12_isFigure a0 (a1 + 1) 1 h).bind fun v3 =>
    if v3 = 0 then
      some (a1 + 1)
    else
      (ko 12 h a0).bind fun _ => (F_X12_isFigure a0 (a1 + 2) 0 h).bind fun v4 =>
      if v4 = 0 then
        some (a1 + 2)
      else
        some (a1 + 3)
theorem m_X12_readParty {z0 : Int32} (a0 : Nat) (a1 : Int32) (h : abH) (hf : F_X12_readParty a0 a1 h = some z0) : abM yX12_readParty cX12_readParty 2 (some .int) 3 0 0 [.ref a0, .int a1] h (some (.int z0)) h := by
  refine abM_of (ini := false) [some (.ref a0), some (.int a1)] (by decide +kernel) (fun q => by first | rfl | cases q) (Nat.le_of_ble_eq_true rfl) rfl ?_
  unfold F_X12_readParty at hf
  refine ab_aload_n 0 dX12_readParty_0 rfl rfl ?_
  refine ab_iload_n 1 dX12_readParty_1 rfl rfl ?_
  refine f_V_i (As := [.int a1]) (st := []) cs_X12_91 (fun v q => m_X12_at a0 a1 h q) rfl rfl dX12_readParty_2 (rmk rfl) hf (fun v1 hf => ?_)
  refine f_S_i (As := [.int v1]) (st := []) cs_X12_95 (fun v q => m_X12_kindBy v1 h q) rfl rfl dX12_readParty_5 (rmk rfl) hf (fun v2 hf => ?_)
  refine ab_iconst dX12_readParty_8 kic_m1 ?_
  refine ab_icmp_ne 14 dX12_readParty_9 (by decide) hf (fun hf => ?_) (fun hf => ?_)
  · refine ab_iload_n 1 dX12_readParty_12 rfl rfl ?_
    exact f_reti dX12_readParty_13 rfl (Nat.le_refl 0) (Nat.le_refl 0) hf
  refine ab_aload_n 0 dX12_readParty_14 rfl rfl ?_
  refine ab_iload_n 1 dX12_readParty_15 rfl rfl ?_
  refine ab_iconst dX12_readParty_16 kic_1 ?_
  refine ab_iadd dX12_readParty_17 ?_
  refine ab_iconst dX12_readParty_18 kic_1 ?_
  refine f_V_i (As := [.int (a1 + 1), .int 1]) (st := []) cs_X12_98 (fun v q => m_X12_isFigure a0 (a1 + 1) 1 h q) rfl rfl dX12_readParty_19 (rmk rfl) hf (fun v3 hf => ?_)
  refine ab_if_ne 31 dX12_readParty_22 (by decide) hf (fun hf => ?_) (fun hf => ?_)
  · refine ab_iload_n 1 dX12_readParty_25 rfl rfl ?_
    refine ab_iconst dX12_readParty_26 kic_1 ?_
    refine ab_iadd dX12_readParty_27 ?_
    refine ab_goto 51 dX12_readParty_28 (by decide) ?_
    exact f_reti dX12_readParty_51 rfl (Nat.le_refl 0) (Nat.le_refl 0) hf
  refine ab_aload_n 0 dX12_readParty_31 rfl rfl ?_
  refine ab_iload_n 1 dX12_readParty_32 rfl rfl ?_
  refine ab_iconst dX12_readParty_33 kic_2 ?_
  refine ab_iadd dX12_readParty_34 ?_
  refine ab_iconst dX12_readParty_35 kic_0 ?_
  refine f_V_i (As := [.int (a1 + 2), .int 0]) (st := []) cs_X12_98 (fun v q => m_X12_isFigure a0 (a1 + 2) 0 h q) rfl rfl dX12_readParty_36 (rmk rfl) hf (fun v4 hf => ?_)
  refine ab_if_ne 48 dX12_readParty_39 (by decide) hf (fun hf => ?_) (fun hf => ?_)
  · refine ab_iload_n 1 dX12_readParty_42 rfl rfl ?_
    refine ab_iconst dX12_readParty_43 kic_2 ?_
    refine ab_iadd dX12_readParty_44 ?_
    refine ab_goto 51 dX12_readParty_45 (by decide) ?_
    exact f_reti dX12_readParty_51 rfl (Nat.le_refl 0) (Nat.le_refl 0) hf
  refine ab_iload_n 1 dX12_readParty_48 rfl rfl ?_
  refine ab_iconst dX12_readParty_49 kic_3 ?_
  refine ab_iadd dX12_readParty_50 ?_
  exact f_reti dX12_readParty_51 rfl (Nat.le_refl 0) (Nat.le_refl 0) hf
def F_X12_read_B107 (x0 : Nat) (x1 : Int32) (y0 : Nat) (y1 : Int32) (h : abH) (k50 : Int32 → abH → Option (Int32 × abH)) : Option (Int32 × abH) :=
  (rz y1).bind fun rr => (sV 12 h y0 18 (.int rr)).bind fun h9 =>
  (gI 12 h9 x0 19).bind fun v10 =>
  if v10 = 5 then
    some (x1, h9)
  else
    (ko 12 h9 x0).bind fun _ => (F_X12_at x0 x1 h9).bind fun v11 =>
    if v11 = 44 then
      k50 (x1 + 1) h9
    else
      some (x1, h9)
theorem w_X12_read_B107 {z0 : Int32} {hz : abH} (x0 : Nat) (x1 : Int32) (y0 : Nat) (y1 : Int32) (h : abH) (k50 : Int32 → abH → Option (Int32 × abH)) (hk50 : ∀ (w1 : Int32) (hw : abH), k50 w1 hw = some (z0, hz) → abW cX12_read 3 RX12 (some .int) false 4 0 0 none (some (.int z0), hz) 50 [some (.ref x0), some (.int w1), none] [] hw 0 0) (hf : F_X12_read_B107 x0 x1 y0 y1 h k50 = some (z0, hz)) : abW cX12_read 3 RX12 (some .int) false 4 0 0 none (some (.int z0), hz) 107 [some (.ref x0), some (.int x1), none] [.int y1, .ref y0] h 0 0 := by
  unfold F_X12_read_B107 at hf
  refine f_putz fp_X12_102 dX12_read_107 hf (fun h9 hf => ?_)
  refine ab_aload_n 0 dX12_read_110 rfl rfl ?_
  refine f_getI fs_X12_106 dX12_read_111 hf (fun v10 hf => ?_)
  refine ab_iconst dX12_read_114 kic_5 ?_
  refine ab_icmp_eq 128 dX12_read_115 (by decide) hf (fun hf => ?_) (fun hf => ?_)
  · refine ab_iload_n 1 dX12_read_128 rfl rfl ?_
    exact f_reti2 dX12_read_129 rfl (Nat.le_refl 0) (Nat.le_refl 0) hf
  refine ab_aload_n 0 dX12_read_118 rfl rfl ?_
  refine ab_iload_n 1 dX12_read_119 rfl rfl ?_
  refine f_V_i (As := [.int x1]) (st := []) cs_X12_91 (fun v q => m_X12_at x0 x1 h9 q) rfl rfl dX12_read_120 (rmk rfl) hf (fun v11 hf => ?_)
  refine ab_bipush dX12_read_123 kbp_44 ?_
  refine ab_icmp_eq 130 dX12_read_125 (by decide) hf (fun hf => ?_) (fun hf => ?_)
  · refine ab_iinc (v := x1 + 1) [some (.ref x0), some (.int (x1 + 1)), none] dX12_read_130 rfl (kinc_1 _) (by decide) rfl rfl ?_
    refine ab_goto 50 dX12_read_133 (by decide) ?_
    exact ab_msk [true, true, true] (hk50 (x1 + 1) h9 hf)
  refine ab_iload_n 1 dX12_read_128 rfl rfl ?_
  exact f_reti2 dX12_read_129 rfl (Nat.le_refl 0) (Nat.le_refl 0) hf
def F_X12_read_B50 (x0 : Nat) : Nat → Int32 → abH → Option (Int32 × abH)
  | 0, _, _ => none
  | n + 1, x1, h =>
    (gI 12 h x0 19).bind fun v4 =>
    if v4 < 5 then
      (ko 12 h x0).bind fun _ => (F_X12_readParty x0 x1 h).bind fun v5 =>
      if v5 = (x1 + 3) then
        (gI 12 h x0 19).bind fun v6 =>
        (sV 12 h x0 19 (.int (v6 + 1))).bind fun h7 =>
        (gI 12 h7 x0 16).bind fun v8 =>
        if v5 = v8 then
          (gI 12 h7 x0 19).bind fun v12 =>
          if v12 ≤ 1 then
            F_X12_read_B107 x0 v5 x0 0 h7 (fun u1 hu => F_X12_read_B50 x0 n u1 hu)
          else
            F_X12_read_B107 x0 v5 x0 1 h7 (fun u1 hu => F_X12_read_B50 x0 n u1 hu)
        else
          F_X12_read_B107 x0 v5 x0 0 h7 (fun u1 hu => F_X12_read_B50 x0 n u1 hu)
      else
        some (v5, h)
    else
      some (x1, h)
theorem w_X12_read_B50 {z0 : Int32} {hz : abH} (x0 : Nat)   : ∀ (n : Nat) (x1 : Int32) (h : abH), F_X12_read_B50 x0 n x1 h = some (z0, hz) → abW cX12_read 3 RX12 (some .int) false 4 0 0 none (some (.int z0), hz) 50 [some (.ref x0), some (.int x1), none] [] h 0 0 := by
  intro n
  induction n with
  | zero =>
    intro x1 h hf
    exact absurd (show (none : Option (Int32 × abH)) = some _ from hf) (by simp)
  | succ n ih =>
    intro x1 h hf
    rw [F_X12_read_B50.eq_2] at hf
    refine ab_aload_n 0 dX12_read_50 rfl rfl ?_
    refine f_getI fs_X12_106 dX12_read_51 hf (fun v4 hf => ?_)
    refine ab_iconst dX12_read_54 kic_5 ?_
    refine ab_icmp_ge 136 dX12_read_55 (by decide) hf (fun hf => ?_) (fun hf => ?_)
    · refine ab_aload_n 0 dX12_read_58 rfl rfl ?_
      refine ab_iload_n 1 dX12_read_59 rfl rfl ?_
      refine f_V_i (As := [.int x1]) (st := []) cs_X12_109 (fun v q => m_X12_readParty x0 x1 h q) rfl rfl dX12_read_60 (rmk rfl) hf (fun v5 hf => ?_)
      refine ab_istore_n 2 [some (.ref x0), some (.int x1), some (.int v5)] dX12_read_63 rfl (by decide) rfl rfl ?_
      refine ab_iload_n 2 dX12_read_64 rfl rfl ?_
      refine ab_iload_n 1 dX12_read_65 rfl rfl ?_
      refine ab_iconst dX12_read_66 kic_3 ?_
      refine ab_iadd dX12_read_67 ?_
      refine ab_icmp_eq 73 dX12_read_68 (by decide) hf (fun hf => ?_) (fun hf => ?_)
      · refine ab_aload_n 0 dX12_read_73 rfl rfl ?_
        refine ab_dup dX12_read_74 rfl ?_
        refine f_getI fs_X12_106 dX12_read_75 hf (fun v6 hf => ?_)
        refine ab_iconst dX12_read_78 kic_1 ?_
        refine ab_iadd dX12_read_79 ?_
        refine f_put fp_X12_106 (abFit_i _) dX12_read_80 hf (fun h7 hf => ?_)
        refine ab_iload_n 2 dX12_read_83 rfl rfl ?_
        refine ab_istore_n 1 [some (.ref x0), some (.int v5), some (.int v5)] dX12_read_84 rfl (by decide) rfl rfl ?_
        refine ab_aload_n 0 dX12_read_85 rfl rfl ?_
        refine ab_iload_n 1 dX12_read_86 rfl rfl ?_
        refine ab_aload_n 0 dX12_read_87 rfl rfl ?_
        refine f_getI fs_X12_87 dX12_read_88 hf (fun v8 hf => ?_)
        refine ab_icmp_ne 106 dX12_read_91 (by decide) hf (fun hf => ?_) (fun hf => ?_)
        · refine ab_aload_n 0 dX12_read_94 rfl rfl ?_
          refine f_getI fs_X12_106 dX12_read_95 hf (fun v12 hf => ?_)
          refine ab_iconst dX12_read_98 kic_1 ?_
          refine ab_icmp_le 106 dX12_read_99 (by decide) hf (fun hf => ?_) (fun hf => ?_)
          · refine ab_iconst dX12_read_106 kic_0 ?_
            exact ab_msk [true, true, false] (w_X12_read_B107 x0 v5 x0 0 h7 (fun u1 hu => F_X12_read_B50 x0 n u1 hu) (fun u1 hu hf => ih u1 hu hf) hf)
          refine ab_iconst dX12_read_102 kic_1 ?_
          refine ab_goto 107 dX12_read_103 (by decide) ?_
          exact ab_msk [true, true, false] (w_X12_read_B107 x0 v5 x0 1 h7 (fun u1 hu => F_X12_read_B50 x0 n u1 hu) (fun u1 hu hf => ih u1 hu hf) hf)
        refine ab_iconst dX12_read_106 kic_0 ?_
        exact ab_msk [true, true, false] (w_X12_read_B107 x0 v5 x0 0 h7 (fun u1 hu => F_X12_read_B50 x0 n u1 hu) (fun u1 hu hf => ih u1 hu hf) hf)
      refine ab_iload_n 2 dX12_read_71 rfl rfl ?_
      exact f_reti2 dX12_read_72 rfl (Nat.le_refl 0) (Nat.le_refl 0) hf
    refine ab_iload_n 1 dX12_read_136 rfl rfl ?_
    exact f_reti2 dX12_read_137 rfl (Nat.le_refl 0) (Nat.le_refl 0) hf
def F_X12_read_B12 (x0 : Nat) : Nat → Int32 → abH → Option (Int32 × abH)
  | 0, _, _ => none
  | n + 1, x1, h =>
    if x1 < 10 then
      (ko 12 h x0).bind fun _ => (F_X12_isFigure x0 x1 0 h).bind fun v13 =>
      if v13 = 0 then
        some (x1, h)
      else
        F_X12_read_B12 x0 n (x1 + 1) h
    else
      (ko 12 h x0).bind fun _ => (F_X12_at x0 x1 h).bind fun v3 =>
      if v3 = 59 then
        F_X12_read_B50 x0 200 (x1 + 1) h
      else
        some (x1, h)
theorem w_X12_read_B12 {z0 : Int32} {hz : abH} (x0 : Nat)   : ∀ (n : Nat) (x1 : Int32) (h : abH), F_X12_read_B12 x0 n x1 h = some (z0, hz) → abW cX12_read 3 RX12 (some .int) false 4 0 0 none (some (.int z0), hz) 12 [some (.ref x0), some (.int x1), none] [] h 0 0 := by
  intro n
  induction n with
  | zero =>
    intro x1 h hf
    exact absurd (show (none : Option (Int32 × abH)) = some _ from hf) (by simp)
  | succ n ih =>
    intro x1 h hf
    rw [F_X12_read_B12.eq_2] at hf
    refine ab_iload_n 1 dX12_read_12 rfl rfl ?_
    refine ab_bipush dX12_read_13 kbp_10 ?_
    refine ab_icmp_ge 35 dX12_read_15 (by decide) hf (fun hf => ?_) (fun hf => ?_)
    · refine ab_aload_n 0 dX12_read_18 rfl rfl ?_
      refine ab_iload_n 1 dX12_read_19 rfl rfl ?_
      refine ab_iconst dX12_read_20 kic_0 ?_
      refine f_V_i (As := [.int x1, .int 0]) (st := []) cs_X12_98 (fun v q => m_X12_isFigure x0 x1 0 h q) rfl rfl dX12_read_21 (rmk rfl) hf (fun v13 hf => ?_)
      refine ab_if_ne 29 dX12_read_24 (by decide) hf (fun hf => ?_) (fun hf => ?_)
      · refine ab_iload_n 1 dX12_read_27 rfl rfl ?_
        exact f_reti2 dX12_read_28 rfl (Nat.le_refl 0) (Nat.le_refl 0) hf
      refine ab_iinc (v := x1 + 1) [some (.ref x0), some (.int (x1 + 1)), none] dX12_read_29 rfl (kinc_1 _) (by decide) rfl rfl ?_
      refine ab_goto 12 dX12_read_32 (by decide) ?_
      exact ab_msk [true, true, true] (ih (x1 + 1) h hf)
    refine ab_aload_n 0 dX12_read_35 rfl rfl ?_
    refine ab_iload_n 1 dX12_read_36 rfl rfl ?_
    refine f_V_i (As := [.int x1]) (st := []) cs_X12_91 (fun v q => m_X12_at x0 x1 h q) rfl rfl dX12_read_37 (rmk rfl) hf (fun v3 hf => ?_)
    refine ab_bipush dX12_read_40 kbp_59 ?_
    refine ab_icmp_eq 47 dX12_read_42 (by decide) hf (fun hf => ?_) (fun hf => ?_)
    · refine ab_iinc (v := x1 + 1) [some (.ref x0), some (.int (x1 + 1)), none] dX12_read_47 rfl (kinc_1 _) (by decide) rfl rfl ?_
      exact ab_msk [true, true, true] (w_X12_read_B50 x0 200 (x1 + 1) h hf)
    refine ab_iload_n 1 dX12_read_45 rfl rfl ?_
    exact f_reti2 dX12_read_46 rfl (Nat.le_refl 0) (Nat.le_refl 0) hf
def F_X12_read (a0 : Nat) (h : abH) : Option (Int32 × abH) :=
  (sV 12 h a0 18 (.int 0)).bind fun h1 =>
  (sV 12 h1 a0 19 (.int 0)).bind fun h2 =>
  F_X12_read_B12 a0 200 0 h2
theorem m_X12_read {z0 : Int32} {hz : abH} (a0 : Nat) (h : abH) (hf : F_X12_read a0 h = some (z0, hz)) : abM yX12_read cX12_read 3 (some .int) 4 0 0 [.ref a0] h (some (.int z0)) hz := by
  refine abM_of (ini := false) [some (.ref a0), none, none] (by decide +kernel) (fun q => by first | rfl | cases q) (Nat.le_of_ble_eq_true rfl) rfl ?_
  unfold F_X12_read at hf
  refine ab_aload_n 0 dX12_read_0 rfl rfl ?_
  refine ab_iconst dX12_read_1 kic_0 ?_
  refine f_put fp_X12_102 (abFit_z (by decide)) dX12_read_2 hf (fun h1 hf => ?_)
  refine ab_aload_n 0 dX12_read_5 rfl rfl ?_
  refine ab_iconst dX12_read_6 kic_0 ?_
  refine f_put fp_X12_106 (abFit_i _) dX12_read_7 hf (fun h2 hf => ?_)
  refine ab_iconst dX12_read_10 kic_0 ?_
  refine ab_istore_n 1 [some (.ref a0), some (.int 0), none] dX12_read_11 rfl (by decide) rfl rfl ?_
  exact ab_msk [true, true, true] (w_X12_read_B12 a0 200 0 h2 hf)
def F_X12_fault (a0 : Nat) (h : abH) : Option (Int32 × abH) :=
  (ko 12 h a0).bind fun _ => bd2 (F_X12_read a0 h) fun v2 h1 =>
  some (v2, h1)
theorem m_X12_fault {z0 : Int32} {hz : abH} (a0 : Nat) (h : abH) (hf : F_X12_fault a0 h = some (z0, hz)) : abM yX12_fault cX12_fault 1 (some .int) 5 0 0 [.ref a0] h (some (.int z0)) hz := by
  refine abM_of (ini := false) [some (.ref a0)] (by decide +kernel) (fun q => by first | rfl | cases q) (Nat.le_of_ble_eq_true rfl) rfl ?_
  unfold F_X12_fault at hf
  refine ab_aload_n 0 dX12_fault_0 rfl rfl ?_
  refine f_V_i2 (As := []) (st := []) cs_X12_112 (fun v hq q => m_X12_read a0 h q) rfl rfl dX12_fault_1 (rmk rfl) hf (fun v2 h1 hf => ?_)
  exact f_reti2 dX12_fault_4 rfl (Nat.le_refl 0) (Nat.le_refl 0) hf
def F_X12_court_B54 (x0 : Nat) : Nat → Int32 → abH → Option (Int32 × abH)
  | 0, _, _ => none
  | n + 1, x1, h =>
    (gI 12 h x0 1).bind fun v6 =>
    if x1 < v6 then
      (gR 12 h x0 3).bind fun v15 =>
      (gR 12 h x0 17).bind fun v16 =>
      (ga 2 h v16 (11 + (4 * x1))).bind fun v17 =>
      (F_X12_kindBy v17).bind fun v18 =>
      (sa 0 h v15 x1 v18).bind fun h19 =>
      (gR 12 h19 x0 4).bind fun v20 =>
      (gR 12 h19 x0 17).bind fun v21 =>
      (ga 2 h19 v21 (12 + (4 * x1))).bind fun v22 =>
      (sa 0 h19 v20 x1 (v22 - 48)).bind fun h23 =>
      (gR 12 h23 x0 5).bind fun v24 =>
      (gR 12 h23 x0 17).bind fun v25 =>
      (ga 2 h23 v25 (13 + (4 * x1))).bind fun v26 =>
      (sa 0 h23 v24 x1 (v26 - 48)).bind fun h27 =>
      F_X12_court_B54 x0 n (x1 + 1) h27
    else
      (sV 12 h x0 6 (.int 0)).bind fun h7 =>
      (sV 12 h7 x0 7 (.int 0)).bind fun h8 =>
      (sV 12 h8 x0 8 (.int 0)).bind fun h9 =>
      (gI 12 h9 x0 0).bind fun v10 =>
      (sV 12 h9 x0 0 (.int (v10 + 1))).bind fun h11 =>
      (sV 12 h11 x0 11 (.int 0)).bind fun h12 =>
      (sV 12 h12 x0 16 (.int 0)).bind fun h13 =>
      (gI 12 h13 x0 1).bind fun v14 =>
      some (v14, h13)
theorem w_X12_court_B54 {z0 : Int32} {hz : abH} (x0 : Nat)   : ∀ (n : Nat) (x1 : Int32) (h : abH), F_X12_court_B54 x0 n x1 h = some (z0, hz) → abW cX12_court 2 RX12 (some .int) false 5 0 0 none (some (.int z0), hz) 54 [some (.ref x0), some (.int x1)] [] h 0 0 := by
  intro n
  induction n with
  | zero =>
    intro x1 h hf
    exact absurd (show (none : Option (Int32 × abH)) = some _ from hf) (by simp)
  | succ n ih =>
    intro x1 h hf
    rw [F_X12_court_B54.eq_2] at hf
    refine ab_iload_n 1 dX12_court_54 rfl rfl ?_
    refine ab_aload_n 0 dX12_court_55 rfl rfl ?_
    refine f_getI fs_X12_116 dX12_court_56 hf (fun v6 hf => ?_)
    refine ab_icmp_ge 128 dX12_court_59 (by decide) hf (fun hf => ?_) (fun hf => ?_)
    · refine ab_aload_n 0 dX12_court_62 rfl rfl ?_
      refine f_getR fs_X12_13 dX12_court_63 hf (fun v15 hf => ?_)
      refine ab_iload_n 1 dX12_court_66 rfl rfl ?_
      refine ab_aload_n 0 dX12_court_67 rfl rfl ?_
      refine f_getR fs_X12_40 dX12_court_68 hf (fun v16 hf => ?_)
      refine ab_bipush dX12_court_71 kbp_11 ?_
      refine ab_iconst dX12_court_73 kic_4 ?_
      refine ab_iload_n 1 dX12_court_74 rfl rfl ?_
      refine ab_imul dX12_court_75 ?_
      refine ab_iadd dX12_court_76 ?_
      refine f_bald dX12_court_77 hf (fun v17 hf => ?_)
      refine f_S_i (As := [.int v17]) (st := [.int x1, .ref v15]) cs_X12_95 (fun v q => m_X12_kindBy v17 h q) rfl rfl dX12_court_78 (rmk rfl) hf (fun v18 hf => ?_)
      refine f_iast dX12_court_81 hf (fun h19 hf => ?_)
      refine ab_aload_n 0 dX12_court_82 rfl rfl ?_
      refine f_getR fs_X12_16 dX12_court_83 hf (fun v20 hf => ?_)
      refine ab_iload_n 1 dX12_court_86 rfl rfl ?_
      refine ab_aload_n 0 dX12_court_87 rfl rfl ?_
      refine f_getR fs_X12_40 dX12_court_88 hf (fun v21 hf => ?_)
      refine ab_bipush dX12_court_91 kbp_12 ?_
      refine ab_iconst dX12_court_93 kic_4 ?_
      refine ab_iload_n 1 dX12_court_94 rfl rfl ?_
      refine ab_imul dX12_court_95 ?_
      refine ab_iadd dX12_court_96 ?_
      refine f_bald dX12_court_97 hf (fun v22 hf => ?_)
      refine ab_bipush dX12_court_98 kbp_48 ?_
      refine ab_isub dX12_court_100 ?_
      refine f_iast dX12_court_101 hf (fun h23 hf => ?_)
      refine ab_aload_n 0 dX12_court_102 rfl rfl ?_
      refine f_getR fs_X12_19 dX12_court_103 hf (fun v24 hf => ?_)
      refine ab_iload_n 1 dX12_court_106 rfl rfl ?_
      refine ab_aload_n 0 dX12_court_107 rfl rfl ?_
      refine f_getR fs_X12_40 dX12_court_108 hf (fun v25 hf => ?_)
      refine ab_bipush dX12_court_111 kbp_13 ?_
      refine ab_iconst dX12_court_113 kic_4 ?_
      refine ab_iload_n 1 dX12_court_114 rfl rfl ?_
      refine ab_imul dX12_court_115 ?_
      refine ab_iadd dX12_court_116 ?_
      refine f_bald dX12_court_117 hf (fun v26 hf => ?_)
      refine ab_bipush dX12_court_118 kbp_48 ?_
      refine ab_isub dX12_court_120 ?_
      refine f_iast dX12_court_121 hf (fun h27 hf => ?_)
      refine ab_iinc (v := x1 + 1) [some (.ref x0), some (.int (x1 + 1))] dX12_court_122 rfl (kinc_1 _) (by decide) rfl rfl ?_
      refine ab_goto 54 dX12_court_125 (by decide) ?_
      exact ab_msk [true, true] (ih (x1 + 1) h27 hf)
    refine ab_aload_n 0 dX12_court_128 rfl rfl ?_
    refine ab_iconst dX12_court_129 kic_0 ?_
    refine f_put fp_X12_119 (abFit_i _) dX12_court_130 hf (fun h7 hf => ?_)
    refine ab_aload_n 0 dX12_court_133 rfl rfl ?_
    refine ab_iconst dX12_court_134 kic_0 ?_
    refine f_put fp_X12_122 (abFit_i _) dX12_court_135 hf (fun h8 hf => ?_)
    refine ab_aload_n 0 dX12_court_138 rfl rfl ?_
    refine ab_iconst dX12_court_139 kic_0 ?_
    refine f_put fp_X12_125 (abFit_i _) dX12_court_140 hf (fun h9 hf => ?_)
    refine ab_aload_n 0 dX12_court_143 rfl rfl ?_
    refine ab_dup dX12_court_144 rfl ?_
    refine f_getI fs_X12_128 dX12_court_145 hf (fun v10 hf => ?_)
    refine ab_iconst dX12_court_148 kic_1 ?_
    refine ab_iadd dX12_court_149 ?_
    refine f_put fp_X12_128 (abFit_i _) dX12_court_150 hf (fun h11 hf => ?_)
    refine ab_aload_n 0 dX12_court_153 rfl rfl ?_
    refine ab_iconst dX12_court_154 kic_0 ?_
    refine f_put fp_X12_131 (abFit_i _) dX12_court_155 hf (fun h12 hf => ?_)
    refine ab_aload_n 0 dX12_court_158 rfl rfl ?_
    refine ab_iconst dX12_court_159 kic_0 ?_
    refine f_put fp_X12_87 (abFit_i _) dX12_court_160 hf (fun h13 hf => ?_)
    refine ab_aload_n 0 dX12_court_163 rfl rfl ?_
    refine f_getI fs_X12_116 dX12_court_164 hf (fun v14 hf => ?_)
    exact f_reti2 dX12_court_167 rfl (Nat.le_refl 0) (Nat.le_refl 0) hf
def F_X12_court_B17 (x0 : Nat) : Nat → Int32 → abH → Option (Int32 × abH)
  | 0, _, _ => none
  | n + 1, x1, h =>
    if x1 < 10 then
      (gR 12 h x0 2).bind fun v28 =>
      (gR 12 h x0 17).bind fun v29 =>
      (ga 2 h v29 x1).bind fun v30 =>
      (sa 0 h v28 x1 (v30 - 48)).bind fun h31 =>
      F_X12_court_B17 x0 n (x1 + 1) h31
    else
      (gI 12 h x0 19).bind fun v4 =>
      (sV 12 h x0 1 (.int v4)).bind fun h5 =>
      F_X12_court_B54 x0 200 0 h5
theorem w_X12_court_B17 {z0 : Int32} {hz : abH} (x0 : Nat)   : ∀ (n : Nat) (x1 : Int32) (h : abH), F_X12_court_B17 x0 n x1 h = some (z0, hz) → abW cX12_court 2 RX12 (some .int) false 5 0 0 none (some (.int z0), hz) 17 [some (.ref x0), some (.int x1)] [] h 0 0 := by
  intro n
  induction n with
  | zero =>
    intro x1 h hf
    exact absurd (show (none : Option (Int32 × abH)) = some _ from hf) (by simp)
  | succ n ih =>
    intro x1 h hf
    rw [F_X12_court_B17.eq_2] at hf
    refine ab_iload_n 1 dX12_court_17 rfl rfl ?_
    refine ab_bipush dX12_court_18 kbp_10 ?_
    refine ab_icmp_ge 44 dX12_court_20 (by decide) hf (fun hf => ?_) (fun hf => ?_)
    · refine ab_aload_n 0 dX12_court_23 rfl rfl ?_
      refine f_getR fs_X12_7 dX12_court_24 hf (fun v28 hf => ?_)
      refine ab_iload_n 1 dX12_court_27 rfl rfl ?_
      refine ab_aload_n 0 dX12_court_28 rfl rfl ?_
      refine f_getR fs_X12_40 dX12_court_29 hf (fun v29 hf => ?_)
      refine ab_iload_n 1 dX12_court_32 rfl rfl ?_
      refine f_bald dX12_court_33 hf (fun v30 hf => ?_)
      refine ab_bipush dX12_court_34 kbp_48 ?_
      refine ab_isub dX12_court_36 ?_
      refine f_iast dX12_court_37 hf (fun h31 hf => ?_)
      refine ab_iinc (v := x1 + 1) [some (.ref x0), some (.int (x1 + 1))] dX12_court_38 rfl (kinc_1 _) (by decide) rfl rfl ?_
      refine ab_goto 17 dX12_court_41 (by decide) ?_
      exact ab_msk [true, true] (ih (x1 + 1) h31 hf)
    refine ab_aload_n 0 dX12_court_44 rfl rfl ?_
    refine ab_aload_n 0 dX12_court_45 rfl rfl ?_
    refine f_getI fs_X12_106 dX12_court_46 hf (fun v4 hf => ?_)
    refine f_put fp_X12_116 (abFit_i _) dX12_court_49 hf (fun h5 hf => ?_)
    refine ab_iconst dX12_court_52 kic_0 ?_
    refine ab_istore_n 1 [some (.ref x0), some (.int 0)] dX12_court_53 rfl (by decide) rfl rfl ?_
    exact ab_msk [true, true] (w_X12_court_B54 x0 200 0 h5 hf)
def F_X12_court (a0 : Nat) (h : abH) : Option (Int32 × abH) :=
  (ko 12 h a0).bind fun _ => bd2 (F_X12_read a0 h) fun v2 h1 =>
  (gI 12 h1 a0 18).bind fun v3 =>
  if v3 = 0 then
    some ((-103), h1)
  else
    F_X12_court_B17 a0 200 0 h1
theorem m_X12_court {z0 : Int32} {hz : abH} (a0 : Nat) (h : abH) (hf : F_X12_court a0 h = some (z0, hz)) : abM yX12_court cX12_court 2 (some .int) 5 0 0 [.ref a0] h (some (.int z0)) hz := by
  refine abM_of (ini := false) [some (.ref a0), none] (by decide +kernel) (fun q => by first | rfl | cases q) (Nat.le_of_ble_eq_true rfl) rfl ?_
  unfold F_X12_court at hf
  refine ab_aload_n 0 dX12_court_0 rfl rfl ?_
  refine f_V_i2 (As := []) (st := []) cs_X12_112 (fun v hq q => m_X12_read a0 h q) rfl rfl dX12_court_1 (rmk rfl) hf (fun v2 h1 hf => ?_)
  refine ab_pop dX12_court_4 rfl ?_
  refine ab_aload_n 0 dX12_court_5 rfl rfl ?_
  refine f_getI fs_X12_102 dX12_court_6 hf (fun v3 hf => ?_)
  refine ab_if_ne 15 dX12_court_9 (by decide) hf (fun hf => ?_) (fun hf => ?_)
  · refine ab_bipush dX12_court_12 kbp_m103 ?_
    exact f_reti2 dX12_court_14 rfl (Nat.le_refl 0) (Nat.le_refl 0) hf
  refine ab_iconst dX12_court_15 kic_0 ?_
  refine ab_istore_n 1 [some (.ref a0), some (.int 0)] dX12_court_16 rfl (by decide) rfl rfl ?_
  exact ab_msk [true, true] (w_X12_court_B17 a0 200 0 h1 hf)
def F_X12_isParty (a0 : Nat) (a1 : Int32) (h : abH) : Option Int32 :=
  (gI 12 h a0 1).bind fun v1 =>
  (F_X12_within a1 0 (v1 - 1)).bind fun v2 =>
  rz v2
theorem m_X12_isParty {z0 : Int32} (a0 : Nat) (a1 : Int32) (h : abH) (hf : F_X12_isParty a0 a1 h = some z0) : abM yX12_isParty cX12_isParty 2 (some .boolean) 2 0 0 [.ref a0, .int a1] h (some (.int z0)) h := by
  refine abM_of (ini := false) [some (.ref a0), some (.int a1)] (by decide +kernel) (fun q => by first | rfl | cases q) (Nat.le_of_ble_eq_true rfl) rfl ?_
  unfold F_X12_isParty at hf
  refine ab_iload_n 1 dX12_isParty_0 rfl rfl ?_
  refine ab_iconst dX12_isParty_1 kic_0 ?_
  refine ab_aload_n 0 dX12_isParty_2 rfl rfl ?_
  refine f_getI fs_X12_116 dX12_isParty_3 hf (fun v1 hf => ?_)
  refine ab_iconst dX12_isParty_6 kic_1 ?_
  refine ab_isub dX12_isParty_7 ?_
  refine f_S_i (As := [.int a1, .int 0, .int (v1 - 1)]) (st := []) cs_X12_83 (fun v q => m_X12_within a1 0 (v1 - 1) h q) rfl rfl dX12_isParty_8 (rmk rfl) hf (fun v2 hf => ?_)
  exact f_retz dX12_isParty_11 rfl (Nat.le_refl 0) (Nat.le_refl 0) hf
def F_X12_longBy_B35 (x2 : Int32) (y0 : Int32) (y1 : Int32) (h : abH) : Option Int32 :=
  nm (y0 + y1) fun v7 =>
  if x2 < 6 then
    dz 3 <|
    some ((v7 * (6 - x2)) / 3)
  else
    dz 3 <|
    some ((v7 * (x2 - 6)) / 3)
theorem w_X12_longBy_B35 {z0 : Int32} (x2 : Int32) (y0 : Int32) (y1 : Int32) (h : abH)   (hf : F_X12_longBy_B35 x2 y0 y1 h = some z0) : abW cX12_longBy 4 RX12 (some .int) false 1 0 0 none (some (.int z0), h) 35 [none, none, some (.int x2), none] [.int y1, .int y0] h 0 0 := by
  unfold F_X12_longBy_B35 at hf
  refine ab_iadd dX12_longBy_35 ?_
  refine ab_nmi hf (fun v7 hf => ?_)
  refine ab_istore_n 3 [none, none, some (.int x2), some (.int v7)] dX12_longBy_36 rfl (by decide) rfl rfl ?_
  refine ab_iload_n 3 dX12_longBy_37 rfl rfl ?_
  refine ab_iload_n 2 dX12_longBy_38 rfl rfl ?_
  refine ab_bipush dX12_longBy_39 kbp_6 ?_
  refine ab_icmp_ge 51 dX12_longBy_41 (by decide) hf (fun hf => ?_) (fun hf => ?_)
  · refine ab_bipush dX12_longBy_44 kbp_6 ?_
    refine ab_iload_n 2 dX12_longBy_46 rfl rfl ?_
    refine ab_isub dX12_longBy_47 ?_
    refine ab_goto 55 dX12_longBy_48 (by decide) ?_
    refine ab_imul dX12_longBy_55 ?_
    refine ab_iconst dX12_longBy_56 kic_3 ?_
    refine f_idiv dX12_longBy_57 hf (fun hf => ?_)
    exact f_reti dX12_longBy_58 rfl (Nat.le_refl 0) (Nat.le_refl 0) hf
  refine ab_iload_n 2 dX12_longBy_51 rfl rfl ?_
  refine ab_bipush dX12_longBy_52 kbp_6 ?_
  refine ab_isub dX12_longBy_54 ?_
  refine ab_imul dX12_longBy_55 ?_
  refine ab_iconst dX12_longBy_56 kic_3 ?_
  refine f_idiv dX12_longBy_57 hf (fun hf => ?_)
  exact f_reti dX12_longBy_58 rfl (Nat.le_refl 0) (Nat.le_refl 0) hf
def F_X12_longBy (a0 : Nat) (a1 : Int32) (a2 : Int32) (h : abH) : Option Int32 :=
  (gR 12 h a0 4).bind fun v1 =>
  (ga 0 h v1 a1).bind fun v2 =>
  (gR 12 h a0 3).bind fun v3 =>
  (ga 0 h v3 a1).bind fun v4 =>
  if v4 = 1 then
    F_X12_longBy_B35 a2 v2 2 h
  else
    (gR 12 h a0 3).bind fun v5 =>
    (ga 0 h v5 a1).bind fun v6 =>
    if v6 = 4 then
      F_X12_longBy_B35 a2 v2 4 h
    else
      F_X12_longBy_B35 a2 v2 0 h
theorem m_X12_longBy {z0 : Int32} (a0 : Nat) (a1 : Int32) (a2 : Int32) (h : abH) (hf : F_X12_longBy a0 a1 a2 h = some z0) : abM yX12_longBy cX12_longBy 4 (some .int) 1 0 0 [.ref a0, .int a1, .int a2] h (some (.int z0)) h := by
  refine abM_of (ini := false) [some (.ref a0), some (.int a1), some (.int a2), none] (by decide +kernel) (fun q => by first | rfl | cases q) (Nat.le_of_ble_eq_true rfl) rfl ?_
  unfold F_X12_longBy at hf
  refine ab_aload_n 0 dX12_longBy_0 rfl rfl ?_
  refine f_getR fs_X12_16 dX12_longBy_1 hf (fun v1 hf => ?_)
  refine ab_iload_n 1 dX12_longBy_4 rfl rfl ?_
  refine f_iald dX12_longBy_5 hf (fun v2 hf => ?_)
  refine ab_aload_n 0 dX12_longBy_6 rfl rfl ?_
  refine f_getR fs_X12_13 dX12_longBy_7 hf (fun v3 hf => ?_)
  refine ab_iload_n 1 dX12_longBy_10 rfl rfl ?_
  refine f_iald dX12_longBy_11 hf (fun v4 hf => ?_)
  refine ab_iconst dX12_longBy_12 kic_1 ?_
  refine ab_icmp_ne 20 dX12_longBy_13 (by decide) hf (fun hf => ?_) (fun hf => ?_)
  · refine ab_iconst dX12_longBy_16 kic_2 ?_
    refine ab_goto 35 dX12_longBy_17 (by decide) ?_
    exact ab_msk [false, false, true, true] (w_X12_longBy_B35 a2 v2 2 h hf)
  refine ab_aload_n 0 dX12_longBy_20 rfl rfl ?_
  refine f_getR fs_X12_13 dX12_longBy_21 hf (fun v5 hf => ?_)
  refine ab_iload_n 1 dX12_longBy_24 rfl rfl ?_
  refine f_iald dX12_longBy_25 hf (fun v6 hf => ?_)
  refine ab_iconst dX12_longBy_26 kic_4 ?_
  refine ab_icmp_ne 34 dX12_longBy_27 (by decide) hf (fun hf => ?_) (fun hf => ?_)
  · refine ab_iconst dX12_longBy_30 kic_4 ?_
    refine ab_goto 35 dX12_longBy_31 (by decide) ?_
    exact ab_msk [false, false, true, true] (w_X12_longBy_B35 a2 v2 4 h hf)
  refine ab_iconst dX12_longBy_34 kic_0 ?_
  exact ab_msk [false, false, true, true] (w_X12_longBy_B35 a2 v2 0 h hf)
def F_X12_lastOf_B13 (x1 : Int32) (y0 : Int32) : Option Int32 :=
  if x1 ≤ 0 then
    some 0
  else
    (F_X12_within y0 0 9).bind fun v1 =>
    if v1 = 0 then
      some 0
    else
      some ((1 : Int32) <<< (y0 &&& 31))
theorem w_X12_lastOf_B13 {z0 : Int32} (x1 : Int32) (y0 : Int32) (h : abH)   (hf : F_X12_lastOf_B13 x1 y0 = some z0) : abW cX12_lastOf 4 RX12 (some .int) false 2 0 0 none (some (.int z0), h) 13 [none, some (.int x1), none, none] [.int y0] h 0 0 := by
  unfold F_X12_lastOf_B13 at hf
  refine ab_istore_n 3 [none, some (.int x1), none, some (.int y0)] dX12_lastOf_13 rfl (by decide) rfl rfl ?_
  refine ab_iload_n 1 dX12_lastOf_14 rfl rfl ?_
  refine ab_if_le 34 dX12_lastOf_15 (by decide) hf (fun hf => ?_) (fun hf => ?_)
  · refine ab_iconst dX12_lastOf_34 kic_0 ?_
    exact f_reti dX12_lastOf_35 rfl (Nat.le_refl 0) (Nat.le_refl 0) hf
  refine ab_iload_n 3 dX12_lastOf_18 rfl rfl ?_
  refine ab_iconst dX12_lastOf_19 kic_0 ?_
  refine ab_bipush dX12_lastOf_20 kbp_9 ?_
  refine f_S_i (As := [.int y0, .int 0, .int 9]) (st := []) cs_X12_83 (fun v q => m_X12_within y0 0 9 h q) rfl rfl dX12_lastOf_22 (rmk rfl) hf (fun v1 hf => ?_)
  refine ab_if_eq 34 dX12_lastOf_25 (by decide) hf (fun hf => ?_) (fun hf => ?_)
  · refine ab_iconst dX12_lastOf_34 kic_0 ?_
    exact f_reti dX12_lastOf_35 rfl (Nat.le_refl 0) (Nat.le_refl 0) hf
  refine ab_iconst dX12_lastOf_28 kic_1 ?_
  refine ab_iload_n 3 dX12_lastOf_29 rfl rfl ?_
  refine ab_ishl dX12_lastOf_30 ?_
  refine ab_goto 35 dX12_lastOf_31 (by decide) ?_
  exact f_reti dX12_lastOf_35 rfl (Nat.le_refl 0) (Nat.le_refl 0) hf
def F_X12_lastOf (a0 : Int32) (a1 : Int32) (a2 : Int32) : Option Int32 :=
  if a2 = 0 then
    F_X12_lastOf_B13 a1 (a0 + a1)
  else
    F_X12_lastOf_B13 a1 (a0 - a1)
theorem m_X12_lastOf {z0 : Int32} (a0 : Int32) (a1 : Int32) (a2 : Int32) (h : abH) (hf : F_X12_lastOf a0 a1 a2 = some z0) : abM yX12_lastOf cX12_lastOf 4 (some .int) 2 0 0 [.int a0, .int a1, .int a2] h (some (.int z0)) h := by
  refine abM_of (ini := false) [some (.int a0), some (.int a1), some (.int a2), none] (by decide +kernel) (fun q => by first | rfl | cases q) (Nat.le_of_ble_eq_true rfl) rfl ?_
  unfold F_X12_lastOf at hf
  refine ab_iload_n 2 dX12_lastOf_0 rfl rfl ?_
  refine ab_if_eq 10 dX12_lastOf_1 (by decide) hf (fun hf => ?_) (fun hf => ?_)
  · refine ab_iload_n 0 dX12_lastOf_10 rfl rfl ?_
    refine ab_iload_n 1 dX12_lastOf_11 rfl rfl ?_
    refine ab_iadd dX12_lastOf_12 ?_
    exact ab_msk [false, true, false, true] (w_X12_lastOf_B13 a1 (a0 + a1) h hf)
  refine ab_iload_n 0 dX12_lastOf_4 rfl rfl ?_
  refine ab_iload_n 1 dX12_lastOf_5 rfl rfl ?_
  refine ab_isub dX12_lastOf_6 ?_
  refine ab_goto 13 dX12_lastOf_7 (by decide) ?_
  exact ab_msk [false, true, false, true] (w_X12_lastOf_B13 a1 (a0 - a1) h hf)
def F_X12_west (a0 : Int32) (a1 : Int32) : Option Int32 :=
  if a1 ≤ a0 then
    nm (a0 - a1) fun v1 =>
    some (((1 : Int32) <<< (a0 &&& 31)) - ((1 : Int32) <<< (v1 &&& 31)))
  else
    some (((1 : Int32) <<< (a0 &&& 31)) - ((1 : Int32) <<< ((0 : Int32) &&& 31)))
theorem m_X12_west {z0 : Int32} (a0 : Int32) (a1 : Int32) (h : abH) (hf : F_X12_west a0 a1 = some z0) : abM yX12_west cX12_west 3 (some .int) 1 0 0 [.int a0, .int a1] h (some (.int z0)) h := by
  refine abM_of (ini := false) [some (.int a0), some (.int a1), none] (by decide +kernel) (fun q => by first | rfl | cases q) (Nat.le_of_ble_eq_true rfl) rfl ?_
  unfold F_X12_west at hf
  refine ab_iload_n 1 dX12_west_0 rfl rfl ?_
  refine ab_iload_n 0 dX12_west_1 rfl rfl ?_
  refine ab_icmp_le 9 dX12_west_2 (by decide) hf (fun hf => ?_) (fun hf => ?_)
  · refine ab_iload_n 0 dX12_west_9 rfl rfl ?_
    refine ab_iload_n 1 dX12_west_10 rfl rfl ?_
    refine ab_isub dX12_west_11 ?_
    refine ab_nmi hf (fun v1 hf => ?_)
    refine ab_istore_n 2 [some (.int a0), some (.int a1), some (.int v1)] dX12_west_12 rfl (by decide) rfl rfl ?_
    refine ab_iconst dX12_west_13 kic_1 ?_
    refine ab_iload_n 0 dX12_west_14 rfl rfl ?_
    refine ab_ishl dX12_west_15 ?_
    refine ab_iconst dX12_west_16 kic_1 ?_
    refine ab_iload_n 2 dX12_west_17 rfl rfl ?_
    refine ab_ishl dX12_west_18 ?_
    refine ab_isub dX12_west_19 ?_
    exact f_reti dX12_west_20 rfl (Nat.le_refl 0) (Nat.le_refl 0) hf
  refine ab_iconst dX12_west_5 kic_0 ?_
  refine ab_goto 12 dX12_west_6 (by decide) ?_
  refine ab_istore_n 2 [some (.int a0), some (.int a1), some (.int 0)] dX12_west_12 rfl (by decide) rfl rfl ?_
  refine ab_iconst dX12_west_13 kic_1 ?_
  refine ab_iload_n 0 dX12_west_14 rfl rfl ?_
  refine ab_ishl dX12_west_15 ?_
  refine ab_iconst dX12_west_16 kic_1 ?_
  refine ab_iload_n 2 dX12_west_17 rfl rfl ?_
  refine ab_ishl dX12_west_18 ?_
  refine ab_isub dX12_west_19 ?_
  exact f_reti dX12_west_20 rfl (Nat.le_refl 0) (Nat.le_refl 0) hf
def F_X12_east (a0 : Int32) (a1 : Int32) : Option Int32 :=
  if a1 ≤ (9 - a0) then
    nm ((a0 + 1) + a1) fun v1 =>
    some (((1 : Int32) <<< (v1 &&& 31)) - ((2 : Int32) <<< (a0 &&& 31)))
  else
    some (((1 : Int32) <<< ((10 : Int32) &&& 31)) - ((2 : Int32) <<< (a0 &&& 31)))
theorem m_X12_east {z0 : Int32} (a0 : Int32) (a1 : Int32) (h : abH) (hf : F_X12_east a0 a1 = some z0) : abM yX12_east cX12_east 3 (some .int) 1 0 0 [.int a0, .int a1] h (some (.int z0)) h := by
  refine abM_of (ini := false) [some (.int a0), some (.int a1), none] (by decide +kernel) (fun q => by first | rfl | cases q) (Nat.le_of_ble_eq_true rfl) rfl ?_
  unfold F_X12_east at hf
  refine ab_iload_n 1 dX12_east_0 rfl rfl ?_
  refine ab_bipush dX12_east_1 kbp_9 ?_
  refine ab_iload_n 0 dX12_east_3 rfl rfl ?_
  refine ab_isub dX12_east_4 ?_
  refine ab_icmp_le 13 dX12_east_5 (by decide) hf (fun hf => ?_) (fun hf => ?_)
  · refine ab_iload_n 0 dX12_east_13 rfl rfl ?_
    refine ab_iconst dX12_east_14 kic_1 ?_
    refine ab_iadd dX12_east_15 ?_
    refine ab_iload_n 1 dX12_east_16 rfl rfl ?_
    refine ab_iadd dX12_east_17 ?_
    refine ab_nmi hf (fun v1 hf => ?_)
    refine ab_istore_n 2 [some (.int a0), some (.int a1), some (.int v1)] dX12_east_18 rfl (by decide) rfl rfl ?_
    refine ab_iconst dX12_east_19 kic_1 ?_
    refine ab_iload_n 2 dX12_east_20 rfl rfl ?_
    refine ab_ishl dX12_east_21 ?_
    refine ab_iconst dX12_east_22 kic_2 ?_
    refine ab_iload_n 0 dX12_east_23 rfl rfl ?_
    refine ab_ishl dX12_east_24 ?_
    refine ab_isub dX12_east_25 ?_
    exact f_reti dX12_east_26 rfl (Nat.le_refl 0) (Nat.le_refl 0) hf
  refine ab_bipush dX12_east_8 kbp_10 ?_
  refine ab_goto 18 dX12_east_10 (by decide) ?_
  refine ab_istore_n 2 [some (.int a0), some (.int a1), some (.int 10)] dX12_east_18 rfl (by decide) rfl rfl ?_
  refine ab_iconst dX12_east_19 kic_1 ?_
  refine ab_iload_n 2 dX12_east_20 rfl rfl ?_
  refine ab_ishl dX12_east_21 ?_
  refine ab_iconst dX12_east_22 kic_2 ?_
  refine ab_iload_n 0 dX12_east_23 rfl rfl ?_
  refine ab_ishl dX12_east_24 ?_
  refine ab_isub dX12_east_25 ?_
  exact f_reti dX12_east_26 rfl (Nat.le_refl 0) (Nat.le_refl 0) hf
def F_X12_coversAt_B19 (x0 : Nat) (x1 : Int32) (x3 : Int32) (x4 : Int32) (y0 : Int32) (h : abH) : Option Int32 :=
  (gR 12 h x0 3).bind fun v2 =>
  (ga 0 h v2 x1).bind fun v3 =>
  if v3 = 2 then
    (F_X12_lastOf x3 x4 y0).bind fun v4 =>
    some v4
  else
  if v3 = 3 then
    (F_X12_west x3 x4).bind fun v5 =>
    (F_X12_east x3 x4).bind fun v6 =>
    some (v5 ||| v6)
  else
    if y0 = 0 then
      (F_X12_east x3 x4).bind fun v7 =>
      some v7
    else
      (F_X12_west x3 x4).bind fun v8 =>
      some v8
theorem w_X12_coversAt_B19 {z0 : Int32} (x0 : Nat) (x1 : Int32) (x3 : Int32) (x4 : Int32) (y0 : Int32) (h : abH)   (hf : F_X12_coversAt_B19 x0 x1 x3 x4 y0 h = some z0) : abW cX12_coversAt 6 RX12 (some .int) false 3 0 0 none (some (.int z0), h) 19 [some (.ref x0), some (.int x1), none, some (.int x3), some (.int x4), none] [.int y0] h 0 0 := by
  unfold F_X12_coversAt_B19 at hf
  refine ab_istore [some (.ref x0), some (.int x1), none, some (.int x3), some (.int x4), some (.int y0)] dX12_coversAt_19 (by decide) rfl rfl ?_
  refine ab_aload_n 0 dX12_coversAt_21 rfl rfl ?_
  refine f_getR fs_X12_13 dX12_coversAt_22 hf (fun v2 hf => ?_)
  refine ab_iload_n 1 dX12_coversAt_25 rfl rfl ?_
  refine f_iald dX12_coversAt_26 hf (fun v3 hf => ?_)
  refine f_lks 2 25 52 dX12_coversAt_27 (by decide +kernel) (by decide +kernel) (by decide) hf (fun hf => ?_) (fun q0 hf => ?_)
  · refine ab_iload_n 3 dX12_coversAt_52 rfl rfl ?_
    refine ab_iload dX12_coversAt_53 rfl ?_
    refine ab_iload dX12_coversAt_55 rfl ?_
    refine f_S_i (As := [.int x3, .int x4, .int y0]) (st := []) cs_X12_142 (fun v q => m_X12_lastOf x3 x4 y0 h q) rfl rfl dX12_coversAt_57 (rmk rfl) hf (fun v4 hf => ?_)
    exact f_reti dX12_coversAt_60 rfl (Nat.le_refl 0) (Nat.le_refl 0) hf
  refine f_lks 3 34 61 dX12_coversAt_27 (by decide +kernel) (by decide +kernel) (by decide) hf (fun hf => ?_) (fun q1 hf => ?_)
  · refine ab_iload_n 3 dX12_coversAt_61 rfl rfl ?_
    refine ab_iload dX12_coversAt_62 rfl ?_
    refine f_S_i (As := [.int x3, .int x4]) (st := []) cs_X12_146 (fun v q => m_X12_west x3 x4 h q) rfl rfl dX12_coversAt_64 (rmk rfl) hf (fun v5 hf => ?_)
    refine ab_iload_n 3 dX12_coversAt_67 rfl rfl ?_
    refine ab_iload dX12_coversAt_68 rfl ?_
    refine f_S_i (As := [.int x3, .int x4]) (st := [.int v5]) cs_X12_149 (fun v q => m_X12_east x3 x4 h q) rfl rfl dX12_coversAt_70 (rmk rfl) hf (fun v6 hf => ?_)
    refine ab_ior dX12_coversAt_73 ?_
    exact f_reti dX12_coversAt_74 rfl (Nat.le_refl 0) (Nat.le_refl 0) hf
  refine ab_lookup (off := 48) 75 dX12_coversAt_27 (by decide +kernel) (by rw [lv_osw q0 (by decide +kernel), lv_osw q1 (by decide +kernel)]; rfl) (by decide) ?_
  refine ab_iload dX12_coversAt_75 rfl ?_
  refine ab_if_eq 89 dX12_coversAt_77 (by decide) hf (fun hf => ?_) (fun hf => ?_)
  · refine ab_iload_n 3 dX12_coversAt_89 rfl rfl ?_
    refine ab_iload dX12_coversAt_90 rfl ?_
    refine f_S_i (As := [.int x3, .int x4]) (st := []) cs_X12_149 (fun v q => m_X12_east x3 x4 h q) rfl rfl dX12_coversAt_92 (rmk rfl) hf (fun v7 hf => ?_)
    exact f_reti dX12_coversAt_95 rfl (Nat.le_refl 0) (Nat.le_refl 0) hf
  refine ab_iload_n 3 dX12_coversAt_80 rfl rfl ?_
  refine ab_iload dX12_coversAt_81 rfl ?_
  refine f_S_i (As := [.int x3, .int x4]) (st := []) cs_X12_146 (fun v q => m_X12_west x3 x4 h q) rfl rfl dX12_coversAt_83 (rmk rfl) hf (fun v8 hf => ?_)
  refine ab_goto 95 dX12_coversAt_86 (by decide) ?_
  exact f_reti dX12_coversAt_95 rfl (Nat.le_refl 0) (Nat.le_refl 0) hf
def F_X12_coversAt (a0 : Nat) (a1 : Int32) (a2 : Int32) (a3 : Int32) (h : abH) : Option Int32 :=
  (ko 12 h a0).bind fun _ => (F_X12_longBy a0 a1 a2 h).bind fun v1 =>
  if a2 < 6 then
    F_X12_coversAt_B19 a0 a1 a3 v1 1 h
  else
    F_X12_coversAt_B19 a0 a1 a3 v1 0 h
theorem m_X12_coversAt {z0 : Int32} (a0 : Nat) (a1 : Int32) (a2 : Int32) (a3 : Int32) (h : abH) (hf : F_X12_coversAt a0 a1 a2 a3 h = some z0) : abM yX12_coversAt cX12_coversAt 6 (some .int) 3 0 0 [.ref a0, .int a1, .int a2, .int a3] h (some (.int z0)) h := by
  refine abM_of (ini := false) [some (.ref a0), some (.int a1), some (.int a2), some (.int a3), none, none] (by decide +kernel) (fun q => by first | rfl | cases q) (Nat.le_of_ble_eq_true rfl) rfl ?_
  unfold F_X12_coversAt at hf
  refine ab_aload_n 0 dX12_coversAt_0 rfl rfl ?_
  refine ab_iload_n 1 dX12_coversAt_1 rfl rfl ?_
  refine ab_iload_n 2 dX12_coversAt_2 rfl rfl ?_
  refine f_V_i (As := [.int a1, .int a2]) (st := []) cs_X12_138 (fun v q => m_X12_longBy a0 a1 a2 h q) rfl rfl dX12_coversAt_3 (rmk rfl) hf (fun v1 hf => ?_)
  refine ab_istore [some (.ref a0), some (.int a1), some (.int a2), some (.int a3), some (.int v1), none] dX12_coversAt_6 (by decide) rfl rfl ?_
  refine ab_iload_n 2 dX12_coversAt_8 rfl rfl ?_
  refine ab_bipush dX12_coversAt_9 kbp_6 ?_
  refine ab_icmp_ge 18 dX12_coversAt_11 (by decide) hf (fun hf => ?_) (fun hf => ?_)
  · refine ab_iconst dX12_coversAt_14 kic_1 ?_
    refine ab_goto 19 dX12_coversAt_15 (by decide) ?_
    exact ab_msk [true, true, false, true, true, true] (w_X12_coversAt_B19 a0 a1 a3 v1 1 h hf)
  refine ab_iconst dX12_coversAt_18 kic_0 ?_
  exact ab_msk [true, true, false, true, true, true] (w_X12_coversAt_B19 a0 a1 a3 v1 0 h hf)
def F_X12_coversIn (a0 : Nat) (a1 : Int32) (a2 : Int32) (h : abH) : Option Int32 :=
  (gR 12 h a0 5).bind fun v1 =>
  (ga 0 h v1 a1).bind fun v2 =>
  (ko 12 h a0).bind fun _ => (F_X12_coversAt a0 a1 a2 v2 h).bind fun v3 =>
  some v3
theorem m_X12_coversIn {z0 : Int32} (a0 : Nat) (a1 : Int32) (a2 : Int32) (h : abH) (hf : F_X12_coversIn a0 a1 a2 h = some z0) : abM yX12_coversIn cX12_coversIn 3 (some .int) 4 0 0 [.ref a0, .int a1, .int a2] h (some (.int z0)) h := by
  refine abM_of (ini := false) [some (.ref a0), some (.int a1), some (.int a2)] (by decide +kernel) (fun q => by first | rfl | cases q) (Nat.le_of_ble_eq_true rfl) rfl ?_
  unfold F_X12_coversIn at hf
  refine ab_aload_n 0 dX12_coversIn_0 rfl rfl ?_
  refine ab_iload_n 1 dX12_coversIn_1 rfl rfl ?_
  refine ab_iload_n 2 dX12_coversIn_2 rfl rfl ?_
  refine ab_aload_n 0 dX12_coversIn_3 rfl rfl ?_
  refine f_getR fs_X12_19 dX12_coversIn_4 hf (fun v1 hf => ?_)
  refine ab_iload_n 1 dX12_coversIn_7 rfl rfl ?_
  refine f_iald dX12_coversIn_8 hf (fun v2 hf => ?_)
  refine f_V_i (As := [.int a1, .int a2, .int v2]) (st := []) cs_X12_152 (fun v q => m_X12_coversAt a0 a1 a2 v2 h q) rfl rfl dX12_coversIn_9 (rmk rfl) hf (fun v3 hf => ?_)
  exact f_reti dX12_coversIn_12 rfl (Nat.le_refl 0) (Nat.le_refl 0) hf
def F_X12_isIn (a0 : Int32) (a1 : Int32) : Option Int32 :=
  if ((a0 >>> (a1 &&& 31)) &&& 1) = 1 then
    some 1
  else
    some 0
theorem m_X12_isIn {z0 : Int32} (a0 : Int32) (a1 : Int32) (h : abH) (hf : F_X12_isIn a0 a1 = some z0) : abM yX12_isIn cX12_isIn 2 (some .boolean) 1 0 0 [.int a0, .int a1] h (some (.int z0)) h := by
  refine abM_of (ini := false) [some (.int a0), some (.int a1)] (by decide +kernel) (fun q => by first | rfl | cases q) (Nat.le_of_ble_eq_true rfl) rfl ?_
  unfold F_X12_isIn at hf
  refine ab_iload_n 0 dX12_isIn_0 rfl rfl ?_
  refine ab_iload_n 1 dX12_isIn_1 rfl rfl ?_
  refine ab_ishr dX12_isIn_2 ?_
  refine ab_iconst dX12_isIn_3 kic_1 ?_
  refine ab_iand dX12_isIn_4 ?_
  refine ab_iconst dX12_isIn_5 kic_1 ?_
  refine ab_icmp_ne 13 dX12_isIn_6 (by decide) hf (fun hf => ?_) (fun hf => ?_)
  · refine ab_iconst dX12_isIn_9 kic_1 ?_
    refine ab_goto 14 dX12_isIn_10 (by decide) ?_
    exact f_retzc rfl dX12_isIn_14 rfl (Nat.le_refl 0) (Nat.le_refl 0) hf
  refine ab_iconst dX12_isIn_13 kic_0 ?_
  exact f_retzc rfl dX12_isIn_14 rfl (Nat.le_refl 0) (Nat.le_refl 0) hf
def F_X12_worthIn_B4 (x0 : Nat) (x1 : Int32) (h : abH) : Nat → Int32 → Int32 → Option Int32
  | 0, _, _ => none
  | n + 1, x2, x3 =>
    if x3 < 10 then
      (F_X12_isIn x1 x3).bind fun v1 =>
      if v1 = 0 then
        nm (x2 + 0) fun v2 =>
        F_X12_worthIn_B4 x0 x1 h n v2 (x3 + 1)
      else
        (gR 12 h x0 2).bind fun v3 =>
        (ga 0 h v3 x3).bind fun v4 =>
        nm (x2 + v4) fun v5 =>
        F_X12_worthIn_B4 x0 x1 h n v5 (x3 + 1)
    else
      some x2
theorem w_X12_worthIn_B4 {z0 : Int32} (x0 : Nat) (x1 : Int32) (h : abH)   : ∀ (n : Nat) (x2 : Int32) (x3 : Int32), F_X12_worthIn_B4 x0 x1 h n x2 x3 = some z0 → abW cX12_worthIn 4 RX12 (some .int) false 2 0 0 none (some (.int z0), h) 4 [some (.ref x0), some (.int x1), some (.int x2), some (.int x3)] [] h 0 0 := by
  intro n
  induction n with
  | zero =>
    intro x2 x3 hf
    exact absurd (show (none : Option Int32) = some _ from hf) (by simp)
  | succ n ih =>
    intro x2 x3 hf
    rw [F_X12_worthIn_B4.eq_2] at hf
    refine ab_iload_n 3 dX12_worthIn_4 rfl rfl ?_
    refine ab_bipush dX12_worthIn_5 kbp_10 ?_
    refine ab_icmp_ge 37 dX12_worthIn_7 (by decide) hf (fun hf => ?_) (fun hf => ?_)
    · refine ab_iload_n 2 dX12_worthIn_10 rfl rfl ?_
      refine ab_iload_n 1 dX12_worthIn_11 rfl rfl ?_
      refine ab_iload_n 3 dX12_worthIn_12 rfl rfl ?_
      refine f_S_i (As := [.int x1, .int x3]) (st := [.int x2]) cs_X12_156 (fun v q => m_X12_isIn x1 x3 h q) rfl rfl dX12_worthIn_13 (rmk rfl) hf (fun v1 hf => ?_)
      refine ab_if_eq 28 dX12_worthIn_16 (by decide) hf (fun hf => ?_) (fun hf => ?_)
      · refine ab_iconst dX12_worthIn_28 kic_0 ?_
        refine ab_iadd dX12_worthIn_29 ?_
        refine ab_nmi hf (fun v2 hf => ?_)
        refine ab_istore_n 2 [some (.ref x0), some (.int x1), some (.int v2), some (.int x3)] dX12_worthIn_30 rfl (by decide) rfl rfl ?_
        refine ab_iinc (v := x3 + 1) [some (.ref x0), some (.int x1), some (.int v2), some (.int (x3 + 1))] dX12_worthIn_31 rfl (kinc_1 _) (by decide) rfl rfl ?_
        refine ab_goto 4 dX12_worthIn_34 (by decide) ?_
        exact ab_msk [true, true, true, true] (ih v2 (x3 + 1) hf)
      refine ab_aload_n 0 dX12_worthIn_19 rfl rfl ?_
      refine f_getR fs_X12_7 dX12_worthIn_20 hf (fun v3 hf => ?_)
      refine ab_iload_n 3 dX12_worthIn_23 rfl rfl ?_
      refine f_iald dX12_worthIn_24 hf (fun v4 hf => ?_)
      refine ab_goto 29 dX12_worthIn_25 (by decide) ?_
      refine ab_iadd dX12_worthIn_29 ?_
      refine ab_nmi hf (fun v5 hf => ?_)
      refine ab_istore_n 2 [some (.ref x0), some (.int x1), some (.int v5), some (.int x3)] dX12_worthIn_30 rfl (by decide) rfl rfl ?_
      refine ab_iinc (v := x3 + 1) [some (.ref x0), some (.int x1), some (.int v5), some (.int (x3 + 1))] dX12_worthIn_31 rfl (kinc_1 _) (by decide) rfl rfl ?_
      refine ab_goto 4 dX12_worthIn_34 (by decide) ?_
      exact ab_msk [true, true, true, true] (ih v5 (x3 + 1) hf)
    refine ab_iload_n 2 dX12_worthIn_37 rfl rfl ?_
    exact f_reti dX12_worthIn_38 rfl (Nat.le_refl 0) (Nat.le_refl 0) hf
def F_X12_worthIn (a0 : Nat) (a1 : Int32) (h : abH) : Option Int32 :=
  F_X12_worthIn_B4 a0 a1 h 200 0 0
theorem m_X12_worthIn {z0 : Int32} (a0 : Nat) (a1 : Int32) (h : abH) (hf : F_X12_worthIn a0 a1 h = some z0) : abM yX12_worthIn cX12_worthIn 4 (some .int) 2 0 0 [.ref a0, .int a1] h (some (.int z0)) h := by
  refine abM_of (ini := false) [some (.ref a0), some (.int a1), none, none] (by decide +kernel) (fun q => by first | rfl | cases q) (Nat.le_of_ble_eq_true rfl) rfl ?_
  unfold F_X12_worthIn at hf
  refine ab_iconst dX12_worthIn_0 kic_0 ?_
  refine ab_istore_n 2 [some (.ref a0), some (.int a1), some (.int 0), none] dX12_worthIn_1 rfl (by decide) rfl rfl ?_
  refine ab_iconst dX12_worthIn_2 kic_0 ?_
  refine ab_istore_n 3 [some (.ref a0), some (.int a1), some (.int 0), some (.int 0)] dX12_worthIn_3 rfl (by decide) rfl rfl ?_
  exact ab_msk [true, true, true, true] (w_X12_worthIn_B4 a0 a1 h 200 0 0 hf)
def F_X12_coversWith (a0 : Nat) (a1 : Int32) (a2 : Int32) (a3 : Int32) (a4 : Int32) (h : abH) : Option (Int32 × abH) :=
  (gR 12 h a0 4).bind fun v1 =>
  (ga 0 h v1 a1).bind fun v2 =>
  (gR 12 h a0 4).bind fun v3 =>
  (sa 0 h v3 a1 a2).bind fun h4 =>
  (ko 12 h4 a0).bind fun _ => (F_X12_coversIn a0 a1 a3 h4).bind fun v5 =>
  (F_X12_isIn v5 a4).bind fun v6 =>
  (gR 12 h4 a0 4).bind fun v7 =>
  (sa 0 h4 v7 a1 v2).bind fun h8 =>
  (rz v6).bind fun rr => some (rr, h8)
theorem m_X12_coversWith {z0 : Int32} {hz : abH} (a0 : Nat) (a1 : Int32) (a2 : Int32) (a3 : Int32) (a4 : Int32) (h : abH) (hf : F_X12_coversWith a0 a1 a2 a3 a4 h = some (z0, hz)) : abM yX12_coversWith cX12_coversWith 7 (some .boolean) 5 0 0 [.ref a0, .int a1, .int a2, .int a3, .int a4] h (some (.int z0)) hz := by
  refine abM_of (ini := false) [some (.ref a0), some (.int a1), some (.int a2), some (.int a3), some (.int a4), none, none] (by decide +kernel) (fun q => by first | rfl | cases q) (Nat.le_of_ble_eq_true rfl) rfl ?_
  unfold F_X12_coversWith at hf
  refine ab_aload_n 0 dX12_coversWith_0 rfl rfl ?_
  refine f_getR fs_X12_16 dX12_coversWith_1 hf (fun v1 hf => ?_)
  refine ab_iload_n 1 dX12_coversWith_4 rfl rfl ?_
  refine f_iald dX12_coversWith_5 hf (fun v2 hf => ?_)
  refine ab_istore [some (.ref a0), some (.int a1), some (.int a2), some (.int a3), some (.int a4), some (.int v2), none] dX12_coversWith_6 (by decide) rfl rfl ?_
  refine ab_aload_n 0 dX12_coversWith_8 rfl rfl ?_
  refine f_getR fs_X12_16 dX12_coversWith_9 hf (fun v3 hf => ?_)
  refine ab_iload_n 1 dX12_coversWith_12 rfl rfl ?_
  refine ab_iload_n 2 dX12_coversWith_13 rfl rfl ?_
  refine f_iast dX12_coversWith_14 hf (fun h4 hf => ?_)
  refine ab_aload_n 0 dX12_coversWith_15 rfl rfl ?_
  refine ab_iload_n 1 dX12_coversWith_16 rfl rfl ?_
  refine ab_iload_n 3 dX12_coversWith_17 rfl rfl ?_
  refine f_V_i (As := [.int a1, .int a3]) (st := []) cs_X12_162 (fun v q => m_X12_coversIn a0 a1 a3 h4 q) rfl rfl dX12_coversWith_18 (rmk rfl) hf (fun v5 hf => ?_)
  refine ab_iload dX12_coversWith_21 rfl ?_
  refine f_S_i (As := [.int v5, .int a4]) (st := []) cs_X12_156 (fun v q => m_X12_isIn v5 a4 h4 q) rfl rfl dX12_coversWith_23 (rmk rfl) hf (fun v6 hf => ?_)
  refine ab_istore [some (.ref a0), some (.int a1), some (.int a2), some (.int a3), some (.int a4), some (.int v2), some (.int v6)] dX12_coversWith_26 (by decide) rfl rfl ?_
  refine ab_aload_n 0 dX12_coversWith_28 rfl rfl ?_
  refine f_getR fs_X12_16 dX12_coversWith_29 hf (fun v7 hf => ?_)
  refine ab_iload_n 1 dX12_coversWith_32 rfl rfl ?_
  refine ab_iload dX12_coversWith_33 rfl ?_
  refine f_iast dX12_coversWith_35 hf (fun h8 hf => ?_)
  refine ab_iload dX12_coversWith_36 rfl ?_
  exact f_retz2 dX12_coversWith_38 rfl (Nat.le_refl 0) (Nat.le_refl 0) hf
def F_X12_heightsOf_B77 (x0 : Nat) (x1 : Int32) (x2 : Int32) (x3 : Int32) (x5 : Int32) (y0 : Int32) (y1 : Int32) (h : abH) (k4 : Int32 → Int32 → abH → Option (Int32 × abH)) (k16 : Int32 → Int32 → abH → Option (Int32 × abH)) : Option (Int32 × abH) :=
  if y0 = y1 then
    k16 1 (x5 + 1) h
  else
    k16 0 (x5 + 1) h
theorem w_X12_heightsOf_B77 {z0 : Int32} {hz : abH} (x0 : Nat) (x1 : Int32) (x2 : Int32) (x3 : Int32) (x5 : Int32) (y0 : Int32) (y1 : Int32) (h : abH) (k4 : Int32 → Int32 → abH → Option (Int32 × abH)) (k16 : Int32 → Int32 → abH → Option (Int32 × abH)) (hk4 : ∀ (w2 : Int32) (w3 : Int32) (hw : abH), k4 w2 w3 hw = some (z0, hz) → abW cX12_heightsOf 6 RX12 (some .int) false 6 0 0 none (some (.int z0), hz) 4 [some (.ref x0), some (.int x1), some (.int w2), some (.int w3), none, none] [] hw 0 0) (hk16 : ∀ (w4 : Int32) (w5 : Int32) (hw : abH), k16 w4 w5 hw = some (z0, hz) → abW cX12_heightsOf 6 RX12 (some .int) false 6 0 0 none (some (.int z0), hz) 16 [some (.ref x0), some (.int x1), some (.int x2), some (.int x3), some (.int w4), some (.int w5)] [] hw 0 0) (hf : F_X12_heightsOf_B77 x0 x1 x2 x3 x5 y0 y1 h k4 k16 = some (z0, hz)) : abW cX12_heightsOf 6 RX12 (some .int) false 6 0 0 none (some (.int z0), hz) 77 [some (.ref x0), some (.int x1), some (.int x2), some (.int x3), none, some (.int x5)] [.int y1, .int y0] h 0 0 := by
  unfold F_X12_heightsOf_B77 at hf
  refine ab_icmp_ne 84 dX12_heightsOf_77 (by decide) hf (fun hf => ?_) (fun hf => ?_)
  · refine ab_iconst dX12_heightsOf_80 kic_1 ?_
    refine ab_goto 85 dX12_heightsOf_81 (by decide) ?_
    refine ab_istore [some (.ref x0), some (.int x1), some (.int x2), some (.int x3), some (.int 1), some (.int x5)] dX12_heightsOf_85 (by decide) rfl rfl ?_
    refine ab_iinc (v := x5 + 1) [some (.ref x0), some (.int x1), some (.int x2), some (.int x3), some (.int 1), some (.int (x5 + 1))] dX12_heightsOf_87 rfl (kinc_1 _) (by decide) rfl rfl ?_
    refine ab_goto 16 dX12_heightsOf_90 (by decide) ?_
    exact ab_msk [true, true, true, true, true, true] (hk16 1 (x5 + 1) h hf)
  refine ab_iconst dX12_heightsOf_84 kic_0 ?_
  refine ab_istore [some (.ref x0), some (.int x1), some (.int x2), some (.int x3), some (.int 0), some (.int x5)] dX12_heightsOf_85 (by decide) rfl rfl ?_
  refine ab_iinc (v := x5 + 1) [some (.ref x0), some (.int x1), some (.int x2), some (.int x3), some (.int 0), some (.int (x5 + 1))] dX12_heightsOf_87 rfl (kinc_1 _) (by decide) rfl rfl ?_
  refine ab_goto 16 dX12_heightsOf_90 (by decide) ?_
  exact ab_msk [true, true, true, true, true, true] (hk16 0 (x5 + 1) h hf)
def F_X12_heightsOf_B16 (x0 : Nat) (x1 : Int32) (x2 : Int32) (x3 : Int32) (k4 : Int32 → Int32 → abH → Option (Int32 × abH)) : Nat → Int32 → Int32 → abH → Option (Int32 × abH)
  | 0, _, _, _ => none
  | n + 1, x4, x5, h =>
    (gI 12 h x0 11).bind fun v1 =>
    if x5 < v1 then
      if x4 = 0 then
        F_X12_heightsOf_B16 x0 x1 x2 x3 k4 n 0 (x5 + 1) h
      else
        (gR 12 h x0 12).bind fun v4 =>
        (ga 0 h v4 x5).bind fun v5 =>
        if v5 = x1 then
          (gR 12 h x0 13).bind fun v6 =>
          (ga 0 h v6 x5).bind fun v7 =>
          (gR 12 h x0 14).bind fun v8 =>
          (ga 0 h v8 x5).bind fun v9 =>
          (ko 12 h x0).bind fun _ => bd2 (F_X12_coversWith x0 x1 x3 v7 v9 h) fun v11 h10 =>
          (gR 12 h10 x0 15).bind fun v12 =>
          (ga 0 h10 v12 x5).bind fun v13 =>
          if v13 = 1 then
            F_X12_heightsOf_B77 x0 x1 x2 x3 x5 v11 1 h10 k4 (fun u4 u5 hu => F_X12_heightsOf_B16 x0 x1 x2 x3 k4 n u4 u5 hu)
          else
            F_X12_heightsOf_B77 x0 x1 x2 x3 x5 v11 0 h10 k4 (fun u4 u5 hu => F_X12_heightsOf_B16 x0 x1 x2 x3 k4 n u4 u5 hu)
        else
          F_X12_heightsOf_B16 x0 x1 x2 x3 k4 n 1 (x5 + 1) h
    else
      if x4 = 0 then
        nm (x2 ||| 0) fun v2 =>
        k4 v2 (x3 + 1) h
      else
        nm (x2 ||| ((1 : Int32) <<< ((x3 - 1) &&& 31))) fun v3 =>
        k4 v3 (x3 + 1) h
theorem w_X12_heightsOf_B16 {z0 : Int32} {hz : abH} (x0 : Nat) (x1 : Int32) (x2 : Int32) (x3 : Int32) (k4 : Int32 → Int32 → abH → Option (Int32 × abH)) (hk4 : ∀ (w2 : Int32) (w3 : Int32) (hw : abH), k4 w2 w3 hw = some (z0, hz) → abW cX12_heightsOf 6 RX12 (some .int) false 6 0 0 none (some (.int z0), hz) 4 [some (.ref x0), some (.int x1), some (.int w2), some (.int w3), none, none] [] hw 0 0) : ∀ (n : Nat) (x4 : Int32) (x5 : Int32) (h : abH), F_X12_heightsOf_B16 x0 x1 x2 x3 k4 n x4 x5 h = some (z0, hz) → abW cX12_heightsOf 6 RX12 (some .int) false 6 0 0 none (some (.int z0), hz) 16 [some (.ref x0), some (.int x1), some (.int x2), some (.int x3), some (.int x4), some (.int x5)] [] h 0 0 := by
  intro n
  induction n with
  | zero =>
    intro x4 x5 h hf
    exact absurd (show (none : Option (Int32 × abH)) = some _ from hf) (by simp)
  | succ n ih =>
    intro x4 x5 h hf
    rw [F_X12_heightsOf_B16.eq_2] at hf
    refine ab_iload dX12_heightsOf_16 rfl ?_
    refine ab_aload_n 0 dX12_heightsOf_18 rfl rfl ?_
    refine f_getI fs_X12_131 dX12_heightsOf_19 hf (fun v1 hf => ?_)
    refine ab_icmp_ge 93 dX12_heightsOf_22 (by decide) hf (fun hf => ?_) (fun hf => ?_)
    · refine ab_iload dX12_heightsOf_25 rfl ?_
      refine ab_if_eq 84 dX12_heightsOf_27 (by decide) hf (fun hf => ?_) (fun hf => ?_)
      · refine ab_iconst dX12_heightsOf_84 kic_0 ?_
        refine ab_istore [some (.ref x0), some (.int x1), some (.int x2), some (.int x3), some (.int 0), some (.int x5)] dX12_heightsOf_85 (by decide) rfl rfl ?_
        refine ab_iinc (v := x5 + 1) [some (.ref x0), some (.int x1), some (.int x2), some (.int x3), some (.int 0), some (.int (x5 + 1))] dX12_heightsOf_87 rfl (kinc_1 _) (by decide) rfl rfl ?_
        refine ab_goto 16 dX12_heightsOf_90 (by decide) ?_
        exact ab_msk [true, true, true, true, true, true] (ih 0 (x5 + 1) h hf)
      refine ab_aload_n 0 dX12_heightsOf_30 rfl rfl ?_
      refine f_getR fs_X12_28 dX12_heightsOf_31 hf (fun v4 hf => ?_)
      refine ab_iload dX12_heightsOf_34 rfl ?_
      refine f_iald dX12_heightsOf_36 hf (fun v5 hf => ?_)
      refine ab_iload_n 1 dX12_heightsOf_37 rfl rfl ?_
      refine ab_icmp_ne 80 dX12_heightsOf_38 (by decide) hf (fun hf => ?_) (fun hf => ?_)
      · refine ab_aload_n 0 dX12_heightsOf_41 rfl rfl ?_
        refine ab_iload_n 1 dX12_heightsOf_42 rfl rfl ?_
        refine ab_iload_n 3 dX12_heightsOf_43 rfl rfl ?_
        refine ab_aload_n 0 dX12_heightsOf_44 rfl rfl ?_
        refine f_getR fs_X12_31 dX12_heightsOf_45 hf (fun v6 hf => ?_)
        refine ab_iload dX12_heightsOf_48 rfl ?_
        refine f_iald dX12_heightsOf_50 hf (fun v7 hf => ?_)
        refine ab_aload_n 0 dX12_heightsOf_51 rfl rfl ?_
        refine f_getR fs_X12_34 dX12_heightsOf_52 hf (fun v8 hf => ?_)
        refine ab_iload dX12_heightsOf_55 rfl ?_
        refine f_iald dX12_heightsOf_57 hf (fun v9 hf => ?_)
        refine f_V_i2 (As := [.int x1, .int x3, .int v7, .int v9]) (st := []) cs_X12_239 (fun v hq q => m_X12_coversWith x0 x1 x3 v7 v9 h q) rfl rfl dX12_heightsOf_58 (rmk rfl) hf (fun v11 h10 hf => ?_)
        refine ab_aload_n 0 dX12_heightsOf_61 rfl rfl ?_
        refine f_getR fs_X12_37 dX12_heightsOf_62 hf (fun v12 hf => ?_)
        refine ab_iload dX12_heightsOf_65 rfl ?_
        refine f_iald dX12_heightsOf_67 hf (fun v13 hf => ?_)
        refine ab_iconst dX12_heightsOf_68 kic_1 ?_
        refine ab_icmp_ne 76 dX12_heightsOf_69 (by decide) hf (fun hf => ?_) (fun hf => ?_)
        · refine ab_iconst dX12_heightsOf_72 kic_1 ?_
          refine ab_goto 77 dX12_heightsOf_73 (by decide) ?_
          exact ab_msk [true, true, true, true, false, true] (w_X12_heightsOf_B77 x0 x1 x2 x3 x5 v11 1 h10 k4 (fun u4 u5 hu => F_X12_heightsOf_B16 x0 x1 x2 x3 k4 n u4 u5 hu) hk4 (fun u4 u5 hu hf => ih u4 u5 hu hf) hf)
        refine ab_iconst dX12_heightsOf_76 kic_0 ?_
        exact ab_msk [true, true, true, true, false, true] (w_X12_heightsOf_B77 x0 x1 x2 x3 x5 v11 0 h10 k4 (fun u4 u5 hu => F_X12_heightsOf_B16 x0 x1 x2 x3 k4 n u4 u5 hu) hk4 (fun u4 u5 hu hf => ih u4 u5 hu hf) hf)
      refine ab_iconst dX12_heightsOf_80 kic_1 ?_
      refine ab_goto 85 dX12_heightsOf_81 (by decide) ?_
      refine ab_istore [some (.ref x0), some (.int x1), some (.int x2), some (.int x3), some (.int 1), some (.int x5)] dX12_heightsOf_85 (by decide) rfl rfl ?_
      refine ab_iinc (v := x5 + 1) [some (.ref x0), some (.int x1), some (.int x2), some (.int x3), some (.int 1), some (.int (x5 + 1))] dX12_heightsOf_87 rfl (kinc_1 _) (by decide) rfl rfl ?_
      refine ab_goto 16 dX12_heightsOf_90 (by decide) ?_
      exact ab_msk [true, true, true, true, true, true] (ih 1 (x5 + 1) h hf)
    refine ab_iload_n 2 dX12_heightsOf_93 rfl rfl ?_
    refine ab_iload dX12_heightsOf_94 rfl ?_
    refine ab_if_eq 107 dX12_heightsOf_96 (by decide) hf (fun hf => ?_) (fun hf => ?_)
    · refine ab_iconst dX12_heightsOf_107 kic_0 ?_
      refine ab_ior dX12_heightsOf_108 ?_
      refine ab_nmi hf (fun v2 hf => ?_)
      refine ab_istore_n 2 [some (.ref x0), some (.int x1), some (.int v2), some (.int x3), some (.int x4), some (.int x5)] dX12_heightsOf_109 rfl (by decide) rfl rfl ?_
      refine ab_iinc (v := x3 + 1) [some (.ref x0), some (.int x1), some (.int v2), some (.int (x3 + 1)), some (.int x4), some (.int x5)] dX12_heightsOf_110 rfl (kinc_1 _) (by decide) rfl rfl ?_
      refine ab_goto 4 dX12_heightsOf_113 (by decide) ?_
      exact ab_msk [true, true, true, true, false, false] (hk4 v2 (x3 + 1) h hf)
    refine ab_iconst dX12_heightsOf_99 kic_1 ?_
    refine ab_iload_n 3 dX12_heightsOf_100 rfl rfl ?_
    refine ab_iconst dX12_heightsOf_101 kic_1 ?_
    refine ab_isub dX12_heightsOf_102 ?_
    refine ab_ishl dX12_heightsOf_103 ?_
    refine ab_goto 108 dX12_heightsOf_104 (by decide) ?_
    refine ab_ior dX12_heightsOf_108 ?_
    refine ab_nmi hf (fun v3 hf => ?_)
    refine ab_istore_n 2 [some (.ref x0), some (.int x1), some (.int v3), some (.int x3), some (.int x4), some (.int x5)] dX12_heightsOf_109 rfl (by decide) rfl rfl ?_
    refine ab_iinc (v := x3 + 1) [some (.ref x0), some (.int x1), some (.int v3), some (.int (x3 + 1)), some (.int x4), some (.int x5)] dX12_heightsOf_110 rfl (kinc_1 _) (by decide) rfl rfl ?_
    refine ab_goto 4 dX12_heightsOf_113 (by decide) ?_
    exact ab_msk [true, true, true, true, false, false] (hk4 v3 (x3 + 1) h hf)
def F_X12_heightsOf_B4 (x0 : Nat) (x1 : Int32) : Nat → Int32 → Int32 → abH → Option (Int32 × abH)
  | 0, _, _, _ => none
  | n + 1, x2, x3, h =>
    if x3 ≤ 9 then
      F_X12_heightsOf_B16 x0 x1 x2 x3 (fun u2 u3 hu => F_X12_heightsOf_B4 x0 x1 n u2 u3 hu) 200 1 0 h
    else
      some (x2, h)
theorem w_X12_heightsOf_B4 {z0 : Int32} {hz : abH} (x0 : Nat) (x1 : Int32)   : ∀ (n : Nat) (x2 : Int32) (x3 : Int32) (h : abH), F_X12_heightsOf_B4 x0 x1 n x2 x3 h = some (z0, hz) → abW cX12_heightsOf 6 RX12 (some .int) false 6 0 0 none (some (.int z0), hz) 4 [some (.ref x0), some (.int x1), some (.int x2), some (.int x3), none, none] [] h 0 0 := by
  intro n
  induction n with
  | zero =>
    intro x2 x3 h hf
    exact absurd (show (none : Option (Int32 × abH)) = some _ from hf) (by simp)
  | succ n ih =>
    intro x2 x3 h hf
    rw [F_X12_heightsOf_B4.eq_2] at hf
    refine ab_iload_n 3 dX12_heightsOf_4 rfl rfl ?_
    refine ab_bipush dX12_heightsOf_5 kbp_9 ?_
    refine ab_icmp_gt 116 dX12_heightsOf_7 (by decide) hf (fun hf => ?_) (fun hf => ?_)
    · refine ab_iconst dX12_heightsOf_10 kic_1 ?_
      refine ab_istore [some (.ref x0), some (.int x1), some (.int x2), some (.int x3), some (.int 1), none] dX12_heightsOf_11 (by decide) rfl rfl ?_
      refine ab_iconst dX12_heightsOf_13 kic_0 ?_
      refine ab_istore [some (.ref x0), some (.int x1), some (.int x2), some (.int x3), some (.int 1), some (.int 0)] dX12_heightsOf_14 (by decide) rfl rfl ?_
      exact ab_msk [true, true, true, true, true, true] (w_X12_heightsOf_B16 x0 x1 x2 x3 (fun u2 u3 hu => F_X12_heightsOf_B4 x0 x1 n u2 u3 hu) (fun u2 u3 hu hf => ih u2 u3 hu hf) 200 1 0 h hf)
    refine ab_iload_n 2 dX12_heightsOf_116 rfl rfl ?_
    exact f_reti2 dX12_heightsOf_117 rfl (Nat.le_refl 0) (Nat.le_refl 0) hf
def F_X12_heightsOf (a0 : Nat) (a1 : Int32) (h : abH) : Option (Int32 × abH) :=
  F_X12_heightsOf_B4 a0 a1 200 0 1 h
theorem m_X12_heightsOf {z0 : Int32} {hz : abH} (a0 : Nat) (a1 : Int32) (h : abH) (hf : F_X12_heightsOf a0 a1 h = some (z0, hz)) : abM yX12_heightsOf cX12_heightsOf 6 (some .int) 6 0 0 [.ref a0, .int a1] h (some (.int z0)) hz := by
  refine abM_of (ini := false) [some (.ref a0), some (.int a1), none, none, none, none] (by decide +kernel) (fun q => by first | rfl | cases q) (Nat.le_of_ble_eq_true rfl) rfl ?_
  unfold F_X12_heightsOf at hf
  refine ab_iconst dX12_heightsOf_0 kic_0 ?_
  refine ab_istore_n 2 [some (.ref a0), some (.int a1), some (.int 0), none, none, none] dX12_heightsOf_1 rfl (by decide) rfl rfl ?_
  refine ab_iconst dX12_heightsOf_2 kic_1 ?_
  refine ab_istore_n 3 [some (.ref a0), some (.int a1), some (.int 0), some (.int 1), none, none] dX12_heightsOf_3 rfl (by decide) rfl rfl ?_
  exact ab_msk [true, true, true, true, true, true] (w_X12_heightsOf_B4 a0 a1 200 0 1 h hf)
def F_X12_size_B4 (x0 : Int32) : Nat → Int32 → Int32 → Option Int32
  | 0, _, _ => none
  | n + 1, x1, x2 =>
    if x2 < 13 then
      nm (x1 + ((x0 >>> (x2 &&& 31)) &&& 1)) fun v1 =>
      F_X12_size_B4 x0 n v1 (x2 + 1)
    else
      some x1
theorem w_X12_size_B4 {z0 : Int32} (x0 : Int32) (h : abH)   : ∀ (n : Nat) (x1 : Int32) (x2 : Int32), F_X12_size_B4 x0 n x1 x2 = some z0 → abW cX12_size 3 RX12 (some .int) false 1 0 0 none (some (.int z0), h) 4 [some (.int x0), some (.int x1), some (.int x2)] [] h 0 0 := by
  intro n
  induction n with
  | zero =>
    intro x1 x2 hf
    exact absurd (show (none : Option Int32) = some _ from hf) (by simp)
  | succ n ih =>
    intro x1 x2 hf
    rw [F_X12_size_B4.eq_2] at hf
    refine ab_iload_n 2 dX12_size_4 rfl rfl ?_
    refine ab_bipush dX12_size_5 kbp_13 ?_
    refine ab_icmp_ge 24 dX12_size_7 (by decide) hf (fun hf => ?_) (fun hf => ?_)
    · refine ab_iload_n 1 dX12_size_10 rfl rfl ?_
      refine ab_iload_n 0 dX12_size_11 rfl rfl ?_
      refine ab_iload_n 2 dX12_size_12 rfl rfl ?_
      refine ab_ishr dX12_size_13 ?_
      refine ab_iconst dX12_size_14 kic_1 ?_
      refine ab_iand dX12_size_15 ?_
      refine ab_iadd dX12_size_16 ?_
      refine ab_nmi hf (fun v1 hf => ?_)
      refine ab_istore_n 1 [some (.int x0), some (.int v1), some (.int x2)] dX12_size_17 rfl (by decide) rfl rfl ?_
      refine ab_iinc (v := x2 + 1) [some (.int x0), some (.int v1), some (.int (x2 + 1))] dX12_size_18 rfl (kinc_1 _) (by decide) rfl rfl ?_
      refine ab_goto 4 dX12_size_21 (by decide) ?_
      exact ab_msk [true, true, true] (ih v1 (x2 + 1) hf)
    refine ab_iload_n 1 dX12_size_24 rfl rfl ?_
    exact f_reti dX12_size_25 rfl (Nat.le_refl 0) (Nat.le_refl 0) hf
def F_X12_size (a0 : Int32) : Option Int32 :=
  F_X12_size_B4 a0 200 0 0
theorem m_X12_size {z0 : Int32} (a0 : Int32) (h : abH) (hf : F_X12_size a0 = some z0) : abM yX12_size cX12_size 3 (some .int) 1 0 0 [.int a0] h (some (.int z0)) h := by
  refine abM_of (ini := false) [some (.int a0), none, none] (by decide +kernel) (fun q => by first | rfl | cases q) (Nat.le_of_ble_eq_true rfl) rfl ?_
  unfold F_X12_size at hf
  refine ab_iconst dX12_size_0 kic_0 ?_
  refine ab_istore_n 1 [some (.int a0), some (.int 0), none] dX12_size_1 rfl (by decide) rfl rfl ?_
  refine ab_iconst dX12_size_2 kic_0 ?_
  refine ab_istore_n 2 [some (.int a0), some (.int 0), some (.int 0)] dX12_size_3 rfl (by decide) rfl rfl ?_
  exact ab_msk [true, true, true] (w_X12_size_B4 a0 h 200 0 0 hf)
def F_X12_worstBy_B6 (x0 : Nat) (x1 : Int32) (x2 : Int32) (x3 : Int32) (x4 : Int32) : Nat → Int32 → Int32 → abH → Option (Int32 × abH)
  | 0, _, _, _ => none
  | n + 1, x5, x6, h =>
    if x6 ≤ 9 then
      (F_X12_isIn x2 (x6 - 1)).bind fun v3 =>
      if v3 = 0 then
        nm (x5 + 0) fun v4 =>
        F_X12_worstBy_B6 x0 x1 x2 x3 x4 n v4 (x6 + 1) h
      else
        (ko 12 h x0).bind fun _ => bd2 (F_X12_coversWith x0 x1 x6 x3 x4 h) fun v6 h5 =>
        if v6 = 0 then
          nm (x5 + 0) fun v7 =>
          F_X12_worstBy_B6 x0 x1 x2 x3 x4 n v7 (x6 + 1) h5
        else
          nm (x5 + 1) fun v8 =>
          F_X12_worstBy_B6 x0 x1 x2 x3 x4 n v8 (x6 + 1) h5
    else
      (F_X12_size x2).bind fun v1 =>
      nm (v1 - x5) fun v2 =>
      if x5 ≤ v2 then
        some (v2, h)
      else
        some (x5, h)
theorem w_X12_worstBy_B6 {z0 : Int32} {hz : abH} (x0 : Nat) (x1 : Int32) (x2 : Int32) (x3 : Int32) (x4 : Int32)   : ∀ (n : Nat) (x5 : Int32) (x6 : Int32) (h : abH), F_X12_worstBy_B6 x0 x1 x2 x3 x4 n x5 x6 h = some (z0, hz) → abW cX12_worstBy 7 RX12 (some .int) false 6 0 0 none (some (.int z0), hz) 6 [some (.ref x0), some (.int x1), some (.int x2), some (.int x3), some (.int x4), some (.int x5), some (.int x6)] [] h 0 0 := by
  intro n
  induction n with
  | zero =>
    intro x5 x6 h hf
    exact absurd (show (none : Option (Int32 × abH)) = some _ from hf) (by simp)
  | succ n ih =>
    intro x5 x6 h hf
    rw [F_X12_worstBy_B6.eq_2] at hf
    refine ab_iload dX12_worstBy_6 rfl ?_
    refine ab_bipush dX12_worstBy_8 kbp_9 ?_
    refine ab_icmp_gt 53 dX12_worstBy_10 (by decide) hf (fun hf => ?_) (fun hf => ?_)
    · refine ab_iload dX12_worstBy_13 rfl ?_
      refine ab_iload_n 2 dX12_worstBy_15 rfl rfl ?_
      refine ab_iload dX12_worstBy_16 rfl ?_
      refine ab_iconst dX12_worstBy_18 kic_1 ?_
      refine ab_isub dX12_worstBy_19 ?_
      refine f_S_i (As := [.int x2, .int (x6 - 1)]) (st := [.int x5]) cs_X12_156 (fun v q => m_X12_isIn x2 (x6 - 1) h q) rfl rfl dX12_worstBy_20 (rmk rfl) hf (fun v3 hf => ?_)
      refine ab_if_eq 43 dX12_worstBy_23 (by decide) hf (fun hf => ?_) (fun hf => ?_)
      · refine ab_iconst dX12_worstBy_43 kic_0 ?_
        refine ab_iadd dX12_worstBy_44 ?_
        refine ab_nmi hf (fun v4 hf => ?_)
        refine ab_istore [some (.ref x0), some (.int x1), some (.int x2), some (.int x3), some (.int x4), some (.int v4), some (.int x6)] dX12_worstBy_45 (by decide) rfl rfl ?_
        refine ab_iinc (v := x6 + 1) [some (.ref x0), some (.int x1), some (.int x2), some (.int x3), some (.int x4), some (.int v4), some (.int (x6 + 1))] dX12_worstBy_47 rfl (kinc_1 _) (by decide) rfl rfl ?_
        refine ab_goto 6 dX12_worstBy_50 (by decide) ?_
        exact ab_msk [true, true, true, true, true, true, true] (ih v4 (x6 + 1) h hf)
      refine ab_aload_n 0 dX12_worstBy_26 rfl rfl ?_
      refine ab_iload_n 1 dX12_worstBy_27 rfl rfl ?_
      refine ab_iload dX12_worstBy_28 rfl ?_
      refine ab_iload_n 3 dX12_worstBy_30 rfl rfl ?_
      refine ab_iload dX12_worstBy_31 rfl ?_
      refine f_V_i2 (As := [.int x1, .int x6, .int x3, .int x4]) (st := [.int x5]) cs_X12_239 (fun v hq q => m_X12_coversWith x0 x1 x6 x3 x4 h q) rfl rfl dX12_worstBy_33 (rmk rfl) hf (fun v6 h5 hf => ?_)
      refine ab_if_eq 43 dX12_worstBy_36 (by decide) hf (fun hf => ?_) (fun hf => ?_)
      · refine ab_iconst dX12_worstBy_43 kic_0 ?_
        refine ab_iadd dX12_worstBy_44 ?_
        refine ab_nmi hf (fun v7 hf => ?_)
        refine ab_istore [some (.ref x0), some (.int x1), some (.int x2), some (.int x3), some (.int x4), some (.int v7), some (.int x6)] dX12_worstBy_45 (by decide) rfl rfl ?_
        refine ab_iinc (v := x6 + 1) [some (.ref x0), some (.int x1), some (.int x2), some (.int x3), some (.int x4), some (.int v7), some (.int (x6 + 1))] dX12_worstBy_47 rfl (kinc_1 _) (by decide) rfl rfl ?_
        refine ab_goto 6 dX12_worstBy_50 (by decide) ?_
        exact ab_msk [true, true, true, true, true, true, true] (ih v7 (x6 + 1) h5 hf)
      refine ab_iconst dX12_worstBy_39 kic_1 ?_
      refine ab_goto 44 dX12_worstBy_40 (by decide) ?_
      refine ab_iadd dX12_worstBy_44 ?_
      refine ab_nmi hf (fun v8 hf => ?_)
      refine ab_istore [some (.ref x0), some (.int x1), some (.int x2), some (.int x3), some (.int x4), some (.int v8), some (.int x6)] dX12_worstBy_45 (by decide) rfl rfl ?_
      refine ab_iinc (v := x6 + 1) [some (.ref x0), some (.int x1), some (.int x2), some (.int x3), some (.int x4), some (.int v8), some (.int (x6 + 1))] dX12_worstBy_47 rfl (kinc_1 _) (by decide) rfl rfl ?_
      refine ab_goto 6 dX12_worstBy_50 (by decide) ?_
      exact ab_msk [true, true, true, true, true, true, true] (ih v8 (x6 + 1) h5 hf)
    refine ab_iload_n 2 dX12_worstBy_53 rfl rfl ?_
    refine f_S_i (As := [.int x2]) (st := []) cs_X12_212 (fun v q => m_X12_size x2 h q) rfl rfl dX12_worstBy_54 (rmk rfl) hf (fun v1 hf => ?_)
    refine ab_iload dX12_worstBy_57 rfl ?_
    refine ab_isub dX12_worstBy_59 ?_
    refine ab_nmi hf (fun v2 hf => ?_)
    refine ab_istore [some (.ref x0), some (.int x1), some (.int x2), some (.int x3), some (.int x4), some (.int x5), some (.int v2)] dX12_worstBy_60 (by decide) rfl rfl ?_
    refine ab_iload dX12_worstBy_62 rfl ?_
    refine ab_iload dX12_worstBy_64 rfl ?_
    refine ab_icmp_le 74 dX12_worstBy_66 (by decide) hf (fun hf => ?_) (fun hf => ?_)
    · refine ab_iload dX12_worstBy_74 rfl ?_
      exact f_reti2 dX12_worstBy_76 rfl (Nat.le_refl 0) (Nat.le_refl 0) hf
    refine ab_iload dX12_worstBy_69 rfl ?_
    refine ab_goto 76 dX12_worstBy_71 (by decide) ?_
    exact f_reti2 dX12_worstBy_76 rfl (Nat.le_refl 0) (Nat.le_refl 0) hf
def F_X12_worstBy (a0 : Nat) (a1 : Int32) (a2 : Int32) (a3 : Int32) (a4 : Int32) (h : abH) : Option (Int32 × abH) :=
  F_X12_worstBy_B6 a0 a1 a2 a3 a4 200 0 1 h
theorem m_X12_worstBy {z0 : Int32} {hz : abH} (a0 : Nat) (a1 : Int32) (a2 : Int32) (a3 : Int32) (a4 : Int32) (h : abH) (hf : F_X12_worstBy a0 a1 a2 a3 a4 h = some (z0, hz)) : abM yX12_worstBy cX12_worstBy 7 (some .int) 6 0 0 [.ref a0, .int a1, .int a2, .int a3, .int a4] h (some (.int z0)) hz := by
  refine abM_of (ini := false) [some (.ref a0), some (.int a1), some (.int a2), some (.int a3), some (.int a4), none, none] (by decide +kernel) (fun q => by first | rfl | cases q) (Nat.le_of_ble_eq_true rfl) rfl ?_
  unfold F_X12_worstBy at hf
  refine ab_iconst dX12_worstBy_0 kic_0 ?_
  refine ab_istore [some (.ref a0), some (.int a1), some (.int a2), some (.int a3), some (.int a4), some (.int 0), none] dX12_worstBy_1 (by decide) rfl rfl ?_
  refine ab_iconst dX12_worstBy_3 kic_1 ?_
  refine ab_istore [some (.ref a0), some (.int a1), some (.int a2), some (.int a3), some (.int a4), some (.int 0), some (.int 1)] dX12_worstBy_4 (by decide) rfl rfl ?_
  exact ab_msk [true, true, true, true, true, true, true] (w_X12_worstBy_B6 a0 a1 a2 a3 a4 200 0 1 h hf)
def F_X12_lookFor_B58 (x0 : Nat) (x1 : Int32) (x2 : Int32) (x4 : Int32) (x5 : Int32) (x6 : Int32) (y0 : Int32) (h : abH) (k15 : Int32 → Int32 → Int32 → abH → Option (Int32 × abH)) : Option (Int32 × abH) :=
  if x6 < x4 then
    k15 y0 x6 (x5 + 1) h
  else
    k15 y0 x4 (x5 + 1) h
theorem w_X12_lookFor_B58 {z0 : Int32} {hz : abH} (x0 : Nat) (x1 : Int32) (x2 : Int32) (x4 : Int32) (x5 : Int32) (x6 : Int32) (y0 : Int32) (h : abH) (k15 : Int32 → Int32 → Int32 → abH → Option (Int32 × abH)) (hk15 : ∀ (w3 : Int32) (w4 : Int32) (w5 : Int32) (hw : abH), k15 w3 w4 w5 hw = some (z0, hz) → abW cX12_lookFor 7 RX12 (some .int) false 7 0 0 none (some (.int z0), hz) 15 [some (.ref x0), some (.int x1), some (.int x2), some (.int w3), some (.int w4), some (.int w5), none] [] hw 0 0) (hf : F_X12_lookFor_B58 x0 x1 x2 x4 x5 x6 y0 h k15 = some (z0, hz)) : abW cX12_lookFor 7 RX12 (some .int) false 7 0 0 none (some (.int z0), hz) 58 [some (.ref x0), some (.int x1), some (.int x2), none, some (.int x4), some (.int x5), some (.int x6)] [.int y0] h 0 0 := by
  unfold F_X12_lookFor_B58 at hf
  refine ab_istore_n 3 [some (.ref x0), some (.int x1), some (.int x2), some (.int y0), some (.int x4), some (.int x5), some (.int x6)] dX12_lookFor_58 rfl (by decide) rfl rfl ?_
  refine ab_iload dX12_lookFor_59 rfl ?_
  refine ab_iload dX12_lookFor_61 rfl ?_
  refine ab_icmp_ge 71 dX12_lookFor_63 (by decide) hf (fun hf => ?_) (fun hf => ?_)
  · refine ab_iload dX12_lookFor_66 rfl ?_
    refine ab_goto 73 dX12_lookFor_68 (by decide) ?_
    refine ab_istore [some (.ref x0), some (.int x1), some (.int x2), some (.int y0), some (.int x6), some (.int x5), some (.int x6)] dX12_lookFor_73 (by decide) rfl rfl ?_
    refine ab_iinc (v := x5 + 1) [some (.ref x0), some (.int x1), some (.int x2), some (.int y0), some (.int x6), some (.int (x5 + 1)), some (.int x6)] dX12_lookFor_75 rfl (kinc_1 _) (by decide) rfl rfl ?_
    refine ab_goto 15 dX12_lookFor_78 (by decide) ?_
    exact ab_msk [true, true, true, true, true, true, false] (hk15 y0 x6 (x5 + 1) h hf)
  refine ab_iload dX12_lookFor_71 rfl ?_
  refine ab_istore [some (.ref x0), some (.int x1), some (.int x2), some (.int y0), some (.int x4), some (.int x5), some (.int x6)] dX12_lookFor_73 (by decide) rfl rfl ?_
  refine ab_iinc (v := x5 + 1) [some (.ref x0), some (.int x1), some (.int x2), some (.int y0), some (.int x4), some (.int (x5 + 1)), some (.int x6)] dX12_lookFor_75 rfl (kinc_1 _) (by decide) rfl rfl ?_
  refine ab_goto 15 dX12_lookFor_78 (by decide) ?_
  exact ab_msk [true, true, true, true, true, true, false] (hk15 y0 x4 (x5 + 1) h hf)
def F_X12_lookFor_B15 (x0 : Nat) (x1 : Int32) (x2 : Int32) : Nat → Int32 → Int32 → Int32 → abH → Option (Int32 × abH)
  | 0, _, _, _, _ => none
  | n + 1, x3, x4, x5, h =>
    if x5 < 130 then
      if x2 = 0 then
        some (x3, h)
      else
        dz 10 <|
        dz 10 <|
        (ko 12 h x0).bind fun _ => bd2 (F_X12_worstBy x0 x1 x2 (x5 / 10) (x5 - x5 / 10 * 10) h) fun v4 h3 =>
        if v4 < x4 then
          F_X12_lookFor_B58 x0 x1 x2 x4 x5 v4 x5 h3 (fun u3 u4 u5 hu => F_X12_lookFor_B15 x0 x1 x2 n u3 u4 u5 hu)
        else
          F_X12_lookFor_B58 x0 x1 x2 x4 x5 v4 x3 h3 (fun u3 u4 u5 hu => F_X12_lookFor_B15 x0 x1 x2 n u3 u4 u5 hu)
    else
      some (x3, h)
theorem w_X12_lookFor_B15 {z0 : Int32} {hz : abH} (x0 : Nat) (x1 : Int32) (x2 : Int32)   : ∀ (n : Nat) (x3 : Int32) (x4 : Int32) (x5 : Int32) (h : abH), F_X12_lookFor_B15 x0 x1 x2 n x3 x4 x5 h = some (z0, hz) → abW cX12_lookFor 7 RX12 (some .int) false 7 0 0 none (some (.int z0), hz) 15 [some (.ref x0), some (.int x1), some (.int x2), some (.int x3), some (.int x4), some (.int x5), none] [] h 0 0 := by
  intro n
  induction n with
  | zero =>
    intro x3 x4 x5 h hf
    exact absurd (show (none : Option (Int32 × abH)) = some _ from hf) (by simp)
  | succ n ih =>
    intro x3 x4 x5 h hf
    rw [F_X12_lookFor_B15.eq_2] at hf
    refine ab_iload dX12_lookFor_15 rfl ?_
    refine ab_sipush dX12_lookFor_17 ksp_130 ?_
    refine ab_icmp_ge 81 dX12_lookFor_20 (by decide) hf (fun hf => ?_) (fun hf => ?_)
    · refine ab_iload_n 2 dX12_lookFor_23 rfl rfl ?_
      refine ab_if_eq 81 dX12_lookFor_24 (by decide) hf (fun hf => ?_) (fun hf => ?_)
      · refine ab_iload_n 3 dX12_lookFor_81 rfl rfl ?_
        exact f_reti2 dX12_lookFor_82 rfl (Nat.le_refl 0) (Nat.le_refl 0) hf
      refine ab_aload_n 0 dX12_lookFor_27 rfl rfl ?_
      refine ab_iload_n 1 dX12_lookFor_28 rfl rfl ?_
      refine ab_iload_n 2 dX12_lookFor_29 rfl rfl ?_
      refine ab_iload dX12_lookFor_30 rfl ?_
      refine ab_bipush dX12_lookFor_32 kbp_10 ?_
      refine f_idiv dX12_lookFor_34 hf (fun hf => ?_)
      refine ab_iload dX12_lookFor_35 rfl ?_
      refine ab_bipush dX12_lookFor_37 kbp_10 ?_
      refine f_irem dX12_lookFor_39 hf (fun hf => ?_)
      refine f_V_i2 (As := [.int x1, .int x2, .int (x5 / 10), .int (x5 - x5 / 10 * 10)]) (st := []) cs_X12_243 (fun v hq q => m_X12_worstBy x0 x1 x2 (x5 / 10) (x5 - x5 / 10 * 10) h q) rfl rfl dX12_lookFor_40 (rmk rfl) hf (fun v4 h3 hf => ?_)
      refine ab_istore [some (.ref x0), some (.int x1), some (.int x2), some (.int x3), some (.int x4), some (.int x5), some (.int v4)] dX12_lookFor_43 (by decide) rfl rfl ?_
      refine ab_iload dX12_lookFor_45 rfl ?_
      refine ab_iload dX12_lookFor_47 rfl ?_
      refine ab_icmp_ge 57 dX12_lookFor_49 (by decide) hf (fun hf => ?_) (fun hf => ?_)
      · refine ab_iload dX12_lookFor_52 rfl ?_
        refine ab_goto 58 dX12_lookFor_54 (by decide) ?_
        exact ab_msk [true, true, true, false, true, true, true] (w_X12_lookFor_B58 x0 x1 x2 x4 x5 v4 x5 h3 (fun u3 u4 u5 hu => F_X12_lookFor_B15 x0 x1 x2 n u3 u4 u5 hu) (fun u3 u4 u5 hu hf => ih u3 u4 u5 hu hf) hf)
      refine ab_iload_n 3 dX12_lookFor_57 rfl rfl ?_
      exact ab_msk [true, true, true, false, true, true, true] (w_X12_lookFor_B58 x0 x1 x2 x4 x5 v4 x3 h3 (fun u3 u4 u5 hu => F_X12_lookFor_B15 x0 x1 x2 n u3 u4 u5 hu) (fun u3 u4 u5 hu hf => ih u3 u4 u5 hu hf) hf)
    refine ab_iload_n 3 dX12_lookFor_81 rfl rfl ?_
    exact f_reti2 dX12_lookFor_82 rfl (Nat.le_refl 0) (Nat.le_refl 0) hf
def F_X12_lookFor (a0 : Nat) (a1 : Int32) (h : abH) : Option (Int32 × abH) :=
  (ko 12 h a0).bind fun _ => bd2 (F_X12_heightsOf a0 a1 h) fun v2 h1 =>
  F_X12_lookFor_B15 a0 a1 v2 200 (-1) 268435456 0 h1
theorem m_X12_lookFor {z0 : Int32} {hz : abH} (a0 : Nat) (a1 : Int32) (h : abH) (hf : F_X12_lookFor a0 a1 h = some (z0, hz)) : abM yX12_lookFor cX12_lookFor 7 (some .int) 7 0 0 [.ref a0, .int a1] h (some (.int z0)) hz := by
  refine abM_of (ini := false) [some (.ref a0), some (.int a1), none, none, none, none, none] (by decide +kernel) (fun q => by first | rfl | cases q) (Nat.le_of_ble_eq_true rfl) rfl ?_
  unfold F_X12_lookFor at hf
  refine ab_aload_n 0 dX12_lookFor_0 rfl rfl ?_
  refine ab_iload_n 1 dX12_lookFor_1 rfl rfl ?_
  refine f_V_i2 (As := [.int a1]) (st := []) cs_X12_168 (fun v hq q => m_X12_heightsOf a0 a1 h q) rfl rfl dX12_lookFor_2 (rmk rfl) hf (fun v2 h1 hf => ?_)
  refine ab_istore_n 2 [some (.ref a0), some (.int a1), some (.int v2), none, none, none, none] dX12_lookFor_5 rfl (by decide) rfl rfl ?_
  refine ab_iconst dX12_lookFor_6 kic_m1 ?_
  refine ab_istore_n 3 [some (.ref a0), some (.int a1), some (.int v2), some (.int (-1)), none, none, none] dX12_lookFor_7 rfl (by decide) rfl rfl ?_
  refine ab_ldc (v := 268435456) tb_949 dX12_lookFor_8 ?_
  refine ab_istore [some (.ref a0), some (.int a1), some (.int v2), some (.int (-1)), some (.int 268435456), none, none] dX12_lookFor_10 (by decide) rfl rfl ?_
  refine ab_iconst dX12_lookFor_12 kic_0 ?_
  refine ab_istore [some (.ref a0), some (.int a1), some (.int v2), some (.int (-1)), some (.int 268435456), some (.int 0), none] dX12_lookFor_13 (by decide) rfl rfl ?_
  exact ab_msk [true, true, true, true, true, true, true] (w_X12_lookFor_B15 a0 a1 v2 200 (-1) 268435456 0 h1 hf)
def F_X12_partyNow (a0 : Nat) (a1 : Int32) (a2 : Int32) (h : abH) : Option (Int32 × abH) :=
  if a2 = 0 then
    (gR 12 h a0 3).bind fun v1 =>
    (ga 0 h v1 a1).bind fun v2 =>
    some (v2, h)
  else
  if a2 = 1 then
    (gR 12 h a0 4).bind fun v3 =>
    (ga 0 h v3 a1).bind fun v4 =>
    some (v4, h)
  else
  if a2 = 2 then
    (gR 12 h a0 5).bind fun v5 =>
    (ga 0 h v5 a1).bind fun v6 =>
    some (v6, h)
  else
  if a2 = 3 then
    (gI 12 h a0 6).bind fun v7 =>
    (ko 12 h a0).bind fun _ => (F_X12_coversIn a0 a1 v7 h).bind fun v8 =>
    some (v8, h)
  else
  if a2 = 4 then
    (gI 12 h a0 6).bind fun v9 =>
    (ko 12 h a0).bind fun _ => (F_X12_coversIn a0 a1 v9 h).bind fun v10 =>
    (ko 12 h a0).bind fun _ => (F_X12_worthIn a0 v10 h).bind fun v11 =>
    some (v11, h)
  else
  if a2 = 5 then
    (ko 12 h a0).bind fun _ => bd2 (F_X12_heightsOf a0 a1 h) fun v13 h12 =>
    some (v13, h12)
  else
    (ko 12 h a0).bind fun _ => bd2 (F_X12_lookFor a0 a1 h) fun v15 h14 =>
    some (v15, h14)
theorem m_X12_partyNow {z0 : Int32} {hz : abH} (a0 : Nat) (a1 : Int32) (a2 : Int32) (h : abH) (hf : F_X12_partyNow a0 a1 a2 h = some (z0, hz)) : abM yX12_partyNow cX12_partyNow 3 (some .int) 8 0 0 [.ref a0, .int a1, .int a2] h (some (.int z0)) hz := by
  refine abM_of (ini := false) [some (.ref a0), some (.int a1), some (.int a2)] (by decide +kernel) (fun q => by first | rfl | cases q) (Nat.le_of_ble_eq_true rfl) rfl ?_
  unfold F_X12_partyNow at hf
  refine ab_iload_n 2 dX12_partyNow_0 rfl rfl ?_
  refine f_tab 0 39 40 dX12_partyNow_1 (by decide +kernel) (by decide) hf (fun hf => ?_) (fun q0 hf => ?_)
  · refine ab_aload_n 0 dX12_partyNow_40 rfl rfl ?_
    refine f_getR fs_X12_13 dX12_partyNow_41 hf (fun v1 hf => ?_)
    refine ab_iload_n 1 dX12_partyNow_44 rfl rfl ?_
    refine f_iald dX12_partyNow_45 hf (fun v2 hf => ?_)
    exact f_reti2 dX12_partyNow_46 rfl (Nat.le_refl 0) (Nat.le_refl 0) hf
  refine f_tab 1 46 47 dX12_partyNow_1 (by decide +kernel) (by decide) hf (fun hf => ?_) (fun q1 hf => ?_)
  · refine ab_aload_n 0 dX12_partyNow_47 rfl rfl ?_
    refine f_getR fs_X12_16 dX12_partyNow_48 hf (fun v3 hf => ?_)
    refine ab_iload_n 1 dX12_partyNow_51 rfl rfl ?_
    refine f_iald dX12_partyNow_52 hf (fun v4 hf => ?_)
    exact f_reti2 dX12_partyNow_53 rfl (Nat.le_refl 0) (Nat.le_refl 0) hf
  refine f_tab 2 53 54 dX12_partyNow_1 (by decide +kernel) (by decide) hf (fun hf => ?_) (fun q2 hf => ?_)
  · refine ab_aload_n 0 dX12_partyNow_54 rfl rfl ?_
    refine f_getR fs_X12_19 dX12_partyNow_55 hf (fun v5 hf => ?_)
    refine ab_iload_n 1 dX12_partyNow_58 rfl rfl ?_
    refine f_iald dX12_partyNow_59 hf (fun v6 hf => ?_)
    exact f_reti2 dX12_partyNow_60 rfl (Nat.le_refl 0) (Nat.le_refl 0) hf
  refine f_tab 3 60 61 dX12_partyNow_1 (by decide +kernel) (by decide) hf (fun hf => ?_) (fun q3 hf => ?_)
  · refine ab_aload_n 0 dX12_partyNow_61 rfl rfl ?_
    refine ab_iload_n 1 dX12_partyNow_62 rfl rfl ?_
    refine ab_aload_n 0 dX12_partyNow_63 rfl rfl ?_
    refine f_getI fs_X12_119 dX12_partyNow_64 hf (fun v7 hf => ?_)
    refine f_V_i (As := [.int a1, .int v7]) (st := []) cs_X12_162 (fun v q => m_X12_coversIn a0 a1 v7 h q) rfl rfl dX12_partyNow_67 (rmk rfl) hf (fun v8 hf => ?_)
    exact f_reti2 dX12_partyNow_70 rfl (Nat.le_refl 0) (Nat.le_refl 0) hf
  refine f_tab 4 70 71 dX12_partyNow_1 (by decide +kernel) (by decide) hf (fun hf => ?_) (fun q4 hf => ?_)
  · refine ab_aload_n 0 dX12_partyNow_71 rfl rfl ?_
    refine ab_aload_n 0 dX12_partyNow_72 rfl rfl ?_
    refine ab_iload_n 1 dX12_partyNow_73 rfl rfl ?_
    refine ab_aload_n 0 dX12_partyNow_74 rfl rfl ?_
    refine f_getI fs_X12_119 dX12_partyNow_75 hf (fun v9 hf => ?_)
    refine f_V_i (As := [.int a1, .int v9]) (st := [.ref a0]) cs_X12_162 (fun v q => m_X12_coversIn a0 a1 v9 h q) rfl rfl dX12_partyNow_78 (rmk rfl) hf (fun v10 hf => ?_)
    refine f_V_i (As := [.int v10]) (st := []) cs_X12_159 (fun v q => m_X12_worthIn a0 v10 h q) rfl rfl dX12_partyNow_81 (rmk rfl) hf (fun v11 hf => ?_)
    exact f_reti2 dX12_partyNow_84 rfl (Nat.le_refl 0) (Nat.le_refl 0) hf
  refine f_tab 5 84 85 dX12_partyNow_1 (by decide +kernel) (by decide) hf (fun hf => ?_) (fun q5 hf => ?_)
  · refine ab_aload_n 0 dX12_partyNow_85 rfl rfl ?_
    refine ab_iload_n 1 dX12_partyNow_86 rfl rfl ?_
    refine f_V_i2 (As := [.int a1]) (st := []) cs_X12_168 (fun v hq q => m_X12_heightsOf a0 a1 h q) rfl rfl dX12_partyNow_87 (rmk rfl) hf (fun v13 h12 hf => ?_)
    exact f_reti2 dX12_partyNow_90 rfl (Nat.le_refl 0) (Nat.le_refl 0) hf
  refine ab_tableOut 91 dX12_partyNow_1 (tout_5 q0 q1 q2 q3 q4 q5) (by decide) ?_
  refine ab_aload_n 0 dX12_partyNow_91 rfl rfl ?_
  refine ab_iload_n 1 dX12_partyNow_92 rfl rfl ?_
  refine f_V_i2 (As := [.int a1]) (st := []) cs_X12_171 (fun v hq q => m_X12_lookFor a0 a1 h q) rfl rfl dX12_partyNow_93 (rmk rfl) hf (fun v15 h14 hf => ?_)
  exact f_reti2 dX12_partyNow_96 rfl (Nat.le_refl 0) (Nat.le_refl 0) hf
