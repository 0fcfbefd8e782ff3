def F_X3_init (a0 : Nat) (h : abH) : Option abH :=
  nm (h ++ [.inl (0, 10, fun _ => 0)]) fun h1 =>
  (sV 3 h1 a0 0 (.ref (h.length + 3))).bind fun h2 =>
  nm (h2 ++ [.inl (0, 10, fun _ => 0)]) fun h3 =>
  (sV 3 h3 a0 1 (.ref (h2.length + 3))).bind fun h4 =>
  nm (h4 ++ [.inl (0, 100, fun _ => 0)]) fun h5 =>
  (sV 3 h5 a0 2 (.ref (h4.length + 3))).bind fun h6 =>
  nm (h6 ++ [.inl (0, 100, fun _ => 0)]) fun h7 =>
  (sV 3 h7 a0 3 (.ref (h6.length + 3))).bind fun h8 =>
  some h8
theorem m_X3_init {hz : abH} (a0 : Nat) (h : abH) (hf : F_X3_init a0 h = some hz) : abM yX3_init cX3_init 1 none 1 4 220 [.ref a0] h none hz := by
  refine abM_of (ini := true) [some (.ref a0)] (by decide +kernel) (fun q => by first | rfl | cases q) (Nat.le_of_ble_eq_true rfl) rfl ?_
  unfold F_X3_init at hf
  refine ab_aload_n 0 dX3_init_0 rfl rfl ?_
  refine ab_obj tb_133 tb_26 tb_27 dX3_init_1 (by decide) (Nat.le_of_ble_eq_true rfl) ?_
  refine ab_aload_n 0 dX3_init_4 rfl rfl ?_
  refine ab_bipush dX3_init_5 kbp_10 ?_
  refine ab_newa (a := .int) 0 10 tb_117 (by simp) (by decide) (by decide +kernel) (by decide) dX3_init_7 (by omega) (by omega) ?_
  refine ab_nmh hf (fun h1 hf => ?_)
  refine f_putF fp_X3_9 rfl (abFit_a _ _) dX3_init_9 hf (fun h2 hf => ?_)
  refine ab_aload_n 0 dX3_init_12 rfl rfl ?_
  refine ab_bipush dX3_init_13 kbp_10 ?_
  refine ab_newa (a := .int) 0 10 tb_117 (by simp) (by decide) (by decide +kernel) (by decide) dX3_init_15 (by omega) (by omega) ?_
  refine ab_nmh hf (fun h3 hf => ?_)
  refine f_putF fp_X3_15 rfl (abFit_a _ _) dX3_init_17 hf (fun h4 hf => ?_)
  refine ab_aload_n 0 dX3_init_20 rfl rfl ?_
  refine ab_bipush dX3_init_21 kbp_100 ?_
  refine ab_newa (a := .int) 0 100 tb_117 (by simp) (by decide) (by decide +kernel) (by decide) dX3_init_23 (by omega) (by omega) ?_
  refine ab_nmh hf (fun h5 hf => ?_)
  refine f_putF fp_X3_18 rfl (abFit_a _ _) dX3_init_25 hf (fun h6 hf => ?_)
  refine ab_aload_n 0 dX3_init_28 rfl rfl ?_
  refine ab_bipush dX3_init_29 kbp_100 ?_
  refine ab_newa (a := .int) 0 100 tb_117 (by simp) (by decide) (by decide +kernel) (by decide) dX3_init_31 (by omega) (by omega) ?_
  refine ab_nmh hf (fun h7 hf => ?_)
  refine f_putF fp_X3_21 rfl (abFit_a _ _) dX3_init_33 hf (fun h8 hf => ?_)
  exact f_retv2 dX3_init_36 rfl (by omega) (by omega) hf
