def F_X11_within (a0 : Int32) (a1 : Int32) (a2 : Int32) : Option Int32 :=
  if a0 < a1 then
    some 0
  else
    if a0 ≤ a2 then
      some 1
    else
      some 0
theorem m_X11_within {z0 : Int32} (a0 : Int32) (a1 : Int32) (a2 : Int32) (h : abH) (hf : F_X11_within a0 a1 a2 = some z0) : abM yX11_within cX11_within 3 (some .boolean) 1 0 0 [.int a0, .int a1, .int a2] h (some (.int z0)) h := by
  refine abM_of (ini := false) [some (.int a0), some (.int a1), some (.int a2)] (by decide +kernel) (fun q => by first | rfl | cases q) (Nat.le_of_ble_eq_true rfl) rfl ?_
  unfold F_X11_within at hf
  refine ab_iload_n 0 dX11_within_0 rfl rfl ?_
  refine ab_iload_n 1 dX11_within_1 rfl rfl ?_
  refine ab_icmp_lt 14 dX11_within_2 (by decide) hf (fun hf => ?_) (fun hf => ?_)
  · refine ab_iconst dX11_within_14 kic_0 ?_
    exact f_retzc rfl dX11_within_15 rfl (Nat.le_refl 0) (Nat.le_refl 0) hf
  refine ab_iload_n 0 dX11_within_5 rfl rfl ?_
  refine ab_iload_n 2 dX11_within_6 rfl rfl ?_
  refine ab_icmp_gt 14 dX11_within_7 (by decide) hf (fun hf => ?_) (fun hf => ?_)
  · refine ab_iconst dX11_within_10 kic_1 ?_
    refine ab_goto 15 dX11_within_11 (by decide) ?_
    exact f_retzc rfl dX11_within_15 rfl (Nat.le_refl 0) (Nat.le_refl 0) hf
  refine ab_iconst dX11_within_14 kic_0 ?_
  exact f_retzc rfl dX11_within_15 rfl (Nat.le_refl 0) (Nat.le_refl 0) hf
def F_J0_isLatin1_aae02  : Option Int32 :=
  if (1 : Int32) = 0 then
    some 0
  else
    if (0 : Int32) = 0 then
      some 1
    else
      some 0
theorem m_J0_isLatin1_aae02 {z0 : Int32}  (h : abH) (hf : F_J0_isLatin1_aae02  = some z0) : abM yJ0_isLatin1_aae02 cJ0_isLatin1_aae02 1 (some .boolean) 1 0 0 [.ref 1] h (some (.int z0)) h := by
  refine abM_of (ini := false) [some (.ref 1)] (by decide +kernel) (fun q => by first | rfl | cases q) (Nat.le_of_ble_eq_true rfl) rfl ?_
  unfold F_J0_isLatin1_aae02 at hf
  refine ab_compact tb_430 dJ0_isLatin1_aae02_0 ?_
  refine ab_if_eq 17 dJ0_isLatin1_aae02_3 (by decide) hf (fun hf => ?_) (fun hf => ?_)
  · refine ab_iconst dJ0_isLatin1_aae02_17 kic_0 ?_
    exact f_retzc rfl dJ0_isLatin1_aae02_18 rfl (Nat.le_refl 0) (Nat.le_refl 0) hf
  refine ab_aload_n 0 dJ0_isLatin1_aae02_6 rfl rfl ?_
  refine ab_strcod tb_646 dJ0_isLatin1_aae02_7 ?_
  refine ab_if_ne 17 dJ0_isLatin1_aae02_10 (by decide) hf (fun hf => ?_) (fun hf => ?_)
  · refine ab_iconst dJ0_isLatin1_aae02_13 kic_1 ?_
    refine ab_goto 18 dJ0_isLatin1_aae02_14 (by decide) ?_
    exact f_retzc rfl dJ0_isLatin1_aae02_18 rfl (Nat.le_refl 0) (Nat.le_refl 0) hf
  refine ab_iconst dJ0_isLatin1_aae02_17 kic_0 ?_
  exact f_retzc rfl dJ0_isLatin1_aae02_18 rfl (Nat.le_refl 0) (Nat.le_refl 0) hf
def F_J0_coder_7d493  : Option Int32 :=
  if (1 : Int32) = 0 then
    some 1
  else
    some 0
theorem m_J0_coder_7d493 {z0 : Int32}  (h : abH) (hf : F_J0_coder_7d493  = some z0) : abM yJ0_coder_7d493 cJ0_coder_7d493 1 (some .byte) 1 0 0 [.ref 1] h (some (.int z0)) h := by
  refine abM_of (ini := false) [some (.ref 1)] (by decide +kernel) (fun q => by first | rfl | cases q) (Nat.le_of_ble_eq_true rfl) rfl ?_
  unfold F_J0_coder_7d493 at hf
  refine ab_compact tb_430 dJ0_coder_7d493_0 ?_
  refine ab_if_eq 13 dJ0_coder_7d493_3 (by decide) hf (fun hf => ?_) (fun hf => ?_)
  · refine ab_iconst dJ0_coder_7d493_13 kic_1 ?_
    exact f_retT .byte rfl dJ0_coder_7d493_14 rfl (Nat.le_refl 0) (Nat.le_refl 0) hf
  refine ab_aload_n 0 dJ0_coder_7d493_6 rfl rfl ?_
  refine ab_strcod tb_646 dJ0_coder_7d493_7 ?_
  refine ab_goto 14 dJ0_coder_7d493_10 (by decide) ?_
  exact f_retT .byte rfl dJ0_coder_7d493_14 rfl (Nat.le_refl 0) (Nat.le_refl 0) hf
def F_J0_length_8abf5  : Option Int32 :=
  F_J0_coder_7d493.bind fun v1 =>
  some ((5 : Int32) >>> (v1 &&& 31))
theorem m_J0_length_8abf5 {z0 : Int32}  (h : abH) (hf : F_J0_length_8abf5  = some z0) : abM yJ0_length_8abf5 cJ0_length_8abf5 1 (some .int) 2 0 0 [.ref 1] h (some (.int z0)) h := by
  refine abM_of (ini := false) [some (.ref 1)] (by decide +kernel) (fun q => by first | rfl | cases q) (Nat.le_of_ble_eq_true rfl) rfl ?_
  unfold F_J0_length_8abf5 at hf
  refine ab_aload_n 0 dJ0_length_8abf5_0 rfl rfl ?_
  refine ab_strval tb_647 dJ0_length_8abf5_1 ?_
  refine ab_strlen dJ0_length_8abf5_4 ?_
  refine ab_aload_n 0 dJ0_length_8abf5_5 rfl rfl ?_
  refine f_Q_i (As := []) (st := [.int 5]) cs_J0_335 (fun v q => m_J0_coder_7d493  h q) rfl rfl dJ0_length_8abf5_6 (rmk rfl) hf (fun v1 hf => ?_)
  refine ab_ishr dJ0_length_8abf5_9 ?_
  exact f_reti dJ0_length_8abf5_10 rfl (Nat.le_refl 0) (Nat.le_refl 0) hf
def F_J1_canEncode_9a6ad (a0 : Int32) : Option Int32 :=
  if a0 < 0 then
    some 0
  else
    if a0 ≤ 255 then
      some 1
    else
      some 0
theorem m_J1_canEncode_9a6ad {z0 : Int32} (a0 : Int32) (h : abH) (hf : F_J1_canEncode_9a6ad a0 = some z0) : abM yJ1_canEncode_9a6ad cJ1_canEncode_9a6ad 1 (some .boolean) 1 0 0 [.int a0] h (some (.int z0)) h := by
  refine abM_of (ini := false) [some (.int a0)] (by decide +kernel) (fun q => by first | rfl | cases q) (Nat.le_of_ble_eq_true rfl) rfl ?_
  unfold F_J1_canEncode_9a6ad at hf
  refine ab_iload_n 0 dJ1_canEncode_9a6ad_0 rfl rfl ?_
  refine ab_if_lt 15 dJ1_canEncode_9a6ad_1 (by decide) hf (fun hf => ?_) (fun hf => ?_)
  · refine ab_iconst dJ1_canEncode_9a6ad_15 kic_0 ?_
    exact f_retzc rfl dJ1_canEncode_9a6ad_16 rfl (Nat.le_refl 0) (Nat.le_refl 0) hf
  refine ab_iload_n 0 dJ1_canEncode_9a6ad_4 rfl rfl ?_
  refine ab_sipush dJ1_canEncode_9a6ad_5 ksp_255 ?_
  refine ab_icmp_gt 15 dJ1_canEncode_9a6ad_8 (by decide) hf (fun hf => ?_) (fun hf => ?_)
  · refine ab_iconst dJ1_canEncode_9a6ad_11 kic_1 ?_
    refine ab_goto 16 dJ1_canEncode_9a6ad_12 (by decide) ?_
    exact f_retzc rfl dJ1_canEncode_9a6ad_16 rfl (Nat.le_refl 0) (Nat.le_refl 0) hf
  refine ab_iconst dJ1_canEncode_9a6ad_15 kic_0 ?_
  exact f_retzc rfl dJ1_canEncode_9a6ad_16 rfl (Nat.le_refl 0) (Nat.le_refl 0) hf
def F_J1_indexOfChar_4cfef_B7 (x3 : Int32) (x4 : Int32) : Nat → Int32 → Option Int32
  | 0, _ => none
  | n + 1, x5 =>
    if x5 < x3 then
      (sby x5).bind fun v2 =>
      if v2 = x4 then
        some x5
      else
        F_J1_indexOfChar_4cfef_B7 x3 x4 n (x5 + 1)
    else
      some (-1)
theorem w_J1_indexOfChar_4cfef_B7 {z0 : Int32} (x3 : Int32) (x4 : Int32) (h : abH)   : ∀ (n : Nat) (x5 : Int32), F_J1_indexOfChar_4cfef_B7 x3 x4 n x5 = some z0 → abW cJ1_indexOfChar_4cfef 6 RJ1 (some .int) false 1 0 0 none (some (.int z0), h) 7 [some (.ref 2), none, none, some (.int x3), some (.int x4), some (.int x5)] [] h 0 0 := by
  intro n
  induction n with
  | zero =>
    intro x5 hf
    exact absurd (show (none : Option Int32) = some _ from hf) (by simp)
  | succ n ih =>
    intro x5 hf
    rw [F_J1_indexOfChar_4cfef_B7.eq_2] at hf
    refine ab_iload dJ1_indexOfChar_4cfef_7 rfl ?_
    refine ab_iload_n 3 dJ1_indexOfChar_4cfef_9 rfl rfl ?_
    refine ab_icmp_ge 31 dJ1_indexOfChar_4cfef_10 (by decide) hf (fun hf => ?_) (fun hf => ?_)
    · refine ab_aload_n 0 dJ1_indexOfChar_4cfef_13 rfl rfl ?_
      refine ab_iload dJ1_indexOfChar_4cfef_14 rfl ?_
      refine f_sby dJ1_indexOfChar_4cfef_16 hf (fun v2 hf => ?_)
      refine ab_iload dJ1_indexOfChar_4cfef_17 rfl ?_
      refine ab_icmp_ne 25 dJ1_indexOfChar_4cfef_19 (by decide) hf (fun hf => ?_) (fun hf => ?_)
      · refine ab_iload dJ1_indexOfChar_4cfef_22 rfl ?_
        exact f_reti dJ1_indexOfChar_4cfef_24 rfl (Nat.le_refl 0) (Nat.le_refl 0) hf
      refine ab_iinc (v := x5 + 1) [some (.ref 2), none, none, some (.int x3), some (.int x4), some (.int (x5 + 1))] dJ1_indexOfChar_4cfef_25 rfl (kinc_1 _) (by decide) rfl rfl ?_
      refine ab_goto 7 dJ1_indexOfChar_4cfef_28 (by decide) ?_
      exact ab_msk [true, true, true, true, true, true] (ih (x5 + 1) hf)
    refine ab_iconst dJ1_indexOfChar_4cfef_31 kic_m1 ?_
    exact f_reti dJ1_indexOfChar_4cfef_32 rfl (Nat.le_refl 0) (Nat.le_refl 0) hf
def F_J1_indexOfChar_4cfef (a1 : Int32) (a2 : Int32) (a3 : Int32) : Option Int32 :=
  nm a1.toInt8.toInt32 fun v1 =>
  F_J1_indexOfChar_4cfef_B7 a3 v1 200 a2
theorem m_J1_indexOfChar_4cfef {z0 : Int32} (a1 : Int32) (a2 : Int32) (a3 : Int32) (h : abH) (hf : F_J1_indexOfChar_4cfef a1 a2 a3 = some z0) : abM yJ1_indexOfChar_4cfef cJ1_indexOfChar_4cfef 6 (some .int) 1 0 0 [.ref 2, .int a1, .int a2, .int a3] h (some (.int z0)) h := by
  refine abM_of (ini := false) [some (.ref 2), some (.int a1), some (.int a2), some (.int a3), none, none] (by decide +kernel) (fun q => by first | rfl | cases q) (Nat.le_of_ble_eq_true rfl) rfl ?_
  unfold F_J1_indexOfChar_4cfef at hf
  refine ab_iload_n 1 dJ1_indexOfChar_4cfef_0 rfl rfl ?_
  refine ab_i2b dJ1_indexOfChar_4cfef_1 ?_
  refine ab_nmi hf (fun v1 hf => ?_)
  refine ab_istore [some (.ref 2), some (.int a1), some (.int a2), some (.int a3), some (.int v1), none] dJ1_indexOfChar_4cfef_2 (by decide) rfl rfl ?_
  refine ab_iload_n 2 dJ1_indexOfChar_4cfef_4 rfl rfl ?_
  refine ab_istore [some (.ref 2), some (.int a1), some (.int a2), some (.int a3), some (.int v1), some (.int a2)] dJ1_indexOfChar_4cfef_5 (by decide) rfl rfl ?_
  exact ab_msk [true, false, false, true, true, true] (w_J1_indexOfChar_4cfef_B7 a3 v1 h 200 a2 hf)
def F_J1_indexOf_4cfef (a1 : Int32) (a2 : Int32) (a3 : Int32) : Option Int32 :=
  (F_J1_canEncode_9a6ad a1).bind fun v1 =>
  if v1 = 0 then
    some (-1)
  else
    nm (if a2 < 0 then 0 else a2) fun v2 =>
    nm (if 5 < a3 then 5 else a3) fun v3 =>
    if v2 < v3 then
      (F_J1_indexOfChar_4cfef a1 v2 v3).bind fun v4 =>
      some v4
    else
      some (-1)
theorem m_J1_indexOf_4cfef {z0 : Int32} (a1 : Int32) (a2 : Int32) (a3 : Int32) (h : abH) (hf : F_J1_indexOf_4cfef a1 a2 a3 = some z0) : abM yJ1_indexOf_4cfef cJ1_indexOf_4cfef 4 (some .int) 2 0 0 [.ref 2, .int a1, .int a2, .int a3] h (some (.int z0)) h := by
  refine abM_of (ini := false) [some (.ref 2), some (.int a1), some (.int a2), some (.int a3)] (by decide +kernel) (fun q => by first | rfl | cases q) (Nat.le_of_ble_eq_true rfl) rfl ?_
  unfold F_J1_indexOf_4cfef at hf
  refine ab_iload_n 1 dJ1_indexOf_4cfef_0 rfl rfl ?_
  refine f_S_i (As := [.int a1]) (st := []) cs_J1_88 (fun v q => m_J1_canEncode_9a6ad a1 h q) rfl rfl dJ1_indexOf_4cfef_1 (rmk rfl) hf (fun v1 hf => ?_)
  refine ab_if_ne 9 dJ1_indexOf_4cfef_4 (by decide) hf (fun hf => ?_) (fun hf => ?_)
  · refine ab_iconst dJ1_indexOf_4cfef_7 kic_m1 ?_
    exact f_reti dJ1_indexOf_4cfef_8 rfl (Nat.le_refl 0) (Nat.le_refl 0) hf
  refine ab_iload_n 2 dJ1_indexOf_4cfef_9 rfl rfl ?_
  refine ab_iconst dJ1_indexOf_4cfef_10 kic_0 ?_
  refine ab_max tb_446 tb_296 tb_10 tb_297 dJ1_indexOf_4cfef_11 (by decide) (Nat.le_of_ble_eq_true rfl) (Nat.le_refl 0) (Nat.le_refl 0) ?_
  refine ab_nmi hf (fun v2 hf => ?_)
  refine ab_istore_n 2 [some (.ref 2), some (.int a1), some (.int v2), some (.int a3)] dJ1_indexOf_4cfef_14 rfl (by decide) rfl rfl ?_
  refine ab_iload_n 3 dJ1_indexOf_4cfef_15 rfl rfl ?_
  refine ab_aload_n 0 dJ1_indexOf_4cfef_16 rfl rfl ?_
  refine ab_strlen dJ1_indexOf_4cfef_17 ?_
  refine ab_min tb_447 tb_448 tb_10 tb_449 dJ1_indexOf_4cfef_18 (by decide) (Nat.le_of_ble_eq_true rfl) (Nat.le_refl 0) (Nat.le_refl 0) ?_
  refine ab_nmi hf (fun v3 hf => ?_)
  refine ab_istore_n 3 [some (.ref 2), some (.int a1), some (.int v2), some (.int v3)] dJ1_indexOf_4cfef_21 rfl (by decide) rfl rfl ?_
  refine ab_iload_n 2 dJ1_indexOf_4cfef_22 rfl rfl ?_
  refine ab_iload_n 3 dJ1_indexOf_4cfef_23 rfl rfl ?_
  refine ab_icmp_lt 29 dJ1_indexOf_4cfef_24 (by decide) hf (fun hf => ?_) (fun hf => ?_)
  · refine ab_aload_n 0 dJ1_indexOf_4cfef_29 rfl rfl ?_
    refine ab_iload_n 1 dJ1_indexOf_4cfef_30 rfl rfl ?_
    refine ab_iload_n 2 dJ1_indexOf_4cfef_31 rfl rfl ?_
    refine ab_iload_n 3 dJ1_indexOf_4cfef_32 rfl rfl ?_
    refine f_S_i (As := [.ref 2, .int a1, .int v2, .int v3]) (st := []) cs_J1_95 (fun v q => m_J1_indexOfChar_4cfef a1 v2 v3 h q) rfl rfl dJ1_indexOf_4cfef_33 (rmk rfl) hf (fun v4 hf => ?_)
    exact f_reti dJ1_indexOf_4cfef_36 rfl (Nat.le_refl 0) (Nat.le_refl 0) hf
  refine ab_iconst dJ1_indexOf_4cfef_27 kic_m1 ?_
  exact f_reti dJ1_indexOf_4cfef_28 rfl (Nat.le_refl 0) (Nat.le_refl 0) hf
def F_J0_indexOf_7cf53 (a1 : Int32) (a2 : Int32) : Option Int32 :=
  F_J0_isLatin1_aae02.bind fun v1 =>
  if v1 = 0 then
    none
  else
    F_J0_length_8abf5.bind fun v2 =>
    (F_J1_indexOf_4cfef a1 a2 v2).bind fun v3 =>
    some v3
theorem m_J0_indexOf_7cf53 {z0 : Int32} (a1 : Int32) (a2 : Int32) (h : abH) (hf : F_J0_indexOf_7cf53 a1 a2 = some z0) : abM yJ0_indexOf_7cf53 cJ0_indexOf_7cf53 3 (some .int) 3 0 0 [.ref 1, .int a1, .int a2] h (some (.int z0)) h := by
  refine abM_of (ini := false) [some (.ref 1), some (.int a1), some (.int a2)] (by decide +kernel) (fun q => by first | rfl | cases q) (Nat.le_of_ble_eq_true rfl) rfl ?_
  unfold F_J0_indexOf_7cf53 at hf
  refine ab_aload_n 0 dJ0_indexOf_7cf53_0 rfl rfl ?_
  refine f_Q_i (As := []) (st := []) cs_J0_492 (fun v q => m_J0_isLatin1_aae02  h q) rfl rfl dJ0_indexOf_7cf53_1 (rmk rfl) hf (fun v1 hf => ?_)
  refine ab_if_eq 23 dJ0_indexOf_7cf53_4 (by decide) hf (fun hf => ?_) (fun hf => ?_)
  · cases hf
  refine ab_aload_n 0 dJ0_indexOf_7cf53_7 rfl rfl ?_
  refine ab_strval tb_647 dJ0_indexOf_7cf53_8 ?_
  refine ab_iload_n 1 dJ0_indexOf_7cf53_11 rfl rfl ?_
  refine ab_iload_n 2 dJ0_indexOf_7cf53_12 rfl rfl ?_
  refine ab_aload_n 0 dJ0_indexOf_7cf53_13 rfl rfl ?_
  refine f_Q_i (As := []) (st := [.int a2, .int a1, .ref 2]) cs_J0_505 (fun v q => m_J0_length_8abf5  h q) rfl rfl dJ0_indexOf_7cf53_14 (rmk rfl) hf (fun v2 hf => ?_)
  refine f_S_i (As := [.ref 2, .int a1, .int a2, .int v2]) (st := []) cs_J0_637 (fun v q => m_J1_indexOf_4cfef a1 a2 v2 h q) rfl rfl dJ0_indexOf_7cf53_17 (rmk rfl) hf (fun v3 hf => ?_)
  refine ab_goto 36 dJ0_indexOf_7cf53_20 (by decide) ?_
  exact f_reti dJ0_indexOf_7cf53_36 rfl (Nat.le_refl 0) (Nat.le_refl 0) hf
def F_J0_indexOf_0f7a4 (a1 : Int32) : Option Int32 :=
  (F_J0_indexOf_7cf53 a1 0).bind fun v1 =>
  some v1
theorem m_J0_indexOf_0f7a4 {z0 : Int32} (a1 : Int32) (h : abH) (hf : F_J0_indexOf_0f7a4 a1 = some z0) : abM yJ0_indexOf_0f7a4 cJ0_indexOf_0f7a4 2 (some .int) 4 0 0 [.ref 1, .int a1] h (some (.int z0)) h := by
  refine abM_of (ini := false) [some (.ref 1), some (.int a1)] (by decide +kernel) (fun q => by first | rfl | cases q) (Nat.le_of_ble_eq_true rfl) rfl ?_
  unfold F_J0_indexOf_0f7a4 at hf
  refine ab_aload_n 0 dJ0_indexOf_0f7a4_0 rfl rfl ?_
  refine ab_iload_n 1 dJ0_indexOf_0f7a4_1 rfl rfl ?_
  refine ab_iconst dJ0_indexOf_0f7a4_2 kic_0 ?_
  refine f_Q_i (As := [.int a1, .int 0]) (st := []) cs_J0_633 (fun v q => m_J0_indexOf_7cf53 a1 0 h q) rfl rfl dJ0_indexOf_0f7a4_3 (rmk rfl) hf (fun v1 hf => ?_)
  exact f_reti dJ0_indexOf_0f7a4_6 rfl (Nat.le_refl 0) (Nat.le_refl 0) hf
def F_X11_isTile (a0 : Int32) : Option Int32 :=
  if a0 < 0 then
    some 0
  else
    if a0 < 10 then
      some 1
    else
      some 0
theorem m_X11_isTile {z0 : Int32} (a0 : Int32) (h : abH) (hf : F_X11_isTile a0 = some z0) : abM yX11_isTile cX11_isTile 1 (some .boolean) 1 0 0 [.int a0] h (some (.int z0)) h := by
  refine abM_of (ini := false) [some (.int a0)] (by decide +kernel) (fun q => by first | rfl | cases q) (Nat.le_of_ble_eq_true rfl) rfl ?_
  unfold F_X11_isTile at hf
  refine ab_iload_n 0 dX11_isTile_0 rfl rfl ?_
  refine ab_if_lt 14 dX11_isTile_1 (by decide) hf (fun hf => ?_) (fun hf => ?_)
  · refine ab_iconst dX11_isTile_14 kic_0 ?_
    exact f_retzc rfl dX11_isTile_15 rfl (Nat.le_refl 0) (Nat.le_refl 0) hf
  refine ab_iload_n 0 dX11_isTile_4 rfl rfl ?_
  refine ab_bipush dX11_isTile_5 kbp_10 ?_
  refine ab_icmp_ge 14 dX11_isTile_7 (by decide) hf (fun hf => ?_) (fun hf => ?_)
  · refine ab_iconst dX11_isTile_10 kic_1 ?_
    refine ab_goto 15 dX11_isTile_11 (by decide) ?_
    exact f_retzc rfl dX11_isTile_15 rfl (Nat.le_refl 0) (Nat.le_refl 0) hf
  refine ab_iconst dX11_isTile_14 kic_0 ?_
  exact f_retzc rfl dX11_isTile_15 rfl (Nat.le_refl 0) (Nat.le_refl 0) hf
def F_J6_bitCount_0f7a4 (a0 : Int32) : Option Int32 :=
  nm (a0 - (((a0.toUInt32 >>> ((1 : Int32).toUInt32 &&& Int32.toUInt32 31)).toInt32) &&& 1431655765)) fun v1 =>
  nm ((v1 &&& 858993459) + (((v1.toUInt32 >>> ((2 : Int32).toUInt32 &&& Int32.toUInt32 31)).toInt32) &&& 858993459)) fun v2 =>
  nm ((v2 + ((v2.toUInt32 >>> ((4 : Int32).toUInt32 &&& Int32.toUInt32 31)).toInt32)) &&& 252645135) fun v3 =>
  nm (v3 + ((v3.toUInt32 >>> ((8 : Int32).toUInt32 &&& Int32.toUInt32 31)).toInt32)) fun v4 =>
  nm (v4 + ((v4.toUInt32 >>> ((16 : Int32).toUInt32 &&& Int32.toUInt32 31)).toInt32)) fun v5 =>
  some (v5 &&& 63)
theorem m_J6_bitCount_0f7a4 {z0 : Int32} (a0 : Int32) (h : abH) (hf : F_J6_bitCount_0f7a4 a0 = some z0) : abM yJ6_bitCount_0f7a4 cJ6_bitCount_0f7a4 1 (some .int) 1 0 0 [.int a0] h (some (.int z0)) h := by
  refine abM_of (ini := false) [some (.int a0)] (by decide +kernel) (fun q => by first | rfl | cases q) (Nat.le_of_ble_eq_true rfl) rfl ?_
  unfold F_J6_bitCount_0f7a4 at hf
  refine ab_iload_n 0 dJ6_bitCount_0f7a4_0 rfl rfl ?_
  refine ab_iload_n 0 dJ6_bitCount_0f7a4_1 rfl rfl ?_
  refine ab_iconst dJ6_bitCount_0f7a4_2 kic_1 ?_
  refine ab_iushr dJ6_bitCount_0f7a4_3 ?_
  refine ab_ldcw (v := 1431655765) tb_292 dJ6_bitCount_0f7a4_4 ?_
  refine ab_iand dJ6_bitCount_0f7a4_7 ?_
  refine ab_isub dJ6_bitCount_0f7a4_8 ?_
  refine ab_nmi hf (fun v1 hf => ?_)
  refine ab_istore_n 0 [some (.int v1)] dJ6_bitCount_0f7a4_9 rfl (by decide) rfl rfl ?_
  refine ab_iload_n 0 dJ6_bitCount_0f7a4_10 rfl rfl ?_
  refine ab_ldcw (v := 858993459) tb_293 dJ6_bitCount_0f7a4_11 ?_
  refine ab_iand dJ6_bitCount_0f7a4_14 ?_
  refine ab_iload_n 0 dJ6_bitCount_0f7a4_15 rfl rfl ?_
  refine ab_iconst dJ6_bitCount_0f7a4_16 kic_2 ?_
  refine ab_iushr dJ6_bitCount_0f7a4_17 ?_
  refine ab_ldcw (v := 858993459) tb_293 dJ6_bitCount_0f7a4_18 ?_
  refine ab_iand dJ6_bitCount_0f7a4_21 ?_
  refine ab_iadd dJ6_bitCount_0f7a4_22 ?_
  refine ab_nmi hf (fun v2 hf => ?_)
  refine ab_istore_n 0 [some (.int v2)] dJ6_bitCount_0f7a4_23 rfl (by decide) rfl rfl ?_
  refine ab_iload_n 0 dJ6_bitCount_0f7a4_24 rfl rfl ?_
  refine ab_iload_n 0 dJ6_bitCount_0f7a4_25 rfl rfl ?_
  refine ab_iconst dJ6_bitCount_0f7a4_26 kic_4 ?_
  refine ab_iushr dJ6_bitCount_0f7a4_27 ?_
  refine ab_iadd dJ6_bitCount_0f7a4_28 ?_
  refine ab_ldcw (v := 252645135) tb_294 dJ6_bitCount_0f7a4_29 ?_
  refine ab_iand dJ6_bitCount_0f7a4_32 ?_
  refine ab_nmi hf (fun v3 hf => ?_)
  refine ab_istore_n 0 [some (.int v3)] dJ6_bitCount_0f7a4_33 rfl (by decide) rfl rfl ?_
  refine ab_iload_n 0 dJ6_bitCount_0f7a4_34 rfl rfl ?_
  refine ab_iload_n 0 dJ6_bitCount_0f7a4_35 rfl rfl ?_
  refine ab_bipush dJ6_bitCount_0f7a4_36 kbp_8 ?_
  refine ab_iushr dJ6_bitCount_0f7a4_38 ?_
  refine ab_iadd dJ6_bitCount_0f7a4_39 ?_
  refine ab_nmi hf (fun v4 hf => ?_)
  refine ab_istore_n 0 [some (.int v4)] dJ6_bitCount_0f7a4_40 rfl (by decide) rfl rfl ?_
  refine ab_iload_n 0 dJ6_bitCount_0f7a4_41 rfl rfl ?_
  refine ab_iload_n 0 dJ6_bitCount_0f7a4_42 rfl rfl ?_
  refine ab_bipush dJ6_bitCount_0f7a4_43 kbp_16 ?_
  refine ab_iushr dJ6_bitCount_0f7a4_45 ?_
  refine ab_iadd dJ6_bitCount_0f7a4_46 ?_
  refine ab_nmi hf (fun v5 hf => ?_)
  refine ab_istore_n 0 [some (.int v5)] dJ6_bitCount_0f7a4_47 rfl (by decide) rfl rfl ?_
  refine ab_iload_n 0 dJ6_bitCount_0f7a4_48 rfl rfl ?_
  refine ab_bipush dJ6_bitCount_0f7a4_49 kbp_63 ?_
  refine ab_iand dJ6_bitCount_0f7a4_51 ?_
  exact f_reti dJ6_bitCount_0f7a4_52 rfl (Nat.le_refl 0) (Nat.le_refl 0) hf
def F_X11_isHour (a0 : Int32) : Option Int32 :=
  if a0 < 0 then
    some 0
  else
    if a0 < 13 then
      some 1
    else
      some 0
theorem m_X11_isHour {z0 : Int32} (a0 : Int32) (h : abH) (hf : F_X11_isHour a0 = some z0) : abM yX11_isHour cX11_isHour 1 (some .boolean) 1 0 0 [.int a0] h (some (.int z0)) h := by
  refine abM_of (ini := false) [some (.int a0)] (by decide +kernel) (fun q => by first | rfl | cases q) (Nat.le_of_ble_eq_true rfl) rfl ?_
  unfold F_X11_isHour at hf
  refine ab_iload_n 0 dX11_isHour_0 rfl rfl ?_
  refine ab_if_lt 14 dX11_isHour_1 (by decide) hf (fun hf => ?_) (fun hf => ?_)
  · refine ab_iconst dX11_isHour_14 kic_0 ?_
    exact f_retzc rfl dX11_isHour_15 rfl (Nat.le_refl 0) (Nat.le_refl 0) hf
  refine ab_iload_n 0 dX11_isHour_4 rfl rfl ?_
  refine ab_bipush dX11_isHour_5 kbp_13 ?_
  refine ab_icmp_ge 14 dX11_isHour_7 (by decide) hf (fun hf => ?_) (fun hf => ?_)
  · refine ab_iconst dX11_isHour_10 kic_1 ?_
    refine ab_goto 15 dX11_isHour_11 (by decide) ?_
    exact f_retzc rfl dX11_isHour_15 rfl (Nat.le_refl 0) (Nat.le_refl 0) hf
  refine ab_iconst dX11_isHour_14 kic_0 ?_
  exact f_retzc rfl dX11_isHour_15 rfl (Nat.le_refl 0) (Nat.le_refl 0) hf
