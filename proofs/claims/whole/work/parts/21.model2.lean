def F_X12_party (a0 : Nat) (a1 : Int32) (a2 : Int32) (h : abH) : Option (Int32 × abH) :=
  (ko 12 h a0).bind fun _ => (F_X12_isParty a0 a1 h).bind fun v1 =>
  if v1 = 0 then
    some ((-101), h)
  else
    (F_X12_within a2 0 6).bind fun v2 =>
    if v2 = 0 then
      some ((-102), h)
    else
      (ko 12 h a0).bind fun _ => bd2 (F_X12_partyNow a0 a1 a2 h) fun v4 h3 =>
      some (v4, h3)
theorem m_X12_party {z0 : Int32} {hz : abH} (a0 : Nat) (a1 : Int32) (a2 : Int32) (h : abH) (hf : F_X12_party a0 a1 a2 h = some (z0, hz)) : abM yX12_party cX12_party 3 (some .int) 9 0 0 [.ref a0, .int a1, .int a2] h (some (.int z0)) hz := by
  refine abM_of (ini := false) [some (.ref a0), some (.int a1), some (.int a2)] (by decide +kernel) (fun q => by first | rfl | cases q) (Nat.le_of_ble_eq_true rfl) rfl ?_
  unfold F_X12_party at hf
  refine ab_aload_n 0 dX12_party_0 rfl rfl ?_
  refine ab_iload_n 1 dX12_party_1 rfl rfl ?_
  refine f_V_i (As := [.int a1]) (st := []) cs_X12_134 (fun v q => m_X12_isParty a0 a1 h q) rfl rfl dX12_party_2 (rmk rfl) hf (fun v1 hf => ?_)
  refine ab_if_ne 13 dX12_party_5 (by decide) hf (fun hf => ?_) (fun hf => ?_)
  · refine ab_bipush dX12_party_8 kbp_m101 ?_
    refine ab_goto 34 dX12_party_10 (by decide) ?_
    exact f_reti2 dX12_party_34 rfl (Nat.le_refl 0) (Nat.le_refl 0) hf
  refine ab_iload_n 2 dX12_party_13 rfl rfl ?_
  refine ab_iconst dX12_party_14 kic_0 ?_
  refine ab_bipush dX12_party_15 kbp_6 ?_
  refine f_S_i (As := [.int a2, .int 0, .int 6]) (st := []) cs_X12_83 (fun v q => m_X12_within a2 0 6 h q) rfl rfl dX12_party_17 (rmk rfl) hf (fun v2 hf => ?_)
  refine ab_if_eq 32 dX12_party_20 (by decide) hf (fun hf => ?_) (fun hf => ?_)
  · refine ab_bipush dX12_party_32 kbp_m102 ?_
    exact f_reti2 dX12_party_34 rfl (Nat.le_refl 0) (Nat.le_refl 0) hf
  refine ab_aload_n 0 dX12_party_23 rfl rfl ?_
  refine ab_iload_n 1 dX12_party_24 rfl rfl ?_
  refine ab_iload_n 2 dX12_party_25 rfl rfl ?_
  refine f_V_i2 (As := [.int a1, .int a2]) (st := []) cs_X12_174 (fun v hq q => m_X12_partyNow a0 a1 a2 h q) rfl rfl dX12_party_26 (rmk rfl) hf (fun v4 h3 hf => ?_)
  refine ab_goto 34 dX12_party_29 (by decide) ?_
  exact f_reti2 dX12_party_34 rfl (Nat.le_refl 0) (Nat.le_refl 0) hf
def F_X12_as (a0 : Nat) (a1 : Int32) (a2 : Int32) (h : abH) : Option Int32 :=
  (ko 12 h a0).bind fun _ => (F_X12_isParty a0 a1 h).bind fun v1 =>
  if v1 = 0 then
    some (-101)
  else
    (F_X12_within a2 0 4).bind fun v2 =>
    if v2 = 0 then
      some (-102)
    else
      (gR 12 h a0 3).bind fun v3 =>
      (ga 0 h v3 a1).bind fun v4 =>
      if a2 = 0 then
        some a1
      else
        if v4 = a2 then
          some a1
        else
          if a2 = 1 then
            if v4 = 4 then
              some a1
            else
              some (-1)
          else
            some (-1)
theorem m_X12_as {z0 : Int32} (a0 : Nat) (a1 : Int32) (a2 : Int32) (h : abH) (hf : F_X12_as a0 a1 a2 h = some z0) : abM yX12_as cX12_as 4 (some .int) 3 0 0 [.ref a0, .int a1, .int a2] h (some (.int z0)) h := by
  refine abM_of (ini := false) [some (.ref a0), some (.int a1), some (.int a2), none] (by decide +kernel) (fun q => by first | rfl | cases q) (Nat.le_of_ble_eq_true rfl) rfl ?_
  unfold F_X12_as at hf
  refine ab_aload_n 0 dX12_as_0 rfl rfl ?_
  refine ab_iload_n 1 dX12_as_1 rfl rfl ?_
  refine f_V_i (As := [.int a1]) (st := []) cs_X12_134 (fun v q => m_X12_isParty a0 a1 h q) rfl rfl dX12_as_2 (rmk rfl) hf (fun v1 hf => ?_)
  refine ab_if_ne 11 dX12_as_5 (by decide) hf (fun hf => ?_) (fun hf => ?_)
  · refine ab_bipush dX12_as_8 kbp_m101 ?_
    exact f_reti dX12_as_10 rfl (Nat.le_refl 0) (Nat.le_refl 0) hf
  refine ab_iload_n 2 dX12_as_11 rfl rfl ?_
  refine ab_iconst dX12_as_12 kic_0 ?_
  refine ab_iconst dX12_as_13 kic_4 ?_
  refine f_S_i (As := [.int a2, .int 0, .int 4]) (st := []) cs_X12_83 (fun v q => m_X12_within a2 0 4 h q) rfl rfl dX12_as_14 (rmk rfl) hf (fun v2 hf => ?_)
  refine ab_if_ne 23 dX12_as_17 (by decide) hf (fun hf => ?_) (fun hf => ?_)
  · refine ab_bipush dX12_as_20 kbp_m102 ?_
    exact f_reti dX12_as_22 rfl (Nat.le_refl 0) (Nat.le_refl 0) hf
  refine ab_aload_n 0 dX12_as_23 rfl rfl ?_
  refine f_getR fs_X12_13 dX12_as_24 hf (fun v3 hf => ?_)
  refine ab_iload_n 1 dX12_as_27 rfl rfl ?_
  refine f_iald dX12_as_28 hf (fun v4 hf => ?_)
  refine ab_istore_n 3 [some (.ref a0), some (.int a1), some (.int a2), some (.int v4)] dX12_as_29 rfl (by decide) rfl rfl ?_
  refine ab_iload_n 2 dX12_as_30 rfl rfl ?_
  refine ab_if_eq 49 dX12_as_31 (by decide) hf (fun hf => ?_) (fun hf => ?_)
  · refine ab_iload_n 1 dX12_as_49 rfl rfl ?_
    refine ab_goto 54 dX12_as_50 (by decide) ?_
    exact f_reti dX12_as_54 rfl (Nat.le_refl 0) (Nat.le_refl 0) hf
  refine ab_iload_n 3 dX12_as_34 rfl rfl ?_
  refine ab_iload_n 2 dX12_as_35 rfl rfl ?_
  refine ab_icmp_eq 49 dX12_as_36 (by decide) hf (fun hf => ?_) (fun hf => ?_)
  · refine ab_iload_n 1 dX12_as_49 rfl rfl ?_
    refine ab_goto 54 dX12_as_50 (by decide) ?_
    exact f_reti dX12_as_54 rfl (Nat.le_refl 0) (Nat.le_refl 0) hf
  refine ab_iload_n 2 dX12_as_39 rfl rfl ?_
  refine ab_iconst dX12_as_40 kic_1 ?_
  refine ab_icmp_ne 53 dX12_as_41 (by decide) hf (fun hf => ?_) (fun hf => ?_)
  · refine ab_iload_n 3 dX12_as_44 rfl rfl ?_
    refine ab_iconst dX12_as_45 kic_4 ?_
    refine ab_icmp_ne 53 dX12_as_46 (by decide) hf (fun hf => ?_) (fun hf => ?_)
    · refine ab_iload_n 1 dX12_as_49 rfl rfl ?_
      refine ab_goto 54 dX12_as_50 (by decide) ?_
      exact f_reti dX12_as_54 rfl (Nat.le_refl 0) (Nat.le_refl 0) hf
    refine ab_iconst dX12_as_53 kic_m1 ?_
    exact f_reti dX12_as_54 rfl (Nat.le_refl 0) (Nat.le_refl 0) hf
  refine ab_iconst dX12_as_53 kic_m1 ?_
  exact f_reti dX12_as_54 rfl (Nat.le_refl 0) (Nat.le_refl 0) hf
def F_X12_covers (a0 : Nat) (a1 : Int32) (a2 : Int32) (h : abH) : Option Int32 :=
  (ko 12 h a0).bind fun _ => (F_X12_isParty a0 a1 h).bind fun v1 =>
  if v1 = 0 then
    some (-101)
  else
    (F_X12_within a2 0 12).bind fun v2 =>
    if v2 = 0 then
      some (-102)
    else
      (ko 12 h a0).bind fun _ => (F_X12_coversIn a0 a1 a2 h).bind fun v3 =>
      some v3
theorem m_X12_covers {z0 : Int32} (a0 : Nat) (a1 : Int32) (a2 : Int32) (h : abH) (hf : F_X12_covers a0 a1 a2 h = some z0) : abM yX12_covers cX12_covers 3 (some .int) 5 0 0 [.ref a0, .int a1, .int a2] h (some (.int z0)) h := by
  refine abM_of (ini := false) [some (.ref a0), some (.int a1), some (.int a2)] (by decide +kernel) (fun q => by first | rfl | cases q) (Nat.le_of_ble_eq_true rfl) rfl ?_
  unfold F_X12_covers at hf
  refine ab_aload_n 0 dX12_covers_0 rfl rfl ?_
  refine ab_iload_n 1 dX12_covers_1 rfl rfl ?_
  refine f_V_i (As := [.int a1]) (st := []) cs_X12_134 (fun v q => m_X12_isParty a0 a1 h q) rfl rfl dX12_covers_2 (rmk rfl) hf (fun v1 hf => ?_)
  refine ab_if_ne 11 dX12_covers_5 (by decide) hf (fun hf => ?_) (fun hf => ?_)
  · refine ab_bipush dX12_covers_8 kbp_m101 ?_
    exact f_reti dX12_covers_10 rfl (Nat.le_refl 0) (Nat.le_refl 0) hf
  refine ab_iload_n 2 dX12_covers_11 rfl rfl ?_
  refine ab_iconst dX12_covers_12 kic_0 ?_
  refine ab_bipush dX12_covers_13 kbp_12 ?_
  refine f_S_i (As := [.int a2, .int 0, .int 12]) (st := []) cs_X12_83 (fun v q => m_X12_within a2 0 12 h q) rfl rfl dX12_covers_15 (rmk rfl) hf (fun v2 hf => ?_)
  refine ab_if_eq 30 dX12_covers_18 (by decide) hf (fun hf => ?_) (fun hf => ?_)
  · refine ab_bipush dX12_covers_30 kbp_m102 ?_
    exact f_reti dX12_covers_32 rfl (Nat.le_refl 0) (Nat.le_refl 0) hf
  refine ab_aload_n 0 dX12_covers_21 rfl rfl ?_
  refine ab_iload_n 1 dX12_covers_22 rfl rfl ?_
  refine ab_iload_n 2 dX12_covers_23 rfl rfl ?_
  refine f_V_i (As := [.int a1, .int a2]) (st := []) cs_X12_162 (fun v q => m_X12_coversIn a0 a1 a2 h q) rfl rfl dX12_covers_24 (rmk rfl) hf (fun v3 hf => ?_)
  refine ab_goto 32 dX12_covers_27 (by decide) ?_
  exact f_reti dX12_covers_32 rfl (Nat.le_refl 0) (Nat.le_refl 0) hf
def F_X12_isTile (a0 : Nat) (a1 : Int32) (h : abH) : Option Int32 :=
  (gI 12 h a0 1).bind fun v1 =>
  if v1 ≤ 0 then
    some 0
  else
    (F_X12_within a1 0 9).bind fun v2 =>
    if v2 = 0 then
      some 0
    else
      some 1
theorem m_X12_isTile {z0 : Int32} (a0 : Nat) (a1 : Int32) (h : abH) (hf : F_X12_isTile a0 a1 h = some z0) : abM yX12_isTile cX12_isTile 2 (some .boolean) 2 0 0 [.ref a0, .int a1] h (some (.int z0)) h := by
  refine abM_of (ini := false) [some (.ref a0), some (.int a1)] (by decide +kernel) (fun q => by first | rfl | cases q) (Nat.le_of_ble_eq_true rfl) rfl ?_
  unfold F_X12_isTile at hf
  refine ab_aload_n 0 dX12_isTile_0 rfl rfl ?_
  refine f_getI fs_X12_116 dX12_isTile_1 hf (fun v1 hf => ?_)
  refine ab_if_le 21 dX12_isTile_4 (by decide) hf (fun hf => ?_) (fun hf => ?_)
  · refine ab_iconst dX12_isTile_21 kic_0 ?_
    exact f_retzc rfl dX12_isTile_22 rfl (Nat.le_refl 0) (Nat.le_refl 0) hf
  refine ab_iload_n 1 dX12_isTile_7 rfl rfl ?_
  refine ab_iconst dX12_isTile_8 kic_0 ?_
  refine ab_bipush dX12_isTile_9 kbp_9 ?_
  refine f_S_i (As := [.int a1, .int 0, .int 9]) (st := []) cs_X12_83 (fun v q => m_X12_within a1 0 9 h q) rfl rfl dX12_isTile_11 (rmk rfl) hf (fun v2 hf => ?_)
  refine ab_if_eq 21 dX12_isTile_14 (by decide) hf (fun hf => ?_) (fun hf => ?_)
  · refine ab_iconst dX12_isTile_21 kic_0 ?_
    exact f_retzc rfl dX12_isTile_22 rfl (Nat.le_refl 0) (Nat.le_refl 0) hf
  refine ab_iconst dX12_isTile_17 kic_1 ?_
  refine ab_goto 22 dX12_isTile_18 (by decide) ?_
  exact f_retzc rfl dX12_isTile_22 rfl (Nat.le_refl 0) (Nat.le_refl 0) hf
def F_X12_tileNow_B52 (x0 : Nat) (x1 : Int32) (x2 : Int32) (x3 : Int32) (x4 : Int32) (y0 : Int32) (h : abH) (k5 : Int32 → Int32 → Option Int32) : Option Int32 :=
  if y0 = 0 then
    nm (x3 ||| 0) fun v7 =>
    k5 v7 (x4 + 1)
  else
    nm (x3 ||| ((1 : Int32) <<< (x4 &&& 31))) fun v8 =>
    k5 v8 (x4 + 1)
theorem w_X12_tileNow_B52 {z0 : Int32} (x0 : Nat) (x1 : Int32) (x2 : Int32) (x3 : Int32) (x4 : Int32) (y0 : Int32) (h : abH) (k5 : Int32 → Int32 → Option Int32) (hk5 : ∀ (w3 : Int32) (w4 : Int32), k5 w3 w4 = some z0 → abW cX12_tileNow 6 RX12 (some .int) false 5 0 0 none (some (.int z0), h) 5 [some (.ref x0), some (.int x1), some (.int x2), some (.int w3), some (.int w4), none] [] h 0 0) (hf : F_X12_tileNow_B52 x0 x1 x2 x3 x4 y0 h k5 = some z0) : abW cX12_tileNow 6 RX12 (some .int) false 5 0 0 none (some (.int z0), h) 52 [some (.ref x0), some (.int x1), some (.int x2), some (.int x3), some (.int x4), none] [.int y0] h 0 0 := by
  unfold F_X12_tileNow_B52 at hf
  refine ab_istore [some (.ref x0), some (.int x1), some (.int x2), some (.int x3), some (.int x4), some (.int y0)] dX12_tileNow_52 (by decide) rfl rfl ?_
  refine ab_iload_n 3 dX12_tileNow_54 rfl rfl ?_
  refine ab_iload dX12_tileNow_55 rfl ?_
  refine ab_if_eq 67 dX12_tileNow_57 (by decide) hf (fun hf => ?_) (fun hf => ?_)
  · refine ab_iconst dX12_tileNow_67 kic_0 ?_
    refine ab_ior dX12_tileNow_68 ?_
    refine ab_nmi hf (fun v7 hf => ?_)
    refine ab_istore_n 3 [some (.ref x0), some (.int x1), some (.int x2), some (.int v7), some (.int x4), some (.int y0)] dX12_tileNow_69 rfl (by decide) rfl rfl ?_
    refine ab_iinc (v := x4 + 1) [some (.ref x0), some (.int x1), some (.int x2), some (.int v7), some (.int (x4 + 1)), some (.int y0)] dX12_tileNow_70 rfl (kinc_1 _) (by decide) rfl rfl ?_
    refine ab_goto 5 dX12_tileNow_73 (by decide) ?_
    exact ab_msk [true, true, true, true, true, false] (hk5 v7 (x4 + 1) hf)
  refine ab_iconst dX12_tileNow_60 kic_1 ?_
  refine ab_iload dX12_tileNow_61 rfl ?_
  refine ab_ishl dX12_tileNow_63 ?_
  refine ab_goto 68 dX12_tileNow_64 (by decide) ?_
  refine ab_ior dX12_tileNow_68 ?_
  refine ab_nmi hf (fun v8 hf => ?_)
  refine ab_istore_n 3 [some (.ref x0), some (.int x1), some (.int x2), some (.int v8), some (.int x4), some (.int y0)] dX12_tileNow_69 rfl (by decide) rfl rfl ?_
  refine ab_iinc (v := x4 + 1) [some (.ref x0), some (.int x1), some (.int x2), some (.int v8), some (.int (x4 + 1)), some (.int y0)] dX12_tileNow_70 rfl (kinc_1 _) (by decide) rfl rfl ?_
  refine ab_goto 5 dX12_tileNow_73 (by decide) ?_
  exact ab_msk [true, true, true, true, true, false] (hk5 v8 (x4 + 1) hf)
def F_X12_tileNow_B5 (x0 : Nat) (x1 : Int32) (x2 : Int32) (h : abH) : Nat → Int32 → Int32 → Option Int32
  | 0, _, _ => none
  | n + 1, x3, x4 =>
    (gI 12 h x0 1).bind fun v1 =>
    if x4 < v1 then
      if x2 = 1 then
        (gR 12 h x0 5).bind fun v9 =>
        (ga 0 h v9 x4).bind fun v10 =>
        if v10 = x1 then
          F_X12_tileNow_B52 x0 x1 x2 x3 x4 1 h (fun u3 u4 => F_X12_tileNow_B5 x0 x1 x2 h n u3 u4)
        else
          F_X12_tileNow_B52 x0 x1 x2 x3 x4 0 h (fun u3 u4 => F_X12_tileNow_B5 x0 x1 x2 h n u3 u4)
      else
        (gI 12 h x0 6).bind fun v4 =>
        (ko 12 h x0).bind fun _ => (F_X12_coversIn x0 x4 v4 h).bind fun v5 =>
        (F_X12_isIn v5 x1).bind fun v6 =>
        F_X12_tileNow_B52 x0 x1 x2 x3 x4 v6 h (fun u3 u4 => F_X12_tileNow_B5 x0 x1 x2 h n u3 u4)
    else
      if x2 = 0 then
        (gR 12 h x0 2).bind fun v2 =>
        (ga 0 h v2 x1).bind fun v3 =>
        some v3
      else
        some x3
theorem w_X12_tileNow_B5 {z0 : Int32} (x0 : Nat) (x1 : Int32) (x2 : Int32) (h : abH)   : ∀ (n : Nat) (x3 : Int32) (x4 : Int32), F_X12_tileNow_B5 x0 x1 x2 h n x3 x4 = some z0 → abW cX12_tileNow 6 RX12 (some .int) false 5 0 0 none (some (.int z0), h) 5 [some (.ref x0), some (.int x1), some (.int x2), some (.int x3), some (.int x4), none] [] h 0 0 := by
  intro n
  induction n with
  | zero =>
    intro x3 x4 hf
    exact absurd (show (none : Option Int32) = some _ from hf) (by simp)
  | succ n ih =>
    intro x3 x4 hf
    rw [F_X12_tileNow_B5.eq_2] at hf
    refine ab_iload dX12_tileNow_5 rfl ?_
    refine ab_aload_n 0 dX12_tileNow_7 rfl rfl ?_
    refine f_getI fs_X12_116 dX12_tileNow_8 hf (fun v1 hf => ?_)
    refine ab_icmp_ge 76 dX12_tileNow_11 (by decide) hf (fun hf => ?_) (fun hf => ?_)
    · refine ab_iload_n 2 dX12_tileNow_14 rfl rfl ?_
      refine ab_iconst dX12_tileNow_15 kic_1 ?_
      refine ab_icmp_ne 38 dX12_tileNow_16 (by decide) hf (fun hf => ?_) (fun hf => ?_)
      · refine ab_aload_n 0 dX12_tileNow_19 rfl rfl ?_
        refine f_getR fs_X12_19 dX12_tileNow_20 hf (fun v9 hf => ?_)
        refine ab_iload dX12_tileNow_23 rfl ?_
        refine f_iald dX12_tileNow_25 hf (fun v10 hf => ?_)
        refine ab_iload_n 1 dX12_tileNow_26 rfl rfl ?_
        refine ab_icmp_ne 34 dX12_tileNow_27 (by decide) hf (fun hf => ?_) (fun hf => ?_)
        · refine ab_iconst dX12_tileNow_30 kic_1 ?_
          refine ab_goto 52 dX12_tileNow_31 (by decide) ?_
          exact ab_msk [true, true, true, true, true, true] (w_X12_tileNow_B52 x0 x1 x2 x3 x4 1 h (fun u3 u4 => F_X12_tileNow_B5 x0 x1 x2 h n u3 u4) (fun u3 u4 hf => ih u3 u4 hf) hf)
        refine ab_iconst dX12_tileNow_34 kic_0 ?_
        refine ab_goto 52 dX12_tileNow_35 (by decide) ?_
        exact ab_msk [true, true, true, true, true, true] (w_X12_tileNow_B52 x0 x1 x2 x3 x4 0 h (fun u3 u4 => F_X12_tileNow_B5 x0 x1 x2 h n u3 u4) (fun u3 u4 hf => ih u3 u4 hf) hf)
      refine ab_aload_n 0 dX12_tileNow_38 rfl rfl ?_
      refine ab_iload dX12_tileNow_39 rfl ?_
      refine ab_aload_n 0 dX12_tileNow_41 rfl rfl ?_
      refine f_getI fs_X12_119 dX12_tileNow_42 hf (fun v4 hf => ?_)
      refine f_V_i (As := [.int x4, .int v4]) (st := []) cs_X12_162 (fun v q => m_X12_coversIn x0 x4 v4 h q) rfl rfl dX12_tileNow_45 (rmk rfl) hf (fun v5 hf => ?_)
      refine ab_iload_n 1 dX12_tileNow_48 rfl rfl ?_
      refine f_S_i (As := [.int v5, .int x1]) (st := []) cs_X12_156 (fun v q => m_X12_isIn v5 x1 h q) rfl rfl dX12_tileNow_49 (rmk rfl) hf (fun v6 hf => ?_)
      exact ab_msk [true, true, true, true, true, true] (w_X12_tileNow_B52 x0 x1 x2 x3 x4 v6 h (fun u3 u4 => F_X12_tileNow_B5 x0 x1 x2 h n u3 u4) (fun u3 u4 hf => ih u3 u4 hf) hf)
    refine ab_iload_n 2 dX12_tileNow_76 rfl rfl ?_
    refine ab_if_ne 89 dX12_tileNow_77 (by decide) hf (fun hf => ?_) (fun hf => ?_)
    · refine ab_aload_n 0 dX12_tileNow_80 rfl rfl ?_
      refine f_getR fs_X12_7 dX12_tileNow_81 hf (fun v2 hf => ?_)
      refine ab_iload_n 1 dX12_tileNow_84 rfl rfl ?_
      refine f_iald dX12_tileNow_85 hf (fun v3 hf => ?_)
      refine ab_goto 90 dX12_tileNow_86 (by decide) ?_
      exact f_reti dX12_tileNow_90 rfl (Nat.le_refl 0) (Nat.le_refl 0) hf
    refine ab_iload_n 3 dX12_tileNow_89 rfl rfl ?_
    exact f_reti dX12_tileNow_90 rfl (Nat.le_refl 0) (Nat.le_refl 0) hf
def F_X12_tileNow (a0 : Nat) (a1 : Int32) (a2 : Int32) (h : abH) : Option Int32 :=
  F_X12_tileNow_B5 a0 a1 a2 h 200 0 0
theorem m_X12_tileNow {z0 : Int32} (a0 : Nat) (a1 : Int32) (a2 : Int32) (h : abH) (hf : F_X12_tileNow a0 a1 a2 h = some z0) : abM yX12_tileNow cX12_tileNow 6 (some .int) 5 0 0 [.ref a0, .int a1, .int a2] h (some (.int z0)) h := by
  refine abM_of (ini := false) [some (.ref a0), some (.int a1), some (.int a2), none, none, none] (by decide +kernel) (fun q => by first | rfl | cases q) (Nat.le_of_ble_eq_true rfl) rfl ?_
  unfold F_X12_tileNow at hf
  refine ab_iconst dX12_tileNow_0 kic_0 ?_
  refine ab_istore_n 3 [some (.ref a0), some (.int a1), some (.int a2), some (.int 0), none, none] dX12_tileNow_1 rfl (by decide) rfl rfl ?_
  refine ab_iconst dX12_tileNow_2 kic_0 ?_
  refine ab_istore [some (.ref a0), some (.int a1), some (.int a2), some (.int 0), some (.int 0), none] dX12_tileNow_3 (by decide) rfl rfl ?_
  exact ab_msk [true, true, true, true, true, true] (w_X12_tileNow_B5 a0 a1 a2 h 200 0 0 hf)
def F_X12_tile (a0 : Nat) (a1 : Int32) (a2 : Int32) (h : abH) : Option Int32 :=
  (ko 12 h a0).bind fun _ => (F_X12_isTile a0 a1 h).bind fun v1 =>
  if v1 = 0 then
    some (-101)
  else
    (F_X12_within a2 0 2).bind fun v2 =>
    if v2 = 0 then
      some (-102)
    else
      (ko 12 h a0).bind fun _ => (F_X12_tileNow a0 a1 a2 h).bind fun v3 =>
      some v3
theorem m_X12_tile {z0 : Int32} (a0 : Nat) (a1 : Int32) (a2 : Int32) (h : abH) (hf : F_X12_tile a0 a1 a2 h = some z0) : abM yX12_tile cX12_tile 3 (some .int) 6 0 0 [.ref a0, .int a1, .int a2] h (some (.int z0)) h := by
  refine abM_of (ini := false) [some (.ref a0), some (.int a1), some (.int a2)] (by decide +kernel) (fun q => by first | rfl | cases q) (Nat.le_of_ble_eq_true rfl) rfl ?_
  unfold F_X12_tile at hf
  refine ab_aload_n 0 dX12_tile_0 rfl rfl ?_
  refine ab_iload_n 1 dX12_tile_1 rfl rfl ?_
  refine f_V_i (As := [.int a1]) (st := []) cs_X12_177 (fun v q => m_X12_isTile a0 a1 h q) rfl rfl dX12_tile_2 (rmk rfl) hf (fun v1 hf => ?_)
  refine ab_if_ne 13 dX12_tile_5 (by decide) hf (fun hf => ?_) (fun hf => ?_)
  · refine ab_bipush dX12_tile_8 kbp_m101 ?_
    refine ab_goto 33 dX12_tile_10 (by decide) ?_
    exact f_reti dX12_tile_33 rfl (Nat.le_refl 0) (Nat.le_refl 0) hf
  refine ab_iload_n 2 dX12_tile_13 rfl rfl ?_
  refine ab_iconst dX12_tile_14 kic_0 ?_
  refine ab_iconst dX12_tile_15 kic_2 ?_
  refine f_S_i (As := [.int a2, .int 0, .int 2]) (st := []) cs_X12_83 (fun v q => m_X12_within a2 0 2 h q) rfl rfl dX12_tile_16 (rmk rfl) hf (fun v2 hf => ?_)
  refine ab_if_eq 31 dX12_tile_19 (by decide) hf (fun hf => ?_) (fun hf => ?_)
  · refine ab_bipush dX12_tile_31 kbp_m102 ?_
    exact f_reti dX12_tile_33 rfl (Nat.le_refl 0) (Nat.le_refl 0) hf
  refine ab_aload_n 0 dX12_tile_22 rfl rfl ?_
  refine ab_iload_n 1 dX12_tile_23 rfl rfl ?_
  refine ab_iload_n 2 dX12_tile_24 rfl rfl ?_
  refine f_V_i (As := [.int a1, .int a2]) (st := []) cs_X12_180 (fun v q => m_X12_tileNow a0 a1 a2 h q) rfl rfl dX12_tile_25 (rmk rfl) hf (fun v3 hf => ?_)
  refine ab_goto 33 dX12_tile_28 (by decide) ?_
  exact f_reti dX12_tile_33 rfl (Nat.le_refl 0) (Nat.le_refl 0) hf
def F_X12_areTwo (a0 : Nat) (a1 : Int32) (a2 : Int32) (h : abH) : Option Int32 :=
  (ko 12 h a0).bind fun _ => (F_X12_isParty a0 a1 h).bind fun v1 =>
  if v1 = 0 then
    some 0
  else
    (ko 12 h a0).bind fun _ => (F_X12_isParty a0 a2 h).bind fun v2 =>
    if v2 = 0 then
      some 0
    else
      if a1 = a2 then
        some 0
      else
        some 1
theorem m_X12_areTwo {z0 : Int32} (a0 : Nat) (a1 : Int32) (a2 : Int32) (h : abH) (hf : F_X12_areTwo a0 a1 a2 h = some z0) : abM yX12_areTwo cX12_areTwo 3 (some .boolean) 3 0 0 [.ref a0, .int a1, .int a2] h (some (.int z0)) h := by
  refine abM_of (ini := false) [some (.ref a0), some (.int a1), some (.int a2)] (by decide +kernel) (fun q => by first | rfl | cases q) (Nat.le_of_ble_eq_true rfl) rfl ?_
  unfold F_X12_areTwo at hf
  refine ab_aload_n 0 dX12_areTwo_0 rfl rfl ?_
  refine ab_iload_n 1 dX12_areTwo_1 rfl rfl ?_
  refine f_V_i (As := [.int a1]) (st := []) cs_X12_134 (fun v q => m_X12_isParty a0 a1 h q) rfl rfl dX12_areTwo_2 (rmk rfl) hf (fun v1 hf => ?_)
  refine ab_if_eq 25 dX12_areTwo_5 (by decide) hf (fun hf => ?_) (fun hf => ?_)
  · refine ab_iconst dX12_areTwo_25 kic_0 ?_
    exact f_retzc rfl dX12_areTwo_26 rfl (Nat.le_refl 0) (Nat.le_refl 0) hf
  refine ab_aload_n 0 dX12_areTwo_8 rfl rfl ?_
  refine ab_iload_n 2 dX12_areTwo_9 rfl rfl ?_
  refine f_V_i (As := [.int a2]) (st := []) cs_X12_134 (fun v q => m_X12_isParty a0 a2 h q) rfl rfl dX12_areTwo_10 (rmk rfl) hf (fun v2 hf => ?_)
  refine ab_if_eq 25 dX12_areTwo_13 (by decide) hf (fun hf => ?_) (fun hf => ?_)
  · refine ab_iconst dX12_areTwo_25 kic_0 ?_
    exact f_retzc rfl dX12_areTwo_26 rfl (Nat.le_refl 0) (Nat.le_refl 0) hf
  refine ab_iload_n 1 dX12_areTwo_16 rfl rfl ?_
  refine ab_iload_n 2 dX12_areTwo_17 rfl rfl ?_
  refine ab_icmp_eq 25 dX12_areTwo_18 (by decide) hf (fun hf => ?_) (fun hf => ?_)
  · refine ab_iconst dX12_areTwo_25 kic_0 ?_
    exact f_retzc rfl dX12_areTwo_26 rfl (Nat.le_refl 0) (Nat.le_refl 0) hf
  refine ab_iconst dX12_areTwo_21 kic_1 ?_
  refine ab_goto 26 dX12_areTwo_22 (by decide) ?_
  exact f_retzc rfl dX12_areTwo_26 rfl (Nat.le_refl 0) (Nat.le_refl 0) hf
def F_X12_foundBy (a0 : Nat) (a1 : Int32) (a2 : Int32) (h : abH) : Option Int32 :=
  (ko 12 h a0).bind fun _ => (F_X12_worthIn a0 (a1 &&& (a2 ^^^ (-1))) h).bind fun v1 =>
  (ko 12 h a0).bind fun _ => (F_X12_worthIn a0 (a2 &&& (a1 ^^^ (-1))) h).bind fun v2 =>
  some (v1 - v2)
theorem m_X12_foundBy {z0 : Int32} (a0 : Nat) (a1 : Int32) (a2 : Int32) (h : abH) (hf : F_X12_foundBy a0 a1 a2 h = some z0) : abM yX12_foundBy cX12_foundBy 3 (some .int) 3 0 0 [.ref a0, .int a1, .int a2] h (some (.int z0)) h := by
  refine abM_of (ini := false) [some (.ref a0), some (.int a1), some (.int a2)] (by decide +kernel) (fun q => by first | rfl | cases q) (Nat.le_of_ble_eq_true rfl) rfl ?_
  unfold F_X12_foundBy at hf
  refine ab_aload_n 0 dX12_foundBy_0 rfl rfl ?_
  refine ab_iload_n 1 dX12_foundBy_1 rfl rfl ?_
  refine ab_iload_n 2 dX12_foundBy_2 rfl rfl ?_
  refine ab_iconst dX12_foundBy_3 kic_m1 ?_
  refine ab_ixor dX12_foundBy_4 ?_
  refine ab_iand dX12_foundBy_5 ?_
  refine f_V_i (As := [.int (a1 &&& (a2 ^^^ (-1)))]) (st := []) cs_X12_159 (fun v q => m_X12_worthIn a0 (a1 &&& (a2 ^^^ (-1))) h q) rfl rfl dX12_foundBy_6 (rmk rfl) hf (fun v1 hf => ?_)
  refine ab_aload_n 0 dX12_foundBy_9 rfl rfl ?_
  refine ab_iload_n 2 dX12_foundBy_10 rfl rfl ?_
  refine ab_iload_n 1 dX12_foundBy_11 rfl rfl ?_
  refine ab_iconst dX12_foundBy_12 kic_m1 ?_
  refine ab_ixor dX12_foundBy_13 ?_
  refine ab_iand dX12_foundBy_14 ?_
  refine f_V_i (As := [.int (a2 &&& (a1 ^^^ (-1)))]) (st := [.int v1]) cs_X12_159 (fun v q => m_X12_worthIn a0 (a2 &&& (a1 ^^^ (-1))) h q) rfl rfl dX12_foundBy_15 (rmk rfl) hf (fun v2 hf => ?_)
  refine ab_isub dX12_foundBy_18 ?_
  exact f_reti dX12_foundBy_19 rfl (Nat.le_refl 0) (Nat.le_refl 0) hf
def F_X12_foundIn (a0 : Nat) (a1 : Int32) (a2 : Int32) (a3 : Int32) (h : abH) : Option Int32 :=
  (ko 12 h a0).bind fun _ => (F_X12_coversIn a0 a1 a3 h).bind fun v1 =>
  (ko 12 h a0).bind fun _ => (F_X12_coversIn a0 a2 a3 h).bind fun v2 =>
  (ko 12 h a0).bind fun _ => (F_X12_foundBy a0 v1 v2 h).bind fun v3 =>
  some v3
theorem m_X12_foundIn {z0 : Int32} (a0 : Nat) (a1 : Int32) (a2 : Int32) (a3 : Int32) (h : abH) (hf : F_X12_foundIn a0 a1 a2 a3 h = some z0) : abM yX12_foundIn cX12_foundIn 4 (some .int) 5 0 0 [.ref a0, .int a1, .int a2, .int a3] h (some (.int z0)) h := by
  refine abM_of (ini := false) [some (.ref a0), some (.int a1), some (.int a2), some (.int a3)] (by decide +kernel) (fun q => by first | rfl | cases q) (Nat.le_of_ble_eq_true rfl) rfl ?_
  unfold F_X12_foundIn at hf
  refine ab_aload_n 0 dX12_foundIn_0 rfl rfl ?_
  refine ab_aload_n 0 dX12_foundIn_1 rfl rfl ?_
  refine ab_iload_n 1 dX12_foundIn_2 rfl rfl ?_
  refine ab_iload_n 3 dX12_foundIn_3 rfl rfl ?_
  refine f_V_i (As := [.int a1, .int a3]) (st := [.ref a0]) cs_X12_162 (fun v q => m_X12_coversIn a0 a1 a3 h q) rfl rfl dX12_foundIn_4 (rmk rfl) hf (fun v1 hf => ?_)
  refine ab_aload_n 0 dX12_foundIn_7 rfl rfl ?_
  refine ab_iload_n 2 dX12_foundIn_8 rfl rfl ?_
  refine ab_iload_n 3 dX12_foundIn_9 rfl rfl ?_
  refine f_V_i (As := [.int a2, .int a3]) (st := [.int v1, .ref a0]) cs_X12_162 (fun v q => m_X12_coversIn a0 a2 a3 h q) rfl rfl dX12_foundIn_10 (rmk rfl) hf (fun v2 hf => ?_)
  refine f_V_i (As := [.int v1, .int v2]) (st := []) cs_X12_165 (fun v q => m_X12_foundBy a0 v1 v2 h q) rfl rfl dX12_foundIn_13 (rmk rfl) hf (fun v3 hf => ?_)
  exact f_reti dX12_foundIn_16 rfl (Nat.le_refl 0) (Nat.le_refl 0) hf
def F_X12_found (a0 : Nat) (a1 : Int32) (a2 : Int32) (a3 : Int32) (h : abH) : Option Int32 :=
  (ko 12 h a0).bind fun _ => (F_X12_areTwo a0 a1 a2 h).bind fun v1 =>
  if v1 = 0 then
    some (-101)
  else
    (F_X12_within a3 0 12).bind fun v2 =>
    if v2 = 0 then
      some (-102)
    else
      (ko 12 h a0).bind fun _ => (F_X12_foundIn a0 a1 a2 a3 h).bind fun v3 =>
      some (v3 + 100)
theorem m_X12_found {z0 : Int32} (a0 : Nat) (a1 : Int32) (a2 : Int32) (a3 : Int32) (h : abH) (hf : F_X12_found a0 a1 a2 a3 h = some z0) : abM yX12_found cX12_found 4 (some .int) 6 0 0 [.ref a0, .int a1, .int a2, .int a3] h (some (.int z0)) h := by
  refine abM_of (ini := false) [some (.ref a0), some (.int a1), some (.int a2), some (.int a3)] (by decide +kernel) (fun q => by first | rfl | cases q) (Nat.le_of_ble_eq_true rfl) rfl ?_
  unfold F_X12_found at hf
  refine ab_aload_n 0 dX12_found_0 rfl rfl ?_
  refine ab_iload_n 1 dX12_found_1 rfl rfl ?_
  refine ab_iload_n 2 dX12_found_2 rfl rfl ?_
  refine f_V_i (As := [.int a1, .int a2]) (st := []) cs_X12_183 (fun v q => m_X12_areTwo a0 a1 a2 h q) rfl rfl dX12_found_3 (rmk rfl) hf (fun v1 hf => ?_)
  refine ab_if_ne 12 dX12_found_6 (by decide) hf (fun hf => ?_) (fun hf => ?_)
  · refine ab_bipush dX12_found_9 kbp_m101 ?_
    exact f_reti dX12_found_11 rfl (Nat.le_refl 0) (Nat.le_refl 0) hf
  refine ab_iload_n 3 dX12_found_12 rfl rfl ?_
  refine ab_iconst dX12_found_13 kic_0 ?_
  refine ab_bipush dX12_found_14 kbp_12 ?_
  refine f_S_i (As := [.int a3, .int 0, .int 12]) (st := []) cs_X12_83 (fun v q => m_X12_within a3 0 12 h q) rfl rfl dX12_found_16 (rmk rfl) hf (fun v2 hf => ?_)
  refine ab_if_eq 35 dX12_found_19 (by decide) hf (fun hf => ?_) (fun hf => ?_)
  · refine ab_bipush dX12_found_35 kbp_m102 ?_
    exact f_reti dX12_found_37 rfl (Nat.le_refl 0) (Nat.le_refl 0) hf
  refine ab_aload_n 0 dX12_found_22 rfl rfl ?_
  refine ab_iload_n 1 dX12_found_23 rfl rfl ?_
  refine ab_iload_n 2 dX12_found_24 rfl rfl ?_
  refine ab_iload_n 3 dX12_found_25 rfl rfl ?_
  refine f_V_i (As := [.int a1, .int a2, .int a3]) (st := []) cs_X12_186 (fun v q => m_X12_foundIn a0 a1 a2 a3 h q) rfl rfl dX12_found_26 (rmk rfl) hf (fun v3 hf => ?_)
  refine ab_bipush dX12_found_29 kbp_100 ?_
  refine ab_iadd dX12_found_31 ?_
  refine ab_goto 37 dX12_found_32 (by decide) ?_
  exact f_reti dX12_found_37 rfl (Nat.le_refl 0) (Nat.le_refl 0) hf
def F_X12_tick_B50 (x0 : Nat) (y0 : Nat) (y1 : Int32) (y2 : Int32) (h : abH) : Option (Int32 × abH) :=
  (sV 12 h y0 7 (.int (y1 + y2))).bind fun h5 =>
  (gI 12 h5 x0 6).bind fun v6 =>
  if v6 = 12 then
    (sV 12 h5 x0 6 (.int 0)).bind fun h10 =>
    (gI 12 h10 x0 6).bind fun v11 =>
    some (v11, h10)
  else
    (gI 12 h5 x0 6).bind fun v7 =>
    (sV 12 h5 x0 6 (.int (v7 + 1))).bind fun h8 =>
    (gI 12 h8 x0 6).bind fun v9 =>
    some (v9, h8)
theorem w_X12_tick_B50 {z0 : Int32} {hz : abH} (x0 : Nat) (y0 : Nat) (y1 : Int32) (y2 : Int32) (h : abH)   (hf : F_X12_tick_B50 x0 y0 y1 y2 h = some (z0, hz)) : abW cX12_tick 1 RX12 (some .int) false 1 0 0 none (some (.int z0), hz) 50 [some (.ref x0)] [.int y2, .int y1, .ref y0] h 0 0 := by
  unfold F_X12_tick_B50 at hf
  refine ab_iadd dX12_tick_50 ?_
  refine f_put fp_X12_122 (abFit_i _) dX12_tick_51 hf (fun h5 hf => ?_)
  refine ab_aload_n 0 dX12_tick_54 rfl rfl ?_
  refine ab_aload_n 0 dX12_tick_55 rfl rfl ?_
  refine f_getI fs_X12_119 dX12_tick_56 hf (fun v6 hf => ?_)
  refine ab_bipush dX12_tick_59 kbp_12 ?_
  refine ab_icmp_ne 68 dX12_tick_61 (by decide) hf (fun hf => ?_) (fun hf => ?_)
  · refine ab_iconst dX12_tick_64 kic_0 ?_
    refine ab_goto 74 dX12_tick_65 (by decide) ?_
    refine f_put fp_X12_119 (abFit_i _) dX12_tick_74 hf (fun h10 hf => ?_)
    refine ab_aload_n 0 dX12_tick_77 rfl rfl ?_
    refine f_getI fs_X12_119 dX12_tick_78 hf (fun v11 hf => ?_)
    exact f_reti2 dX12_tick_81 rfl (Nat.le_refl 0) (Nat.le_refl 0) hf
  refine ab_aload_n 0 dX12_tick_68 rfl rfl ?_
  refine f_getI fs_X12_119 dX12_tick_69 hf (fun v7 hf => ?_)
  refine ab_iconst dX12_tick_72 kic_1 ?_
  refine ab_iadd dX12_tick_73 ?_
  refine f_put fp_X12_119 (abFit_i _) dX12_tick_74 hf (fun h8 hf => ?_)
  refine ab_aload_n 0 dX12_tick_77 rfl rfl ?_
  refine f_getI fs_X12_119 dX12_tick_78 hf (fun v9 hf => ?_)
  exact f_reti2 dX12_tick_81 rfl (Nat.le_refl 0) (Nat.le_refl 0) hf
def F_X12_tick_B31 (x0 : Nat) (h : abH) : Option (Int32 × abH) :=
  (gI 12 h x0 7).bind fun v3 =>
  (gI 12 h x0 6).bind fun v4 =>
  if v4 = 12 then
    F_X12_tick_B50 x0 x0 v3 1 h
  else
    F_X12_tick_B50 x0 x0 v3 0 h
theorem w_X12_tick_B31 {z0 : Int32} {hz : abH} (x0 : Nat) (h : abH)   (hf : F_X12_tick_B31 x0 h = some (z0, hz)) : abW cX12_tick 1 RX12 (some .int) false 1 0 0 none (some (.int z0), hz) 31 [some (.ref x0)] [] h 0 0 := by
  unfold F_X12_tick_B31 at hf
  refine ab_aload_n 0 dX12_tick_31 rfl rfl ?_
  refine ab_dup dX12_tick_32 rfl ?_
  refine f_getI fs_X12_122 dX12_tick_33 hf (fun v3 hf => ?_)
  refine ab_aload_n 0 dX12_tick_36 rfl rfl ?_
  refine f_getI fs_X12_119 dX12_tick_37 hf (fun v4 hf => ?_)
  refine ab_bipush dX12_tick_40 kbp_12 ?_
  refine ab_icmp_ne 49 dX12_tick_42 (by decide) hf (fun hf => ?_) (fun hf => ?_)
  · refine ab_iconst dX12_tick_45 kic_1 ?_
    refine ab_goto 50 dX12_tick_46 (by decide) ?_
    exact ab_msk [true] (w_X12_tick_B50 x0 x0 v3 1 h hf)
  refine ab_iconst dX12_tick_49 kic_0 ?_
  exact ab_msk [true] (w_X12_tick_B50 x0 x0 v3 0 h hf)
def F_X12_tick (a0 : Nat) (h : abH) : Option (Int32 × abH) :=
  (gI 12 h a0 1).bind fun v1 =>
  if v1 = 0 then
    some ((-103), h)
  else
    (gI 12 h a0 6).bind fun v2 =>
    if v2 = 12 then
      (gI 12 h a0 7).bind fun v12 =>
      if v12 = 99 then
        some ((-104), h)
      else
        F_X12_tick_B31 a0 h
    else
      F_X12_tick_B31 a0 h
theorem m_X12_tick {z0 : Int32} {hz : abH} (a0 : Nat) (h : abH) (hf : F_X12_tick a0 h = some (z0, hz)) : abM yX12_tick cX12_tick 1 (some .int) 1 0 0 [.ref a0] h (some (.int z0)) hz := by
  refine abM_of (ini := false) [some (.ref a0)] (by decide +kernel) (fun q => by first | rfl | cases q) (Nat.le_of_ble_eq_true rfl) rfl ?_
  unfold F_X12_tick at hf
  refine ab_aload_n 0 dX12_tick_0 rfl rfl ?_
  refine f_getI fs_X12_116 dX12_tick_1 hf (fun v1 hf => ?_)
  refine ab_if_ne 10 dX12_tick_4 (by decide) hf (fun hf => ?_) (fun hf => ?_)
  · refine ab_bipush dX12_tick_7 kbp_m103 ?_
    exact f_reti2 dX12_tick_9 rfl (Nat.le_refl 0) (Nat.le_refl 0) hf
  refine ab_aload_n 0 dX12_tick_10 rfl rfl ?_
  refine f_getI fs_X12_119 dX12_tick_11 hf (fun v2 hf => ?_)
  refine ab_bipush dX12_tick_14 kbp_12 ?_
  refine ab_icmp_ne 31 dX12_tick_16 (by decide) hf (fun hf => ?_) (fun hf => ?_)
  · refine ab_aload_n 0 dX12_tick_19 rfl rfl ?_
    refine f_getI fs_X12_122 dX12_tick_20 hf (fun v12 hf => ?_)
    refine ab_bipush dX12_tick_23 kbp_99 ?_
    refine ab_icmp_ne 31 dX12_tick_25 (by decide) hf (fun hf => ?_) (fun hf => ?_)
    · refine ab_bipush dX12_tick_28 kbp_m104 ?_
      exact f_reti2 dX12_tick_30 rfl (Nat.le_refl 0) (Nat.le_refl 0) hf
    exact ab_msk [true] (w_X12_tick_B31 a0 h hf)
  exact ab_msk [true] (w_X12_tick_B31 a0 h hf)
def F_X12_step_B24 (x0 : Nat) (x1 : Int32) (x2 : Int32) (h : abH) : Option (Int32 × abH) :=
  (gR 12 h x0 5).bind fun v2 =>
  (ga 0 h v2 x1).bind fun v3 =>
  nm (v3 + x2) fun v4 =>
  (F_X12_within v4 0 9).bind fun v5 =>
  if v5 = 0 then
    some ((-103), h)
  else
    (gR 12 h x0 5).bind fun v6 =>
    (sa 0 h v6 x1 v4).bind fun h7 =>
    some (v4, h7)
theorem w_X12_step_B24 {z0 : Int32} {hz : abH} (x0 : Nat) (x1 : Int32) (x2 : Int32) (h : abH)   (hf : F_X12_step_B24 x0 x1 x2 h = some (z0, hz)) : abW cX12_step 4 RX12 (some .int) false 3 0 0 none (some (.int z0), hz) 24 [some (.ref x0), some (.int x1), some (.int x2), none] [] h 0 0 := by
  unfold F_X12_step_B24 at hf
  refine ab_aload_n 0 dX12_step_24 rfl rfl ?_
  refine f_getR fs_X12_19 dX12_step_25 hf (fun v2 hf => ?_)
  refine ab_iload_n 1 dX12_step_28 rfl rfl ?_
  refine f_iald dX12_step_29 hf (fun v3 hf => ?_)
  refine ab_iload_n 2 dX12_step_30 rfl rfl ?_
  refine ab_iadd dX12_step_31 ?_
  refine ab_nmi hf (fun v4 hf => ?_)
  refine ab_istore_n 3 [some (.ref x0), some (.int x1), some (.int x2), some (.int v4)] dX12_step_32 rfl (by decide) rfl rfl ?_
  refine ab_iload_n 3 dX12_step_33 rfl rfl ?_
  refine ab_iconst dX12_step_34 kic_0 ?_
  refine ab_bipush dX12_step_35 kbp_9 ?_
  refine f_S_i (As := [.int v4, .int 0, .int 9]) (st := []) cs_X12_83 (fun v q => m_X12_within v4 0 9 h q) rfl rfl dX12_step_37 (rmk rfl) hf (fun v5 hf => ?_)
  refine ab_if_ne 46 dX12_step_40 (by decide) hf (fun hf => ?_) (fun hf => ?_)
  · refine ab_bipush dX12_step_43 kbp_m103 ?_
    exact f_reti2 dX12_step_45 rfl (Nat.le_refl 0) (Nat.le_refl 0) hf
  refine ab_aload_n 0 dX12_step_46 rfl rfl ?_
  refine f_getR fs_X12_19 dX12_step_47 hf (fun v6 hf => ?_)
  refine ab_iload_n 1 dX12_step_50 rfl rfl ?_
  refine ab_iload_n 3 dX12_step_51 rfl rfl ?_
  refine f_iast dX12_step_52 hf (fun h7 hf => ?_)
  refine ab_iload_n 3 dX12_step_53 rfl rfl ?_
  exact f_reti2 dX12_step_54 rfl (Nat.le_refl 0) (Nat.le_refl 0) hf
def F_X12_step (a0 : Nat) (a1 : Int32) (a2 : Int32) (h : abH) : Option (Int32 × abH) :=
  (ko 12 h a0).bind fun _ => (F_X12_isParty a0 a1 h).bind fun v1 =>
  if v1 = 0 then
    some ((-101), h)
  else
    if a2 = 1 then
      F_X12_step_B24 a0 a1 a2 h
    else
      if a2 = (-1) then
        F_X12_step_B24 a0 a1 a2 h
      else
        some ((-102), h)
theorem m_X12_step {z0 : Int32} {hz : abH} (a0 : Nat) (a1 : Int32) (a2 : Int32) (h : abH) (hf : F_X12_step a0 a1 a2 h = some (z0, hz)) : abM yX12_step cX12_step 4 (some .int) 3 0 0 [.ref a0, .int a1, .int a2] h (some (.int z0)) hz := by
  refine abM_of (ini := false) [some (.ref a0), some (.int a1), some (.int a2), none] (by decide +kernel) (fun q => by first | rfl | cases q) (Nat.le_of_ble_eq_true rfl) rfl ?_
  unfold F_X12_step at hf
  refine ab_aload_n 0 dX12_step_0 rfl rfl ?_
  refine ab_iload_n 1 dX12_step_1 rfl rfl ?_
  refine f_V_i (As := [.int a1]) (st := []) cs_X12_134 (fun v q => m_X12_isParty a0 a1 h q) rfl rfl dX12_step_2 (rmk rfl) hf (fun v1 hf => ?_)
  refine ab_if_ne 11 dX12_step_5 (by decide) hf (fun hf => ?_) (fun hf => ?_)
  · refine ab_bipush dX12_step_8 kbp_m101 ?_
    exact f_reti2 dX12_step_10 rfl (Nat.le_refl 0) (Nat.le_refl 0) hf
  refine ab_iload_n 2 dX12_step_11 rfl rfl ?_
  refine ab_iconst dX12_step_12 kic_1 ?_
  refine ab_icmp_eq 24 dX12_step_13 (by decide) hf (fun hf => ?_) (fun hf => ?_)
  · exact ab_msk [true, true, true, true] (w_X12_step_B24 a0 a1 a2 h hf)
  refine ab_iload_n 2 dX12_step_16 rfl rfl ?_
  refine ab_iconst dX12_step_17 kic_m1 ?_
  refine ab_icmp_eq 24 dX12_step_18 (by decide) hf (fun hf => ?_) (fun hf => ?_)
  · exact ab_msk [true, true, true, true] (w_X12_step_B24 a0 a1 a2 h hf)
  refine ab_bipush dX12_step_21 kbp_m102 ?_
  exact f_reti2 dX12_step_23 rfl (Nat.le_refl 0) (Nat.le_refl 0) hf
def F_X12_stand (a0 : Nat) (a1 : Int32) (a2 : Int32) (h : abH) : Option (Int32 × abH) :=
  (ko 12 h a0).bind fun _ => (F_X12_isParty a0 a1 h).bind fun v1 =>
  if v1 = 0 then
    some ((-101), h)
  else
    (ko 12 h a0).bind fun _ => (F_X12_isTile a0 a2 h).bind fun v2 =>
    if v2 = 0 then
      some ((-101), h)
    else
      (gR 12 h a0 5).bind fun v3 =>
      (ga 0 h v3 a1).bind fun v4 =>
      (gR 12 h a0 5).bind fun v5 =>
      (sa 0 h v5 a1 a2).bind fun h6 =>
      some (v4, h6)
theorem m_X12_stand {z0 : Int32} {hz : abH} (a0 : Nat) (a1 : Int32) (a2 : Int32) (h : abH) (hf : F_X12_stand a0 a1 a2 h = some (z0, hz)) : abM yX12_stand cX12_stand 4 (some .int) 3 0 0 [.ref a0, .int a1, .int a2] h (some (.int z0)) hz := by
  refine abM_of (ini := false) [some (.ref a0), some (.int a1), some (.int a2), none] (by decide +kernel) (fun q => by first | rfl | cases q) (Nat.le_of_ble_eq_true rfl) rfl ?_
  unfold F_X12_stand at hf
  refine ab_aload_n 0 dX12_stand_0 rfl rfl ?_
  refine ab_iload_n 1 dX12_stand_1 rfl rfl ?_
  refine f_V_i (As := [.int a1]) (st := []) cs_X12_134 (fun v q => m_X12_isParty a0 a1 h q) rfl rfl dX12_stand_2 (rmk rfl) hf (fun v1 hf => ?_)
  refine ab_if_eq 16 dX12_stand_5 (by decide) hf (fun hf => ?_) (fun hf => ?_)
  · refine ab_bipush dX12_stand_16 kbp_m101 ?_
    exact f_reti2 dX12_stand_18 rfl (Nat.le_refl 0) (Nat.le_refl 0) hf
  refine ab_aload_n 0 dX12_stand_8 rfl rfl ?_
  refine ab_iload_n 2 dX12_stand_9 rfl rfl ?_
  refine f_V_i (As := [.int a2]) (st := []) cs_X12_177 (fun v q => m_X12_isTile a0 a2 h q) rfl rfl dX12_stand_10 (rmk rfl) hf (fun v2 hf => ?_)
  refine ab_if_ne 19 dX12_stand_13 (by decide) hf (fun hf => ?_) (fun hf => ?_)
  · refine ab_bipush dX12_stand_16 kbp_m101 ?_
    exact f_reti2 dX12_stand_18 rfl (Nat.le_refl 0) (Nat.le_refl 0) hf
  refine ab_aload_n 0 dX12_stand_19 rfl rfl ?_
  refine f_getR fs_X12_19 dX12_stand_20 hf (fun v3 hf => ?_)
  refine ab_iload_n 1 dX12_stand_23 rfl rfl ?_
  refine f_iald dX12_stand_24 hf (fun v4 hf => ?_)
  refine ab_istore_n 3 [some (.ref a0), some (.int a1), some (.int a2), some (.int v4)] dX12_stand_25 rfl (by decide) rfl rfl ?_
  refine ab_aload_n 0 dX12_stand_26 rfl rfl ?_
  refine f_getR fs_X12_19 dX12_stand_27 hf (fun v5 hf => ?_)
  refine ab_iload_n 1 dX12_stand_30 rfl rfl ?_
  refine ab_iload_n 2 dX12_stand_31 rfl rfl ?_
  refine f_iast dX12_stand_32 hf (fun h6 hf => ?_)
  refine ab_iload_n 3 dX12_stand_33 rfl rfl ?_
  exact f_reti2 dX12_stand_34 rfl (Nat.le_refl 0) (Nat.le_refl 0) hf
def F_X12_rise (a0 : Nat) (a1 : Int32) (a2 : Int32) (h : abH) : Option (Int32 × abH) :=
  (ko 12 h a0).bind fun _ => (F_X12_isParty a0 a1 h).bind fun v1 =>
  if v1 = 0 then
    some ((-101), h)
  else
    (F_X12_within a2 1 9).bind fun v2 =>
    if v2 = 0 then
      some ((-102), h)
    else
      (gR 12 h a0 4).bind fun v3 =>
      (ga 0 h v3 a1).bind fun v4 =>
      (gR 12 h a0 4).bind fun v5 =>
      (sa 0 h v5 a1 a2).bind fun h6 =>
      some (v4, h6)
theorem m_X12_rise {z0 : Int32} {hz : abH} (a0 : Nat) (a1 : Int32) (a2 : Int32) (h : abH) (hf : F_X12_rise a0 a1 a2 h = some (z0, hz)) : abM yX12_rise cX12_rise 4 (some .int) 3 0 0 [.ref a0, .int a1, .int a2] h (some (.int z0)) hz := by
  refine abM_of (ini := false) [some (.ref a0), some (.int a1), some (.int a2), none] (by decide +kernel) (fun q => by first | rfl | cases q) (Nat.le_of_ble_eq_true rfl) rfl ?_
  unfold F_X12_rise at hf
  refine ab_aload_n 0 dX12_rise_0 rfl rfl ?_
  refine ab_iload_n 1 dX12_rise_1 rfl rfl ?_
  refine f_V_i (As := [.int a1]) (st := []) cs_X12_134 (fun v q => m_X12_isParty a0 a1 h q) rfl rfl dX12_rise_2 (rmk rfl) hf (fun v1 hf => ?_)
  refine ab_if_ne 11 dX12_rise_5 (by decide) hf (fun hf => ?_) (fun hf => ?_)
  · refine ab_bipush dX12_rise_8 kbp_m101 ?_
    exact f_reti2 dX12_rise_10 rfl (Nat.le_refl 0) (Nat.le_refl 0) hf
  refine ab_iload_n 2 dX12_rise_11 rfl rfl ?_
  refine ab_iconst dX12_rise_12 kic_1 ?_
  refine ab_bipush dX12_rise_13 kbp_9 ?_
  refine f_S_i (As := [.int a2, .int 1, .int 9]) (st := []) cs_X12_83 (fun v q => m_X12_within a2 1 9 h q) rfl rfl dX12_rise_15 (rmk rfl) hf (fun v2 hf => ?_)
  refine ab_if_ne 24 dX12_rise_18 (by decide) hf (fun hf => ?_) (fun hf => ?_)
  · refine ab_bipush dX12_rise_21 kbp_m102 ?_
    exact f_reti2 dX12_rise_23 rfl (Nat.le_refl 0) (Nat.le_refl 0) hf
  refine ab_aload_n 0 dX12_rise_24 rfl rfl ?_
  refine f_getR fs_X12_16 dX12_rise_25 hf (fun v3 hf => ?_)
  refine ab_iload_n 1 dX12_rise_28 rfl rfl ?_
  refine f_iald dX12_rise_29 hf (fun v4 hf => ?_)
  refine ab_istore_n 3 [some (.ref a0), some (.int a1), some (.int a2), some (.int v4)] dX12_rise_30 rfl (by decide) rfl rfl ?_
  refine ab_aload_n 0 dX12_rise_31 rfl rfl ?_
  refine f_getR fs_X12_16 dX12_rise_32 hf (fun v5 hf => ?_)
  refine ab_iload_n 1 dX12_rise_35 rfl rfl ?_
  refine ab_iload_n 2 dX12_rise_36 rfl rfl ?_
  refine f_iast dX12_rise_37 hf (fun h6 hf => ?_)
  refine ab_iload_n 3 dX12_rise_38 rfl rfl ?_
  exact f_reti2 dX12_rise_39 rfl (Nat.le_refl 0) (Nat.le_refl 0) hf
def F_X12_lay (a0 : Nat) (a1 : Int32) (a2 : Int32) (h : abH) : Option (Int32 × abH) :=
  (ko 12 h a0).bind fun _ => (F_X12_isTile a0 a1 h).bind fun v1 =>
  if v1 = 0 then
    some ((-101), h)
  else
    (F_X12_within a2 0 9).bind fun v2 =>
    if v2 = 0 then
      some ((-102), h)
    else
      (gR 12 h a0 2).bind fun v3 =>
      (ga 0 h v3 a1).bind fun v4 =>
      (gR 12 h a0 2).bind fun v5 =>
      (sa 0 h v5 a1 a2).bind fun h6 =>
      some (v4, h6)
theorem m_X12_lay {z0 : Int32} {hz : abH} (a0 : Nat) (a1 : Int32) (a2 : Int32) (h : abH) (hf : F_X12_lay a0 a1 a2 h = some (z0, hz)) : abM yX12_lay cX12_lay 4 (some .int) 3 0 0 [.ref a0, .int a1, .int a2] h (some (.int z0)) hz := by
  refine abM_of (ini := false) [some (.ref a0), some (.int a1), some (.int a2), none] (by decide +kernel) (fun q => by first | rfl | cases q) (Nat.le_of_ble_eq_true rfl) rfl ?_
  unfold F_X12_lay at hf
  refine ab_aload_n 0 dX12_lay_0 rfl rfl ?_
  refine ab_iload_n 1 dX12_lay_1 rfl rfl ?_
  refine f_V_i (As := [.int a1]) (st := []) cs_X12_177 (fun v q => m_X12_isTile a0 a1 h q) rfl rfl dX12_lay_2 (rmk rfl) hf (fun v1 hf => ?_)
  refine ab_if_ne 11 dX12_lay_5 (by decide) hf (fun hf => ?_) (fun hf => ?_)
  · refine ab_bipush dX12_lay_8 kbp_m101 ?_
    exact f_reti2 dX12_lay_10 rfl (Nat.le_refl 0) (Nat.le_refl 0) hf
  refine ab_iload_n 2 dX12_lay_11 rfl rfl ?_
  refine ab_iconst dX12_lay_12 kic_0 ?_
  refine ab_bipush dX12_lay_13 kbp_9 ?_
  refine f_S_i (As := [.int a2, .int 0, .int 9]) (st := []) cs_X12_83 (fun v q => m_X12_within a2 0 9 h q) rfl rfl dX12_lay_15 (rmk rfl) hf (fun v2 hf => ?_)
  refine ab_if_ne 24 dX12_lay_18 (by decide) hf (fun hf => ?_) (fun hf => ?_)
  · refine ab_bipush dX12_lay_21 kbp_m102 ?_
    exact f_reti2 dX12_lay_23 rfl (Nat.le_refl 0) (Nat.le_refl 0) hf
  refine ab_aload_n 0 dX12_lay_24 rfl rfl ?_
  refine f_getR fs_X12_7 dX12_lay_25 hf (fun v3 hf => ?_)
  refine ab_iload_n 1 dX12_lay_28 rfl rfl ?_
  refine f_iald dX12_lay_29 hf (fun v4 hf => ?_)
  refine ab_istore_n 3 [some (.ref a0), some (.int a1), some (.int a2), some (.int v4)] dX12_lay_30 rfl (by decide) rfl rfl ?_
  refine ab_aload_n 0 dX12_lay_31 rfl rfl ?_
  refine f_getR fs_X12_7 dX12_lay_32 hf (fun v5 hf => ?_)
  refine ab_iload_n 1 dX12_lay_35 rfl rfl ?_
  refine ab_iload_n 2 dX12_lay_36 rfl rfl ?_
  refine f_iast dX12_lay_37 hf (fun h6 hf => ?_)
  refine ab_iload_n 3 dX12_lay_38 rfl rfl ?_
  exact f_reti2 dX12_lay_39 rfl (Nat.le_refl 0) (Nat.le_refl 0) hf
def F_X12_file (a0 : Nat) (a1 : Int32) (a2 : Int32) (h : abH) : Option (Int32 × abH) :=
  (ko 12 h a0).bind fun _ => (F_X12_areTwo a0 a1 a2 h).bind fun v1 =>
  if v1 = 0 then
    some ((-101), h)
  else
    (gI 12 h a0 8).bind fun v2 =>
    if v2 = 5 then
      some ((-104), h)
    else
      (gR 12 h a0 9).bind fun v3 =>
      (gI 12 h a0 8).bind fun v4 =>
      (sa 0 h v3 v4 a1).bind fun h5 =>
      (gR 12 h5 a0 10).bind fun v6 =>
      (gI 12 h5 a0 8).bind fun v7 =>
      (sa 0 h5 v6 v7 a2).bind fun h8 =>
      (gI 12 h8 a0 8).bind fun v9 =>
      (sV 12 h8 a0 8 (.int (v9 + 1))).bind fun h10 =>
      (gI 12 h10 a0 8).bind fun v11 =>
      some (v11, h10)
theorem m_X12_file {z0 : Int32} {hz : abH} (a0 : Nat) (a1 : Int32) (a2 : Int32) (h : abH) (hf : F_X12_file a0 a1 a2 h = some (z0, hz)) : abM yX12_file cX12_file 3 (some .int) 4 0 0 [.ref a0, .int a1, .int a2] h (some (.int z0)) hz := by
  refine abM_of (ini := false) [some (.ref a0), some (.int a1), some (.int a2)] (by decide +kernel) (fun q => by first | rfl | cases q) (Nat.le_of_ble_eq_true rfl) rfl ?_
  unfold F_X12_file at hf
  refine ab_aload_n 0 dX12_file_0 rfl rfl ?_
  refine ab_iload_n 1 dX12_file_1 rfl rfl ?_
  refine ab_iload_n 2 dX12_file_2 rfl rfl ?_
  refine f_V_i (As := [.int a1, .int a2]) (st := []) cs_X12_183 (fun v q => m_X12_areTwo a0 a1 a2 h q) rfl rfl dX12_file_3 (rmk rfl) hf (fun v1 hf => ?_)
  refine ab_if_ne 12 dX12_file_6 (by decide) hf (fun hf => ?_) (fun hf => ?_)
  · refine ab_bipush dX12_file_9 kbp_m101 ?_
    exact f_reti2 dX12_file_11 rfl (Nat.le_refl 0) (Nat.le_refl 0) hf
  refine ab_aload_n 0 dX12_file_12 rfl rfl ?_
  refine f_getI fs_X12_125 dX12_file_13 hf (fun v2 hf => ?_)
  refine ab_iconst dX12_file_16 kic_5 ?_
  refine ab_icmp_ne 23 dX12_file_17 (by decide) hf (fun hf => ?_) (fun hf => ?_)
  · refine ab_bipush dX12_file_20 kbp_m104 ?_
    exact f_reti2 dX12_file_22 rfl (Nat.le_refl 0) (Nat.le_refl 0) hf
  refine ab_aload_n 0 dX12_file_23 rfl rfl ?_
  refine f_getR fs_X12_22 dX12_file_24 hf (fun v3 hf => ?_)
  refine ab_aload_n 0 dX12_file_27 rfl rfl ?_
  refine f_getI fs_X12_125 dX12_file_28 hf (fun v4 hf => ?_)
  refine ab_iload_n 1 dX12_file_31 rfl rfl ?_
  refine f_iast dX12_file_32 hf (fun h5 hf => ?_)
  refine ab_aload_n 0 dX12_file_33 rfl rfl ?_
  refine f_getR fs_X12_25 dX12_file_34 hf (fun v6 hf => ?_)
  refine ab_aload_n 0 dX12_file_37 rfl rfl ?_
  refine f_getI fs_X12_125 dX12_file_38 hf (fun v7 hf => ?_)
  refine ab_iload_n 2 dX12_file_41 rfl rfl ?_
  refine f_iast dX12_file_42 hf (fun h8 hf => ?_)
  refine ab_aload_n 0 dX12_file_43 rfl rfl ?_
  refine ab_dup dX12_file_44 rfl ?_
  refine f_getI fs_X12_125 dX12_file_45 hf (fun v9 hf => ?_)
  refine ab_iconst dX12_file_48 kic_1 ?_
  refine ab_iadd dX12_file_49 ?_
  refine f_put fp_X12_125 (abFit_i _) dX12_file_50 hf (fun h10 hf => ?_)
  refine ab_aload_n 0 dX12_file_53 rfl rfl ?_
  refine f_getI fs_X12_125 dX12_file_54 hf (fun v11 hf => ?_)
  exact f_reti2 dX12_file_57 rfl (Nat.le_refl 0) (Nat.le_refl 0) hf
def F_X12_settle (a0 : Nat) (h : abH) : Option (Int32 × abH) :=
  (gI 12 h a0 8).bind fun v1 =>
  (sV 12 h a0 8 (.int 0)).bind fun h2 =>
  some (v1, h2)
theorem m_X12_settle {z0 : Int32} {hz : abH} (a0 : Nat) (h : abH) (hf : F_X12_settle a0 h = some (z0, hz)) : abM yX12_settle cX12_settle 2 (some .int) 1 0 0 [.ref a0] h (some (.int z0)) hz := by
  refine abM_of (ini := false) [some (.ref a0), none] (by decide +kernel) (fun q => by first | rfl | cases q) (Nat.le_of_ble_eq_true rfl) rfl ?_
  unfold F_X12_settle at hf
  refine ab_aload_n 0 dX12_settle_0 rfl rfl ?_
  refine f_getI fs_X12_125 dX12_settle_1 hf (fun v1 hf => ?_)
  refine ab_istore_n 1 [some (.ref a0), some (.int v1)] dX12_settle_4 rfl (by decide) rfl rfl ?_
  refine ab_aload_n 0 dX12_settle_5 rfl rfl ?_
  refine ab_iconst dX12_settle_6 kic_0 ?_
  refine f_put fp_X12_125 (abFit_i _) dX12_settle_7 hf (fun h2 hf => ?_)
  refine ab_iload_n 1 dX12_settle_10 rfl rfl ?_
  exact f_reti2 dX12_settle_11 rfl (Nat.le_refl 0) (Nat.le_refl 0) hf
def F_X12_mayStep (a0 : Int32) (a1 : Int32) (a2 : Int32) : Option Int32 :=
  nm (a0 + a1) fun v1 =>
  if a1 = 0 then
    some 1
  else
    (F_X12_within v1 0 9).bind fun v2 =>
    if v2 = 0 then
      some 0
    else
      if v1 = a2 then
        some 0
      else
        some 1
theorem m_X12_mayStep {z0 : Int32} (a0 : Int32) (a1 : Int32) (a2 : Int32) (h : abH) (hf : F_X12_mayStep a0 a1 a2 = some z0) : abM yX12_mayStep cX12_mayStep 4 (some .boolean) 2 0 0 [.int a0, .int a1, .int a2] h (some (.int z0)) h := by
  refine abM_of (ini := false) [some (.int a0), some (.int a1), some (.int a2), none] (by decide +kernel) (fun q => by first | rfl | cases q) (Nat.le_of_ble_eq_true rfl) rfl ?_
  unfold F_X12_mayStep at hf
  refine ab_iload_n 0 dX12_mayStep_0 rfl rfl ?_
  refine ab_iload_n 1 dX12_mayStep_1 rfl rfl ?_
  refine ab_iadd dX12_mayStep_2 ?_
  refine ab_nmi hf (fun v1 hf => ?_)
  refine ab_istore_n 3 [some (.int a0), some (.int a1), some (.int a2), some (.int v1)] dX12_mayStep_3 rfl (by decide) rfl rfl ?_
  refine ab_iload_n 1 dX12_mayStep_4 rfl rfl ?_
  refine ab_if_eq 23 dX12_mayStep_5 (by decide) hf (fun hf => ?_) (fun hf => ?_)
  · refine ab_iconst dX12_mayStep_23 kic_1 ?_
    refine ab_goto 28 dX12_mayStep_24 (by decide) ?_
    exact f_retzc rfl dX12_mayStep_28 rfl (Nat.le_refl 0) (Nat.le_refl 0) hf
  refine ab_iload_n 3 dX12_mayStep_8 rfl rfl ?_
  refine ab_iconst dX12_mayStep_9 kic_0 ?_
  refine ab_bipush dX12_mayStep_10 kbp_9 ?_
  refine f_S_i (As := [.int v1, .int 0, .int 9]) (st := []) cs_X12_83 (fun v q => m_X12_within v1 0 9 h q) rfl rfl dX12_mayStep_12 (rmk rfl) hf (fun v2 hf => ?_)
  refine ab_if_eq 27 dX12_mayStep_15 (by decide) hf (fun hf => ?_) (fun hf => ?_)
  · refine ab_iconst dX12_mayStep_27 kic_0 ?_
    exact f_retzc rfl dX12_mayStep_28 rfl (Nat.le_refl 0) (Nat.le_refl 0) hf
  refine ab_iload_n 3 dX12_mayStep_18 rfl rfl ?_
  refine ab_iload_n 2 dX12_mayStep_19 rfl rfl ?_
  refine ab_icmp_eq 27 dX12_mayStep_20 (by decide) hf (fun hf => ?_) (fun hf => ?_)
  · refine ab_iconst dX12_mayStep_27 kic_0 ?_
    exact f_retzc rfl dX12_mayStep_28 rfl (Nat.le_refl 0) (Nat.le_refl 0) hf
  refine ab_iconst dX12_mayStep_23 kic_1 ?_
  refine ab_goto 28 dX12_mayStep_24 (by decide) ?_
  exact f_retzc rfl dX12_mayStep_28 rfl (Nat.le_refl 0) (Nat.le_refl 0) hf
def F_X12_behind (a0 : Nat) (a1 : Int32) (a2 : Int32) (a3 : Int32) (a4 : Int32) (a5 : Int32) (h : abH) : Option Int32 :=
  (ko 12 h a0).bind fun _ => (F_X12_coversAt a0 a1 a3 a4 h).bind fun v1 =>
  (ko 12 h a0).bind fun _ => (F_X12_coversAt a0 a2 a3 a5 h).bind fun v2 =>
  (ko 12 h a0).bind fun _ => (F_X12_foundBy a0 v1 v2 h).bind fun v3 =>
  (gR 12 h a0 20).bind fun v4 =>
  (ga 0 h v4 ((10 * a4) + a5)).bind fun v5 =>
  some (v3 + v5)
theorem m_X12_behind {z0 : Int32} (a0 : Nat) (a1 : Int32) (a2 : Int32) (a3 : Int32) (a4 : Int32) (a5 : Int32) (h : abH) (hf : F_X12_behind a0 a1 a2 a3 a4 a5 h = some z0) : abM yX12_behind cX12_behind 6 (some .int) 4 0 0 [.ref a0, .int a1, .int a2, .int a3, .int a4, .int a5] h (some (.int z0)) h := by
  refine abM_of (ini := false) [some (.ref a0), some (.int a1), some (.int a2), some (.int a3), some (.int a4), some (.int a5)] (by decide +kernel) (fun q => by first | rfl | cases q) (Nat.le_of_ble_eq_true rfl) rfl ?_
  unfold F_X12_behind at hf
  refine ab_aload_n 0 dX12_behind_0 rfl rfl ?_
  refine ab_aload_n 0 dX12_behind_1 rfl rfl ?_
  refine ab_iload_n 1 dX12_behind_2 rfl rfl ?_
  refine ab_iload_n 3 dX12_behind_3 rfl rfl ?_
  refine ab_iload dX12_behind_4 rfl ?_
  refine f_V_i (As := [.int a1, .int a3, .int a4]) (st := [.ref a0]) cs_X12_152 (fun v q => m_X12_coversAt a0 a1 a3 a4 h q) rfl rfl dX12_behind_6 (rmk rfl) hf (fun v1 hf => ?_)
  refine ab_aload_n 0 dX12_behind_9 rfl rfl ?_
  refine ab_iload_n 2 dX12_behind_10 rfl rfl ?_
  refine ab_iload_n 3 dX12_behind_11 rfl rfl ?_
  refine ab_iload dX12_behind_12 rfl ?_
  refine f_V_i (As := [.int a2, .int a3, .int a5]) (st := [.int v1, .ref a0]) cs_X12_152 (fun v q => m_X12_coversAt a0 a2 a3 a5 h q) rfl rfl dX12_behind_14 (rmk rfl) hf (fun v2 hf => ?_)
  refine f_V_i (As := [.int v1, .int v2]) (st := []) cs_X12_165 (fun v q => m_X12_foundBy a0 v1 v2 h q) rfl rfl dX12_behind_17 (rmk rfl) hf (fun v3 hf => ?_)
  refine ab_aload_n 0 dX12_behind_20 rfl rfl ?_
  refine f_getR fs_X12_44 dX12_behind_21 hf (fun v4 hf => ?_)
  refine ab_bipush dX12_behind_24 kbp_10 ?_
  refine ab_iload dX12_behind_26 rfl ?_
  refine ab_imul dX12_behind_28 ?_
  refine ab_iload dX12_behind_29 rfl ?_
  refine ab_iadd dX12_behind_31 ?_
  refine f_iald dX12_behind_32 hf (fun v5 hf => ?_)
  refine ab_iadd dX12_behind_33 ?_
  exact f_reti dX12_behind_34 rfl (Nat.le_refl 0) (Nat.le_refl 0) hf
def F_X12_answered_B7 (x0 : Nat) (x1 : Int32) (x2 : Int32) (x3 : Int32) (x4 : Int32) (x5 : Int32) (h : abH) : Nat → Int32 → Int32 → Option Int32
  | 0, _, _ => none
  | n + 1, x6, x7 =>
    if x7 ≤ 1 then
      (F_X12_mayStep x5 x7 x4).bind fun v1 =>
      if v1 = 0 then
        F_X12_answered_B7 x0 x1 x2 x3 x4 x5 h n x6 (x7 + 1)
      else
        (ko 12 h x0).bind fun _ => (F_X12_behind x0 x1 x2 x3 x4 (x5 + x7) h).bind fun v2 =>
        if v2 < x6 then
          F_X12_answered_B7 x0 x1 x2 x3 x4 x5 h n v2 (x7 + 1)
        else
          F_X12_answered_B7 x0 x1 x2 x3 x4 x5 h n x6 (x7 + 1)
    else
      some x6
theorem w_X12_answered_B7 {z0 : Int32} (x0 : Nat) (x1 : Int32) (x2 : Int32) (x3 : Int32) (x4 : Int32) (x5 : Int32) (h : abH)   : ∀ (n : Nat) (x6 : Int32) (x7 : Int32), F_X12_answered_B7 x0 x1 x2 x3 x4 x5 h n x6 x7 = some z0 → abW cX12_answered 9 RX12 (some .int) false 5 0 0 none (some (.int z0), h) 7 [some (.ref x0), some (.int x1), some (.int x2), some (.int x3), some (.int x4), some (.int x5), some (.int x6), some (.int x7), none] [] h 0 0 := by
  intro n
  induction n with
  | zero =>
    intro x6 x7 hf
    exact absurd (show (none : Option Int32) = some _ from hf) (by simp)
  | succ n ih =>
    intro x6 x7 hf
    rw [F_X12_answered_B7.eq_2] at hf
    refine ab_iload dX12_answered_7 rfl ?_
    refine ab_iconst dX12_answered_9 kic_1 ?_
    refine ab_icmp_gt 63 dX12_answered_10 (by decide) hf (fun hf => ?_) (fun hf => ?_)
    · refine ab_iload dX12_answered_13 rfl ?_
      refine ab_iload dX12_answered_15 rfl ?_
      refine ab_iload dX12_answered_17 rfl ?_
      refine f_S_i (As := [.int x5, .int x7, .int x4]) (st := []) cs_X12_190 (fun v q => m_X12_mayStep x5 x7 x4 h q) rfl rfl dX12_answered_19 (rmk rfl) hf (fun v1 hf => ?_)
      refine ab_if_eq 57 dX12_answered_22 (by decide) hf (fun hf => ?_) (fun hf => ?_)
      · refine ab_iinc (v := x7 + 1) [some (.ref x0), some (.int x1), some (.int x2), some (.int x3), some (.int x4), some (.int x5), some (.int x6), some (.int (x7 + 1)), none] dX12_answered_57 rfl (kinc_1 _) (by decide) rfl rfl ?_
        refine ab_goto 7 dX12_answered_60 (by decide) ?_
        exact ab_msk [true, true, true, true, true, true, true, true, true] (ih x6 (x7 + 1) hf)
      refine ab_aload_n 0 dX12_answered_25 rfl rfl ?_
      refine ab_iload_n 1 dX12_answered_26 rfl rfl ?_
      refine ab_iload_n 2 dX12_answered_27 rfl rfl ?_
      refine ab_iload_n 3 dX12_answered_28 rfl rfl ?_
      refine ab_iload dX12_answered_29 rfl ?_
      refine ab_iload dX12_answered_31 rfl ?_
      refine ab_iload dX12_answered_33 rfl ?_
      refine ab_iadd dX12_answered_35 ?_
      refine f_V_i (As := [.int x1, .int x2, .int x3, .int x4, .int (x5 + x7)]) (st := []) cs_X12_193 (fun v q => m_X12_behind x0 x1 x2 x3 x4 (x5 + x7) h q) rfl rfl dX12_answered_36 (rmk rfl) hf (fun v2 hf => ?_)
      refine ab_istore [some (.ref x0), some (.int x1), some (.int x2), some (.int x3), some (.int x4), some (.int x5), some (.int x6), some (.int x7), some (.int v2)] dX12_answered_39 (by decide) rfl rfl ?_
      refine ab_iload dX12_answered_41 rfl ?_
      refine ab_iload dX12_answered_43 rfl ?_
      refine ab_icmp_ge 53 dX12_answered_45 (by decide) hf (fun hf => ?_) (fun hf => ?_)
      · refine ab_iload dX12_answered_48 rfl ?_
        refine ab_goto 55 dX12_answered_50 (by decide) ?_
        refine ab_istore [some (.ref x0), some (.int x1), some (.int x2), some (.int x3), some (.int x4), some (.int x5), some (.int v2), some (.int x7), some (.int v2)] dX12_answered_55 (by decide) rfl rfl ?_
        refine ab_iinc (v := x7 + 1) [some (.ref x0), some (.int x1), some (.int x2), some (.int x3), some (.int x4), some (.int x5), some (.int v2), some (.int (x7 + 1)), some (.int v2)] dX12_answered_57 rfl (kinc_1 _) (by decide) rfl rfl ?_
        refine ab_goto 7 dX12_answered_60 (by decide) ?_
        exact ab_msk [true, true, true, true, true, true, true, true, false] (ih v2 (x7 + 1) hf)
      refine ab_iload dX12_answered_53 rfl ?_
      refine ab_istore [some (.ref x0), some (.int x1), some (.int x2), some (.int x3), some (.int x4), some (.int x5), some (.int x6), some (.int x7), some (.int v2)] dX12_answered_55 (by decide) rfl rfl ?_
      refine ab_iinc (v := x7 + 1) [some (.ref x0), some (.int x1), some (.int x2), some (.int x3), some (.int x4), some (.int x5), some (.int x6), some (.int (x7 + 1)), some (.int v2)] dX12_answered_57 rfl (kinc_1 _) (by decide) rfl rfl ?_
      refine ab_goto 7 dX12_answered_60 (by decide) ?_
      exact ab_msk [true, true, true, true, true, true, true, true, false] (ih x6 (x7 + 1) hf)
    refine ab_iload dX12_answered_63 rfl ?_
    exact f_reti dX12_answered_65 rfl (Nat.le_refl 0) (Nat.le_refl 0) hf
def F_X12_answered (a0 : Nat) (a1 : Int32) (a2 : Int32) (a3 : Int32) (a4 : Int32) (a5 : Int32) (h : abH) : Option Int32 :=
  F_X12_answered_B7 a0 a1 a2 a3 a4 a5 h 200 268435456 (-1)
theorem m_X12_answered {z0 : Int32} (a0 : Nat) (a1 : Int32) (a2 : Int32) (a3 : Int32) (a4 : Int32) (a5 : Int32) (h : abH) (hf : F_X12_answered a0 a1 a2 a3 a4 a5 h = some z0) : abM yX12_answered cX12_answered 9 (some .int) 5 0 0 [.ref a0, .int a1, .int a2, .int a3, .int a4, .int a5] h (some (.int z0)) h := by
  refine abM_of (ini := false) [some (.ref a0), some (.int a1), some (.int a2), some (.int a3), some (.int a4), some (.int a5), none, none, none] (by decide +kernel) (fun q => by first | rfl | cases q) (Nat.le_of_ble_eq_true rfl) rfl ?_
  unfold F_X12_answered at hf
  refine ab_ldc (v := 268435456) tb_949 dX12_answered_0 ?_
  refine ab_istore [some (.ref a0), some (.int a1), some (.int a2), some (.int a3), some (.int a4), some (.int a5), some (.int 268435456), none, none] dX12_answered_2 (by decide) rfl rfl ?_
  refine ab_iconst dX12_answered_4 kic_m1 ?_
  refine ab_istore [some (.ref a0), some (.int a1), some (.int a2), some (.int a3), some (.int a4), some (.int a5), some (.int 268435456), some (.int (-1)), none] dX12_answered_5 (by decide) rfl rfl ?_
  exact ab_msk [true, true, true, true, true, true, true, true, true] (w_X12_answered_B7 a0 a1 a2 a3 a4 a5 h 200 268435456 (-1) hf)
def F_X12_bestFrom_B7 (x0 : Nat) (x1 : Int32) (x2 : Int32) (x3 : Int32) (x4 : Int32) (x5 : Int32) (h : abH) : Nat → Int32 → Int32 → Option Int32
  | 0, _, _ => none
  | n + 1, x6, x7 =>
    if x7 ≤ 1 then
      (F_X12_mayStep x4 x7 x5).bind fun v1 =>
      if v1 = 0 then
        F_X12_bestFrom_B7 x0 x1 x2 x3 x4 x5 h n x6 (x7 + 1)
      else
        (ko 12 h x0).bind fun _ => (F_X12_answered x0 x1 x2 x3 (x4 + x7) x5 h).bind fun v2 =>
        if v2 ≤ x6 then
          F_X12_bestFrom_B7 x0 x1 x2 x3 x4 x5 h n x6 (x7 + 1)
        else
          F_X12_bestFrom_B7 x0 x1 x2 x3 x4 x5 h n v2 (x7 + 1)
    else
      some x6
theorem w_X12_bestFrom_B7 {z0 : Int32} (x0 : Nat) (x1 : Int32) (x2 : Int32) (x3 : Int32) (x4 : Int32) (x5 : Int32) (h : abH)   : ∀ (n : Nat) (x6 : Int32) (x7 : Int32), F_X12_bestFrom_B7 x0 x1 x2 x3 x4 x5 h n x6 x7 = some z0 → abW cX12_bestFrom 9 RX12 (some .int) false 6 0 0 none (some (.int z0), h) 7 [some (.ref x0), some (.int x1), some (.int x2), some (.int x3), some (.int x4), some (.int x5), some (.int x6), some (.int x7), none] [] h 0 0 := by
  intro n
  induction n with
  | zero =>
    intro x6 x7 hf
    exact absurd (show (none : Option Int32) = some _ from hf) (by simp)
  | succ n ih =>
    intro x6 x7 hf
    rw [F_X12_bestFrom_B7.eq_2] at hf
    refine ab_iload dX12_bestFrom_7 rfl ?_
    refine ab_iconst dX12_bestFrom_9 kic_1 ?_
    refine ab_icmp_gt 63 dX12_bestFrom_10 (by decide) hf (fun hf => ?_) (fun hf => ?_)
    · refine ab_iload dX12_bestFrom_13 rfl ?_
      refine ab_iload dX12_bestFrom_15 rfl ?_
      refine ab_iload dX12_bestFrom_17 rfl ?_
      refine f_S_i (As := [.int x4, .int x7, .int x5]) (st := []) cs_X12_190 (fun v q => m_X12_mayStep x4 x7 x5 h q) rfl rfl dX12_bestFrom_19 (rmk rfl) hf (fun v1 hf => ?_)
      refine ab_if_eq 57 dX12_bestFrom_22 (by decide) hf (fun hf => ?_) (fun hf => ?_)
      · refine ab_iinc (v := x7 + 1) [some (.ref x0), some (.int x1), some (.int x2), some (.int x3), some (.int x4), some (.int x5), some (.int x6), some (.int (x7 + 1)), none] dX12_bestFrom_57 rfl (kinc_1 _) (by decide) rfl rfl ?_
        refine ab_goto 7 dX12_bestFrom_60 (by decide) ?_
        exact ab_msk [true, true, true, true, true, true, true, true, true] (ih x6 (x7 + 1) hf)
      refine ab_aload_n 0 dX12_bestFrom_25 rfl rfl ?_
      refine ab_iload_n 1 dX12_bestFrom_26 rfl rfl ?_
      refine ab_iload_n 2 dX12_bestFrom_27 rfl rfl ?_
      refine ab_iload_n 3 dX12_bestFrom_28 rfl rfl ?_
      refine ab_iload dX12_bestFrom_29 rfl ?_
      refine ab_iload dX12_bestFrom_31 rfl ?_
      refine ab_iadd dX12_bestFrom_33 ?_
      refine ab_iload dX12_bestFrom_34 rfl ?_
      refine f_V_i (As := [.int x1, .int x2, .int x3, .int (x4 + x7), .int x5]) (st := []) cs_X12_198 (fun v q => m_X12_answered x0 x1 x2 x3 (x4 + x7) x5 h q) rfl rfl dX12_bestFrom_36 (rmk rfl) hf (fun v2 hf => ?_)
      refine ab_istore [some (.ref x0), some (.int x1), some (.int x2), some (.int x3), some (.int x4), some (.int x5), some (.int x6), some (.int x7), some (.int v2)] dX12_bestFrom_39 (by decide) rfl rfl ?_
      refine ab_iload dX12_bestFrom_41 rfl ?_
      refine ab_iload dX12_bestFrom_43 rfl ?_
      refine ab_icmp_le 53 dX12_bestFrom_45 (by decide) hf (fun hf => ?_) (fun hf => ?_)
      · refine ab_iload dX12_bestFrom_53 rfl ?_
        refine ab_istore [some (.ref x0), some (.int x1), some (.int x2), some (.int x3), some (.int x4), some (.int x5), some (.int x6), some (.int x7), some (.int v2)] dX12_bestFrom_55 (by decide) rfl rfl ?_
        refine ab_iinc (v := x7 + 1) [some (.ref x0), some (.int x1), some (.int x2), some (.int x3), some (.int x4), some (.int x5), some (.int x6), some (.int (x7 + 1)), some (.int v2)] dX12_bestFrom_57 rfl (kinc_1 _) (by decide) rfl rfl ?_
        refine ab_goto 7 dX12_bestFrom_60 (by decide) ?_
        exact ab_msk [true, true, true, true, true, true, true, true, false] (ih x6 (x7 + 1) hf)
      refine ab_iload dX12_bestFrom_48 rfl ?_
      refine ab_goto 55 dX12_bestFrom_50 (by decide) ?_
      refine ab_istore [some (.ref x0), some (.int x1), some (.int x2), some (.int x3), some (.int x4), some (.int x5), some (.int v2), some (.int x7), some (.int v2)] dX12_bestFrom_55 (by decide) rfl rfl ?_
      refine ab_iinc (v := x7 + 1) [some (.ref x0), some (.int x1), some (.int x2), some (.int x3), some (.int x4), some (.int x5), some (.int v2), some (.int (x7 + 1)), some (.int v2)] dX12_bestFrom_57 rfl (kinc_1 _) (by decide) rfl rfl ?_
      refine ab_goto 7 dX12_bestFrom_60 (by decide) ?_
      exact ab_msk [true, true, true, true, true, true, true, true, false] (ih v2 (x7 + 1) hf)
    refine ab_iload dX12_bestFrom_63 rfl ?_
    exact f_reti dX12_bestFrom_65 rfl (Nat.le_refl 0) (Nat.le_refl 0) hf
def F_X12_bestFrom (a0 : Nat) (a1 : Int32) (a2 : Int32) (a3 : Int32) (a4 : Int32) (a5 : Int32) (h : abH) : Option Int32 :=
  F_X12_bestFrom_B7 a0 a1 a2 a3 a4 a5 h 200 (-268435456) (-1)
theorem m_X12_bestFrom {z0 : Int32} (a0 : Nat) (a1 : Int32) (a2 : Int32) (a3 : Int32) (a4 : Int32) (a5 : Int32) (h : abH) (hf : F_X12_bestFrom a0 a1 a2 a3 a4 a5 h = some z0) : abM yX12_bestFrom cX12_bestFrom 9 (some .int) 6 0 0 [.ref a0, .int a1, .int a2, .int a3, .int a4, .int a5] h (some (.int z0)) h := by
  refine abM_of (ini := false) [some (.ref a0), some (.int a1), some (.int a2), some (.int a3), some (.int a4), some (.int a5), none, none, none] (by decide +kernel) (fun q => by first | rfl | cases q) (Nat.le_of_ble_eq_true rfl) rfl ?_
  unfold F_X12_bestFrom at hf
  refine ab_ldc (v := (-268435456)) tb_1037 dX12_bestFrom_0 ?_
  refine ab_istore [some (.ref a0), some (.int a1), some (.int a2), some (.int a3), some (.int a4), some (.int a5), some (.int (-268435456)), none, none] dX12_bestFrom_2 (by decide) rfl rfl ?_
  refine ab_iconst dX12_bestFrom_4 kic_m1 ?_
  refine ab_istore [some (.ref a0), some (.int a1), some (.int a2), some (.int a3), some (.int a4), some (.int a5), some (.int (-268435456)), some (.int (-1)), none] dX12_bestFrom_5 (by decide) rfl rfl ?_
  exact ab_msk [true, true, true, true, true, true, true, true, true] (w_X12_bestFrom_B7 a0 a1 a2 a3 a4 a5 h 200 (-268435456) (-1) hf)
def F_X12_layGame_B102 (x0 : Nat) (x1 : Int32) (x2 : Int32) (x4 : Int32) (k29 : Int32 → abH → Option abH) : Nat → Int32 → abH → Option abH
  | 0, _, _ => none
  | n + 1, x5, h =>
    if x5 < 100 then
      (gR 12 h x0 20).bind fun v2 =>
      (gR 12 h x0 21).bind fun v3 =>
      (ga 0 h v3 x5).bind fun v4 =>
      (sa 0 h v2 x5 v4).bind fun h5 =>
      F_X12_layGame_B102 x0 x1 x2 x4 k29 n (x5 + 1) h5
    else
      k29 (x4 + (-1)) h
theorem w_X12_layGame_B102 {hz : abH} (x0 : Nat) (x1 : Int32) (x2 : Int32) (x4 : Int32) (k29 : Int32 → abH → Option abH) (hk29 : ∀ (w4 : Int32) (hw : abH), k29 w4 hw = some hz → abW cX12_layGame 7 RX12 none false 7 0 0 none (none, hz) 29 [some (.ref x0), some (.int x1), some (.int x2), none, some (.int w4), none, none] [] hw 0 0) : ∀ (n : Nat) (x5 : Int32) (h : abH), F_X12_layGame_B102 x0 x1 x2 x4 k29 n x5 h = some hz → abW cX12_layGame 7 RX12 none false 7 0 0 none (none, hz) 102 [some (.ref x0), some (.int x1), some (.int x2), none, some (.int x4), some (.int x5), none] [] h 0 0 := by
  intro n
  induction n with
  | zero =>
    intro x5 h hf
    exact absurd (show (none : Option abH) = some _ from hf) (by simp)
  | succ n ih =>
    intro x5 h hf
    rw [F_X12_layGame_B102.eq_2] at hf
    refine ab_iload dX12_layGame_102 rfl ?_
    refine ab_bipush dX12_layGame_104 kbp_100 ?_
    refine ab_icmp_ge 129 dX12_layGame_106 (by decide) hf (fun hf => ?_) (fun hf => ?_)
    · refine ab_aload_n 0 dX12_layGame_109 rfl rfl ?_
      refine f_getR fs_X12_44 dX12_layGame_110 hf (fun v2 hf => ?_)
      refine ab_iload dX12_layGame_113 rfl ?_
      refine ab_aload_n 0 dX12_layGame_115 rfl rfl ?_
      refine f_getR fs_X12_47 dX12_layGame_116 hf (fun v3 hf => ?_)
      refine ab_iload dX12_layGame_119 rfl ?_
      refine f_iald dX12_layGame_121 hf (fun v4 hf => ?_)
      refine f_iast dX12_layGame_122 hf (fun h5 hf => ?_)
      refine ab_iinc (v := x5 + 1) [some (.ref x0), some (.int x1), some (.int x2), none, some (.int x4), some (.int (x5 + 1)), none] dX12_layGame_123 rfl (kinc_1 _) (by decide) rfl rfl ?_
      refine ab_goto 102 dX12_layGame_126 (by decide) ?_
      exact ab_msk [true, true, true, true, true, true, true] (ih (x5 + 1) h5 hf)
    refine ab_iinc (v := x4 + (-1)) [some (.ref x0), some (.int x1), some (.int x2), none, some (.int (x4 + (-1))), some (.int x5), none] dX12_layGame_129 rfl (kinc_m1 _) (by decide) rfl rfl ?_
    refine ab_goto 29 dX12_layGame_132 (by decide) ?_
    exact ab_msk [true, true, true, true, true, false, true] (hk29 (x4 + (-1)) h hf)
def F_X12_layGame_B47 (x0 : Nat) (x1 : Int32) (x2 : Int32) (x4 : Int32) (x5 : Int32) (k29 : Int32 → abH → Option abH) (k37 : Int32 → abH → Option abH) : Nat → Int32 → abH → Option abH
  | 0, _, _ => none
  | n + 1, x6, h =>
    if x6 < 10 then
      (gR 12 h x0 21).bind fun v6 =>
      (gI 12 h x0 6).bind fun v7 =>
      dz 13 <|
      (ko 12 h x0).bind fun _ => (F_X12_bestFrom x0 x1 x2 ((v7 + x4) - (v7 + x4) / 13 * 13) x5 x6 h).bind fun v8 =>
      (sa 0 h v6 ((10 * x5) + x6) v8).bind fun h9 =>
      F_X12_layGame_B47 x0 x1 x2 x4 x5 k29 k37 n (x6 + 1) h9
    else
      k37 (x5 + 1) h
theorem w_X12_layGame_B47 {hz : abH} (x0 : Nat) (x1 : Int32) (x2 : Int32) (x4 : Int32) (x5 : Int32) (k29 : Int32 → abH → Option abH) (k37 : Int32 → abH → Option abH) (hk29 : ∀ (w4 : Int32) (hw : abH), k29 w4 hw = some hz → abW cX12_layGame 7 RX12 none false 7 0 0 none (none, hz) 29 [some (.ref x0), some (.int x1), some (.int x2), none, some (.int w4), none, none] [] hw 0 0) (hk37 : ∀ (w5 : Int32) (hw : abH), k37 w5 hw = some hz → abW cX12_layGame 7 RX12 none false 7 0 0 none (none, hz) 37 [some (.ref x0), some (.int x1), some (.int x2), none, some (.int x4), some (.int w5), none] [] hw 0 0) : ∀ (n : Nat) (x6 : Int32) (h : abH), F_X12_layGame_B47 x0 x1 x2 x4 x5 k29 k37 n x6 h = some hz → abW cX12_layGame 7 RX12 none false 7 0 0 none (none, hz) 47 [some (.ref x0), some (.int x1), some (.int x2), none, some (.int x4), some (.int x5), some (.int x6)] [] h 0 0 := by
  intro n
  induction n with
  | zero =>
    intro x6 h hf
    exact absurd (show (none : Option abH) = some _ from hf) (by simp)
  | succ n ih =>
    intro x6 h hf
    rw [F_X12_layGame_B47.eq_2] at hf
    refine ab_iload dX12_layGame_47 rfl ?_
    refine ab_bipush dX12_layGame_49 kbp_10 ?_
    refine ab_icmp_ge 93 dX12_layGame_51 (by decide) hf (fun hf => ?_) (fun hf => ?_)
    · refine ab_aload_n 0 dX12_layGame_54 rfl rfl ?_
      refine f_getR fs_X12_47 dX12_layGame_55 hf (fun v6 hf => ?_)
      refine ab_bipush dX12_layGame_58 kbp_10 ?_
      refine ab_iload dX12_layGame_60 rfl ?_
      refine ab_imul dX12_layGame_62 ?_
      refine ab_iload dX12_layGame_63 rfl ?_
      refine ab_iadd dX12_layGame_65 ?_
      refine ab_aload_n 0 dX12_layGame_66 rfl rfl ?_
      refine ab_iload_n 1 dX12_layGame_67 rfl rfl ?_
      refine ab_iload_n 2 dX12_layGame_68 rfl rfl ?_
      refine ab_aload_n 0 dX12_layGame_69 rfl rfl ?_
      refine f_getI fs_X12_119 dX12_layGame_70 hf (fun v7 hf => ?_)
      refine ab_iload dX12_layGame_73 rfl ?_
      refine ab_iadd dX12_layGame_75 ?_
      refine ab_bipush dX12_layGame_76 kbp_13 ?_
      refine f_irem dX12_layGame_78 hf (fun hf => ?_)
      refine ab_iload dX12_layGame_79 rfl ?_
      refine ab_iload dX12_layGame_81 rfl ?_
      refine f_V_i (As := [.int x1, .int x2, .int ((v7 + x4) - (v7 + x4) / 13 * 13), .int x5, .int x6]) (st := [.int ((10 * x5) + x6), .ref v6]) cs_X12_201 (fun v q => m_X12_bestFrom x0 x1 x2 ((v7 + x4) - (v7 + x4) / 13 * 13) x5 x6 h q) rfl rfl dX12_layGame_83 (rmk rfl) hf (fun v8 hf => ?_)
      refine f_iast dX12_layGame_86 hf (fun h9 hf => ?_)
      refine ab_iinc (v := x6 + 1) [some (.ref x0), some (.int x1), some (.int x2), none, some (.int x4), some (.int x5), some (.int (x6 + 1))] dX12_layGame_87 rfl (kinc_1 _) (by decide) rfl rfl ?_
      refine ab_goto 47 dX12_layGame_90 (by decide) ?_
      exact ab_msk [true, true, true, true, true, true, true] (ih (x6 + 1) h9 hf)
    refine ab_iinc (v := x5 + 1) [some (.ref x0), some (.int x1), some (.int x2), none, some (.int x4), some (.int (x5 + 1)), some (.int x6)] dX12_layGame_93 rfl (kinc_1 _) (by decide) rfl rfl ?_
    refine ab_goto 37 dX12_layGame_96 (by decide) ?_
    exact ab_msk [true, true, true, true, true, true, false] (hk37 (x5 + 1) h hf)
def F_X12_layGame_B37 (x0 : Nat) (x1 : Int32) (x2 : Int32) (x4 : Int32) (k29 : Int32 → abH → Option abH) : Nat → Int32 → abH → Option abH
  | 0, _, _ => none
  | n + 1, x5, h =>
    if x5 < 10 then
      F_X12_layGame_B47 x0 x1 x2 x4 x5 k29 (fun u5 hu => F_X12_layGame_B37 x0 x1 x2 x4 k29 n u5 hu) 200 0 h
    else
      F_X12_layGame_B102 x0 x1 x2 x4 k29 200 0 h
theorem w_X12_layGame_B37 {hz : abH} (x0 : Nat) (x1 : Int32) (x2 : Int32) (x4 : Int32) (k29 : Int32 → abH → Option abH) (hk29 : ∀ (w4 : Int32) (hw : abH), k29 w4 hw = some hz → abW cX12_layGame 7 RX12 none false 7 0 0 none (none, hz) 29 [some (.ref x0), some (.int x1), some (.int x2), none, some (.int w4), none, none] [] hw 0 0) : ∀ (n : Nat) (x5 : Int32) (h : abH), F_X12_layGame_B37 x0 x1 x2 x4 k29 n x5 h = some hz → abW cX12_layGame 7 RX12 none false 7 0 0 none (none, hz) 37 [some (.ref x0), some (.int x1), some (.int x2), none, some (.int x4), some (.int x5), none] [] h 0 0 := by
  intro n
  induction n with
  | zero =>
    intro x5 h hf
    exact absurd (show (none : Option abH) = some _ from hf) (by simp)
  | succ n ih =>
    intro x5 h hf
    rw [F_X12_layGame_B37.eq_2] at hf
    refine ab_iload dX12_layGame_37 rfl ?_
    refine ab_bipush dX12_layGame_39 kbp_10 ?_
    refine ab_icmp_ge 99 dX12_layGame_41 (by decide) hf (fun hf => ?_) (fun hf => ?_)
    · refine ab_iconst dX12_layGame_44 kic_0 ?_
      refine ab_istore [some (.ref x0), some (.int x1), some (.int x2), none, some (.int x4), some (.int x5), some (.int 0)] dX12_layGame_45 (by decide) rfl rfl ?_
      exact ab_msk [true, true, true, true, true, true, true] (w_X12_layGame_B47 x0 x1 x2 x4 x5 k29 (fun u5 hu => F_X12_layGame_B37 x0 x1 x2 x4 k29 n u5 hu) hk29 (fun u5 hu hf => ih u5 hu hf) 200 0 h hf)
    refine ab_iconst dX12_layGame_99 kic_0 ?_
    refine ab_istore [some (.ref x0), some (.int x1), some (.int x2), none, some (.int x4), some (.int 0), none] dX12_layGame_100 (by decide) rfl rfl ?_
    exact ab_msk [true, true, true, true, true, true, true] (w_X12_layGame_B102 x0 x1 x2 x4 k29 hk29 200 0 h hf)
def F_X12_layGame_B29 (x0 : Nat) (x1 : Int32) (x2 : Int32) : Nat → Int32 → abH → Option abH
  | 0, _, _ => none
  | n + 1, x4, h =>
    if x4 ≤ 0 then
      some h
    else
      F_X12_layGame_B37 x0 x1 x2 x4 (fun u4 hu => F_X12_layGame_B29 x0 x1 x2 n u4 hu) 200 0 h
theorem w_X12_layGame_B29 {hz : abH} (x0 : Nat) (x1 : Int32) (x2 : Int32)   : ∀ (n : Nat) (x4 : Int32) (h : abH), F_X12_layGame_B29 x0 x1 x2 n x4 h = some hz → abW cX12_layGame 7 RX12 none false 7 0 0 none (none, hz) 29 [some (.ref x0), some (.int x1), some (.int x2), none, some (.int x4), none, none] [] h 0 0 := by
  intro n
  induction n with
  | zero =>
    intro x4 h hf
    exact absurd (show (none : Option abH) = some _ from hf) (by simp)
  | succ n ih =>
    intro x4 h hf
    rw [F_X12_layGame_B29.eq_2] at hf
    refine ab_iload dX12_layGame_29 rfl ?_
    refine ab_if_le 135 dX12_layGame_31 (by decide) hf (fun hf => ?_) (fun hf => ?_)
    · exact f_retv2 dX12_layGame_135 rfl (Nat.le_refl 0) (Nat.le_refl 0) hf
    refine ab_iconst dX12_layGame_34 kic_0 ?_
    refine ab_istore [some (.ref x0), some (.int x1), some (.int x2), none, some (.int x4), some (.int 0), none] dX12_layGame_35 (by decide) rfl rfl ?_
    exact ab_msk [true, true, true, true, true, true, true] (w_X12_layGame_B37 x0 x1 x2 x4 (fun u4 hu => F_X12_layGame_B29 x0 x1 x2 n u4 hu) (fun u4 hu hf => ih u4 hu hf) 200 0 h hf)
def F_X12_layGame_B3 (x0 : Nat) (x1 : Int32) (x2 : Int32) (x3 : Int32) : Nat → Int32 → abH → Option abH
  | 0, _, _ => none
  | n + 1, x4, h =>
    if x4 < 100 then
      (gR 12 h x0 20).bind fun v10 =>
      (sa 0 h v10 x4 0).bind fun h11 =>
      F_X12_layGame_B3 x0 x1 x2 x3 n (x4 + 1) h11
    else
      nm (x3 - 1) fun v1 =>
      F_X12_layGame_B29 x0 x1 x2 200 v1 h
theorem w_X12_layGame_B3 {hz : abH} (x0 : Nat) (x1 : Int32) (x2 : Int32) (x3 : Int32)   : ∀ (n : Nat) (x4 : Int32) (h : abH), F_X12_layGame_B3 x0 x1 x2 x3 n x4 h = some hz → abW cX12_layGame 7 RX12 none false 7 0 0 none (none, hz) 3 [some (.ref x0), some (.int x1), some (.int x2), some (.int x3), some (.int x4), none, none] [] h 0 0 := by
  intro n
  induction n with
  | zero =>
    intro x4 h hf
    exact absurd (show (none : Option abH) = some _ from hf) (by simp)
  | succ n ih =>
    intro x4 h hf
    rw [F_X12_layGame_B3.eq_2] at hf
    refine ab_iload dX12_layGame_3 rfl ?_
    refine ab_bipush dX12_layGame_5 kbp_100 ?_
    refine ab_icmp_ge 24 dX12_layGame_7 (by decide) hf (fun hf => ?_) (fun hf => ?_)
    · refine ab_aload_n 0 dX12_layGame_10 rfl rfl ?_
      refine f_getR fs_X12_44 dX12_layGame_11 hf (fun v10 hf => ?_)
      refine ab_iload dX12_layGame_14 rfl ?_
      refine ab_iconst dX12_layGame_16 kic_0 ?_
      refine f_iast dX12_layGame_17 hf (fun h11 hf => ?_)
      refine ab_iinc (v := x4 + 1) [some (.ref x0), some (.int x1), some (.int x2), some (.int x3), some (.int (x4 + 1)), none, none] dX12_layGame_18 rfl (kinc_1 _) (by decide) rfl rfl ?_
      refine ab_goto 3 dX12_layGame_21 (by decide) ?_
      exact ab_msk [true, true, true, true, true, true, true] (ih (x4 + 1) h11 hf)
    refine ab_iload_n 3 dX12_layGame_24 rfl rfl ?_
    refine ab_iconst dX12_layGame_25 kic_1 ?_
    refine ab_isub dX12_layGame_26 ?_
    refine ab_nmi hf (fun v1 hf => ?_)
    refine ab_istore [some (.ref x0), some (.int x1), some (.int x2), some (.int x3), some (.int v1), none, none] dX12_layGame_27 (by decide) rfl rfl ?_
    exact ab_msk [true, true, true, false, true, true, true] (w_X12_layGame_B29 x0 x1 x2 200 v1 h hf)
def F_X12_layGame (a0 : Nat) (a1 : Int32) (a2 : Int32) (a3 : Int32) (h : abH) : Option abH :=
  F_X12_layGame_B3 a0 a1 a2 a3 200 0 h
theorem m_X12_layGame {hz : abH} (a0 : Nat) (a1 : Int32) (a2 : Int32) (a3 : Int32) (h : abH) (hf : F_X12_layGame a0 a1 a2 a3 h = some hz) : abM yX12_layGame cX12_layGame 7 none 7 0 0 [.ref a0, .int a1, .int a2, .int a3] h none hz := by
  refine abM_of (ini := false) [some (.ref a0), some (.int a1), some (.int a2), some (.int a3), none, none, none] (by decide +kernel) (fun q => by first | rfl | cases q) (Nat.le_of_ble_eq_true rfl) rfl ?_
  unfold F_X12_layGame at hf
  refine ab_iconst dX12_layGame_0 kic_0 ?_
  refine ab_istore [some (.ref a0), some (.int a1), some (.int a2), some (.int a3), some (.int 0), none, none] dX12_layGame_1 (by decide) rfl rfl ?_
  exact ab_msk [true, true, true, true, true, true, true] (w_X12_layGame_B3 a0 a1 a2 a3 200 0 h hf)
def F_X12_gameNow_B54 (x0 : Nat) (x1 : Int32) (x2 : Int32) (x5 : Int32) (x6 : Int32) (x7 : Int32) : Nat → Int32 → abH → Option (Int32 × abH)
  | 0, _, _ => none
  | n + 1, x8, h =>
    (F_X12_mayStep x5 x8 x6).bind fun v8 =>
    if v8 = 0 then
      F_X12_gameNow_B54 x0 x1 x2 x5 x6 x7 n (x8 + 1) h
    else
      (gI 12 h x0 6).bind fun v9 =>
      (ko 12 h x0).bind fun _ => (F_X12_answered x0 x1 x2 v9 (x5 + x8) x6 h).bind fun v10 =>
      if v10 = x7 then
        some (x8 + 1, h)
      else
        F_X12_gameNow_B54 x0 x1 x2 x5 x6 x7 n (x8 + 1) h
theorem w_X12_gameNow_B54 {z0 : Int32} {hz : abH} (x0 : Nat) (x1 : Int32) (x2 : Int32) (x5 : Int32) (x6 : Int32) (x7 : Int32)   : ∀ (n : Nat) (x8 : Int32) (h : abH), F_X12_gameNow_B54 x0 x1 x2 x5 x6 x7 n x8 h = some (z0, hz) → abW cX12_gameNow 9 RX12 (some .int) false 8 0 0 none (some (.int z0), hz) 54 [some (.ref x0), some (.int x1), some (.int x2), none, none, some (.int x5), some (.int x6), some (.int x7), some (.int x8)] [] h 0 0 := by
  intro n
  induction n with
  | zero =>
    intro x8 h hf
    exact absurd (show (none : Option (Int32 × abH)) = some _ from hf) (by simp)
  | succ n ih =>
    intro x8 h hf
    rw [F_X12_gameNow_B54.eq_2] at hf
    refine ab_iload dX12_gameNow_54 rfl ?_
    refine ab_iload dX12_gameNow_56 rfl ?_
    refine ab_iload dX12_gameNow_58 rfl ?_
    refine f_S_i (As := [.int x5, .int x8, .int x6]) (st := []) cs_X12_190 (fun v q => m_X12_mayStep x5 x8 x6 h q) rfl rfl dX12_gameNow_60 (rmk rfl) hf (fun v8 hf => ?_)
    refine ab_if_eq 88 dX12_gameNow_63 (by decide) hf (fun hf => ?_) (fun hf => ?_)
    · refine ab_iinc (v := x8 + 1) [some (.ref x0), some (.int x1), some (.int x2), none, none, some (.int x5), some (.int x6), some (.int x7), some (.int (x8 + 1))] dX12_gameNow_88 rfl (kinc_1 _) (by decide) rfl rfl ?_
      refine ab_goto 54 dX12_gameNow_91 (by decide) ?_
      exact ab_msk [true, true, true, true, true, true, true, true, true] (ih (x8 + 1) h hf)
    refine ab_aload_n 0 dX12_gameNow_66 rfl rfl ?_
    refine ab_iload_n 1 dX12_gameNow_67 rfl rfl ?_
    refine ab_iload_n 2 dX12_gameNow_68 rfl rfl ?_
    refine ab_aload_n 0 dX12_gameNow_69 rfl rfl ?_
    refine f_getI fs_X12_119 dX12_gameNow_70 hf (fun v9 hf => ?_)
    refine ab_iload dX12_gameNow_73 rfl ?_
    refine ab_iload dX12_gameNow_75 rfl ?_
    refine ab_iadd dX12_gameNow_77 ?_
    refine ab_iload dX12_gameNow_78 rfl ?_
    refine f_V_i (As := [.int x1, .int x2, .int v9, .int (x5 + x8), .int x6]) (st := []) cs_X12_198 (fun v q => m_X12_answered x0 x1 x2 v9 (x5 + x8) x6 h q) rfl rfl dX12_gameNow_80 (rmk rfl) hf (fun v10 hf => ?_)
    refine ab_iload dX12_gameNow_83 rfl ?_
    refine ab_icmp_eq 94 dX12_gameNow_85 (by decide) hf (fun hf => ?_) (fun hf => ?_)
    · refine ab_iload dX12_gameNow_94 rfl ?_
      refine ab_iconst dX12_gameNow_96 kic_1 ?_
      refine ab_iadd dX12_gameNow_97 ?_
      exact f_reti2 dX12_gameNow_98 rfl (Nat.le_refl 0) (Nat.le_refl 0) hf
    refine ab_iinc (v := x8 + 1) [some (.ref x0), some (.int x1), some (.int x2), none, none, some (.int x5), some (.int x6), some (.int x7), some (.int (x8 + 1))] dX12_gameNow_88 rfl (kinc_1 _) (by decide) rfl rfl ?_
    refine ab_goto 54 dX12_gameNow_91 (by decide) ?_
    exact ab_msk [true, true, true, true, true, true, true, true, true] (ih (x8 + 1) h hf)
def F_X12_gameNow (a0 : Nat) (a1 : Int32) (a2 : Int32) (a3 : Int32) (a4 : Int32) (h : abH) : Option (Int32 × abH) :=
  (ko 12 h a0).bind fun _ => (F_X12_layGame a0 a1 a2 a3 h).bind fun h1 =>
  (gR 12 h1 a0 5).bind fun v2 =>
  (ga 0 h1 v2 a1).bind fun v3 =>
  (gR 12 h1 a0 5).bind fun v4 =>
  (ga 0 h1 v4 a2).bind fun v5 =>
  (gI 12 h1 a0 6).bind fun v6 =>
  (ko 12 h1 a0).bind fun _ => (F_X12_bestFrom a0 a1 a2 v6 v3 v5 h1).bind fun v7 =>
  if a4 = 0 then
    some (v7 + 500, h1)
  else
    F_X12_gameNow_B54 a0 a1 a2 v3 v5 v7 200 (-1) h1
theorem m_X12_gameNow {z0 : Int32} {hz : abH} (a0 : Nat) (a1 : Int32) (a2 : Int32) (a3 : Int32) (a4 : Int32) (h : abH) (hf : F_X12_gameNow a0 a1 a2 a3 a4 h = some (z0, hz)) : abM yX12_gameNow cX12_gameNow 9 (some .int) 8 0 0 [.ref a0, .int a1, .int a2, .int a3, .int a4] h (some (.int z0)) hz := by
  refine abM_of (ini := false) [some (.ref a0), some (.int a1), some (.int a2), some (.int a3), some (.int a4), none, none, none, none] (by decide +kernel) (fun q => by first | rfl | cases q) (Nat.le_of_ble_eq_true rfl) rfl ?_
  unfold F_X12_gameNow at hf
  refine ab_aload_n 0 dX12_gameNow_0 rfl rfl ?_
  refine ab_iload_n 1 dX12_gameNow_1 rfl rfl ?_
  refine ab_iload_n 2 dX12_gameNow_2 rfl rfl ?_
  refine ab_iload_n 3 dX12_gameNow_3 rfl rfl ?_
  refine f_V_v2 (As := [.int a1, .int a2, .int a3]) (st := []) cs_X12_204 (fun hq q => m_X12_layGame a0 a1 a2 a3 h q) rfl rfl dX12_gameNow_4 (rmk rfl) hf (fun h1 hf => ?_)
  refine ab_aload_n 0 dX12_gameNow_7 rfl rfl ?_
  refine f_getR fs_X12_19 dX12_gameNow_8 hf (fun v2 hf => ?_)
  refine ab_iload_n 1 dX12_gameNow_11 rfl rfl ?_
  refine f_iald dX12_gameNow_12 hf (fun v3 hf => ?_)
  refine ab_istore [some (.ref a0), some (.int a1), some (.int a2), some (.int a3), some (.int a4), some (.int v3), none, none, none] dX12_gameNow_13 (by decide) rfl rfl ?_
  refine ab_aload_n 0 dX12_gameNow_15 rfl rfl ?_
  refine f_getR fs_X12_19 dX12_gameNow_16 hf (fun v4 hf => ?_)
  refine ab_iload_n 2 dX12_gameNow_19 rfl rfl ?_
  refine f_iald dX12_gameNow_20 hf (fun v5 hf => ?_)
  refine ab_istore [some (.ref a0), some (.int a1), some (.int a2), some (.int a3), some (.int a4), some (.int v3), some (.int v5), none, none] dX12_gameNow_21 (by decide) rfl rfl ?_
  refine ab_aload_n 0 dX12_gameNow_23 rfl rfl ?_
  refine ab_iload_n 1 dX12_gameNow_24 rfl rfl ?_
  refine ab_iload_n 2 dX12_gameNow_25 rfl rfl ?_
  refine ab_aload_n 0 dX12_gameNow_26 rfl rfl ?_
  refine f_getI fs_X12_119 dX12_gameNow_27 hf (fun v6 hf => ?_)
  refine ab_iload dX12_gameNow_30 rfl ?_
  refine ab_iload dX12_gameNow_32 rfl ?_
  refine f_V_i (As := [.int a1, .int a2, .int v6, .int v3, .int v5]) (st := []) cs_X12_201 (fun v q => m_X12_bestFrom a0 a1 a2 v6 v3 v5 h1 q) rfl rfl dX12_gameNow_34 (rmk rfl) hf (fun v7 hf => ?_)
  refine ab_istore [some (.ref a0), some (.int a1), some (.int a2), some (.int a3), some (.int a4), some (.int v3), some (.int v5), some (.int v7), none] dX12_gameNow_37 (by decide) rfl rfl ?_
  refine ab_iload dX12_gameNow_39 rfl ?_
  refine ab_if_ne 51 dX12_gameNow_41 (by decide) hf (fun hf => ?_) (fun hf => ?_)
  · refine ab_iload dX12_gameNow_44 rfl ?_
    refine ab_sipush dX12_gameNow_46 ksp_500 ?_
    refine ab_iadd dX12_gameNow_49 ?_
    exact f_reti2 dX12_gameNow_50 rfl (Nat.le_refl 0) (Nat.le_refl 0) hf
  refine ab_iconst dX12_gameNow_51 kic_m1 ?_
  refine ab_istore [some (.ref a0), some (.int a1), some (.int a2), some (.int a3), some (.int a4), some (.int v3), some (.int v5), some (.int v7), some (.int (-1))] dX12_gameNow_52 (by decide) rfl rfl ?_
  exact ab_msk [true, true, true, false, false, true, true, true, true] (w_X12_gameNow_B54 a0 a1 a2 v3 v5 v7 200 (-1) h1 hf)
def F_X12_game (a0 : Nat) (a1 : Int32) (a2 : Int32) (a3 : Int32) (a4 : Int32) (h : abH) : Option (Int32 × abH) :=
  (ko 12 h a0).bind fun _ => (F_X12_areTwo a0 a1 a2 h).bind fun v1 =>
  if v1 = 0 then
    some ((-101), h)
  else
    (F_X12_within a3 1 4).bind fun v2 =>
    if v2 = 0 then
      some ((-102), h)
    else
      (F_X12_within a4 0 1).bind fun v3 =>
      if v3 = 0 then
        some ((-102), h)
      else
        (ko 12 h a0).bind fun _ => bd2 (F_X12_gameNow a0 a1 a2 a3 a4 h) fun v5 h4 =>
        some (v5, h4)
theorem m_X12_game {z0 : Int32} {hz : abH} (a0 : Nat) (a1 : Int32) (a2 : Int32) (a3 : Int32) (a4 : Int32) (h : abH) (hf : F_X12_game a0 a1 a2 a3 a4 h = some (z0, hz)) : abM yX12_game cX12_game 5 (some .int) 9 0 0 [.ref a0, .int a1, .int a2, .int a3, .int a4] h (some (.int z0)) hz := by
  refine abM_of (ini := false) [some (.ref a0), some (.int a1), some (.int a2), some (.int a3), some (.int a4)] (by decide +kernel) (fun q => by first | rfl | cases q) (Nat.le_of_ble_eq_true rfl) rfl ?_
  unfold F_X12_game at hf
  refine ab_aload_n 0 dX12_game_0 rfl rfl ?_
  refine ab_iload_n 1 dX12_game_1 rfl rfl ?_
  refine ab_iload_n 2 dX12_game_2 rfl rfl ?_
  refine f_V_i (As := [.int a1, .int a2]) (st := []) cs_X12_183 (fun v q => m_X12_areTwo a0 a1 a2 h q) rfl rfl dX12_game_3 (rmk rfl) hf (fun v1 hf => ?_)
  refine ab_if_ne 12 dX12_game_6 (by decide) hf (fun hf => ?_) (fun hf => ?_)
  · refine ab_bipush dX12_game_9 kbp_m101 ?_
    exact f_reti2 dX12_game_11 rfl (Nat.le_refl 0) (Nat.le_refl 0) hf
  refine ab_iload_n 3 dX12_game_12 rfl rfl ?_
  refine ab_iconst dX12_game_13 kic_1 ?_
  refine ab_iconst dX12_game_14 kic_4 ?_
  refine f_S_i (As := [.int a3, .int 1, .int 4]) (st := []) cs_X12_83 (fun v q => m_X12_within a3 1 4 h q) rfl rfl dX12_game_15 (rmk rfl) hf (fun v2 hf => ?_)
  refine ab_if_eq 43 dX12_game_18 (by decide) hf (fun hf => ?_) (fun hf => ?_)
  · refine ab_bipush dX12_game_43 kbp_m102 ?_
    exact f_reti2 dX12_game_45 rfl (Nat.le_refl 0) (Nat.le_refl 0) hf
  refine ab_iload dX12_game_21 rfl ?_
  refine ab_iconst dX12_game_23 kic_0 ?_
  refine ab_iconst dX12_game_24 kic_1 ?_
  refine f_S_i (As := [.int a4, .int 0, .int 1]) (st := []) cs_X12_83 (fun v q => m_X12_within a4 0 1 h q) rfl rfl dX12_game_25 (rmk rfl) hf (fun v3 hf => ?_)
  refine ab_if_eq 43 dX12_game_28 (by decide) hf (fun hf => ?_) (fun hf => ?_)
  · refine ab_bipush dX12_game_43 kbp_m102 ?_
    exact f_reti2 dX12_game_45 rfl (Nat.le_refl 0) (Nat.le_refl 0) hf
  refine ab_aload_n 0 dX12_game_31 rfl rfl ?_
  refine ab_iload_n 1 dX12_game_32 rfl rfl ?_
  refine ab_iload_n 2 dX12_game_33 rfl rfl ?_
  refine ab_iload_n 3 dX12_game_34 rfl rfl ?_
  refine ab_iload dX12_game_35 rfl ?_
  refine f_V_i2 (As := [.int a1, .int a2, .int a3, .int a4]) (st := []) cs_X12_208 (fun v hq q => m_X12_gameNow a0 a1 a2 a3 a4 h q) rfl rfl dX12_game_37 (rmk rfl) hf (fun v5 h4 hf => ?_)
  refine ab_goto 45 dX12_game_40 (by decide) ?_
  exact f_reti2 dX12_game_45 rfl (Nat.le_refl 0) (Nat.le_refl 0) hf
