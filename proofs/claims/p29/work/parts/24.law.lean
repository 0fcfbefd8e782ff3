def F_L_cell (L : Nat) (xs : Nat → Int32) (a1 : Int32) : Option Int32 :=
  if a1 < (Int32.ofNat L) then
    (sx L xs a1).bind fun v1 =>
    some (v1 &&& 2147483647)
  else
    some (((7919 * a1) + 13) &&& 2147483647)
theorem m_L_cell {z0 : Int32} (L : Nat) (xs : Nat → Int32) (a1 : Int32) (hf : F_L_cell L xs a1 = some z0) : abMx L xs yL_cell cL_cell 2 (some .int) 1 [.ref 0, .int a1] z0 := by
  refine abMx_of [some (.ref 0), some (.int a1)] (by decide +kernel) (Nat.le_of_ble_eq_true rfl) rfl (fun h => ?_)
  unfold F_L_cell at hf
  refine ab_iload_n 1 dL_cell_0 rfl rfl ?_
  refine ab_aload_n 0 dL_cell_1 rfl rfl ?_
  refine ab_slen dL_cell_2 ?_
  refine ab_icmp_ge 12 dL_cell_3 (by decide) hf (fun hf => ?_) (fun hf => ?_)
  · refine ab_aload_n 0 dL_cell_6 rfl rfl ?_
    refine ab_iload_n 1 dL_cell_7 rfl rfl ?_
    refine f_sld dL_cell_8 hf (fun v1 hf => ?_)
    refine ab_goto 20 dL_cell_9 (by decide) ?_
    refine ab_ldc (v := 2147483647) tb_393 dL_cell_20 ?_
    refine ab_iand dL_cell_22 ?_
    exact f_reti dL_cell_23 rfl (Nat.le_refl 0) (Nat.le_refl 0) hf
  refine ab_sipush dL_cell_12 ksp_7919 ?_
  refine ab_iload_n 1 dL_cell_15 rfl rfl ?_
  refine ab_imul dL_cell_16 ?_
  refine ab_bipush dL_cell_17 kbp_13 ?_
  refine ab_iadd dL_cell_19 ?_
  refine ab_ldc (v := 2147483647) tb_393 dL_cell_20 ?_
  refine ab_iand dL_cell_22 ?_
  exact f_reti dL_cell_23 rfl (Nat.le_refl 0) (Nat.le_refl 0) hf
def F_L_put (a0 : Nat) (a1 : Int32) (h : abH) : Option (Int32 × abH) :=
  (ko 11 h a0).bind fun _ => bd2 (F_X11_letter a0 a1 h) fun v2 h1 =>
  if v2 ≤ 0 then
    some (0, h1)
  else
    some (1, h1)
theorem m_L_put {z0 : Int32} {hz : abH} (a0 : Nat) (a1 : Int32) (h : abH) (hf : F_L_put a0 a1 h = some (z0, hz)) : abM yL_put cL_put 2 (some .boolean) 3 0 0 [.ref a0, .int a1] h (some (.int z0)) hz := by
  refine abM_of (ini := false) [some (.ref a0), some (.int a1)] (by decide +kernel) (fun q => by first | rfl | cases q) (Nat.le_of_ble_eq_true rfl) rfl ?_
  unfold F_L_put at hf
  refine ab_aload_n 0 dL_put_0 rfl rfl ?_
  refine ab_iload_n 1 dL_put_1 rfl rfl ?_
  refine f_V_i2 (As := [.int a1]) (st := []) cs_L_8 (fun v hq q => m_X11_letter a0 a1 h q) rfl rfl dL_put_2 (rmk rfl) hf (fun v2 h1 hf => ?_)
  refine ab_if_le 12 dL_put_5 (by decide) hf (fun hf => ?_) (fun hf => ?_)
  · refine ab_iconst dL_put_12 kic_0 ?_
    exact f_retzc2 rfl dL_put_13 rfl (Nat.le_refl 0) (Nat.le_refl 0) hf
  refine ab_iconst dL_put_8 kic_1 ?_
  refine ab_goto 13 dL_put_9 (by decide) ?_
  exact f_retzc2 rfl dL_put_13 rfl (Nat.le_refl 0) (Nat.le_refl 0) hf
def F_L_court_B263 (x0 : Nat) (x1 : Int32) (x2 : Int32) (x4 : Nat) (x6 : Int32) (x7 : Int32) (y0 : Nat) (y1 : Int32) (h : abH) (k115 : Int32 → Int32 → abH → Option (Int32 × abH)) : Option (Int32 × abH) :=
  bd2 (F_L_put y0 y1 h) fun v17 h16 =>
  if v17 = 0 then
    k115 0 (x6 + 1) h16
  else
    (ga 0 h16 x4 (x7 + 1)).bind fun v18 =>
    bd2 (F_L_put x0 (48 + v18) h16) fun v20 h19 =>
    if v20 = 0 then
      k115 0 (x6 + 1) h19
    else
      (ga 0 h19 x4 (x7 + 2)).bind fun v21 =>
      bd2 (F_L_put x0 (48 + v21) h19) fun v23 h22 =>
      if v23 = 0 then
        k115 0 (x6 + 1) h22
      else
        k115 1 (x6 + 1) h22
theorem w_L_court_B263 {z0 : Int32} {hz : abH} (x0 : Nat) (x1 : Int32) (x2 : Int32) (x4 : Nat) (x6 : Int32) (x7 : Int32) (y0 : Nat) (y1 : Int32) (h : abH) (k115 : Int32 → Int32 → abH → Option (Int32 × abH)) (hk115 : ∀ (w5 : Int32) (w6 : Int32) (hw : abH) (nw nsw : Nat), nw + 6 ≤ 6 → nsw + 12 ≤ 12 → k115 w5 w6 hw = some (z0, hz) → abW cL_court 9 RL (some .boolean) false 9 6 12 none (some (.int z0), hz) 115 [some (.ref x0), some (.int x1), some (.int x2), none, some (.ref x4), some (.int w5), some (.int w6), none, none] [] hw nw nsw) {nc ns : Nat} (hnc : nc + 6 ≤ 6) (hns : ns + 12 ≤ 12) (hf : F_L_court_B263 x0 x1 x2 x4 x6 x7 y0 y1 h k115 = some (z0, hz)) : abW cL_court 9 RL (some .boolean) false 9 6 12 none (some (.int z0), hz) 263 [some (.ref x0), some (.int x1), some (.int x2), none, some (.ref x4), none, some (.int x6), some (.int x7), none] [.int y1, .ref y0] h nc ns := by
  unfold F_L_court_B263 at hf
  refine f_S_i2 (As := [.ref y0, .int y1]) (st := []) cs_L_14 (fun v hq q => m_L_put y0 y1 h q) rfl rfl dL_court_263 (rmk2 (by decide) (by decide) (Nat.le_of_ble_eq_true rfl) (by omega) (by omega)) hf (fun v17 h16 hf => ?_)
  refine ab_if_eq 307 dL_court_266 (by decide) hf (fun hf => ?_) (fun hf => ?_)
  · refine ab_iconst dL_court_307 kic_0 ?_
    refine ab_istore [some (.ref x0), some (.int x1), some (.int x2), none, some (.ref x4), some (.int 0), some (.int x6), some (.int x7), none] dL_court_308 (by decide) rfl rfl ?_
    refine ab_iinc (v := x6 + 1) [some (.ref x0), some (.int x1), some (.int x2), none, some (.ref x4), some (.int 0), some (.int (x6 + 1)), some (.int x7), none] dL_court_310 rfl (kinc_1 _) (by decide) rfl rfl ?_
    refine ab_goto 115 dL_court_313 (by decide) ?_
    exact ab_msk [true, true, true, true, true, true, true, false, true] (hk115 0 (x6 + 1) h16 _ _ (by omega) (by omega) hf)
  refine ab_aload_n 0 dL_court_269 rfl rfl ?_
  refine ab_bipush dL_court_270 kbp_48 ?_
  refine ab_aload dL_court_272 rfl ?_
  refine ab_iload dL_court_274 rfl ?_
  refine ab_iconst dL_court_276 kic_1 ?_
  refine ab_iadd dL_court_277 ?_
  refine f_iald dL_court_278 hf (fun v18 hf => ?_)
  refine ab_iadd dL_court_279 ?_
  refine f_S_i2 (As := [.ref x0, .int (48 + v18)]) (st := []) cs_L_14 (fun v hq q => m_L_put x0 (48 + v18) h16 q) rfl rfl dL_court_280 (rmk2 (by decide) (by decide) (Nat.le_of_ble_eq_true rfl) (by omega) (by omega)) hf (fun v20 h19 hf => ?_)
  refine ab_if_eq 307 dL_court_283 (by decide) hf (fun hf => ?_) (fun hf => ?_)
  · refine ab_iconst dL_court_307 kic_0 ?_
    refine ab_istore [some (.ref x0), some (.int x1), some (.int x2), none, some (.ref x4), some (.int 0), some (.int x6), some (.int x7), none] dL_court_308 (by decide) rfl rfl ?_
    refine ab_iinc (v := x6 + 1) [some (.ref x0), some (.int x1), some (.int x2), none, some (.ref x4), some (.int 0), some (.int (x6 + 1)), some (.int x7), none] dL_court_310 rfl (kinc_1 _) (by decide) rfl rfl ?_
    refine ab_goto 115 dL_court_313 (by decide) ?_
    exact ab_msk [true, true, true, true, true, true, true, false, true] (hk115 0 (x6 + 1) h19 _ _ (by omega) (by omega) hf)
  refine ab_aload_n 0 dL_court_286 rfl rfl ?_
  refine ab_bipush dL_court_287 kbp_48 ?_
  refine ab_aload dL_court_289 rfl ?_
  refine ab_iload dL_court_291 rfl ?_
  refine ab_iconst dL_court_293 kic_2 ?_
  refine ab_iadd dL_court_294 ?_
  refine f_iald dL_court_295 hf (fun v21 hf => ?_)
  refine ab_iadd dL_court_296 ?_
  refine f_S_i2 (As := [.ref x0, .int (48 + v21)]) (st := []) cs_L_14 (fun v hq q => m_L_put x0 (48 + v21) h19 q) rfl rfl dL_court_297 (rmk2 (by decide) (by decide) (Nat.le_of_ble_eq_true rfl) (by omega) (by omega)) hf (fun v23 h22 hf => ?_)
  refine ab_if_eq 307 dL_court_300 (by decide) hf (fun hf => ?_) (fun hf => ?_)
  · refine ab_iconst dL_court_307 kic_0 ?_
    refine ab_istore [some (.ref x0), some (.int x1), some (.int x2), none, some (.ref x4), some (.int 0), some (.int x6), some (.int x7), none] dL_court_308 (by decide) rfl rfl ?_
    refine ab_iinc (v := x6 + 1) [some (.ref x0), some (.int x1), some (.int x2), none, some (.ref x4), some (.int 0), some (.int (x6 + 1)), some (.int x7), none] dL_court_310 rfl (kinc_1 _) (by decide) rfl rfl ?_
    refine ab_goto 115 dL_court_313 (by decide) ?_
    exact ab_msk [true, true, true, true, true, true, true, false, true] (hk115 0 (x6 + 1) h22 _ _ (by omega) (by omega) hf)
  refine ab_iconst dL_court_303 kic_1 ?_
  refine ab_goto 308 dL_court_304 (by decide) ?_
  refine ab_istore [some (.ref x0), some (.int x1), some (.int x2), none, some (.ref x4), some (.int 1), some (.int x6), some (.int x7), none] dL_court_308 (by decide) rfl rfl ?_
  refine ab_iinc (v := x6 + 1) [some (.ref x0), some (.int x1), some (.int x2), none, some (.ref x4), some (.int 1), some (.int (x6 + 1)), some (.int x7), none] dL_court_310 rfl (kinc_1 _) (by decide) rfl rfl ?_
  refine ab_goto 115 dL_court_313 (by decide) ?_
  exact ab_msk [true, true, true, true, true, true, true, false, true] (hk115 1 (x6 + 1) h22 _ _ (by omega) (by omega) hf)
def F_L_court_B217 (x0 : Nat) (x1 : Int32) (x2 : Int32) (x4 : Nat) (x6 : Int32) (x7 : Int32) (x8 : Int32) (h : abH) (k115 : Int32 → Int32 → abH → Option (Int32 × abH)) : Option (Int32 × abH) :=
  if x8 = 0 then
    F_L_court_B263 x0 x1 x2 x4 x6 x7 x0 112 h k115
  else
    if x8 = 1 then
      F_L_court_B263 x0 x1 x2 x4 x6 x7 x0 104 h k115
    else
      if x8 = 2 then
        F_L_court_B263 x0 x1 x2 x4 x6 x7 x0 116 h k115
      else
        if x8 = 3 then
          F_L_court_B263 x0 x1 x2 x4 x6 x7 x0 99 h k115
        else
          F_L_court_B263 x0 x1 x2 x4 x6 x7 x0 117 h k115
theorem w_L_court_B217 {z0 : Int32} {hz : abH} (x0 : Nat) (x1 : Int32) (x2 : Int32) (x4 : Nat) (x6 : Int32) (x7 : Int32) (x8 : Int32) (h : abH) (k115 : Int32 → Int32 → abH → Option (Int32 × abH)) (hk115 : ∀ (w5 : Int32) (w6 : Int32) (hw : abH) (nw nsw : Nat), nw + 6 ≤ 6 → nsw + 12 ≤ 12 → k115 w5 w6 hw = some (z0, hz) → abW cL_court 9 RL (some .boolean) false 9 6 12 none (some (.int z0), hz) 115 [some (.ref x0), some (.int x1), some (.int x2), none, some (.ref x4), some (.int w5), some (.int w6), none, none] [] hw nw nsw) {nc ns : Nat} (hnc : nc + 6 ≤ 6) (hns : ns + 12 ≤ 12) (hf : F_L_court_B217 x0 x1 x2 x4 x6 x7 x8 h k115 = some (z0, hz)) : abW cL_court 9 RL (some .boolean) false 9 6 12 none (some (.int z0), hz) 217 [some (.ref x0), some (.int x1), some (.int x2), none, some (.ref x4), none, some (.int x6), some (.int x7), some (.int x8)] [] h nc ns := by
  unfold F_L_court_B217 at hf
  refine ab_aload_n 0 dL_court_217 rfl rfl ?_
  refine ab_iload dL_court_218 rfl ?_
  refine ab_if_ne 228 dL_court_220 (by decide) hf (fun hf => ?_) (fun hf => ?_)
  · refine ab_bipush dL_court_223 kbp_112 ?_
    refine ab_goto 263 dL_court_225 (by decide) ?_
    exact ab_msk [true, true, true, true, true, true, true, true, false] (w_L_court_B263 x0 x1 x2 x4 x6 x7 x0 112 h k115 hk115 (by omega) (by omega) hf)
  refine ab_iload dL_court_228 rfl ?_
  refine ab_iconst dL_court_230 kic_1 ?_
  refine ab_icmp_ne 239 dL_court_231 (by decide) hf (fun hf => ?_) (fun hf => ?_)
  · refine ab_bipush dL_court_234 kbp_104 ?_
    refine ab_goto 263 dL_court_236 (by decide) ?_
    exact ab_msk [true, true, true, true, true, true, true, true, false] (w_L_court_B263 x0 x1 x2 x4 x6 x7 x0 104 h k115 hk115 (by omega) (by omega) hf)
  refine ab_iload dL_court_239 rfl ?_
  refine ab_iconst dL_court_241 kic_2 ?_
  refine ab_icmp_ne 250 dL_court_242 (by decide) hf (fun hf => ?_) (fun hf => ?_)
  · refine ab_bipush dL_court_245 kbp_116 ?_
    refine ab_goto 263 dL_court_247 (by decide) ?_
    exact ab_msk [true, true, true, true, true, true, true, true, false] (w_L_court_B263 x0 x1 x2 x4 x6 x7 x0 116 h k115 hk115 (by omega) (by omega) hf)
  refine ab_iload dL_court_250 rfl ?_
  refine ab_iconst dL_court_252 kic_3 ?_
  refine ab_icmp_ne 261 dL_court_253 (by decide) hf (fun hf => ?_) (fun hf => ?_)
  · refine ab_bipush dL_court_256 kbp_99 ?_
    refine ab_goto 263 dL_court_258 (by decide) ?_
    exact ab_msk [true, true, true, true, true, true, true, true, false] (w_L_court_B263 x0 x1 x2 x4 x6 x7 x0 99 h k115 hk115 (by omega) (by omega) hf)
  refine ab_bipush dL_court_261 kbp_117 ?_
  exact ab_msk [true, true, true, true, true, true, true, true, false] (w_L_court_B263 x0 x1 x2 x4 x6 x7 x0 117 h k115 hk115 (by omega) (by omega) hf)
def F_L_court_B115 (x0 : Nat) (x1 : Int32) (x2 : Int32) (x4 : Nat) : Nat → Int32 → Int32 → abH → Option (Int32 × abH)
  | 0, _, _, _ => none
  | n + 1, x5, x6, h =>
    (ga 0 h x4 0).bind fun v5 =>
    if x6 < v5 then
      nm (14 + (3 * x6)) fun v11 =>
      dz 5 <|
      nm (((x1 >>> ((2 + (3 * x6)) &&& 31)) &&& 7) - ((x1 >>> ((2 + (3 * x6)) &&& 31)) &&& 7) / 5 * 5) fun v12 =>
      (sa 0 h x4 v11 v12).bind fun h13 =>
      dz 9 <|
      (sa 0 h13 x4 (v11 + 1) (1 + (((x2 >>> ((3 * x6) &&& 31)) &&& 15) - ((x2 >>> ((3 * x6) &&& 31)) &&& 15) / 9 * 9))).bind fun h14 =>
      dz 10 <|
      (sa 0 h14 x4 (v11 + 2) (((x2 >>> ((14 + (3 * x6)) &&& 31)) &&& 15) - ((x2 >>> ((14 + (3 * x6)) &&& 31)) &&& 15) / 10 * 10)).bind fun h15 =>
      if x5 = 0 then
        F_L_court_B115 x0 x1 x2 x4 n 0 (x6 + 1) h15
      else
        if x6 = 0 then
          F_L_court_B217 x0 x1 x2 x4 x6 v11 v12 h15 (fun u5 u6 hu => F_L_court_B115 x0 x1 x2 x4 n u5 u6 hu)
        else
          bd2 (F_L_put x0 44 h15) fun v25 h24 =>
          if v25 = 0 then
            F_L_court_B115 x0 x1 x2 x4 n 0 (x6 + 1) h24
          else
            F_L_court_B217 x0 x1 x2 x4 x6 v11 v12 h24 (fun u5 u6 hu => F_L_court_B115 x0 x1 x2 x4 n u5 u6 hu)
    else
      if x5 = 0 then
        some (0, h)
      else
        (ko 11 h x0).bind fun _ => (F_X11_fault x0 h).bind fun v6 =>
        (ga 0 h x4 0).bind fun v7 =>
        if v6 = (10 + (4 * v7)) then
          (ko 11 h x0).bind fun _ => bd2 (F_X11_court x0 h) fun v9 h8 =>
          (ga 0 h8 x4 0).bind fun v10 =>
          if v9 = v10 then
            some (1, h8)
          else
            some (0, h8)
        else
          some (0, h)
theorem w_L_court_B115 {z0 : Int32} {hz : abH} (x0 : Nat) (x1 : Int32) (x2 : Int32) (x4 : Nat)   : ∀ (n : Nat) (x5 : Int32) (x6 : Int32) (h : abH) (nc ns : Nat), nc + 6 ≤ 6 → ns + 12 ≤ 12 → F_L_court_B115 x0 x1 x2 x4 n x5 x6 h = some (z0, hz) → abW cL_court 9 RL (some .boolean) false 9 6 12 none (some (.int z0), hz) 115 [some (.ref x0), some (.int x1), some (.int x2), none, some (.ref x4), some (.int x5), some (.int x6), none, none] [] h nc ns := by
  intro n
  induction n with
  | zero =>
    intro x5 x6 h nc ns hnc hns hf
    exact absurd (show (none : Option (Int32 × abH)) = some _ from hf) (by simp)
  | succ n ih =>
    intro x5 x6 h nc ns hnc hns hf
    rw [F_L_court_B115.eq_2] at hf
    refine ab_iload dL_court_115 rfl ?_
    refine ab_aload dL_court_117 rfl ?_
    refine ab_iconst dL_court_119 kic_0 ?_
    refine f_iald dL_court_120 hf (fun v5 hf => ?_)
    refine ab_icmp_ge 316 dL_court_121 (by decide) hf (fun hf => ?_) (fun hf => ?_)
    · refine ab_bipush dL_court_124 kbp_14 ?_
      refine ab_iconst dL_court_126 kic_3 ?_
      refine ab_iload dL_court_127 rfl ?_
      refine ab_imul dL_court_129 ?_
      refine ab_iadd dL_court_130 ?_
      refine ab_nmi hf (fun v11 hf => ?_)
      refine ab_istore [some (.ref x0), some (.int x1), some (.int x2), none, some (.ref x4), some (.int x5), some (.int x6), some (.int v11), none] dL_court_131 (by decide) rfl rfl ?_
      refine ab_iload_n 1 dL_court_133 rfl rfl ?_
      refine ab_iconst dL_court_134 kic_2 ?_
      refine ab_iconst dL_court_135 kic_3 ?_
      refine ab_iload dL_court_136 rfl ?_
      refine ab_imul dL_court_138 ?_
      refine ab_iadd dL_court_139 ?_
      refine ab_ishr dL_court_140 ?_
      refine ab_bipush dL_court_141 kbp_7 ?_
      refine ab_iand dL_court_143 ?_
      refine ab_iconst dL_court_144 kic_5 ?_
      refine f_irem dL_court_145 hf (fun hf => ?_)
      refine ab_nmi hf (fun v12 hf => ?_)
      refine ab_istore [some (.ref x0), some (.int x1), some (.int x2), none, some (.ref x4), some (.int x5), some (.int x6), some (.int v11), some (.int v12)] dL_court_146 (by decide) rfl rfl ?_
      refine ab_aload dL_court_148 rfl ?_
      refine ab_iload dL_court_150 rfl ?_
      refine ab_iload dL_court_152 rfl ?_
      refine f_iast dL_court_154 hf (fun h13 hf => ?_)
      refine ab_aload dL_court_155 rfl ?_
      refine ab_iload dL_court_157 rfl ?_
      refine ab_iconst dL_court_159 kic_1 ?_
      refine ab_iadd dL_court_160 ?_
      refine ab_iconst dL_court_161 kic_1 ?_
      refine ab_iload_n 2 dL_court_162 rfl rfl ?_
      refine ab_iconst dL_court_163 kic_3 ?_
      refine ab_iload dL_court_164 rfl ?_
      refine ab_imul dL_court_166 ?_
      refine ab_ishr dL_court_167 ?_
      refine ab_bipush dL_court_168 kbp_15 ?_
      refine ab_iand dL_court_170 ?_
      refine ab_bipush dL_court_171 kbp_9 ?_
      refine f_irem dL_court_173 hf (fun hf => ?_)
      refine ab_iadd dL_court_174 ?_
      refine f_iast dL_court_175 hf (fun h14 hf => ?_)
      refine ab_aload dL_court_176 rfl ?_
      refine ab_iload dL_court_178 rfl ?_
      refine ab_iconst dL_court_180 kic_2 ?_
      refine ab_iadd dL_court_181 ?_
      refine ab_iload_n 2 dL_court_182 rfl rfl ?_
      refine ab_bipush dL_court_183 kbp_14 ?_
      refine ab_iconst dL_court_185 kic_3 ?_
      refine ab_iload dL_court_186 rfl ?_
      refine ab_imul dL_court_188 ?_
      refine ab_iadd dL_court_189 ?_
      refine ab_ishr dL_court_190 ?_
      refine ab_bipush dL_court_191 kbp_15 ?_
      refine ab_iand dL_court_193 ?_
      refine ab_bipush dL_court_194 kbp_10 ?_
      refine f_irem dL_court_196 hf (fun hf => ?_)
      refine f_iast dL_court_197 hf (fun h15 hf => ?_)
      refine ab_iload dL_court_198 rfl ?_
      refine ab_if_eq 307 dL_court_200 (by decide) hf (fun hf => ?_) (fun hf => ?_)
      · refine ab_iconst dL_court_307 kic_0 ?_
        refine ab_istore [some (.ref x0), some (.int x1), some (.int x2), none, some (.ref x4), some (.int 0), some (.int x6), some (.int v11), some (.int v12)] dL_court_308 (by decide) rfl rfl ?_
        refine ab_iinc (v := x6 + 1) [some (.ref x0), some (.int x1), some (.int x2), none, some (.ref x4), some (.int 0), some (.int (x6 + 1)), some (.int v11), some (.int v12)] dL_court_310 rfl (kinc_1 _) (by decide) rfl rfl ?_
        refine ab_goto 115 dL_court_313 (by decide) ?_
        exact ab_msk [true, true, true, true, true, true, true, false, false] (ih 0 (x6 + 1) h15 _ _ (by omega) (by omega) hf)
      refine ab_iload dL_court_203 rfl ?_
      refine ab_if_eq 217 dL_court_205 (by decide) hf (fun hf => ?_) (fun hf => ?_)
      · exact ab_msk [true, true, true, true, true, false, true, true, true] (w_L_court_B217 x0 x1 x2 x4 x6 v11 v12 h15 (fun u5 u6 hu => F_L_court_B115 x0 x1 x2 x4 n u5 u6 hu) (fun u5 u6 hu nw nsw q1 q2 hf => ih u5 u6 hu nw nsw (by omega) (by omega) hf) (by omega) (by omega) hf)
      refine ab_aload_n 0 dL_court_208 rfl rfl ?_
      refine ab_bipush dL_court_209 kbp_44 ?_
      refine f_S_i2 (As := [.ref x0, .int 44]) (st := []) cs_L_14 (fun v hq q => m_L_put x0 44 h15 q) rfl rfl dL_court_211 (rmk2 (by decide) (by decide) (Nat.le_of_ble_eq_true rfl) (by omega) (by omega)) hf (fun v25 h24 hf => ?_)
      refine ab_if_eq 307 dL_court_214 (by decide) hf (fun hf => ?_) (fun hf => ?_)
      · refine ab_iconst dL_court_307 kic_0 ?_
        refine ab_istore [some (.ref x0), some (.int x1), some (.int x2), none, some (.ref x4), some (.int 0), some (.int x6), some (.int v11), some (.int v12)] dL_court_308 (by decide) rfl rfl ?_
        refine ab_iinc (v := x6 + 1) [some (.ref x0), some (.int x1), some (.int x2), none, some (.ref x4), some (.int 0), some (.int (x6 + 1)), some (.int v11), some (.int v12)] dL_court_310 rfl (kinc_1 _) (by decide) rfl rfl ?_
        refine ab_goto 115 dL_court_313 (by decide) ?_
        exact ab_msk [true, true, true, true, true, true, true, false, false] (ih 0 (x6 + 1) h24 _ _ (by omega) (by omega) hf)
      exact ab_msk [true, true, true, true, true, false, true, true, true] (w_L_court_B217 x0 x1 x2 x4 x6 v11 v12 h24 (fun u5 u6 hu => F_L_court_B115 x0 x1 x2 x4 n u5 u6 hu) (fun u5 u6 hu nw nsw q1 q2 hf => ih u5 u6 hu nw nsw (by omega) (by omega) hf) (by omega) (by omega) hf)
    refine ab_iload dL_court_316 rfl ?_
    refine ab_if_eq 352 dL_court_318 (by decide) hf (fun hf => ?_) (fun hf => ?_)
    · refine ab_iconst dL_court_352 kic_0 ?_
      exact f_retzc2 rfl dL_court_353 rfl (by omega) (by omega) hf
    refine ab_aload_n 0 dL_court_321 rfl rfl ?_
    refine f_V_i (As := []) (st := []) cs_L_20 (fun v q => m_X11_fault x0 h q) rfl rfl dL_court_322 (rmk2 (by decide) (by decide) (Nat.le_of_ble_eq_true rfl) (by omega) (by omega)) hf (fun v6 hf => ?_)
    refine ab_bipush dL_court_325 kbp_10 ?_
    refine ab_iconst dL_court_327 kic_4 ?_
    refine ab_aload dL_court_328 rfl ?_
    refine ab_iconst dL_court_330 kic_0 ?_
    refine f_iald dL_court_331 hf (fun v7 hf => ?_)
    refine ab_imul dL_court_332 ?_
    refine ab_iadd dL_court_333 ?_
    refine ab_icmp_ne 352 dL_court_334 (by decide) hf (fun hf => ?_) (fun hf => ?_)
    · refine ab_aload_n 0 dL_court_337 rfl rfl ?_
      refine f_V_i2 (As := []) (st := []) cs_L_24 (fun v hq q => m_X11_court x0 h q) rfl rfl dL_court_338 (rmk2 (by decide) (by decide) (Nat.le_of_ble_eq_true rfl) (by omega) (by omega)) hf (fun v9 h8 hf => ?_)
      refine ab_aload dL_court_341 rfl ?_
      refine ab_iconst dL_court_343 kic_0 ?_
      refine f_iald dL_court_344 hf (fun v10 hf => ?_)
      refine ab_icmp_ne 352 dL_court_345 (by decide) hf (fun hf => ?_) (fun hf => ?_)
      · refine ab_iconst dL_court_348 kic_1 ?_
        refine ab_goto 353 dL_court_349 (by decide) ?_
        exact f_retzc2 rfl dL_court_353 rfl (by omega) (by omega) hf
      refine ab_iconst dL_court_352 kic_0 ?_
      exact f_retzc2 rfl dL_court_353 rfl (by omega) (by omega) hf
    refine ab_iconst dL_court_352 kic_0 ?_
    exact f_retzc2 rfl dL_court_353 rfl (by omega) (by omega) hf
def F_L_court_B30 (x0 : Nat) (x1 : Int32) (x2 : Int32) (x3 : Int32) (x4 : Nat) : Nat → Int32 → Int32 → abH → Option (Int32 × abH)
  | 0, _, _, _ => none
  | n + 1, x5, x6, h =>
    if x6 < 10 then
      dz 10 <|
      (sa 0 h x4 (4 + x6) (((x3 >>> ((2 * x6) &&& 31)) &&& 15) - ((x3 >>> ((2 * x6) &&& 31)) &&& 15) / 10 * 10)).bind fun h28 =>
      if x5 = 0 then
        F_L_court_B30 x0 x1 x2 x3 x4 n 0 (x6 + 1) h28
      else
        (ga 0 h28 x4 (4 + x6)).bind fun v29 =>
        bd2 (F_L_put x0 (48 + v29) h28) fun v31 h30 =>
        if v31 = 0 then
          F_L_court_B30 x0 x1 x2 x3 x4 n 0 (x6 + 1) h30
        else
          F_L_court_B30 x0 x1 x2 x3 x4 n 1 (x6 + 1) h30
    else
      if x5 = 0 then
        F_L_court_B115 x0 x1 x2 x4 200 0 0 h
      else
        bd2 (F_L_put x0 59 h) fun v27 h26 =>
        if v27 = 0 then
          F_L_court_B115 x0 x1 x2 x4 200 0 0 h26
        else
          F_L_court_B115 x0 x1 x2 x4 200 1 0 h26
theorem w_L_court_B30 {z0 : Int32} {hz : abH} (x0 : Nat) (x1 : Int32) (x2 : Int32) (x3 : Int32) (x4 : Nat)   : ∀ (n : Nat) (x5 : Int32) (x6 : Int32) (h : abH) (nc ns : Nat), nc + 6 ≤ 6 → ns + 12 ≤ 12 → F_L_court_B30 x0 x1 x2 x3 x4 n x5 x6 h = some (z0, hz) → abW cL_court 9 RL (some .boolean) false 9 6 12 none (some (.int z0), hz) 30 [some (.ref x0), some (.int x1), some (.int x2), some (.int x3), some (.ref x4), some (.int x5), some (.int x6), none, none] [] h nc ns := by
  intro n
  induction n with
  | zero =>
    intro x5 x6 h nc ns hnc hns hf
    exact absurd (show (none : Option (Int32 × abH)) = some _ from hf) (by simp)
  | succ n ih =>
    intro x5 x6 h nc ns hnc hns hf
    rw [F_L_court_B30.eq_2] at hf
    refine ab_iload dL_court_30 rfl ?_
    refine ab_bipush dL_court_32 kbp_10 ?_
    refine ab_icmp_ge 91 dL_court_34 (by decide) hf (fun hf => ?_) (fun hf => ?_)
    · refine ab_aload dL_court_37 rfl ?_
      refine ab_iconst dL_court_39 kic_4 ?_
      refine ab_iload dL_court_40 rfl ?_
      refine ab_iadd dL_court_42 ?_
      refine ab_iload_n 3 dL_court_43 rfl rfl ?_
      refine ab_iconst dL_court_44 kic_2 ?_
      refine ab_iload dL_court_45 rfl ?_
      refine ab_imul dL_court_47 ?_
      refine ab_ishr dL_court_48 ?_
      refine ab_bipush dL_court_49 kbp_15 ?_
      refine ab_iand dL_court_51 ?_
      refine ab_bipush dL_court_52 kbp_10 ?_
      refine f_irem dL_court_54 hf (fun hf => ?_)
      refine f_iast dL_court_55 hf (fun h28 hf => ?_)
      refine ab_iload dL_court_56 rfl ?_
      refine ab_if_eq 82 dL_court_58 (by decide) hf (fun hf => ?_) (fun hf => ?_)
      · refine ab_iconst dL_court_82 kic_0 ?_
        refine ab_istore [some (.ref x0), some (.int x1), some (.int x2), some (.int x3), some (.ref x4), some (.int 0), some (.int x6), none, none] dL_court_83 (by decide) rfl rfl ?_
        refine ab_iinc (v := x6 + 1) [some (.ref x0), some (.int x1), some (.int x2), some (.int x3), some (.ref x4), some (.int 0), some (.int (x6 + 1)), none, none] dL_court_85 rfl (kinc_1 _) (by decide) rfl rfl ?_
        refine ab_goto 30 dL_court_88 (by decide) ?_
        exact ab_msk [true, true, true, true, true, true, true, true, true] (ih 0 (x6 + 1) h28 _ _ (by omega) (by omega) hf)
      refine ab_aload_n 0 dL_court_61 rfl rfl ?_
      refine ab_bipush dL_court_62 kbp_48 ?_
      refine ab_aload dL_court_64 rfl ?_
      refine ab_iconst dL_court_66 kic_4 ?_
      refine ab_iload dL_court_67 rfl ?_
      refine ab_iadd dL_court_69 ?_
      refine f_iald dL_court_70 hf (fun v29 hf => ?_)
      refine ab_iadd dL_court_71 ?_
      refine f_S_i2 (As := [.ref x0, .int (48 + v29)]) (st := []) cs_L_14 (fun v hq q => m_L_put x0 (48 + v29) h28 q) rfl rfl dL_court_72 (rmk2 (by decide) (by decide) (Nat.le_of_ble_eq_true rfl) (by omega) (by omega)) hf (fun v31 h30 hf => ?_)
      refine ab_if_eq 82 dL_court_75 (by decide) hf (fun hf => ?_) (fun hf => ?_)
      · refine ab_iconst dL_court_82 kic_0 ?_
        refine ab_istore [some (.ref x0), some (.int x1), some (.int x2), some (.int x3), some (.ref x4), some (.int 0), some (.int x6), none, none] dL_court_83 (by decide) rfl rfl ?_
        refine ab_iinc (v := x6 + 1) [some (.ref x0), some (.int x1), some (.int x2), some (.int x3), some (.ref x4), some (.int 0), some (.int (x6 + 1)), none, none] dL_court_85 rfl (kinc_1 _) (by decide) rfl rfl ?_
        refine ab_goto 30 dL_court_88 (by decide) ?_
        exact ab_msk [true, true, true, true, true, true, true, true, true] (ih 0 (x6 + 1) h30 _ _ (by omega) (by omega) hf)
      refine ab_iconst dL_court_78 kic_1 ?_
      refine ab_goto 83 dL_court_79 (by decide) ?_
      refine ab_istore [some (.ref x0), some (.int x1), some (.int x2), some (.int x3), some (.ref x4), some (.int 1), some (.int x6), none, none] dL_court_83 (by decide) rfl rfl ?_
      refine ab_iinc (v := x6 + 1) [some (.ref x0), some (.int x1), some (.int x2), some (.int x3), some (.ref x4), some (.int 1), some (.int (x6 + 1)), none, none] dL_court_85 rfl (kinc_1 _) (by decide) rfl rfl ?_
      refine ab_goto 30 dL_court_88 (by decide) ?_
      exact ab_msk [true, true, true, true, true, true, true, true, true] (ih 1 (x6 + 1) h30 _ _ (by omega) (by omega) hf)
    refine ab_iload dL_court_91 rfl ?_
    refine ab_if_eq 109 dL_court_93 (by decide) hf (fun hf => ?_) (fun hf => ?_)
    · refine ab_iconst dL_court_109 kic_0 ?_
      refine ab_istore [some (.ref x0), some (.int x1), some (.int x2), some (.int x3), some (.ref x4), some (.int 0), some (.int x6), none, none] dL_court_110 (by decide) rfl rfl ?_
      refine ab_iconst dL_court_112 kic_0 ?_
      refine ab_istore [some (.ref x0), some (.int x1), some (.int x2), some (.int x3), some (.ref x4), some (.int 0), some (.int 0), none, none] dL_court_113 (by decide) rfl rfl ?_
      exact ab_msk [true, true, true, false, true, true, true, true, true] (w_L_court_B115 x0 x1 x2 x4 200 0 0 h _ _ (by omega) (by omega) hf)
    refine ab_aload_n 0 dL_court_96 rfl rfl ?_
    refine ab_bipush dL_court_97 kbp_59 ?_
    refine f_S_i2 (As := [.ref x0, .int 59]) (st := []) cs_L_14 (fun v hq q => m_L_put x0 59 h q) rfl rfl dL_court_99 (rmk2 (by decide) (by decide) (Nat.le_of_ble_eq_true rfl) (by omega) (by omega)) hf (fun v27 h26 hf => ?_)
    refine ab_if_eq 109 dL_court_102 (by decide) hf (fun hf => ?_) (fun hf => ?_)
    · refine ab_iconst dL_court_109 kic_0 ?_
      refine ab_istore [some (.ref x0), some (.int x1), some (.int x2), some (.int x3), some (.ref x4), some (.int 0), some (.int x6), none, none] dL_court_110 (by decide) rfl rfl ?_
      refine ab_iconst dL_court_112 kic_0 ?_
      refine ab_istore [some (.ref x0), some (.int x1), some (.int x2), some (.int x3), some (.ref x4), some (.int 0), some (.int 0), none, none] dL_court_113 (by decide) rfl rfl ?_
      exact ab_msk [true, true, true, false, true, true, true, true, true] (w_L_court_B115 x0 x1 x2 x4 200 0 0 h26 _ _ (by omega) (by omega) hf)
    refine ab_iconst dL_court_105 kic_1 ?_
    refine ab_goto 110 dL_court_106 (by decide) ?_
    refine ab_istore [some (.ref x0), some (.int x1), some (.int x2), some (.int x3), some (.ref x4), some (.int 1), some (.int x6), none, none] dL_court_110 (by decide) rfl rfl ?_
    refine ab_iconst dL_court_112 kic_0 ?_
    refine ab_istore [some (.ref x0), some (.int x1), some (.int x2), some (.int x3), some (.ref x4), some (.int 1), some (.int 0), none, none] dL_court_113 (by decide) rfl rfl ?_
    exact ab_msk [true, true, true, false, true, true, true, true, true] (w_L_court_B115 x0 x1 x2 x4 200 1 0 h26 _ _ (by omega) (by omega) hf)
def F_L_court (a0 : Nat) (a1 : Int32) (a2 : Int32) (a3 : Int32) (a4 : Nat) (h : abH) : Option (Int32 × abH) :=
  dz 4 <|
  (sa 0 h a4 0 (2 + (a1 - a1 / 4 * 4))).bind fun h1 =>
  (sa 0 h1 a4 1 0).bind fun h2 =>
  (sa 0 h2 a4 2 0).bind fun h3 =>
  (sa 0 h3 a4 3 0).bind fun h4 =>
  F_L_court_B30 a0 a1 a2 a3 a4 200 1 0 h4
theorem m_L_court {z0 : Int32} {hz : abH} (a0 : Nat) (a1 : Int32) (a2 : Int32) (a3 : Int32) (a4 : Nat) (h : abH) (hf : F_L_court a0 a1 a2 a3 a4 h = some (z0, hz)) : abM yL_court cL_court 9 (some .boolean) 9 6 12 [.ref a0, .int a1, .int a2, .int a3, .ref a4] h (some (.int z0)) hz := by
  refine abM_of (ini := false) [some (.ref a0), some (.int a1), some (.int a2), some (.int a3), some (.ref a4), none, none, none, none] (by decide +kernel) (fun q => by first | rfl | cases q) (Nat.le_of_ble_eq_true rfl) rfl ?_
  unfold F_L_court at hf
  refine ab_iconst dL_court_0 kic_1 ?_
  refine ab_istore [some (.ref a0), some (.int a1), some (.int a2), some (.int a3), some (.ref a4), some (.int 1), none, none, none] dL_court_1 (by decide) rfl rfl ?_
  refine ab_aload dL_court_3 rfl ?_
  refine ab_iconst dL_court_5 kic_0 ?_
  refine ab_iconst dL_court_6 kic_2 ?_
  refine ab_iload_n 1 dL_court_7 rfl rfl ?_
  refine ab_iconst dL_court_8 kic_4 ?_
  refine f_irem dL_court_9 hf (fun hf => ?_)
  refine ab_iadd dL_court_10 ?_
  refine f_iast dL_court_11 hf (fun h1 hf => ?_)
  refine ab_aload dL_court_12 rfl ?_
  refine ab_iconst dL_court_14 kic_1 ?_
  refine ab_iconst dL_court_15 kic_0 ?_
  refine f_iast dL_court_16 hf (fun h2 hf => ?_)
  refine ab_aload dL_court_17 rfl ?_
  refine ab_iconst dL_court_19 kic_2 ?_
  refine ab_iconst dL_court_20 kic_0 ?_
  refine f_iast dL_court_21 hf (fun h3 hf => ?_)
  refine ab_aload dL_court_22 rfl ?_
  refine ab_iconst dL_court_24 kic_3 ?_
  refine ab_iconst dL_court_25 kic_0 ?_
  refine f_iast dL_court_26 hf (fun h4 hf => ?_)
  refine ab_iconst dL_court_27 kic_0 ?_
  refine ab_istore [some (.ref a0), some (.int a1), some (.int a2), some (.int a3), some (.ref a4), some (.int 1), some (.int 0), none, none] dL_court_28 (by decide) rfl rfl ?_
  exact ab_msk [true, true, true, true, true, true, true, true, true] (w_L_court_B30 a0 a1 a2 a3 a4 200 1 0 h4 _ _ (by omega) (by omega) hf)
def F_L_covers_B85 (x0 : Int32) (x6 : Int32) (x7 : Int32) (y0 : Int32) : Option Int32 :=
  if x0 = 2 then
    if x7 ≤ 0 then
      some 0
    else
      if x7 = x6 then
        some 1
      else
        some 0
  else
    if y0 = 0 then
      if x0 = 3 then
        if x7 < 0 then
          if (0 - x7) ≤ x6 then
            some 1
          else
            some 0
        else
          some 0
      else
        some 0
    else
      some 1
theorem w_L_covers_B85 {z0 : Int32} (x0 : Int32) (x6 : Int32) (x7 : Int32) (y0 : Int32) (h : abH)   (hf : F_L_covers_B85 x0 x6 x7 y0 = some z0) : abW cL_covers 9 RL (some .boolean) false 1 0 0 none (some (.int z0), h) 85 [some (.int x0), none, none, none, none, none, some (.int x6), some (.int x7), none] [.int y0] h 0 0 := by
  unfold F_L_covers_B85 at hf
  refine ab_istore [some (.int x0), none, none, none, none, none, some (.int x6), some (.int x7), some (.int y0)] dL_covers_85 (by decide) rfl rfl ?_
  refine ab_iload_n 0 dL_covers_87 rfl rfl ?_
  refine ab_iconst dL_covers_88 kic_2 ?_
  refine ab_icmp_ne 112 dL_covers_89 (by decide) hf (fun hf => ?_) (fun hf => ?_)
  · refine ab_iload dL_covers_92 rfl ?_
    refine ab_if_le 108 dL_covers_94 (by decide) hf (fun hf => ?_) (fun hf => ?_)
    · refine ab_iconst dL_covers_108 kic_0 ?_
      refine ab_goto 141 dL_covers_109 (by decide) ?_
      exact f_retzc rfl dL_covers_141 rfl (Nat.le_refl 0) (Nat.le_refl 0) hf
    refine ab_iload dL_covers_97 rfl ?_
    refine ab_iload dL_covers_99 rfl ?_
    refine ab_icmp_ne 108 dL_covers_101 (by decide) hf (fun hf => ?_) (fun hf => ?_)
    · refine ab_iconst dL_covers_104 kic_1 ?_
      refine ab_goto 141 dL_covers_105 (by decide) ?_
      exact f_retzc rfl dL_covers_141 rfl (Nat.le_refl 0) (Nat.le_refl 0) hf
    refine ab_iconst dL_covers_108 kic_0 ?_
    refine ab_goto 141 dL_covers_109 (by decide) ?_
    exact f_retzc rfl dL_covers_141 rfl (Nat.le_refl 0) (Nat.le_refl 0) hf
  refine ab_iload dL_covers_112 rfl ?_
  refine ab_if_ne 136 dL_covers_114 (by decide) hf (fun hf => ?_) (fun hf => ?_)
  · refine ab_iload_n 0 dL_covers_117 rfl rfl ?_
    refine ab_iconst dL_covers_118 kic_3 ?_
    refine ab_icmp_ne 140 dL_covers_119 (by decide) hf (fun hf => ?_) (fun hf => ?_)
    · refine ab_iload dL_covers_122 rfl ?_
      refine ab_if_ge 140 dL_covers_124 (by decide) hf (fun hf => ?_) (fun hf => ?_)
      · refine ab_iconst dL_covers_127 kic_0 ?_
        refine ab_iload dL_covers_128 rfl ?_
        refine ab_isub dL_covers_130 ?_
        refine ab_iload dL_covers_131 rfl ?_
        refine ab_icmp_gt 140 dL_covers_133 (by decide) hf (fun hf => ?_) (fun hf => ?_)
        · refine ab_iconst dL_covers_136 kic_1 ?_
          refine ab_goto 141 dL_covers_137 (by decide) ?_
          exact f_retzc rfl dL_covers_141 rfl (Nat.le_refl 0) (Nat.le_refl 0) hf
        refine ab_iconst dL_covers_140 kic_0 ?_
        exact f_retzc rfl dL_covers_141 rfl (Nat.le_refl 0) (Nat.le_refl 0) hf
      refine ab_iconst dL_covers_140 kic_0 ?_
      exact f_retzc rfl dL_covers_141 rfl (Nat.le_refl 0) (Nat.le_refl 0) hf
    refine ab_iconst dL_covers_140 kic_0 ?_
    exact f_retzc rfl dL_covers_141 rfl (Nat.le_refl 0) (Nat.le_refl 0) hf
  refine ab_iconst dL_covers_136 kic_1 ?_
  refine ab_goto 141 dL_covers_137 (by decide) ?_
  exact f_retzc rfl dL_covers_141 rfl (Nat.le_refl 0) (Nat.le_refl 0) hf
def F_L_covers_B66 (x0 : Int32) (x6 : Int32) (y0 : Int32) : Option Int32 :=
  if y0 ≤ 0 then
    F_L_covers_B85 x0 x6 y0 0
  else
    if y0 ≤ x6 then
      F_L_covers_B85 x0 x6 y0 1
    else
      F_L_covers_B85 x0 x6 y0 0
theorem w_L_covers_B66 {z0 : Int32} (x0 : Int32) (x6 : Int32) (y0 : Int32) (h : abH)   (hf : F_L_covers_B66 x0 x6 y0 = some z0) : abW cL_covers 9 RL (some .boolean) false 1 0 0 none (some (.int z0), h) 66 [some (.int x0), none, none, none, none, none, some (.int x6), none, none] [.int y0] h 0 0 := by
  unfold F_L_covers_B66 at hf
  refine ab_istore [some (.int x0), none, none, none, none, none, some (.int x6), some (.int y0), none] dL_covers_66 (by decide) rfl rfl ?_
  refine ab_iload dL_covers_68 rfl ?_
  refine ab_if_le 84 dL_covers_70 (by decide) hf (fun hf => ?_) (fun hf => ?_)
  · refine ab_iconst dL_covers_84 kic_0 ?_
    exact ab_msk [true, true, true, true, true, true, true, true, true] (w_L_covers_B85 x0 x6 y0 0 h hf)
  refine ab_iload dL_covers_73 rfl ?_
  refine ab_iload dL_covers_75 rfl ?_
  refine ab_icmp_gt 84 dL_covers_77 (by decide) hf (fun hf => ?_) (fun hf => ?_)
  · refine ab_iconst dL_covers_80 kic_1 ?_
    refine ab_goto 85 dL_covers_81 (by decide) ?_
    exact ab_msk [true, true, true, true, true, true, true, true, true] (w_L_covers_B85 x0 x6 y0 1 h hf)
  refine ab_iconst dL_covers_84 kic_0 ?_
  exact ab_msk [true, true, true, true, true, true, true, true, true] (w_L_covers_B85 x0 x6 y0 0 h hf)
def F_L_covers_B44 (x0 : Int32) (x2 : Int32) (x3 : Int32) (x4 : Int32) (y0 : Int32) (y1 : Int32) : Option Int32 :=
  dz 3 <|
  nm ((y0 * y1) / 3) fun v1 =>
  if x3 < 6 then
    F_L_covers_B66 x0 v1 (x2 - x4)
  else
    F_L_covers_B66 x0 v1 (x4 - x2)
theorem w_L_covers_B44 {z0 : Int32} (x0 : Int32) (x2 : Int32) (x3 : Int32) (x4 : Int32) (y0 : Int32) (y1 : Int32) (h : abH)   (hf : F_L_covers_B44 x0 x2 x3 x4 y0 y1 = some z0) : abW cL_covers 9 RL (some .boolean) false 1 0 0 none (some (.int z0), h) 44 [some (.int x0), none, some (.int x2), some (.int x3), some (.int x4), none, none, none, none] [.int y1, .int y0] h 0 0 := by
  unfold F_L_covers_B44 at hf
  refine ab_imul dL_covers_44 ?_
  refine ab_iconst dL_covers_45 kic_3 ?_
  refine f_idiv dL_covers_46 hf (fun hf => ?_)
  refine ab_nmi hf (fun v1 hf => ?_)
  refine ab_istore [some (.int x0), none, some (.int x2), some (.int x3), some (.int x4), none, some (.int v1), none, none] dL_covers_47 (by decide) rfl rfl ?_
  refine ab_iload_n 3 dL_covers_49 rfl rfl ?_
  refine ab_bipush dL_covers_50 kbp_6 ?_
  refine ab_icmp_ge 62 dL_covers_52 (by decide) hf (fun hf => ?_) (fun hf => ?_)
  · refine ab_iload_n 2 dL_covers_55 rfl rfl ?_
    refine ab_iload dL_covers_56 rfl ?_
    refine ab_isub dL_covers_58 ?_
    refine ab_goto 66 dL_covers_59 (by decide) ?_
    exact ab_msk [true, true, false, false, false, true, true, true, true] (w_L_covers_B66 x0 v1 (x2 - x4) h hf)
  refine ab_iload dL_covers_62 rfl ?_
  refine ab_iload_n 2 dL_covers_64 rfl rfl ?_
  refine ab_isub dL_covers_65 ?_
  exact ab_msk [true, true, false, false, false, true, true, true, true] (w_L_covers_B66 x0 v1 (x4 - x2) h hf)
def F_L_covers_B17 (x0 : Int32) (x1 : Int32) (x2 : Int32) (x3 : Int32) (x4 : Int32) (y0 : Int32) : Option Int32 :=
  if x0 = 1 then
    F_L_covers_B44 x0 x2 x3 x4 y0 (x1 + 2)
  else
    if x0 = 4 then
      F_L_covers_B44 x0 x2 x3 x4 y0 (x1 + 4)
    else
      F_L_covers_B44 x0 x2 x3 x4 y0 x1
theorem w_L_covers_B17 {z0 : Int32} (x0 : Int32) (x1 : Int32) (x2 : Int32) (x3 : Int32) (x4 : Int32) (y0 : Int32) (h : abH)   (hf : F_L_covers_B17 x0 x1 x2 x3 x4 y0 = some z0) : abW cL_covers 9 RL (some .boolean) false 1 0 0 none (some (.int z0), h) 17 [some (.int x0), some (.int x1), some (.int x2), some (.int x3), some (.int x4), none, none, none, none] [.int y0] h 0 0 := by
  unfold F_L_covers_B17 at hf
  refine ab_istore [some (.int x0), some (.int x1), some (.int x2), some (.int x3), some (.int x4), some (.int y0), none, none, none] dL_covers_17 (by decide) rfl rfl ?_
  refine ab_iload dL_covers_19 rfl ?_
  refine ab_iload_n 0 dL_covers_21 rfl rfl ?_
  refine ab_iconst dL_covers_22 kic_1 ?_
  refine ab_icmp_ne 32 dL_covers_23 (by decide) hf (fun hf => ?_) (fun hf => ?_)
  · refine ab_iload_n 1 dL_covers_26 rfl rfl ?_
    refine ab_iconst dL_covers_27 kic_2 ?_
    refine ab_iadd dL_covers_28 ?_
    refine ab_goto 44 dL_covers_29 (by decide) ?_
    exact ab_msk [true, false, true, true, true, false, true, true, true] (w_L_covers_B44 x0 x2 x3 x4 y0 (x1 + 2) h hf)
  refine ab_iload_n 0 dL_covers_32 rfl rfl ?_
  refine ab_iconst dL_covers_33 kic_4 ?_
  refine ab_icmp_ne 43 dL_covers_34 (by decide) hf (fun hf => ?_) (fun hf => ?_)
  · refine ab_iload_n 1 dL_covers_37 rfl rfl ?_
    refine ab_iconst dL_covers_38 kic_4 ?_
    refine ab_iadd dL_covers_39 ?_
    refine ab_goto 44 dL_covers_40 (by decide) ?_
    exact ab_msk [true, false, true, true, true, false, true, true, true] (w_L_covers_B44 x0 x2 x3 x4 y0 (x1 + 4) h hf)
  refine ab_iload_n 1 dL_covers_43 rfl rfl ?_
  exact ab_msk [true, false, true, true, true, false, true, true, true] (w_L_covers_B44 x0 x2 x3 x4 y0 x1 h hf)
def F_L_covers (a0 : Int32) (a1 : Int32) (a2 : Int32) (a3 : Int32) (a4 : Int32) : Option Int32 :=
  if a3 < 6 then
    F_L_covers_B17 a0 a1 a2 a3 a4 (6 - a3)
  else
    F_L_covers_B17 a0 a1 a2 a3 a4 (a3 - 6)
theorem m_L_covers {z0 : Int32} (a0 : Int32) (a1 : Int32) (a2 : Int32) (a3 : Int32) (a4 : Int32) (h : abH) (hf : F_L_covers a0 a1 a2 a3 a4 = some z0) : abM yL_covers cL_covers 9 (some .boolean) 1 0 0 [.int a0, .int a1, .int a2, .int a3, .int a4] h (some (.int z0)) h := by
  refine abM_of (ini := false) [some (.int a0), some (.int a1), some (.int a2), some (.int a3), some (.int a4), none, none, none, none] (by decide +kernel) (fun q => by first | rfl | cases q) (Nat.le_of_ble_eq_true rfl) rfl ?_
  unfold F_L_covers at hf
  refine ab_iload_n 3 dL_covers_0 rfl rfl ?_
  refine ab_bipush dL_covers_1 kbp_6 ?_
  refine ab_icmp_ge 13 dL_covers_3 (by decide) hf (fun hf => ?_) (fun hf => ?_)
  · refine ab_bipush dL_covers_6 kbp_6 ?_
    refine ab_iload_n 3 dL_covers_8 rfl rfl ?_
    refine ab_isub dL_covers_9 ?_
    refine ab_goto 17 dL_covers_10 (by decide) ?_
    exact ab_msk [true, true, true, true, true, true, true, true, true] (w_L_covers_B17 a0 a1 a2 a3 a4 (6 - a3) h hf)
  refine ab_iload_n 3 dL_covers_13 rfl rfl ?_
  refine ab_bipush dL_covers_14 kbp_6 ?_
  refine ab_isub dL_covers_16 ?_
  exact ab_msk [true, true, true, true, true, true, true, true, true] (w_L_covers_B17 a0 a1 a2 a3 a4 (a3 - 6) h hf)
def F_L_bits_B5 (x0 : Nat) (x1 : Int32) (x2 : Int32) (h : abH) : Nat → Int32 → Int32 → Option Int32
  | 0, _, _ => none
  | n + 1, x3, x4 =>
    if x4 < 10 then
      (ga 0 h x0 (14 + (3 * x1))).bind fun v1 =>
      (ga 0 h x0 (15 + (3 * x1))).bind fun v2 =>
      (ga 0 h x0 (16 + (3 * x1))).bind fun v3 =>
      (F_L_covers v1 v2 v3 x2 x4).bind fun v4 =>
      if v4 = 0 then
        nm (x3 ||| 0) fun v5 =>
        F_L_bits_B5 x0 x1 x2 h n v5 (x4 + 1)
      else
        nm (x3 ||| ((1 : Int32) <<< (x4 &&& 31))) fun v6 =>
        F_L_bits_B5 x0 x1 x2 h n v6 (x4 + 1)
    else
      some x3
theorem w_L_bits_B5 {z0 : Int32} (x0 : Nat) (x1 : Int32) (x2 : Int32) (h : abH)   : ∀ (n : Nat) (x3 : Int32) (x4 : Int32), F_L_bits_B5 x0 x1 x2 h n x3 x4 = some z0 → abW cL_bits 5 RL (some .int) false 2 0 0 none (some (.int z0), h) 5 [some (.ref x0), some (.int x1), some (.int x2), some (.int x3), some (.int x4)] [] h 0 0 := by
  intro n
  induction n with
  | zero =>
    intro x3 x4 hf
    exact absurd (show (none : Option Int32) = some _ from hf) (by simp)
  | succ n ih =>
    intro x3 x4 hf
    rw [F_L_bits_B5.eq_2] at hf
    refine ab_iload dL_bits_5 rfl ?_
    refine ab_bipush dL_bits_7 kbp_10 ?_
    refine ab_icmp_ge 62 dL_bits_9 (by decide) hf (fun hf => ?_) (fun hf => ?_)
    · refine ab_iload_n 3 dL_bits_12 rfl rfl ?_
      refine ab_aload_n 0 dL_bits_13 rfl rfl ?_
      refine ab_bipush dL_bits_14 kbp_14 ?_
      refine ab_iconst dL_bits_16 kic_3 ?_
      refine ab_iload_n 1 dL_bits_17 rfl rfl ?_
      refine ab_imul dL_bits_18 ?_
      refine ab_iadd dL_bits_19 ?_
      refine f_iald dL_bits_20 hf (fun v1 hf => ?_)
      refine ab_aload_n 0 dL_bits_21 rfl rfl ?_
      refine ab_bipush dL_bits_22 kbp_15 ?_
      refine ab_iconst dL_bits_24 kic_3 ?_
      refine ab_iload_n 1 dL_bits_25 rfl rfl ?_
      refine ab_imul dL_bits_26 ?_
      refine ab_iadd dL_bits_27 ?_
      refine f_iald dL_bits_28 hf (fun v2 hf => ?_)
      refine ab_aload_n 0 dL_bits_29 rfl rfl ?_
      refine ab_bipush dL_bits_30 kbp_16 ?_
      refine ab_iconst dL_bits_32 kic_3 ?_
      refine ab_iload_n 1 dL_bits_33 rfl rfl ?_
      refine ab_imul dL_bits_34 ?_
      refine ab_iadd dL_bits_35 ?_
      refine f_iald dL_bits_36 hf (fun v3 hf => ?_)
      refine ab_iload_n 2 dL_bits_37 rfl rfl ?_
      refine ab_iload dL_bits_38 rfl ?_
      refine f_S_i (As := [.int v1, .int v2, .int v3, .int x2, .int x4]) (st := [.int x3]) cs_L_27 (fun v q => m_L_covers v1 v2 v3 x2 x4 h q) rfl rfl dL_bits_40 (rmk rfl) hf (fun v4 hf => ?_)
      refine ab_if_eq 53 dL_bits_43 (by decide) hf (fun hf => ?_) (fun hf => ?_)
      · refine ab_iconst dL_bits_53 kic_0 ?_
        refine ab_ior dL_bits_54 ?_
        refine ab_nmi hf (fun v5 hf => ?_)
        refine ab_istore_n 3 [some (.ref x0), some (.int x1), some (.int x2), some (.int v5), some (.int x4)] dL_bits_55 rfl (by decide) rfl rfl ?_
        refine ab_iinc (v := x4 + 1) [some (.ref x0), some (.int x1), some (.int x2), some (.int v5), some (.int (x4 + 1))] dL_bits_56 rfl (kinc_1 _) (by decide) rfl rfl ?_
        refine ab_goto 5 dL_bits_59 (by decide) ?_
        exact ab_msk [true, true, true, true, true] (ih v5 (x4 + 1) hf)
      refine ab_iconst dL_bits_46 kic_1 ?_
      refine ab_iload dL_bits_47 rfl ?_
      refine ab_ishl dL_bits_49 ?_
      refine ab_goto 54 dL_bits_50 (by decide) ?_
      refine ab_ior dL_bits_54 ?_
      refine ab_nmi hf (fun v6 hf => ?_)
      refine ab_istore_n 3 [some (.ref x0), some (.int x1), some (.int x2), some (.int v6), some (.int x4)] dL_bits_55 rfl (by decide) rfl rfl ?_
      refine ab_iinc (v := x4 + 1) [some (.ref x0), some (.int x1), some (.int x2), some (.int v6), some (.int (x4 + 1))] dL_bits_56 rfl (kinc_1 _) (by decide) rfl rfl ?_
      refine ab_goto 5 dL_bits_59 (by decide) ?_
      exact ab_msk [true, true, true, true, true] (ih v6 (x4 + 1) hf)
    refine ab_iload_n 3 dL_bits_62 rfl rfl ?_
    exact f_reti dL_bits_63 rfl (Nat.le_refl 0) (Nat.le_refl 0) hf
def F_L_bits (a0 : Nat) (a1 : Int32) (a2 : Int32) (h : abH) : Option Int32 :=
  F_L_bits_B5 a0 a1 a2 h 200 0 0
theorem m_L_bits {z0 : Int32} (a0 : Nat) (a1 : Int32) (a2 : Int32) (h : abH) (hf : F_L_bits a0 a1 a2 h = some z0) : abM yL_bits cL_bits 5 (some .int) 2 0 0 [.ref a0, .int a1, .int a2] h (some (.int z0)) h := by
  refine abM_of (ini := false) [some (.ref a0), some (.int a1), some (.int a2), none, none] (by decide +kernel) (fun q => by first | rfl | cases q) (Nat.le_of_ble_eq_true rfl) rfl ?_
  unfold F_L_bits at hf
  refine ab_iconst dL_bits_0 kic_0 ?_
  refine ab_istore_n 3 [some (.ref a0), some (.int a1), some (.int a2), some (.int 0), none] dL_bits_1 rfl (by decide) rfl rfl ?_
  refine ab_iconst dL_bits_2 kic_0 ?_
  refine ab_istore [some (.ref a0), some (.int a1), some (.int a2), some (.int 0), some (.int 0)] dL_bits_3 (by decide) rfl rfl ?_
  exact ab_msk [true, true, true, true, true] (w_L_bits_B5 a0 a1 a2 h 200 0 0 hf)
def F_L_worth_B4 (x0 : Nat) (x1 : Int32) (h : abH) : Nat → Int32 → Int32 → Option Int32
  | 0, _, _ => none
  | n + 1, x2, x3 =>
    if x3 < 10 then
      (ga 0 h x0 (4 + x3)).bind fun v1 =>
      nm (x2 + (((x1 >>> (x3 &&& 31)) &&& 1) * v1)) fun v2 =>
      F_L_worth_B4 x0 x1 h n v2 (x3 + 1)
    else
      some x2
theorem w_L_worth_B4 {z0 : Int32} (x0 : Nat) (x1 : Int32) (h : abH)   : ∀ (n : Nat) (x2 : Int32) (x3 : Int32), F_L_worth_B4 x0 x1 h n x2 x3 = some z0 → abW cL_worth 4 RL (some .int) false 1 0 0 none (some (.int z0), h) 4 [some (.ref x0), some (.int x1), some (.int x2), some (.int x3)] [] h 0 0 := by
  intro n
  induction n with
  | zero =>
    intro x2 x3 hf
    exact absurd (show (none : Option Int32) = some _ from hf) (by simp)
  | succ n ih =>
    intro x2 x3 hf
    rw [F_L_worth_B4.eq_2] at hf
    refine ab_iload_n 3 dL_worth_4 rfl rfl ?_
    refine ab_bipush dL_worth_5 kbp_10 ?_
    refine ab_icmp_ge 30 dL_worth_7 (by decide) hf (fun hf => ?_) (fun hf => ?_)
    · refine ab_iload_n 2 dL_worth_10 rfl rfl ?_
      refine ab_iload_n 1 dL_worth_11 rfl rfl ?_
      refine ab_iload_n 3 dL_worth_12 rfl rfl ?_
      refine ab_ishr dL_worth_13 ?_
      refine ab_iconst dL_worth_14 kic_1 ?_
      refine ab_iand dL_worth_15 ?_
      refine ab_aload_n 0 dL_worth_16 rfl rfl ?_
      refine ab_iconst dL_worth_17 kic_4 ?_
      refine ab_iload_n 3 dL_worth_18 rfl rfl ?_
      refine ab_iadd dL_worth_19 ?_
      refine f_iald dL_worth_20 hf (fun v1 hf => ?_)
      refine ab_imul dL_worth_21 ?_
      refine ab_iadd dL_worth_22 ?_
      refine ab_nmi hf (fun v2 hf => ?_)
      refine ab_istore_n 2 [some (.ref x0), some (.int x1), some (.int v2), some (.int x3)] dL_worth_23 rfl (by decide) rfl rfl ?_
      refine ab_iinc (v := x3 + 1) [some (.ref x0), some (.int x1), some (.int v2), some (.int (x3 + 1))] dL_worth_24 rfl (kinc_1 _) (by decide) rfl rfl ?_
      refine ab_goto 4 dL_worth_27 (by decide) ?_
      exact ab_msk [true, true, true, true] (ih v2 (x3 + 1) hf)
    refine ab_iload_n 2 dL_worth_30 rfl rfl ?_
    exact f_reti dL_worth_31 rfl (Nat.le_refl 0) (Nat.le_refl 0) hf
def F_L_worth (a0 : Nat) (a1 : Int32) (h : abH) : Option Int32 :=
  F_L_worth_B4 a0 a1 h 200 0 0
theorem m_L_worth {z0 : Int32} (a0 : Nat) (a1 : Int32) (h : abH) (hf : F_L_worth a0 a1 h = some z0) : abM yL_worth cL_worth 4 (some .int) 1 0 0 [.ref a0, .int a1] h (some (.int z0)) h := by
  refine abM_of (ini := false) [some (.ref a0), some (.int a1), none, none] (by decide +kernel) (fun q => by first | rfl | cases q) (Nat.le_of_ble_eq_true rfl) rfl ?_
  unfold F_L_worth at hf
  refine ab_iconst dL_worth_0 kic_0 ?_
  refine ab_istore_n 2 [some (.ref a0), some (.int a1), some (.int 0), none] dL_worth_1 rfl (by decide) rfl rfl ?_
  refine ab_iconst dL_worth_2 kic_0 ?_
  refine ab_istore_n 3 [some (.ref a0), some (.int a1), some (.int 0), some (.int 0)] dL_worth_3 rfl (by decide) rfl rfl ?_
  exact ab_msk [true, true, true, true] (w_L_worth_B4 a0 a1 h 200 0 0 hf)
def F_L_find (a0 : Nat) (a1 : Int32) (a2 : Int32) (a3 : Int32) (h : abH) : Option Int32 :=
  (F_L_bits a0 a1 a3 h).bind fun v1 =>
  (F_L_worth a0 v1 h).bind fun v2 =>
  (F_L_bits a0 a2 a3 h).bind fun v3 =>
  (F_L_worth a0 v3 h).bind fun v4 =>
  some (v2 - v4)
theorem m_L_find {z0 : Int32} (a0 : Nat) (a1 : Int32) (a2 : Int32) (a3 : Int32) (h : abH) (hf : F_L_find a0 a1 a2 a3 h = some z0) : abM yL_find cL_find 4 (some .int) 3 0 0 [.ref a0, .int a1, .int a2, .int a3] h (some (.int z0)) h := by
  refine abM_of (ini := false) [some (.ref a0), some (.int a1), some (.int a2), some (.int a3)] (by decide +kernel) (fun q => by first | rfl | cases q) (Nat.le_of_ble_eq_true rfl) rfl ?_
  unfold F_L_find at hf
  refine ab_aload_n 0 dL_find_0 rfl rfl ?_
  refine ab_aload_n 0 dL_find_1 rfl rfl ?_
  refine ab_iload_n 1 dL_find_2 rfl rfl ?_
  refine ab_iload_n 3 dL_find_3 rfl rfl ?_
  refine f_S_i (As := [.ref a0, .int a1, .int a3]) (st := [.ref a0]) cs_L_31 (fun v q => m_L_bits a0 a1 a3 h q) rfl rfl dL_find_4 (rmk rfl) hf (fun v1 hf => ?_)
  refine f_S_i (As := [.ref a0, .int v1]) (st := []) cs_L_35 (fun v q => m_L_worth a0 v1 h q) rfl rfl dL_find_7 (rmk rfl) hf (fun v2 hf => ?_)
  refine ab_aload_n 0 dL_find_10 rfl rfl ?_
  refine ab_aload_n 0 dL_find_11 rfl rfl ?_
  refine ab_iload_n 2 dL_find_12 rfl rfl ?_
  refine ab_iload_n 3 dL_find_13 rfl rfl ?_
  refine f_S_i (As := [.ref a0, .int a2, .int a3]) (st := [.ref a0, .int v2]) cs_L_31 (fun v q => m_L_bits a0 a2 a3 h q) rfl rfl dL_find_14 (rmk rfl) hf (fun v3 hf => ?_)
  refine f_S_i (As := [.ref a0, .int v3]) (st := [.int v2]) cs_L_35 (fun v q => m_L_worth a0 v3 h q) rfl rfl dL_find_17 (rmk rfl) hf (fun v4 hf => ?_)
  refine ab_isub dL_find_20 ?_
  exact f_reti dL_find_21 rfl (Nat.le_refl 0) (Nat.le_refl 0) hf
def F_L_ones_B4 (x0 : Int32) : Nat → Int32 → Int32 → Option Int32
  | 0, _, _ => none
  | n + 1, x1, x2 =>
    if x2 < 10 then
      nm (x1 + ((x0 >>> (x2 &&& 31)) &&& 1)) fun v1 =>
      F_L_ones_B4 x0 n v1 (x2 + 1)
    else
      some x1
theorem w_L_ones_B4 {z0 : Int32} (x0 : Int32) (h : abH)   : ∀ (n : Nat) (x1 : Int32) (x2 : Int32), F_L_ones_B4 x0 n x1 x2 = some z0 → abW cL_ones 3 RL (some .int) false 1 0 0 none (some (.int z0), h) 4 [some (.int x0), some (.int x1), some (.int x2)] [] h 0 0 := by
  intro n
  induction n with
  | zero =>
    intro x1 x2 hf
    exact absurd (show (none : Option Int32) = some _ from hf) (by simp)
  | succ n ih =>
    intro x1 x2 hf
    rw [F_L_ones_B4.eq_2] at hf
    refine ab_iload_n 2 dL_ones_4 rfl rfl ?_
    refine ab_bipush dL_ones_5 kbp_10 ?_
    refine ab_icmp_ge 24 dL_ones_7 (by decide) hf (fun hf => ?_) (fun hf => ?_)
    · refine ab_iload_n 1 dL_ones_10 rfl rfl ?_
      refine ab_iload_n 0 dL_ones_11 rfl rfl ?_
      refine ab_iload_n 2 dL_ones_12 rfl rfl ?_
      refine ab_ishr dL_ones_13 ?_
      refine ab_iconst dL_ones_14 kic_1 ?_
      refine ab_iand dL_ones_15 ?_
      refine ab_iadd dL_ones_16 ?_
      refine ab_nmi hf (fun v1 hf => ?_)
      refine ab_istore_n 1 [some (.int x0), some (.int v1), some (.int x2)] dL_ones_17 rfl (by decide) rfl rfl ?_
      refine ab_iinc (v := x2 + 1) [some (.int x0), some (.int v1), some (.int (x2 + 1))] dL_ones_18 rfl (kinc_1 _) (by decide) rfl rfl ?_
      refine ab_goto 4 dL_ones_21 (by decide) ?_
      exact ab_msk [true, true, true] (ih v1 (x2 + 1) hf)
    refine ab_iload_n 1 dL_ones_24 rfl rfl ?_
    exact f_reti dL_ones_25 rfl (Nat.le_refl 0) (Nat.le_refl 0) hf
def F_L_ones (a0 : Int32) : Option Int32 :=
  F_L_ones_B4 a0 200 0 0
theorem m_L_ones {z0 : Int32} (a0 : Int32) (h : abH) (hf : F_L_ones a0 = some z0) : abM yL_ones cL_ones 3 (some .int) 1 0 0 [.int a0] h (some (.int z0)) h := by
  refine abM_of (ini := false) [some (.int a0), none, none] (by decide +kernel) (fun q => by first | rfl | cases q) (Nat.le_of_ble_eq_true rfl) rfl ?_
  unfold F_L_ones at hf
  refine ab_iconst dL_ones_0 kic_0 ?_
  refine ab_istore_n 1 [some (.int a0), some (.int 0), none] dL_ones_1 rfl (by decide) rfl rfl ?_
  refine ab_iconst dL_ones_2 kic_0 ?_
  refine ab_istore_n 2 [some (.int a0), some (.int 0), some (.int 0)] dL_ones_3 rfl (by decide) rfl rfl ?_
  exact ab_msk [true, true, true] (w_L_ones_B4 a0 h 200 0 0 hf)
def F_L_told_B428 (x0 : Nat) (x1 : Nat) (x3 : Int32) (x4 : Int32) : Nat → Int32 → Int32 → abH → Option (Int32 × abH)
  | 0, _, _, _ => none
  | n + 1, x5, x6, h =>
    (ga 0 h x1 3).bind fun v2 =>
    if x6 < v2 then
      (ga 0 h x1 (29 + x6)).bind fun v16 =>
      (ga 0 h x1 (34 + x6)).bind fun v17 =>
      (ga 0 h x1 1).bind fun v18 =>
      (F_L_find x1 v16 v17 v18 h).bind fun v19 =>
      if v19 ≤ 0 then
        nm (x5 + 0) fun v20 =>
        F_L_told_B428 x0 x1 x3 x4 n v20 (x6 + 1) h
      else
        nm (x5 + 1) fun v21 =>
        F_L_told_B428 x0 x1 x3 x4 n v21 (x6 + 1) h
    else
      (ko 11 h x0).bind fun _ => (F_X11_count x0 0 h).bind fun v3 =>
      (ga 0 h x1 0).bind fun v4 =>
      if v3 = v4 then
        (ko 11 h x0).bind fun _ => (F_X11_count x0 1 h).bind fun v5 =>
        (ga 0 h x1 1).bind fun v6 =>
        if v5 = v6 then
          (ko 11 h x0).bind fun _ => (F_X11_count x0 2 h).bind fun v7 =>
          (ga 0 h x1 2).bind fun v8 =>
          if v7 = v8 then
            (ko 11 h x0).bind fun _ => (F_X11_count x0 3 h).bind fun v9 =>
            (F_L_worth x1 1023 h).bind fun v10 =>
            if v9 = v10 then
              (ko 11 h x0).bind fun _ => (F_X11_count x0 4 h).bind fun v11 =>
              if v11 = x3 then
                (ko 11 h x0).bind fun _ => (F_X11_count x0 5 h).bind fun v12 =>
                if v12 = x4 then
                  (ko 11 h x0).bind fun _ => (F_X11_count x0 6 h).bind fun v13 =>
                  (ga 0 h x1 3).bind fun v14 =>
                  if v13 = v14 then
                    (ko 11 h x0).bind fun _ => (F_X11_count x0 7 h).bind fun v15 =>
                    if v15 = x5 then
                      some (1, h)
                    else
                      some (0, h)
                  else
                    some (0, h)
                else
                  some (0, h)
              else
                some (0, h)
            else
              some (0, h)
          else
            some (0, h)
        else
          some (0, h)
      else
        some (0, h)
theorem w_L_told_B428 {z0 : Int32} {hz : abH} (x0 : Nat) (x1 : Nat) (x3 : Int32) (x4 : Int32)   : ∀ (n : Nat) (x5 : Int32) (x6 : Int32) (h : abH), F_L_told_B428 x0 x1 x3 x4 n x5 x6 h = some (z0, hz) → abW cL_told 9 RL (some .boolean) false 8 0 0 none (some (.int z0), hz) 428 [some (.ref x0), some (.ref x1), none, some (.int x3), some (.int x4), some (.int x5), some (.int x6), none, none] [] h 0 0 := by
  intro n
  induction n with
  | zero =>
    intro x5 x6 h hf
    exact absurd (show (none : Option (Int32 × abH)) = some _ from hf) (by simp)
  | succ n ih =>
    intro x5 x6 h hf
    rw [F_L_told_B428.eq_2] at hf
    refine ab_iload dL_told_428 rfl ?_
    refine ab_aload_n 1 dL_told_430 rfl rfl ?_
    refine ab_iconst dL_told_431 kic_3 ?_
    refine f_iald dL_told_432 hf (fun v2 hf => ?_)
    refine ab_icmp_ge 476 dL_told_433 (by decide) hf (fun hf => ?_) (fun hf => ?_)
    · refine ab_iload dL_told_436 rfl ?_
      refine ab_aload_n 1 dL_told_438 rfl rfl ?_
      refine ab_aload_n 1 dL_told_439 rfl rfl ?_
      refine ab_bipush dL_told_440 kbp_29 ?_
      refine ab_iload dL_told_442 rfl ?_
      refine ab_iadd dL_told_444 ?_
      refine f_iald dL_told_445 hf (fun v16 hf => ?_)
      refine ab_aload_n 1 dL_told_446 rfl rfl ?_
      refine ab_bipush dL_told_447 kbp_34 ?_
      refine ab_iload dL_told_449 rfl ?_
      refine ab_iadd dL_told_451 ?_
      refine f_iald dL_told_452 hf (fun v17 hf => ?_)
      refine ab_aload_n 1 dL_told_453 rfl rfl ?_
      refine ab_iconst dL_told_454 kic_1 ?_
      refine f_iald dL_told_455 hf (fun v18 hf => ?_)
      refine f_S_i (As := [.ref x1, .int v16, .int v17, .int v18]) (st := [.int x5]) cs_L_86 (fun v q => m_L_find x1 v16 v17 v18 h q) rfl rfl dL_told_456 (rmk rfl) hf (fun v19 hf => ?_)
      refine ab_if_le 466 dL_told_459 (by decide) hf (fun hf => ?_) (fun hf => ?_)
      · refine ab_iconst dL_told_466 kic_0 ?_
        refine ab_iadd dL_told_467 ?_
        refine ab_nmi hf (fun v20 hf => ?_)
        refine ab_istore [some (.ref x0), some (.ref x1), none, some (.int x3), some (.int x4), some (.int v20), some (.int x6), none, none] dL_told_468 (by decide) rfl rfl ?_
        refine ab_iinc (v := x6 + 1) [some (.ref x0), some (.ref x1), none, some (.int x3), some (.int x4), some (.int v20), some (.int (x6 + 1)), none, none] dL_told_470 rfl (kinc_1 _) (by decide) rfl rfl ?_
        refine ab_goto 428 dL_told_473 (by decide) ?_
        exact ab_msk [true, true, true, true, true, true, true, true, true] (ih v20 (x6 + 1) h hf)
      refine ab_iconst dL_told_462 kic_1 ?_
      refine ab_goto 467 dL_told_463 (by decide) ?_
      refine ab_iadd dL_told_467 ?_
      refine ab_nmi hf (fun v21 hf => ?_)
      refine ab_istore [some (.ref x0), some (.ref x1), none, some (.int x3), some (.int x4), some (.int v21), some (.int x6), none, none] dL_told_468 (by decide) rfl rfl ?_
      refine ab_iinc (v := x6 + 1) [some (.ref x0), some (.ref x1), none, some (.int x3), some (.int x4), some (.int v21), some (.int (x6 + 1)), none, none] dL_told_470 rfl (kinc_1 _) (by decide) rfl rfl ?_
      refine ab_goto 428 dL_told_473 (by decide) ?_
      exact ab_msk [true, true, true, true, true, true, true, true, true] (ih v21 (x6 + 1) h hf)
    refine ab_aload_n 0 dL_told_476 rfl rfl ?_
    refine ab_iconst dL_told_477 kic_0 ?_
    refine f_V_i (As := [.int 0]) (st := []) cs_L_111 (fun v q => m_X11_count x0 0 h q) rfl rfl dL_told_478 (rmk rfl) hf (fun v3 hf => ?_)
    refine ab_aload_n 1 dL_told_481 rfl rfl ?_
    refine ab_iconst dL_told_482 kic_0 ?_
    refine f_iald dL_told_483 hf (fun v4 hf => ?_)
    refine ab_icmp_ne 570 dL_told_484 (by decide) hf (fun hf => ?_) (fun hf => ?_)
    · refine ab_aload_n 0 dL_told_487 rfl rfl ?_
      refine ab_iconst dL_told_488 kic_1 ?_
      refine f_V_i (As := [.int 1]) (st := []) cs_L_111 (fun v q => m_X11_count x0 1 h q) rfl rfl dL_told_489 (rmk rfl) hf (fun v5 hf => ?_)
      refine ab_aload_n 1 dL_told_492 rfl rfl ?_
      refine ab_iconst dL_told_493 kic_1 ?_
      refine f_iald dL_told_494 hf (fun v6 hf => ?_)
      refine ab_icmp_ne 570 dL_told_495 (by decide) hf (fun hf => ?_) (fun hf => ?_)
      · refine ab_aload_n 0 dL_told_498 rfl rfl ?_
        refine ab_iconst dL_told_499 kic_2 ?_
        refine f_V_i (As := [.int 2]) (st := []) cs_L_111 (fun v q => m_X11_count x0 2 h q) rfl rfl dL_told_500 (rmk rfl) hf (fun v7 hf => ?_)
        refine ab_aload_n 1 dL_told_503 rfl rfl ?_
        refine ab_iconst dL_told_504 kic_2 ?_
        refine f_iald dL_told_505 hf (fun v8 hf => ?_)
        refine ab_icmp_ne 570 dL_told_506 (by decide) hf (fun hf => ?_) (fun hf => ?_)
        · refine ab_aload_n 0 dL_told_509 rfl rfl ?_
          refine ab_iconst dL_told_510 kic_3 ?_
          refine f_V_i (As := [.int 3]) (st := []) cs_L_111 (fun v q => m_X11_count x0 3 h q) rfl rfl dL_told_511 (rmk rfl) hf (fun v9 hf => ?_)
          refine ab_aload_n 1 dL_told_514 rfl rfl ?_
          refine ab_sipush dL_told_515 ksp_1023 ?_
          refine f_S_i (As := [.ref x1, .int 1023]) (st := [.int v9]) cs_L_35 (fun v q => m_L_worth x1 1023 h q) rfl rfl dL_told_518 (rmk rfl) hf (fun v10 hf => ?_)
          refine ab_icmp_ne 570 dL_told_521 (by decide) hf (fun hf => ?_) (fun hf => ?_)
          · refine ab_aload_n 0 dL_told_524 rfl rfl ?_
            refine ab_iconst dL_told_525 kic_4 ?_
            refine f_V_i (As := [.int 4]) (st := []) cs_L_111 (fun v q => m_X11_count x0 4 h q) rfl rfl dL_told_526 (rmk rfl) hf (fun v11 hf => ?_)
            refine ab_iload_n 3 dL_told_529 rfl rfl ?_
            refine ab_icmp_ne 570 dL_told_530 (by decide) hf (fun hf => ?_) (fun hf => ?_)
            · refine ab_aload_n 0 dL_told_533 rfl rfl ?_
              refine ab_iconst dL_told_534 kic_5 ?_
              refine f_V_i (As := [.int 5]) (st := []) cs_L_111 (fun v q => m_X11_count x0 5 h q) rfl rfl dL_told_535 (rmk rfl) hf (fun v12 hf => ?_)
              refine ab_iload dL_told_538 rfl ?_
              refine ab_icmp_ne 570 dL_told_540 (by decide) hf (fun hf => ?_) (fun hf => ?_)
              · refine ab_aload_n 0 dL_told_543 rfl rfl ?_
                refine ab_bipush dL_told_544 kbp_6 ?_
                refine f_V_i (As := [.int 6]) (st := []) cs_L_111 (fun v q => m_X11_count x0 6 h q) rfl rfl dL_told_546 (rmk rfl) hf (fun v13 hf => ?_)
                refine ab_aload_n 1 dL_told_549 rfl rfl ?_
                refine ab_iconst dL_told_550 kic_3 ?_
                refine f_iald dL_told_551 hf (fun v14 hf => ?_)
                refine ab_icmp_ne 570 dL_told_552 (by decide) hf (fun hf => ?_) (fun hf => ?_)
                · refine ab_aload_n 0 dL_told_555 rfl rfl ?_
                  refine ab_bipush dL_told_556 kbp_7 ?_
                  refine f_V_i (As := [.int 7]) (st := []) cs_L_111 (fun v q => m_X11_count x0 7 h q) rfl rfl dL_told_558 (rmk rfl) hf (fun v15 hf => ?_)
                  refine ab_iload dL_told_561 rfl ?_
                  refine ab_icmp_ne 570 dL_told_563 (by decide) hf (fun hf => ?_) (fun hf => ?_)
                  · refine ab_iconst dL_told_566 kic_1 ?_
                    refine ab_goto 571 dL_told_567 (by decide) ?_
                    exact f_retzc2 rfl dL_told_571 rfl (Nat.le_refl 0) (Nat.le_refl 0) hf
                  refine ab_iconst dL_told_570 kic_0 ?_
                  exact f_retzc2 rfl dL_told_571 rfl (Nat.le_refl 0) (Nat.le_refl 0) hf
                refine ab_iconst dL_told_570 kic_0 ?_
                exact f_retzc2 rfl dL_told_571 rfl (Nat.le_refl 0) (Nat.le_refl 0) hf
              refine ab_iconst dL_told_570 kic_0 ?_
              exact f_retzc2 rfl dL_told_571 rfl (Nat.le_refl 0) (Nat.le_refl 0) hf
            refine ab_iconst dL_told_570 kic_0 ?_
            exact f_retzc2 rfl dL_told_571 rfl (Nat.le_refl 0) (Nat.le_refl 0) hf
          refine ab_iconst dL_told_570 kic_0 ?_
          exact f_retzc2 rfl dL_told_571 rfl (Nat.le_refl 0) (Nat.le_refl 0) hf
        refine ab_iconst dL_told_570 kic_0 ?_
        exact f_retzc2 rfl dL_told_571 rfl (Nat.le_refl 0) (Nat.le_refl 0) hf
      refine ab_iconst dL_told_570 kic_0 ?_
      exact f_retzc2 rfl dL_told_571 rfl (Nat.le_refl 0) (Nat.le_refl 0) hf
    refine ab_iconst dL_told_570 kic_0 ?_
    exact f_retzc2 rfl dL_told_571 rfl (Nat.le_refl 0) (Nat.le_refl 0) hf
def F_L_told_B371 (x0 : Nat) (x1 : Nat) (x3 : Int32) (x5 : Int32) (x6 : Int32) (x7 : Int32) (y0 : Int32) (y1 : Int32) (h : abH) (k251 : Int32 → Int32 → Int32 → abH → Option (Int32 × abH)) : Option (Int32 × abH) :=
  nm (y0 + y1) fun v26 =>
  (ko 11 h x0).bind fun _ => (F_X11_tile x0 x5 0 h).bind fun v27 =>
  (ga 0 h x1 (4 + x5)).bind fun v28 =>
  if v27 = v28 then
    (ko 11 h x0).bind fun _ => (F_X11_tile x0 x5 1 h).bind fun v29 =>
    if v29 = x6 then
      (ko 11 h x0).bind fun _ => (F_X11_tile x0 x5 2 h).bind fun v30 =>
      if v30 = x7 then
        k251 x3 v26 (x5 + 1) h
      else
        some (0, h)
    else
      some (0, h)
  else
    some (0, h)
theorem w_L_told_B371 {z0 : Int32} {hz : abH} (x0 : Nat) (x1 : Nat) (x3 : Int32) (x5 : Int32) (x6 : Int32) (x7 : Int32) (y0 : Int32) (y1 : Int32) (h : abH) (k251 : Int32 → Int32 → Int32 → abH → Option (Int32 × abH)) (hk251 : ∀ (w3 : Int32) (w4 : Int32) (w5 : Int32) (hw : abH), k251 w3 w4 w5 hw = some (z0, hz) → abW cL_told 9 RL (some .boolean) false 8 0 0 none (some (.int z0), hz) 251 [some (.ref x0), some (.ref x1), none, some (.int w3), some (.int w4), some (.int w5), none, none, none] [] hw 0 0) (hf : F_L_told_B371 x0 x1 x3 x5 x6 x7 y0 y1 h k251 = some (z0, hz)) : abW cL_told 9 RL (some .boolean) false 8 0 0 none (some (.int z0), hz) 371 [some (.ref x0), some (.ref x1), none, some (.int x3), none, some (.int x5), some (.int x6), some (.int x7), none] [.int y1, .int y0] h 0 0 := by
  unfold F_L_told_B371 at hf
  refine ab_iadd dL_told_371 ?_
  refine ab_nmi hf (fun v26 hf => ?_)
  refine ab_istore [some (.ref x0), some (.ref x1), none, some (.int x3), some (.int v26), some (.int x5), some (.int x6), some (.int x7), none] dL_told_372 (by decide) rfl rfl ?_
  refine ab_aload_n 0 dL_told_374 rfl rfl ?_
  refine ab_iload dL_told_375 rfl ?_
  refine ab_iconst dL_told_377 kic_0 ?_
  refine f_V_i (As := [.int x5, .int 0]) (st := []) cs_L_102 (fun v q => m_X11_tile x0 x5 0 h q) rfl rfl dL_told_378 (rmk rfl) hf (fun v27 hf => ?_)
  refine ab_aload_n 1 dL_told_381 rfl rfl ?_
  refine ab_iconst dL_told_382 kic_4 ?_
  refine ab_iload dL_told_383 rfl ?_
  refine ab_iadd dL_told_385 ?_
  refine f_iald dL_told_386 hf (fun v28 hf => ?_)
  refine ab_icmp_ne 414 dL_told_387 (by decide) hf (fun hf => ?_) (fun hf => ?_)
  · refine ab_aload_n 0 dL_told_390 rfl rfl ?_
    refine ab_iload dL_told_391 rfl ?_
    refine ab_iconst dL_told_393 kic_1 ?_
    refine f_V_i (As := [.int x5, .int 1]) (st := []) cs_L_102 (fun v q => m_X11_tile x0 x5 1 h q) rfl rfl dL_told_394 (rmk rfl) hf (fun v29 hf => ?_)
    refine ab_iload dL_told_397 rfl ?_
    refine ab_icmp_ne 414 dL_told_399 (by decide) hf (fun hf => ?_) (fun hf => ?_)
    · refine ab_aload_n 0 dL_told_402 rfl rfl ?_
      refine ab_iload dL_told_403 rfl ?_
      refine ab_iconst dL_told_405 kic_2 ?_
      refine f_V_i (As := [.int x5, .int 2]) (st := []) cs_L_102 (fun v q => m_X11_tile x0 x5 2 h q) rfl rfl dL_told_406 (rmk rfl) hf (fun v30 hf => ?_)
      refine ab_iload dL_told_409 rfl ?_
      refine ab_icmp_eq 416 dL_told_411 (by decide) hf (fun hf => ?_) (fun hf => ?_)
      · refine ab_iinc (v := x5 + 1) [some (.ref x0), some (.ref x1), none, some (.int x3), some (.int v26), some (.int (x5 + 1)), some (.int x6), some (.int x7), none] dL_told_416 rfl (kinc_1 _) (by decide) rfl rfl ?_
        refine ab_goto 251 dL_told_419 (by decide) ?_
        exact ab_msk [true, true, true, true, true, true, false, false, true] (hk251 x3 v26 (x5 + 1) h hf)
      refine ab_iconst dL_told_414 kic_0 ?_
      exact f_retzc2 rfl dL_told_415 rfl (Nat.le_refl 0) (Nat.le_refl 0) hf
    refine ab_iconst dL_told_414 kic_0 ?_
    exact f_retzc2 rfl dL_told_415 rfl (Nat.le_refl 0) (Nat.le_refl 0) hf
  refine ab_iconst dL_told_414 kic_0 ?_
  exact f_retzc2 rfl dL_told_415 rfl (Nat.le_refl 0) (Nat.le_refl 0) hf
def F_L_told_B353 (x0 : Nat) (x1 : Nat) (x4 : Int32) (x5 : Int32) (x6 : Int32) (x7 : Int32) (y0 : Int32) (y1 : Int32) (h : abH) (k251 : Int32 → Int32 → Int32 → abH → Option (Int32 × abH)) : Option (Int32 × abH) :=
  nm (y0 + y1) fun v24 =>
  (F_L_ones x7).bind fun v25 =>
  if v25 ≤ 1 then
    F_L_told_B371 x0 x1 v24 x5 x6 x7 x4 0 h k251
  else
    F_L_told_B371 x0 x1 v24 x5 x6 x7 x4 1 h k251
theorem w_L_told_B353 {z0 : Int32} {hz : abH} (x0 : Nat) (x1 : Nat) (x4 : Int32) (x5 : Int32) (x6 : Int32) (x7 : Int32) (y0 : Int32) (y1 : Int32) (h : abH) (k251 : Int32 → Int32 → Int32 → abH → Option (Int32 × abH)) (hk251 : ∀ (w3 : Int32) (w4 : Int32) (w5 : Int32) (hw : abH), k251 w3 w4 w5 hw = some (z0, hz) → abW cL_told 9 RL (some .boolean) false 8 0 0 none (some (.int z0), hz) 251 [some (.ref x0), some (.ref x1), none, some (.int w3), some (.int w4), some (.int w5), none, none, none] [] hw 0 0) (hf : F_L_told_B353 x0 x1 x4 x5 x6 x7 y0 y1 h k251 = some (z0, hz)) : abW cL_told 9 RL (some .boolean) false 8 0 0 none (some (.int z0), hz) 353 [some (.ref x0), some (.ref x1), none, none, some (.int x4), some (.int x5), some (.int x6), some (.int x7), none] [.int y1, .int y0] h 0 0 := by
  unfold F_L_told_B353 at hf
  refine ab_iadd dL_told_353 ?_
  refine ab_nmi hf (fun v24 hf => ?_)
  refine ab_istore_n 3 [some (.ref x0), some (.ref x1), none, some (.int v24), some (.int x4), some (.int x5), some (.int x6), some (.int x7), none] dL_told_354 rfl (by decide) rfl rfl ?_
  refine ab_iload dL_told_355 rfl ?_
  refine ab_iload dL_told_357 rfl ?_
  refine f_S_i (As := [.int x7]) (st := [.int x4]) cs_L_108 (fun v q => m_L_ones x7 h q) rfl rfl dL_told_359 (rmk rfl) hf (fun v25 hf => ?_)
  refine ab_iconst dL_told_362 kic_1 ?_
  refine ab_icmp_le 370 dL_told_363 (by decide) hf (fun hf => ?_) (fun hf => ?_)
  · refine ab_iconst dL_told_370 kic_0 ?_
    exact ab_msk [true, true, true, true, false, true, true, true, true] (w_L_told_B371 x0 x1 v24 x5 x6 x7 x4 0 h k251 hk251 hf)
  refine ab_iconst dL_told_366 kic_1 ?_
  refine ab_goto 371 dL_told_367 (by decide) ?_
  exact ab_msk [true, true, true, true, false, true, true, true, true] (w_L_told_B371 x0 x1 v24 x5 x6 x7 x4 1 h k251 hk251 hf)
def F_L_told_B299 (x0 : Nat) (x1 : Nat) (x3 : Int32) (x4 : Int32) (x5 : Int32) (x7 : Int32) (x8 : Int32) (y0 : Int32) (y1 : Int32) (h : abH) (k251 : Int32 → Int32 → Int32 → abH → Option (Int32 × abH)) (k267 : Int32 → Int32 → Int32 → abH → Option (Int32 × abH)) : Option (Int32 × abH) :=
  nm (y0 ||| y1) fun v32 =>
  (ga 0 h x1 1).bind fun v33 =>
  (F_L_bits x1 x8 v33 h).bind fun v34 =>
  if ((v34 >>> (x5 &&& 31)) &&& 1) = 1 then
    nm (x7 ||| ((1 : Int32) <<< (x8 &&& 31))) fun v36 =>
    k267 v32 v36 (x8 + 1) h
  else
    nm (x7 ||| 0) fun v35 =>
    k267 v32 v35 (x8 + 1) h
theorem w_L_told_B299 {z0 : Int32} {hz : abH} (x0 : Nat) (x1 : Nat) (x3 : Int32) (x4 : Int32) (x5 : Int32) (x7 : Int32) (x8 : Int32) (y0 : Int32) (y1 : Int32) (h : abH) (k251 : Int32 → Int32 → Int32 → abH → Option (Int32 × abH)) (k267 : Int32 → Int32 → Int32 → abH → Option (Int32 × abH)) (hk251 : ∀ (w3 : Int32) (w4 : Int32) (w5 : Int32) (hw : abH), k251 w3 w4 w5 hw = some (z0, hz) → abW cL_told 9 RL (some .boolean) false 8 0 0 none (some (.int z0), hz) 251 [some (.ref x0), some (.ref x1), none, some (.int w3), some (.int w4), some (.int w5), none, none, none] [] hw 0 0) (hk267 : ∀ (w6 : Int32) (w7 : Int32) (w8 : Int32) (hw : abH), k267 w6 w7 w8 hw = some (z0, hz) → abW cL_told 9 RL (some .boolean) false 8 0 0 none (some (.int z0), hz) 267 [some (.ref x0), some (.ref x1), none, some (.int x3), some (.int x4), some (.int x5), some (.int w6), some (.int w7), some (.int w8)] [] hw 0 0) (hf : F_L_told_B299 x0 x1 x3 x4 x5 x7 x8 y0 y1 h k251 k267 = some (z0, hz)) : abW cL_told 9 RL (some .boolean) false 8 0 0 none (some (.int z0), hz) 299 [some (.ref x0), some (.ref x1), none, some (.int x3), some (.int x4), some (.int x5), none, some (.int x7), some (.int x8)] [.int y1, .int y0] h 0 0 := by
  unfold F_L_told_B299 at hf
  refine ab_ior dL_told_299 ?_
  refine ab_nmi hf (fun v32 hf => ?_)
  refine ab_istore [some (.ref x0), some (.ref x1), none, some (.int x3), some (.int x4), some (.int x5), some (.int v32), some (.int x7), some (.int x8)] dL_told_300 (by decide) rfl rfl ?_
  refine ab_iload dL_told_302 rfl ?_
  refine ab_aload_n 1 dL_told_304 rfl rfl ?_
  refine ab_iload dL_told_305 rfl ?_
  refine ab_aload_n 1 dL_told_307 rfl rfl ?_
  refine ab_iconst dL_told_308 kic_1 ?_
  refine f_iald dL_told_309 hf (fun v33 hf => ?_)
  refine f_S_i (As := [.ref x1, .int x8, .int v33]) (st := [.int x7]) cs_L_31 (fun v q => m_L_bits x1 x8 v33 h q) rfl rfl dL_told_310 (rmk rfl) hf (fun v34 hf => ?_)
  refine ab_iload dL_told_313 rfl ?_
  refine ab_ishr dL_told_315 ?_
  refine ab_iconst dL_told_316 kic_1 ?_
  refine ab_iand dL_told_317 ?_
  refine ab_iconst dL_told_318 kic_1 ?_
  refine ab_icmp_ne 329 dL_told_319 (by decide) hf (fun hf => ?_) (fun hf => ?_)
  · refine ab_iconst dL_told_322 kic_1 ?_
    refine ab_iload dL_told_323 rfl ?_
    refine ab_ishl dL_told_325 ?_
    refine ab_goto 330 dL_told_326 (by decide) ?_
    refine ab_ior dL_told_330 ?_
    refine ab_nmi hf (fun v36 hf => ?_)
    refine ab_istore [some (.ref x0), some (.ref x1), none, some (.int x3), some (.int x4), some (.int x5), some (.int v32), some (.int v36), some (.int x8)] dL_told_331 (by decide) rfl rfl ?_
    refine ab_iinc (v := x8 + 1) [some (.ref x0), some (.ref x1), none, some (.int x3), some (.int x4), some (.int x5), some (.int v32), some (.int v36), some (.int (x8 + 1))] dL_told_333 rfl (kinc_1 _) (by decide) rfl rfl ?_
    refine ab_goto 267 dL_told_336 (by decide) ?_
    exact ab_msk [true, true, true, true, true, true, true, true, true] (hk267 v32 v36 (x8 + 1) h hf)
  refine ab_iconst dL_told_329 kic_0 ?_
  refine ab_ior dL_told_330 ?_
  refine ab_nmi hf (fun v35 hf => ?_)
  refine ab_istore [some (.ref x0), some (.ref x1), none, some (.int x3), some (.int x4), some (.int x5), some (.int v32), some (.int v35), some (.int x8)] dL_told_331 (by decide) rfl rfl ?_
  refine ab_iinc (v := x8 + 1) [some (.ref x0), some (.ref x1), none, some (.int x3), some (.int x4), some (.int x5), some (.int v32), some (.int v35), some (.int (x8 + 1))] dL_told_333 rfl (kinc_1 _) (by decide) rfl rfl ?_
  refine ab_goto 267 dL_told_336 (by decide) ?_
  exact ab_msk [true, true, true, true, true, true, true, true, true] (hk267 v32 v35 (x8 + 1) h hf)
def F_L_told_B267 (x0 : Nat) (x1 : Nat) (x3 : Int32) (x4 : Int32) (x5 : Int32) (k251 : Int32 → Int32 → Int32 → abH → Option (Int32 × abH)) : Nat → Int32 → Int32 → Int32 → abH → Option (Int32 × abH)
  | 0, _, _, _, _ => none
  | n + 1, x6, x7, x8, h =>
    (ga 0 h x1 0).bind fun v22 =>
    if x8 < v22 then
      (ga 0 h x1 (16 + (3 * x8))).bind fun v31 =>
      if v31 = x5 then
        F_L_told_B299 x0 x1 x3 x4 x5 x7 x8 x6 ((1 : Int32) <<< (x8 &&& 31)) h k251 (fun u6 u7 u8 hu => F_L_told_B267 x0 x1 x3 x4 x5 k251 n u6 u7 u8 hu)
      else
        F_L_told_B299 x0 x1 x3 x4 x5 x7 x8 x6 0 h k251 (fun u6 u7 u8 hu => F_L_told_B267 x0 x1 x3 x4 x5 k251 n u6 u7 u8 hu)
    else
      (F_L_ones x7).bind fun v23 =>
      if v23 ≤ 0 then
        F_L_told_B353 x0 x1 x4 x5 x6 x7 x3 0 h k251
      else
        F_L_told_B353 x0 x1 x4 x5 x6 x7 x3 1 h k251
theorem w_L_told_B267 {z0 : Int32} {hz : abH} (x0 : Nat) (x1 : Nat) (x3 : Int32) (x4 : Int32) (x5 : Int32) (k251 : Int32 → Int32 → Int32 → abH → Option (Int32 × abH)) (hk251 : ∀ (w3 : Int32) (w4 : Int32) (w5 : Int32) (hw : abH), k251 w3 w4 w5 hw = some (z0, hz) → abW cL_told 9 RL (some .boolean) false 8 0 0 none (some (.int z0), hz) 251 [some (.ref x0), some (.ref x1), none, some (.int w3), some (.int w4), some (.int w5), none, none, none] [] hw 0 0) : ∀ (n : Nat) (x6 : Int32) (x7 : Int32) (x8 : Int32) (h : abH), F_L_told_B267 x0 x1 x3 x4 x5 k251 n x6 x7 x8 h = some (z0, hz) → abW cL_told 9 RL (some .boolean) false 8 0 0 none (some (.int z0), hz) 267 [some (.ref x0), some (.ref x1), none, some (.int x3), some (.int x4), some (.int x5), some (.int x6), some (.int x7), some (.int x8)] [] h 0 0 := by
  intro n
  induction n with
  | zero =>
    intro x6 x7 x8 h hf
    exact absurd (show (none : Option (Int32 × abH)) = some _ from hf) (by simp)
  | succ n ih =>
    intro x6 x7 x8 h hf
    rw [F_L_told_B267.eq_2] at hf
    refine ab_iload dL_told_267 rfl ?_
    refine ab_aload_n 1 dL_told_269 rfl rfl ?_
    refine ab_iconst dL_told_270 kic_0 ?_
    refine f_iald dL_told_271 hf (fun v22 hf => ?_)
    refine ab_icmp_ge 339 dL_told_272 (by decide) hf (fun hf => ?_) (fun hf => ?_)
    · refine ab_iload dL_told_275 rfl ?_
      refine ab_aload_n 1 dL_told_277 rfl rfl ?_
      refine ab_bipush dL_told_278 kbp_16 ?_
      refine ab_iconst dL_told_280 kic_3 ?_
      refine ab_iload dL_told_281 rfl ?_
      refine ab_imul dL_told_283 ?_
      refine ab_iadd dL_told_284 ?_
      refine f_iald dL_told_285 hf (fun v31 hf => ?_)
      refine ab_iload dL_told_286 rfl ?_
      refine ab_icmp_ne 298 dL_told_288 (by decide) hf (fun hf => ?_) (fun hf => ?_)
      · refine ab_iconst dL_told_291 kic_1 ?_
        refine ab_iload dL_told_292 rfl ?_
        refine ab_ishl dL_told_294 ?_
        refine ab_goto 299 dL_told_295 (by decide) ?_
        exact ab_msk [true, true, true, true, true, true, false, true, true] (w_L_told_B299 x0 x1 x3 x4 x5 x7 x8 x6 ((1 : Int32) <<< (x8 &&& 31)) h k251 (fun u6 u7 u8 hu => F_L_told_B267 x0 x1 x3 x4 x5 k251 n u6 u7 u8 hu) hk251 (fun u6 u7 u8 hu hf => ih u6 u7 u8 hu hf) hf)
      refine ab_iconst dL_told_298 kic_0 ?_
      exact ab_msk [true, true, true, true, true, true, false, true, true] (w_L_told_B299 x0 x1 x3 x4 x5 x7 x8 x6 0 h k251 (fun u6 u7 u8 hu => F_L_told_B267 x0 x1 x3 x4 x5 k251 n u6 u7 u8 hu) hk251 (fun u6 u7 u8 hu hf => ih u6 u7 u8 hu hf) hf)
    refine ab_iload_n 3 dL_told_339 rfl rfl ?_
    refine ab_iload dL_told_340 rfl ?_
    refine f_S_i (As := [.int x7]) (st := [.int x3]) cs_L_108 (fun v q => m_L_ones x7 h q) rfl rfl dL_told_342 (rmk rfl) hf (fun v23 hf => ?_)
    refine ab_if_le 352 dL_told_345 (by decide) hf (fun hf => ?_) (fun hf => ?_)
    · refine ab_iconst dL_told_352 kic_0 ?_
      exact ab_msk [true, true, true, false, true, true, true, true, false] (w_L_told_B353 x0 x1 x4 x5 x6 x7 x3 0 h k251 hk251 hf)
    refine ab_iconst dL_told_348 kic_1 ?_
    refine ab_goto 353 dL_told_349 (by decide) ?_
    exact ab_msk [true, true, true, false, true, true, true, true, false] (w_L_told_B353 x0 x1 x4 x5 x6 x7 x3 1 h k251 hk251 hf)
def F_L_told_B251 (x0 : Nat) (x1 : Nat) : Nat → Int32 → Int32 → Int32 → abH → Option (Int32 × abH)
  | 0, _, _, _, _ => none
  | n + 1, x3, x4, x5, h =>
    if x5 < 10 then
      F_L_told_B267 x0 x1 x3 x4 x5 (fun u3 u4 u5 hu => F_L_told_B251 x0 x1 n u3 u4 u5 hu) 200 0 0 0 h
    else
      F_L_told_B428 x0 x1 x3 x4 200 0 0 h
theorem w_L_told_B251 {z0 : Int32} {hz : abH} (x0 : Nat) (x1 : Nat)   : ∀ (n : Nat) (x3 : Int32) (x4 : Int32) (x5 : Int32) (h : abH), F_L_told_B251 x0 x1 n x3 x4 x5 h = some (z0, hz) → abW cL_told 9 RL (some .boolean) false 8 0 0 none (some (.int z0), hz) 251 [some (.ref x0), some (.ref x1), none, some (.int x3), some (.int x4), some (.int x5), none, none, none] [] h 0 0 := by
  intro n
  induction n with
  | zero =>
    intro x3 x4 x5 h hf
    exact absurd (show (none : Option (Int32 × abH)) = some _ from hf) (by simp)
  | succ n ih =>
    intro x3 x4 x5 h hf
    rw [F_L_told_B251.eq_2] at hf
    refine ab_iload dL_told_251 rfl ?_
    refine ab_bipush dL_told_253 kbp_10 ?_
    refine ab_icmp_ge 422 dL_told_255 (by decide) hf (fun hf => ?_) (fun hf => ?_)
    · refine ab_iconst dL_told_258 kic_0 ?_
      refine ab_istore [some (.ref x0), some (.ref x1), none, some (.int x3), some (.int x4), some (.int x5), some (.int 0), none, none] dL_told_259 (by decide) rfl rfl ?_
      refine ab_iconst dL_told_261 kic_0 ?_
      refine ab_istore [some (.ref x0), some (.ref x1), none, some (.int x3), some (.int x4), some (.int x5), some (.int 0), some (.int 0), none] dL_told_262 (by decide) rfl rfl ?_
      refine ab_iconst dL_told_264 kic_0 ?_
      refine ab_istore [some (.ref x0), some (.ref x1), none, some (.int x3), some (.int x4), some (.int x5), some (.int 0), some (.int 0), some (.int 0)] dL_told_265 (by decide) rfl rfl ?_
      exact ab_msk [true, true, true, true, true, true, true, true, true] (w_L_told_B267 x0 x1 x3 x4 x5 (fun u3 u4 u5 hu => F_L_told_B251 x0 x1 n u3 u4 u5 hu) (fun u3 u4 u5 hu hf => ih u3 u4 u5 hu hf) 200 0 0 0 h hf)
    refine ab_iconst dL_told_422 kic_0 ?_
    refine ab_istore [some (.ref x0), some (.ref x1), none, some (.int x3), some (.int x4), some (.int 0), none, none, none] dL_told_423 (by decide) rfl rfl ?_
    refine ab_iconst dL_told_425 kic_0 ?_
    refine ab_istore [some (.ref x0), some (.ref x1), none, some (.int x3), some (.int x4), some (.int 0), some (.int 0), none, none] dL_told_426 (by decide) rfl rfl ?_
    exact ab_msk [true, true, true, true, true, true, true, true, true] (w_L_told_B428 x0 x1 x3 x4 200 0 0 h hf)
def F_L_told_B188 (x0 : Nat) (x1 : Nat) (x2 : Int32) (x3 : Int32) (k2 : Int32 → abH → Option (Int32 × abH)) : Nat → Int32 → abH → Option (Int32 × abH)
  | 0, _, _ => none
  | n + 1, x6, h =>
    (ga 0 h x1 0).bind fun v58 =>
    if x6 < v58 then
      (ko 11 h x0).bind fun _ => (F_X11_found x0 x3 x6 x2 h).bind fun v59 =>
      if x3 = x6 then
        if v59 = (-101) then
          F_L_told_B188 x0 x1 x2 x3 k2 n (x6 + 1) h
        else
          some (0, h)
      else
        (F_L_find x1 x3 x6 x2 h).bind fun v60 =>
        if v59 = (100 + v60) then
          F_L_told_B188 x0 x1 x2 x3 k2 n (x6 + 1) h
        else
          some (0, h)
    else
      k2 (x3 + 1) h
theorem w_L_told_B188 {z0 : Int32} {hz : abH} (x0 : Nat) (x1 : Nat) (x2 : Int32) (x3 : Int32) (k2 : Int32 → abH → Option (Int32 × abH)) (hk2 : ∀ (w3 : Int32) (hw : abH), k2 w3 hw = some (z0, hz) → abW cL_told 9 RL (some .boolean) false 8 0 0 none (some (.int z0), hz) 2 [some (.ref x0), some (.ref x1), some (.int x2), some (.int w3), none, none, none, none, none] [] hw 0 0) : ∀ (n : Nat) (x6 : Int32) (h : abH), F_L_told_B188 x0 x1 x2 x3 k2 n x6 h = some (z0, hz) → abW cL_told 9 RL (some .boolean) false 8 0 0 none (some (.int z0), hz) 188 [some (.ref x0), some (.ref x1), some (.int x2), some (.int x3), none, none, some (.int x6), none, none] [] h 0 0 := by
  intro n
  induction n with
  | zero =>
    intro x6 h hf
    exact absurd (show (none : Option (Int32 × abH)) = some _ from hf) (by simp)
  | succ n ih =>
    intro x6 h hf
    rw [F_L_told_B188.eq_2] at hf
    refine ab_iload dL_told_188 rfl ?_
    refine ab_aload_n 1 dL_told_190 rfl rfl ?_
    refine ab_iconst dL_told_191 kic_0 ?_
    refine f_iald dL_told_192 hf (fun v58 hf => ?_)
    refine ab_icmp_ge 237 dL_told_193 (by decide) hf (fun hf => ?_) (fun hf => ?_)
    · refine ab_aload_n 0 dL_told_196 rfl rfl ?_
      refine ab_iload_n 3 dL_told_197 rfl rfl ?_
      refine ab_iload dL_told_198 rfl ?_
      refine ab_iload_n 2 dL_told_200 rfl rfl ?_
      refine f_V_i (As := [.int x3, .int x6, .int x2]) (st := []) cs_L_105 (fun v q => m_X11_found x0 x3 x6 x2 h q) rfl rfl dL_told_201 (rmk rfl) hf (fun v59 hf => ?_)
      refine ab_iload_n 3 dL_told_204 rfl rfl ?_
      refine ab_iload dL_told_205 rfl ?_
      refine ab_icmp_ne 215 dL_told_207 (by decide) hf (fun hf => ?_) (fun hf => ?_)
      · refine ab_bipush dL_told_210 kbp_m101 ?_
        refine ab_goto 226 dL_told_212 (by decide) ?_
        refine ab_icmp_eq 231 dL_told_226 (by decide) hf (fun hf => ?_) (fun hf => ?_)
        · refine ab_iinc (v := x6 + 1) [some (.ref x0), some (.ref x1), some (.int x2), some (.int x3), none, none, some (.int (x6 + 1)), none, none] dL_told_231 rfl (kinc_1 _) (by decide) rfl rfl ?_
          refine ab_goto 188 dL_told_234 (by decide) ?_
          exact ab_msk [true, true, true, true, true, true, true, true, true] (ih (x6 + 1) h hf)
        refine ab_iconst dL_told_229 kic_0 ?_
        exact f_retzc2 rfl dL_told_230 rfl (Nat.le_refl 0) (Nat.le_refl 0) hf
      refine ab_bipush dL_told_215 kbp_100 ?_
      refine ab_aload_n 1 dL_told_217 rfl rfl ?_
      refine ab_iload_n 3 dL_told_218 rfl rfl ?_
      refine ab_iload dL_told_219 rfl ?_
      refine ab_iload_n 2 dL_told_221 rfl rfl ?_
      refine f_S_i (As := [.ref x1, .int x3, .int x6, .int x2]) (st := [.int 100, .int v59]) cs_L_86 (fun v q => m_L_find x1 x3 x6 x2 h q) rfl rfl dL_told_222 (rmk rfl) hf (fun v60 hf => ?_)
      refine ab_iadd dL_told_225 ?_
      refine ab_icmp_eq 231 dL_told_226 (by decide) hf (fun hf => ?_) (fun hf => ?_)
      · refine ab_iinc (v := x6 + 1) [some (.ref x0), some (.ref x1), some (.int x2), some (.int x3), none, none, some (.int (x6 + 1)), none, none] dL_told_231 rfl (kinc_1 _) (by decide) rfl rfl ?_
        refine ab_goto 188 dL_told_234 (by decide) ?_
        exact ab_msk [true, true, true, true, true, true, true, true, true] (ih (x6 + 1) h hf)
      refine ab_iconst dL_told_229 kic_0 ?_
      exact f_retzc2 rfl dL_told_230 rfl (Nat.le_refl 0) (Nat.le_refl 0) hf
    refine ab_iinc (v := x3 + 1) [some (.ref x0), some (.ref x1), some (.int x2), some (.int (x3 + 1)), none, none, some (.int x6), none, none] dL_told_237 rfl (kinc_1 _) (by decide) rfl rfl ?_
    refine ab_goto 2 dL_told_240 (by decide) ?_
    exact ab_msk [true, true, true, true, true, true, false, true, true] (hk2 (x3 + 1) h hf)
def F_L_told_B169 (x0 : Nat) (x1 : Nat) (x2 : Int32) (x3 : Int32) (x4 : Int32) (x6 : Int32) (y0 : Int32) (h : abH) (k2 : Int32 → abH → Option (Int32 × abH)) (k128 : Int32 → abH → Option (Int32 × abH)) : Option (Int32 × abH) :=
  if y0 = x3 then
    k128 (x6 + 1) h
  else
    some (0, h)
theorem w_L_told_B169 {z0 : Int32} {hz : abH} (x0 : Nat) (x1 : Nat) (x2 : Int32) (x3 : Int32) (x4 : Int32) (x6 : Int32) (y0 : Int32) (h : abH) (k2 : Int32 → abH → Option (Int32 × abH)) (k128 : Int32 → abH → Option (Int32 × abH)) (hk2 : ∀ (w3 : Int32) (hw : abH), k2 w3 hw = some (z0, hz) → abW cL_told 9 RL (some .boolean) false 8 0 0 none (some (.int z0), hz) 2 [some (.ref x0), some (.ref x1), some (.int x2), some (.int w3), none, none, none, none, none] [] hw 0 0) (hk128 : ∀ (w6 : Int32) (hw : abH), k128 w6 hw = some (z0, hz) → abW cL_told 9 RL (some .boolean) false 8 0 0 none (some (.int z0), hz) 128 [some (.ref x0), some (.ref x1), some (.int x2), some (.int x3), some (.int x4), none, some (.int w6), none, none] [] hw 0 0) (hf : F_L_told_B169 x0 x1 x2 x3 x4 x6 y0 h k2 k128 = some (z0, hz)) : abW cL_told 9 RL (some .boolean) false 8 0 0 none (some (.int z0), hz) 169 [some (.ref x0), some (.ref x1), some (.int x2), some (.int x3), some (.int x4), none, some (.int x6), none, none] [.int y0] h 0 0 := by
  unfold F_L_told_B169 at hf
  refine ab_iload_n 3 dL_told_169 rfl rfl ?_
  refine ab_goto 174 dL_told_170 (by decide) ?_
  refine ab_icmp_eq 179 dL_told_174 (by decide) hf (fun hf => ?_) (fun hf => ?_)
  · refine ab_iinc (v := x6 + 1) [some (.ref x0), some (.ref x1), some (.int x2), some (.int x3), some (.int x4), none, some (.int (x6 + 1)), none, none] dL_told_179 rfl (kinc_1 _) (by decide) rfl rfl ?_
    refine ab_goto 128 dL_told_182 (by decide) ?_
    exact ab_msk [true, true, true, true, true, true, true, true, true] (hk128 (x6 + 1) h hf)
  refine ab_iconst dL_told_177 kic_0 ?_
  exact f_retzc2 rfl dL_told_178 rfl (Nat.le_refl 0) (Nat.le_refl 0) hf
def F_L_told_B128 (x0 : Nat) (x1 : Nat) (x2 : Int32) (x3 : Int32) (x4 : Int32) (k2 : Int32 → abH → Option (Int32 × abH)) : Nat → Int32 → abH → Option (Int32 × abH)
  | 0, _, _ => none
  | n + 1, x6, h =>
    if x6 < 5 then
      (ko 11 h x0).bind fun _ => (F_X11_as x0 x3 x6 h).bind fun v61 =>
      if x6 = 0 then
        F_L_told_B169 x0 x1 x2 x3 x4 x6 v61 h k2 (fun u6 hu => F_L_told_B128 x0 x1 x2 x3 x4 k2 n u6 hu)
      else
        (ga 0 h x1 x4).bind fun v62 =>
        if x6 = v62 then
          F_L_told_B169 x0 x1 x2 x3 x4 x6 v61 h k2 (fun u6 hu => F_L_told_B128 x0 x1 x2 x3 x4 k2 n u6 hu)
        else
          if x6 = 1 then
            (ga 0 h x1 x4).bind fun v63 =>
            if v63 = 4 then
              F_L_told_B169 x0 x1 x2 x3 x4 x6 v61 h k2 (fun u6 hu => F_L_told_B128 x0 x1 x2 x3 x4 k2 n u6 hu)
            else
              if v61 = (-1) then
                F_L_told_B128 x0 x1 x2 x3 x4 k2 n (x6 + 1) h
              else
                some (0, h)
          else
            if v61 = (-1) then
              F_L_told_B128 x0 x1 x2 x3 x4 k2 n (x6 + 1) h
            else
              some (0, h)
    else
      F_L_told_B188 x0 x1 x2 x3 k2 200 0 h
theorem w_L_told_B128 {z0 : Int32} {hz : abH} (x0 : Nat) (x1 : Nat) (x2 : Int32) (x3 : Int32) (x4 : Int32) (k2 : Int32 → abH → Option (Int32 × abH)) (hk2 : ∀ (w3 : Int32) (hw : abH), k2 w3 hw = some (z0, hz) → abW cL_told 9 RL (some .boolean) false 8 0 0 none (some (.int z0), hz) 2 [some (.ref x0), some (.ref x1), some (.int x2), some (.int w3), none, none, none, none, none] [] hw 0 0) : ∀ (n : Nat) (x6 : Int32) (h : abH), F_L_told_B128 x0 x1 x2 x3 x4 k2 n x6 h = some (z0, hz) → abW cL_told 9 RL (some .boolean) false 8 0 0 none (some (.int z0), hz) 128 [some (.ref x0), some (.ref x1), some (.int x2), some (.int x3), some (.int x4), none, some (.int x6), none, none] [] h 0 0 := by
  intro n
  induction n with
  | zero =>
    intro x6 h hf
    exact absurd (show (none : Option (Int32 × abH)) = some _ from hf) (by simp)
  | succ n ih =>
    intro x6 h hf
    rw [F_L_told_B128.eq_2] at hf
    refine ab_iload dL_told_128 rfl ?_
    refine ab_iconst dL_told_130 kic_5 ?_
    refine ab_icmp_ge 185 dL_told_131 (by decide) hf (fun hf => ?_) (fun hf => ?_)
    · refine ab_aload_n 0 dL_told_134 rfl rfl ?_
      refine ab_iload_n 3 dL_told_135 rfl rfl ?_
      refine ab_iload dL_told_136 rfl ?_
      refine f_V_i (As := [.int x3, .int x6]) (st := []) cs_L_97 (fun v q => m_X11_as x0 x3 x6 h q) rfl rfl dL_told_138 (rmk rfl) hf (fun v61 hf => ?_)
      refine ab_iload dL_told_141 rfl ?_
      refine ab_if_eq 169 dL_told_143 (by decide) hf (fun hf => ?_) (fun hf => ?_)
      · exact ab_msk [true, true, true, true, true, true, true, true, true] (w_L_told_B169 x0 x1 x2 x3 x4 x6 v61 h k2 (fun u6 hu => F_L_told_B128 x0 x1 x2 x3 x4 k2 n u6 hu) hk2 (fun u6 hu hf => ih u6 hu hf) hf)
      refine ab_iload dL_told_146 rfl ?_
      refine ab_aload_n 1 dL_told_148 rfl rfl ?_
      refine ab_iload dL_told_149 rfl ?_
      refine f_iald dL_told_151 hf (fun v62 hf => ?_)
      refine ab_icmp_eq 169 dL_told_152 (by decide) hf (fun hf => ?_) (fun hf => ?_)
      · exact ab_msk [true, true, true, true, true, true, true, true, true] (w_L_told_B169 x0 x1 x2 x3 x4 x6 v61 h k2 (fun u6 hu => F_L_told_B128 x0 x1 x2 x3 x4 k2 n u6 hu) hk2 (fun u6 hu hf => ih u6 hu hf) hf)
      refine ab_iload dL_told_155 rfl ?_
      refine ab_iconst dL_told_157 kic_1 ?_
      refine ab_icmp_ne 173 dL_told_158 (by decide) hf (fun hf => ?_) (fun hf => ?_)
      · refine ab_aload_n 1 dL_told_161 rfl rfl ?_
        refine ab_iload dL_told_162 rfl ?_
        refine f_iald dL_told_164 hf (fun v63 hf => ?_)
        refine ab_iconst dL_told_165 kic_4 ?_
        refine ab_icmp_ne 173 dL_told_166 (by decide) hf (fun hf => ?_) (fun hf => ?_)
        · exact ab_msk [true, true, true, true, true, true, true, true, true] (w_L_told_B169 x0 x1 x2 x3 x4 x6 v61 h k2 (fun u6 hu => F_L_told_B128 x0 x1 x2 x3 x4 k2 n u6 hu) hk2 (fun u6 hu hf => ih u6 hu hf) hf)
        refine ab_iconst dL_told_173 kic_m1 ?_
        refine ab_icmp_eq 179 dL_told_174 (by decide) hf (fun hf => ?_) (fun hf => ?_)
        · refine ab_iinc (v := x6 + 1) [some (.ref x0), some (.ref x1), some (.int x2), some (.int x3), some (.int x4), none, some (.int (x6 + 1)), none, none] dL_told_179 rfl (kinc_1 _) (by decide) rfl rfl ?_
          refine ab_goto 128 dL_told_182 (by decide) ?_
          exact ab_msk [true, true, true, true, true, true, true, true, true] (ih (x6 + 1) h hf)
        refine ab_iconst dL_told_177 kic_0 ?_
        exact f_retzc2 rfl dL_told_178 rfl (Nat.le_refl 0) (Nat.le_refl 0) hf
      refine ab_iconst dL_told_173 kic_m1 ?_
      refine ab_icmp_eq 179 dL_told_174 (by decide) hf (fun hf => ?_) (fun hf => ?_)
      · refine ab_iinc (v := x6 + 1) [some (.ref x0), some (.ref x1), some (.int x2), some (.int x3), some (.int x4), none, some (.int (x6 + 1)), none, none] dL_told_179 rfl (kinc_1 _) (by decide) rfl rfl ?_
        refine ab_goto 128 dL_told_182 (by decide) ?_
        exact ab_msk [true, true, true, true, true, true, true, true, true] (ih (x6 + 1) h hf)
      refine ab_iconst dL_told_177 kic_0 ?_
      exact f_retzc2 rfl dL_told_178 rfl (Nat.le_refl 0) (Nat.le_refl 0) hf
    refine ab_iconst dL_told_185 kic_0 ?_
    refine ab_istore [some (.ref x0), some (.ref x1), some (.int x2), some (.int x3), some (.int x4), none, some (.int 0), none, none] dL_told_186 (by decide) rfl rfl ?_
    exact ab_msk [true, true, true, true, false, true, true, true, true] (w_L_told_B188 x0 x1 x2 x3 k2 hk2 200 0 h hf)
def F_L_told_B2 (x0 : Nat) (x1 : Nat) (x2 : Int32) : Nat → Int32 → abH → Option (Int32 × abH)
  | 0, _, _ => none
  | n + 1, x3, h =>
    (ga 0 h x1 0).bind fun v1 =>
    if x3 < v1 then
      nm (14 + (3 * x3)) fun v37 =>
      (ga 0 h x1 1).bind fun v38 =>
      (F_L_bits x1 x3 v38 h).bind fun v39 =>
      (ko 11 h x0).bind fun _ => bd2 (F_X11_party x0 x3 0 h) fun v41 h40 =>
      (ga 0 h40 x1 v37).bind fun v42 =>
      if v41 = v42 then
        (ko 11 h40 x0).bind fun _ => bd2 (F_X11_party x0 x3 1 h40) fun v44 h43 =>
        (ga 0 h43 x1 (v37 + 1)).bind fun v45 =>
        if v44 = v45 then
          (ko 11 h43 x0).bind fun _ => bd2 (F_X11_party x0 x3 2 h43) fun v47 h46 =>
          (ga 0 h46 x1 (v37 + 2)).bind fun v48 =>
          if v47 = v48 then
            (ko 11 h46 x0).bind fun _ => bd2 (F_X11_party x0 x3 3 h46) fun v50 h49 =>
            if v50 = v39 then
              (ko 11 h49 x0).bind fun _ => bd2 (F_X11_party x0 x3 4 h49) fun v52 h51 =>
              (F_L_worth x1 v39 h51).bind fun v53 =>
              if v52 = v53 then
                (ko 11 h51 x0).bind fun _ => bd2 (F_X11_party x0 x3 5 h51) fun v55 h54 =>
                if v55 = 511 then
                  (ko 11 h54 x0).bind fun _ => (F_X11_covers x0 x3 x2 h54).bind fun v56 =>
                  (F_L_bits x1 x3 x2 h54).bind fun v57 =>
                  if v56 = v57 then
                    F_L_told_B128 x0 x1 x2 x3 v37 (fun u3 hu => F_L_told_B2 x0 x1 x2 n u3 hu) 200 0 h54
                  else
                    some (0, h54)
                else
                  some (0, h54)
              else
                some (0, h51)
            else
              some (0, h49)
          else
            some (0, h46)
        else
          some (0, h43)
      else
        some (0, h40)
    else
      F_L_told_B251 x0 x1 200 0 0 0 h
theorem w_L_told_B2 {z0 : Int32} {hz : abH} (x0 : Nat) (x1 : Nat) (x2 : Int32)   : ∀ (n : Nat) (x3 : Int32) (h : abH), F_L_told_B2 x0 x1 x2 n x3 h = some (z0, hz) → abW cL_told 9 RL (some .boolean) false 8 0 0 none (some (.int z0), hz) 2 [some (.ref x0), some (.ref x1), some (.int x2), some (.int x3), none, none, none, none, none] [] h 0 0 := by
  intro n
  induction n with
  | zero =>
    intro x3 h hf
    exact absurd (show (none : Option (Int32 × abH)) = some _ from hf) (by simp)
  | succ n ih =>
    intro x3 h hf
    rw [F_L_told_B2.eq_2] at hf
    refine ab_iload_n 3 dL_told_2 rfl rfl ?_
    refine ab_aload_n 1 dL_told_3 rfl rfl ?_
    refine ab_iconst dL_told_4 kic_0 ?_
    refine f_iald dL_told_5 hf (fun v1 hf => ?_)
    refine ab_icmp_ge 243 dL_told_6 (by decide) hf (fun hf => ?_) (fun hf => ?_)
    · refine ab_bipush dL_told_9 kbp_14 ?_
      refine ab_iconst dL_told_11 kic_3 ?_
      refine ab_iload_n 3 dL_told_12 rfl rfl ?_
      refine ab_imul dL_told_13 ?_
      refine ab_iadd dL_told_14 ?_
      refine ab_nmi hf (fun v37 hf => ?_)
      refine ab_istore [some (.ref x0), some (.ref x1), some (.int x2), some (.int x3), some (.int v37), none, none, none, none] dL_told_15 (by decide) rfl rfl ?_
      refine ab_aload_n 1 dL_told_17 rfl rfl ?_
      refine ab_iload_n 3 dL_told_18 rfl rfl ?_
      refine ab_aload_n 1 dL_told_19 rfl rfl ?_
      refine ab_iconst dL_told_20 kic_1 ?_
      refine f_iald dL_told_21 hf (fun v38 hf => ?_)
      refine f_S_i (As := [.ref x1, .int x3, .int v38]) (st := []) cs_L_31 (fun v q => m_L_bits x1 x3 v38 h q) rfl rfl dL_told_22 (rmk rfl) hf (fun v39 hf => ?_)
      refine ab_istore [some (.ref x0), some (.ref x1), some (.int x2), some (.int x3), some (.int v37), some (.int v39), none, none, none] dL_told_25 (by decide) rfl rfl ?_
      refine ab_aload_n 0 dL_told_27 rfl rfl ?_
      refine ab_iload_n 3 dL_told_28 rfl rfl ?_
      refine ab_iconst dL_told_29 kic_0 ?_
      refine f_V_i2 (As := [.int x3, .int 0]) (st := []) cs_L_94 (fun v hq q => m_X11_party x0 x3 0 h q) rfl rfl dL_told_30 (rmk rfl) hf (fun v41 h40 hf => ?_)
      refine ab_aload_n 1 dL_told_33 rfl rfl ?_
      refine ab_iload dL_told_34 rfl ?_
      refine f_iald dL_told_36 hf (fun v42 hf => ?_)
      refine ab_icmp_ne 123 dL_told_37 (by decide) hf (fun hf => ?_) (fun hf => ?_)
      · refine ab_aload_n 0 dL_told_40 rfl rfl ?_
        refine ab_iload_n 3 dL_told_41 rfl rfl ?_
        refine ab_iconst dL_told_42 kic_1 ?_
        refine f_V_i2 (As := [.int x3, .int 1]) (st := []) cs_L_94 (fun v hq q => m_X11_party x0 x3 1 h40 q) rfl rfl dL_told_43 (rmk rfl) hf (fun v44 h43 hf => ?_)
        refine ab_aload_n 1 dL_told_46 rfl rfl ?_
        refine ab_iload dL_told_47 rfl ?_
        refine ab_iconst dL_told_49 kic_1 ?_
        refine ab_iadd dL_told_50 ?_
        refine f_iald dL_told_51 hf (fun v45 hf => ?_)
        refine ab_icmp_ne 123 dL_told_52 (by decide) hf (fun hf => ?_) (fun hf => ?_)
        · refine ab_aload_n 0 dL_told_55 rfl rfl ?_
          refine ab_iload_n 3 dL_told_56 rfl rfl ?_
          refine ab_iconst dL_told_57 kic_2 ?_
          refine f_V_i2 (As := [.int x3, .int 2]) (st := []) cs_L_94 (fun v hq q => m_X11_party x0 x3 2 h43 q) rfl rfl dL_told_58 (rmk rfl) hf (fun v47 h46 hf => ?_)
          refine ab_aload_n 1 dL_told_61 rfl rfl ?_
          refine ab_iload dL_told_62 rfl ?_
          refine ab_iconst dL_told_64 kic_2 ?_
          refine ab_iadd dL_told_65 ?_
          refine f_iald dL_told_66 hf (fun v48 hf => ?_)
          refine ab_icmp_ne 123 dL_told_67 (by decide) hf (fun hf => ?_) (fun hf => ?_)
          · refine ab_aload_n 0 dL_told_70 rfl rfl ?_
            refine ab_iload_n 3 dL_told_71 rfl rfl ?_
            refine ab_iconst dL_told_72 kic_3 ?_
            refine f_V_i2 (As := [.int x3, .int 3]) (st := []) cs_L_94 (fun v hq q => m_X11_party x0 x3 3 h46 q) rfl rfl dL_told_73 (rmk rfl) hf (fun v50 h49 hf => ?_)
            refine ab_iload dL_told_76 rfl ?_
            refine ab_icmp_ne 123 dL_told_78 (by decide) hf (fun hf => ?_) (fun hf => ?_)
            · refine ab_aload_n 0 dL_told_81 rfl rfl ?_
              refine ab_iload_n 3 dL_told_82 rfl rfl ?_
              refine ab_iconst dL_told_83 kic_4 ?_
              refine f_V_i2 (As := [.int x3, .int 4]) (st := []) cs_L_94 (fun v hq q => m_X11_party x0 x3 4 h49 q) rfl rfl dL_told_84 (rmk rfl) hf (fun v52 h51 hf => ?_)
              refine ab_aload_n 1 dL_told_87 rfl rfl ?_
              refine ab_iload dL_told_88 rfl ?_
              refine f_S_i (As := [.ref x1, .int v39]) (st := [.int v52]) cs_L_35 (fun v q => m_L_worth x1 v39 h51 q) rfl rfl dL_told_90 (rmk rfl) hf (fun v53 hf => ?_)
              refine ab_icmp_ne 123 dL_told_93 (by decide) hf (fun hf => ?_) (fun hf => ?_)
              · refine ab_aload_n 0 dL_told_96 rfl rfl ?_
                refine ab_iload_n 3 dL_told_97 rfl rfl ?_
                refine ab_iconst dL_told_98 kic_5 ?_
                refine f_V_i2 (As := [.int x3, .int 5]) (st := []) cs_L_94 (fun v hq q => m_X11_party x0 x3 5 h51 q) rfl rfl dL_told_99 (rmk rfl) hf (fun v55 h54 hf => ?_)
                refine ab_sipush dL_told_102 ksp_511 ?_
                refine ab_icmp_ne 123 dL_told_105 (by decide) hf (fun hf => ?_) (fun hf => ?_)
                · refine ab_aload_n 0 dL_told_108 rfl rfl ?_
                  refine ab_iload_n 3 dL_told_109 rfl rfl ?_
                  refine ab_iload_n 2 dL_told_110 rfl rfl ?_
                  refine f_V_i (As := [.int x3, .int x2]) (st := []) cs_L_100 (fun v q => m_X11_covers x0 x3 x2 h54 q) rfl rfl dL_told_111 (rmk rfl) hf (fun v56 hf => ?_)
                  refine ab_aload_n 1 dL_told_114 rfl rfl ?_
                  refine ab_iload_n 3 dL_told_115 rfl rfl ?_
                  refine ab_iload_n 2 dL_told_116 rfl rfl ?_
                  refine f_S_i (As := [.ref x1, .int x3, .int x2]) (st := [.int v56]) cs_L_31 (fun v q => m_L_bits x1 x3 x2 h54 q) rfl rfl dL_told_117 (rmk rfl) hf (fun v57 hf => ?_)
                  refine ab_icmp_eq 125 dL_told_120 (by decide) hf (fun hf => ?_) (fun hf => ?_)
                  · refine ab_iconst dL_told_125 kic_0 ?_
                    refine ab_istore [some (.ref x0), some (.ref x1), some (.int x2), some (.int x3), some (.int v37), some (.int v39), some (.int 0), none, none] dL_told_126 (by decide) rfl rfl ?_
                    exact ab_msk [true, true, true, true, true, false, true, true, true] (w_L_told_B128 x0 x1 x2 x3 v37 (fun u3 hu => F_L_told_B2 x0 x1 x2 n u3 hu) (fun u3 hu hf => ih u3 hu hf) 200 0 h54 hf)
                  refine ab_iconst dL_told_123 kic_0 ?_
                  exact f_retzc2 rfl dL_told_124 rfl (Nat.le_refl 0) (Nat.le_refl 0) hf
                refine ab_iconst dL_told_123 kic_0 ?_
                exact f_retzc2 rfl dL_told_124 rfl (Nat.le_refl 0) (Nat.le_refl 0) hf
              refine ab_iconst dL_told_123 kic_0 ?_
              exact f_retzc2 rfl dL_told_124 rfl (Nat.le_refl 0) (Nat.le_refl 0) hf
            refine ab_iconst dL_told_123 kic_0 ?_
            exact f_retzc2 rfl dL_told_124 rfl (Nat.le_refl 0) (Nat.le_refl 0) hf
          refine ab_iconst dL_told_123 kic_0 ?_
          exact f_retzc2 rfl dL_told_124 rfl (Nat.le_refl 0) (Nat.le_refl 0) hf
        refine ab_iconst dL_told_123 kic_0 ?_
        exact f_retzc2 rfl dL_told_124 rfl (Nat.le_refl 0) (Nat.le_refl 0) hf
      refine ab_iconst dL_told_123 kic_0 ?_
      exact f_retzc2 rfl dL_told_124 rfl (Nat.le_refl 0) (Nat.le_refl 0) hf
    refine ab_iconst dL_told_243 kic_0 ?_
    refine ab_istore_n 3 [some (.ref x0), some (.ref x1), some (.int x2), some (.int 0), none, none, none, none, none] dL_told_244 rfl (by decide) rfl rfl ?_
    refine ab_iconst dL_told_245 kic_0 ?_
    refine ab_istore [some (.ref x0), some (.ref x1), some (.int x2), some (.int 0), some (.int 0), none, none, none, none] dL_told_246 (by decide) rfl rfl ?_
    refine ab_iconst dL_told_248 kic_0 ?_
    refine ab_istore [some (.ref x0), some (.ref x1), some (.int x2), some (.int 0), some (.int 0), some (.int 0), none, none, none] dL_told_249 (by decide) rfl rfl ?_
    exact ab_msk [true, true, false, true, true, true, true, true, true] (w_L_told_B251 x0 x1 200 0 0 0 h hf)
def F_L_told (a0 : Nat) (a1 : Nat) (a2 : Int32) (h : abH) : Option (Int32 × abH) :=
  F_L_told_B2 a0 a1 a2 200 0 h
theorem m_L_told {z0 : Int32} {hz : abH} (a0 : Nat) (a1 : Nat) (a2 : Int32) (h : abH) (hf : F_L_told a0 a1 a2 h = some (z0, hz)) : abM yL_told cL_told 9 (some .boolean) 8 0 0 [.ref a0, .ref a1, .int a2] h (some (.int z0)) hz := by
  refine abM_of (ini := false) [some (.ref a0), some (.ref a1), some (.int a2), none, none, none, none, none, none] (by decide +kernel) (fun q => by first | rfl | cases q) (Nat.le_of_ble_eq_true rfl) rfl ?_
  unfold F_L_told at hf
  refine ab_iconst dL_told_0 kic_0 ?_
  refine ab_istore_n 3 [some (.ref a0), some (.ref a1), some (.int a2), some (.int 0), none, none, none, none, none] dL_told_1 rfl (by decide) rfl rfl ?_
  exact ab_msk [true, true, true, true, true, true, true, true, true] (w_L_told_B2 a0 a1 a2 200 0 h hf)
def F_L_act_B350 (x0 : Nat) (x1 : Int32) (x2 : Nat) (x4 : Int32) (h : abH) : Option (Int32 × abH) :=
  dz 64 <|
  (ga 0 h x2 0).bind fun v5 =>
  dz (v5 - 1) <|
  (ga 0 h x2 0).bind fun v6 =>
  dz v6 <|
  nm (((x4 + 1) + ((x1 / 64) - (x1 / 64) / (v5 - 1) * (v5 - 1))) - ((x4 + 1) + ((x1 / 64) - (x1 / 64) / (v5 - 1) * (v5 - 1))) / v6 * v6) fun v7 =>
  (ga 0 h x2 3).bind fun v8 =>
  if v8 = 5 then
    (ko 11 h x0).bind fun _ => bd2 (F_X11_file x0 x4 v7 h) fun v19 h18 =>
    if v19 = (-104) then
      some (1, h18)
    else
      some (0, h18)
  else
    (ga 0 h x2 3).bind fun v9 =>
    (sa 0 h x2 (29 + v9) x4).bind fun h10 =>
    (ga 0 h10 x2 3).bind fun v11 =>
    (sa 0 h10 x2 (34 + v11) v7).bind fun h12 =>
    (ga 0 h12 x2 3).bind fun v13 =>
    (sa 0 h12 x2 3 (v13 + 1)).bind fun h14 =>
    (ko 11 h14 x0).bind fun _ => bd2 (F_X11_file x0 x4 v7 h14) fun v16 h15 =>
    (ga 0 h15 x2 3).bind fun v17 =>
    if v16 = v17 then
      some (1, h15)
    else
      some (0, h15)
theorem w_L_act_B350 {z0 : Int32} {hz : abH} (x0 : Nat) (x1 : Int32) (x2 : Nat) (x4 : Int32) (h : abH)   (hf : F_L_act_B350 x0 x1 x2 x4 h = some (z0, hz)) : abW cL_act 8 RL (some .boolean) false 4 0 0 none (some (.int z0), hz) 350 [some (.ref x0), some (.int x1), some (.ref x2), none, some (.int x4), none, none, none] [] h 0 0 := by
  unfold F_L_act_B350 at hf
  refine ab_iload dL_act_350 rfl ?_
  refine ab_iconst dL_act_352 kic_1 ?_
  refine ab_iadd dL_act_353 ?_
  refine ab_iload_n 1 dL_act_354 rfl rfl ?_
  refine ab_bipush dL_act_355 kbp_64 ?_
  refine f_idiv dL_act_357 hf (fun hf => ?_)
  refine ab_aload_n 2 dL_act_358 rfl rfl ?_
  refine ab_iconst dL_act_359 kic_0 ?_
  refine f_iald dL_act_360 hf (fun v5 hf => ?_)
  refine ab_iconst dL_act_361 kic_1 ?_
  refine ab_isub dL_act_362 ?_
  refine f_irem dL_act_363 hf (fun hf => ?_)
  refine ab_iadd dL_act_364 ?_
  refine ab_aload_n 2 dL_act_365 rfl rfl ?_
  refine ab_iconst dL_act_366 kic_0 ?_
  refine f_iald dL_act_367 hf (fun v6 hf => ?_)
  refine f_irem dL_act_368 hf (fun hf => ?_)
  refine ab_nmi hf (fun v7 hf => ?_)
  refine ab_istore [some (.ref x0), some (.int x1), some (.ref x2), none, some (.int x4), none, some (.int v7), none] dL_act_369 (by decide) rfl rfl ?_
  refine ab_aload_n 2 dL_act_371 rfl rfl ?_
  refine ab_iconst dL_act_372 kic_3 ?_
  refine f_iald dL_act_373 hf (fun v8 hf => ?_)
  refine ab_iconst dL_act_374 kic_5 ?_
  refine ab_icmp_ne 397 dL_act_375 (by decide) hf (fun hf => ?_) (fun hf => ?_)
  · refine ab_aload_n 0 dL_act_378 rfl rfl ?_
    refine ab_iload dL_act_379 rfl ?_
    refine ab_iload dL_act_381 rfl ?_
    refine f_V_i2 (As := [.int x4, .int v7]) (st := []) cs_L_55 (fun v hq q => m_X11_file x0 x4 v7 h q) rfl rfl dL_act_383 (rmk rfl) hf (fun v19 h18 hf => ?_)
    refine ab_bipush dL_act_386 kbp_m104 ?_
    refine ab_icmp_ne 395 dL_act_388 (by decide) hf (fun hf => ?_) (fun hf => ?_)
    · refine ab_iconst dL_act_391 kic_1 ?_
      refine ab_goto 396 dL_act_392 (by decide) ?_
      exact f_retzc2 rfl dL_act_396 rfl (Nat.le_refl 0) (Nat.le_refl 0) hf
    refine ab_iconst dL_act_395 kic_0 ?_
    exact f_retzc2 rfl dL_act_396 rfl (Nat.le_refl 0) (Nat.le_refl 0) hf
  refine ab_aload_n 2 dL_act_397 rfl rfl ?_
  refine ab_bipush dL_act_398 kbp_29 ?_
  refine ab_aload_n 2 dL_act_400 rfl rfl ?_
  refine ab_iconst dL_act_401 kic_3 ?_
  refine f_iald dL_act_402 hf (fun v9 hf => ?_)
  refine ab_iadd dL_act_403 ?_
  refine ab_iload dL_act_404 rfl ?_
  refine f_iast dL_act_406 hf (fun h10 hf => ?_)
  refine ab_aload_n 2 dL_act_407 rfl rfl ?_
  refine ab_bipush dL_act_408 kbp_34 ?_
  refine ab_aload_n 2 dL_act_410 rfl rfl ?_
  refine ab_iconst dL_act_411 kic_3 ?_
  refine f_iald dL_act_412 hf (fun v11 hf => ?_)
  refine ab_iadd dL_act_413 ?_
  refine ab_iload dL_act_414 rfl ?_
  refine f_iast dL_act_416 hf (fun h12 hf => ?_)
  refine ab_aload_n 2 dL_act_417 rfl rfl ?_
  refine ab_iconst dL_act_418 kic_3 ?_
  refine ab_dup2 dL_act_419 rfl rfl ?_
  refine f_iald dL_act_420 hf (fun v13 hf => ?_)
  refine ab_iconst dL_act_421 kic_1 ?_
  refine ab_iadd dL_act_422 ?_
  refine f_iast dL_act_423 hf (fun h14 hf => ?_)
  refine ab_aload_n 0 dL_act_424 rfl rfl ?_
  refine ab_iload dL_act_425 rfl ?_
  refine ab_iload dL_act_427 rfl ?_
  refine f_V_i2 (As := [.int x4, .int v7]) (st := []) cs_L_55 (fun v hq q => m_X11_file x0 x4 v7 h14 q) rfl rfl dL_act_429 (rmk rfl) hf (fun v16 h15 hf => ?_)
  refine ab_aload_n 2 dL_act_432 rfl rfl ?_
  refine ab_iconst dL_act_433 kic_3 ?_
  refine f_iald dL_act_434 hf (fun v17 hf => ?_)
  refine ab_icmp_ne 442 dL_act_435 (by decide) hf (fun hf => ?_) (fun hf => ?_)
  · refine ab_iconst dL_act_438 kic_1 ?_
    refine ab_goto 443 dL_act_439 (by decide) ?_
    exact f_retzc2 rfl dL_act_443 rfl (Nat.le_refl 0) (Nat.le_refl 0) hf
  refine ab_iconst dL_act_442 kic_0 ?_
  exact f_retzc2 rfl dL_act_443 rfl (Nat.le_refl 0) (Nat.le_refl 0) hf
def F_L_act_B127 (x0 : Nat) (x4 : Int32) (x6 : Int32) (h : abH) : Option (Int32 × abH) :=
  (ko 11 h x0).bind fun _ => bd2 (F_X11_step x0 x4 x6 h) fun v43 h42 =>
  if v43 = (-103) then
    some (1, h42)
  else
    some (0, h42)
theorem w_L_act_B127 {z0 : Int32} {hz : abH} (x0 : Nat) (x4 : Int32) (x6 : Int32) (h : abH)   (hf : F_L_act_B127 x0 x4 x6 h = some (z0, hz)) : abW cL_act 8 RL (some .boolean) false 4 0 0 none (some (.int z0), hz) 127 [some (.ref x0), none, none, none, some (.int x4), none, some (.int x6), none] [] h 0 0 := by
  unfold F_L_act_B127 at hf
  refine ab_aload_n 0 dL_act_127 rfl rfl ?_
  refine ab_iload dL_act_128 rfl ?_
  refine ab_iload dL_act_130 rfl ?_
  refine f_V_i2 (As := [.int x4, .int x6]) (st := []) cs_L_42 (fun v hq q => m_X11_step x0 x4 x6 h q) rfl rfl dL_act_132 (rmk rfl) hf (fun v43 h42 hf => ?_)
  refine ab_bipush dL_act_135 kbp_m103 ?_
  refine ab_icmp_ne 144 dL_act_137 (by decide) hf (fun hf => ?_) (fun hf => ?_)
  · refine ab_iconst dL_act_140 kic_1 ?_
    refine ab_goto 145 dL_act_141 (by decide) ?_
    exact f_retzc2 rfl dL_act_145 rfl (Nat.le_refl 0) (Nat.le_refl 0) hf
  refine ab_iconst dL_act_144 kic_0 ?_
  exact f_retzc2 rfl dL_act_145 rfl (Nat.le_refl 0) (Nat.le_refl 0) hf
def F_L_act_B102 (x0 : Nat) (x2 : Nat) (x4 : Int32) (x5 : Int32) (y0 : Int32) (h : abH) : Option (Int32 × abH) :=
  (ga 0 h x2 (x5 + 2)).bind fun v40 =>
  nm (v40 + y0) fun v41 =>
  if v41 < 0 then
    F_L_act_B127 x0 x4 y0 h
  else
    if v41 ≤ 9 then
      (sa 0 h x2 (x5 + 2) v41).bind fun h44 =>
      (ko 11 h44 x0).bind fun _ => bd2 (F_X11_step x0 x4 y0 h44) fun v46 h45 =>
      if v46 = v41 then
        some (1, h45)
      else
        some (0, h45)
    else
      F_L_act_B127 x0 x4 y0 h
theorem w_L_act_B102 {z0 : Int32} {hz : abH} (x0 : Nat) (x2 : Nat) (x4 : Int32) (x5 : Int32) (y0 : Int32) (h : abH)   (hf : F_L_act_B102 x0 x2 x4 x5 y0 h = some (z0, hz)) : abW cL_act 8 RL (some .boolean) false 4 0 0 none (some (.int z0), hz) 102 [some (.ref x0), none, some (.ref x2), none, some (.int x4), some (.int x5), none, none] [.int y0] h 0 0 := by
  unfold F_L_act_B102 at hf
  refine ab_istore [some (.ref x0), none, some (.ref x2), none, some (.int x4), some (.int x5), some (.int y0), none] dL_act_102 (by decide) rfl rfl ?_
  refine ab_aload_n 2 dL_act_104 rfl rfl ?_
  refine ab_iload dL_act_105 rfl ?_
  refine ab_iconst dL_act_107 kic_2 ?_
  refine ab_iadd dL_act_108 ?_
  refine f_iald dL_act_109 hf (fun v40 hf => ?_)
  refine ab_iload dL_act_110 rfl ?_
  refine ab_iadd dL_act_112 ?_
  refine ab_nmi hf (fun v41 hf => ?_)
  refine ab_istore [some (.ref x0), none, some (.ref x2), none, some (.int x4), some (.int x5), some (.int y0), some (.int v41)] dL_act_113 (by decide) rfl rfl ?_
  refine ab_iload dL_act_115 rfl ?_
  refine ab_if_lt 127 dL_act_117 (by decide) hf (fun hf => ?_) (fun hf => ?_)
  · exact ab_msk [true, true, false, true, true, false, true, false] (w_L_act_B127 x0 x4 y0 h hf)
  refine ab_iload dL_act_120 rfl ?_
  refine ab_bipush dL_act_122 kbp_9 ?_
  refine ab_icmp_le 146 dL_act_124 (by decide) hf (fun hf => ?_) (fun hf => ?_)
  · refine ab_aload_n 2 dL_act_146 rfl rfl ?_
    refine ab_iload dL_act_147 rfl ?_
    refine ab_iconst dL_act_149 kic_2 ?_
    refine ab_iadd dL_act_150 ?_
    refine ab_iload dL_act_151 rfl ?_
    refine f_iast dL_act_153 hf (fun h44 hf => ?_)
    refine ab_aload_n 0 dL_act_154 rfl rfl ?_
    refine ab_iload dL_act_155 rfl ?_
    refine ab_iload dL_act_157 rfl ?_
    refine f_V_i2 (As := [.int x4, .int y0]) (st := []) cs_L_42 (fun v hq q => m_X11_step x0 x4 y0 h44 q) rfl rfl dL_act_159 (rmk rfl) hf (fun v46 h45 hf => ?_)
    refine ab_iload dL_act_162 rfl ?_
    refine ab_icmp_ne 171 dL_act_164 (by decide) hf (fun hf => ?_) (fun hf => ?_)
    · refine ab_iconst dL_act_167 kic_1 ?_
      refine ab_goto 172 dL_act_168 (by decide) ?_
      exact f_retzc2 rfl dL_act_172 rfl (Nat.le_refl 0) (Nat.le_refl 0) hf
    refine ab_iconst dL_act_171 kic_0 ?_
    exact f_retzc2 rfl dL_act_172 rfl (Nat.le_refl 0) (Nat.le_refl 0) hf
  exact ab_msk [true, true, false, true, true, false, true, false] (w_L_act_B127 x0 x4 y0 h hf)
def F_L_act_B64 (x0 : Nat) (x2 : Nat) (y0 : Nat) (y1 : Int32) (y2 : Int32) (y3 : Int32) (h : abH) : Option (Int32 × abH) :=
  (sa 0 h y0 y1 (y2 + y3)).bind fun h52 =>
  (ko 11 h52 x0).bind fun _ => bd2 (F_X11_tick x0 h52) fun v54 h53 =>
  (ga 0 h53 x2 1).bind fun v55 =>
  if v54 = v55 then
    some (1, h53)
  else
    some (0, h53)
theorem w_L_act_B64 {z0 : Int32} {hz : abH} (x0 : Nat) (x2 : Nat) (y0 : Nat) (y1 : Int32) (y2 : Int32) (y3 : Int32) (h : abH)   (hf : F_L_act_B64 x0 x2 y0 y1 y2 y3 h = some (z0, hz)) : abW cL_act 8 RL (some .boolean) false 4 0 0 none (some (.int z0), hz) 64 [some (.ref x0), none, some (.ref x2), none, none, none, none, none] [.int y3, .int y2, .int y1, .ref y0] h 0 0 := by
  unfold F_L_act_B64 at hf
  refine ab_iadd dL_act_64 ?_
  refine f_iast dL_act_65 hf (fun h52 hf => ?_)
  refine ab_aload_n 0 dL_act_66 rfl rfl ?_
  refine f_V_i2 (As := []) (st := []) cs_L_39 (fun v hq q => m_X11_tick x0 h52 q) rfl rfl dL_act_67 (rmk rfl) hf (fun v54 h53 hf => ?_)
  refine ab_aload_n 2 dL_act_70 rfl rfl ?_
  refine ab_iconst dL_act_71 kic_1 ?_
  refine f_iald dL_act_72 hf (fun v55 hf => ?_)
  refine ab_icmp_ne 80 dL_act_73 (by decide) hf (fun hf => ?_) (fun hf => ?_)
  · refine ab_iconst dL_act_76 kic_1 ?_
    refine ab_goto 81 dL_act_77 (by decide) ?_
    exact f_retzc2 rfl dL_act_81 rfl (Nat.le_refl 0) (Nat.le_refl 0) hf
  refine ab_iconst dL_act_80 kic_0 ?_
  exact f_retzc2 rfl dL_act_81 rfl (Nat.le_refl 0) (Nat.le_refl 0) hf
def F_L_act_B48 (x0 : Nat) (x2 : Nat) (y0 : Nat) (y1 : Int32) (y2 : Int32) (h : abH) : Option (Int32 × abH) :=
  (sa 0 h y0 y1 y2).bind fun h49 =>
  (ga 0 h49 x2 2).bind fun v50 =>
  (ga 0 h49 x2 1).bind fun v51 =>
  if v51 = 0 then
    F_L_act_B64 x0 x2 x2 2 v50 1 h49
  else
    F_L_act_B64 x0 x2 x2 2 v50 0 h49
theorem w_L_act_B48 {z0 : Int32} {hz : abH} (x0 : Nat) (x2 : Nat) (y0 : Nat) (y1 : Int32) (y2 : Int32) (h : abH)   (hf : F_L_act_B48 x0 x2 y0 y1 y2 h = some (z0, hz)) : abW cL_act 8 RL (some .boolean) false 4 0 0 none (some (.int z0), hz) 48 [some (.ref x0), none, some (.ref x2), none, none, none, none, none] [.int y2, .int y1, .ref y0] h 0 0 := by
  unfold F_L_act_B48 at hf
  refine f_iast dL_act_48 hf (fun h49 hf => ?_)
  refine ab_aload_n 2 dL_act_49 rfl rfl ?_
  refine ab_iconst dL_act_50 kic_2 ?_
  refine ab_dup2 dL_act_51 rfl rfl ?_
  refine f_iald dL_act_52 hf (fun v50 hf => ?_)
  refine ab_aload_n 2 dL_act_53 rfl rfl ?_
  refine ab_iconst dL_act_54 kic_1 ?_
  refine f_iald dL_act_55 hf (fun v51 hf => ?_)
  refine ab_if_ne 63 dL_act_56 (by decide) hf (fun hf => ?_) (fun hf => ?_)
  · refine ab_iconst dL_act_59 kic_1 ?_
    refine ab_goto 64 dL_act_60 (by decide) ?_
    exact ab_msk [true, true, true, true, true, true, true, true] (w_L_act_B64 x0 x2 x2 2 v50 1 h49 hf)
  refine ab_iconst dL_act_63 kic_0 ?_
  exact ab_msk [true, true, true, true, true, true, true, true] (w_L_act_B64 x0 x2 x2 2 v50 0 h49 hf)
def F_L_act (a0 : Nat) (a1 : Int32) (a2 : Nat) (h : abH) : Option (Int32 × abH) :=
  dz 16 <|
  nm (a1 - a1 / 16 * 16) fun v1 =>
  dz 16 <|
  (ga 0 h a2 0).bind fun v2 =>
  dz v2 <|
  nm ((a1 / 16) - (a1 / 16) / v2 * v2) fun v3 =>
  nm (14 + (3 * v3)) fun v4 =>
  if v1 < 5 then
    (ga 0 h a2 1).bind fun v47 =>
    if v47 = 12 then
      F_L_act_B48 a0 a2 a2 1 0 h
    else
      (ga 0 h a2 1).bind fun v48 =>
      F_L_act_B48 a0 a2 a2 1 (v48 + 1) h
  else
    if v1 < 8 then
      dz 64 <|
      dz 2 <|
      if ((a1 / 64) - (a1 / 64) / 2 * 2) = 0 then
        F_L_act_B102 a0 a2 v3 v4 (-1) h
      else
        F_L_act_B102 a0 a2 v3 v4 1 h
    else
      if v1 < 10 then
        (ga 0 h a2 (v4 + 2)).bind fun v35 =>
        dz 64 <|
        dz 10 <|
        (sa 0 h a2 (v4 + 2) ((a1 / 64) - (a1 / 64) / 10 * 10)).bind fun h36 =>
        (ga 0 h36 a2 (v4 + 2)).bind fun v37 =>
        (ko 11 h36 a0).bind fun _ => bd2 (F_X11_stand a0 v3 v37 h36) fun v39 h38 =>
        if v39 = v35 then
          some (1, h38)
        else
          some (0, h38)
      else
        if v1 < 12 then
          (ga 0 h a2 (v4 + 1)).bind fun v30 =>
          dz 64 <|
          dz 9 <|
          (sa 0 h a2 (v4 + 1) (1 + ((a1 / 64) - (a1 / 64) / 9 * 9))).bind fun h31 =>
          (ga 0 h31 a2 (v4 + 1)).bind fun v32 =>
          (ko 11 h31 a0).bind fun _ => bd2 (F_X11_rise a0 v3 v32 h31) fun v34 h33 =>
          if v34 = v30 then
            some (1, h33)
          else
            some (0, h33)
        else
          if v1 < 13 then
            dz 64 <|
            dz 10 <|
            nm ((a1 / 64) - (a1 / 64) / 10 * 10) fun v24 =>
            (ga 0 h a2 (4 + v24)).bind fun v25 =>
            dz 1024 <|
            dz 10 <|
            (sa 0 h a2 (4 + v24) ((a1 / 1024) - (a1 / 1024) / 10 * 10)).bind fun h26 =>
            (ga 0 h26 a2 (4 + v24)).bind fun v27 =>
            (ko 11 h26 a0).bind fun _ => bd2 (F_X11_lay a0 v24 v27 h26) fun v29 h28 =>
            if v29 = v25 then
              some (1, h28)
            else
              some (0, h28)
          else
            if v1 < 15 then
              F_L_act_B350 a0 a1 a2 v3 h
            else
              dz 64 <|
              dz 3 <|
              if ((a1 / 64) - (a1 / 64) / 3 * 3) ≤ 0 then
                (ga 0 h a2 3).bind fun v20 =>
                (sa 0 h a2 3 0).bind fun h21 =>
                (ko 11 h21 a0).bind fun _ => bd2 (F_X11_settle a0 h21) fun v23 h22 =>
                if v23 = v20 then
                  some (1, h22)
                else
                  some (0, h22)
              else
                F_L_act_B350 a0 a1 a2 v3 h
theorem m_L_act {z0 : Int32} {hz : abH} (a0 : Nat) (a1 : Int32) (a2 : Nat) (h : abH) (hf : F_L_act a0 a1 a2 h = some (z0, hz)) : abM yL_act cL_act 8 (some .boolean) 4 0 0 [.ref a0, .int a1, .ref a2] h (some (.int z0)) hz := by
  refine abM_of (ini := false) [some (.ref a0), some (.int a1), some (.ref a2), none, none, none, none, none] (by decide +kernel) (fun q => by first | rfl | cases q) (Nat.le_of_ble_eq_true rfl) rfl ?_
  unfold F_L_act at hf
  refine ab_iload_n 1 dL_act_0 rfl rfl ?_
  refine ab_bipush dL_act_1 kbp_16 ?_
  refine f_irem dL_act_3 hf (fun hf => ?_)
  refine ab_nmi hf (fun v1 hf => ?_)
  refine ab_istore_n 3 [some (.ref a0), some (.int a1), some (.ref a2), some (.int v1), none, none, none, none] dL_act_4 rfl (by decide) rfl rfl ?_
  refine ab_iload_n 1 dL_act_5 rfl rfl ?_
  refine ab_bipush dL_act_6 kbp_16 ?_
  refine f_idiv dL_act_8 hf (fun hf => ?_)
  refine ab_aload_n 2 dL_act_9 rfl rfl ?_
  refine ab_iconst dL_act_10 kic_0 ?_
  refine f_iald dL_act_11 hf (fun v2 hf => ?_)
  refine f_irem dL_act_12 hf (fun hf => ?_)
  refine ab_nmi hf (fun v3 hf => ?_)
  refine ab_istore [some (.ref a0), some (.int a1), some (.ref a2), some (.int v1), some (.int v3), none, none, none] dL_act_13 (by decide) rfl rfl ?_
  refine ab_bipush dL_act_15 kbp_14 ?_
  refine ab_iconst dL_act_17 kic_3 ?_
  refine ab_iload dL_act_18 rfl ?_
  refine ab_imul dL_act_20 ?_
  refine ab_iadd dL_act_21 ?_
  refine ab_nmi hf (fun v4 hf => ?_)
  refine ab_istore [some (.ref a0), some (.int a1), some (.ref a2), some (.int v1), some (.int v3), some (.int v4), none, none] dL_act_22 (by decide) rfl rfl ?_
  refine ab_iload_n 3 dL_act_24 rfl rfl ?_
  refine ab_iconst dL_act_25 kic_5 ?_
  refine ab_icmp_ge 82 dL_act_26 (by decide) hf (fun hf => ?_) (fun hf => ?_)
  · refine ab_aload_n 2 dL_act_29 rfl rfl ?_
    refine ab_iconst dL_act_30 kic_1 ?_
    refine ab_aload_n 2 dL_act_31 rfl rfl ?_
    refine ab_iconst dL_act_32 kic_1 ?_
    refine f_iald dL_act_33 hf (fun v47 hf => ?_)
    refine ab_bipush dL_act_34 kbp_12 ?_
    refine ab_icmp_ne 43 dL_act_36 (by decide) hf (fun hf => ?_) (fun hf => ?_)
    · refine ab_iconst dL_act_39 kic_0 ?_
      refine ab_goto 48 dL_act_40 (by decide) ?_
      exact ab_msk [true, false, true, false, false, false, true, true] (w_L_act_B48 a0 a2 a2 1 0 h hf)
    refine ab_aload_n 2 dL_act_43 rfl rfl ?_
    refine ab_iconst dL_act_44 kic_1 ?_
    refine f_iald dL_act_45 hf (fun v48 hf => ?_)
    refine ab_iconst dL_act_46 kic_1 ?_
    refine ab_iadd dL_act_47 ?_
    exact ab_msk [true, false, true, false, false, false, true, true] (w_L_act_B48 a0 a2 a2 1 (v48 + 1) h hf)
  refine ab_iload_n 3 dL_act_82 rfl rfl ?_
  refine ab_bipush dL_act_83 kbp_8 ?_
  refine ab_icmp_ge 173 dL_act_85 (by decide) hf (fun hf => ?_) (fun hf => ?_)
  · refine ab_iload_n 1 dL_act_88 rfl rfl ?_
    refine ab_bipush dL_act_89 kbp_64 ?_
    refine f_idiv dL_act_91 hf (fun hf => ?_)
    refine ab_iconst dL_act_92 kic_2 ?_
    refine f_irem dL_act_93 hf (fun hf => ?_)
    refine ab_if_ne 101 dL_act_94 (by decide) hf (fun hf => ?_) (fun hf => ?_)
    · refine ab_iconst dL_act_97 kic_m1 ?_
      refine ab_goto 102 dL_act_98 (by decide) ?_
      exact ab_msk [true, false, true, false, true, true, true, true] (w_L_act_B102 a0 a2 v3 v4 (-1) h hf)
    refine ab_iconst dL_act_101 kic_1 ?_
    exact ab_msk [true, false, true, false, true, true, true, true] (w_L_act_B102 a0 a2 v3 v4 1 h hf)
  refine ab_iload_n 3 dL_act_173 rfl rfl ?_
  refine ab_bipush dL_act_174 kbp_10 ?_
  refine ab_icmp_ge 223 dL_act_176 (by decide) hf (fun hf => ?_) (fun hf => ?_)
  · refine ab_aload_n 2 dL_act_179 rfl rfl ?_
    refine ab_iload dL_act_180 rfl ?_
    refine ab_iconst dL_act_182 kic_2 ?_
    refine ab_iadd dL_act_183 ?_
    refine f_iald dL_act_184 hf (fun v35 hf => ?_)
    refine ab_istore [some (.ref a0), some (.int a1), some (.ref a2), some (.int v1), some (.int v3), some (.int v4), some (.int v35), none] dL_act_185 (by decide) rfl rfl ?_
    refine ab_aload_n 2 dL_act_187 rfl rfl ?_
    refine ab_iload dL_act_188 rfl ?_
    refine ab_iconst dL_act_190 kic_2 ?_
    refine ab_iadd dL_act_191 ?_
    refine ab_iload_n 1 dL_act_192 rfl rfl ?_
    refine ab_bipush dL_act_193 kbp_64 ?_
    refine f_idiv dL_act_195 hf (fun hf => ?_)
    refine ab_bipush dL_act_196 kbp_10 ?_
    refine f_irem dL_act_198 hf (fun hf => ?_)
    refine f_iast dL_act_199 hf (fun h36 hf => ?_)
    refine ab_aload_n 0 dL_act_200 rfl rfl ?_
    refine ab_iload dL_act_201 rfl ?_
    refine ab_aload_n 2 dL_act_203 rfl rfl ?_
    refine ab_iload dL_act_204 rfl ?_
    refine ab_iconst dL_act_206 kic_2 ?_
    refine ab_iadd dL_act_207 ?_
    refine f_iald dL_act_208 hf (fun v37 hf => ?_)
    refine f_V_i2 (As := [.int v3, .int v37]) (st := []) cs_L_46 (fun v hq q => m_X11_stand a0 v3 v37 h36 q) rfl rfl dL_act_209 (rmk rfl) hf (fun v39 h38 hf => ?_)
    refine ab_iload dL_act_212 rfl ?_
    refine ab_icmp_ne 221 dL_act_214 (by decide) hf (fun hf => ?_) (fun hf => ?_)
    · refine ab_iconst dL_act_217 kic_1 ?_
      refine ab_goto 222 dL_act_218 (by decide) ?_
      exact f_retzc2 rfl dL_act_222 rfl (Nat.le_refl 0) (Nat.le_refl 0) hf
    refine ab_iconst dL_act_221 kic_0 ?_
    exact f_retzc2 rfl dL_act_222 rfl (Nat.le_refl 0) (Nat.le_refl 0) hf
  refine ab_iload_n 3 dL_act_223 rfl rfl ?_
  refine ab_bipush dL_act_224 kbp_12 ?_
  refine ab_icmp_ge 275 dL_act_226 (by decide) hf (fun hf => ?_) (fun hf => ?_)
  · refine ab_aload_n 2 dL_act_229 rfl rfl ?_
    refine ab_iload dL_act_230 rfl ?_
    refine ab_iconst dL_act_232 kic_1 ?_
    refine ab_iadd dL_act_233 ?_
    refine f_iald dL_act_234 hf (fun v30 hf => ?_)
    refine ab_istore [some (.ref a0), some (.int a1), some (.ref a2), some (.int v1), some (.int v3), some (.int v4), some (.int v30), none] dL_act_235 (by decide) rfl rfl ?_
    refine ab_aload_n 2 dL_act_237 rfl rfl ?_
    refine ab_iload dL_act_238 rfl ?_
    refine ab_iconst dL_act_240 kic_1 ?_
    refine ab_iadd dL_act_241 ?_
    refine ab_iconst dL_act_242 kic_1 ?_
    refine ab_iload_n 1 dL_act_243 rfl rfl ?_
    refine ab_bipush dL_act_244 kbp_64 ?_
    refine f_idiv dL_act_246 hf (fun hf => ?_)
    refine ab_bipush dL_act_247 kbp_9 ?_
    refine f_irem dL_act_249 hf (fun hf => ?_)
    refine ab_iadd dL_act_250 ?_
    refine f_iast dL_act_251 hf (fun h31 hf => ?_)
    refine ab_aload_n 0 dL_act_252 rfl rfl ?_
    refine ab_iload dL_act_253 rfl ?_
    refine ab_aload_n 2 dL_act_255 rfl rfl ?_
    refine ab_iload dL_act_256 rfl ?_
    refine ab_iconst dL_act_258 kic_1 ?_
    refine ab_iadd dL_act_259 ?_
    refine f_iald dL_act_260 hf (fun v32 hf => ?_)
    refine f_V_i2 (As := [.int v3, .int v32]) (st := []) cs_L_49 (fun v hq q => m_X11_rise a0 v3 v32 h31 q) rfl rfl dL_act_261 (rmk rfl) hf (fun v34 h33 hf => ?_)
    refine ab_iload dL_act_264 rfl ?_
    refine ab_icmp_ne 273 dL_act_266 (by decide) hf (fun hf => ?_) (fun hf => ?_)
    · refine ab_iconst dL_act_269 kic_1 ?_
      refine ab_goto 274 dL_act_270 (by decide) ?_
      exact f_retzc2 rfl dL_act_274 rfl (Nat.le_refl 0) (Nat.le_refl 0) hf
    refine ab_iconst dL_act_273 kic_0 ?_
    exact f_retzc2 rfl dL_act_274 rfl (Nat.le_refl 0) (Nat.le_refl 0) hf
  refine ab_iload_n 3 dL_act_275 rfl rfl ?_
  refine ab_bipush dL_act_276 kbp_13 ?_
  refine ab_icmp_ge 335 dL_act_278 (by decide) hf (fun hf => ?_) (fun hf => ?_)
  · refine ab_iload_n 1 dL_act_281 rfl rfl ?_
    refine ab_bipush dL_act_282 kbp_64 ?_
    refine f_idiv dL_act_284 hf (fun hf => ?_)
    refine ab_bipush dL_act_285 kbp_10 ?_
    refine f_irem dL_act_287 hf (fun hf => ?_)
    refine ab_nmi hf (fun v24 hf => ?_)
    refine ab_istore [some (.ref a0), some (.int a1), some (.ref a2), some (.int v1), some (.int v3), some (.int v4), some (.int v24), none] dL_act_288 (by decide) rfl rfl ?_
    refine ab_aload_n 2 dL_act_290 rfl rfl ?_
    refine ab_iconst dL_act_291 kic_4 ?_
    refine ab_iload dL_act_292 rfl ?_
    refine ab_iadd dL_act_294 ?_
    refine f_iald dL_act_295 hf (fun v25 hf => ?_)
    refine ab_istore [some (.ref a0), some (.int a1), some (.ref a2), some (.int v1), some (.int v3), some (.int v4), some (.int v24), some (.int v25)] dL_act_296 (by decide) rfl rfl ?_
    refine ab_aload_n 2 dL_act_298 rfl rfl ?_
    refine ab_iconst dL_act_299 kic_4 ?_
    refine ab_iload dL_act_300 rfl ?_
    refine ab_iadd dL_act_302 ?_
    refine ab_iload_n 1 dL_act_303 rfl rfl ?_
    refine ab_sipush dL_act_304 ksp_1024 ?_
    refine f_idiv dL_act_307 hf (fun hf => ?_)
    refine ab_bipush dL_act_308 kbp_10 ?_
    refine f_irem dL_act_310 hf (fun hf => ?_)
    refine f_iast dL_act_311 hf (fun h26 hf => ?_)
    refine ab_aload_n 0 dL_act_312 rfl rfl ?_
    refine ab_iload dL_act_313 rfl ?_
    refine ab_aload_n 2 dL_act_315 rfl rfl ?_
    refine ab_iconst dL_act_316 kic_4 ?_
    refine ab_iload dL_act_317 rfl ?_
    refine ab_iadd dL_act_319 ?_
    refine f_iald dL_act_320 hf (fun v27 hf => ?_)
    refine f_V_i2 (As := [.int v24, .int v27]) (st := []) cs_L_52 (fun v hq q => m_X11_lay a0 v24 v27 h26 q) rfl rfl dL_act_321 (rmk rfl) hf (fun v29 h28 hf => ?_)
    refine ab_iload dL_act_324 rfl ?_
    refine ab_icmp_ne 333 dL_act_326 (by decide) hf (fun hf => ?_) (fun hf => ?_)
    · refine ab_iconst dL_act_329 kic_1 ?_
      refine ab_goto 334 dL_act_330 (by decide) ?_
      exact f_retzc2 rfl dL_act_334 rfl (Nat.le_refl 0) (Nat.le_refl 0) hf
    refine ab_iconst dL_act_333 kic_0 ?_
    exact f_retzc2 rfl dL_act_334 rfl (Nat.le_refl 0) (Nat.le_refl 0) hf
  refine ab_iload_n 3 dL_act_335 rfl rfl ?_
  refine ab_bipush dL_act_336 kbp_15 ?_
  refine ab_icmp_lt 350 dL_act_338 (by decide) hf (fun hf => ?_) (fun hf => ?_)
  · exact ab_msk [true, true, true, false, true, false, true, true] (w_L_act_B350 a0 a1 a2 v3 h hf)
  refine ab_iload_n 1 dL_act_341 rfl rfl ?_
  refine ab_bipush dL_act_342 kbp_64 ?_
  refine f_idiv dL_act_344 hf (fun hf => ?_)
  refine ab_iconst dL_act_345 kic_3 ?_
  refine f_irem dL_act_346 hf (fun hf => ?_)
  refine ab_if_le 444 dL_act_347 (by decide) hf (fun hf => ?_) (fun hf => ?_)
  · refine ab_aload_n 2 dL_act_444 rfl rfl ?_
    refine ab_iconst dL_act_445 kic_3 ?_
    refine f_iald dL_act_446 hf (fun v20 hf => ?_)
    refine ab_istore [some (.ref a0), some (.int a1), some (.ref a2), some (.int v1), some (.int v3), some (.int v4), some (.int v20), none] dL_act_447 (by decide) rfl rfl ?_
    refine ab_aload_n 2 dL_act_449 rfl rfl ?_
    refine ab_iconst dL_act_450 kic_3 ?_
    refine ab_iconst dL_act_451 kic_0 ?_
    refine f_iast dL_act_452 hf (fun h21 hf => ?_)
    refine ab_aload_n 0 dL_act_453 rfl rfl ?_
    refine f_V_i2 (As := []) (st := []) cs_L_58 (fun v hq q => m_X11_settle a0 h21 q) rfl rfl dL_act_454 (rmk rfl) hf (fun v23 h22 hf => ?_)
    refine ab_iload dL_act_457 rfl ?_
    refine ab_icmp_ne 466 dL_act_459 (by decide) hf (fun hf => ?_) (fun hf => ?_)
    · refine ab_iconst dL_act_462 kic_1 ?_
      refine ab_goto 467 dL_act_463 (by decide) ?_
      exact f_retzc2 rfl dL_act_467 rfl (Nat.le_refl 0) (Nat.le_refl 0) hf
    refine ab_iconst dL_act_466 kic_0 ?_
    exact f_retzc2 rfl dL_act_467 rfl (Nat.le_refl 0) (Nat.le_refl 0) hf
  exact ab_msk [true, true, true, false, true, false, true, true] (w_L_act_B350 a0 a1 a2 v3 h hf)
def F_L_law_B293 (L : Nat) (xs : Nat → Int32) (x1 : Nat) (x2 : Nat) (x3 : Int32) (x4 : Int32) (x5 : Int32) (x7 : Int32) (x8 : Int32) (x9 : Int64) (x12 : Int32) (x13 : Int32) (x14 : Int32) (x15 : Int32) (x16 : Int32) (y0 : Int32) (y1 : Int32) (h : abH) (k15 : Int32 → abH → Option (Int32 × abH)) (k70 : Int32 → abH → Option (Int32 × abH)) (k170 : Int64 → Int32 → Int32 → Int32 → abH → Option (Int32 × abH)) : Option (Int32 × abH) :=
  nm (y0 + y1) fun v84 =>
  if x14 = x15 then
    nm (x12 + 0) fun v85 =>
    k170 x9 v84 v85 (x13 + 1) h
  else
    if x16 = 0 then
      nm (x12 + 1) fun v87 =>
      k170 x9 v84 v87 (x13 + 1) h
    else
      nm (x12 + 0) fun v86 =>
      k170 x9 v84 v86 (x13 + 1) h
set_option maxRecDepth 100000 in
theorem w_L_law_B293 {z0 : Int32} {hz : abH} (M : Nat) (L : Nat) (xs : Nat → Int32) (x1 : Nat) (x2 : Nat) (x3 : Int32) (x4 : Int32) (x5 : Int32) (x7 : Int32) (x8 : Int32) (x9 : Int64) (x12 : Int32) (x13 : Int32) (x14 : Int32) (x15 : Int32) (x16 : Int32) (y0 : Int32) (y1 : Int32) (h : abH) (k15 : Int32 → abH → Option (Int32 × abH)) (k70 : Int32 → abH → Option (Int32 × abH)) (k170 : Int64 → Int32 → Int32 → Int32 → abH → Option (Int32 × abH)) (hk15 : ∀ (w3 : Int32) (hw : abH) (nw nsw : Nat), nw ≤ M + 6 → nsw ≤ 2 * nw + 1000 → k15 w3 hw = some (z0, hz) → abW cL_law 17 RL (some .boolean) false 13 771906 6786530 (some (L, xs)) (some (.int z0), hz) 15 [some (.ref 0), some (.ref x1), some (.ref x2), some (.int w3), none, none, none, none, none, none, none, none, none, none, none, none, none] [] hw nw nsw) (hk70 : ∀ (w5 : Int32) (hw : abH) (nw nsw : Nat), nw ≤ M + 6 → nsw ≤ 2 * nw + 1000 → k70 w5 hw = some (z0, hz) → abW cL_law 17 RL (some .boolean) false 13 771906 6786530 (some (L, xs)) (some (.int z0), hz) 70 [some (.ref 0), some (.ref x1), some (.ref x2), some (.int x3), some (.int x4), some (.int w5), none, none, none, none, none, none, none, none, none, none, none] [] hw nw nsw) (hk170 : ∀ (w9 : Int64) (w11 : Int32) (w12 : Int32) (w13 : Int32) (hw : abH) (nw nsw : Nat), nw ≤ M + 6 → nsw ≤ 2 * nw + 1000 → k170 w9 w11 w12 w13 hw = some (z0, hz) → abW cL_law 17 RL (some .boolean) false 13 771906 6786530 (some (L, xs)) (some (.int z0), hz) 170 [some (.ref 0), some (.ref x1), some (.ref x2), some (.int x3), some (.int x4), some (.int x5), none, some (.int x7), some (.int x8), some (.long w9), none, some (.int w11), some (.int w12), some (.int w13), none, none, none] [] hw nw nsw) {nc ns : Nat} (hM : M + 12 ≤ 771906) (hnc : nc ≤ M + 6) (hns : ns ≤ 2 * nc + 1000) (hf : F_L_law_B293 L xs x1 x2 x3 x4 x5 x7 x8 x9 x12 x13 x14 x15 x16 y0 y1 h k15 k70 k170 = some (z0, hz)) : abW cL_law 17 RL (some .boolean) false 13 771906 6786530 (some (L, xs)) (some (.int z0), hz) 293 [some (.ref 0), some (.ref x1), some (.ref x2), some (.int x3), some (.int x4), some (.int x5), none, some (.int x7), some (.int x8), some (.long x9), none, none, some (.int x12), some (.int x13), some (.int x14), some (.int x15), some (.int x16)] [.int y1, .int y0] h nc ns := by
  unfold F_L_law_B293 at hf
  refine ab_iadd dL_law_293 ?_
  refine ab_nmi hf (fun v84 hf => ?_)
  refine ab_istore [some (.ref 0), some (.ref x1), some (.ref x2), some (.int x3), some (.int x4), some (.int x5), none, some (.int x7), some (.int x8), some (.long x9), none, some (.int v84), some (.int x12), some (.int x13), some (.int x14), some (.int x15), some (.int x16)] dL_law_294 (by decide) rfl rfl ?_
  refine ab_iload dL_law_296 rfl ?_
  refine ab_iload dL_law_298 rfl ?_
  refine ab_iload dL_law_300 rfl ?_
  refine ab_icmp_eq 314 dL_law_302 (by decide) hf (fun hf => ?_) (fun hf => ?_)
  · refine ab_iconst dL_law_314 kic_0 ?_
    refine ab_iadd dL_law_315 ?_
    refine ab_nmi hf (fun v85 hf => ?_)
    refine ab_istore [some (.ref 0), some (.ref x1), some (.ref x2), some (.int x3), some (.int x4), some (.int x5), none, some (.int x7), some (.int x8), some (.long x9), none, some (.int v84), some (.int v85), some (.int x13), some (.int x14), some (.int x15), some (.int x16)] dL_law_316 (by decide) rfl rfl ?_
    refine ab_iinc (v := x13 + 1) [some (.ref 0), some (.ref x1), some (.ref x2), some (.int x3), some (.int x4), some (.int x5), none, some (.int x7), some (.int x8), some (.long x9), none, some (.int v84), some (.int v85), some (.int (x13 + 1)), some (.int x14), some (.int x15), some (.int x16)] dL_law_318 rfl (kinc_1 _) (by decide) rfl rfl ?_
    refine ab_goto 170 dL_law_321 (by decide) ?_
    exact ab_msk [true, true, true, true, true, true, true, true, true, true, true, true, true, true, false, false, false] (hk170 x9 v84 v85 (x13 + 1) h _ _ (by omega) (by omega) hf)
  refine ab_iload dL_law_305 rfl ?_
  refine ab_if_ne 314 dL_law_307 (by decide) hf (fun hf => ?_) (fun hf => ?_)
  · refine ab_iconst dL_law_310 kic_1 ?_
    refine ab_goto 315 dL_law_311 (by decide) ?_
    refine ab_iadd dL_law_315 ?_
    refine ab_nmi hf (fun v87 hf => ?_)
    refine ab_istore [some (.ref 0), some (.ref x1), some (.ref x2), some (.int x3), some (.int x4), some (.int x5), none, some (.int x7), some (.int x8), some (.long x9), none, some (.int v84), some (.int v87), some (.int x13), some (.int x14), some (.int x15), some (.int x16)] dL_law_316 (by decide) rfl rfl ?_
    refine ab_iinc (v := x13 + 1) [some (.ref 0), some (.ref x1), some (.ref x2), some (.int x3), some (.int x4), some (.int x5), none, some (.int x7), some (.int x8), some (.long x9), none, some (.int v84), some (.int v87), some (.int (x13 + 1)), some (.int x14), some (.int x15), some (.int x16)] dL_law_318 rfl (kinc_1 _) (by decide) rfl rfl ?_
    refine ab_goto 170 dL_law_321 (by decide) ?_
    exact ab_msk [true, true, true, true, true, true, true, true, true, true, true, true, true, true, false, false, false] (hk170 x9 v84 v87 (x13 + 1) h _ _ (by omega) (by omega) hf)
  refine ab_iconst dL_law_314 kic_0 ?_
  refine ab_iadd dL_law_315 ?_
  refine ab_nmi hf (fun v86 hf => ?_)
  refine ab_istore [some (.ref 0), some (.ref x1), some (.ref x2), some (.int x3), some (.int x4), some (.int x5), none, some (.int x7), some (.int x8), some (.long x9), none, some (.int v84), some (.int v86), some (.int x13), some (.int x14), some (.int x15), some (.int x16)] dL_law_316 (by decide) rfl rfl ?_
  refine ab_iinc (v := x13 + 1) [some (.ref 0), some (.ref x1), some (.ref x2), some (.int x3), some (.int x4), some (.int x5), none, some (.int x7), some (.int x8), some (.long x9), none, some (.int v84), some (.int v86), some (.int (x13 + 1)), some (.int x14), some (.int x15), some (.int x16)] dL_law_318 rfl (kinc_1 _) (by decide) rfl rfl ?_
  refine ab_goto 170 dL_law_321 (by decide) ?_
  exact ab_msk [true, true, true, true, true, true, true, true, true, true, true, true, true, true, false, false, false] (hk170 x9 v84 v86 (x13 + 1) h _ _ (by omega) (by omega) hf)
def F_L_law_B170 (L : Nat) (xs : Nat → Int32) (x1 : Nat) (x2 : Nat) (x3 : Int32) (x4 : Int32) (x5 : Int32) (x7 : Int32) (x8 : Int32) (k15 : Int32 → abH → Option (Int32 × abH)) (k70 : Int32 → abH → Option (Int32 × abH)) : Nat → Int64 → Int32 → Int32 → Int32 → abH → Option (Int32 × abH)
  | 0, _, _, _, _, _ => none
  | n + 1, x9, x11, x12, x13, h =>
    if x13 < x7 then
      dzl 2147483648 <|
      nm (((1103515245 * x9) + 12345) - ((1103515245 * x9) + 12345) / 2147483648 * 2147483648) fun v76 =>
      dzl 65536 <|
      (ga 0 h x2 0).bind fun v77 =>
      dzl v77.toInt64 <|
      nm (((v76 / 65536) - (v76 / 65536) / v77.toInt64 * v77.toInt64).toInt32) fun v78 =>
      dzl 2147483648 <|
      nm (((1103515245 * v76) + 12345) - ((1103515245 * v76) + 12345) / 2147483648 * 2147483648) fun v79 =>
      dzl 65536 <|
      (ga 0 h x2 0).bind fun v80 =>
      dzl v80.toInt64 <|
      nm (((v79 / 65536) - (v79 / 65536) / v80.toInt64 * v80.toInt64).toInt32) fun v81 =>
      dzl 2147483648 <|
      nm (((1103515245 * v79) + 12345) - ((1103515245 * v79) + 12345) / 2147483648 * 2147483648) fun v82 =>
      dzl 65536 <|
      dzl 13 <|
      (F_L_find x2 v78 v81 (((v82 / 65536) - (v82 / 65536) / 13 * 13).toInt32) h).bind fun v83 =>
      if v78 = v81 then
        F_L_law_B293 L xs x1 x2 x3 x4 x5 x7 x8 v82 x12 x13 v78 v81 v83 x11 0 h k15 k70 (fun u9 u11 u12 u13 hu => F_L_law_B170 L xs x1 x2 x3 x4 x5 x7 x8 k15 k70 n u9 u11 u12 u13 hu)
      else
        if v83 ≤ 0 then
          F_L_law_B293 L xs x1 x2 x3 x4 x5 x7 x8 v82 x12 x13 v78 v81 v83 x11 0 h k15 k70 (fun u9 u11 u12 u13 hu => F_L_law_B170 L xs x1 x2 x3 x4 x5 x7 x8 k15 k70 n u9 u11 u12 u13 hu)
        else
          F_L_law_B293 L xs x1 x2 x3 x4 x5 x7 x8 v82 x12 x13 v78 v81 v83 x11 1 h k15 k70 (fun u9 u11 u12 u13 hu => F_L_law_B170 L xs x1 x2 x3 x4 x5 x7 x8 k15 k70 n u9 u11 u12 u13 hu)
    else
      (ko 11 h x1).bind fun _ => bd2 (F_X11_terms x1 x7 x8 0 h) fun v71 h70 =>
      if v71 = x11 then
        (ko 11 h70 x1).bind fun _ => bd2 (F_X11_terms x1 x7 x8 1 h70) fun v73 h72 =>
        if v73 = x12 then
          (ko 11 h72 x1).bind fun _ => bd2 (F_X11_terms x1 x7 x8 2 h72) fun v75 h74 =>
          if (lg_cmp v75.toInt64 x9) = 0 then
            k70 (x5 + 1) h74
          else
            some (0, h74)
        else
          some (0, h72)
      else
        some (0, h70)
set_option maxRecDepth 100000 in
theorem w_L_law_B170 {z0 : Int32} {hz : abH} (M : Nat) (hM : M + 12 ≤ 771906) (L : Nat) (xs : Nat → Int32) (x1 : Nat) (x2 : Nat) (x3 : Int32) (x4 : Int32) (x5 : Int32) (x7 : Int32) (x8 : Int32) (k15 : Int32 → abH → Option (Int32 × abH)) (k70 : Int32 → abH → Option (Int32 × abH)) (hk15 : ∀ (w3 : Int32) (hw : abH) (nw nsw : Nat), nw ≤ M + 6 → nsw ≤ 2 * nw + 1000 → k15 w3 hw = some (z0, hz) → abW cL_law 17 RL (some .boolean) false 13 771906 6786530 (some (L, xs)) (some (.int z0), hz) 15 [some (.ref 0), some (.ref x1), some (.ref x2), some (.int w3), none, none, none, none, none, none, none, none, none, none, none, none, none] [] hw nw nsw) (hk70 : ∀ (w5 : Int32) (hw : abH) (nw nsw : Nat), nw ≤ M + 6 → nsw ≤ 2 * nw + 1000 → k70 w5 hw = some (z0, hz) → abW cL_law 17 RL (some .boolean) false 13 771906 6786530 (some (L, xs)) (some (.int z0), hz) 70 [some (.ref 0), some (.ref x1), some (.ref x2), some (.int x3), some (.int x4), some (.int w5), none, none, none, none, none, none, none, none, none, none, none] [] hw nw nsw) : ∀ (n : Nat) (x9 : Int64) (x11 : Int32) (x12 : Int32) (x13 : Int32) (h : abH) (nc ns : Nat), nc ≤ M + 6 → ns ≤ 2 * nc + 1000 → F_L_law_B170 L xs x1 x2 x3 x4 x5 x7 x8 k15 k70 n x9 x11 x12 x13 h = some (z0, hz) → abW cL_law 17 RL (some .boolean) false 13 771906 6786530 (some (L, xs)) (some (.int z0), hz) 170 [some (.ref 0), some (.ref x1), some (.ref x2), some (.int x3), some (.int x4), some (.int x5), none, some (.int x7), some (.int x8), some (.long x9), none, some (.int x11), some (.int x12), some (.int x13), none, none, none] [] h nc ns := by
  intro n
  induction n with
  | zero =>
    intro x9 x11 x12 x13 h nc ns hnc hns hf
    exact absurd (show (none : Option (Int32 × abH)) = some _ from hf) (by simp)
  | succ n ih =>
    intro x9 x11 x12 x13 h nc ns hnc hns hf
    rw [F_L_law_B170.eq_2] at hf
    refine ab_iload dL_law_170 rfl ?_
    refine ab_iload dL_law_172 rfl ?_
    refine ab_icmp_ge 324 dL_law_174 (by decide) hf (fun hf => ?_) (fun hf => ?_)
    · refine ab_ldc2 (v := 1103515245) tb_630 dL_law_177 ?_
      refine ab_lload dL_law_180 rfl ?_
      refine ab_lmul dL_law_182 ?_
      refine ab_ldc2 (v := 12345) tb_631 dL_law_183 ?_
      refine ab_ladd dL_law_186 ?_
      refine ab_ldc2 (v := 2147483648) tb_632 dL_law_187 ?_
      refine f_lrem dL_law_190 hf (fun hf => ?_)
      refine ab_nml hf (fun v76 hf => ?_)
      refine ab_lstore [some (.ref 0), some (.ref x1), some (.ref x2), some (.int x3), some (.int x4), some (.int x5), none, some (.int x7), some (.int x8), some (.long v76), none, some (.int x11), some (.int x12), some (.int x13), none, none, none] dL_law_191 (by decide) rfl rfl ?_
      refine ab_lload dL_law_193 rfl ?_
      refine ab_ldc2 (v := 65536) tb_633 dL_law_195 ?_
      refine f_ldiv dL_law_198 hf (fun hf => ?_)
      refine ab_aload_n 2 dL_law_199 rfl rfl ?_
      refine ab_iconst dL_law_200 kic_0 ?_
      refine f_iald dL_law_201 hf (fun v77 hf => ?_)
      refine ab_i2l dL_law_202 ?_
      refine f_lrem dL_law_203 hf (fun hf => ?_)
      refine ab_l2i dL_law_204 ?_
      refine ab_nmi hf (fun v78 hf => ?_)
      refine ab_istore [some (.ref 0), some (.ref x1), some (.ref x2), some (.int x3), some (.int x4), some (.int x5), none, some (.int x7), some (.int x8), some (.long v76), none, some (.int x11), some (.int x12), some (.int x13), some (.int v78), none, none] dL_law_205 (by decide) rfl rfl ?_
      refine ab_ldc2 (v := 1103515245) tb_630 dL_law_207 ?_
      refine ab_lload dL_law_210 rfl ?_
      refine ab_lmul dL_law_212 ?_
      refine ab_ldc2 (v := 12345) tb_631 dL_law_213 ?_
      refine ab_ladd dL_law_216 ?_
      refine ab_ldc2 (v := 2147483648) tb_632 dL_law_217 ?_
      refine f_lrem dL_law_220 hf (fun hf => ?_)
      refine ab_nml hf (fun v79 hf => ?_)
      refine ab_lstore [some (.ref 0), some (.ref x1), some (.ref x2), some (.int x3), some (.int x4), some (.int x5), none, some (.int x7), some (.int x8), some (.long v79), none, some (.int x11), some (.int x12), some (.int x13), some (.int v78), none, none] dL_law_221 (by decide) rfl rfl ?_
      refine ab_lload dL_law_223 rfl ?_
      refine ab_ldc2 (v := 65536) tb_633 dL_law_225 ?_
      refine f_ldiv dL_law_228 hf (fun hf => ?_)
      refine ab_aload_n 2 dL_law_229 rfl rfl ?_
      refine ab_iconst dL_law_230 kic_0 ?_
      refine f_iald dL_law_231 hf (fun v80 hf => ?_)
      refine ab_i2l dL_law_232 ?_
      refine f_lrem dL_law_233 hf (fun hf => ?_)
      refine ab_l2i dL_law_234 ?_
      refine ab_nmi hf (fun v81 hf => ?_)
      refine ab_istore [some (.ref 0), some (.ref x1), some (.ref x2), some (.int x3), some (.int x4), some (.int x5), none, some (.int x7), some (.int x8), some (.long v79), none, some (.int x11), some (.int x12), some (.int x13), some (.int v78), some (.int v81), none] dL_law_235 (by decide) rfl rfl ?_
      refine ab_ldc2 (v := 1103515245) tb_630 dL_law_237 ?_
      refine ab_lload dL_law_240 rfl ?_
      refine ab_lmul dL_law_242 ?_
      refine ab_ldc2 (v := 12345) tb_631 dL_law_243 ?_
      refine ab_ladd dL_law_246 ?_
      refine ab_ldc2 (v := 2147483648) tb_632 dL_law_247 ?_
      refine f_lrem dL_law_250 hf (fun hf => ?_)
      refine ab_nml hf (fun v82 hf => ?_)
      refine ab_lstore [some (.ref 0), some (.ref x1), some (.ref x2), some (.int x3), some (.int x4), some (.int x5), none, some (.int x7), some (.int x8), some (.long v82), none, some (.int x11), some (.int x12), some (.int x13), some (.int v78), some (.int v81), none] dL_law_251 (by decide) rfl rfl ?_
      refine ab_aload_n 2 dL_law_253 rfl rfl ?_
      refine ab_iload dL_law_254 rfl ?_
      refine ab_iload dL_law_256 rfl ?_
      refine ab_lload dL_law_258 rfl ?_
      refine ab_ldc2 (v := 65536) tb_633 dL_law_260 ?_
      refine f_ldiv dL_law_263 hf (fun hf => ?_)
      refine ab_ldc2 (v := 13) tb_634 dL_law_264 ?_
      refine f_lrem dL_law_267 hf (fun hf => ?_)
      refine ab_l2i dL_law_268 ?_
      refine f_S_i (As := [.ref x2, .int v78, .int v81, .int (((v82 / 65536) - (v82 / 65536) / 13 * 13).toInt32)]) (st := []) cs_L_86 (fun v q => m_L_find x2 v78 v81 (((v82 / 65536) - (v82 / 65536) / 13 * 13).toInt32) h q) rfl rfl dL_law_269 (rmk2 (by decide) (by decide) (Nat.le_of_ble_eq_true rfl) (by omega) (by omega)) hf (fun v83 hf => ?_)
      refine ab_istore [some (.ref 0), some (.ref x1), some (.ref x2), some (.int x3), some (.int x4), some (.int x5), none, some (.int x7), some (.int x8), some (.long v82), none, some (.int x11), some (.int x12), some (.int x13), some (.int v78), some (.int v81), some (.int v83)] dL_law_272 (by decide) rfl rfl ?_
      refine ab_iload dL_law_274 rfl ?_
      refine ab_iload dL_law_276 rfl ?_
      refine ab_iload dL_law_278 rfl ?_
      refine ab_icmp_eq 292 dL_law_280 (by decide) hf (fun hf => ?_) (fun hf => ?_)
      · refine ab_iconst dL_law_292 kic_0 ?_
        exact ab_msk [true, true, true, true, true, true, true, true, true, true, true, false, true, true, true, true, true] (w_L_law_B293 M L xs x1 x2 x3 x4 x5 x7 x8 v82 x12 x13 v78 v81 v83 x11 0 h k15 k70 (fun u9 u11 u12 u13 hu => F_L_law_B170 L xs x1 x2 x3 x4 x5 x7 x8 k15 k70 n u9 u11 u12 u13 hu) hk15 hk70 (fun u9 u11 u12 u13 hu nw nsw q1 q2 hf => ih u9 u11 u12 u13 hu nw nsw (by omega) (by omega) hf) (by omega) (by omega) (by omega) hf)
      refine ab_iload dL_law_283 rfl ?_
      refine ab_if_le 292 dL_law_285 (by decide) hf (fun hf => ?_) (fun hf => ?_)
      · refine ab_iconst dL_law_292 kic_0 ?_
        exact ab_msk [true, true, true, true, true, true, true, true, true, true, true, false, true, true, true, true, true] (w_L_law_B293 M L xs x1 x2 x3 x4 x5 x7 x8 v82 x12 x13 v78 v81 v83 x11 0 h k15 k70 (fun u9 u11 u12 u13 hu => F_L_law_B170 L xs x1 x2 x3 x4 x5 x7 x8 k15 k70 n u9 u11 u12 u13 hu) hk15 hk70 (fun u9 u11 u12 u13 hu nw nsw q1 q2 hf => ih u9 u11 u12 u13 hu nw nsw (by omega) (by omega) hf) (by omega) (by omega) (by omega) hf)
      refine ab_iconst dL_law_288 kic_1 ?_
      refine ab_goto 293 dL_law_289 (by decide) ?_
      exact ab_msk [true, true, true, true, true, true, true, true, true, true, true, false, true, true, true, true, true] (w_L_law_B293 M L xs x1 x2 x3 x4 x5 x7 x8 v82 x12 x13 v78 v81 v83 x11 1 h k15 k70 (fun u9 u11 u12 u13 hu => F_L_law_B170 L xs x1 x2 x3 x4 x5 x7 x8 k15 k70 n u9 u11 u12 u13 hu) hk15 hk70 (fun u9 u11 u12 u13 hu nw nsw q1 q2 hf => ih u9 u11 u12 u13 hu nw nsw (by omega) (by omega) hf) (by omega) (by omega) (by omega) hf)
    refine ab_aload_n 1 dL_law_324 rfl rfl ?_
    refine ab_iload dL_law_325 rfl ?_
    refine ab_iload dL_law_327 rfl ?_
    refine ab_iconst dL_law_329 kic_0 ?_
    refine f_V_i2 (As := [.int x7, .int x8, .int 0]) (st := []) cs_L_90 (fun v hq q => m_X11_terms x1 x7 x8 0 h q) rfl rfl dL_law_330 (rmk2 (by decide) (by decide) (Nat.le_of_ble_eq_true rfl) (by omega) (by omega)) hf (fun v71 h70 hf => ?_)
    refine ab_iload dL_law_333 rfl ?_
    refine ab_icmp_ne 368 dL_law_335 (by decide) hf (fun hf => ?_) (fun hf => ?_)
    · refine ab_aload_n 1 dL_law_338 rfl rfl ?_
      refine ab_iload dL_law_339 rfl ?_
      refine ab_iload dL_law_341 rfl ?_
      refine ab_iconst dL_law_343 kic_1 ?_
      refine f_V_i2 (As := [.int x7, .int x8, .int 1]) (st := []) cs_L_90 (fun v hq q => m_X11_terms x1 x7 x8 1 h70 q) rfl rfl dL_law_344 (rmk2 (by decide) (by decide) (Nat.le_of_ble_eq_true rfl) (by omega) (by omega)) hf (fun v73 h72 hf => ?_)
      refine ab_iload dL_law_347 rfl ?_
      refine ab_icmp_ne 368 dL_law_349 (by decide) hf (fun hf => ?_) (fun hf => ?_)
      · refine ab_aload_n 1 dL_law_352 rfl rfl ?_
        refine ab_iload dL_law_353 rfl ?_
        refine ab_iload dL_law_355 rfl ?_
        refine ab_iconst dL_law_357 kic_2 ?_
        refine f_V_i2 (As := [.int x7, .int x8, .int 2]) (st := []) cs_L_90 (fun v hq q => m_X11_terms x1 x7 x8 2 h72 q) rfl rfl dL_law_358 (rmk2 (by decide) (by decide) (Nat.le_of_ble_eq_true rfl) (by omega) (by omega)) hf (fun v75 h74 hf => ?_)
        refine ab_i2l dL_law_361 ?_
        refine ab_lload dL_law_362 rfl ?_
        refine ab_lcmp dL_law_364 ?_
        refine ab_if_eq 370 dL_law_365 (by decide) hf (fun hf => ?_) (fun hf => ?_)
        · refine ab_iinc (v := x5 + 1) [some (.ref 0), some (.ref x1), some (.ref x2), some (.int x3), some (.int x4), some (.int (x5 + 1)), none, some (.int x7), some (.int x8), some (.long x9), none, some (.int x11), some (.int x12), some (.int x13), none, none, none] dL_law_370 rfl (kinc_1 _) (by decide) rfl rfl ?_
          refine ab_goto 70 dL_law_373 (by decide) ?_
          exact ab_msk [true, true, true, true, true, true, true, false, false, false, true, false, false, false, true, true, true] (hk70 (x5 + 1) h74 _ _ (by omega) (by omega) hf)
        refine ab_iconst dL_law_368 kic_0 ?_
        exact f_retzc2 rfl dL_law_369 rfl (by omega) (by omega) hf
      refine ab_iconst dL_law_368 kic_0 ?_
      exact f_retzc2 rfl dL_law_369 rfl (by omega) (by omega) hf
    refine ab_iconst dL_law_368 kic_0 ?_
    exact f_retzc2 rfl dL_law_369 rfl (by omega) (by omega) hf
def F_L_law_B70 (L : Nat) (xs : Nat → Int32) (x1 : Nat) (x2 : Nat) (x3 : Int32) (x4 : Int32) (k15 : Int32 → abH → Option (Int32 × abH)) : Nat → Int32 → abH → Option (Int32 × abH)
  | 0, _, _ => none
  | n + 1, x5, h =>
    if x5 < 22 then
      (F_L_cell L xs ((x4 + 3) + x5)).bind fun v62 =>
      bd2 (F_L_act x1 v62 x2 h) fun v64 h63 =>
      if v64 = 0 then
        some (0, h63)
      else
        dz 4 <|
        dz 13 <|
        bd2 (F_L_told x1 x2 ((v62 / 4) - (v62 / 4) / 13 * 13) h63) fun v66 h65 =>
        if v66 = 0 then
          some (0, h65)
        else
          dz 6 <|
          if (x5 - x5 / 6 * 6) = 5 then
            dz 512 <|
            dz 60 <|
            nm (1 + ((v62 / 512) - (v62 / 512) / 60 * 60)) fun v67 =>
            dz 6 <|
            (F_L_cell L xs ((x4 + 24) + (x5 / 6))).bind fun v68 =>
            nm v68.toInt64 fun v69 =>
            F_L_law_B170 L xs x1 x2 x3 x4 x5 v67 v68 k15 (fun u5 hu => F_L_law_B70 L xs x1 x2 x3 x4 k15 n u5 hu) 200 v69 0 0 0 h65
          else
            F_L_law_B70 L xs x1 x2 x3 x4 k15 n (x5 + 1) h65
    else
      (ga 0 h x2 0).bind fun v12 =>
      (ko 11 h x1).bind fun _ => bd2 (F_X11_party x1 v12 0 h) fun v14 h13 =>
      if v14 = (-101) then
        (ko 11 h13 x1).bind fun _ => bd2 (F_X11_party x1 0 7 h13) fun v16 h15 =>
        if v16 = (-102) then
          (ko 11 h15 x1).bind fun _ => bd2 (F_X11_party x1 (-1) 0 h15) fun v18 h17 =>
          if v18 = (-101) then
            (ko 11 h17 x1).bind fun _ => (F_X11_as x1 v12 0 h17).bind fun v19 =>
            if v19 = (-101) then
              (ko 11 h17 x1).bind fun _ => (F_X11_as x1 0 5 h17).bind fun v20 =>
              if v20 = (-102) then
                (ko 11 h17 x1).bind fun _ => (F_X11_covers x1 v12 0 h17).bind fun v21 =>
                if v21 = (-101) then
                  (ko 11 h17 x1).bind fun _ => (F_X11_covers x1 0 13 h17).bind fun v22 =>
                  if v22 = (-102) then
                    (ko 11 h17 x1).bind fun _ => (F_X11_covers x1 0 (-1) h17).bind fun v23 =>
                    if v23 = (-102) then
                      (ko 11 h17 x1).bind fun _ => (F_X11_tile x1 10 0 h17).bind fun v24 =>
                      if v24 = (-101) then
                        (ko 11 h17 x1).bind fun _ => (F_X11_tile x1 (-1) 0 h17).bind fun v25 =>
                        if v25 = (-101) then
                          (ko 11 h17 x1).bind fun _ => (F_X11_tile x1 0 3 h17).bind fun v26 =>
                          if v26 = (-102) then
                            (ko 11 h17 x1).bind fun _ => (F_X11_found x1 0 v12 0 h17).bind fun v27 =>
                            if v27 = (-101) then
                              (ko 11 h17 x1).bind fun _ => (F_X11_found x1 1 1 0 h17).bind fun v28 =>
                              if v28 = (-101) then
                                (ko 11 h17 x1).bind fun _ => (F_X11_found x1 0 1 13 h17).bind fun v29 =>
                                if v29 = (-102) then
                                  (ko 11 h17 x1).bind fun _ => bd2 (F_X11_step x1 v12 1 h17) fun v31 h30 =>
                                  if v31 = (-101) then
                                    (ko 11 h30 x1).bind fun _ => bd2 (F_X11_step x1 0 0 h30) fun v33 h32 =>
                                    if v33 = (-102) then
                                      (ko 11 h32 x1).bind fun _ => bd2 (F_X11_step x1 0 2 h32) fun v35 h34 =>
                                      if v35 = (-102) then
                                        (ko 11 h34 x1).bind fun _ => bd2 (F_X11_stand x1 v12 0 h34) fun v37 h36 =>
                                        if v37 = (-101) then
                                          (ko 11 h36 x1).bind fun _ => bd2 (F_X11_stand x1 0 10 h36) fun v39 h38 =>
                                          if v39 = (-101) then
                                            (ko 11 h38 x1).bind fun _ => bd2 (F_X11_rise x1 v12 1 h38) fun v41 h40 =>
                                            if v41 = (-101) then
                                              (ko 11 h40 x1).bind fun _ => bd2 (F_X11_rise x1 0 0 h40) fun v43 h42 =>
                                              if v43 = (-102) then
                                                (ko 11 h42 x1).bind fun _ => bd2 (F_X11_rise x1 0 10 h42) fun v45 h44 =>
                                                if v45 = (-102) then
                                                  (ko 11 h44 x1).bind fun _ => bd2 (F_X11_lay x1 10 0 h44) fun v47 h46 =>
                                                  if v47 = (-101) then
                                                    (ko 11 h46 x1).bind fun _ => bd2 (F_X11_lay x1 0 10 h46) fun v49 h48 =>
                                                    if v49 = (-102) then
                                                      (ko 11 h48 x1).bind fun _ => bd2 (F_X11_file x1 0 v12 h48) fun v51 h50 =>
                                                      if v51 = (-101) then
                                                        (ko 11 h50 x1).bind fun _ => bd2 (F_X11_file x1 1 1 h50) fun v53 h52 =>
                                                        if v53 = (-101) then
                                                          (ko 11 h52 x1).bind fun _ => bd2 (F_X11_terms x1 0 1 0 h52) fun v55 h54 =>
                                                          if v55 = (-102) then
                                                            (ko 11 h54 x1).bind fun _ => bd2 (F_X11_terms x1 61 1 0 h54) fun v57 h56 =>
                                                            if v57 = (-102) then
                                                              (ko 11 h56 x1).bind fun _ => bd2 (F_X11_terms x1 1 (-1) 0 h56) fun v59 h58 =>
                                                              if v59 = (-102) then
                                                                (ko 11 h58 x1).bind fun _ => bd2 (F_X11_terms x1 1 1 3 h58) fun v61 h60 =>
                                                                if v61 = (-102) then
                                                                  k15 (x3 + 1) h60
                                                                else
                                                                  some (0, h60)
                                                              else
                                                                some (0, h58)
                                                            else
                                                              some (0, h56)
                                                          else
                                                            some (0, h54)
                                                        else
                                                          some (0, h52)
                                                      else
                                                        some (0, h50)
                                                    else
                                                      some (0, h48)
                                                  else
                                                    some (0, h46)
                                                else
                                                  some (0, h44)
                                              else
                                                some (0, h42)
                                            else
                                              some (0, h40)
                                          else
                                            some (0, h38)
                                        else
                                          some (0, h36)
                                      else
                                        some (0, h34)
                                    else
                                      some (0, h32)
                                  else
                                    some (0, h30)
                                else
                                  some (0, h17)
                              else
                                some (0, h17)
                            else
                              some (0, h17)
                          else
                            some (0, h17)
                        else
                          some (0, h17)
                      else
                        some (0, h17)
                    else
                      some (0, h17)
                  else
                    some (0, h17)
                else
                  some (0, h17)
              else
                some (0, h17)
            else
              some (0, h17)
          else
            some (0, h17)
        else
          some (0, h15)
      else
        some (0, h13)
set_option maxRecDepth 100000 in
theorem w_L_law_B70 {z0 : Int32} {hz : abH} (M : Nat) (hM : M + 12 ≤ 771906) (L : Nat) (xs : Nat → Int32) (x1 : Nat) (x2 : Nat) (x3 : Int32) (x4 : Int32) (k15 : Int32 → abH → Option (Int32 × abH)) (hk15 : ∀ (w3 : Int32) (hw : abH) (nw nsw : Nat), nw ≤ M + 6 → nsw ≤ 2 * nw + 1000 → k15 w3 hw = some (z0, hz) → abW cL_law 17 RL (some .boolean) false 13 771906 6786530 (some (L, xs)) (some (.int z0), hz) 15 [some (.ref 0), some (.ref x1), some (.ref x2), some (.int w3), none, none, none, none, none, none, none, none, none, none, none, none, none] [] hw nw nsw) : ∀ (n : Nat) (x5 : Int32) (h : abH) (nc ns : Nat), nc ≤ M + 6 → ns ≤ 2 * nc + 1000 → F_L_law_B70 L xs x1 x2 x3 x4 k15 n x5 h = some (z0, hz) → abW cL_law 17 RL (some .boolean) false 13 771906 6786530 (some (L, xs)) (some (.int z0), hz) 70 [some (.ref 0), some (.ref x1), some (.ref x2), some (.int x3), some (.int x4), some (.int x5), none, none, none, none, none, none, none, none, none, none, none] [] h nc ns := by
  intro n
  induction n with
  | zero =>
    intro x5 h nc ns hnc hns hf
    exact absurd (show (none : Option (Int32 × abH)) = some _ from hf) (by simp)
  | succ n ih =>
    intro x5 h nc ns hnc hns hf
    rw [F_L_law_B70.eq_2] at hf
    refine ab_iload dL_law_70 rfl ?_
    refine ab_bipush dL_law_72 kbp_22 ?_
    refine ab_icmp_ge 376 dL_law_74 (by decide) hf (fun hf => ?_) (fun hf => ?_)
    · refine ab_aload_n 0 dL_law_77 rfl rfl ?_
      refine ab_iload dL_law_78 rfl ?_
      refine ab_iconst dL_law_80 kic_3 ?_
      refine ab_iadd dL_law_81 ?_
      refine ab_iload dL_law_82 rfl ?_
      refine ab_iadd dL_law_84 ?_
      refine f_Sx (As := [.ref 0, .int ((x4 + 3) + x5)]) (st := []) cs_L_62 (fun v q => m_L_cell L xs ((x4 + 3) + x5) q) rfl rfl dL_law_85 (rmk2 (by decide) (by decide) (Nat.le_of_ble_eq_true rfl) (by omega) (by omega)) hf (fun v62 hf => ?_)
      refine ab_istore [some (.ref 0), some (.ref x1), some (.ref x2), some (.int x3), some (.int x4), some (.int x5), some (.int v62), none, none, none, none, none, none, none, none, none, none] dL_law_88 (by decide) rfl rfl ?_
      refine ab_aload_n 1 dL_law_90 rfl rfl ?_
      refine ab_iload dL_law_91 rfl ?_
      refine ab_aload_n 2 dL_law_93 rfl rfl ?_
      refine f_S_i2 (As := [.ref x1, .int v62, .ref x2]) (st := []) cs_L_72 (fun v hq q => m_L_act x1 v62 x2 h q) rfl rfl dL_law_94 (rmk2 (by decide) (by decide) (Nat.le_of_ble_eq_true rfl) (by omega) (by omega)) hf (fun v64 h63 hf => ?_)
      refine ab_if_eq 115 dL_law_97 (by decide) hf (fun hf => ?_) (fun hf => ?_)
      · refine ab_iconst dL_law_115 kic_0 ?_
        exact f_retzc2 rfl dL_law_116 rfl (by omega) (by omega) hf
      refine ab_aload_n 1 dL_law_100 rfl rfl ?_
      refine ab_aload_n 2 dL_law_101 rfl rfl ?_
      refine ab_iload dL_law_102 rfl ?_
      refine ab_iconst dL_law_104 kic_4 ?_
      refine f_idiv dL_law_105 hf (fun hf => ?_)
      refine ab_bipush dL_law_106 kbp_13 ?_
      refine f_irem dL_law_108 hf (fun hf => ?_)
      refine f_S_i2 (As := [.ref x1, .ref x2, .int ((v62 / 4) - (v62 / 4) / 13 * 13)]) (st := []) cs_L_68 (fun v hq q => m_L_told x1 x2 ((v62 / 4) - (v62 / 4) / 13 * 13) h63 q) rfl rfl dL_law_109 (rmk2 (by decide) (by decide) (Nat.le_of_ble_eq_true rfl) (by omega) (by omega)) hf (fun v66 h65 hf => ?_)
      refine ab_if_ne 117 dL_law_112 (by decide) hf (fun hf => ?_) (fun hf => ?_)
      · refine ab_iconst dL_law_115 kic_0 ?_
        exact f_retzc2 rfl dL_law_116 rfl (by omega) (by omega) hf
      refine ab_iload dL_law_117 rfl ?_
      refine ab_bipush dL_law_119 kbp_6 ?_
      refine f_irem dL_law_121 hf (fun hf => ?_)
      refine ab_iconst dL_law_122 kic_5 ?_
      refine ab_icmp_ne 370 dL_law_123 (by decide) hf (fun hf => ?_) (fun hf => ?_)
      · refine ab_iconst dL_law_126 kic_1 ?_
        refine ab_iload dL_law_127 rfl ?_
        refine ab_sipush dL_law_129 ksp_512 ?_
        refine f_idiv dL_law_132 hf (fun hf => ?_)
        refine ab_bipush dL_law_133 kbp_60 ?_
        refine f_irem dL_law_135 hf (fun hf => ?_)
        refine ab_iadd dL_law_136 ?_
        refine ab_nmi hf (fun v67 hf => ?_)
        refine ab_istore [some (.ref 0), some (.ref x1), some (.ref x2), some (.int x3), some (.int x4), some (.int x5), some (.int v62), some (.int v67), none, none, none, none, none, none, none, none, none] dL_law_137 (by decide) rfl rfl ?_
        refine ab_aload_n 0 dL_law_139 rfl rfl ?_
        refine ab_iload dL_law_140 rfl ?_
        refine ab_bipush dL_law_142 kbp_24 ?_
        refine ab_iadd dL_law_144 ?_
        refine ab_iload dL_law_145 rfl ?_
        refine ab_bipush dL_law_147 kbp_6 ?_
        refine f_idiv dL_law_149 hf (fun hf => ?_)
        refine ab_iadd dL_law_150 ?_
        refine f_Sx (As := [.ref 0, .int ((x4 + 24) + (x5 / 6))]) (st := []) cs_L_62 (fun v q => m_L_cell L xs ((x4 + 24) + (x5 / 6)) q) rfl rfl dL_law_151 (rmk2 (by decide) (by decide) (Nat.le_of_ble_eq_true rfl) (by omega) (by omega)) hf (fun v68 hf => ?_)
        refine ab_istore [some (.ref 0), some (.ref x1), some (.ref x2), some (.int x3), some (.int x4), some (.int x5), some (.int v62), some (.int v67), some (.int v68), none, none, none, none, none, none, none, none] dL_law_154 (by decide) rfl rfl ?_
        refine ab_iload dL_law_156 rfl ?_
        refine ab_i2l dL_law_158 ?_
        refine ab_nml hf (fun v69 hf => ?_)
        refine ab_lstore [some (.ref 0), some (.ref x1), some (.ref x2), some (.int x3), some (.int x4), some (.int x5), some (.int v62), some (.int v67), some (.int v68), some (.long v69), none, none, none, none, none, none, none] dL_law_159 (by decide) rfl rfl ?_
        refine ab_iconst dL_law_161 kic_0 ?_
        refine ab_istore [some (.ref 0), some (.ref x1), some (.ref x2), some (.int x3), some (.int x4), some (.int x5), some (.int v62), some (.int v67), some (.int v68), some (.long v69), none, some (.int 0), none, none, none, none, none] dL_law_162 (by decide) rfl rfl ?_
        refine ab_iconst dL_law_164 kic_0 ?_
        refine ab_istore [some (.ref 0), some (.ref x1), some (.ref x2), some (.int x3), some (.int x4), some (.int x5), some (.int v62), some (.int v67), some (.int v68), some (.long v69), none, some (.int 0), some (.int 0), none, none, none, none] dL_law_165 (by decide) rfl rfl ?_
        refine ab_iconst dL_law_167 kic_0 ?_
        refine ab_istore [some (.ref 0), some (.ref x1), some (.ref x2), some (.int x3), some (.int x4), some (.int x5), some (.int v62), some (.int v67), some (.int v68), some (.long v69), none, some (.int 0), some (.int 0), some (.int 0), none, none, none] dL_law_168 (by decide) rfl rfl ?_
        exact ab_msk [true, true, true, true, true, true, false, true, true, true, true, true, true, true, true, true, true] (w_L_law_B170 M (by omega) L xs x1 x2 x3 x4 x5 v67 v68 k15 (fun u5 hu => F_L_law_B70 L xs x1 x2 x3 x4 k15 n u5 hu) hk15 (fun u5 hu nw nsw q1 q2 hf => ih u5 hu nw nsw (by omega) (by omega) hf) 200 v69 0 0 0 h65 _ _ (by omega) (by omega) hf)
      refine ab_iinc (v := x5 + 1) [some (.ref 0), some (.ref x1), some (.ref x2), some (.int x3), some (.int x4), some (.int (x5 + 1)), some (.int v62), none, none, none, none, none, none, none, none, none, none] dL_law_370 rfl (kinc_1 _) (by decide) rfl rfl ?_
      refine ab_goto 70 dL_law_373 (by decide) ?_
      exact ab_msk [true, true, true, true, true, true, false, true, true, true, true, true, true, true, true, true, true] (ih (x5 + 1) h65 _ _ (by omega) (by omega) hf)
    refine ab_aload_n 2 dL_law_376 rfl rfl ?_
    refine ab_iconst dL_law_377 kic_0 ?_
    refine f_iald dL_law_378 hf (fun v12 hf => ?_)
    refine ab_istore [some (.ref 0), some (.ref x1), some (.ref x2), some (.int x3), some (.int x4), some (.int v12), none, none, none, none, none, none, none, none, none, none, none] dL_law_379 (by decide) rfl rfl ?_
    refine ab_aload_n 1 dL_law_381 rfl rfl ?_
    refine ab_iload dL_law_382 rfl ?_
    refine ab_iconst dL_law_384 kic_0 ?_
    refine f_V_i2 (As := [.int v12, .int 0]) (st := []) cs_L_94 (fun v hq q => m_X11_party x1 v12 0 h q) rfl rfl dL_law_385 (rmk2 (by decide) (by decide) (Nat.le_of_ble_eq_true rfl) (by omega) (by omega)) hf (fun v14 h13 hf => ?_)
    refine ab_bipush dL_law_388 kbp_m101 ?_
    refine ab_icmp_ne 735 dL_law_390 (by decide) hf (fun hf => ?_) (fun hf => ?_)
    · refine ab_aload_n 1 dL_law_393 rfl rfl ?_
      refine ab_iconst dL_law_394 kic_0 ?_
      refine ab_bipush dL_law_395 kbp_7 ?_
      refine f_V_i2 (As := [.int 0, .int 7]) (st := []) cs_L_94 (fun v hq q => m_X11_party x1 0 7 h13 q) rfl rfl dL_law_397 (rmk2 (by decide) (by decide) (Nat.le_of_ble_eq_true rfl) (by omega) (by omega)) hf (fun v16 h15 hf => ?_)
      refine ab_bipush dL_law_400 kbp_m102 ?_
      refine ab_icmp_ne 735 dL_law_402 (by decide) hf (fun hf => ?_) (fun hf => ?_)
      · refine ab_aload_n 1 dL_law_405 rfl rfl ?_
        refine ab_iconst dL_law_406 kic_m1 ?_
        refine ab_iconst dL_law_407 kic_0 ?_
        refine f_V_i2 (As := [.int (-1), .int 0]) (st := []) cs_L_94 (fun v hq q => m_X11_party x1 (-1) 0 h15 q) rfl rfl dL_law_408 (rmk2 (by decide) (by decide) (Nat.le_of_ble_eq_true rfl) (by omega) (by omega)) hf (fun v18 h17 hf => ?_)
        refine ab_bipush dL_law_411 kbp_m101 ?_
        refine ab_icmp_ne 735 dL_law_413 (by decide) hf (fun hf => ?_) (fun hf => ?_)
        · refine ab_aload_n 1 dL_law_416 rfl rfl ?_
          refine ab_iload dL_law_417 rfl ?_
          refine ab_iconst dL_law_419 kic_0 ?_
          refine f_V_i (As := [.int v12, .int 0]) (st := []) cs_L_97 (fun v q => m_X11_as x1 v12 0 h17 q) rfl rfl dL_law_420 (rmk2 (by decide) (by decide) (Nat.le_of_ble_eq_true rfl) (by omega) (by omega)) hf (fun v19 hf => ?_)
          refine ab_bipush dL_law_423 kbp_m101 ?_
          refine ab_icmp_ne 735 dL_law_425 (by decide) hf (fun hf => ?_) (fun hf => ?_)
          · refine ab_aload_n 1 dL_law_428 rfl rfl ?_
            refine ab_iconst dL_law_429 kic_0 ?_
            refine ab_iconst dL_law_430 kic_5 ?_
            refine f_V_i (As := [.int 0, .int 5]) (st := []) cs_L_97 (fun v q => m_X11_as x1 0 5 h17 q) rfl rfl dL_law_431 (rmk2 (by decide) (by decide) (Nat.le_of_ble_eq_true rfl) (by omega) (by omega)) hf (fun v20 hf => ?_)
            refine ab_bipush dL_law_434 kbp_m102 ?_
            refine ab_icmp_ne 735 dL_law_436 (by decide) hf (fun hf => ?_) (fun hf => ?_)
            · refine ab_aload_n 1 dL_law_439 rfl rfl ?_
              refine ab_iload dL_law_440 rfl ?_
              refine ab_iconst dL_law_442 kic_0 ?_
              refine f_V_i (As := [.int v12, .int 0]) (st := []) cs_L_100 (fun v q => m_X11_covers x1 v12 0 h17 q) rfl rfl dL_law_443 (rmk2 (by decide) (by decide) (Nat.le_of_ble_eq_true rfl) (by omega) (by omega)) hf (fun v21 hf => ?_)
              refine ab_bipush dL_law_446 kbp_m101 ?_
              refine ab_icmp_ne 735 dL_law_448 (by decide) hf (fun hf => ?_) (fun hf => ?_)
              · refine ab_aload_n 1 dL_law_451 rfl rfl ?_
                refine ab_iconst dL_law_452 kic_0 ?_
                refine ab_bipush dL_law_453 kbp_13 ?_
                refine f_V_i (As := [.int 0, .int 13]) (st := []) cs_L_100 (fun v q => m_X11_covers x1 0 13 h17 q) rfl rfl dL_law_455 (rmk2 (by decide) (by decide) (Nat.le_of_ble_eq_true rfl) (by omega) (by omega)) hf (fun v22 hf => ?_)
                refine ab_bipush dL_law_458 kbp_m102 ?_
                refine ab_icmp_ne 735 dL_law_460 (by decide) hf (fun hf => ?_) (fun hf => ?_)
                · refine ab_aload_n 1 dL_law_463 rfl rfl ?_
                  refine ab_iconst dL_law_464 kic_0 ?_
                  refine ab_iconst dL_law_465 kic_m1 ?_
                  refine f_V_i (As := [.int 0, .int (-1)]) (st := []) cs_L_100 (fun v q => m_X11_covers x1 0 (-1) h17 q) rfl rfl dL_law_466 (rmk2 (by decide) (by decide) (Nat.le_of_ble_eq_true rfl) (by omega) (by omega)) hf (fun v23 hf => ?_)
                  refine ab_bipush dL_law_469 kbp_m102 ?_
                  refine ab_icmp_ne 735 dL_law_471 (by decide) hf (fun hf => ?_) (fun hf => ?_)
                  · refine ab_aload_n 1 dL_law_474 rfl rfl ?_
                    refine ab_bipush dL_law_475 kbp_10 ?_
                    refine ab_iconst dL_law_477 kic_0 ?_
                    refine f_V_i (As := [.int 10, .int 0]) (st := []) cs_L_102 (fun v q => m_X11_tile x1 10 0 h17 q) rfl rfl dL_law_478 (rmk2 (by decide) (by decide) (Nat.le_of_ble_eq_true rfl) (by omega) (by omega)) hf (fun v24 hf => ?_)
                    refine ab_bipush dL_law_481 kbp_m101 ?_
                    refine ab_icmp_ne 735 dL_law_483 (by decide) hf (fun hf => ?_) (fun hf => ?_)
                    · refine ab_aload_n 1 dL_law_486 rfl rfl ?_
                      refine ab_iconst dL_law_487 kic_m1 ?_
                      refine ab_iconst dL_law_488 kic_0 ?_
                      refine f_V_i (As := [.int (-1), .int 0]) (st := []) cs_L_102 (fun v q => m_X11_tile x1 (-1) 0 h17 q) rfl rfl dL_law_489 (rmk2 (by decide) (by decide) (Nat.le_of_ble_eq_true rfl) (by omega) (by omega)) hf (fun v25 hf => ?_)
                      refine ab_bipush dL_law_492 kbp_m101 ?_
                      refine ab_icmp_ne 735 dL_law_494 (by decide) hf (fun hf => ?_) (fun hf => ?_)
                      · refine ab_aload_n 1 dL_law_497 rfl rfl ?_
                        refine ab_iconst dL_law_498 kic_0 ?_
                        refine ab_iconst dL_law_499 kic_3 ?_
                        refine f_V_i (As := [.int 0, .int 3]) (st := []) cs_L_102 (fun v q => m_X11_tile x1 0 3 h17 q) rfl rfl dL_law_500 (rmk2 (by decide) (by decide) (Nat.le_of_ble_eq_true rfl) (by omega) (by omega)) hf (fun v26 hf => ?_)
                        refine ab_bipush dL_law_503 kbp_m102 ?_
                        refine ab_icmp_ne 735 dL_law_505 (by decide) hf (fun hf => ?_) (fun hf => ?_)
                        · refine ab_aload_n 1 dL_law_508 rfl rfl ?_
                          refine ab_iconst dL_law_509 kic_0 ?_
                          refine ab_iload dL_law_510 rfl ?_
                          refine ab_iconst dL_law_512 kic_0 ?_
                          refine f_V_i (As := [.int 0, .int v12, .int 0]) (st := []) cs_L_105 (fun v q => m_X11_found x1 0 v12 0 h17 q) rfl rfl dL_law_513 (rmk2 (by decide) (by decide) (Nat.le_of_ble_eq_true rfl) (by omega) (by omega)) hf (fun v27 hf => ?_)
                          refine ab_bipush dL_law_516 kbp_m101 ?_
                          refine ab_icmp_ne 735 dL_law_518 (by decide) hf (fun hf => ?_) (fun hf => ?_)
                          · refine ab_aload_n 1 dL_law_521 rfl rfl ?_
                            refine ab_iconst dL_law_522 kic_1 ?_
                            refine ab_iconst dL_law_523 kic_1 ?_
                            refine ab_iconst dL_law_524 kic_0 ?_
                            refine f_V_i (As := [.int 1, .int 1, .int 0]) (st := []) cs_L_105 (fun v q => m_X11_found x1 1 1 0 h17 q) rfl rfl dL_law_525 (rmk2 (by decide) (by decide) (Nat.le_of_ble_eq_true rfl) (by omega) (by omega)) hf (fun v28 hf => ?_)
                            refine ab_bipush dL_law_528 kbp_m101 ?_
                            refine ab_icmp_ne 735 dL_law_530 (by decide) hf (fun hf => ?_) (fun hf => ?_)
                            · refine ab_aload_n 1 dL_law_533 rfl rfl ?_
                              refine ab_iconst dL_law_534 kic_0 ?_
                              refine ab_iconst dL_law_535 kic_1 ?_
                              refine ab_bipush dL_law_536 kbp_13 ?_
                              refine f_V_i (As := [.int 0, .int 1, .int 13]) (st := []) cs_L_105 (fun v q => m_X11_found x1 0 1 13 h17 q) rfl rfl dL_law_538 (rmk2 (by decide) (by decide) (Nat.le_of_ble_eq_true rfl) (by omega) (by omega)) hf (fun v29 hf => ?_)
                              refine ab_bipush dL_law_541 kbp_m102 ?_
                              refine ab_icmp_ne 735 dL_law_543 (by decide) hf (fun hf => ?_) (fun hf => ?_)
                              · refine ab_aload_n 1 dL_law_546 rfl rfl ?_
                                refine ab_iload dL_law_547 rfl ?_
                                refine ab_iconst dL_law_549 kic_1 ?_
                                refine f_V_i2 (As := [.int v12, .int 1]) (st := []) cs_L_42 (fun v hq q => m_X11_step x1 v12 1 h17 q) rfl rfl dL_law_550 (rmk2 (by decide) (by decide) (Nat.le_of_ble_eq_true rfl) (by omega) (by omega)) hf (fun v31 h30 hf => ?_)
                                refine ab_bipush dL_law_553 kbp_m101 ?_
                                refine ab_icmp_ne 735 dL_law_555 (by decide) hf (fun hf => ?_) (fun hf => ?_)
                                · refine ab_aload_n 1 dL_law_558 rfl rfl ?_
                                  refine ab_iconst dL_law_559 kic_0 ?_
                                  refine ab_iconst dL_law_560 kic_0 ?_
                                  refine f_V_i2 (As := [.int 0, .int 0]) (st := []) cs_L_42 (fun v hq q => m_X11_step x1 0 0 h30 q) rfl rfl dL_law_561 (rmk2 (by decide) (by decide) (Nat.le_of_ble_eq_true rfl) (by omega) (by omega)) hf (fun v33 h32 hf => ?_)
                                  refine ab_bipush dL_law_564 kbp_m102 ?_
                                  refine ab_icmp_ne 735 dL_law_566 (by decide) hf (fun hf => ?_) (fun hf => ?_)
                                  · refine ab_aload_n 1 dL_law_569 rfl rfl ?_
                                    refine ab_iconst dL_law_570 kic_0 ?_
                                    refine ab_iconst dL_law_571 kic_2 ?_
                                    refine f_V_i2 (As := [.int 0, .int 2]) (st := []) cs_L_42 (fun v hq q => m_X11_step x1 0 2 h32 q) rfl rfl dL_law_572 (rmk2 (by decide) (by decide) (Nat.le_of_ble_eq_true rfl) (by omega) (by omega)) hf (fun v35 h34 hf => ?_)
                                    refine ab_bipush dL_law_575 kbp_m102 ?_
                                    refine ab_icmp_ne 735 dL_law_577 (by decide) hf (fun hf => ?_) (fun hf => ?_)
                                    · refine ab_aload_n 1 dL_law_580 rfl rfl ?_
                                      refine ab_iload dL_law_581 rfl ?_
                                      refine ab_iconst dL_law_583 kic_0 ?_
                                      refine f_V_i2 (As := [.int v12, .int 0]) (st := []) cs_L_46 (fun v hq q => m_X11_stand x1 v12 0 h34 q) rfl rfl dL_law_584 (rmk2 (by decide) (by decide) (Nat.le_of_ble_eq_true rfl) (by omega) (by omega)) hf (fun v37 h36 hf => ?_)
                                      refine ab_bipush dL_law_587 kbp_m101 ?_
                                      refine ab_icmp_ne 735 dL_law_589 (by decide) hf (fun hf => ?_) (fun hf => ?_)
                                      · refine ab_aload_n 1 dL_law_592 rfl rfl ?_
                                        refine ab_iconst dL_law_593 kic_0 ?_
                                        refine ab_bipush dL_law_594 kbp_10 ?_
                                        refine f_V_i2 (As := [.int 0, .int 10]) (st := []) cs_L_46 (fun v hq q => m_X11_stand x1 0 10 h36 q) rfl rfl dL_law_596 (rmk2 (by decide) (by decide) (Nat.le_of_ble_eq_true rfl) (by omega) (by omega)) hf (fun v39 h38 hf => ?_)
                                        refine ab_bipush dL_law_599 kbp_m101 ?_
                                        refine ab_icmp_ne 735 dL_law_601 (by decide) hf (fun hf => ?_) (fun hf => ?_)
                                        · refine ab_aload_n 1 dL_law_604 rfl rfl ?_
                                          refine ab_iload dL_law_605 rfl ?_
                                          refine ab_iconst dL_law_607 kic_1 ?_
                                          refine f_V_i2 (As := [.int v12, .int 1]) (st := []) cs_L_49 (fun v hq q => m_X11_rise x1 v12 1 h38 q) rfl rfl dL_law_608 (rmk2 (by decide) (by decide) (Nat.le_of_ble_eq_true rfl) (by omega) (by omega)) hf (fun v41 h40 hf => ?_)
                                          refine ab_bipush dL_law_611 kbp_m101 ?_
                                          refine ab_icmp_ne 735 dL_law_613 (by decide) hf (fun hf => ?_) (fun hf => ?_)
                                          · refine ab_aload_n 1 dL_law_616 rfl rfl ?_
                                            refine ab_iconst dL_law_617 kic_0 ?_
                                            refine ab_iconst dL_law_618 kic_0 ?_
                                            refine f_V_i2 (As := [.int 0, .int 0]) (st := []) cs_L_49 (fun v hq q => m_X11_rise x1 0 0 h40 q) rfl rfl dL_law_619 (rmk2 (by decide) (by decide) (Nat.le_of_ble_eq_true rfl) (by omega) (by omega)) hf (fun v43 h42 hf => ?_)
                                            refine ab_bipush dL_law_622 kbp_m102 ?_
                                            refine ab_icmp_ne 735 dL_law_624 (by decide) hf (fun hf => ?_) (fun hf => ?_)
                                            · refine ab_aload_n 1 dL_law_627 rfl rfl ?_
                                              refine ab_iconst dL_law_628 kic_0 ?_
                                              refine ab_bipush dL_law_629 kbp_10 ?_
                                              refine f_V_i2 (As := [.int 0, .int 10]) (st := []) cs_L_49 (fun v hq q => m_X11_rise x1 0 10 h42 q) rfl rfl dL_law_631 (rmk2 (by decide) (by decide) (Nat.le_of_ble_eq_true rfl) (by omega) (by omega)) hf (fun v45 h44 hf => ?_)
                                              refine ab_bipush dL_law_634 kbp_m102 ?_
                                              refine ab_icmp_ne 735 dL_law_636 (by decide) hf (fun hf => ?_) (fun hf => ?_)
                                              · refine ab_aload_n 1 dL_law_639 rfl rfl ?_
                                                refine ab_bipush dL_law_640 kbp_10 ?_
                                                refine ab_iconst dL_law_642 kic_0 ?_
                                                refine f_V_i2 (As := [.int 10, .int 0]) (st := []) cs_L_52 (fun v hq q => m_X11_lay x1 10 0 h44 q) rfl rfl dL_law_643 (rmk2 (by decide) (by decide) (Nat.le_of_ble_eq_true rfl) (by omega) (by omega)) hf (fun v47 h46 hf => ?_)
                                                refine ab_bipush dL_law_646 kbp_m101 ?_
                                                refine ab_icmp_ne 735 dL_law_648 (by decide) hf (fun hf => ?_) (fun hf => ?_)
                                                · refine ab_aload_n 1 dL_law_651 rfl rfl ?_
                                                  refine ab_iconst dL_law_652 kic_0 ?_
                                                  refine ab_bipush dL_law_653 kbp_10 ?_
                                                  refine f_V_i2 (As := [.int 0, .int 10]) (st := []) cs_L_52 (fun v hq q => m_X11_lay x1 0 10 h46 q) rfl rfl dL_law_655 (rmk2 (by decide) (by decide) (Nat.le_of_ble_eq_true rfl) (by omega) (by omega)) hf (fun v49 h48 hf => ?_)
                                                  refine ab_bipush dL_law_658 kbp_m102 ?_
                                                  refine ab_icmp_ne 735 dL_law_660 (by decide) hf (fun hf => ?_) (fun hf => ?_)
                                                  · refine ab_aload_n 1 dL_law_663 rfl rfl ?_
                                                    refine ab_iconst dL_law_664 kic_0 ?_
                                                    refine ab_iload dL_law_665 rfl ?_
                                                    refine f_V_i2 (As := [.int 0, .int v12]) (st := []) cs_L_55 (fun v hq q => m_X11_file x1 0 v12 h48 q) rfl rfl dL_law_667 (rmk2 (by decide) (by decide) (Nat.le_of_ble_eq_true rfl) (by omega) (by omega)) hf (fun v51 h50 hf => ?_)
                                                    refine ab_bipush dL_law_670 kbp_m101 ?_
                                                    refine ab_icmp_ne 735 dL_law_672 (by decide) hf (fun hf => ?_) (fun hf => ?_)
                                                    · refine ab_aload_n 1 dL_law_675 rfl rfl ?_
                                                      refine ab_iconst dL_law_676 kic_1 ?_
                                                      refine ab_iconst dL_law_677 kic_1 ?_
                                                      refine f_V_i2 (As := [.int 1, .int 1]) (st := []) cs_L_55 (fun v hq q => m_X11_file x1 1 1 h50 q) rfl rfl dL_law_678 (rmk2 (by decide) (by decide) (Nat.le_of_ble_eq_true rfl) (by omega) (by omega)) hf (fun v53 h52 hf => ?_)
                                                      refine ab_bipush dL_law_681 kbp_m101 ?_
                                                      refine ab_icmp_ne 735 dL_law_683 (by decide) hf (fun hf => ?_) (fun hf => ?_)
                                                      · refine ab_aload_n 1 dL_law_686 rfl rfl ?_
                                                        refine ab_iconst dL_law_687 kic_0 ?_
                                                        refine ab_iconst dL_law_688 kic_1 ?_
                                                        refine ab_iconst dL_law_689 kic_0 ?_
                                                        refine f_V_i2 (As := [.int 0, .int 1, .int 0]) (st := []) cs_L_90 (fun v hq q => m_X11_terms x1 0 1 0 h52 q) rfl rfl dL_law_690 (rmk2 (by decide) (by decide) (Nat.le_of_ble_eq_true rfl) (by omega) (by omega)) hf (fun v55 h54 hf => ?_)
                                                        refine ab_bipush dL_law_693 kbp_m102 ?_
                                                        refine ab_icmp_ne 735 dL_law_695 (by decide) hf (fun hf => ?_) (fun hf => ?_)
                                                        · refine ab_aload_n 1 dL_law_698 rfl rfl ?_
                                                          refine ab_bipush dL_law_699 kbp_61 ?_
                                                          refine ab_iconst dL_law_701 kic_1 ?_
                                                          refine ab_iconst dL_law_702 kic_0 ?_
                                                          refine f_V_i2 (As := [.int 61, .int 1, .int 0]) (st := []) cs_L_90 (fun v hq q => m_X11_terms x1 61 1 0 h54 q) rfl rfl dL_law_703 (rmk2 (by decide) (by decide) (Nat.le_of_ble_eq_true rfl) (by omega) (by omega)) hf (fun v57 h56 hf => ?_)
                                                          refine ab_bipush dL_law_706 kbp_m102 ?_
                                                          refine ab_icmp_ne 735 dL_law_708 (by decide) hf (fun hf => ?_) (fun hf => ?_)
                                                          · refine ab_aload_n 1 dL_law_711 rfl rfl ?_
                                                            refine ab_iconst dL_law_712 kic_1 ?_
                                                            refine ab_iconst dL_law_713 kic_m1 ?_
                                                            refine ab_iconst dL_law_714 kic_0 ?_
                                                            refine f_V_i2 (As := [.int 1, .int (-1), .int 0]) (st := []) cs_L_90 (fun v hq q => m_X11_terms x1 1 (-1) 0 h56 q) rfl rfl dL_law_715 (rmk2 (by decide) (by decide) (Nat.le_of_ble_eq_true rfl) (by omega) (by omega)) hf (fun v59 h58 hf => ?_)
                                                            refine ab_bipush dL_law_718 kbp_m102 ?_
                                                            refine ab_icmp_ne 735 dL_law_720 (by decide) hf (fun hf => ?_) (fun hf => ?_)
                                                            · refine ab_aload_n 1 dL_law_723 rfl rfl ?_
                                                              refine ab_iconst dL_law_724 kic_1 ?_
                                                              refine ab_iconst dL_law_725 kic_1 ?_
                                                              refine ab_iconst dL_law_726 kic_3 ?_
                                                              refine f_V_i2 (As := [.int 1, .int 1, .int 3]) (st := []) cs_L_90 (fun v hq q => m_X11_terms x1 1 1 3 h58 q) rfl rfl dL_law_727 (rmk2 (by decide) (by decide) (Nat.le_of_ble_eq_true rfl) (by omega) (by omega)) hf (fun v61 h60 hf => ?_)
                                                              refine ab_bipush dL_law_730 kbp_m102 ?_
                                                              refine ab_icmp_eq 737 dL_law_732 (by decide) hf (fun hf => ?_) (fun hf => ?_)
                                                              · refine ab_iinc (v := x3 + 1) [some (.ref 0), some (.ref x1), some (.ref x2), some (.int (x3 + 1)), some (.int x4), some (.int v12), none, none, none, none, none, none, none, none, none, none, none] dL_law_737 rfl (kinc_1 _) (by decide) rfl rfl ?_
                                                                refine ab_goto 15 dL_law_740 (by decide) ?_
                                                                exact ab_msk [true, true, true, true, false, false, true, true, true, true, true, true, true, true, true, true, true] (hk15 (x3 + 1) h60 _ _ (by omega) (by omega) hf)
                                                              refine ab_iconst dL_law_735 kic_0 ?_
                                                              exact f_retzc2 rfl dL_law_736 rfl (by omega) (by omega) hf
                                                            refine ab_iconst dL_law_735 kic_0 ?_
                                                            exact f_retzc2 rfl dL_law_736 rfl (by omega) (by omega) hf
                                                          refine ab_iconst dL_law_735 kic_0 ?_
                                                          exact f_retzc2 rfl dL_law_736 rfl (by omega) (by omega) hf
                                                        refine ab_iconst dL_law_735 kic_0 ?_
                                                        exact f_retzc2 rfl dL_law_736 rfl (by omega) (by omega) hf
                                                      refine ab_iconst dL_law_735 kic_0 ?_
                                                      exact f_retzc2 rfl dL_law_736 rfl (by omega) (by omega) hf
                                                    refine ab_iconst dL_law_735 kic_0 ?_
                                                    exact f_retzc2 rfl dL_law_736 rfl (by omega) (by omega) hf
                                                  refine ab_iconst dL_law_735 kic_0 ?_
                                                  exact f_retzc2 rfl dL_law_736 rfl (by omega) (by omega) hf
                                                refine ab_iconst dL_law_735 kic_0 ?_
                                                exact f_retzc2 rfl dL_law_736 rfl (by omega) (by omega) hf
                                              refine ab_iconst dL_law_735 kic_0 ?_
                                              exact f_retzc2 rfl dL_law_736 rfl (by omega) (by omega) hf
                                            refine ab_iconst dL_law_735 kic_0 ?_
                                            exact f_retzc2 rfl dL_law_736 rfl (by omega) (by omega) hf
                                          refine ab_iconst dL_law_735 kic_0 ?_
                                          exact f_retzc2 rfl dL_law_736 rfl (by omega) (by omega) hf
                                        refine ab_iconst dL_law_735 kic_0 ?_
                                        exact f_retzc2 rfl dL_law_736 rfl (by omega) (by omega) hf
                                      refine ab_iconst dL_law_735 kic_0 ?_
                                      exact f_retzc2 rfl dL_law_736 rfl (by omega) (by omega) hf
                                    refine ab_iconst dL_law_735 kic_0 ?_
                                    exact f_retzc2 rfl dL_law_736 rfl (by omega) (by omega) hf
                                  refine ab_iconst dL_law_735 kic_0 ?_
                                  exact f_retzc2 rfl dL_law_736 rfl (by omega) (by omega) hf
                                refine ab_iconst dL_law_735 kic_0 ?_
                                exact f_retzc2 rfl dL_law_736 rfl (by omega) (by omega) hf
                              refine ab_iconst dL_law_735 kic_0 ?_
                              exact f_retzc2 rfl dL_law_736 rfl (by omega) (by omega) hf
                            refine ab_iconst dL_law_735 kic_0 ?_
                            exact f_retzc2 rfl dL_law_736 rfl (by omega) (by omega) hf
                          refine ab_iconst dL_law_735 kic_0 ?_
                          exact f_retzc2 rfl dL_law_736 rfl (by omega) (by omega) hf
                        refine ab_iconst dL_law_735 kic_0 ?_
                        exact f_retzc2 rfl dL_law_736 rfl (by omega) (by omega) hf
                      refine ab_iconst dL_law_735 kic_0 ?_
                      exact f_retzc2 rfl dL_law_736 rfl (by omega) (by omega) hf
                    refine ab_iconst dL_law_735 kic_0 ?_
                    exact f_retzc2 rfl dL_law_736 rfl (by omega) (by omega) hf
                  refine ab_iconst dL_law_735 kic_0 ?_
                  exact f_retzc2 rfl dL_law_736 rfl (by omega) (by omega) hf
                refine ab_iconst dL_law_735 kic_0 ?_
                exact f_retzc2 rfl dL_law_736 rfl (by omega) (by omega) hf
              refine ab_iconst dL_law_735 kic_0 ?_
              exact f_retzc2 rfl dL_law_736 rfl (by omega) (by omega) hf
            refine ab_iconst dL_law_735 kic_0 ?_
            exact f_retzc2 rfl dL_law_736 rfl (by omega) (by omega) hf
          refine ab_iconst dL_law_735 kic_0 ?_
          exact f_retzc2 rfl dL_law_736 rfl (by omega) (by omega) hf
        refine ab_iconst dL_law_735 kic_0 ?_
        exact f_retzc2 rfl dL_law_736 rfl (by omega) (by omega) hf
      refine ab_iconst dL_law_735 kic_0 ?_
      exact f_retzc2 rfl dL_law_736 rfl (by omega) (by omega) hf
    refine ab_iconst dL_law_735 kic_0 ?_
    exact f_retzc2 rfl dL_law_736 rfl (by omega) (by omega) hf
def F_L_law_B15 (L : Nat) (xs : Nat → Int32) (x1 : Nat) (x2 : Nat) : Nat → Int32 → abH → Option (Int32 × abH)
  | 0, _, _ => none
  | n + 1, x3, h =>
    if x3 < 2 then
      nm (29 * x3) fun v4 =>
      (F_L_cell L xs v4).bind fun v5 =>
      (F_L_cell L xs (v4 + 1)).bind fun v6 =>
      (F_L_cell L xs (v4 + 2)).bind fun v7 =>
      bd2 (F_L_court x1 v5 v6 v7 x2 h) fun v9 h8 =>
      if v9 = 0 then
        some (0, h8)
      else
        bd2 (F_L_told x1 x2 3 h8) fun v11 h10 =>
        if v11 = 0 then
          some (0, h10)
        else
          F_L_law_B70 L xs x1 x2 x3 v4 (fun u3 hu => F_L_law_B15 L xs x1 x2 n u3 hu) 200 0 h10
    else
      some (1, h)
set_option maxRecDepth 100000 in
theorem w_L_law_B15 {z0 : Int32} {hz : abH} (L : Nat) (xs : Nat → Int32) (x1 : Nat) (x2 : Nat)   : ∀ (n : Nat) (x3 : Int32) (h : abH) (nc ns : Nat), nc + 6 * n + 12 ≤ 771906 → ns ≤ 2 * nc + 1000 → F_L_law_B15 L xs x1 x2 n x3 h = some (z0, hz) → abW cL_law 17 RL (some .boolean) false 13 771906 6786530 (some (L, xs)) (some (.int z0), hz) 15 [some (.ref 0), some (.ref x1), some (.ref x2), some (.int x3), none, none, none, none, none, none, none, none, none, none, none, none, none] [] h nc ns := by
  intro n
  induction n with
  | zero =>
    intro x3 h nc ns hnc hns hf
    exact absurd (show (none : Option (Int32 × abH)) = some _ from hf) (by simp)
  | succ n ih =>
    intro x3 h nc ns hnc hns hf
    rw [F_L_law_B15.eq_2] at hf
    refine ab_iload_n 3 dL_law_15 rfl rfl ?_
    refine ab_iconst dL_law_16 kic_2 ?_
    refine ab_icmp_ge 743 dL_law_17 (by decide) hf (fun hf => ?_) (fun hf => ?_)
    · refine ab_bipush dL_law_20 kbp_29 ?_
      refine ab_iload_n 3 dL_law_22 rfl rfl ?_
      refine ab_imul dL_law_23 ?_
      refine ab_nmi hf (fun v4 hf => ?_)
      refine ab_istore [some (.ref 0), some (.ref x1), some (.ref x2), some (.int x3), some (.int v4), none, none, none, none, none, none, none, none, none, none, none, none] dL_law_24 (by decide) rfl rfl ?_
      refine ab_aload_n 1 dL_law_26 rfl rfl ?_
      refine ab_aload_n 0 dL_law_27 rfl rfl ?_
      refine ab_iload dL_law_28 rfl ?_
      refine f_Sx (As := [.ref 0, .int v4]) (st := [.ref x1]) cs_L_62 (fun v q => m_L_cell L xs v4 q) rfl rfl dL_law_30 (rmk2 (by decide) (by decide) (Nat.le_of_ble_eq_true rfl) (by omega) (by omega)) hf (fun v5 hf => ?_)
      refine ab_aload_n 0 dL_law_33 rfl rfl ?_
      refine ab_iload dL_law_34 rfl ?_
      refine ab_iconst dL_law_36 kic_1 ?_
      refine ab_iadd dL_law_37 ?_
      refine f_Sx (As := [.ref 0, .int (v4 + 1)]) (st := [.int v5, .ref x1]) cs_L_62 (fun v q => m_L_cell L xs (v4 + 1) q) rfl rfl dL_law_38 (rmk2 (by decide) (by decide) (Nat.le_of_ble_eq_true rfl) (by omega) (by omega)) hf (fun v6 hf => ?_)
      refine ab_aload_n 0 dL_law_41 rfl rfl ?_
      refine ab_iload dL_law_42 rfl ?_
      refine ab_iconst dL_law_44 kic_2 ?_
      refine ab_iadd dL_law_45 ?_
      refine f_Sx (As := [.ref 0, .int (v4 + 2)]) (st := [.int v6, .int v5, .ref x1]) cs_L_62 (fun v q => m_L_cell L xs (v4 + 2) q) rfl rfl dL_law_46 (rmk2 (by decide) (by decide) (Nat.le_of_ble_eq_true rfl) (by omega) (by omega)) hf (fun v7 hf => ?_)
      refine ab_aload_n 2 dL_law_49 rfl rfl ?_
      refine f_S_i2 (As := [.ref x1, .int v5, .int v6, .int v7, .ref x2]) (st := []) cs_L_65 (fun v hq q => m_L_court x1 v5 v6 v7 x2 h q) rfl rfl dL_law_50 (rmk2 (by decide) (by decide) (Nat.le_of_ble_eq_true rfl) (by omega) (by omega)) hf (fun v9 h8 hf => ?_)
      refine ab_if_eq 65 dL_law_53 (by decide) hf (fun hf => ?_) (fun hf => ?_)
      · refine ab_iconst dL_law_65 kic_0 ?_
        exact f_retzc2 rfl dL_law_66 rfl (by omega) (by omega) hf
      refine ab_aload_n 1 dL_law_56 rfl rfl ?_
      refine ab_aload_n 2 dL_law_57 rfl rfl ?_
      refine ab_iconst dL_law_58 kic_3 ?_
      refine f_S_i2 (As := [.ref x1, .ref x2, .int 3]) (st := []) cs_L_68 (fun v hq q => m_L_told x1 x2 3 h8 q) rfl rfl dL_law_59 (rmk2 (by decide) (by decide) (Nat.le_of_ble_eq_true rfl) (by omega) (by omega)) hf (fun v11 h10 hf => ?_)
      refine ab_if_ne 67 dL_law_62 (by decide) hf (fun hf => ?_) (fun hf => ?_)
      · refine ab_iconst dL_law_65 kic_0 ?_
        exact f_retzc2 rfl dL_law_66 rfl (by omega) (by omega) hf
      refine ab_iconst dL_law_67 kic_0 ?_
      refine ab_istore [some (.ref 0), some (.ref x1), some (.ref x2), some (.int x3), some (.int v4), some (.int 0), none, none, none, none, none, none, none, none, none, none, none] dL_law_68 (by decide) rfl rfl ?_
      exact ab_msk [true, true, true, true, true, true, true, true, true, true, true, true, true, true, true, true, true] (w_L_law_B70 nc (by omega) L xs x1 x2 x3 v4 (fun u3 hu => F_L_law_B15 L xs x1 x2 n u3 hu) (fun u3 hu nw nsw q1 q2 hf => ih u3 hu nw nsw (by omega) (by omega) hf) 200 0 h10 _ _ (by omega) (by omega) hf)
    refine ab_iconst dL_law_743 kic_1 ?_
    exact f_retzc2 rfl dL_law_744 rfl (by omega) (by omega) hf
def F_L_law (L : Nat) (xs : Nat → Int32) (h : abH) : Option (Int32 × abH) :=
  nm (h ++ [.inr (.inr (11, [.null, .null, .null, .null, .null, .null, .null, .int 0, .int 0]))]) fun h1 =>
  (F_X11_init (h.length + 3) h1).bind fun h2 =>
  nm (h2 ++ [.inl (0, 39, fun _ => 0)]) fun h3 =>
  F_L_law_B15 L xs (h.length + 3) (h2.length + 3) 200 0 h3
theorem w_L_law {z0 : Int32} {hz : abH} (L : Nat) (xs : Nat → Int32) (h : abH) (hf : F_L_law L xs h = some (z0, hz)) : abW cL_law 17 RL (some .boolean) false 13 771906 6786530 (some (L, xs)) (some (.int z0), hz) 0 [some (.ref 0), none, none, none, none, none, none, none, none, none, none, none, none, none, none, none, none] [] h 0 0 := by
  unfold F_L_law at hf
  refine ab_new ns_L_9 dL_law_0 (by omega) (by omega) ?_
  refine ab_nmh hf (fun h1 hf => ?_)
  refine ab_dup dL_law_3 rfl ?_
  refine f_I_v2 (As := []) (st := [.ref (h.length + 3)]) rfl rfl cs_L_61 (fun hq q => m_X11_init (h.length + 3) h1 q) rfl rfl dL_law_4 (rmk2 (by decide) (by decide) (Nat.le_of_ble_eq_true rfl) (by omega) (by omega)) hf (fun h2 hf => ?_)
  refine ab_astore_n 1 [some (.ref 0), some (.ref (h.length + 3)), none, none, none, none, none, none, none, none, none, none, none, none, none, none, none] dL_law_7 rfl (by decide) rfl rfl ?_
  refine ab_bipush dL_law_8 kbp_39 ?_
  refine ab_newa (a := .int) 0 39 tb_117 (by simp) (by decide) (by decide +kernel) (by decide) dL_law_10 (by omega) (by omega) ?_
  refine ab_nmh hf (fun h3 hf => ?_)
  refine ab_astore_n 2 [some (.ref 0), some (.ref (h.length + 3)), some (.ref (h2.length + 3)), none, none, none, none, none, none, none, none, none, none, none, none, none, none] dL_law_12 rfl (by decide) rfl rfl ?_
  refine ab_iconst dL_law_13 kic_0 ?_
  refine ab_istore_n 3 [some (.ref 0), some (.ref (h.length + 3)), some (.ref (h2.length + 3)), some (.int 0), none, none, none, none, none, none, none, none, none, none, none, none, none] dL_law_14 rfl (by decide) rfl rfl ?_
  exact ab_msk [true, true, true, true, true, true, true, true, true, true, true, true, true, true, true, true, true] (w_L_law_B15 L xs (h.length + 3) (h2.length + 3) 200 0 h3 _ _ (by omega) (by omega) hf)
