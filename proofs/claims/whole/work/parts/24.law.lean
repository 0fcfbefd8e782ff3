def F_L_law_B152 (L : Nat) (xs : Nat → Int32) (x1 : Nat) (x2 : Nat) (x3 : Int32) (h : abH) (k18 : Int32 → abH → Option (Int32 × abH)) : Option (Int32 × abH) :=
  (sx L xs (x3 + 1)).bind fun v7 =>
  (ko 11 h x1).bind fun _ => bd2 (F_X11_letter x1 v7 h) fun v9 h8 =>
  (sx L xs (x3 + 1)).bind fun v10 =>
  (ko 12 h8 x2).bind fun _ => bd2 (F_X12_letter x2 v10 h8) fun v12 h11 =>
  if v9 = v12 then
    k18 (x3 + 6) h11
  else
    some (0, h11)
theorem w_L_law_B152 {z0 : Int32} {hz : abH} (M : Nat) (L : Nat) (xs : Nat → Int32) (x1 : Nat) (x2 : Nat) (x3 : Int32) (h : abH) (k18 : Int32 → abH → Option (Int32 × abH)) (hk18 : ∀ (w3 : Int32) (hw : abH) (nw nsw : Nat), nw ≤ M + 6 → nsw ≤ 2 * nw + 1000 → k18 w3 hw = some (z0, hz) → abW cL_law 4 RL (some .boolean) false 13 600000 7302250 (some (L, xs)) (some (.int z0), hz) 18 [some (.ref 0), some (.ref x1), some (.ref x2), some (.int w3)] [] hw nw nsw) {nc ns : Nat} (hM : M + 12 ≤ 600000) (hnc : nc ≤ M) (hns : ns ≤ 2 * nc + 1000) (hf : F_L_law_B152 L xs x1 x2 x3 h k18 = some (z0, hz)) : abW cL_law 4 RL (some .boolean) false 13 600000 7302250 (some (L, xs)) (some (.int z0), hz) 152 [some (.ref 0), some (.ref x1), some (.ref x2), some (.int x3)] [] h nc ns := by
  unfold F_L_law_B152 at hf
  refine ab_aload_n 1 dL_law_152 rfl rfl ?_
  refine ab_aload_n 0 dL_law_153 rfl rfl ?_
  refine ab_iload_n 3 dL_law_154 rfl rfl ?_
  refine ab_iconst dL_law_155 kic_1 ?_
  refine ab_iadd dL_law_156 ?_
  refine f_sld dL_law_157 hf (fun v7 hf => ?_)
  refine f_V_i2 (As := [.int v7]) (st := []) cs_L_13 (fun v hq q => m_X11_letter x1 v7 h q) rfl rfl dL_law_158 (rmk2 (by decide) (by decide) (Nat.le_of_ble_eq_true rfl) (by omega) (by omega)) hf (fun v9 h8 hf => ?_)
  refine ab_aload_n 2 dL_law_161 rfl rfl ?_
  refine ab_aload_n 0 dL_law_162 rfl rfl ?_
  refine ab_iload_n 3 dL_law_163 rfl rfl ?_
  refine ab_iconst dL_law_164 kic_1 ?_
  refine ab_iadd dL_law_165 ?_
  refine f_sld dL_law_166 hf (fun v10 hf => ?_)
  refine f_V_i2 (As := [.int v10]) (st := [.int v9]) cs_L_17 (fun v hq q => m_X12_letter x2 v10 h8 q) rfl rfl dL_law_167 (rmk2 (by decide) (by decide) (Nat.le_of_ble_eq_true rfl) (by omega) (by omega)) hf (fun v12 h11 hf => ?_)
  refine ab_icmp_eq 907 dL_law_170 (by decide) hf (fun hf => ?_) (fun hf => ?_)
  · refine ab_iinc (v := x3 + 6) [some (.ref 0), some (.ref x1), some (.ref x2), some (.int (x3 + 6))] dL_law_907 rfl (kinc_6 _) (by decide) rfl rfl ?_
    refine ab_goto 18 dL_law_910 (by decide) ?_
    exact ab_msk [true, true, true, true] (hk18 (x3 + 6) h11 _ _ (by omega) (by omega) hf)
  refine ab_iconst dL_law_173 kic_0 ?_
  exact f_retzc2 rfl dL_law_174 rfl (by omega) (by omega) hf
def F_L_law_B175 (L : Nat) (xs : Nat → Int32) (x1 : Nat) (x2 : Nat) (x3 : Int32) (h : abH) (k18 : Int32 → abH → Option (Int32 × abH)) : Option (Int32 × abH) :=
  (ko 11 h x1).bind fun _ => bd2 (F_X11_blank x1 h) fun v14 h13 =>
  (ko 12 h13 x2).bind fun _ => bd2 (F_X12_blank x2 h13) fun v16 h15 =>
  if v14 = v16 then
    k18 (x3 + 6) h15
  else
    some (0, h15)
theorem w_L_law_B175 {z0 : Int32} {hz : abH} (M : Nat) (L : Nat) (xs : Nat → Int32) (x1 : Nat) (x2 : Nat) (x3 : Int32) (h : abH) (k18 : Int32 → abH → Option (Int32 × abH)) (hk18 : ∀ (w3 : Int32) (hw : abH) (nw nsw : Nat), nw ≤ M + 6 → nsw ≤ 2 * nw + 1000 → k18 w3 hw = some (z0, hz) → abW cL_law 4 RL (some .boolean) false 13 600000 7302250 (some (L, xs)) (some (.int z0), hz) 18 [some (.ref 0), some (.ref x1), some (.ref x2), some (.int w3)] [] hw nw nsw) {nc ns : Nat} (hM : M + 12 ≤ 600000) (hnc : nc ≤ M) (hns : ns ≤ 2 * nc + 1000) (hf : F_L_law_B175 L xs x1 x2 x3 h k18 = some (z0, hz)) : abW cL_law 4 RL (some .boolean) false 13 600000 7302250 (some (L, xs)) (some (.int z0), hz) 175 [some (.ref 0), some (.ref x1), some (.ref x2), some (.int x3)] [] h nc ns := by
  unfold F_L_law_B175 at hf
  refine ab_aload_n 1 dL_law_175 rfl rfl ?_
  refine f_V_i2 (As := []) (st := []) cs_L_18 (fun v hq q => m_X11_blank x1 h q) rfl rfl dL_law_176 (rmk2 (by decide) (by decide) (Nat.le_of_ble_eq_true rfl) (by omega) (by omega)) hf (fun v14 h13 hf => ?_)
  refine ab_aload_n 2 dL_law_179 rfl rfl ?_
  refine f_V_i2 (As := []) (st := [.int v14]) cs_L_22 (fun v hq q => m_X12_blank x2 h13 q) rfl rfl dL_law_180 (rmk2 (by decide) (by decide) (Nat.le_of_ble_eq_true rfl) (by omega) (by omega)) hf (fun v16 h15 hf => ?_)
  refine ab_icmp_eq 907 dL_law_183 (by decide) hf (fun hf => ?_) (fun hf => ?_)
  · refine ab_iinc (v := x3 + 6) [some (.ref 0), some (.ref x1), some (.ref x2), some (.int (x3 + 6))] dL_law_907 rfl (kinc_6 _) (by decide) rfl rfl ?_
    refine ab_goto 18 dL_law_910 (by decide) ?_
    exact ab_msk [true, true, true, true] (hk18 (x3 + 6) h15 _ _ (by omega) (by omega) hf)
  refine ab_iconst dL_law_186 kic_0 ?_
  exact f_retzc2 rfl dL_law_187 rfl (by omega) (by omega) hf
def F_L_law_B188 (L : Nat) (xs : Nat → Int32) (x1 : Nat) (x2 : Nat) (x3 : Int32) (h : abH) (k18 : Int32 → abH → Option (Int32 × abH)) : Option (Int32 × abH) :=
  (ko 11 h x1).bind fun _ => (F_X11_fault x1 h).bind fun v17 =>
  (ko 12 h x2).bind fun _ => bd2 (F_X12_fault x2 h) fun v19 h18 =>
  if v17 = v19 then
    k18 (x3 + 6) h18
  else
    some (0, h18)
theorem w_L_law_B188 {z0 : Int32} {hz : abH} (M : Nat) (L : Nat) (xs : Nat → Int32) (x1 : Nat) (x2 : Nat) (x3 : Int32) (h : abH) (k18 : Int32 → abH → Option (Int32 × abH)) (hk18 : ∀ (w3 : Int32) (hw : abH) (nw nsw : Nat), nw ≤ M + 6 → nsw ≤ 2 * nw + 1000 → k18 w3 hw = some (z0, hz) → abW cL_law 4 RL (some .boolean) false 13 600000 7302250 (some (L, xs)) (some (.int z0), hz) 18 [some (.ref 0), some (.ref x1), some (.ref x2), some (.int w3)] [] hw nw nsw) {nc ns : Nat} (hM : M + 12 ≤ 600000) (hnc : nc ≤ M) (hns : ns ≤ 2 * nc + 1000) (hf : F_L_law_B188 L xs x1 x2 x3 h k18 = some (z0, hz)) : abW cL_law 4 RL (some .boolean) false 13 600000 7302250 (some (L, xs)) (some (.int z0), hz) 188 [some (.ref 0), some (.ref x1), some (.ref x2), some (.int x3)] [] h nc ns := by
  unfold F_L_law_B188 at hf
  refine ab_aload_n 1 dL_law_188 rfl rfl ?_
  refine f_V_i (As := []) (st := []) cs_L_23 (fun v q => m_X11_fault x1 h q) rfl rfl dL_law_189 (rmk2 (by decide) (by decide) (Nat.le_of_ble_eq_true rfl) (by omega) (by omega)) hf (fun v17 hf => ?_)
  refine ab_aload_n 2 dL_law_192 rfl rfl ?_
  refine f_V_i2 (As := []) (st := [.int v17]) cs_L_26 (fun v hq q => m_X12_fault x2 h q) rfl rfl dL_law_193 (rmk2 (by decide) (by decide) (Nat.le_of_ble_eq_true rfl) (by omega) (by omega)) hf (fun v19 h18 hf => ?_)
  refine ab_icmp_eq 907 dL_law_196 (by decide) hf (fun hf => ?_) (fun hf => ?_)
  · refine ab_iinc (v := x3 + 6) [some (.ref 0), some (.ref x1), some (.ref x2), some (.int (x3 + 6))] dL_law_907 rfl (kinc_6 _) (by decide) rfl rfl ?_
    refine ab_goto 18 dL_law_910 (by decide) ?_
    exact ab_msk [true, true, true, true] (hk18 (x3 + 6) h18 _ _ (by omega) (by omega) hf)
  refine ab_iconst dL_law_199 kic_0 ?_
  exact f_retzc2 rfl dL_law_200 rfl (by omega) (by omega) hf
def F_L_law_B201 (L : Nat) (xs : Nat → Int32) (x1 : Nat) (x2 : Nat) (x3 : Int32) (h : abH) (k18 : Int32 → abH → Option (Int32 × abH)) : Option (Int32 × abH) :=
  (ko 11 h x1).bind fun _ => bd2 (F_X11_court x1 h) fun v21 h20 =>
  (ko 12 h20 x2).bind fun _ => bd2 (F_X12_court x2 h20) fun v23 h22 =>
  if v21 = v23 then
    k18 (x3 + 6) h22
  else
    some (0, h22)
theorem w_L_law_B201 {z0 : Int32} {hz : abH} (M : Nat) (L : Nat) (xs : Nat → Int32) (x1 : Nat) (x2 : Nat) (x3 : Int32) (h : abH) (k18 : Int32 → abH → Option (Int32 × abH)) (hk18 : ∀ (w3 : Int32) (hw : abH) (nw nsw : Nat), nw ≤ M + 6 → nsw ≤ 2 * nw + 1000 → k18 w3 hw = some (z0, hz) → abW cL_law 4 RL (some .boolean) false 13 600000 7302250 (some (L, xs)) (some (.int z0), hz) 18 [some (.ref 0), some (.ref x1), some (.ref x2), some (.int w3)] [] hw nw nsw) {nc ns : Nat} (hM : M + 12 ≤ 600000) (hnc : nc ≤ M) (hns : ns ≤ 2 * nc + 1000) (hf : F_L_law_B201 L xs x1 x2 x3 h k18 = some (z0, hz)) : abW cL_law 4 RL (some .boolean) false 13 600000 7302250 (some (L, xs)) (some (.int z0), hz) 201 [some (.ref 0), some (.ref x1), some (.ref x2), some (.int x3)] [] h nc ns := by
  unfold F_L_law_B201 at hf
  refine ab_aload_n 1 dL_law_201 rfl rfl ?_
  refine f_V_i2 (As := []) (st := []) cs_L_27 (fun v hq q => m_X11_court x1 h q) rfl rfl dL_law_202 (rmk2 (by decide) (by decide) (Nat.le_of_ble_eq_true rfl) (by omega) (by omega)) hf (fun v21 h20 hf => ?_)
  refine ab_aload_n 2 dL_law_205 rfl rfl ?_
  refine f_V_i2 (As := []) (st := [.int v21]) cs_L_30 (fun v hq q => m_X12_court x2 h20 q) rfl rfl dL_law_206 (rmk2 (by decide) (by decide) (Nat.le_of_ble_eq_true rfl) (by omega) (by omega)) hf (fun v23 h22 hf => ?_)
  refine ab_icmp_eq 907 dL_law_209 (by decide) hf (fun hf => ?_) (fun hf => ?_)
  · refine ab_iinc (v := x3 + 6) [some (.ref 0), some (.ref x1), some (.ref x2), some (.int (x3 + 6))] dL_law_907 rfl (kinc_6 _) (by decide) rfl rfl ?_
    refine ab_goto 18 dL_law_910 (by decide) ?_
    exact ab_msk [true, true, true, true] (hk18 (x3 + 6) h22 _ _ (by omega) (by omega) hf)
  refine ab_iconst dL_law_212 kic_0 ?_
  exact f_retzc2 rfl dL_law_213 rfl (by omega) (by omega) hf
def F_L_law_B214 (L : Nat) (xs : Nat → Int32) (x1 : Nat) (x2 : Nat) (x3 : Int32) (h : abH) (k18 : Int32 → abH → Option (Int32 × abH)) : Option (Int32 × abH) :=
  (sx L xs (x3 + 1)).bind fun v24 =>
  (sx L xs (x3 + 2)).bind fun v25 =>
  (ko 11 h x1).bind fun _ => bd2 (F_X11_party x1 v24 v25 h) fun v27 h26 =>
  (sx L xs (x3 + 1)).bind fun v28 =>
  (sx L xs (x3 + 2)).bind fun v29 =>
  (ko 12 h26 x2).bind fun _ => bd2 (F_X12_party x2 v28 v29 h26) fun v31 h30 =>
  if v27 = v31 then
    k18 (x3 + 6) h30
  else
    some (0, h30)
theorem w_L_law_B214 {z0 : Int32} {hz : abH} (M : Nat) (L : Nat) (xs : Nat → Int32) (x1 : Nat) (x2 : Nat) (x3 : Int32) (h : abH) (k18 : Int32 → abH → Option (Int32 × abH)) (hk18 : ∀ (w3 : Int32) (hw : abH) (nw nsw : Nat), nw ≤ M + 6 → nsw ≤ 2 * nw + 1000 → k18 w3 hw = some (z0, hz) → abW cL_law 4 RL (some .boolean) false 13 600000 7302250 (some (L, xs)) (some (.int z0), hz) 18 [some (.ref 0), some (.ref x1), some (.ref x2), some (.int w3)] [] hw nw nsw) {nc ns : Nat} (hM : M + 12 ≤ 600000) (hnc : nc ≤ M) (hns : ns ≤ 2 * nc + 1000) (hf : F_L_law_B214 L xs x1 x2 x3 h k18 = some (z0, hz)) : abW cL_law 4 RL (some .boolean) false 13 600000 7302250 (some (L, xs)) (some (.int z0), hz) 214 [some (.ref 0), some (.ref x1), some (.ref x2), some (.int x3)] [] h nc ns := by
  unfold F_L_law_B214 at hf
  refine ab_aload_n 1 dL_law_214 rfl rfl ?_
  refine ab_aload_n 0 dL_law_215 rfl rfl ?_
  refine ab_iload_n 3 dL_law_216 rfl rfl ?_
  refine ab_iconst dL_law_217 kic_1 ?_
  refine ab_iadd dL_law_218 ?_
  refine f_sld dL_law_219 hf (fun v24 hf => ?_)
  refine ab_aload_n 0 dL_law_220 rfl rfl ?_
  refine ab_iload_n 3 dL_law_221 rfl rfl ?_
  refine ab_iconst dL_law_222 kic_2 ?_
  refine ab_iadd dL_law_223 ?_
  refine f_sld dL_law_224 hf (fun v25 hf => ?_)
  refine f_V_i2 (As := [.int v24, .int v25]) (st := []) cs_L_31 (fun v hq q => m_X11_party x1 v24 v25 h q) rfl rfl dL_law_225 (rmk2 (by decide) (by decide) (Nat.le_of_ble_eq_true rfl) (by omega) (by omega)) hf (fun v27 h26 hf => ?_)
  refine ab_aload_n 2 dL_law_228 rfl rfl ?_
  refine ab_aload_n 0 dL_law_229 rfl rfl ?_
  refine ab_iload_n 3 dL_law_230 rfl rfl ?_
  refine ab_iconst dL_law_231 kic_1 ?_
  refine ab_iadd dL_law_232 ?_
  refine f_sld dL_law_233 hf (fun v28 hf => ?_)
  refine ab_aload_n 0 dL_law_234 rfl rfl ?_
  refine ab_iload_n 3 dL_law_235 rfl rfl ?_
  refine ab_iconst dL_law_236 kic_2 ?_
  refine ab_iadd dL_law_237 ?_
  refine f_sld dL_law_238 hf (fun v29 hf => ?_)
  refine f_V_i2 (As := [.int v28, .int v29]) (st := [.int v27]) cs_L_35 (fun v hq q => m_X12_party x2 v28 v29 h26 q) rfl rfl dL_law_239 (rmk2 (by decide) (by decide) (Nat.le_of_ble_eq_true rfl) (by omega) (by omega)) hf (fun v31 h30 hf => ?_)
  refine ab_icmp_eq 907 dL_law_242 (by decide) hf (fun hf => ?_) (fun hf => ?_)
  · refine ab_iinc (v := x3 + 6) [some (.ref 0), some (.ref x1), some (.ref x2), some (.int (x3 + 6))] dL_law_907 rfl (kinc_6 _) (by decide) rfl rfl ?_
    refine ab_goto 18 dL_law_910 (by decide) ?_
    exact ab_msk [true, true, true, true] (hk18 (x3 + 6) h30 _ _ (by omega) (by omega) hf)
  refine ab_iconst dL_law_245 kic_0 ?_
  exact f_retzc2 rfl dL_law_246 rfl (by omega) (by omega) hf
def F_L_law_B247 (L : Nat) (xs : Nat → Int32) (x1 : Nat) (x2 : Nat) (x3 : Int32) (h : abH) (k18 : Int32 → abH → Option (Int32 × abH)) : Option (Int32 × abH) :=
  (sx L xs (x3 + 1)).bind fun v32 =>
  (sx L xs (x3 + 2)).bind fun v33 =>
  (ko 11 h x1).bind fun _ => (F_X11_as x1 v32 v33 h).bind fun v34 =>
  (sx L xs (x3 + 1)).bind fun v35 =>
  (sx L xs (x3 + 2)).bind fun v36 =>
  (ko 12 h x2).bind fun _ => (F_X12_as x2 v35 v36 h).bind fun v37 =>
  if v34 = v37 then
    k18 (x3 + 6) h
  else
    some (0, h)
theorem w_L_law_B247 {z0 : Int32} {hz : abH} (M : Nat) (L : Nat) (xs : Nat → Int32) (x1 : Nat) (x2 : Nat) (x3 : Int32) (h : abH) (k18 : Int32 → abH → Option (Int32 × abH)) (hk18 : ∀ (w3 : Int32) (hw : abH) (nw nsw : Nat), nw ≤ M + 6 → nsw ≤ 2 * nw + 1000 → k18 w3 hw = some (z0, hz) → abW cL_law 4 RL (some .boolean) false 13 600000 7302250 (some (L, xs)) (some (.int z0), hz) 18 [some (.ref 0), some (.ref x1), some (.ref x2), some (.int w3)] [] hw nw nsw) {nc ns : Nat} (hM : M + 12 ≤ 600000) (hnc : nc ≤ M) (hns : ns ≤ 2 * nc + 1000) (hf : F_L_law_B247 L xs x1 x2 x3 h k18 = some (z0, hz)) : abW cL_law 4 RL (some .boolean) false 13 600000 7302250 (some (L, xs)) (some (.int z0), hz) 247 [some (.ref 0), some (.ref x1), some (.ref x2), some (.int x3)] [] h nc ns := by
  unfold F_L_law_B247 at hf
  refine ab_aload_n 1 dL_law_247 rfl rfl ?_
  refine ab_aload_n 0 dL_law_248 rfl rfl ?_
  refine ab_iload_n 3 dL_law_249 rfl rfl ?_
  refine ab_iconst dL_law_250 kic_1 ?_
  refine ab_iadd dL_law_251 ?_
  refine f_sld dL_law_252 hf (fun v32 hf => ?_)
  refine ab_aload_n 0 dL_law_253 rfl rfl ?_
  refine ab_iload_n 3 dL_law_254 rfl rfl ?_
  refine ab_iconst dL_law_255 kic_2 ?_
  refine ab_iadd dL_law_256 ?_
  refine f_sld dL_law_257 hf (fun v33 hf => ?_)
  refine f_V_i (As := [.int v32, .int v33]) (st := []) cs_L_36 (fun v q => m_X11_as x1 v32 v33 h q) rfl rfl dL_law_258 (rmk2 (by decide) (by decide) (Nat.le_of_ble_eq_true rfl) (by omega) (by omega)) hf (fun v34 hf => ?_)
  refine ab_aload_n 2 dL_law_261 rfl rfl ?_
  refine ab_aload_n 0 dL_law_262 rfl rfl ?_
  refine ab_iload_n 3 dL_law_263 rfl rfl ?_
  refine ab_iconst dL_law_264 kic_1 ?_
  refine ab_iadd dL_law_265 ?_
  refine f_sld dL_law_266 hf (fun v35 hf => ?_)
  refine ab_aload_n 0 dL_law_267 rfl rfl ?_
  refine ab_iload_n 3 dL_law_268 rfl rfl ?_
  refine ab_iconst dL_law_269 kic_2 ?_
  refine ab_iadd dL_law_270 ?_
  refine f_sld dL_law_271 hf (fun v36 hf => ?_)
  refine f_V_i (As := [.int v35, .int v36]) (st := [.int v34]) cs_L_39 (fun v q => m_X12_as x2 v35 v36 h q) rfl rfl dL_law_272 (rmk2 (by decide) (by decide) (Nat.le_of_ble_eq_true rfl) (by omega) (by omega)) hf (fun v37 hf => ?_)
  refine ab_icmp_eq 907 dL_law_275 (by decide) hf (fun hf => ?_) (fun hf => ?_)
  · refine ab_iinc (v := x3 + 6) [some (.ref 0), some (.ref x1), some (.ref x2), some (.int (x3 + 6))] dL_law_907 rfl (kinc_6 _) (by decide) rfl rfl ?_
    refine ab_goto 18 dL_law_910 (by decide) ?_
    exact ab_msk [true, true, true, true] (hk18 (x3 + 6) h _ _ (by omega) (by omega) hf)
  refine ab_iconst dL_law_278 kic_0 ?_
  exact f_retzc2 rfl dL_law_279 rfl (by omega) (by omega) hf
def F_L_law_B280 (L : Nat) (xs : Nat → Int32) (x1 : Nat) (x2 : Nat) (x3 : Int32) (h : abH) (k18 : Int32 → abH → Option (Int32 × abH)) : Option (Int32 × abH) :=
  (sx L xs (x3 + 1)).bind fun v38 =>
  (sx L xs (x3 + 2)).bind fun v39 =>
  (ko 11 h x1).bind fun _ => (F_X11_covers x1 v38 v39 h).bind fun v40 =>
  (sx L xs (x3 + 1)).bind fun v41 =>
  (sx L xs (x3 + 2)).bind fun v42 =>
  (ko 12 h x2).bind fun _ => (F_X12_covers x2 v41 v42 h).bind fun v43 =>
  if v40 = v43 then
    k18 (x3 + 6) h
  else
    some (0, h)
theorem w_L_law_B280 {z0 : Int32} {hz : abH} (M : Nat) (L : Nat) (xs : Nat → Int32) (x1 : Nat) (x2 : Nat) (x3 : Int32) (h : abH) (k18 : Int32 → abH → Option (Int32 × abH)) (hk18 : ∀ (w3 : Int32) (hw : abH) (nw nsw : Nat), nw ≤ M + 6 → nsw ≤ 2 * nw + 1000 → k18 w3 hw = some (z0, hz) → abW cL_law 4 RL (some .boolean) false 13 600000 7302250 (some (L, xs)) (some (.int z0), hz) 18 [some (.ref 0), some (.ref x1), some (.ref x2), some (.int w3)] [] hw nw nsw) {nc ns : Nat} (hM : M + 12 ≤ 600000) (hnc : nc ≤ M) (hns : ns ≤ 2 * nc + 1000) (hf : F_L_law_B280 L xs x1 x2 x3 h k18 = some (z0, hz)) : abW cL_law 4 RL (some .boolean) false 13 600000 7302250 (some (L, xs)) (some (.int z0), hz) 280 [some (.ref 0), some (.ref x1), some (.ref x2), some (.int x3)] [] h nc ns := by
  unfold F_L_law_B280 at hf
  refine ab_aload_n 1 dL_law_280 rfl rfl ?_
  refine ab_aload_n 0 dL_law_281 rfl rfl ?_
  refine ab_iload_n 3 dL_law_282 rfl rfl ?_
  refine ab_iconst dL_law_283 kic_1 ?_
  refine ab_iadd dL_law_284 ?_
  refine f_sld dL_law_285 hf (fun v38 hf => ?_)
  refine ab_aload_n 0 dL_law_286 rfl rfl ?_
  refine ab_iload_n 3 dL_law_287 rfl rfl ?_
  refine ab_iconst dL_law_288 kic_2 ?_
  refine ab_iadd dL_law_289 ?_
  refine f_sld dL_law_290 hf (fun v39 hf => ?_)
  refine f_V_i (As := [.int v38, .int v39]) (st := []) cs_L_40 (fun v q => m_X11_covers x1 v38 v39 h q) rfl rfl dL_law_291 (rmk2 (by decide) (by decide) (Nat.le_of_ble_eq_true rfl) (by omega) (by omega)) hf (fun v40 hf => ?_)
  refine ab_aload_n 2 dL_law_294 rfl rfl ?_
  refine ab_aload_n 0 dL_law_295 rfl rfl ?_
  refine ab_iload_n 3 dL_law_296 rfl rfl ?_
  refine ab_iconst dL_law_297 kic_1 ?_
  refine ab_iadd dL_law_298 ?_
  refine f_sld dL_law_299 hf (fun v41 hf => ?_)
  refine ab_aload_n 0 dL_law_300 rfl rfl ?_
  refine ab_iload_n 3 dL_law_301 rfl rfl ?_
  refine ab_iconst dL_law_302 kic_2 ?_
  refine ab_iadd dL_law_303 ?_
  refine f_sld dL_law_304 hf (fun v42 hf => ?_)
  refine f_V_i (As := [.int v41, .int v42]) (st := [.int v40]) cs_L_43 (fun v q => m_X12_covers x2 v41 v42 h q) rfl rfl dL_law_305 (rmk2 (by decide) (by decide) (Nat.le_of_ble_eq_true rfl) (by omega) (by omega)) hf (fun v43 hf => ?_)
  refine ab_icmp_eq 907 dL_law_308 (by decide) hf (fun hf => ?_) (fun hf => ?_)
  · refine ab_iinc (v := x3 + 6) [some (.ref 0), some (.ref x1), some (.ref x2), some (.int (x3 + 6))] dL_law_907 rfl (kinc_6 _) (by decide) rfl rfl ?_
    refine ab_goto 18 dL_law_910 (by decide) ?_
    exact ab_msk [true, true, true, true] (hk18 (x3 + 6) h _ _ (by omega) (by omega) hf)
  refine ab_iconst dL_law_311 kic_0 ?_
  exact f_retzc2 rfl dL_law_312 rfl (by omega) (by omega) hf
def F_L_law_B313 (L : Nat) (xs : Nat → Int32) (x1 : Nat) (x2 : Nat) (x3 : Int32) (h : abH) (k18 : Int32 → abH → Option (Int32 × abH)) : Option (Int32 × abH) :=
  (sx L xs (x3 + 1)).bind fun v44 =>
  (sx L xs (x3 + 2)).bind fun v45 =>
  (ko 11 h x1).bind fun _ => (F_X11_tile x1 v44 v45 h).bind fun v46 =>
  (sx L xs (x3 + 1)).bind fun v47 =>
  (sx L xs (x3 + 2)).bind fun v48 =>
  (ko 12 h x2).bind fun _ => (F_X12_tile x2 v47 v48 h).bind fun v49 =>
  if v46 = v49 then
    k18 (x3 + 6) h
  else
    some (0, h)
theorem w_L_law_B313 {z0 : Int32} {hz : abH} (M : Nat) (L : Nat) (xs : Nat → Int32) (x1 : Nat) (x2 : Nat) (x3 : Int32) (h : abH) (k18 : Int32 → abH → Option (Int32 × abH)) (hk18 : ∀ (w3 : Int32) (hw : abH) (nw nsw : Nat), nw ≤ M + 6 → nsw ≤ 2 * nw + 1000 → k18 w3 hw = some (z0, hz) → abW cL_law 4 RL (some .boolean) false 13 600000 7302250 (some (L, xs)) (some (.int z0), hz) 18 [some (.ref 0), some (.ref x1), some (.ref x2), some (.int w3)] [] hw nw nsw) {nc ns : Nat} (hM : M + 12 ≤ 600000) (hnc : nc ≤ M) (hns : ns ≤ 2 * nc + 1000) (hf : F_L_law_B313 L xs x1 x2 x3 h k18 = some (z0, hz)) : abW cL_law 4 RL (some .boolean) false 13 600000 7302250 (some (L, xs)) (some (.int z0), hz) 313 [some (.ref 0), some (.ref x1), some (.ref x2), some (.int x3)] [] h nc ns := by
  unfold F_L_law_B313 at hf
  refine ab_aload_n 1 dL_law_313 rfl rfl ?_
  refine ab_aload_n 0 dL_law_314 rfl rfl ?_
  refine ab_iload_n 3 dL_law_315 rfl rfl ?_
  refine ab_iconst dL_law_316 kic_1 ?_
  refine ab_iadd dL_law_317 ?_
  refine f_sld dL_law_318 hf (fun v44 hf => ?_)
  refine ab_aload_n 0 dL_law_319 rfl rfl ?_
  refine ab_iload_n 3 dL_law_320 rfl rfl ?_
  refine ab_iconst dL_law_321 kic_2 ?_
  refine ab_iadd dL_law_322 ?_
  refine f_sld dL_law_323 hf (fun v45 hf => ?_)
  refine f_V_i (As := [.int v44, .int v45]) (st := []) cs_L_44 (fun v q => m_X11_tile x1 v44 v45 h q) rfl rfl dL_law_324 (rmk2 (by decide) (by decide) (Nat.le_of_ble_eq_true rfl) (by omega) (by omega)) hf (fun v46 hf => ?_)
  refine ab_aload_n 2 dL_law_327 rfl rfl ?_
  refine ab_aload_n 0 dL_law_328 rfl rfl ?_
  refine ab_iload_n 3 dL_law_329 rfl rfl ?_
  refine ab_iconst dL_law_330 kic_1 ?_
  refine ab_iadd dL_law_331 ?_
  refine f_sld dL_law_332 hf (fun v47 hf => ?_)
  refine ab_aload_n 0 dL_law_333 rfl rfl ?_
  refine ab_iload_n 3 dL_law_334 rfl rfl ?_
  refine ab_iconst dL_law_335 kic_2 ?_
  refine ab_iadd dL_law_336 ?_
  refine f_sld dL_law_337 hf (fun v48 hf => ?_)
  refine f_V_i (As := [.int v47, .int v48]) (st := [.int v46]) cs_L_47 (fun v q => m_X12_tile x2 v47 v48 h q) rfl rfl dL_law_338 (rmk2 (by decide) (by decide) (Nat.le_of_ble_eq_true rfl) (by omega) (by omega)) hf (fun v49 hf => ?_)
  refine ab_icmp_eq 907 dL_law_341 (by decide) hf (fun hf => ?_) (fun hf => ?_)
  · refine ab_iinc (v := x3 + 6) [some (.ref 0), some (.ref x1), some (.ref x2), some (.int (x3 + 6))] dL_law_907 rfl (kinc_6 _) (by decide) rfl rfl ?_
    refine ab_goto 18 dL_law_910 (by decide) ?_
    exact ab_msk [true, true, true, true] (hk18 (x3 + 6) h _ _ (by omega) (by omega) hf)
  refine ab_iconst dL_law_344 kic_0 ?_
  exact f_retzc2 rfl dL_law_345 rfl (by omega) (by omega) hf
def F_L_law_B346 (L : Nat) (xs : Nat → Int32) (x1 : Nat) (x2 : Nat) (x3 : Int32) (h : abH) (k18 : Int32 → abH → Option (Int32 × abH)) : Option (Int32 × abH) :=
  (sx L xs (x3 + 1)).bind fun v50 =>
  (sx L xs (x3 + 2)).bind fun v51 =>
  (sx L xs (x3 + 3)).bind fun v52 =>
  (ko 11 h x1).bind fun _ => (F_X11_found x1 v50 v51 v52 h).bind fun v53 =>
  (sx L xs (x3 + 1)).bind fun v54 =>
  (sx L xs (x3 + 2)).bind fun v55 =>
  (sx L xs (x3 + 3)).bind fun v56 =>
  (ko 12 h x2).bind fun _ => (F_X12_found x2 v54 v55 v56 h).bind fun v57 =>
  if v53 = v57 then
    k18 (x3 + 6) h
  else
    some (0, h)
theorem w_L_law_B346 {z0 : Int32} {hz : abH} (M : Nat) (L : Nat) (xs : Nat → Int32) (x1 : Nat) (x2 : Nat) (x3 : Int32) (h : abH) (k18 : Int32 → abH → Option (Int32 × abH)) (hk18 : ∀ (w3 : Int32) (hw : abH) (nw nsw : Nat), nw ≤ M + 6 → nsw ≤ 2 * nw + 1000 → k18 w3 hw = some (z0, hz) → abW cL_law 4 RL (some .boolean) false 13 600000 7302250 (some (L, xs)) (some (.int z0), hz) 18 [some (.ref 0), some (.ref x1), some (.ref x2), some (.int w3)] [] hw nw nsw) {nc ns : Nat} (hM : M + 12 ≤ 600000) (hnc : nc ≤ M) (hns : ns ≤ 2 * nc + 1000) (hf : F_L_law_B346 L xs x1 x2 x3 h k18 = some (z0, hz)) : abW cL_law 4 RL (some .boolean) false 13 600000 7302250 (some (L, xs)) (some (.int z0), hz) 346 [some (.ref 0), some (.ref x1), some (.ref x2), some (.int x3)] [] h nc ns := by
  unfold F_L_law_B346 at hf
  refine ab_aload_n 1 dL_law_346 rfl rfl ?_
  refine ab_aload_n 0 dL_law_347 rfl rfl ?_
  refine ab_iload_n 3 dL_law_348 rfl rfl ?_
  refine ab_iconst dL_law_349 kic_1 ?_
  refine ab_iadd dL_law_350 ?_
  refine f_sld dL_law_351 hf (fun v50 hf => ?_)
  refine ab_aload_n 0 dL_law_352 rfl rfl ?_
  refine ab_iload_n 3 dL_law_353 rfl rfl ?_
  refine ab_iconst dL_law_354 kic_2 ?_
  refine ab_iadd dL_law_355 ?_
  refine f_sld dL_law_356 hf (fun v51 hf => ?_)
  refine ab_aload_n 0 dL_law_357 rfl rfl ?_
  refine ab_iload_n 3 dL_law_358 rfl rfl ?_
  refine ab_iconst dL_law_359 kic_3 ?_
  refine ab_iadd dL_law_360 ?_
  refine f_sld dL_law_361 hf (fun v52 hf => ?_)
  refine f_V_i (As := [.int v50, .int v51, .int v52]) (st := []) cs_L_48 (fun v q => m_X11_found x1 v50 v51 v52 h q) rfl rfl dL_law_362 (rmk2 (by decide) (by decide) (Nat.le_of_ble_eq_true rfl) (by omega) (by omega)) hf (fun v53 hf => ?_)
  refine ab_aload_n 2 dL_law_365 rfl rfl ?_
  refine ab_aload_n 0 dL_law_366 rfl rfl ?_
  refine ab_iload_n 3 dL_law_367 rfl rfl ?_
  refine ab_iconst dL_law_368 kic_1 ?_
  refine ab_iadd dL_law_369 ?_
  refine f_sld dL_law_370 hf (fun v54 hf => ?_)
  refine ab_aload_n 0 dL_law_371 rfl rfl ?_
  refine ab_iload_n 3 dL_law_372 rfl rfl ?_
  refine ab_iconst dL_law_373 kic_2 ?_
  refine ab_iadd dL_law_374 ?_
  refine f_sld dL_law_375 hf (fun v55 hf => ?_)
  refine ab_aload_n 0 dL_law_376 rfl rfl ?_
  refine ab_iload_n 3 dL_law_377 rfl rfl ?_
  refine ab_iconst dL_law_378 kic_3 ?_
  refine ab_iadd dL_law_379 ?_
  refine f_sld dL_law_380 hf (fun v56 hf => ?_)
  refine f_V_i (As := [.int v54, .int v55, .int v56]) (st := [.int v53]) cs_L_52 (fun v q => m_X12_found x2 v54 v55 v56 h q) rfl rfl dL_law_381 (rmk2 (by decide) (by decide) (Nat.le_of_ble_eq_true rfl) (by omega) (by omega)) hf (fun v57 hf => ?_)
  refine ab_icmp_eq 907 dL_law_384 (by decide) hf (fun hf => ?_) (fun hf => ?_)
  · refine ab_iinc (v := x3 + 6) [some (.ref 0), some (.ref x1), some (.ref x2), some (.int (x3 + 6))] dL_law_907 rfl (kinc_6 _) (by decide) rfl rfl ?_
    refine ab_goto 18 dL_law_910 (by decide) ?_
    exact ab_msk [true, true, true, true] (hk18 (x3 + 6) h _ _ (by omega) (by omega) hf)
  refine ab_iconst dL_law_387 kic_0 ?_
  exact f_retzc2 rfl dL_law_388 rfl (by omega) (by omega) hf
def F_L_law_B389 (L : Nat) (xs : Nat → Int32) (x1 : Nat) (x2 : Nat) (x3 : Int32) (h : abH) (k18 : Int32 → abH → Option (Int32 × abH)) : Option (Int32 × abH) :=
  (ko 11 h x1).bind fun _ => bd2 (F_X11_tick x1 h) fun v59 h58 =>
  (ko 12 h58 x2).bind fun _ => bd2 (F_X12_tick x2 h58) fun v61 h60 =>
  if v59 = v61 then
    k18 (x3 + 6) h60
  else
    some (0, h60)
theorem w_L_law_B389 {z0 : Int32} {hz : abH} (M : Nat) (L : Nat) (xs : Nat → Int32) (x1 : Nat) (x2 : Nat) (x3 : Int32) (h : abH) (k18 : Int32 → abH → Option (Int32 × abH)) (hk18 : ∀ (w3 : Int32) (hw : abH) (nw nsw : Nat), nw ≤ M + 6 → nsw ≤ 2 * nw + 1000 → k18 w3 hw = some (z0, hz) → abW cL_law 4 RL (some .boolean) false 13 600000 7302250 (some (L, xs)) (some (.int z0), hz) 18 [some (.ref 0), some (.ref x1), some (.ref x2), some (.int w3)] [] hw nw nsw) {nc ns : Nat} (hM : M + 12 ≤ 600000) (hnc : nc ≤ M) (hns : ns ≤ 2 * nc + 1000) (hf : F_L_law_B389 L xs x1 x2 x3 h k18 = some (z0, hz)) : abW cL_law 4 RL (some .boolean) false 13 600000 7302250 (some (L, xs)) (some (.int z0), hz) 389 [some (.ref 0), some (.ref x1), some (.ref x2), some (.int x3)] [] h nc ns := by
  unfold F_L_law_B389 at hf
  refine ab_aload_n 1 dL_law_389 rfl rfl ?_
  refine f_V_i2 (As := []) (st := []) cs_L_53 (fun v hq q => m_X11_tick x1 h q) rfl rfl dL_law_390 (rmk2 (by decide) (by decide) (Nat.le_of_ble_eq_true rfl) (by omega) (by omega)) hf (fun v59 h58 hf => ?_)
  refine ab_aload_n 2 dL_law_393 rfl rfl ?_
  refine f_V_i2 (As := []) (st := [.int v59]) cs_L_56 (fun v hq q => m_X12_tick x2 h58 q) rfl rfl dL_law_394 (rmk2 (by decide) (by decide) (Nat.le_of_ble_eq_true rfl) (by omega) (by omega)) hf (fun v61 h60 hf => ?_)
  refine ab_icmp_eq 907 dL_law_397 (by decide) hf (fun hf => ?_) (fun hf => ?_)
  · refine ab_iinc (v := x3 + 6) [some (.ref 0), some (.ref x1), some (.ref x2), some (.int (x3 + 6))] dL_law_907 rfl (kinc_6 _) (by decide) rfl rfl ?_
    refine ab_goto 18 dL_law_910 (by decide) ?_
    exact ab_msk [true, true, true, true] (hk18 (x3 + 6) h60 _ _ (by omega) (by omega) hf)
  refine ab_iconst dL_law_400 kic_0 ?_
  exact f_retzc2 rfl dL_law_401 rfl (by omega) (by omega) hf
def F_L_law_B402 (L : Nat) (xs : Nat → Int32) (x1 : Nat) (x2 : Nat) (x3 : Int32) (h : abH) (k18 : Int32 → abH → Option (Int32 × abH)) : Option (Int32 × abH) :=
  (sx L xs (x3 + 1)).bind fun v62 =>
  (sx L xs (x3 + 2)).bind fun v63 =>
  (ko 11 h x1).bind fun _ => bd2 (F_X11_step x1 v62 v63 h) fun v65 h64 =>
  (sx L xs (x3 + 1)).bind fun v66 =>
  (sx L xs (x3 + 2)).bind fun v67 =>
  (ko 12 h64 x2).bind fun _ => bd2 (F_X12_step x2 v66 v67 h64) fun v69 h68 =>
  if v65 = v69 then
    k18 (x3 + 6) h68
  else
    some (0, h68)
theorem w_L_law_B402 {z0 : Int32} {hz : abH} (M : Nat) (L : Nat) (xs : Nat → Int32) (x1 : Nat) (x2 : Nat) (x3 : Int32) (h : abH) (k18 : Int32 → abH → Option (Int32 × abH)) (hk18 : ∀ (w3 : Int32) (hw : abH) (nw nsw : Nat), nw ≤ M + 6 → nsw ≤ 2 * nw + 1000 → k18 w3 hw = some (z0, hz) → abW cL_law 4 RL (some .boolean) false 13 600000 7302250 (some (L, xs)) (some (.int z0), hz) 18 [some (.ref 0), some (.ref x1), some (.ref x2), some (.int w3)] [] hw nw nsw) {nc ns : Nat} (hM : M + 12 ≤ 600000) (hnc : nc ≤ M) (hns : ns ≤ 2 * nc + 1000) (hf : F_L_law_B402 L xs x1 x2 x3 h k18 = some (z0, hz)) : abW cL_law 4 RL (some .boolean) false 13 600000 7302250 (some (L, xs)) (some (.int z0), hz) 402 [some (.ref 0), some (.ref x1), some (.ref x2), some (.int x3)] [] h nc ns := by
  unfold F_L_law_B402 at hf
  refine ab_aload_n 1 dL_law_402 rfl rfl ?_
  refine ab_aload_n 0 dL_law_403 rfl rfl ?_
  refine ab_iload_n 3 dL_law_404 rfl rfl ?_
  refine ab_iconst dL_law_405 kic_1 ?_
  refine ab_iadd dL_law_406 ?_
  refine f_sld dL_law_407 hf (fun v62 hf => ?_)
  refine ab_aload_n 0 dL_law_408 rfl rfl ?_
  refine ab_iload_n 3 dL_law_409 rfl rfl ?_
  refine ab_iconst dL_law_410 kic_2 ?_
  refine ab_iadd dL_law_411 ?_
  refine f_sld dL_law_412 hf (fun v63 hf => ?_)
  refine f_V_i2 (As := [.int v62, .int v63]) (st := []) cs_L_57 (fun v hq q => m_X11_step x1 v62 v63 h q) rfl rfl dL_law_413 (rmk2 (by decide) (by decide) (Nat.le_of_ble_eq_true rfl) (by omega) (by omega)) hf (fun v65 h64 hf => ?_)
  refine ab_aload_n 2 dL_law_416 rfl rfl ?_
  refine ab_aload_n 0 dL_law_417 rfl rfl ?_
  refine ab_iload_n 3 dL_law_418 rfl rfl ?_
  refine ab_iconst dL_law_419 kic_1 ?_
  refine ab_iadd dL_law_420 ?_
  refine f_sld dL_law_421 hf (fun v66 hf => ?_)
  refine ab_aload_n 0 dL_law_422 rfl rfl ?_
  refine ab_iload_n 3 dL_law_423 rfl rfl ?_
  refine ab_iconst dL_law_424 kic_2 ?_
  refine ab_iadd dL_law_425 ?_
  refine f_sld dL_law_426 hf (fun v67 hf => ?_)
  refine f_V_i2 (As := [.int v66, .int v67]) (st := [.int v65]) cs_L_60 (fun v hq q => m_X12_step x2 v66 v67 h64 q) rfl rfl dL_law_427 (rmk2 (by decide) (by decide) (Nat.le_of_ble_eq_true rfl) (by omega) (by omega)) hf (fun v69 h68 hf => ?_)
  refine ab_icmp_eq 907 dL_law_430 (by decide) hf (fun hf => ?_) (fun hf => ?_)
  · refine ab_iinc (v := x3 + 6) [some (.ref 0), some (.ref x1), some (.ref x2), some (.int (x3 + 6))] dL_law_907 rfl (kinc_6 _) (by decide) rfl rfl ?_
    refine ab_goto 18 dL_law_910 (by decide) ?_
    exact ab_msk [true, true, true, true] (hk18 (x3 + 6) h68 _ _ (by omega) (by omega) hf)
  refine ab_iconst dL_law_433 kic_0 ?_
  exact f_retzc2 rfl dL_law_434 rfl (by omega) (by omega) hf
def F_L_law_B435 (L : Nat) (xs : Nat → Int32) (x1 : Nat) (x2 : Nat) (x3 : Int32) (h : abH) (k18 : Int32 → abH → Option (Int32 × abH)) : Option (Int32 × abH) :=
  (sx L xs (x3 + 1)).bind fun v70 =>
  (sx L xs (x3 + 2)).bind fun v71 =>
  (ko 11 h x1).bind fun _ => bd2 (F_X11_stand x1 v70 v71 h) fun v73 h72 =>
  (sx L xs (x3 + 1)).bind fun v74 =>
  (sx L xs (x3 + 2)).bind fun v75 =>
  (ko 12 h72 x2).bind fun _ => bd2 (F_X12_stand x2 v74 v75 h72) fun v77 h76 =>
  if v73 = v77 then
    k18 (x3 + 6) h76
  else
    some (0, h76)
theorem w_L_law_B435 {z0 : Int32} {hz : abH} (M : Nat) (L : Nat) (xs : Nat → Int32) (x1 : Nat) (x2 : Nat) (x3 : Int32) (h : abH) (k18 : Int32 → abH → Option (Int32 × abH)) (hk18 : ∀ (w3 : Int32) (hw : abH) (nw nsw : Nat), nw ≤ M + 6 → nsw ≤ 2 * nw + 1000 → k18 w3 hw = some (z0, hz) → abW cL_law 4 RL (some .boolean) false 13 600000 7302250 (some (L, xs)) (some (.int z0), hz) 18 [some (.ref 0), some (.ref x1), some (.ref x2), some (.int w3)] [] hw nw nsw) {nc ns : Nat} (hM : M + 12 ≤ 600000) (hnc : nc ≤ M) (hns : ns ≤ 2 * nc + 1000) (hf : F_L_law_B435 L xs x1 x2 x3 h k18 = some (z0, hz)) : abW cL_law 4 RL (some .boolean) false 13 600000 7302250 (some (L, xs)) (some (.int z0), hz) 435 [some (.ref 0), some (.ref x1), some (.ref x2), some (.int x3)] [] h nc ns := by
  unfold F_L_law_B435 at hf
  refine ab_aload_n 1 dL_law_435 rfl rfl ?_
  refine ab_aload_n 0 dL_law_436 rfl rfl ?_
  refine ab_iload_n 3 dL_law_437 rfl rfl ?_
  refine ab_iconst dL_law_438 kic_1 ?_
  refine ab_iadd dL_law_439 ?_
  refine f_sld dL_law_440 hf (fun v70 hf => ?_)
  refine ab_aload_n 0 dL_law_441 rfl rfl ?_
  refine ab_iload_n 3 dL_law_442 rfl rfl ?_
  refine ab_iconst dL_law_443 kic_2 ?_
  refine ab_iadd dL_law_444 ?_
  refine f_sld dL_law_445 hf (fun v71 hf => ?_)
  refine f_V_i2 (As := [.int v70, .int v71]) (st := []) cs_L_61 (fun v hq q => m_X11_stand x1 v70 v71 h q) rfl rfl dL_law_446 (rmk2 (by decide) (by decide) (Nat.le_of_ble_eq_true rfl) (by omega) (by omega)) hf (fun v73 h72 hf => ?_)
  refine ab_aload_n 2 dL_law_449 rfl rfl ?_
  refine ab_aload_n 0 dL_law_450 rfl rfl ?_
  refine ab_iload_n 3 dL_law_451 rfl rfl ?_
  refine ab_iconst dL_law_452 kic_1 ?_
  refine ab_iadd dL_law_453 ?_
  refine f_sld dL_law_454 hf (fun v74 hf => ?_)
  refine ab_aload_n 0 dL_law_455 rfl rfl ?_
  refine ab_iload_n 3 dL_law_456 rfl rfl ?_
  refine ab_iconst dL_law_457 kic_2 ?_
  refine ab_iadd dL_law_458 ?_
  refine f_sld dL_law_459 hf (fun v75 hf => ?_)
  refine f_V_i2 (As := [.int v74, .int v75]) (st := [.int v73]) cs_L_64 (fun v hq q => m_X12_stand x2 v74 v75 h72 q) rfl rfl dL_law_460 (rmk2 (by decide) (by decide) (Nat.le_of_ble_eq_true rfl) (by omega) (by omega)) hf (fun v77 h76 hf => ?_)
  refine ab_icmp_eq 907 dL_law_463 (by decide) hf (fun hf => ?_) (fun hf => ?_)
  · refine ab_iinc (v := x3 + 6) [some (.ref 0), some (.ref x1), some (.ref x2), some (.int (x3 + 6))] dL_law_907 rfl (kinc_6 _) (by decide) rfl rfl ?_
    refine ab_goto 18 dL_law_910 (by decide) ?_
    exact ab_msk [true, true, true, true] (hk18 (x3 + 6) h76 _ _ (by omega) (by omega) hf)
  refine ab_iconst dL_law_466 kic_0 ?_
  exact f_retzc2 rfl dL_law_467 rfl (by omega) (by omega) hf
def F_L_law_B468 (L : Nat) (xs : Nat → Int32) (x1 : Nat) (x2 : Nat) (x3 : Int32) (h : abH) (k18 : Int32 → abH → Option (Int32 × abH)) : Option (Int32 × abH) :=
  (sx L xs (x3 + 1)).bind fun v78 =>
  (sx L xs (x3 + 2)).bind fun v79 =>
  (ko 11 h x1).bind fun _ => bd2 (F_X11_rise x1 v78 v79 h) fun v81 h80 =>
  (sx L xs (x3 + 1)).bind fun v82 =>
  (sx L xs (x3 + 2)).bind fun v83 =>
  (ko 12 h80 x2).bind fun _ => bd2 (F_X12_rise x2 v82 v83 h80) fun v85 h84 =>
  if v81 = v85 then
    k18 (x3 + 6) h84
  else
    some (0, h84)
theorem w_L_law_B468 {z0 : Int32} {hz : abH} (M : Nat) (L : Nat) (xs : Nat → Int32) (x1 : Nat) (x2 : Nat) (x3 : Int32) (h : abH) (k18 : Int32 → abH → Option (Int32 × abH)) (hk18 : ∀ (w3 : Int32) (hw : abH) (nw nsw : Nat), nw ≤ M + 6 → nsw ≤ 2 * nw + 1000 → k18 w3 hw = some (z0, hz) → abW cL_law 4 RL (some .boolean) false 13 600000 7302250 (some (L, xs)) (some (.int z0), hz) 18 [some (.ref 0), some (.ref x1), some (.ref x2), some (.int w3)] [] hw nw nsw) {nc ns : Nat} (hM : M + 12 ≤ 600000) (hnc : nc ≤ M) (hns : ns ≤ 2 * nc + 1000) (hf : F_L_law_B468 L xs x1 x2 x3 h k18 = some (z0, hz)) : abW cL_law 4 RL (some .boolean) false 13 600000 7302250 (some (L, xs)) (some (.int z0), hz) 468 [some (.ref 0), some (.ref x1), some (.ref x2), some (.int x3)] [] h nc ns := by
  unfold F_L_law_B468 at hf
  refine ab_aload_n 1 dL_law_468 rfl rfl ?_
  refine ab_aload_n 0 dL_law_469 rfl rfl ?_
  refine ab_iload_n 3 dL_law_470 rfl rfl ?_
  refine ab_iconst dL_law_471 kic_1 ?_
  refine ab_iadd dL_law_472 ?_
  refine f_sld dL_law_473 hf (fun v78 hf => ?_)
  refine ab_aload_n 0 dL_law_474 rfl rfl ?_
  refine ab_iload_n 3 dL_law_475 rfl rfl ?_
  refine ab_iconst dL_law_476 kic_2 ?_
  refine ab_iadd dL_law_477 ?_
  refine f_sld dL_law_478 hf (fun v79 hf => ?_)
  refine f_V_i2 (As := [.int v78, .int v79]) (st := []) cs_L_65 (fun v hq q => m_X11_rise x1 v78 v79 h q) rfl rfl dL_law_479 (rmk2 (by decide) (by decide) (Nat.le_of_ble_eq_true rfl) (by omega) (by omega)) hf (fun v81 h80 hf => ?_)
  refine ab_aload_n 2 dL_law_482 rfl rfl ?_
  refine ab_aload_n 0 dL_law_483 rfl rfl ?_
  refine ab_iload_n 3 dL_law_484 rfl rfl ?_
  refine ab_iconst dL_law_485 kic_1 ?_
  refine ab_iadd dL_law_486 ?_
  refine f_sld dL_law_487 hf (fun v82 hf => ?_)
  refine ab_aload_n 0 dL_law_488 rfl rfl ?_
  refine ab_iload_n 3 dL_law_489 rfl rfl ?_
  refine ab_iconst dL_law_490 kic_2 ?_
  refine ab_iadd dL_law_491 ?_
  refine f_sld dL_law_492 hf (fun v83 hf => ?_)
  refine f_V_i2 (As := [.int v82, .int v83]) (st := [.int v81]) cs_L_68 (fun v hq q => m_X12_rise x2 v82 v83 h80 q) rfl rfl dL_law_493 (rmk2 (by decide) (by decide) (Nat.le_of_ble_eq_true rfl) (by omega) (by omega)) hf (fun v85 h84 hf => ?_)
  refine ab_icmp_eq 907 dL_law_496 (by decide) hf (fun hf => ?_) (fun hf => ?_)
  · refine ab_iinc (v := x3 + 6) [some (.ref 0), some (.ref x1), some (.ref x2), some (.int (x3 + 6))] dL_law_907 rfl (kinc_6 _) (by decide) rfl rfl ?_
    refine ab_goto 18 dL_law_910 (by decide) ?_
    exact ab_msk [true, true, true, true] (hk18 (x3 + 6) h84 _ _ (by omega) (by omega) hf)
  refine ab_iconst dL_law_499 kic_0 ?_
  exact f_retzc2 rfl dL_law_500 rfl (by omega) (by omega) hf
def F_L_law_B501 (L : Nat) (xs : Nat → Int32) (x1 : Nat) (x2 : Nat) (x3 : Int32) (h : abH) (k18 : Int32 → abH → Option (Int32 × abH)) : Option (Int32 × abH) :=
  (sx L xs (x3 + 1)).bind fun v86 =>
  (sx L xs (x3 + 2)).bind fun v87 =>
  (ko 11 h x1).bind fun _ => bd2 (F_X11_lay x1 v86 v87 h) fun v89 h88 =>
  (sx L xs (x3 + 1)).bind fun v90 =>
  (sx L xs (x3 + 2)).bind fun v91 =>
  (ko 12 h88 x2).bind fun _ => bd2 (F_X12_lay x2 v90 v91 h88) fun v93 h92 =>
  if v89 = v93 then
    k18 (x3 + 6) h92
  else
    some (0, h92)
theorem w_L_law_B501 {z0 : Int32} {hz : abH} (M : Nat) (L : Nat) (xs : Nat → Int32) (x1 : Nat) (x2 : Nat) (x3 : Int32) (h : abH) (k18 : Int32 → abH → Option (Int32 × abH)) (hk18 : ∀ (w3 : Int32) (hw : abH) (nw nsw : Nat), nw ≤ M + 6 → nsw ≤ 2 * nw + 1000 → k18 w3 hw = some (z0, hz) → abW cL_law 4 RL (some .boolean) false 13 600000 7302250 (some (L, xs)) (some (.int z0), hz) 18 [some (.ref 0), some (.ref x1), some (.ref x2), some (.int w3)] [] hw nw nsw) {nc ns : Nat} (hM : M + 12 ≤ 600000) (hnc : nc ≤ M) (hns : ns ≤ 2 * nc + 1000) (hf : F_L_law_B501 L xs x1 x2 x3 h k18 = some (z0, hz)) : abW cL_law 4 RL (some .boolean) false 13 600000 7302250 (some (L, xs)) (some (.int z0), hz) 501 [some (.ref 0), some (.ref x1), some (.ref x2), some (.int x3)] [] h nc ns := by
  unfold F_L_law_B501 at hf
  refine ab_aload_n 1 dL_law_501 rfl rfl ?_
  refine ab_aload_n 0 dL_law_502 rfl rfl ?_
  refine ab_iload_n 3 dL_law_503 rfl rfl ?_
  refine ab_iconst dL_law_504 kic_1 ?_
  refine ab_iadd dL_law_505 ?_
  refine f_sld dL_law_506 hf (fun v86 hf => ?_)
  refine ab_aload_n 0 dL_law_507 rfl rfl ?_
  refine ab_iload_n 3 dL_law_508 rfl rfl ?_
  refine ab_iconst dL_law_509 kic_2 ?_
  refine ab_iadd dL_law_510 ?_
  refine f_sld dL_law_511 hf (fun v87 hf => ?_)
  refine f_V_i2 (As := [.int v86, .int v87]) (st := []) cs_L_69 (fun v hq q => m_X11_lay x1 v86 v87 h q) rfl rfl dL_law_512 (rmk2 (by decide) (by decide) (Nat.le_of_ble_eq_true rfl) (by omega) (by omega)) hf (fun v89 h88 hf => ?_)
  refine ab_aload_n 2 dL_law_515 rfl rfl ?_
  refine ab_aload_n 0 dL_law_516 rfl rfl ?_
  refine ab_iload_n 3 dL_law_517 rfl rfl ?_
  refine ab_iconst dL_law_518 kic_1 ?_
  refine ab_iadd dL_law_519 ?_
  refine f_sld dL_law_520 hf (fun v90 hf => ?_)
  refine ab_aload_n 0 dL_law_521 rfl rfl ?_
  refine ab_iload_n 3 dL_law_522 rfl rfl ?_
  refine ab_iconst dL_law_523 kic_2 ?_
  refine ab_iadd dL_law_524 ?_
  refine f_sld dL_law_525 hf (fun v91 hf => ?_)
  refine f_V_i2 (As := [.int v90, .int v91]) (st := [.int v89]) cs_L_72 (fun v hq q => m_X12_lay x2 v90 v91 h88 q) rfl rfl dL_law_526 (rmk2 (by decide) (by decide) (Nat.le_of_ble_eq_true rfl) (by omega) (by omega)) hf (fun v93 h92 hf => ?_)
  refine ab_icmp_eq 907 dL_law_529 (by decide) hf (fun hf => ?_) (fun hf => ?_)
  · refine ab_iinc (v := x3 + 6) [some (.ref 0), some (.ref x1), some (.ref x2), some (.int (x3 + 6))] dL_law_907 rfl (kinc_6 _) (by decide) rfl rfl ?_
    refine ab_goto 18 dL_law_910 (by decide) ?_
    exact ab_msk [true, true, true, true] (hk18 (x3 + 6) h92 _ _ (by omega) (by omega) hf)
  refine ab_iconst dL_law_532 kic_0 ?_
  exact f_retzc2 rfl dL_law_533 rfl (by omega) (by omega) hf
def F_L_law_B534 (L : Nat) (xs : Nat → Int32) (x1 : Nat) (x2 : Nat) (x3 : Int32) (h : abH) (k18 : Int32 → abH → Option (Int32 × abH)) : Option (Int32 × abH) :=
  (sx L xs (x3 + 1)).bind fun v94 =>
  (sx L xs (x3 + 2)).bind fun v95 =>
  (ko 11 h x1).bind fun _ => bd2 (F_X11_file x1 v94 v95 h) fun v97 h96 =>
  (sx L xs (x3 + 1)).bind fun v98 =>
  (sx L xs (x3 + 2)).bind fun v99 =>
  (ko 12 h96 x2).bind fun _ => bd2 (F_X12_file x2 v98 v99 h96) fun v101 h100 =>
  if v97 = v101 then
    k18 (x3 + 6) h100
  else
    some (0, h100)
theorem w_L_law_B534 {z0 : Int32} {hz : abH} (M : Nat) (L : Nat) (xs : Nat → Int32) (x1 : Nat) (x2 : Nat) (x3 : Int32) (h : abH) (k18 : Int32 → abH → Option (Int32 × abH)) (hk18 : ∀ (w3 : Int32) (hw : abH) (nw nsw : Nat), nw ≤ M + 6 → nsw ≤ 2 * nw + 1000 → k18 w3 hw = some (z0, hz) → abW cL_law 4 RL (some .boolean) false 13 600000 7302250 (some (L, xs)) (some (.int z0), hz) 18 [some (.ref 0), some (.ref x1), some (.ref x2), some (.int w3)] [] hw nw nsw) {nc ns : Nat} (hM : M + 12 ≤ 600000) (hnc : nc ≤ M) (hns : ns ≤ 2 * nc + 1000) (hf : F_L_law_B534 L xs x1 x2 x3 h k18 = some (z0, hz)) : abW cL_law 4 RL (some .boolean) false 13 600000 7302250 (some (L, xs)) (some (.int z0), hz) 534 [some (.ref 0), some (.ref x1), some (.ref x2), some (.int x3)] [] h nc ns := by
  unfold F_L_law_B534 at hf
  refine ab_aload_n 1 dL_law_534 rfl rfl ?_
  refine ab_aload_n 0 dL_law_535 rfl rfl ?_
  refine ab_iload_n 3 dL_law_536 rfl rfl ?_
  refine ab_iconst dL_law_537 kic_1 ?_
  refine ab_iadd dL_law_538 ?_
  refine f_sld dL_law_539 hf (fun v94 hf => ?_)
  refine ab_aload_n 0 dL_law_540 rfl rfl ?_
  refine ab_iload_n 3 dL_law_541 rfl rfl ?_
  refine ab_iconst dL_law_542 kic_2 ?_
  refine ab_iadd dL_law_543 ?_
  refine f_sld dL_law_544 hf (fun v95 hf => ?_)
  refine f_V_i2 (As := [.int v94, .int v95]) (st := []) cs_L_73 (fun v hq q => m_X11_file x1 v94 v95 h q) rfl rfl dL_law_545 (rmk2 (by decide) (by decide) (Nat.le_of_ble_eq_true rfl) (by omega) (by omega)) hf (fun v97 h96 hf => ?_)
  refine ab_aload_n 2 dL_law_548 rfl rfl ?_
  refine ab_aload_n 0 dL_law_549 rfl rfl ?_
  refine ab_iload_n 3 dL_law_550 rfl rfl ?_
  refine ab_iconst dL_law_551 kic_1 ?_
  refine ab_iadd dL_law_552 ?_
  refine f_sld dL_law_553 hf (fun v98 hf => ?_)
  refine ab_aload_n 0 dL_law_554 rfl rfl ?_
  refine ab_iload_n 3 dL_law_555 rfl rfl ?_
  refine ab_iconst dL_law_556 kic_2 ?_
  refine ab_iadd dL_law_557 ?_
  refine f_sld dL_law_558 hf (fun v99 hf => ?_)
  refine f_V_i2 (As := [.int v98, .int v99]) (st := [.int v97]) cs_L_76 (fun v hq q => m_X12_file x2 v98 v99 h96 q) rfl rfl dL_law_559 (rmk2 (by decide) (by decide) (Nat.le_of_ble_eq_true rfl) (by omega) (by omega)) hf (fun v101 h100 hf => ?_)
  refine ab_icmp_eq 907 dL_law_562 (by decide) hf (fun hf => ?_) (fun hf => ?_)
  · refine ab_iinc (v := x3 + 6) [some (.ref 0), some (.ref x1), some (.ref x2), some (.int (x3 + 6))] dL_law_907 rfl (kinc_6 _) (by decide) rfl rfl ?_
    refine ab_goto 18 dL_law_910 (by decide) ?_
    exact ab_msk [true, true, true, true] (hk18 (x3 + 6) h100 _ _ (by omega) (by omega) hf)
  refine ab_iconst dL_law_565 kic_0 ?_
  exact f_retzc2 rfl dL_law_566 rfl (by omega) (by omega) hf
def F_L_law_B567 (L : Nat) (xs : Nat → Int32) (x1 : Nat) (x2 : Nat) (x3 : Int32) (h : abH) (k18 : Int32 → abH → Option (Int32 × abH)) : Option (Int32 × abH) :=
  (ko 11 h x1).bind fun _ => bd2 (F_X11_settle x1 h) fun v103 h102 =>
  (ko 12 h102 x2).bind fun _ => bd2 (F_X12_settle x2 h102) fun v105 h104 =>
  if v103 = v105 then
    k18 (x3 + 6) h104
  else
    some (0, h104)
theorem w_L_law_B567 {z0 : Int32} {hz : abH} (M : Nat) (L : Nat) (xs : Nat → Int32) (x1 : Nat) (x2 : Nat) (x3 : Int32) (h : abH) (k18 : Int32 → abH → Option (Int32 × abH)) (hk18 : ∀ (w3 : Int32) (hw : abH) (nw nsw : Nat), nw ≤ M + 6 → nsw ≤ 2 * nw + 1000 → k18 w3 hw = some (z0, hz) → abW cL_law 4 RL (some .boolean) false 13 600000 7302250 (some (L, xs)) (some (.int z0), hz) 18 [some (.ref 0), some (.ref x1), some (.ref x2), some (.int w3)] [] hw nw nsw) {nc ns : Nat} (hM : M + 12 ≤ 600000) (hnc : nc ≤ M) (hns : ns ≤ 2 * nc + 1000) (hf : F_L_law_B567 L xs x1 x2 x3 h k18 = some (z0, hz)) : abW cL_law 4 RL (some .boolean) false 13 600000 7302250 (some (L, xs)) (some (.int z0), hz) 567 [some (.ref 0), some (.ref x1), some (.ref x2), some (.int x3)] [] h nc ns := by
  unfold F_L_law_B567 at hf
  refine ab_aload_n 1 dL_law_567 rfl rfl ?_
  refine f_V_i2 (As := []) (st := []) cs_L_77 (fun v hq q => m_X11_settle x1 h q) rfl rfl dL_law_568 (rmk2 (by decide) (by decide) (Nat.le_of_ble_eq_true rfl) (by omega) (by omega)) hf (fun v103 h102 hf => ?_)
  refine ab_aload_n 2 dL_law_571 rfl rfl ?_
  refine f_V_i2 (As := []) (st := [.int v103]) cs_L_80 (fun v hq q => m_X12_settle x2 h102 q) rfl rfl dL_law_572 (rmk2 (by decide) (by decide) (Nat.le_of_ble_eq_true rfl) (by omega) (by omega)) hf (fun v105 h104 hf => ?_)
  refine ab_icmp_eq 907 dL_law_575 (by decide) hf (fun hf => ?_) (fun hf => ?_)
  · refine ab_iinc (v := x3 + 6) [some (.ref 0), some (.ref x1), some (.ref x2), some (.int (x3 + 6))] dL_law_907 rfl (kinc_6 _) (by decide) rfl rfl ?_
    refine ab_goto 18 dL_law_910 (by decide) ?_
    exact ab_msk [true, true, true, true] (hk18 (x3 + 6) h104 _ _ (by omega) (by omega) hf)
  refine ab_iconst dL_law_578 kic_0 ?_
  exact f_retzc2 rfl dL_law_579 rfl (by omega) (by omega) hf
def F_L_law_B580 (L : Nat) (xs : Nat → Int32) (x1 : Nat) (x2 : Nat) (x3 : Int32) (h : abH) (k18 : Int32 → abH → Option (Int32 × abH)) : Option (Int32 × abH) :=
  (sx L xs (x3 + 1)).bind fun v106 =>
  (sx L xs (x3 + 2)).bind fun v107 =>
  (sx L xs (x3 + 3)).bind fun v108 =>
  (sx L xs (x3 + 4)).bind fun v109 =>
  (ko 11 h x1).bind fun _ => bd2 (F_X11_game x1 v106 v107 v108 v109 h) fun v111 h110 =>
  (sx L xs (x3 + 1)).bind fun v112 =>
  (sx L xs (x3 + 2)).bind fun v113 =>
  (sx L xs (x3 + 3)).bind fun v114 =>
  (sx L xs (x3 + 4)).bind fun v115 =>
  (ko 12 h110 x2).bind fun _ => bd2 (F_X12_game x2 v112 v113 v114 v115 h110) fun v117 h116 =>
  if v111 = v117 then
    k18 (x3 + 6) h116
  else
    some (0, h116)
theorem w_L_law_B580 {z0 : Int32} {hz : abH} (M : Nat) (L : Nat) (xs : Nat → Int32) (x1 : Nat) (x2 : Nat) (x3 : Int32) (h : abH) (k18 : Int32 → abH → Option (Int32 × abH)) (hk18 : ∀ (w3 : Int32) (hw : abH) (nw nsw : Nat), nw ≤ M + 6 → nsw ≤ 2 * nw + 1000 → k18 w3 hw = some (z0, hz) → abW cL_law 4 RL (some .boolean) false 13 600000 7302250 (some (L, xs)) (some (.int z0), hz) 18 [some (.ref 0), some (.ref x1), some (.ref x2), some (.int w3)] [] hw nw nsw) {nc ns : Nat} (hM : M + 12 ≤ 600000) (hnc : nc ≤ M) (hns : ns ≤ 2 * nc + 1000) (hf : F_L_law_B580 L xs x1 x2 x3 h k18 = some (z0, hz)) : abW cL_law 4 RL (some .boolean) false 13 600000 7302250 (some (L, xs)) (some (.int z0), hz) 580 [some (.ref 0), some (.ref x1), some (.ref x2), some (.int x3)] [] h nc ns := by
  unfold F_L_law_B580 at hf
  refine ab_aload_n 1 dL_law_580 rfl rfl ?_
  refine ab_aload_n 0 dL_law_581 rfl rfl ?_
  refine ab_iload_n 3 dL_law_582 rfl rfl ?_
  refine ab_iconst dL_law_583 kic_1 ?_
  refine ab_iadd dL_law_584 ?_
  refine f_sld dL_law_585 hf (fun v106 hf => ?_)
  refine ab_aload_n 0 dL_law_586 rfl rfl ?_
  refine ab_iload_n 3 dL_law_587 rfl rfl ?_
  refine ab_iconst dL_law_588 kic_2 ?_
  refine ab_iadd dL_law_589 ?_
  refine f_sld dL_law_590 hf (fun v107 hf => ?_)
  refine ab_aload_n 0 dL_law_591 rfl rfl ?_
  refine ab_iload_n 3 dL_law_592 rfl rfl ?_
  refine ab_iconst dL_law_593 kic_3 ?_
  refine ab_iadd dL_law_594 ?_
  refine f_sld dL_law_595 hf (fun v108 hf => ?_)
  refine ab_aload_n 0 dL_law_596 rfl rfl ?_
  refine ab_iload_n 3 dL_law_597 rfl rfl ?_
  refine ab_iconst dL_law_598 kic_4 ?_
  refine ab_iadd dL_law_599 ?_
  refine f_sld dL_law_600 hf (fun v109 hf => ?_)
  refine f_V_i2 (As := [.int v106, .int v107, .int v108, .int v109]) (st := []) cs_L_81 (fun v hq q => m_X11_game x1 v106 v107 v108 v109 h q) rfl rfl dL_law_601 (rmk2 (by decide) (by decide) (Nat.le_of_ble_eq_true rfl) (by omega) (by omega)) hf (fun v111 h110 hf => ?_)
  refine ab_aload_n 2 dL_law_604 rfl rfl ?_
  refine ab_aload_n 0 dL_law_605 rfl rfl ?_
  refine ab_iload_n 3 dL_law_606 rfl rfl ?_
  refine ab_iconst dL_law_607 kic_1 ?_
  refine ab_iadd dL_law_608 ?_
  refine f_sld dL_law_609 hf (fun v112 hf => ?_)
  refine ab_aload_n 0 dL_law_610 rfl rfl ?_
  refine ab_iload_n 3 dL_law_611 rfl rfl ?_
  refine ab_iconst dL_law_612 kic_2 ?_
  refine ab_iadd dL_law_613 ?_
  refine f_sld dL_law_614 hf (fun v113 hf => ?_)
  refine ab_aload_n 0 dL_law_615 rfl rfl ?_
  refine ab_iload_n 3 dL_law_616 rfl rfl ?_
  refine ab_iconst dL_law_617 kic_3 ?_
  refine ab_iadd dL_law_618 ?_
  refine f_sld dL_law_619 hf (fun v114 hf => ?_)
  refine ab_aload_n 0 dL_law_620 rfl rfl ?_
  refine ab_iload_n 3 dL_law_621 rfl rfl ?_
  refine ab_iconst dL_law_622 kic_4 ?_
  refine ab_iadd dL_law_623 ?_
  refine f_sld dL_law_624 hf (fun v115 hf => ?_)
  refine f_V_i2 (As := [.int v112, .int v113, .int v114, .int v115]) (st := [.int v111]) cs_L_85 (fun v hq q => m_X12_game x2 v112 v113 v114 v115 h110 q) rfl rfl dL_law_625 (rmk2 (by decide) (by decide) (Nat.le_of_ble_eq_true rfl) (by omega) (by omega)) hf (fun v117 h116 hf => ?_)
  refine ab_icmp_eq 907 dL_law_628 (by decide) hf (fun hf => ?_) (fun hf => ?_)
  · refine ab_iinc (v := x3 + 6) [some (.ref 0), some (.ref x1), some (.ref x2), some (.int (x3 + 6))] dL_law_907 rfl (kinc_6 _) (by decide) rfl rfl ?_
    refine ab_goto 18 dL_law_910 (by decide) ?_
    exact ab_msk [true, true, true, true] (hk18 (x3 + 6) h116 _ _ (by omega) (by omega) hf)
  refine ab_iconst dL_law_631 kic_0 ?_
  exact f_retzc2 rfl dL_law_632 rfl (by omega) (by omega) hf
def F_L_law_B633 (L : Nat) (xs : Nat → Int32) (x1 : Nat) (x2 : Nat) (x3 : Int32) (h : abH) (k18 : Int32 → abH → Option (Int32 × abH)) : Option (Int32 × abH) :=
  (sx L xs (x3 + 1)).bind fun v118 =>
  (ko 11 h x1).bind fun _ => bd2 (F_X11_docket x1 v118 h) fun v120 h119 =>
  (sx L xs (x3 + 1)).bind fun v121 =>
  (ko 12 h119 x2).bind fun _ => bd2 (F_X12_docket x2 v121 h119) fun v123 h122 =>
  if v120 = v123 then
    k18 (x3 + 6) h122
  else
    some (0, h122)
theorem w_L_law_B633 {z0 : Int32} {hz : abH} (M : Nat) (L : Nat) (xs : Nat → Int32) (x1 : Nat) (x2 : Nat) (x3 : Int32) (h : abH) (k18 : Int32 → abH → Option (Int32 × abH)) (hk18 : ∀ (w3 : Int32) (hw : abH) (nw nsw : Nat), nw ≤ M + 6 → nsw ≤ 2 * nw + 1000 → k18 w3 hw = some (z0, hz) → abW cL_law 4 RL (some .boolean) false 13 600000 7302250 (some (L, xs)) (some (.int z0), hz) 18 [some (.ref 0), some (.ref x1), some (.ref x2), some (.int w3)] [] hw nw nsw) {nc ns : Nat} (hM : M + 12 ≤ 600000) (hnc : nc ≤ M) (hns : ns ≤ 2 * nc + 1000) (hf : F_L_law_B633 L xs x1 x2 x3 h k18 = some (z0, hz)) : abW cL_law 4 RL (some .boolean) false 13 600000 7302250 (some (L, xs)) (some (.int z0), hz) 633 [some (.ref 0), some (.ref x1), some (.ref x2), some (.int x3)] [] h nc ns := by
  unfold F_L_law_B633 at hf
  refine ab_aload_n 1 dL_law_633 rfl rfl ?_
  refine ab_aload_n 0 dL_law_634 rfl rfl ?_
  refine ab_iload_n 3 dL_law_635 rfl rfl ?_
  refine ab_iconst dL_law_636 kic_1 ?_
  refine ab_iadd dL_law_637 ?_
  refine f_sld dL_law_638 hf (fun v118 hf => ?_)
  refine f_V_i2 (As := [.int v118]) (st := []) cs_L_86 (fun v hq q => m_X11_docket x1 v118 h q) rfl rfl dL_law_639 (rmk2 (by decide) (by decide) (Nat.le_of_ble_eq_true rfl) (by omega) (by omega)) hf (fun v120 h119 hf => ?_)
  refine ab_aload_n 2 dL_law_642 rfl rfl ?_
  refine ab_aload_n 0 dL_law_643 rfl rfl ?_
  refine ab_iload_n 3 dL_law_644 rfl rfl ?_
  refine ab_iconst dL_law_645 kic_1 ?_
  refine ab_iadd dL_law_646 ?_
  refine f_sld dL_law_647 hf (fun v121 hf => ?_)
  refine f_V_i2 (As := [.int v121]) (st := [.int v120]) cs_L_89 (fun v hq q => m_X12_docket x2 v121 h119 q) rfl rfl dL_law_648 (rmk2 (by decide) (by decide) (Nat.le_of_ble_eq_true rfl) (by omega) (by omega)) hf (fun v123 h122 hf => ?_)
  refine ab_icmp_eq 907 dL_law_651 (by decide) hf (fun hf => ?_) (fun hf => ?_)
  · refine ab_iinc (v := x3 + 6) [some (.ref 0), some (.ref x1), some (.ref x2), some (.int (x3 + 6))] dL_law_907 rfl (kinc_6 _) (by decide) rfl rfl ?_
    refine ab_goto 18 dL_law_910 (by decide) ?_
    exact ab_msk [true, true, true, true] (hk18 (x3 + 6) h122 _ _ (by omega) (by omega) hf)
  refine ab_iconst dL_law_654 kic_0 ?_
  exact f_retzc2 rfl dL_law_655 rfl (by omega) (by omega) hf
def F_L_law_B656 (L : Nat) (xs : Nat → Int32) (x1 : Nat) (x2 : Nat) (x3 : Int32) (h : abH) (k18 : Int32 → abH → Option (Int32 × abH)) : Option (Int32 × abH) :=
  (sx L xs (x3 + 1)).bind fun v124 =>
  (sx L xs (x3 + 2)).bind fun v125 =>
  (sx L xs (x3 + 3)).bind fun v126 =>
  (sx L xs (x3 + 4)).bind fun v127 =>
  (sx L xs (x3 + 5)).bind fun v128 =>
  (ko 11 h x1).bind fun _ => (F_X11_odds x1 v124 v125 v126 v127 v128 h).bind fun v129 =>
  (sx L xs (x3 + 1)).bind fun v130 =>
  (sx L xs (x3 + 2)).bind fun v131 =>
  (sx L xs (x3 + 3)).bind fun v132 =>
  (sx L xs (x3 + 4)).bind fun v133 =>
  (sx L xs (x3 + 5)).bind fun v134 =>
  (ko 12 h x2).bind fun _ => (F_X12_odds x2 v130 v131 v132 v133 v134 h).bind fun v135 =>
  if v129 = v135 then
    k18 (x3 + 6) h
  else
    some (0, h)
theorem w_L_law_B656 {z0 : Int32} {hz : abH} (M : Nat) (L : Nat) (xs : Nat → Int32) (x1 : Nat) (x2 : Nat) (x3 : Int32) (h : abH) (k18 : Int32 → abH → Option (Int32 × abH)) (hk18 : ∀ (w3 : Int32) (hw : abH) (nw nsw : Nat), nw ≤ M + 6 → nsw ≤ 2 * nw + 1000 → k18 w3 hw = some (z0, hz) → abW cL_law 4 RL (some .boolean) false 13 600000 7302250 (some (L, xs)) (some (.int z0), hz) 18 [some (.ref 0), some (.ref x1), some (.ref x2), some (.int w3)] [] hw nw nsw) {nc ns : Nat} (hM : M + 12 ≤ 600000) (hnc : nc ≤ M) (hns : ns ≤ 2 * nc + 1000) (hf : F_L_law_B656 L xs x1 x2 x3 h k18 = some (z0, hz)) : abW cL_law 4 RL (some .boolean) false 13 600000 7302250 (some (L, xs)) (some (.int z0), hz) 656 [some (.ref 0), some (.ref x1), some (.ref x2), some (.int x3)] [] h nc ns := by
  unfold F_L_law_B656 at hf
  refine ab_aload_n 1 dL_law_656 rfl rfl ?_
  refine ab_aload_n 0 dL_law_657 rfl rfl ?_
  refine ab_iload_n 3 dL_law_658 rfl rfl ?_
  refine ab_iconst dL_law_659 kic_1 ?_
  refine ab_iadd dL_law_660 ?_
  refine f_sld dL_law_661 hf (fun v124 hf => ?_)
  refine ab_aload_n 0 dL_law_662 rfl rfl ?_
  refine ab_iload_n 3 dL_law_663 rfl rfl ?_
  refine ab_iconst dL_law_664 kic_2 ?_
  refine ab_iadd dL_law_665 ?_
  refine f_sld dL_law_666 hf (fun v125 hf => ?_)
  refine ab_aload_n 0 dL_law_667 rfl rfl ?_
  refine ab_iload_n 3 dL_law_668 rfl rfl ?_
  refine ab_iconst dL_law_669 kic_3 ?_
  refine ab_iadd dL_law_670 ?_
  refine f_sld dL_law_671 hf (fun v126 hf => ?_)
  refine ab_aload_n 0 dL_law_672 rfl rfl ?_
  refine ab_iload_n 3 dL_law_673 rfl rfl ?_
  refine ab_iconst dL_law_674 kic_4 ?_
  refine ab_iadd dL_law_675 ?_
  refine f_sld dL_law_676 hf (fun v127 hf => ?_)
  refine ab_aload_n 0 dL_law_677 rfl rfl ?_
  refine ab_iload_n 3 dL_law_678 rfl rfl ?_
  refine ab_iconst dL_law_679 kic_5 ?_
  refine ab_iadd dL_law_680 ?_
  refine f_sld dL_law_681 hf (fun v128 hf => ?_)
  refine f_V_i (As := [.int v124, .int v125, .int v126, .int v127, .int v128]) (st := []) cs_L_90 (fun v q => m_X11_odds x1 v124 v125 v126 v127 v128 h q) rfl rfl dL_law_682 (rmk2 (by decide) (by decide) (Nat.le_of_ble_eq_true rfl) (by omega) (by omega)) hf (fun v129 hf => ?_)
  refine ab_aload_n 2 dL_law_685 rfl rfl ?_
  refine ab_aload_n 0 dL_law_686 rfl rfl ?_
  refine ab_iload_n 3 dL_law_687 rfl rfl ?_
  refine ab_iconst dL_law_688 kic_1 ?_
  refine ab_iadd dL_law_689 ?_
  refine f_sld dL_law_690 hf (fun v130 hf => ?_)
  refine ab_aload_n 0 dL_law_691 rfl rfl ?_
  refine ab_iload_n 3 dL_law_692 rfl rfl ?_
  refine ab_iconst dL_law_693 kic_2 ?_
  refine ab_iadd dL_law_694 ?_
  refine f_sld dL_law_695 hf (fun v131 hf => ?_)
  refine ab_aload_n 0 dL_law_696 rfl rfl ?_
  refine ab_iload_n 3 dL_law_697 rfl rfl ?_
  refine ab_iconst dL_law_698 kic_3 ?_
  refine ab_iadd dL_law_699 ?_
  refine f_sld dL_law_700 hf (fun v132 hf => ?_)
  refine ab_aload_n 0 dL_law_701 rfl rfl ?_
  refine ab_iload_n 3 dL_law_702 rfl rfl ?_
  refine ab_iconst dL_law_703 kic_4 ?_
  refine ab_iadd dL_law_704 ?_
  refine f_sld dL_law_705 hf (fun v133 hf => ?_)
  refine ab_aload_n 0 dL_law_706 rfl rfl ?_
  refine ab_iload_n 3 dL_law_707 rfl rfl ?_
  refine ab_iconst dL_law_708 kic_5 ?_
  refine ab_iadd dL_law_709 ?_
  refine f_sld dL_law_710 hf (fun v134 hf => ?_)
  refine f_V_i (As := [.int v130, .int v131, .int v132, .int v133, .int v134]) (st := [.int v129]) cs_L_94 (fun v q => m_X12_odds x2 v130 v131 v132 v133 v134 h q) rfl rfl dL_law_711 (rmk2 (by decide) (by decide) (Nat.le_of_ble_eq_true rfl) (by omega) (by omega)) hf (fun v135 hf => ?_)
  refine ab_icmp_eq 907 dL_law_714 (by decide) hf (fun hf => ?_) (fun hf => ?_)
  · refine ab_iinc (v := x3 + 6) [some (.ref 0), some (.ref x1), some (.ref x2), some (.int (x3 + 6))] dL_law_907 rfl (kinc_6 _) (by decide) rfl rfl ?_
    refine ab_goto 18 dL_law_910 (by decide) ?_
    exact ab_msk [true, true, true, true] (hk18 (x3 + 6) h _ _ (by omega) (by omega) hf)
  refine ab_iconst dL_law_717 kic_0 ?_
  exact f_retzc2 rfl dL_law_718 rfl (by omega) (by omega) hf
def F_L_law_B748 (L : Nat) (xs : Nat → Int32) (x1 : Nat) (x2 : Nat) (x3 : Int32) (y0 : Nat) (y1 : Int32) (y2 : Int32) (y3 : Int32) (y4 : Int32) (h : abH) (k18 : Int32 → abH → Option (Int32 × abH)) : Option (Int32 × abH) :=
  (ko 11 h y0).bind fun _ => bd2 (F_X11_see y0 y1 y2 y3 y4 h) fun v141 h140 =>
  (sx L xs (x3 + 1)).bind fun v142 =>
  (sx L xs (x3 + 2)).bind fun v143 =>
  (sx L xs (x3 + 3)).bind fun v144 =>
  (sx L xs (x3 + 4)).bind fun v145 =>
  if v145 = 0 then
    (ko 12 h140 x2).bind fun _ => bd2 (F_X12_see x2 v142 v143 v144 0 h140) fun v147 h146 =>
    if v141 = v147 then
      k18 (x3 + 6) h146
    else
      some (0, h146)
  else
    (ko 12 h140 x2).bind fun _ => bd2 (F_X12_see x2 v142 v143 v144 1 h140) fun v149 h148 =>
    if v141 = v149 then
      k18 (x3 + 6) h148
    else
      some (0, h148)
theorem w_L_law_B748 {z0 : Int32} {hz : abH} (M : Nat) (L : Nat) (xs : Nat → Int32) (x1 : Nat) (x2 : Nat) (x3 : Int32) (y0 : Nat) (y1 : Int32) (y2 : Int32) (y3 : Int32) (y4 : Int32) (h : abH) (k18 : Int32 → abH → Option (Int32 × abH)) (hk18 : ∀ (w3 : Int32) (hw : abH) (nw nsw : Nat), nw ≤ M + 6 → nsw ≤ 2 * nw + 1000 → k18 w3 hw = some (z0, hz) → abW cL_law 4 RL (some .boolean) false 13 600000 7302250 (some (L, xs)) (some (.int z0), hz) 18 [some (.ref 0), some (.ref x1), some (.ref x2), some (.int w3)] [] hw nw nsw) {nc ns : Nat} (hM : M + 12 ≤ 600000) (hnc : nc ≤ M) (hns : ns ≤ 2 * nc + 1000) (hf : F_L_law_B748 L xs x1 x2 x3 y0 y1 y2 y3 y4 h k18 = some (z0, hz)) : abW cL_law 4 RL (some .boolean) false 13 600000 7302250 (some (L, xs)) (some (.int z0), hz) 748 [some (.ref 0), some (.ref x1), some (.ref x2), some (.int x3)] [.int y4, .int y3, .int y2, .int y1, .ref y0] h nc ns := by
  unfold F_L_law_B748 at hf
  refine f_V_i2 (As := [.int y1, .int y2, .int y3, .int y4]) (st := []) cs_L_95 (fun v hq q => m_X11_see y0 y1 y2 y3 y4 h q) rfl rfl dL_law_748 (rmk2 (by decide) (by decide) (Nat.le_of_ble_eq_true rfl) (by omega) (by omega)) hf (fun v141 h140 hf => ?_)
  refine ab_aload_n 2 dL_law_751 rfl rfl ?_
  refine ab_aload_n 0 dL_law_752 rfl rfl ?_
  refine ab_iload_n 3 dL_law_753 rfl rfl ?_
  refine ab_iconst dL_law_754 kic_1 ?_
  refine ab_iadd dL_law_755 ?_
  refine f_sld dL_law_756 hf (fun v142 hf => ?_)
  refine ab_aload_n 0 dL_law_757 rfl rfl ?_
  refine ab_iload_n 3 dL_law_758 rfl rfl ?_
  refine ab_iconst dL_law_759 kic_2 ?_
  refine ab_iadd dL_law_760 ?_
  refine f_sld dL_law_761 hf (fun v143 hf => ?_)
  refine ab_aload_n 0 dL_law_762 rfl rfl ?_
  refine ab_iload_n 3 dL_law_763 rfl rfl ?_
  refine ab_iconst dL_law_764 kic_3 ?_
  refine ab_iadd dL_law_765 ?_
  refine f_sld dL_law_766 hf (fun v144 hf => ?_)
  refine ab_aload_n 0 dL_law_767 rfl rfl ?_
  refine ab_iload_n 3 dL_law_768 rfl rfl ?_
  refine ab_iconst dL_law_769 kic_4 ?_
  refine ab_iadd dL_law_770 ?_
  refine f_sld dL_law_771 hf (fun v145 hf => ?_)
  refine ab_if_eq 779 dL_law_772 (by decide) hf (fun hf => ?_) (fun hf => ?_)
  · refine ab_iconst dL_law_779 kic_0 ?_
    refine f_V_i2 (As := [.int v142, .int v143, .int v144, .int 0]) (st := [.int v141]) cs_L_99 (fun v hq q => m_X12_see x2 v142 v143 v144 0 h140 q) rfl rfl dL_law_780 (rmk2 (by decide) (by decide) (Nat.le_of_ble_eq_true rfl) (by omega) (by omega)) hf (fun v147 h146 hf => ?_)
    refine ab_icmp_eq 907 dL_law_783 (by decide) hf (fun hf => ?_) (fun hf => ?_)
    · refine ab_iinc (v := x3 + 6) [some (.ref 0), some (.ref x1), some (.ref x2), some (.int (x3 + 6))] dL_law_907 rfl (kinc_6 _) (by decide) rfl rfl ?_
      refine ab_goto 18 dL_law_910 (by decide) ?_
      exact ab_msk [true, true, true, true] (hk18 (x3 + 6) h146 _ _ (by omega) (by omega) hf)
    refine ab_iconst dL_law_786 kic_0 ?_
    exact f_retzc2 rfl dL_law_787 rfl (by omega) (by omega) hf
  refine ab_iconst dL_law_775 kic_1 ?_
  refine ab_goto 780 dL_law_776 (by decide) ?_
  refine f_V_i2 (As := [.int v142, .int v143, .int v144, .int 1]) (st := [.int v141]) cs_L_99 (fun v hq q => m_X12_see x2 v142 v143 v144 1 h140 q) rfl rfl dL_law_780 (rmk2 (by decide) (by decide) (Nat.le_of_ble_eq_true rfl) (by omega) (by omega)) hf (fun v149 h148 hf => ?_)
  refine ab_icmp_eq 907 dL_law_783 (by decide) hf (fun hf => ?_) (fun hf => ?_)
  · refine ab_iinc (v := x3 + 6) [some (.ref 0), some (.ref x1), some (.ref x2), some (.int (x3 + 6))] dL_law_907 rfl (kinc_6 _) (by decide) rfl rfl ?_
    refine ab_goto 18 dL_law_910 (by decide) ?_
    exact ab_msk [true, true, true, true] (hk18 (x3 + 6) h148 _ _ (by omega) (by omega) hf)
  refine ab_iconst dL_law_786 kic_0 ?_
  exact f_retzc2 rfl dL_law_787 rfl (by omega) (by omega) hf
def F_L_law_B719 (L : Nat) (xs : Nat → Int32) (x1 : Nat) (x2 : Nat) (x3 : Int32) (h : abH) (k18 : Int32 → abH → Option (Int32 × abH)) : Option (Int32 × abH) :=
  (sx L xs (x3 + 1)).bind fun v136 =>
  (sx L xs (x3 + 2)).bind fun v137 =>
  (sx L xs (x3 + 3)).bind fun v138 =>
  (sx L xs (x3 + 4)).bind fun v139 =>
  if v139 = 0 then
    F_L_law_B748 L xs x1 x2 x3 x1 v136 v137 v138 0 h k18
  else
    F_L_law_B748 L xs x1 x2 x3 x1 v136 v137 v138 1 h k18
theorem w_L_law_B719 {z0 : Int32} {hz : abH} (M : Nat) (L : Nat) (xs : Nat → Int32) (x1 : Nat) (x2 : Nat) (x3 : Int32) (h : abH) (k18 : Int32 → abH → Option (Int32 × abH)) (hk18 : ∀ (w3 : Int32) (hw : abH) (nw nsw : Nat), nw ≤ M + 6 → nsw ≤ 2 * nw + 1000 → k18 w3 hw = some (z0, hz) → abW cL_law 4 RL (some .boolean) false 13 600000 7302250 (some (L, xs)) (some (.int z0), hz) 18 [some (.ref 0), some (.ref x1), some (.ref x2), some (.int w3)] [] hw nw nsw) {nc ns : Nat} (hM : M + 12 ≤ 600000) (hnc : nc ≤ M) (hns : ns ≤ 2 * nc + 1000) (hf : F_L_law_B719 L xs x1 x2 x3 h k18 = some (z0, hz)) : abW cL_law 4 RL (some .boolean) false 13 600000 7302250 (some (L, xs)) (some (.int z0), hz) 719 [some (.ref 0), some (.ref x1), some (.ref x2), some (.int x3)] [] h nc ns := by
  unfold F_L_law_B719 at hf
  refine ab_aload_n 1 dL_law_719 rfl rfl ?_
  refine ab_aload_n 0 dL_law_720 rfl rfl ?_
  refine ab_iload_n 3 dL_law_721 rfl rfl ?_
  refine ab_iconst dL_law_722 kic_1 ?_
  refine ab_iadd dL_law_723 ?_
  refine f_sld dL_law_724 hf (fun v136 hf => ?_)
  refine ab_aload_n 0 dL_law_725 rfl rfl ?_
  refine ab_iload_n 3 dL_law_726 rfl rfl ?_
  refine ab_iconst dL_law_727 kic_2 ?_
  refine ab_iadd dL_law_728 ?_
  refine f_sld dL_law_729 hf (fun v137 hf => ?_)
  refine ab_aload_n 0 dL_law_730 rfl rfl ?_
  refine ab_iload_n 3 dL_law_731 rfl rfl ?_
  refine ab_iconst dL_law_732 kic_3 ?_
  refine ab_iadd dL_law_733 ?_
  refine f_sld dL_law_734 hf (fun v138 hf => ?_)
  refine ab_aload_n 0 dL_law_735 rfl rfl ?_
  refine ab_iload_n 3 dL_law_736 rfl rfl ?_
  refine ab_iconst dL_law_737 kic_4 ?_
  refine ab_iadd dL_law_738 ?_
  refine f_sld dL_law_739 hf (fun v139 hf => ?_)
  refine ab_if_eq 747 dL_law_740 (by decide) hf (fun hf => ?_) (fun hf => ?_)
  · refine ab_iconst dL_law_747 kic_0 ?_
    exact ab_msk [true, true, true, true] (w_L_law_B748 M L xs x1 x2 x3 x1 v136 v137 v138 0 h k18 hk18 (by omega) (by omega) (by omega) hf)
  refine ab_iconst dL_law_743 kic_1 ?_
  refine ab_goto 748 dL_law_744 (by decide) ?_
  exact ab_msk [true, true, true, true] (w_L_law_B748 M L xs x1 x2 x3 x1 v136 v137 v138 1 h k18 hk18 (by omega) (by omega) (by omega) hf)
def F_L_law_B788 (L : Nat) (xs : Nat → Int32) (x1 : Nat) (x2 : Nat) (x3 : Int32) (h : abH) (k18 : Int32 → abH → Option (Int32 × abH)) : Option (Int32 × abH) :=
  (ko 11 h x1).bind fun _ => bd2 (F_X11_forget x1 h) fun v151 h150 =>
  (ko 12 h150 x2).bind fun _ => bd2 (F_X12_forget x2 h150) fun v153 h152 =>
  if v151 = v153 then
    k18 (x3 + 6) h152
  else
    some (0, h152)
theorem w_L_law_B788 {z0 : Int32} {hz : abH} (M : Nat) (L : Nat) (xs : Nat → Int32) (x1 : Nat) (x2 : Nat) (x3 : Int32) (h : abH) (k18 : Int32 → abH → Option (Int32 × abH)) (hk18 : ∀ (w3 : Int32) (hw : abH) (nw nsw : Nat), nw ≤ M + 6 → nsw ≤ 2 * nw + 1000 → k18 w3 hw = some (z0, hz) → abW cL_law 4 RL (some .boolean) false 13 600000 7302250 (some (L, xs)) (some (.int z0), hz) 18 [some (.ref 0), some (.ref x1), some (.ref x2), some (.int w3)] [] hw nw nsw) {nc ns : Nat} (hM : M + 12 ≤ 600000) (hnc : nc ≤ M) (hns : ns ≤ 2 * nc + 1000) (hf : F_L_law_B788 L xs x1 x2 x3 h k18 = some (z0, hz)) : abW cL_law 4 RL (some .boolean) false 13 600000 7302250 (some (L, xs)) (some (.int z0), hz) 788 [some (.ref 0), some (.ref x1), some (.ref x2), some (.int x3)] [] h nc ns := by
  unfold F_L_law_B788 at hf
  refine ab_aload_n 1 dL_law_788 rfl rfl ?_
  refine f_V_i2 (As := []) (st := []) cs_L_100 (fun v hq q => m_X11_forget x1 h q) rfl rfl dL_law_789 (rmk2 (by decide) (by decide) (Nat.le_of_ble_eq_true rfl) (by omega) (by omega)) hf (fun v151 h150 hf => ?_)
  refine ab_aload_n 2 dL_law_792 rfl rfl ?_
  refine f_V_i2 (As := []) (st := [.int v151]) cs_L_103 (fun v hq q => m_X12_forget x2 h150 q) rfl rfl dL_law_793 (rmk2 (by decide) (by decide) (Nat.le_of_ble_eq_true rfl) (by omega) (by omega)) hf (fun v153 h152 hf => ?_)
  refine ab_icmp_eq 907 dL_law_796 (by decide) hf (fun hf => ?_) (fun hf => ?_)
  · refine ab_iinc (v := x3 + 6) [some (.ref 0), some (.ref x1), some (.ref x2), some (.int (x3 + 6))] dL_law_907 rfl (kinc_6 _) (by decide) rfl rfl ?_
    refine ab_goto 18 dL_law_910 (by decide) ?_
    exact ab_msk [true, true, true, true] (hk18 (x3 + 6) h152 _ _ (by omega) (by omega) hf)
  refine ab_iconst dL_law_799 kic_0 ?_
  exact f_retzc2 rfl dL_law_800 rfl (by omega) (by omega) hf
def F_L_law_B801 (L : Nat) (xs : Nat → Int32) (x1 : Nat) (x2 : Nat) (x3 : Int32) (h : abH) (k18 : Int32 → abH → Option (Int32 × abH)) : Option (Int32 × abH) :=
  (sx L xs (x3 + 1)).bind fun v154 =>
  (sx L xs (x3 + 2)).bind fun v155 =>
  (sx L xs (x3 + 3)).bind fun v156 =>
  (ko 11 h x1).bind fun _ => bd2 (F_X11_terms x1 v154 v155 v156 h) fun v158 h157 =>
  (sx L xs (x3 + 1)).bind fun v159 =>
  (sx L xs (x3 + 2)).bind fun v160 =>
  (sx L xs (x3 + 3)).bind fun v161 =>
  (ko 12 h157 x2).bind fun _ => bd2 (F_X12_terms x2 v159 v160 v161 h157) fun v163 h162 =>
  if v158 = v163 then
    k18 (x3 + 6) h162
  else
    some (0, h162)
theorem w_L_law_B801 {z0 : Int32} {hz : abH} (M : Nat) (L : Nat) (xs : Nat → Int32) (x1 : Nat) (x2 : Nat) (x3 : Int32) (h : abH) (k18 : Int32 → abH → Option (Int32 × abH)) (hk18 : ∀ (w3 : Int32) (hw : abH) (nw nsw : Nat), nw ≤ M + 6 → nsw ≤ 2 * nw + 1000 → k18 w3 hw = some (z0, hz) → abW cL_law 4 RL (some .boolean) false 13 600000 7302250 (some (L, xs)) (some (.int z0), hz) 18 [some (.ref 0), some (.ref x1), some (.ref x2), some (.int w3)] [] hw nw nsw) {nc ns : Nat} (hM : M + 12 ≤ 600000) (hnc : nc ≤ M) (hns : ns ≤ 2 * nc + 1000) (hf : F_L_law_B801 L xs x1 x2 x3 h k18 = some (z0, hz)) : abW cL_law 4 RL (some .boolean) false 13 600000 7302250 (some (L, xs)) (some (.int z0), hz) 801 [some (.ref 0), some (.ref x1), some (.ref x2), some (.int x3)] [] h nc ns := by
  unfold F_L_law_B801 at hf
  refine ab_aload_n 1 dL_law_801 rfl rfl ?_
  refine ab_aload_n 0 dL_law_802 rfl rfl ?_
  refine ab_iload_n 3 dL_law_803 rfl rfl ?_
  refine ab_iconst dL_law_804 kic_1 ?_
  refine ab_iadd dL_law_805 ?_
  refine f_sld dL_law_806 hf (fun v154 hf => ?_)
  refine ab_aload_n 0 dL_law_807 rfl rfl ?_
  refine ab_iload_n 3 dL_law_808 rfl rfl ?_
  refine ab_iconst dL_law_809 kic_2 ?_
  refine ab_iadd dL_law_810 ?_
  refine f_sld dL_law_811 hf (fun v155 hf => ?_)
  refine ab_aload_n 0 dL_law_812 rfl rfl ?_
  refine ab_iload_n 3 dL_law_813 rfl rfl ?_
  refine ab_iconst dL_law_814 kic_3 ?_
  refine ab_iadd dL_law_815 ?_
  refine f_sld dL_law_816 hf (fun v156 hf => ?_)
  refine f_V_i2 (As := [.int v154, .int v155, .int v156]) (st := []) cs_L_104 (fun v hq q => m_X11_terms x1 v154 v155 v156 h q) rfl rfl dL_law_817 (rmk2 (by decide) (by decide) (Nat.le_of_ble_eq_true rfl) (by omega) (by omega)) hf (fun v158 h157 hf => ?_)
  refine ab_aload_n 2 dL_law_820 rfl rfl ?_
  refine ab_aload_n 0 dL_law_821 rfl rfl ?_
  refine ab_iload_n 3 dL_law_822 rfl rfl ?_
  refine ab_iconst dL_law_823 kic_1 ?_
  refine ab_iadd dL_law_824 ?_
  refine f_sld dL_law_825 hf (fun v159 hf => ?_)
  refine ab_aload_n 0 dL_law_826 rfl rfl ?_
  refine ab_iload_n 3 dL_law_827 rfl rfl ?_
  refine ab_iconst dL_law_828 kic_2 ?_
  refine ab_iadd dL_law_829 ?_
  refine f_sld dL_law_830 hf (fun v160 hf => ?_)
  refine ab_aload_n 0 dL_law_831 rfl rfl ?_
  refine ab_iload_n 3 dL_law_832 rfl rfl ?_
  refine ab_iconst dL_law_833 kic_3 ?_
  refine ab_iadd dL_law_834 ?_
  refine f_sld dL_law_835 hf (fun v161 hf => ?_)
  refine f_V_i2 (As := [.int v159, .int v160, .int v161]) (st := [.int v158]) cs_L_107 (fun v hq q => m_X12_terms x2 v159 v160 v161 h157 q) rfl rfl dL_law_836 (rmk2 (by decide) (by decide) (Nat.le_of_ble_eq_true rfl) (by omega) (by omega)) hf (fun v163 h162 hf => ?_)
  refine ab_icmp_eq 907 dL_law_839 (by decide) hf (fun hf => ?_) (fun hf => ?_)
  · refine ab_iinc (v := x3 + 6) [some (.ref 0), some (.ref x1), some (.ref x2), some (.int (x3 + 6))] dL_law_907 rfl (kinc_6 _) (by decide) rfl rfl ?_
    refine ab_goto 18 dL_law_910 (by decide) ?_
    exact ab_msk [true, true, true, true] (hk18 (x3 + 6) h162 _ _ (by omega) (by omega) hf)
  refine ab_iconst dL_law_842 kic_0 ?_
  exact f_retzc2 rfl dL_law_843 rfl (by omega) (by omega) hf
def F_L_law_B844 (L : Nat) (xs : Nat → Int32) (x1 : Nat) (x2 : Nat) (x3 : Int32) (h : abH) (k18 : Int32 → abH → Option (Int32 × abH)) : Option (Int32 × abH) :=
  (ko 11 h x1).bind fun _ => bd2 (F_X11_image x1 h) fun v165 h164 =>
  (ko 12 h164 x2).bind fun _ => bd2 (F_X12_image x2 h164) fun v167 h166 =>
  if v165 = v167 then
    k18 (x3 + 6) h166
  else
    some (0, h166)
theorem w_L_law_B844 {z0 : Int32} {hz : abH} (M : Nat) (L : Nat) (xs : Nat → Int32) (x1 : Nat) (x2 : Nat) (x3 : Int32) (h : abH) (k18 : Int32 → abH → Option (Int32 × abH)) (hk18 : ∀ (w3 : Int32) (hw : abH) (nw nsw : Nat), nw ≤ M + 6 → nsw ≤ 2 * nw + 1000 → k18 w3 hw = some (z0, hz) → abW cL_law 4 RL (some .boolean) false 13 600000 7302250 (some (L, xs)) (some (.int z0), hz) 18 [some (.ref 0), some (.ref x1), some (.ref x2), some (.int w3)] [] hw nw nsw) {nc ns : Nat} (hM : M + 12 ≤ 600000) (hnc : nc ≤ M) (hns : ns ≤ 2 * nc + 1000) (hf : F_L_law_B844 L xs x1 x2 x3 h k18 = some (z0, hz)) : abW cL_law 4 RL (some .boolean) false 13 600000 7302250 (some (L, xs)) (some (.int z0), hz) 844 [some (.ref 0), some (.ref x1), some (.ref x2), some (.int x3)] [] h nc ns := by
  unfold F_L_law_B844 at hf
  refine ab_aload_n 1 dL_law_844 rfl rfl ?_
  refine f_V_i2 (As := []) (st := []) cs_L_108 (fun v hq q => m_X11_image x1 h q) rfl rfl dL_law_845 (rmk2 (by decide) (by decide) (Nat.le_of_ble_eq_true rfl) (by omega) (by omega)) hf (fun v165 h164 hf => ?_)
  refine ab_aload_n 2 dL_law_848 rfl rfl ?_
  refine f_V_i2 (As := []) (st := [.int v165]) cs_L_111 (fun v hq q => m_X12_image x2 h164 q) rfl rfl dL_law_849 (rmk2 (by decide) (by decide) (Nat.le_of_ble_eq_true rfl) (by omega) (by omega)) hf (fun v167 h166 hf => ?_)
  refine ab_icmp_eq 907 dL_law_852 (by decide) hf (fun hf => ?_) (fun hf => ?_)
  · refine ab_iinc (v := x3 + 6) [some (.ref 0), some (.ref x1), some (.ref x2), some (.int (x3 + 6))] dL_law_907 rfl (kinc_6 _) (by decide) rfl rfl ?_
    refine ab_goto 18 dL_law_910 (by decide) ?_
    exact ab_msk [true, true, true, true] (hk18 (x3 + 6) h166 _ _ (by omega) (by omega) hf)
  refine ab_iconst dL_law_855 kic_0 ?_
  exact f_retzc2 rfl dL_law_856 rfl (by omega) (by omega) hf
def F_L_law_B857 (L : Nat) (xs : Nat → Int32) (x1 : Nat) (x2 : Nat) (x3 : Int32) (h : abH) (k18 : Int32 → abH → Option (Int32 × abH)) : Option (Int32 × abH) :=
  (ko 11 h x1).bind fun _ => bd2 (F_X11_restore x1 h) fun v169 h168 =>
  (ko 12 h168 x2).bind fun _ => bd2 (F_X12_restore x2 h168) fun v171 h170 =>
  if v169 = v171 then
    k18 (x3 + 6) h170
  else
    some (0, h170)
theorem w_L_law_B857 {z0 : Int32} {hz : abH} (M : Nat) (L : Nat) (xs : Nat → Int32) (x1 : Nat) (x2 : Nat) (x3 : Int32) (h : abH) (k18 : Int32 → abH → Option (Int32 × abH)) (hk18 : ∀ (w3 : Int32) (hw : abH) (nw nsw : Nat), nw ≤ M + 6 → nsw ≤ 2 * nw + 1000 → k18 w3 hw = some (z0, hz) → abW cL_law 4 RL (some .boolean) false 13 600000 7302250 (some (L, xs)) (some (.int z0), hz) 18 [some (.ref 0), some (.ref x1), some (.ref x2), some (.int w3)] [] hw nw nsw) {nc ns : Nat} (hM : M + 12 ≤ 600000) (hnc : nc ≤ M) (hns : ns ≤ 2 * nc + 1000) (hf : F_L_law_B857 L xs x1 x2 x3 h k18 = some (z0, hz)) : abW cL_law 4 RL (some .boolean) false 13 600000 7302250 (some (L, xs)) (some (.int z0), hz) 857 [some (.ref 0), some (.ref x1), some (.ref x2), some (.int x3)] [] h nc ns := by
  unfold F_L_law_B857 at hf
  refine ab_aload_n 1 dL_law_857 rfl rfl ?_
  refine f_V_i2 (As := []) (st := []) cs_L_112 (fun v hq q => m_X11_restore x1 h q) rfl rfl dL_law_858 (rmk2 (by decide) (by decide) (Nat.le_of_ble_eq_true rfl) (by omega) (by omega)) hf (fun v169 h168 hf => ?_)
  refine ab_aload_n 2 dL_law_861 rfl rfl ?_
  refine f_V_i2 (As := []) (st := [.int v169]) cs_L_115 (fun v hq q => m_X12_restore x2 h168 q) rfl rfl dL_law_862 (rmk2 (by decide) (by decide) (Nat.le_of_ble_eq_true rfl) (by omega) (by omega)) hf (fun v171 h170 hf => ?_)
  refine ab_icmp_eq 907 dL_law_865 (by decide) hf (fun hf => ?_) (fun hf => ?_)
  · refine ab_iinc (v := x3 + 6) [some (.ref 0), some (.ref x1), some (.ref x2), some (.int (x3 + 6))] dL_law_907 rfl (kinc_6 _) (by decide) rfl rfl ?_
    refine ab_goto 18 dL_law_910 (by decide) ?_
    exact ab_msk [true, true, true, true] (hk18 (x3 + 6) h170 _ _ (by omega) (by omega) hf)
  refine ab_iconst dL_law_868 kic_0 ?_
  exact f_retzc2 rfl dL_law_869 rfl (by omega) (by omega) hf
def F_L_law_B870 (L : Nat) (xs : Nat → Int32) (x1 : Nat) (x2 : Nat) (x3 : Int32) (h : abH) (k18 : Int32 → abH → Option (Int32 × abH)) : Option (Int32 × abH) :=
  (sx L xs (x3 + 1)).bind fun v172 =>
  (ko 11 h x1).bind fun _ => (F_X11_count x1 v172 h).bind fun v173 =>
  (sx L xs (x3 + 1)).bind fun v174 =>
  (ko 12 h x2).bind fun _ => (F_X12_count x2 v174 h).bind fun v175 =>
  if v173 = v175 then
    k18 (x3 + 6) h
  else
    some (0, h)
theorem w_L_law_B870 {z0 : Int32} {hz : abH} (M : Nat) (L : Nat) (xs : Nat → Int32) (x1 : Nat) (x2 : Nat) (x3 : Int32) (h : abH) (k18 : Int32 → abH → Option (Int32 × abH)) (hk18 : ∀ (w3 : Int32) (hw : abH) (nw nsw : Nat), nw ≤ M + 6 → nsw ≤ 2 * nw + 1000 → k18 w3 hw = some (z0, hz) → abW cL_law 4 RL (some .boolean) false 13 600000 7302250 (some (L, xs)) (some (.int z0), hz) 18 [some (.ref 0), some (.ref x1), some (.ref x2), some (.int w3)] [] hw nw nsw) {nc ns : Nat} (hM : M + 12 ≤ 600000) (hnc : nc ≤ M) (hns : ns ≤ 2 * nc + 1000) (hf : F_L_law_B870 L xs x1 x2 x3 h k18 = some (z0, hz)) : abW cL_law 4 RL (some .boolean) false 13 600000 7302250 (some (L, xs)) (some (.int z0), hz) 870 [some (.ref 0), some (.ref x1), some (.ref x2), some (.int x3)] [] h nc ns := by
  unfold F_L_law_B870 at hf
  refine ab_aload_n 1 dL_law_870 rfl rfl ?_
  refine ab_aload_n 0 dL_law_871 rfl rfl ?_
  refine ab_iload_n 3 dL_law_872 rfl rfl ?_
  refine ab_iconst dL_law_873 kic_1 ?_
  refine ab_iadd dL_law_874 ?_
  refine f_sld dL_law_875 hf (fun v172 hf => ?_)
  refine f_V_i (As := [.int v172]) (st := []) cs_L_116 (fun v q => m_X11_count x1 v172 h q) rfl rfl dL_law_876 (rmk2 (by decide) (by decide) (Nat.le_of_ble_eq_true rfl) (by omega) (by omega)) hf (fun v173 hf => ?_)
  refine ab_aload_n 2 dL_law_879 rfl rfl ?_
  refine ab_aload_n 0 dL_law_880 rfl rfl ?_
  refine ab_iload_n 3 dL_law_881 rfl rfl ?_
  refine ab_iconst dL_law_882 kic_1 ?_
  refine ab_iadd dL_law_883 ?_
  refine f_sld dL_law_884 hf (fun v174 hf => ?_)
  refine f_V_i (As := [.int v174]) (st := [.int v173]) cs_L_119 (fun v q => m_X12_count x2 v174 h q) rfl rfl dL_law_885 (rmk2 (by decide) (by decide) (Nat.le_of_ble_eq_true rfl) (by omega) (by omega)) hf (fun v175 hf => ?_)
  refine ab_icmp_eq 907 dL_law_888 (by decide) hf (fun hf => ?_) (fun hf => ?_)
  · refine ab_iinc (v := x3 + 6) [some (.ref 0), some (.ref x1), some (.ref x2), some (.int (x3 + 6))] dL_law_907 rfl (kinc_6 _) (by decide) rfl rfl ?_
    refine ab_goto 18 dL_law_910 (by decide) ?_
    exact ab_msk [true, true, true, true] (hk18 (x3 + 6) h _ _ (by omega) (by omega) hf)
  refine ab_iconst dL_law_891 kic_0 ?_
  exact f_retzc2 rfl dL_law_892 rfl (by omega) (by omega) hf
def F_L_law_B893 (L : Nat) (xs : Nat → Int32) (x1 : Nat) (x2 : Nat) (x3 : Int32) (h : abH) (k18 : Int32 → abH → Option (Int32 × abH)) : Option (Int32 × abH) :=
  (ko 11 h x1).bind fun _ => bd2 (F_X11_digest x1 h) fun v177 h176 =>
  (ko 12 h176 x2).bind fun _ => bd2 (F_X12_digest x2 h176) fun v179 h178 =>
  if (lg_cmp v177 v179) = 0 then
    k18 (x3 + 6) h178
  else
    some (0, h178)
theorem w_L_law_B893 {z0 : Int32} {hz : abH} (M : Nat) (L : Nat) (xs : Nat → Int32) (x1 : Nat) (x2 : Nat) (x3 : Int32) (h : abH) (k18 : Int32 → abH → Option (Int32 × abH)) (hk18 : ∀ (w3 : Int32) (hw : abH) (nw nsw : Nat), nw ≤ M + 6 → nsw ≤ 2 * nw + 1000 → k18 w3 hw = some (z0, hz) → abW cL_law 4 RL (some .boolean) false 13 600000 7302250 (some (L, xs)) (some (.int z0), hz) 18 [some (.ref 0), some (.ref x1), some (.ref x2), some (.int w3)] [] hw nw nsw) {nc ns : Nat} (hM : M + 12 ≤ 600000) (hnc : nc ≤ M) (hns : ns ≤ 2 * nc + 1000) (hf : F_L_law_B893 L xs x1 x2 x3 h k18 = some (z0, hz)) : abW cL_law 4 RL (some .boolean) false 13 600000 7302250 (some (L, xs)) (some (.int z0), hz) 893 [some (.ref 0), some (.ref x1), some (.ref x2), some (.int x3)] [] h nc ns := by
  unfold F_L_law_B893 at hf
  refine ab_aload_n 1 dL_law_893 rfl rfl ?_
  refine f_V_l2 (As := []) (st := []) cs_L_120 (fun v hq q => m_X11_digest x1 h q) rfl rfl dL_law_894 (rmk2 (by decide) (by decide) (Nat.le_of_ble_eq_true rfl) (by omega) (by omega)) hf (fun v177 h176 hf => ?_)
  refine ab_aload_n 2 dL_law_897 rfl rfl ?_
  refine f_V_l2 (As := []) (st := [.long v177]) cs_L_124 (fun v hq q => m_X12_digest x2 h176 q) rfl rfl dL_law_898 (rmk2 (by decide) (by decide) (Nat.le_of_ble_eq_true rfl) (by omega) (by omega)) hf (fun v179 h178 hf => ?_)
  refine ab_lcmp dL_law_901 ?_
  refine ab_if_eq 907 dL_law_902 (by decide) hf (fun hf => ?_) (fun hf => ?_)
  · refine ab_iinc (v := x3 + 6) [some (.ref 0), some (.ref x1), some (.ref x2), some (.int (x3 + 6))] dL_law_907 rfl (kinc_6 _) (by decide) rfl rfl ?_
    refine ab_goto 18 dL_law_910 (by decide) ?_
    exact ab_msk [true, true, true, true] (hk18 (x3 + 6) h178 _ _ (by omega) (by omega) hf)
  refine ab_iconst dL_law_905 kic_0 ?_
  exact f_retzc2 rfl dL_law_906 rfl (by omega) (by omega) hf
def F_L_law_B18 (L : Nat) (xs : Nat → Int32) (x1 : Nat) (x2 : Nat) : Nat → Int32 → abH → Option (Int32 × abH)
  | 0, _, _ => none
  | n + 1, x3, h =>
    if x3 ≤ ((Int32.ofNat L) - 6) then
      (sx L xs x3).bind fun v5 =>
      nm (v5 &&& 31) fun v6 =>
      if v6 = 0 then
        F_L_law_B152 L xs x1 x2 x3 h (fun u3 hu => F_L_law_B18 L xs x1 x2 n u3 hu)
      else
      if v6 = 1 then
        F_L_law_B175 L xs x1 x2 x3 h (fun u3 hu => F_L_law_B18 L xs x1 x2 n u3 hu)
      else
      if v6 = 2 then
        F_L_law_B188 L xs x1 x2 x3 h (fun u3 hu => F_L_law_B18 L xs x1 x2 n u3 hu)
      else
      if v6 = 3 then
        F_L_law_B201 L xs x1 x2 x3 h (fun u3 hu => F_L_law_B18 L xs x1 x2 n u3 hu)
      else
      if v6 = 4 then
        F_L_law_B214 L xs x1 x2 x3 h (fun u3 hu => F_L_law_B18 L xs x1 x2 n u3 hu)
      else
      if v6 = 5 then
        F_L_law_B247 L xs x1 x2 x3 h (fun u3 hu => F_L_law_B18 L xs x1 x2 n u3 hu)
      else
      if v6 = 6 then
        F_L_law_B280 L xs x1 x2 x3 h (fun u3 hu => F_L_law_B18 L xs x1 x2 n u3 hu)
      else
      if v6 = 7 then
        F_L_law_B313 L xs x1 x2 x3 h (fun u3 hu => F_L_law_B18 L xs x1 x2 n u3 hu)
      else
      if v6 = 8 then
        F_L_law_B346 L xs x1 x2 x3 h (fun u3 hu => F_L_law_B18 L xs x1 x2 n u3 hu)
      else
      if v6 = 9 then
        F_L_law_B389 L xs x1 x2 x3 h (fun u3 hu => F_L_law_B18 L xs x1 x2 n u3 hu)
      else
      if v6 = 10 then
        F_L_law_B402 L xs x1 x2 x3 h (fun u3 hu => F_L_law_B18 L xs x1 x2 n u3 hu)
      else
      if v6 = 11 then
        F_L_law_B435 L xs x1 x2 x3 h (fun u3 hu => F_L_law_B18 L xs x1 x2 n u3 hu)
      else
      if v6 = 12 then
        F_L_law_B468 L xs x1 x2 x3 h (fun u3 hu => F_L_law_B18 L xs x1 x2 n u3 hu)
      else
      if v6 = 13 then
        F_L_law_B501 L xs x1 x2 x3 h (fun u3 hu => F_L_law_B18 L xs x1 x2 n u3 hu)
      else
      if v6 = 14 then
        F_L_law_B534 L xs x1 x2 x3 h (fun u3 hu => F_L_law_B18 L xs x1 x2 n u3 hu)
      else
      if v6 = 15 then
        F_L_law_B567 L xs x1 x2 x3 h (fun u3 hu => F_L_law_B18 L xs x1 x2 n u3 hu)
      else
      if v6 = 16 then
        F_L_law_B580 L xs x1 x2 x3 h (fun u3 hu => F_L_law_B18 L xs x1 x2 n u3 hu)
      else
      if v6 = 17 then
        F_L_law_B633 L xs x1 x2 x3 h (fun u3 hu => F_L_law_B18 L xs x1 x2 n u3 hu)
      else
      if v6 = 18 then
        F_L_law_B656 L xs x1 x2 x3 h (fun u3 hu => F_L_law_B18 L xs x1 x2 n u3 hu)
      else
      if v6 = 19 then
        F_L_law_B719 L xs x1 x2 x3 h (fun u3 hu => F_L_law_B18 L xs x1 x2 n u3 hu)
      else
      if v6 = 20 then
        F_L_law_B788 L xs x1 x2 x3 h (fun u3 hu => F_L_law_B18 L xs x1 x2 n u3 hu)
      else
      if v6 = 21 then
        F_L_law_B801 L xs x1 x2 x3 h (fun u3 hu => F_L_law_B18 L xs x1 x2 n u3 hu)
      else
      if v6 = 22 then
        F_L_law_B844 L xs x1 x2 x3 h (fun u3 hu => F_L_law_B18 L xs x1 x2 n u3 hu)
      else
      if v6 = 23 then
        F_L_law_B857 L xs x1 x2 x3 h (fun u3 hu => F_L_law_B18 L xs x1 x2 n u3 hu)
      else
      if v6 = 24 then
        F_L_law_B870 L xs x1 x2 x3 h (fun u3 hu => F_L_law_B18 L xs x1 x2 n u3 hu)
      else
      if v6 = 25 then
        F_L_law_B893 L xs x1 x2 x3 h (fun u3 hu => F_L_law_B18 L xs x1 x2 n u3 hu)
      else
        F_L_law_B18 L xs x1 x2 n (x3 + 6) h
    else
      some (1, h)
theorem w_L_law_B18 {z0 : Int32} {hz : abH} (L : Nat) (xs : Nat → Int32) (x1 : Nat) (x2 : Nat)   : ∀ (n : Nat) (x3 : Int32) (h : abH) (nc ns : Nat), nc + 6 * n + 12 ≤ 600000 → ns ≤ 2 * nc + 1000 → F_L_law_B18 L xs x1 x2 n x3 h = some (z0, hz) → abW cL_law 4 RL (some .boolean) false 13 600000 7302250 (some (L, xs)) (some (.int z0), hz) 18 [some (.ref 0), some (.ref x1), some (.ref x2), some (.int x3)] [] h nc ns := by
  intro n
  induction n with
  | zero =>
    intro x3 h nc ns hnc hns hf
    exact absurd (show (none : Option (Int32 × abH)) = some _ from hf) (by simp)
  | succ n ih =>
    intro x3 h nc ns hnc hns hf
    rw [F_L_law_B18.eq_2] at hf
    refine ab_iload_n 3 dL_law_18 rfl rfl ?_
    refine ab_aload_n 0 dL_law_19 rfl rfl ?_
    refine ab_slen dL_law_20 ?_
    refine ab_bipush dL_law_21 kbp_6 ?_
    refine ab_isub dL_law_23 ?_
    refine ab_icmp_gt 913 dL_law_24 (by decide) hf (fun hf => ?_) (fun hf => ?_)
    · refine ab_aload_n 0 dL_law_27 rfl rfl ?_
      refine ab_iload_n 3 dL_law_28 rfl rfl ?_
      refine f_sld dL_law_29 hf (fun v5 hf => ?_)
      refine ab_bipush dL_law_30 kbp_31 ?_
      refine ab_iand dL_law_32 ?_
      refine ab_nmi hf (fun v6 hf => ?_)
      refine f_tab 0 119 152 dL_law_33 (by decide +kernel) (by decide) hf (fun hf => ?_) (fun q0 hf => ?_)
      · exact ab_msk [true, true, true, true] (w_L_law_B152 nc L xs x1 x2 x3 h (fun u3 hu => F_L_law_B18 L xs x1 x2 n u3 hu) (fun u3 hu nw nsw q1 q2 hf => ih u3 hu nw nsw (by omega) (by omega) hf) (by omega) (by omega) (by omega) hf)
      refine f_tab 1 142 175 dL_law_33 (by decide +kernel) (by decide) hf (fun hf => ?_) (fun q1 hf => ?_)
      · exact ab_msk [true, true, true, true] (w_L_law_B175 nc L xs x1 x2 x3 h (fun u3 hu => F_L_law_B18 L xs x1 x2 n u3 hu) (fun u3 hu nw nsw q1 q2 hf => ih u3 hu nw nsw (by omega) (by omega) hf) (by omega) (by omega) (by omega) hf)
      refine f_tab 2 155 188 dL_law_33 (by decide +kernel) (by decide) hf (fun hf => ?_) (fun q2 hf => ?_)
      · exact ab_msk [true, true, true, true] (w_L_law_B188 nc L xs x1 x2 x3 h (fun u3 hu => F_L_law_B18 L xs x1 x2 n u3 hu) (fun u3 hu nw nsw q1 q2 hf => ih u3 hu nw nsw (by omega) (by omega) hf) (by omega) (by omega) (by omega) hf)
      refine f_tab 3 168 201 dL_law_33 (by decide +kernel) (by decide) hf (fun hf => ?_) (fun q3 hf => ?_)
      · exact ab_msk [true, true, true, true] (w_L_law_B201 nc L xs x1 x2 x3 h (fun u3 hu => F_L_law_B18 L xs x1 x2 n u3 hu) (fun u3 hu nw nsw q1 q2 hf => ih u3 hu nw nsw (by omega) (by omega) hf) (by omega) (by omega) (by omega) hf)
      refine f_tab 4 181 214 dL_law_33 (by decide +kernel) (by decide) hf (fun hf => ?_) (fun q4 hf => ?_)
      · exact ab_msk [true, true, true, true] (w_L_law_B214 nc L xs x1 x2 x3 h (fun u3 hu => F_L_law_B18 L xs x1 x2 n u3 hu) (fun u3 hu nw nsw q1 q2 hf => ih u3 hu nw nsw (by omega) (by omega) hf) (by omega) (by omega) (by omega) hf)
      refine f_tab 5 214 247 dL_law_33 (by decide +kernel) (by decide) hf (fun hf => ?_) (fun q5 hf => ?_)
      · exact ab_msk [true, true, true, true] (w_L_law_B247 nc L xs x1 x2 x3 h (fun u3 hu => F_L_law_B18 L xs x1 x2 n u3 hu) (fun u3 hu nw nsw q1 q2 hf => ih u3 hu nw nsw (by omega) (by omega) hf) (by omega) (by omega) (by omega) hf)
      refine f_tab 6 247 280 dL_law_33 (by decide +kernel) (by decide) hf (fun hf => ?_) (fun q6 hf => ?_)
      · exact ab_msk [true, true, true, true] (w_L_law_B280 nc L xs x1 x2 x3 h (fun u3 hu => F_L_law_B18 L xs x1 x2 n u3 hu) (fun u3 hu nw nsw q1 q2 hf => ih u3 hu nw nsw (by omega) (by omega) hf) (by omega) (by omega) (by omega) hf)
      refine f_tab 7 280 313 dL_law_33 (by decide +kernel) (by decide) hf (fun hf => ?_) (fun q7 hf => ?_)
      · exact ab_msk [true, true, true, true] (w_L_law_B313 nc L xs x1 x2 x3 h (fun u3 hu => F_L_law_B18 L xs x1 x2 n u3 hu) (fun u3 hu nw nsw q1 q2 hf => ih u3 hu nw nsw (by omega) (by omega) hf) (by omega) (by omega) (by omega) hf)
      refine f_tab 8 313 346 dL_law_33 (by decide +kernel) (by decide) hf (fun hf => ?_) (fun q8 hf => ?_)
      · exact ab_msk [true, true, true, true] (w_L_law_B346 nc L xs x1 x2 x3 h (fun u3 hu => F_L_law_B18 L xs x1 x2 n u3 hu) (fun u3 hu nw nsw q1 q2 hf => ih u3 hu nw nsw (by omega) (by omega) hf) (by omega) (by omega) (by omega) hf)
      refine f_tab 9 356 389 dL_law_33 (by decide +kernel) (by decide) hf (fun hf => ?_) (fun q9 hf => ?_)
      · exact ab_msk [true, true, true, true] (w_L_law_B389 nc L xs x1 x2 x3 h (fun u3 hu => F_L_law_B18 L xs x1 x2 n u3 hu) (fun u3 hu nw nsw q1 q2 hf => ih u3 hu nw nsw (by omega) (by omega) hf) (by omega) (by omega) (by omega) hf)
      refine f_tab 10 369 402 dL_law_33 (by decide +kernel) (by decide) hf (fun hf => ?_) (fun q10 hf => ?_)
      · exact ab_msk [true, true, true, true] (w_L_law_B402 nc L xs x1 x2 x3 h (fun u3 hu => F_L_law_B18 L xs x1 x2 n u3 hu) (fun u3 hu nw nsw q1 q2 hf => ih u3 hu nw nsw (by omega) (by omega) hf) (by omega) (by omega) (by omega) hf)
      refine f_tab 11 402 435 dL_law_33 (by decide +kernel) (by decide) hf (fun hf => ?_) (fun q11 hf => ?_)
      · exact ab_msk [true, true, true, true] (w_L_law_B435 nc L xs x1 x2 x3 h (fun u3 hu => F_L_law_B18 L xs x1 x2 n u3 hu) (fun u3 hu nw nsw q1 q2 hf => ih u3 hu nw nsw (by omega) (by omega) hf) (by omega) (by omega) (by omega) hf)
      refine f_tab 12 435 468 dL_law_33 (by decide +kernel) (by decide) hf (fun hf => ?_) (fun q12 hf => ?_)
      · exact ab_msk [true, true, true, true] (w_L_law_B468 nc L xs x1 x2 x3 h (fun u3 hu => F_L_law_B18 L xs x1 x2 n u3 hu) (fun u3 hu nw nsw q1 q2 hf => ih u3 hu nw nsw (by omega) (by omega) hf) (by omega) (by omega) (by omega) hf)
      refine f_tab 13 468 501 dL_law_33 (by decide +kernel) (by decide) hf (fun hf => ?_) (fun q13 hf => ?_)
      · exact ab_msk [true, true, true, true] (w_L_law_B501 nc L xs x1 x2 x3 h (fun u3 hu => F_L_law_B18 L xs x1 x2 n u3 hu) (fun u3 hu nw nsw q1 q2 hf => ih u3 hu nw nsw (by omega) (by omega) hf) (by omega) (by omega) (by omega) hf)
      refine f_tab 14 501 534 dL_law_33 (by decide +kernel) (by decide) hf (fun hf => ?_) (fun q14 hf => ?_)
      · exact ab_msk [true, true, true, true] (w_L_law_B534 nc L xs x1 x2 x3 h (fun u3 hu => F_L_law_B18 L xs x1 x2 n u3 hu) (fun u3 hu nw nsw q1 q2 hf => ih u3 hu nw nsw (by omega) (by omega) hf) (by omega) (by omega) (by omega) hf)
      refine f_tab 15 534 567 dL_law_33 (by decide +kernel) (by decide) hf (fun hf => ?_) (fun q15 hf => ?_)
      · exact ab_msk [true, true, true, true] (w_L_law_B567 nc L xs x1 x2 x3 h (fun u3 hu => F_L_law_B18 L xs x1 x2 n u3 hu) (fun u3 hu nw nsw q1 q2 hf => ih u3 hu nw nsw (by omega) (by omega) hf) (by omega) (by omega) (by omega) hf)
      refine f_tab 16 547 580 dL_law_33 (by decide +kernel) (by decide) hf (fun hf => ?_) (fun q16 hf => ?_)
      · exact ab_msk [true, true, true, true] (w_L_law_B580 nc L xs x1 x2 x3 h (fun u3 hu => F_L_law_B18 L xs x1 x2 n u3 hu) (fun u3 hu nw nsw q1 q2 hf => ih u3 hu nw nsw (by omega) (by omega) hf) (by omega) (by omega) (by omega) hf)
      refine f_tab 17 600 633 dL_law_33 (by decide +kernel) (by decide) hf (fun hf => ?_) (fun q17 hf => ?_)
      · exact ab_msk [true, true, true, true] (w_L_law_B633 nc L xs x1 x2 x3 h (fun u3 hu => F_L_law_B18 L xs x1 x2 n u3 hu) (fun u3 hu nw nsw q1 q2 hf => ih u3 hu nw nsw (by omega) (by omega) hf) (by omega) (by omega) (by omega) hf)
      refine f_tab 18 623 656 dL_law_33 (by decide +kernel) (by decide) hf (fun hf => ?_) (fun q18 hf => ?_)
      · exact ab_msk [true, true, true, true] (w_L_law_B656 nc L xs x1 x2 x3 h (fun u3 hu => F_L_law_B18 L xs x1 x2 n u3 hu) (fun u3 hu nw nsw q1 q2 hf => ih u3 hu nw nsw (by omega) (by omega) hf) (by omega) (by omega) (by omega) hf)
      refine f_tab 19 686 719 dL_law_33 (by decide +kernel) (by decide) hf (fun hf => ?_) (fun q19 hf => ?_)
      · exact ab_msk [true, true, true, true] (w_L_law_B719 nc L xs x1 x2 x3 h (fun u3 hu => F_L_law_B18 L xs x1 x2 n u3 hu) (fun u3 hu nw nsw q1 q2 hf => ih u3 hu nw nsw (by omega) (by omega) hf) (by omega) (by omega) (by omega) hf)
      refine f_tab 20 755 788 dL_law_33 (by decide +kernel) (by decide) hf (fun hf => ?_) (fun q20 hf => ?_)
      · exact ab_msk [true, true, true, true] (w_L_law_B788 nc L xs x1 x2 x3 h (fun u3 hu => F_L_law_B18 L xs x1 x2 n u3 hu) (fun u3 hu nw nsw q1 q2 hf => ih u3 hu nw nsw (by omega) (by omega) hf) (by omega) (by omega) (by omega) hf)
      refine f_tab 21 768 801 dL_law_33 (by decide +kernel) (by decide) hf (fun hf => ?_) (fun q21 hf => ?_)
      · exact ab_msk [true, true, true, true] (w_L_law_B801 nc L xs x1 x2 x3 h (fun u3 hu => F_L_law_B18 L xs x1 x2 n u3 hu) (fun u3 hu nw nsw q1 q2 hf => ih u3 hu nw nsw (by omega) (by omega) hf) (by omega) (by omega) (by omega) hf)
      refine f_tab 22 811 844 dL_law_33 (by decide +kernel) (by decide) hf (fun hf => ?_) (fun q22 hf => ?_)
      · exact ab_msk [true, true, true, true] (w_L_law_B844 nc L xs x1 x2 x3 h (fun u3 hu => F_L_law_B18 L xs x1 x2 n u3 hu) (fun u3 hu nw nsw q1 q2 hf => ih u3 hu nw nsw (by omega) (by omega) hf) (by omega) (by omega) (by omega) hf)
      refine f_tab 23 824 857 dL_law_33 (by decide +kernel) (by decide) hf (fun hf => ?_) (fun q23 hf => ?_)
      · exact ab_msk [true, true, true, true] (w_L_law_B857 nc L xs x1 x2 x3 h (fun u3 hu => F_L_law_B18 L xs x1 x2 n u3 hu) (fun u3 hu nw nsw q1 q2 hf => ih u3 hu nw nsw (by omega) (by omega) hf) (by omega) (by omega) (by omega) hf)
      refine f_tab 24 837 870 dL_law_33 (by decide +kernel) (by decide) hf (fun hf => ?_) (fun q24 hf => ?_)
      · exact ab_msk [true, true, true, true] (w_L_law_B870 nc L xs x1 x2 x3 h (fun u3 hu => F_L_law_B18 L xs x1 x2 n u3 hu) (fun u3 hu nw nsw q1 q2 hf => ih u3 hu nw nsw (by omega) (by omega) hf) (by omega) (by omega) (by omega) hf)
      refine f_tab 25 860 893 dL_law_33 (by decide +kernel) (by decide) hf (fun hf => ?_) (fun q25 hf => ?_)
      · exact ab_msk [true, true, true, true] (w_L_law_B893 nc L xs x1 x2 x3 h (fun u3 hu => F_L_law_B18 L xs x1 x2 n u3 hu) (fun u3 hu nw nsw q1 q2 hf => ih u3 hu nw nsw (by omega) (by omega) hf) (by omega) (by omega) (by omega) hf)
      refine ab_tableOut 907 dL_law_33 (tout_25 q0 q1 q2 q3 q4 q5 q6 q7 q8 q9 q10 q11 q12 q13 q14 q15 q16 q17 q18 q19 q20 q21 q22 q23 q24 q25) (by decide) ?_
      refine ab_iinc (v := x3 + 6) [some (.ref 0), some (.ref x1), some (.ref x2), some (.int (x3 + 6))] dL_law_907 rfl (kinc_6 _) (by decide) rfl rfl ?_
      refine ab_goto 18 dL_law_910 (by decide) ?_
      exact ab_msk [true, true, true, true] (ih (x3 + 6) h _ _ (by omega) (by omega) hf)
    refine ab_iconst dL_law_913 kic_1 ?_
    exact f_retzc2 rfl dL_law_914 rfl (by omega) (by omega) hf
def F_L_law (L : Nat) (xs : Nat → Int32) (h : abH) : Option (Int32 × abH) :=
  nm (h ++ [.inr (.inr (11, [.null, .null, .null, .null, .null, .null, .null, .int 0, .int 0]))]) fun h1 =>
  (F_X11_init (h.length + 3) h1).bind fun h2 =>
  nm (h2 ++ [.inr (.inr (12, [.int 0, .int 0, .null, .null, .null, .null, .int 0, .int 0, .int 0, .null, .null, .int 0, .null, .null, .null, .null, .int 0, .null, .int 0, .int 0, .null, .null, .null, .null, .long 0, .int 0, .int 0, .int 0, .int 0, .int 0, .int 0, .null, .null, .null, .null, .null, .null, .null, .null, .null, .long 0]))]) fun h3 =>
  (F_X12_init (h2.length + 3) h3).bind fun h4 =>
  F_L_law_B18 L xs (h.length + 3) (h2.length + 3) 513 0 h4
theorem w_L_law {z0 : Int32} {hz : abH} (L : Nat) (xs : Nat → Int32) (h : abH) (hf : F_L_law L xs h = some (z0, hz)) : abW cL_law 4 RL (some .boolean) false 13 600000 7302250 (some (L, xs)) (some (.int z0), hz) 0 [some (.ref 0), none, none, none] [] h 0 0 := by
  unfold F_L_law at hf
  refine ab_new ns_L_7 dL_law_0 (by omega) (by omega) ?_
  refine ab_nmh hf (fun h1 hf => ?_)
  refine ab_dup dL_law_3 rfl ?_
  refine f_I_v2 (As := []) (st := [.ref (h.length + 3)]) rfl rfl cs_L_9 (fun hq q => m_X11_init (h.length + 3) h1 q) rfl rfl dL_law_4 (rmk2 (by decide) (by decide) (Nat.le_of_ble_eq_true rfl) (by omega) (by omega)) hf (fun h2 hf => ?_)
  refine ab_astore_n 1 [some (.ref 0), some (.ref (h.length + 3)), none, none] dL_law_7 rfl (by decide) rfl rfl ?_
  refine ab_new ns_L_10 dL_law_8 (by omega) (by omega) ?_
  refine ab_nmh hf (fun h3 hf => ?_)
  refine ab_dup dL_law_11 rfl ?_
  refine f_I_v2 (As := []) (st := [.ref (h2.length + 3)]) rfl rfl cs_L_12 (fun hq q => m_X12_init (h2.length + 3) h3 q) rfl rfl dL_law_12 (rmk2 (by decide) (by decide) (Nat.le_of_ble_eq_true rfl) (by omega) (by omega)) hf (fun h4 hf => ?_)
  refine ab_astore_n 2 [some (.ref 0), some (.ref (h.length + 3)), some (.ref (h2.length + 3)), none] dL_law_15 rfl (by decide) rfl rfl ?_
  refine ab_iconst dL_law_16 kic_0 ?_
  refine ab_istore_n 3 [some (.ref 0), some (.ref (h.length + 3)), some (.ref (h2.length + 3)), some (.int 0)] dL_law_17 rfl (by decide) rfl rfl ?_
  exact ab_msk [true, true, true, true] (w_L_law_B18 L xs (h.length + 3) (h2.length + 3) 513 0 h4 _ _ (by omega) (by omega) hf)
