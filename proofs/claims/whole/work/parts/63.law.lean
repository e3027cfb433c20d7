/-! THE LAW -/
theorem mFr.mI {s : zS} {I I' : zI} {J J' : zJ} (h : mFr I J I' J') (hm : mI s I J) : mI s I' J' := by
  obtain ⟨m1, m2, m3, m4, m5, m6, m7, m8, m9, m10, m11⟩ := hm
  refine ⟨?_, ?_, ?_, ?_, ?_, ?_, ?_, ?_, ?_, ?_, ?_⟩
  · rw [(h 17 (by decide) (by decide)).1]; exact m1
  · rw [(h 17 (by decide) (by decide)).1]; exact m2
  · rw [(h 17 (by decide) (by decide)).1]; exact m3
  · rw [(h 18 (by decide) (by decide)).2]; exact m4
  · rw [(h 19 (by decide) (by decide)).1]; exact m5
  · rw [(h 20 (by decide) (by decide)).1]; exact m6
  · rw [(h 21 (by decide) (by decide)).1]; exact m7
  · rw [(h 22 (by decide) (by decide)).1]; exact m8
  · rw [(h 23 (by decide) (by decide)).1]; exact m9
  · rw [(h 24 (by decide) (by decide)).1]; exact m10
  · rw [(h 25 (by decide) (by decide)).1]; exact m11
theorem wa_piece {s : zS} (hw : s_wf s) (v : Int64) : s_wf (a_piece s v).2 := by
  unfold a_piece
  split
  · exact hw
  · split
    · exact hw
    · exact w_piece hw (by omega) (by omega) v
theorem wa_listener {s : zS} (hw : s_wf s) (x : Int32) : s_wf (a_listener s x).2 := by
  unfold a_listener
  split
  · rename_i h
    split
    · exact hw
    · obtain ⟨k, hk, rfl⟩ := z_isx_true (by decide) h
      rw [nI_clamp (by omega)]
      exact w_listener hw (by omega) hk
  · exact hw
theorem wa_wants {s : zS} (hw : s_wf s) (x y : Int32) : s_wf (a_wants s x y).2 := by
  have w1 := hw.1
  have w2 := hw.2.1
  unfold a_wants
  split
  · rename_i h
    rw [Bool.and_eq_true] at h
    obtain ⟨l, hl, rfl⟩ := z_isx_true (by omega) h.1
    obtain ⟨p, hp, rfl⟩ := z_isx_true (by omega) h.2
    rw [nI_clamp (by omega), nI_clamp (by omega)]
    unfold a_wantsN
    split
    · exact hw
    · rename_i hk
      split
      · exact hw
      · split
        · exact hw
        · exact w_wants hw hl hp hk
  · exact hw
theorem wa_has {s : zS} (hw : s_wf s) (x y : Int32) : s_wf (a_has s x y).2 := by
  have w1 := hw.1
  have w2 := hw.2.1
  unfold a_has
  split
  · rename_i h
    obtain ⟨l, hl, rfl⟩ := z_isx_true (by omega) h
    split
    · rename_i h2
      obtain ⟨m, h0, hmp, rfl⟩ := z_msk_true w1 h2
      have := p2_10 w1 hmp
      rw [nI_clamp (by omega), nI_clamp (by omega)]
      unfold a_hasN
      split
      · split
        · exact hw
        · split
          · exact hw
          · exact w_has hw hl h0 hmp (by omega)
      · exact hw
    · exact hw
  · exact hw
theorem wa_off {s : zS} (hw : s_wf s) (x y : Int32) : s_wf (a_off s x y).2 := by
  have w2 := hw.2.1
  unfold a_off
  split
  · rename_i h
    obtain ⟨l, hl, rfl⟩ := z_isx_true (by omega) h
    rw [nI_clamp (by omega)]
    unfold a_offN
    split
    · split
      · exact w_off hw hl _
      · exact hw
    · exact hw
  · exact hw
theorem wa_sayN {s : zS} (hw : s_wf s) {m : Nat} (h0 : 0 < m) (hm : m < 2 ^ s_np s) : s_wf (a_sayN s m).2 := by
  unfold a_sayN
  split
  · exact hw
  · exact w_say hw h0 hm (by omega)
theorem wa_say {s : zS} (hw : s_wf s) (x : Int32) : s_wf (a_say s x).2 := by
  have w1 := hw.1
  unfold a_say
  split
  · rename_i h2
    obtain ⟨m, h0, hmp, rfl⟩ := z_msk_true w1 h2
    have := p2_10 w1 hmp
    rw [nI_clamp (by omega)]
    exact wa_sayN hw h0 hmp
  · exact hw
theorem wa_again {s : zS} (hw : s_wf s) (x : Int32) : s_wf (a_again s x).2 := by
  have w3 := hw.2.2.1
  unfold a_again
  split
  · rename_i h
    obtain ⟨c, hc, rfl⟩ := z_isx_true (by omega) h
    rw [nI_clamp (by omega)]
    have := hw.2.2.2.2.2.2.2.1 c hc
    exact wa_sayN hw this.1 this.2.1
  · exact hw
theorem lg_same (v : Int64) : lg_cmp v v = 0 := by
  unfold lg_cmp
  rw [if_neg Int64.lt_irrefl, if_pos rfl]
theorem l_top {L i : Nat} (hL : L ≤ 2560) (hi : i ≤ 2560) : (nI L - nI 5 < nI i) ↔ L < i + 5 := by
  rw [Int32.lt_iff_toInt_lt, pk_sub_toInt (by omega) (by omega), nI_toInt (by omega)]
  omega
/-- between the law's rounds -/
def lwI (s : zS) (h : zH) (I : zI) (J : zJ) : Prop := s_wf s ∧ h = z_s (s_nl s) ∧ cI s I J ∧ mI s I J
section ZLAW
variable {b0 L : Nat} {xs : Nat → Int32} {y : MethodName} {K : zK}
theorem lw_c0 (hy : y.cls = RL) (E : z_E y code 4 (some .boolean) 41 K) (S : z_Sc b0 L xs K) (hL31 : L < 2 ^ 31) {i n : Nat} (hi : i + 5 ≤ L) (s : zS) (hw : s_wf s) (I : zI) (J : zJ) (hc : cI s I J) (hm : mI s I J) (back : ∀ (s2 : zS) (h2 : zH) (I2 : zI) (J2 : zJ), lwI s2 h2 I2 J2 → z_W b0 K 972 [(1, .ref 1), (2, .ref 17), (3, .int (nI i))] [] h2 I2 J2 (6 * n) (94 * n)) : z_W b0 K 168 [(1, .ref 1), (2, .ref 17), (3, .int (nI i))] [] (z_s (s_nl s)) I J (6 * n + 6) (94 * n + 94) := by
  obtain ⟨yc, yn, yd⟩ := y
  have hy : yc = RL := hy
  subst hy
  refine u_wide (kc2 := 6 * n) (ks2 := 94 * n) (by omega) (by omega) ?_
  refine u_aload_n E dL_law_168 rfl ?_
  refine u_arg (j := 1) E S hL31 (by omega) (by decide) dL_law_169 dL_law_170 dL_law_171 dL_law_172 dL_law_173 rfl ?_
  refine u_i2l E dL_law_174 ?_
  refine u_bipush (v := nI 32) E dL_law_175 (by decide) ?_
  refine u_lshl E dL_law_177 ?_
  refine u_arg (j := 2) E S hL31 (by omega) (by decide) dL_law_178 dL_law_179 dL_law_180 dL_law_181 dL_law_182 rfl ?_
  refine u_i2l E dL_law_183 ?_
  refine u_ldc2_w E dL_law_184 n_L_13 ?_
  refine u_land E dL_law_187 ?_
  refine u_lor E dL_law_188 ?_
  refine u_callV (kc := 6 * n) (ks := 94 * n) (c1 := 0) (s1 := 0) E dL_law_189 k_L_15 Y_X3_piece (m_piece _ s hw I J hc _) rfl rfl rfl (Nat.le_of_ble_eq_true rfl) ?_
  rintro r h' I1 J1 ⟨rfl, rfl, g1, g2⟩
  have hm1 := mFr.mI g2 hm
  refine u_aload_n E dL_law_192 rfl ?_
  refine u_arg (j := 1) E S hL31 (by omega) (by decide) dL_law_193 dL_law_194 dL_law_195 dL_law_196 dL_law_197 rfl ?_
  refine u_i2l E dL_law_198 ?_
  refine u_bipush (v := nI 32) E dL_law_199 (by decide) ?_
  refine u_lshl E dL_law_201 ?_
  refine u_arg (j := 2) E S hL31 (by omega) (by decide) dL_law_202 dL_law_203 dL_law_204 dL_law_205 dL_law_206 rfl ?_
  refine u_i2l E dL_law_207 ?_
  refine u_ldc2_w E dL_law_208 n_L_13 ?_
  refine u_land E dL_law_211 ?_
  refine u_lor E dL_law_212 ?_
  refine u_callV (kc := 6 * n) (ks := 94 * n) (c1 := 0) (s1 := 0) E dL_law_213 k_L_19 Y_X4_piece (mm_piece _ _ s hw I1 J1 hm1 _) rfl rfl rfl (Nat.le_of_ble_eq_true rfl) ?_
  rintro r h' I2 J2 ⟨rfl, rfl, p1, p2⟩
  refine u_icmp_eq (tgt := 972) E dL_law_216 (by decide) (fun _ => ?_) (fun c => absurd rfl c)
  exact back _ _ _ _ ⟨(wa_piece hw _), rfl, xFr.cI p2 g1, p1⟩
theorem lw_c1 (hy : y.cls = RL) (E : z_E y code 4 (some .boolean) 41 K) (S : z_Sc b0 L xs K) (hL31 : L < 2 ^ 31) {i n : Nat} (hi : i + 5 ≤ L) (s : zS) (hw : s_wf s) (I : zI) (J : zJ) (hc : cI s I J) (hm : mI s I J) (back : ∀ (s2 : zS) (h2 : zH) (I2 : zI) (J2 : zJ), lwI s2 h2 I2 J2 → z_W b0 K 972 [(1, .ref 1), (2, .ref 17), (3, .int (nI i))] [] h2 I2 J2 (6 * n) (94 * n)) : z_W b0 K 221 [(1, .ref 1), (2, .ref 17), (3, .int (nI i))] [] (z_s (s_nl s)) I J (6 * n + 6) (94 * n + 94) := by
  obtain ⟨yc, yn, yd⟩ := y
  have hy : yc = RL := hy
  subst hy
  refine u_wide (kc2 := 6 * n) (ks2 := 94 * n) (by omega) (by omega) ?_
  refine u_aload_n E dL_law_221 rfl ?_
  refine u_arg (j := 1) E S hL31 (by omega) (by decide) dL_law_222 dL_law_223 dL_law_224 dL_law_225 dL_law_226 rfl ?_
  refine u_callV (kc := 6 * n) (ks := 94 * n) (c1 := 0) (s1 := 0) E dL_law_227 k_L_20 Y_X3_bytes (m_bytes _ s hw I J hc (xs (i + 1))) rfl rfl rfl (Nat.le_of_ble_eq_true rfl) ?_
  rintro r h' I1 J1 ⟨rfl, rfl, rfl, rfl⟩
  refine u_aload_n E dL_law_230 rfl ?_
  refine u_arg (j := 1) E S hL31 (by omega) (by decide) dL_law_231 dL_law_232 dL_law_233 dL_law_234 dL_law_235 rfl ?_
  refine u_callV (kc := 6 * n) (ks := 94 * n) (c1 := 0) (s1 := 0) E dL_law_236 k_L_24 Y_X4_bytes (mm_bytes _ _ s hw _ _ hm (xs (i + 1))) rfl rfl rfl (Nat.le_of_ble_eq_true rfl) ?_
  rintro r h' I2 J2 ⟨rfl, rfl, rfl, rfl⟩
  refine u_lcmp E dL_law_239 ?_
  refine u_if_eq (tgt := 972) E dL_law_240 (by decide) (fun _ => ?_) (fun c => absurd (lg_same _) c)
  exact back _ _ _ _ ⟨hw, rfl, hc, hm⟩
theorem lw_c2 (hy : y.cls = RL) (E : z_E y code 4 (some .boolean) 41 K) (S : z_Sc b0 L xs K) (hL31 : L < 2 ^ 31) {i n : Nat} (hi : i + 5 ≤ L) (s : zS) (hw : s_wf s) (I : zI) (J : zJ) (hc : cI s I J) (hm : mI s I J) (back : ∀ (s2 : zS) (h2 : zH) (I2 : zI) (J2 : zJ), lwI s2 h2 I2 J2 → z_W b0 K 972 [(1, .ref 1), (2, .ref 17), (3, .int (nI i))] [] h2 I2 J2 (6 * n) (94 * n)) : z_W b0 K 245 [(1, .ref 1), (2, .ref 17), (3, .int (nI i))] [] (z_s (s_nl s)) I J (6 * n + 6) (94 * n + 94) := by
  obtain ⟨yc, yn, yd⟩ := y
  have hy : yc = RL := hy
  subst hy
  refine u_aload_n E dL_law_245 rfl ?_
  refine u_arg (j := 1) E S hL31 (by omega) (by decide) dL_law_246 dL_law_247 dL_law_248 dL_law_249 dL_law_250 rfl ?_
  refine u_callV (kc := 6 * n) (ks := 94 * n) (c1 := 6) (s1 := 94) E dL_law_251 k_L_25 Y_X3_listener (m_listener _ s hw I J hc (xs (i + 1))) rfl rfl rfl (Nat.le_of_ble_eq_true rfl) ?_
  rintro r h' I1 J1 ⟨rfl, rfl, g1, g2⟩
  have hm1 := mFr.mI g2 hm
  refine u_aload_n E dL_law_254 rfl ?_
  refine u_arg (j := 1) E S hL31 (by omega) (by decide) dL_law_255 dL_law_256 dL_law_257 dL_law_258 dL_law_259 rfl ?_
  refine u_callV (kc := 6 * n) (ks := 94 * n) (c1 := 0) (s1 := 0) E dL_law_260 k_L_29 Y_X4_listener (mm_listener _ _ s hw I1 J1 hm1 (xs (i + 1))) rfl rfl rfl (Nat.le_of_ble_eq_true rfl) ?_
  rintro r h' I2 J2 ⟨rfl, rfl, p1, p2⟩
  refine u_icmp_eq (tgt := 972) E dL_law_263 (by decide) (fun _ => ?_) (fun c => absurd rfl c)
  exact back _ _ _ _ ⟨(wa_listener hw _), rfl, xFr.cI p2 g1, p1⟩
theorem lw_c3 (hy : y.cls = RL) (E : z_E y code 4 (some .boolean) 41 K) (S : z_Sc b0 L xs K) (hL31 : L < 2 ^ 31) {i n : Nat} (hi : i + 5 ≤ L) (s : zS) (hw : s_wf s) (I : zI) (J : zJ) (hc : cI s I J) (hm : mI s I J) (back : ∀ (s2 : zS) (h2 : zH) (I2 : zI) (J2 : zJ), lwI s2 h2 I2 J2 → z_W b0 K 972 [(1, .ref 1), (2, .ref 17), (3, .int (nI i))] [] h2 I2 J2 (6 * n) (94 * n)) : z_W b0 K 268 [(1, .ref 1), (2, .ref 17), (3, .int (nI i))] [] (z_s (s_nl s)) I J (6 * n + 6) (94 * n + 94) := by
  obtain ⟨yc, yn, yd⟩ := y
  have hy : yc = RL := hy
  subst hy
  refine u_wide (kc2 := 6 * n) (ks2 := 94 * n) (by omega) (by omega) ?_
  refine u_aload_n E dL_law_268 rfl ?_
  refine u_arg (j := 1) E S hL31 (by omega) (by decide) dL_law_269 dL_law_270 dL_law_271 dL_law_272 dL_law_273 rfl ?_
  refine u_arg (j := 2) E S hL31 (by omega) (by decide) dL_law_274 dL_law_275 dL_law_276 dL_law_277 dL_law_278 rfl ?_
  refine u_callV (kc := 6 * n) (ks := 94 * n) (c1 := 0) (s1 := 0) E dL_law_279 k_L_30 Y_X3_wants (m_wants _ s hw I J hc (xs (i + 1)) (xs (i + 2))) rfl rfl rfl (Nat.le_of_ble_eq_true rfl) ?_
  rintro r h' I1 J1 ⟨rfl, rfl, g1, g2⟩
  have hm1 := mFr.mI g2 hm
  refine u_aload_n E dL_law_282 rfl ?_
  refine u_arg (j := 1) E S hL31 (by omega) (by decide) dL_law_283 dL_law_284 dL_law_285 dL_law_286 dL_law_287 rfl ?_
  refine u_arg (j := 2) E S hL31 (by omega) (by decide) dL_law_288 dL_law_289 dL_law_290 dL_law_291 dL_law_292 rfl ?_
  refine u_callV (kc := 6 * n) (ks := 94 * n) (c1 := 0) (s1 := 0) E dL_law_293 k_L_34 Y_X4_wants (mm_wants _ _ s hw I1 J1 hm1 (xs (i + 1)) (xs (i + 2))) rfl rfl rfl (Nat.le_of_ble_eq_true rfl) ?_
  rintro r h' I2 J2 ⟨rfl, rfl, p1, p2⟩
  refine u_icmp_eq (tgt := 972) E dL_law_296 (by decide) (fun _ => ?_) (fun c => absurd rfl c)
  exact back _ _ _ _ ⟨(wa_wants hw _ _), rfl, xFr.cI p2 g1, p1⟩
theorem lw_c4 (hy : y.cls = RL) (E : z_E y code 4 (some .boolean) 41 K) (S : z_Sc b0 L xs K) (hL31 : L < 2 ^ 31) {i n : Nat} (hi : i + 5 ≤ L) (s : zS) (hw : s_wf s) (I : zI) (J : zJ) (hc : cI s I J) (hm : mI s I J) (back : ∀ (s2 : zS) (h2 : zH) (I2 : zI) (J2 : zJ), lwI s2 h2 I2 J2 → z_W b0 K 972 [(1, .ref 1), (2, .ref 17), (3, .int (nI i))] [] h2 I2 J2 (6 * n) (94 * n)) : z_W b0 K 301 [(1, .ref 1), (2, .ref 17), (3, .int (nI i))] [] (z_s (s_nl s)) I J (6 * n + 6) (94 * n + 94) := by
  obtain ⟨yc, yn, yd⟩ := y
  have hy : yc = RL := hy
  subst hy
  refine u_wide (kc2 := 6 * n) (ks2 := 94 * n) (by omega) (by omega) ?_
  refine u_aload_n E dL_law_301 rfl ?_
  refine u_arg (j := 1) E S hL31 (by omega) (by decide) dL_law_302 dL_law_303 dL_law_304 dL_law_305 dL_law_306 rfl ?_
  refine u_arg (j := 2) E S hL31 (by omega) (by decide) dL_law_307 dL_law_308 dL_law_309 dL_law_310 dL_law_311 rfl ?_
  refine u_callV (kc := 6 * n) (ks := 94 * n) (c1 := 0) (s1 := 0) E dL_law_312 k_L_35 Y_X3_has (m_has _ s hw I J hc (xs (i + 1)) (xs (i + 2))) rfl rfl rfl (Nat.le_of_ble_eq_true rfl) ?_
  rintro r h' I1 J1 ⟨rfl, rfl, g1, g2⟩
  have hm1 := mFr.mI g2 hm
  refine u_aload_n E dL_law_315 rfl ?_
  refine u_arg (j := 1) E S hL31 (by omega) (by decide) dL_law_316 dL_law_317 dL_law_318 dL_law_319 dL_law_320 rfl ?_
  refine u_arg (j := 2) E S hL31 (by omega) (by decide) dL_law_321 dL_law_322 dL_law_323 dL_law_324 dL_law_325 rfl ?_
  refine u_callV (kc := 6 * n) (ks := 94 * n) (c1 := 0) (s1 := 0) E dL_law_326 k_L_38 Y_X4_has (mm_has _ _ s hw I1 J1 hm1 (xs (i + 1)) (xs (i + 2))) rfl rfl rfl (Nat.le_of_ble_eq_true rfl) ?_
  rintro r h' I2 J2 ⟨rfl, rfl, p1, p2⟩
  refine u_icmp_eq (tgt := 972) E dL_law_329 (by decide) (fun _ => ?_) (fun c => absurd rfl c)
  exact back _ _ _ _ ⟨(wa_has hw _ _), rfl, xFr.cI p2 g1, p1⟩
theorem lw_c5 (hy : y.cls = RL) (E : z_E y code 4 (some .boolean) 41 K) (S : z_Sc b0 L xs K) (hL31 : L < 2 ^ 31) {i n : Nat} (hi : i + 5 ≤ L) (s : zS) (hw : s_wf s) (I : zI) (J : zJ) (hc : cI s I J) (hm : mI s I J) (back : ∀ (s2 : zS) (h2 : zH) (I2 : zI) (J2 : zJ), lwI s2 h2 I2 J2 → z_W b0 K 972 [(1, .ref 1), (2, .ref 17), (3, .int (nI i))] [] h2 I2 J2 (6 * n) (94 * n)) : z_W b0 K 334 [(1, .ref 1), (2, .ref 17), (3, .int (nI i))] [] (z_s (s_nl s)) I J (6 * n + 6) (94 * n + 94) := by
  obtain ⟨yc, yn, yd⟩ := y
  have hy : yc = RL := hy
  subst hy
  refine u_wide (kc2 := 6 * n) (ks2 := 94 * n) (by omega) (by omega) ?_
  refine u_aload_n E dL_law_334 rfl ?_
  refine u_arg (j := 1) E S hL31 (by omega) (by decide) dL_law_335 dL_law_336 dL_law_337 dL_law_338 dL_law_339 rfl ?_
  refine u_arg (j := 2) E S hL31 (by omega) (by decide) dL_law_340 dL_law_341 dL_law_342 dL_law_343 dL_law_344 rfl ?_
  refine u_callV (kc := 6 * n) (ks := 94 * n) (c1 := 0) (s1 := 0) E dL_law_345 k_L_39 Y_X3_off (m_off _ s hw I J hc (xs (i + 1)) (xs (i + 2))) rfl rfl rfl (Nat.le_of_ble_eq_true rfl) ?_
  rintro r h' I1 J1 ⟨rfl, rfl, g1, g2⟩
  have hm1 := mFr.mI g2 hm
  refine u_aload_n E dL_law_348 rfl ?_
  refine u_arg (j := 1) E S hL31 (by omega) (by decide) dL_law_349 dL_law_350 dL_law_351 dL_law_352 dL_law_353 rfl ?_
  refine u_arg (j := 2) E S hL31 (by omega) (by decide) dL_law_354 dL_law_355 dL_law_356 dL_law_357 dL_law_358 rfl ?_
  refine u_callV (kc := 6 * n) (ks := 94 * n) (c1 := 0) (s1 := 0) E dL_law_359 k_L_42 Y_X4_off (mm_off _ _ s hw I1 J1 hm1 (xs (i + 1)) (xs (i + 2))) rfl rfl rfl (Nat.le_of_ble_eq_true rfl) ?_
  rintro r h' I2 J2 ⟨rfl, rfl, p1, p2⟩
  refine u_icmp_eq (tgt := 972) E dL_law_362 (by decide) (fun _ => ?_) (fun c => absurd rfl c)
  exact back _ _ _ _ ⟨(wa_off hw _ _), rfl, xFr.cI p2 g1, p1⟩
theorem lw_c6 (hy : y.cls = RL) (E : z_E y code 4 (some .boolean) 41 K) (S : z_Sc b0 L xs K) (hL31 : L < 2 ^ 31) {i n : Nat} (hi : i + 5 ≤ L) (s : zS) (hw : s_wf s) (I : zI) (J : zJ) (hc : cI s I J) (hm : mI s I J) (back : ∀ (s2 : zS) (h2 : zH) (I2 : zI) (J2 : zJ), lwI s2 h2 I2 J2 → z_W b0 K 972 [(1, .ref 1), (2, .ref 17), (3, .int (nI i))] [] h2 I2 J2 (6 * n) (94 * n)) : z_W b0 K 367 [(1, .ref 1), (2, .ref 17), (3, .int (nI i))] [] (z_s (s_nl s)) I J (6 * n + 6) (94 * n + 94) := by
  obtain ⟨yc, yn, yd⟩ := y
  have hy : yc = RL := hy
  subst hy
  refine u_wide (kc2 := 6 * n) (ks2 := 94 * n) (by omega) (by omega) ?_
  refine u_aload_n E dL_law_367 rfl ?_
  refine u_arg (j := 1) E S hL31 (by omega) (by decide) dL_law_368 dL_law_369 dL_law_370 dL_law_371 dL_law_372 rfl ?_
  refine u_callV (kc := 6 * n) (ks := 94 * n) (c1 := 0) (s1 := 0) E dL_law_373 k_L_43 Y_X3_say (m_say _ s hw I J hc (xs (i + 1))) rfl rfl rfl (Nat.le_of_ble_eq_true rfl) ?_
  rintro r h' I1 J1 ⟨rfl, rfl, g1, g2⟩
  have hm1 := mFr.mI g2 hm
  refine u_aload_n E dL_law_376 rfl ?_
  refine u_arg (j := 1) E S hL31 (by omega) (by decide) dL_law_377 dL_law_378 dL_law_379 dL_law_380 dL_law_381 rfl ?_
  refine u_callV (kc := 6 * n) (ks := 94 * n) (c1 := 0) (s1 := 0) E dL_law_382 k_L_46 Y_X4_say (mm_say _ _ s hw I1 J1 hm1 (xs (i + 1))) rfl rfl rfl (Nat.le_of_ble_eq_true rfl) ?_
  rintro r h' I2 J2 ⟨rfl, rfl, p1, p2⟩
  refine u_icmp_eq (tgt := 972) E dL_law_385 (by decide) (fun _ => ?_) (fun c => absurd rfl c)
  exact back _ _ _ _ ⟨(wa_say hw _), rfl, xFr.cI p2 g1, p1⟩
theorem lw_c7 (hy : y.cls = RL) (E : z_E y code 4 (some .boolean) 41 K) (S : z_Sc b0 L xs K) (hL31 : L < 2 ^ 31) {i n : Nat} (hi : i + 5 ≤ L) (s : zS) (hw : s_wf s) (I : zI) (J : zJ) (hc : cI s I J) (hm : mI s I J) (back : ∀ (s2 : zS) (h2 : zH) (I2 : zI) (J2 : zJ), lwI s2 h2 I2 J2 → z_W b0 K 972 [(1, .ref 1), (2, .ref 17), (3, .int (nI i))] [] h2 I2 J2 (6 * n) (94 * n)) : z_W b0 K 390 [(1, .ref 1), (2, .ref 17), (3, .int (nI i))] [] (z_s (s_nl s)) I J (6 * n + 6) (94 * n + 94) := by
  obtain ⟨yc, yn, yd⟩ := y
  have hy : yc = RL := hy
  subst hy
  refine u_wide (kc2 := 6 * n) (ks2 := 94 * n) (by omega) (by omega) ?_
  refine u_aload_n E dL_law_390 rfl ?_
  refine u_arg (j := 1) E S hL31 (by omega) (by decide) dL_law_391 dL_law_392 dL_law_393 dL_law_394 dL_law_395 rfl ?_
  refine u_callV (kc := 6 * n) (ks := 94 * n) (c1 := 0) (s1 := 0) E dL_law_396 k_L_47 Y_X3_again (m_again _ s hw I J hc (xs (i + 1))) rfl rfl rfl (Nat.le_of_ble_eq_true rfl) ?_
  rintro r h' I1 J1 ⟨rfl, rfl, g1, g2⟩
  have hm1 := mFr.mI g2 hm
  refine u_aload_n E dL_law_399 rfl ?_
  refine u_arg (j := 1) E S hL31 (by omega) (by decide) dL_law_400 dL_law_401 dL_law_402 dL_law_403 dL_law_404 rfl ?_
  refine u_callV (kc := 6 * n) (ks := 94 * n) (c1 := 0) (s1 := 0) E dL_law_405 k_L_50 Y_X4_again (mm_again _ _ s hw I1 J1 hm1 (xs (i + 1))) rfl rfl rfl (Nat.le_of_ble_eq_true rfl) ?_
  rintro r h' I2 J2 ⟨rfl, rfl, p1, p2⟩
  refine u_icmp_eq (tgt := 972) E dL_law_408 (by decide) (fun _ => ?_) (fun c => absurd rfl c)
  exact back _ _ _ _ ⟨(wa_again hw _), rfl, xFr.cI p2 g1, p1⟩
theorem lw_c8 (hy : y.cls = RL) (E : z_E y code 4 (some .boolean) 41 K) (S : z_Sc b0 L xs K) (hL31 : L < 2 ^ 31) {i n : Nat} (hi : i + 5 ≤ L) (s : zS) (hw : s_wf s) (I : zI) (J : zJ) (hc : cI s I J) (hm : mI s I J) (back : ∀ (s2 : zS) (h2 : zH) (I2 : zI) (J2 : zJ), lwI s2 h2 I2 J2 → z_W b0 K 972 [(1, .ref 1), (2, .ref 17), (3, .int (nI i))] [] h2 I2 J2 (6 * n) (94 * n)) : z_W b0 K 413 [(1, .ref 1), (2, .ref 17), (3, .int (nI i))] [] (z_s (s_nl s)) I J (6 * n + 6) (94 * n + 94) := by
  obtain ⟨yc, yn, yd⟩ := y
  have hy : yc = RL := hy
  subst hy
  refine u_wide (kc2 := 6 * n) (ks2 := 94 * n) (by omega) (by omega) ?_
  refine u_aload_n E dL_law_413 rfl ?_
  refine u_arg (j := 1) E S hL31 (by omega) (by decide) dL_law_414 dL_law_415 dL_law_416 dL_law_417 dL_law_418 rfl ?_
  refine u_arg (j := 2) E S hL31 (by omega) (by decide) dL_law_419 dL_law_420 dL_law_421 dL_law_422 dL_law_423 rfl ?_
  refine u_callV (kc := 6 * n) (ks := 94 * n) (c1 := 0) (s1 := 0) E dL_law_424 k_L_51 Y_X3_call (m_call _ s hw I J hc (xs (i + 1)) (xs (i + 2))) rfl rfl rfl (Nat.le_of_ble_eq_true rfl) ?_
  rintro r h' I1 J1 ⟨rfl, rfl, rfl, rfl⟩
  refine u_aload_n E dL_law_427 rfl ?_
  refine u_arg (j := 1) E S hL31 (by omega) (by decide) dL_law_428 dL_law_429 dL_law_430 dL_law_431 dL_law_432 rfl ?_
  refine u_arg (j := 2) E S hL31 (by omega) (by decide) dL_law_433 dL_law_434 dL_law_435 dL_law_436 dL_law_437 rfl ?_
  refine u_callV (kc := 6 * n) (ks := 94 * n) (c1 := 0) (s1 := 0) E dL_law_438 k_L_54 Y_X4_call (mm_call _ _ s hw _ _ hm (xs (i + 1)) (xs (i + 2))) rfl rfl rfl (Nat.le_of_ble_eq_true rfl) ?_
  rintro r h' I2 J2 ⟨rfl, rfl, p1, rfl⟩
  refine u_icmp_eq (tgt := 972) E dL_law_441 (by decide) (fun _ => ?_) (fun c => absurd rfl c)
  exact back _ _ _ _ ⟨hw, rfl, xFr.cI (mS.x p1) hc, mS.mI p1 hm⟩
theorem lw_c9 (hy : y.cls = RL) (E : z_E y code 4 (some .boolean) 41 K) (S : z_Sc b0 L xs K) (hL31 : L < 2 ^ 31) {i n : Nat} (hi : i + 5 ≤ L) (s : zS) (hw : s_wf s) (I : zI) (J : zJ) (hc : cI s I J) (hm : mI s I J) (back : ∀ (s2 : zS) (h2 : zH) (I2 : zI) (J2 : zJ), lwI s2 h2 I2 J2 → z_W b0 K 972 [(1, .ref 1), (2, .ref 17), (3, .int (nI i))] [] h2 I2 J2 (6 * n) (94 * n)) : z_W b0 K 446 [(1, .ref 1), (2, .ref 17), (3, .int (nI i))] [] (z_s (s_nl s)) I J (6 * n + 6) (94 * n + 94) := by
  obtain ⟨yc, yn, yd⟩ := y
  have hy : yc = RL := hy
  subst hy
  refine u_wide (kc2 := 6 * n) (ks2 := 94 * n) (by omega) (by omega) ?_
  refine u_aload_n E dL_law_446 rfl ?_
  refine u_arg (j := 1) E S hL31 (by omega) (by decide) dL_law_447 dL_law_448 dL_law_449 dL_law_450 dL_law_451 rfl ?_
  refine u_callV (kc := 6 * n) (ks := 94 * n) (c1 := 0) (s1 := 0) E dL_law_452 k_L_55 Y_X3_sum (m_sum _ s hw I J hc (xs (i + 1))) rfl rfl rfl (Nat.le_of_ble_eq_true rfl) ?_
  rintro r h' I1 J1 ⟨rfl, rfl, rfl, rfl⟩
  refine u_aload_n E dL_law_455 rfl ?_
  refine u_arg (j := 1) E S hL31 (by omega) (by decide) dL_law_456 dL_law_457 dL_law_458 dL_law_459 dL_law_460 rfl ?_
  refine u_callV (kc := 6 * n) (ks := 94 * n) (c1 := 0) (s1 := 0) E dL_law_461 k_L_58 Y_X4_sum (mm_sum _ _ s hw _ _ hm (xs (i + 1))) rfl rfl rfl (Nat.le_of_ble_eq_true rfl) ?_
  rintro r h' I2 J2 ⟨rfl, rfl, rfl, rfl⟩
  refine u_lcmp E dL_law_464 ?_
  refine u_if_eq (tgt := 972) E dL_law_465 (by decide) (fun _ => ?_) (fun c => absurd (lg_same _) c)
  exact back _ _ _ _ ⟨hw, rfl, hc, hm⟩
theorem lw_c10 (hy : y.cls = RL) (E : z_E y code 4 (some .boolean) 41 K) (S : z_Sc b0 L xs K) (hL31 : L < 2 ^ 31) {i n : Nat} (hi : i + 5 ≤ L) (s : zS) (hw : s_wf s) (I : zI) (J : zJ) (hc : cI s I J) (hm : mI s I J) (back : ∀ (s2 : zS) (h2 : zH) (I2 : zI) (J2 : zJ), lwI s2 h2 I2 J2 → z_W b0 K 972 [(1, .ref 1), (2, .ref 17), (3, .int (nI i))] [] h2 I2 J2 (6 * n) (94 * n)) : z_W b0 K 470 [(1, .ref 1), (2, .ref 17), (3, .int (nI i))] [] (z_s (s_nl s)) I J (6 * n + 6) (94 * n + 94) := by
  obtain ⟨yc, yn, yd⟩ := y
  have hy : yc = RL := hy
  subst hy
  refine u_wide (kc2 := 6 * n) (ks2 := 94 * n) (by omega) (by omega) ?_
  refine u_aload_n E dL_law_470 rfl ?_
  refine u_arg (j := 1) E S hL31 (by omega) (by decide) dL_law_471 dL_law_472 dL_law_473 dL_law_474 dL_law_475 rfl ?_
  refine u_arg (j := 2) E S hL31 (by omega) (by decide) dL_law_476 dL_law_477 dL_law_478 dL_law_479 dL_law_480 rfl ?_
  refine u_callV (kc := 6 * n) (ks := 94 * n) (c1 := 0) (s1 := 0) E dL_law_481 k_L_59 Y_X3_heard (m_heard _ s hw I J hc (xs (i + 1)) (xs (i + 2))) rfl rfl rfl (Nat.le_of_ble_eq_true rfl) ?_
  rintro r h' I1 J1 ⟨rfl, rfl, rfl, rfl⟩
  refine u_aload_n E dL_law_484 rfl ?_
  refine u_arg (j := 1) E S hL31 (by omega) (by decide) dL_law_485 dL_law_486 dL_law_487 dL_law_488 dL_law_489 rfl ?_
  refine u_arg (j := 2) E S hL31 (by omega) (by decide) dL_law_490 dL_law_491 dL_law_492 dL_law_493 dL_law_494 rfl ?_
  refine u_callV (kc := 6 * n) (ks := 94 * n) (c1 := 0) (s1 := 0) E dL_law_495 k_L_62 Y_X4_heard (mm_heard _ _ s hw _ _ hm (xs (i + 1)) (xs (i + 2))) rfl rfl rfl (Nat.le_of_ble_eq_true rfl) ?_
  rintro r h' I2 J2 ⟨rfl, rfl, rfl, rfl⟩
  refine u_icmp_eq (tgt := 972) E dL_law_498 (by decide) (fun _ => ?_) (fun c => absurd rfl c)
  exact back _ _ _ _ ⟨hw, rfl, hc, hm⟩
theorem lw_c11 (hy : y.cls = RL) (E : z_E y code 4 (some .boolean) 41 K) (S : z_Sc b0 L xs K) (hL31 : L < 2 ^ 31) {i n : Nat} (hi : i + 5 ≤ L) (s : zS) (hw : s_wf s) (I : zI) (J : zJ) (hc : cI s I J) (hm : mI s I J) (back : ∀ (s2 : zS) (h2 : zH) (I2 : zI) (J2 : zJ), lwI s2 h2 I2 J2 → z_W b0 K 972 [(1, .ref 1), (2, .ref 17), (3, .int (nI i))] [] h2 I2 J2 (6 * n) (94 * n)) : z_W b0 K 503 [(1, .ref 1), (2, .ref 17), (3, .int (nI i))] [] (z_s (s_nl s)) I J (6 * n + 6) (94 * n + 94) := by
  obtain ⟨yc, yn, yd⟩ := y
  have hy : yc = RL := hy
  subst hy
  refine u_wide (kc2 := 6 * n) (ks2 := 94 * n) (by omega) (by omega) ?_
  refine u_aload_n E dL_law_503 rfl ?_
  refine u_arg (j := 1) E S hL31 (by omega) (by decide) dL_law_504 dL_law_505 dL_law_506 dL_law_507 dL_law_508 rfl ?_
  refine u_arg (j := 2) E S hL31 (by omega) (by decide) dL_law_509 dL_law_510 dL_law_511 dL_law_512 dL_law_513 rfl ?_
  refine u_callV (kc := 6 * n) (ks := 94 * n) (c1 := 0) (s1 := 0) E dL_law_514 k_L_63 Y_X3_about (m_about _ s hw I J hc (xs (i + 1)) (xs (i + 2))) rfl rfl rfl (Nat.le_of_ble_eq_true rfl) ?_
  rintro r h' I1 J1 ⟨rfl, rfl, rfl, rfl⟩
  refine u_aload_n E dL_law_517 rfl ?_
  refine u_arg (j := 1) E S hL31 (by omega) (by decide) dL_law_518 dL_law_519 dL_law_520 dL_law_521 dL_law_522 rfl ?_
  refine u_arg (j := 2) E S hL31 (by omega) (by decide) dL_law_523 dL_law_524 dL_law_525 dL_law_526 dL_law_527 rfl ?_
  refine u_callV (kc := 6 * n) (ks := 94 * n) (c1 := 0) (s1 := 0) E dL_law_528 k_L_66 Y_X4_about (mm_about _ _ s hw _ _ hm (xs (i + 1)) (xs (i + 2))) rfl rfl rfl (Nat.le_of_ble_eq_true rfl) ?_
  rintro r h' I2 J2 ⟨rfl, rfl, p1, rfl⟩
  refine u_icmp_eq (tgt := 972) E dL_law_531 (by decide) (fun _ => ?_) (fun c => absurd rfl c)
  exact back _ _ _ _ ⟨hw, rfl, xFr.cI (mS.x p1) hc, mS.mI p1 hm⟩
theorem lw_c12 (hy : y.cls = RL) (E : z_E y code 4 (some .boolean) 41 K) (S : z_Sc b0 L xs K) (hL31 : L < 2 ^ 31) {i n : Nat} (hi : i + 5 ≤ L) (s : zS) (hw : s_wf s) (I : zI) (J : zJ) (hc : cI s I J) (hm : mI s I J) (back : ∀ (s2 : zS) (h2 : zH) (I2 : zI) (J2 : zJ), lwI s2 h2 I2 J2 → z_W b0 K 972 [(1, .ref 1), (2, .ref 17), (3, .int (nI i))] [] h2 I2 J2 (6 * n) (94 * n)) : z_W b0 K 536 [(1, .ref 1), (2, .ref 17), (3, .int (nI i))] [] (z_s (s_nl s)) I J (6 * n + 6) (94 * n + 94) := by
  obtain ⟨yc, yn, yd⟩ := y
  have hy : yc = RL := hy
  subst hy
  refine u_wide (kc2 := 6 * n) (ks2 := 94 * n) (by omega) (by omega) ?_
  refine u_aload_n E dL_law_536 rfl ?_
  refine u_arg (j := 1) E S hL31 (by omega) (by decide) dL_law_537 dL_law_538 dL_law_539 dL_law_540 dL_law_541 rfl ?_
  refine u_arg (j := 2) E S hL31 (by omega) (by decide) dL_law_542 dL_law_543 dL_law_544 dL_law_545 dL_law_546 rfl ?_
  refine u_callV (kc := 6 * n) (ks := 94 * n) (c1 := 0) (s1 := 0) E dL_law_547 k_L_67 Y_X3_rowOf (m_rowOf _ s hw I J hc (xs (i + 1)) (xs (i + 2))) rfl rfl rfl (Nat.le_of_ble_eq_true rfl) ?_
  rintro r h' I1 J1 ⟨rfl, rfl, rfl, rfl⟩
  refine u_aload_n E dL_law_550 rfl ?_
  refine u_arg (j := 1) E S hL31 (by omega) (by decide) dL_law_551 dL_law_552 dL_law_553 dL_law_554 dL_law_555 rfl ?_
  refine u_arg (j := 2) E S hL31 (by omega) (by decide) dL_law_556 dL_law_557 dL_law_558 dL_law_559 dL_law_560 rfl ?_
  refine u_callV (kc := 6 * n) (ks := 94 * n) (c1 := 0) (s1 := 0) E dL_law_561 k_L_70 Y_X4_rowOf (mm_rowOf _ _ s hw _ _ hm (xs (i + 1)) (xs (i + 2))) rfl rfl rfl (Nat.le_of_ble_eq_true rfl) ?_
  rintro r h' I2 J2 ⟨rfl, rfl, p1, rfl⟩
  refine u_icmp_eq (tgt := 972) E dL_law_564 (by decide) (fun _ => ?_) (fun c => absurd rfl c)
  exact back _ _ _ _ ⟨hw, rfl, xFr.cI (mS.x p1) hc, mS.mI p1 hm⟩
theorem lw_c13 (hy : y.cls = RL) (E : z_E y code 4 (some .boolean) 41 K) (S : z_Sc b0 L xs K) (hL31 : L < 2 ^ 31) {i n : Nat} (hi : i + 5 ≤ L) (s : zS) (hw : s_wf s) (I : zI) (J : zJ) (hc : cI s I J) (hm : mI s I J) (back : ∀ (s2 : zS) (h2 : zH) (I2 : zI) (J2 : zJ), lwI s2 h2 I2 J2 → z_W b0 K 972 [(1, .ref 1), (2, .ref 17), (3, .int (nI i))] [] h2 I2 J2 (6 * n) (94 * n)) : z_W b0 K 569 [(1, .ref 1), (2, .ref 17), (3, .int (nI i))] [] (z_s (s_nl s)) I J (6 * n + 6) (94 * n + 94) := by
  obtain ⟨yc, yn, yd⟩ := y
  have hy : yc = RL := hy
  subst hy
  refine u_wide (kc2 := 6 * n) (ks2 := 94 * n) (by omega) (by omega) ?_
  refine u_aload_n E dL_law_569 rfl ?_
  refine u_arg (j := 1) E S hL31 (by omega) (by decide) dL_law_570 dL_law_571 dL_law_572 dL_law_573 dL_law_574 rfl ?_
  refine u_arg (j := 2) E S hL31 (by omega) (by decide) dL_law_575 dL_law_576 dL_law_577 dL_law_578 dL_law_579 rfl ?_
  refine u_callV (kc := 6 * n) (ks := 94 * n) (c1 := 0) (s1 := 0) E dL_law_580 k_L_71 Y_X3_solve (m_solve _ s hw I J hc (xs (i + 1)) (xs (i + 2))) rfl rfl rfl (Nat.le_of_ble_eq_true rfl) ?_
  rintro r h' I1 J1 ⟨rfl, rfl, rfl, rfl⟩
  refine u_aload_n E dL_law_583 rfl ?_
  refine u_arg (j := 1) E S hL31 (by omega) (by decide) dL_law_584 dL_law_585 dL_law_586 dL_law_587 dL_law_588 rfl ?_
  refine u_arg (j := 2) E S hL31 (by omega) (by decide) dL_law_589 dL_law_590 dL_law_591 dL_law_592 dL_law_593 rfl ?_
  refine u_callV (kc := 6 * n) (ks := 94 * n) (c1 := 0) (s1 := 0) E dL_law_594 k_L_74 Y_X4_solve (mm_solve _ _ s hw _ _ hm (xs (i + 1)) (xs (i + 2))) rfl rfl rfl (Nat.le_of_ble_eq_true rfl) ?_
  rintro r h' I2 J2 ⟨rfl, rfl, p1, rfl⟩
  refine u_icmp_eq (tgt := 972) E dL_law_597 (by decide) (fun _ => ?_) (fun c => absurd rfl c)
  exact back _ _ _ _ ⟨hw, rfl, xFr.cI (mS.x p1) hc, mS.mI p1 hm⟩
theorem lw_c14 (hy : y.cls = RL) (E : z_E y code 4 (some .boolean) 41 K) (S : z_Sc b0 L xs K) (hL31 : L < 2 ^ 31) {i n : Nat} (hi : i + 5 ≤ L) (s : zS) (hw : s_wf s) (I : zI) (J : zJ) (hc : cI s I J) (hm : mI s I J) (back : ∀ (s2 : zS) (h2 : zH) (I2 : zI) (J2 : zJ), lwI s2 h2 I2 J2 → z_W b0 K 972 [(1, .ref 1), (2, .ref 17), (3, .int (nI i))] [] h2 I2 J2 (6 * n) (94 * n)) : z_W b0 K 602 [(1, .ref 1), (2, .ref 17), (3, .int (nI i))] [] (z_s (s_nl s)) I J (6 * n + 6) (94 * n + 94) := by
  obtain ⟨yc, yn, yd⟩ := y
  have hy : yc = RL := hy
  subst hy
  refine u_wide (kc2 := 6 * n) (ks2 := 94 * n) (by omega) (by omega) ?_
  refine u_aload_n E dL_law_602 rfl ?_
  refine u_arg (j := 1) E S hL31 (by omega) (by decide) dL_law_603 dL_law_604 dL_law_605 dL_law_606 dL_law_607 rfl ?_
  refine u_arg (j := 2) E S hL31 (by omega) (by decide) dL_law_608 dL_law_609 dL_law_610 dL_law_611 dL_law_612 rfl ?_
  refine u_callV (kc := 6 * n) (ks := 94 * n) (c1 := 0) (s1 := 0) E dL_law_613 k_L_75 Y_X3_why (m_why _ s hw I J hc (xs (i + 1)) (xs (i + 2))) rfl rfl rfl (Nat.le_of_ble_eq_true rfl) ?_
  rintro r h' I1 J1 ⟨rfl, rfl, rfl, rfl⟩
  refine u_aload_n E dL_law_616 rfl ?_
  refine u_arg (j := 1) E S hL31 (by omega) (by decide) dL_law_617 dL_law_618 dL_law_619 dL_law_620 dL_law_621 rfl ?_
  refine u_arg (j := 2) E S hL31 (by omega) (by decide) dL_law_622 dL_law_623 dL_law_624 dL_law_625 dL_law_626 rfl ?_
  refine u_callV (kc := 6 * n) (ks := 94 * n) (c1 := 0) (s1 := 0) E dL_law_627 k_L_79 Y_X4_why (mm_why _ _ s hw _ _ hm (xs (i + 1)) (xs (i + 2))) rfl rfl rfl (Nat.le_of_ble_eq_true rfl) ?_
  rintro r h' I2 J2 ⟨rfl, rfl, p1, rfl⟩
  refine u_lcmp E dL_law_630 ?_
  refine u_if_eq (tgt := 972) E dL_law_631 (by decide) (fun _ => ?_) (fun c => absurd (lg_same _) c)
  exact back _ _ _ _ ⟨hw, rfl, xFr.cI (mS.x p1) hc, mS.mI p1 hm⟩
theorem lw_c15 (hy : y.cls = RL) (E : z_E y code 4 (some .boolean) 41 K) (S : z_Sc b0 L xs K) (hL31 : L < 2 ^ 31) {i n : Nat} (hi : i + 5 ≤ L) (s : zS) (hw : s_wf s) (I : zI) (J : zJ) (hc : cI s I J) (hm : mI s I J) (back : ∀ (s2 : zS) (h2 : zH) (I2 : zI) (J2 : zJ), lwI s2 h2 I2 J2 → z_W b0 K 972 [(1, .ref 1), (2, .ref 17), (3, .int (nI i))] [] h2 I2 J2 (6 * n) (94 * n)) : z_W b0 K 636 [(1, .ref 1), (2, .ref 17), (3, .int (nI i))] [] (z_s (s_nl s)) I J (6 * n + 6) (94 * n + 94) := by
  obtain ⟨yc, yn, yd⟩ := y
  have hy : yc = RL := hy
  subst hy
  refine u_wide (kc2 := 6 * n) (ks2 := 94 * n) (by omega) (by omega) ?_
  refine u_aload_n E dL_law_636 rfl ?_
  refine u_arg (j := 1) E S hL31 (by omega) (by decide) dL_law_637 dL_law_638 dL_law_639 dL_law_640 dL_law_641 rfl ?_
  refine u_arg (j := 2) E S hL31 (by omega) (by decide) dL_law_642 dL_law_643 dL_law_644 dL_law_645 dL_law_646 rfl ?_
  refine u_callV (kc := 6 * n) (ks := 94 * n) (c1 := 0) (s1 := 0) E dL_law_647 k_L_80 Y_X3_gets (m_gets _ s hw I J hc (xs (i + 1)) (xs (i + 2))) rfl rfl rfl (Nat.le_of_ble_eq_true rfl) ?_
  rintro r h' I1 J1 ⟨rfl, rfl, rfl, rfl⟩
  refine u_aload_n E dL_law_650 rfl ?_
  refine u_arg (j := 1) E S hL31 (by omega) (by decide) dL_law_651 dL_law_652 dL_law_653 dL_law_654 dL_law_655 rfl ?_
  refine u_arg (j := 2) E S hL31 (by omega) (by decide) dL_law_656 dL_law_657 dL_law_658 dL_law_659 dL_law_660 rfl ?_
  refine u_callV (kc := 6 * n) (ks := 94 * n) (c1 := 0) (s1 := 0) E dL_law_661 k_L_83 Y_X4_gets (mm_gets _ _ s hw _ _ hm (xs (i + 1)) (xs (i + 2))) rfl rfl rfl (Nat.le_of_ble_eq_true rfl) ?_
  rintro r h' I2 J2 ⟨rfl, rfl, p1, rfl⟩
  refine u_lcmp E dL_law_664 ?_
  refine u_if_eq (tgt := 972) E dL_law_665 (by decide) (fun _ => ?_) (fun c => absurd (lg_same _) c)
  exact back _ _ _ _ ⟨hw, rfl, xFr.cI (mS.x p1) hc, mS.mI p1 hm⟩
theorem lw_c16 (hy : y.cls = RL) (E : z_E y code 4 (some .boolean) 41 K) (S : z_Sc b0 L xs K) (hL31 : L < 2 ^ 31) {i n : Nat} (hi : i + 5 ≤ L) (s : zS) (hw : s_wf s) (I : zI) (J : zJ) (hc : cI s I J) (hm : mI s I J) (back : ∀ (s2 : zS) (h2 : zH) (I2 : zI) (J2 : zJ), lwI s2 h2 I2 J2 → z_W b0 K 972 [(1, .ref 1), (2, .ref 17), (3, .int (nI i))] [] h2 I2 J2 (6 * n) (94 * n)) : z_W b0 K 670 [(1, .ref 1), (2, .ref 17), (3, .int (nI i))] [] (z_s (s_nl s)) I J (6 * n + 6) (94 * n + 94) := by
  obtain ⟨yc, yn, yd⟩ := y
  have hy : yc = RL := hy
  subst hy
  refine u_wide (kc2 := 6 * n) (ks2 := 94 * n) (by omega) (by omega) ?_
  refine u_aload_n E dL_law_670 rfl ?_
  refine u_arg (j := 1) E S hL31 (by omega) (by decide) dL_law_671 dL_law_672 dL_law_673 dL_law_674 dL_law_675 rfl ?_
  refine u_arg (j := 2) E S hL31 (by omega) (by decide) dL_law_676 dL_law_677 dL_law_678 dL_law_679 dL_law_680 rfl ?_
  refine u_callV (kc := 6 * n) (ks := 94 * n) (c1 := 0) (s1 := 0) E dL_law_681 k_L_84 Y_X3_lack (m_lack _ s hw I J hc (xs (i + 1)) (xs (i + 2))) rfl rfl rfl (Nat.le_of_ble_eq_true rfl) ?_
  rintro r h' I1 J1 ⟨rfl, rfl, rfl, rfl⟩
  refine u_aload_n E dL_law_684 rfl ?_
  refine u_arg (j := 1) E S hL31 (by omega) (by decide) dL_law_685 dL_law_686 dL_law_687 dL_law_688 dL_law_689 rfl ?_
  refine u_arg (j := 2) E S hL31 (by omega) (by decide) dL_law_690 dL_law_691 dL_law_692 dL_law_693 dL_law_694 rfl ?_
  refine u_callV (kc := 6 * n) (ks := 94 * n) (c1 := 0) (s1 := 0) E dL_law_695 k_L_87 Y_X4_lack (mm_lack _ _ s hw _ _ hm (xs (i + 1)) (xs (i + 2))) rfl rfl rfl (Nat.le_of_ble_eq_true rfl) ?_
  rintro r h' I2 J2 ⟨rfl, rfl, p1, rfl⟩
  refine u_icmp_eq (tgt := 972) E dL_law_698 (by decide) (fun _ => ?_) (fun c => absurd rfl c)
  exact back _ _ _ _ ⟨hw, rfl, xFr.cI (mS.x p1) hc, mS.mI p1 hm⟩
theorem lw_c17 (hy : y.cls = RL) (E : z_E y code 4 (some .boolean) 41 K) (S : z_Sc b0 L xs K) (hL31 : L < 2 ^ 31) {i n : Nat} (hi : i + 5 ≤ L) (s : zS) (hw : s_wf s) (I : zI) (J : zJ) (hc : cI s I J) (hm : mI s I J) (back : ∀ (s2 : zS) (h2 : zH) (I2 : zI) (J2 : zJ), lwI s2 h2 I2 J2 → z_W b0 K 972 [(1, .ref 1), (2, .ref 17), (3, .int (nI i))] [] h2 I2 J2 (6 * n) (94 * n)) : z_W b0 K 703 [(1, .ref 1), (2, .ref 17), (3, .int (nI i))] [] (z_s (s_nl s)) I J (6 * n + 6) (94 * n + 94) := by
  obtain ⟨yc, yn, yd⟩ := y
  have hy : yc = RL := hy
  subst hy
  refine u_wide (kc2 := 6 * n) (ks2 := 94 * n) (by omega) (by omega) ?_
  refine u_aload_n E dL_law_703 rfl ?_
  refine u_callV (kc := 6 * n) (ks := 94 * n) (c1 := 0) (s1 := 0) E dL_law_704 k_L_88 Y_X3_left (m_left _ s hw I J hc ) rfl rfl rfl (Nat.le_of_ble_eq_true rfl) ?_
  rintro r h' I1 J1 ⟨rfl, rfl, rfl, rfl⟩
  refine u_aload_n E dL_law_707 rfl ?_
  refine u_callV (kc := 6 * n) (ks := 94 * n) (c1 := 0) (s1 := 0) E dL_law_708 k_L_92 Y_X4_left (mm_left _ _ s hw _ _ hm ) rfl rfl rfl (Nat.le_of_ble_eq_true rfl) ?_
  rintro r h' I2 J2 ⟨rfl, rfl, p1, rfl⟩
  refine u_icmp_eq (tgt := 972) E dL_law_711 (by decide) (fun _ => ?_) (fun c => absurd rfl c)
  exact back _ _ _ _ ⟨hw, rfl, xFr.cI (mS.x p1) hc, mS.mI p1 hm⟩
theorem lw_c18 (hy : y.cls = RL) (E : z_E y code 4 (some .boolean) 41 K) (S : z_Sc b0 L xs K) (hL31 : L < 2 ^ 31) {i n : Nat} (hi : i + 5 ≤ L) (s : zS) (hw : s_wf s) (I : zI) (J : zJ) (hc : cI s I J) (hm : mI s I J) (back : ∀ (s2 : zS) (h2 : zH) (I2 : zI) (J2 : zJ), lwI s2 h2 I2 J2 → z_W b0 K 972 [(1, .ref 1), (2, .ref 17), (3, .int (nI i))] [] h2 I2 J2 (6 * n) (94 * n)) : z_W b0 K 716 [(1, .ref 1), (2, .ref 17), (3, .int (nI i))] [] (z_s (s_nl s)) I J (6 * n + 6) (94 * n + 94) := by
  obtain ⟨yc, yn, yd⟩ := y
  have hy : yc = RL := hy
  subst hy
  refine u_wide (kc2 := 6 * n) (ks2 := 94 * n) (by omega) (by omega) ?_
  refine u_aload_n E dL_law_716 rfl ?_
  refine u_callV (kc := 6 * n) (ks := 94 * n) (c1 := 0) (s1 := 0) E dL_law_717 k_L_93 Y_X3_needs (m_needs _ s hw I J hc ) rfl rfl rfl (Nat.le_of_ble_eq_true rfl) ?_
  rintro r h' I1 J1 ⟨rfl, rfl, g1, g2⟩
  have hm1 := mFr.mI g2 hm
  refine u_aload_n E dL_law_720 rfl ?_
  refine u_callV (kc := 6 * n) (ks := 94 * n) (c1 := 0) (s1 := 0) E dL_law_721 k_L_96 Y_X4_needs (mm_needs _ _ s hw I1 J1 hm1 ) rfl rfl rfl (Nat.le_of_ble_eq_true rfl) ?_
  rintro r h' I2 J2 ⟨rfl, rfl, p1, rfl⟩
  refine u_icmp_eq (tgt := 972) E dL_law_724 (by decide) (fun _ => ?_) (fun c => absurd rfl c)
  exact back _ _ _ _ ⟨hw, rfl, xFr.cI (mS.x p1) g1, mS.mI p1 hm1⟩
theorem lw_c19 (hy : y.cls = RL) (E : z_E y code 4 (some .boolean) 41 K) (S : z_Sc b0 L xs K) (hL31 : L < 2 ^ 31) {i n : Nat} (hi : i + 5 ≤ L) (s : zS) (hw : s_wf s) (I : zI) (J : zJ) (hc : cI s I J) (hm : mI s I J) (back : ∀ (s2 : zS) (h2 : zH) (I2 : zI) (J2 : zJ), lwI s2 h2 I2 J2 → z_W b0 K 972 [(1, .ref 1), (2, .ref 17), (3, .int (nI i))] [] h2 I2 J2 (6 * n) (94 * n)) : z_W b0 K 729 [(1, .ref 1), (2, .ref 17), (3, .int (nI i))] [] (z_s (s_nl s)) I J (6 * n + 6) (94 * n + 94) := by
  obtain ⟨yc, yn, yd⟩ := y
  have hy : yc = RL := hy
  subst hy
  refine u_wide (kc2 := 6 * n) (ks2 := 94 * n) (by omega) (by omega) ?_
  refine u_aload_n E dL_law_729 rfl ?_
  refine u_arg (j := 1) E S hL31 (by omega) (by decide) dL_law_730 dL_law_731 dL_law_732 dL_law_733 dL_law_734 rfl ?_
  refine u_arg (j := 2) E S hL31 (by omega) (by decide) dL_law_735 dL_law_736 dL_law_737 dL_law_738 dL_law_739 rfl ?_
  refine u_callV (kc := 6 * n) (ks := 94 * n) (c1 := 0) (s1 := 0) E dL_law_740 k_L_97 Y_X3_need (m_need _ s hw I J hc (xs (i + 1)) (xs (i + 2))) rfl rfl rfl (Nat.le_of_ble_eq_true rfl) ?_
  rintro r h' I1 J1 ⟨rfl, rfl, g1, g2⟩
  have hm1 := mFr.mI g2 hm
  refine u_aload_n E dL_law_743 rfl ?_
  refine u_arg (j := 1) E S hL31 (by omega) (by decide) dL_law_744 dL_law_745 dL_law_746 dL_law_747 dL_law_748 rfl ?_
  refine u_arg (j := 2) E S hL31 (by omega) (by decide) dL_law_749 dL_law_750 dL_law_751 dL_law_752 dL_law_753 rfl ?_
  refine u_callV (kc := 6 * n) (ks := 94 * n) (c1 := 0) (s1 := 0) E dL_law_754 k_L_100 Y_X4_need (mm_need _ _ s hw I1 J1 hm1 (xs (i + 1)) (xs (i + 2))) rfl rfl rfl (Nat.le_of_ble_eq_true rfl) ?_
  rintro r h' I2 J2 ⟨rfl, rfl, p1, rfl⟩
  refine u_icmp_eq (tgt := 972) E dL_law_757 (by decide) (fun _ => ?_) (fun c => absurd rfl c)
  exact back _ _ _ _ ⟨hw, rfl, xFr.cI (mS.x p1) g1, mS.mI p1 hm1⟩
theorem lw_c20 (hy : y.cls = RL) (E : z_E y code 4 (some .boolean) 41 K) (S : z_Sc b0 L xs K) (hL31 : L < 2 ^ 31) {i n : Nat} (hi : i + 5 ≤ L) (s : zS) (hw : s_wf s) (I : zI) (J : zJ) (hc : cI s I J) (hm : mI s I J) (back : ∀ (s2 : zS) (h2 : zH) (I2 : zI) (J2 : zJ), lwI s2 h2 I2 J2 → z_W b0 K 972 [(1, .ref 1), (2, .ref 17), (3, .int (nI i))] [] h2 I2 J2 (6 * n) (94 * n)) : z_W b0 K 762 [(1, .ref 1), (2, .ref 17), (3, .int (nI i))] [] (z_s (s_nl s)) I J (6 * n + 6) (94 * n + 94) := by
  obtain ⟨yc, yn, yd⟩ := y
  have hy : yc = RL := hy
  subst hy
  refine u_wide (kc2 := 6 * n) (ks2 := 94 * n) (by omega) (by omega) ?_
  refine u_aload_n E dL_law_762 rfl ?_
  refine u_callV (kc := 6 * n) (ks := 94 * n) (c1 := 0) (s1 := 0) E dL_law_763 k_L_101 Y_X3_below (m_below _ s hw I J hc ) rfl rfl rfl (Nat.le_of_ble_eq_true rfl) ?_
  rintro r h' I1 J1 ⟨rfl, rfl, g1, g2⟩
  have hm1 := mFr.mI g2 hm
  refine u_aload_n E dL_law_766 rfl ?_
  refine u_callV (kc := 6 * n) (ks := 94 * n) (c1 := 0) (s1 := 0) E dL_law_767 k_L_104 Y_X4_below (mm_below _ _ s hw I1 J1 hm1 ) rfl rfl rfl (Nat.le_of_ble_eq_true rfl) ?_
  rintro r h' I2 J2 ⟨rfl, rfl, p1, rfl⟩
  refine u_icmp_eq (tgt := 972) E dL_law_770 (by decide) (fun _ => ?_) (fun c => absurd rfl c)
  exact back _ _ _ _ ⟨hw, rfl, xFr.cI (mS.x p1) g1, mS.mI p1 hm1⟩
theorem lw_c21 (hy : y.cls = RL) (E : z_E y code 4 (some .boolean) 41 K) (S : z_Sc b0 L xs K) (hL31 : L < 2 ^ 31) {i n : Nat} (hi : i + 5 ≤ L) (s : zS) (hw : s_wf s) (I : zI) (J : zJ) (hc : cI s I J) (hm : mI s I J) (back : ∀ (s2 : zS) (h2 : zH) (I2 : zI) (J2 : zJ), lwI s2 h2 I2 J2 → z_W b0 K 972 [(1, .ref 1), (2, .ref 17), (3, .int (nI i))] [] h2 I2 J2 (6 * n) (94 * n)) : z_W b0 K 775 [(1, .ref 1), (2, .ref 17), (3, .int (nI i))] [] (z_s (s_nl s)) I J (6 * n + 6) (94 * n + 94) := by
  obtain ⟨yc, yn, yd⟩ := y
  have hy : yc = RL := hy
  subst hy
  refine u_wide (kc2 := 6 * n) (ks2 := 94 * n) (by omega) (by omega) ?_
  refine u_aload_n E dL_law_775 rfl ?_
  refine u_arg (j := 1) E S hL31 (by omega) (by decide) dL_law_776 dL_law_777 dL_law_778 dL_law_779 dL_law_780 rfl ?_
  refine u_callV (kc := 6 * n) (ks := 94 * n) (c1 := 0) (s1 := 0) E dL_law_781 k_L_105 Y_X3_order (m_order _ s hw I J hc (xs (i + 1))) rfl rfl rfl (Nat.le_of_ble_eq_true rfl) ?_
  rintro r h' I1 J1 ⟨rfl, rfl, g1, g2⟩
  have hm1 := mFr.mI g2 hm
  refine u_aload_n E dL_law_784 rfl ?_
  refine u_arg (j := 1) E S hL31 (by omega) (by decide) dL_law_785 dL_law_786 dL_law_787 dL_law_788 dL_law_789 rfl ?_
  refine u_callV (kc := 6 * n) (ks := 94 * n) (c1 := 0) (s1 := 0) E dL_law_790 k_L_108 Y_X4_order (mm_order _ _ s hw I1 J1 hm1 (xs (i + 1))) rfl rfl rfl (Nat.le_of_ble_eq_true rfl) ?_
  rintro r h' I2 J2 ⟨rfl, rfl, p1, rfl⟩
  refine u_icmp_eq (tgt := 972) E dL_law_793 (by decide) (fun _ => ?_) (fun c => absurd rfl c)
  exact back _ _ _ _ ⟨hw, rfl, xFr.cI (mS.x p1) g1, mS.mI p1 hm1⟩
theorem lw_c22 (hy : y.cls = RL) (E : z_E y code 4 (some .boolean) 41 K) (S : z_Sc b0 L xs K) (hL31 : L < 2 ^ 31) {i n : Nat} (hi : i + 5 ≤ L) (s : zS) (hw : s_wf s) (I : zI) (J : zJ) (hc : cI s I J) (hm : mI s I J) (back : ∀ (s2 : zS) (h2 : zH) (I2 : zI) (J2 : zJ), lwI s2 h2 I2 J2 → z_W b0 K 972 [(1, .ref 1), (2, .ref 17), (3, .int (nI i))] [] h2 I2 J2 (6 * n) (94 * n)) : z_W b0 K 798 [(1, .ref 1), (2, .ref 17), (3, .int (nI i))] [] (z_s (s_nl s)) I J (6 * n + 6) (94 * n + 94) := by
  obtain ⟨yc, yn, yd⟩ := y
  have hy : yc = RL := hy
  subst hy
  refine u_wide (kc2 := 6 * n) (ks2 := 94 * n) (by omega) (by omega) ?_
  refine u_aload_n E dL_law_798 rfl ?_
  refine u_callV (kc := 6 * n) (ks := 94 * n) (c1 := 0) (s1 := 0) E dL_law_799 k_L_109 Y_X3_above (m_above _ s hw I J hc ) rfl rfl rfl (Nat.le_of_ble_eq_true rfl) ?_
  rintro r h' I1 J1 ⟨rfl, rfl, g1, g2⟩
  have hm1 := mFr.mI g2 hm
  refine u_aload_n E dL_law_802 rfl ?_
  refine u_callV (kc := 6 * n) (ks := 94 * n) (c1 := 0) (s1 := 0) E dL_law_803 k_L_112 Y_X4_above (mm_above _ _ s hw I1 J1 hm1 ) rfl rfl rfl (Nat.le_of_ble_eq_true rfl) ?_
  rintro r h' I2 J2 ⟨rfl, rfl, p1, rfl⟩
  refine u_icmp_eq (tgt := 972) E dL_law_806 (by decide) (fun _ => ?_) (fun c => absurd rfl c)
  exact back _ _ _ _ ⟨hw, rfl, xFr.cI (mS.x p1) g1, mS.mI p1 hm1⟩
theorem lw_c23 (hy : y.cls = RL) (E : z_E y code 4 (some .boolean) 41 K) (S : z_Sc b0 L xs K) (hL31 : L < 2 ^ 31) {i n : Nat} (hi : i + 5 ≤ L) (s : zS) (hw : s_wf s) (I : zI) (J : zJ) (hc : cI s I J) (hm : mI s I J) (back : ∀ (s2 : zS) (h2 : zH) (I2 : zI) (J2 : zJ), lwI s2 h2 I2 J2 → z_W b0 K 972 [(1, .ref 1), (2, .ref 17), (3, .int (nI i))] [] h2 I2 J2 (6 * n) (94 * n)) : z_W b0 K 811 [(1, .ref 1), (2, .ref 17), (3, .int (nI i))] [] (z_s (s_nl s)) I J (6 * n + 6) (94 * n + 94) := by
  obtain ⟨yc, yn, yd⟩ := y
  have hy : yc = RL := hy
  subst hy
  refine u_wide (kc2 := 6 * n) (ks2 := 94 * n) (by omega) (by omega) ?_
  refine u_aload_n E dL_law_811 rfl ?_
  refine u_arg (j := 1) E S hL31 (by omega) (by decide) dL_law_812 dL_law_813 dL_law_814 dL_law_815 dL_law_816 rfl ?_
  refine u_callV (kc := 6 * n) (ks := 94 * n) (c1 := 0) (s1 := 0) E dL_law_817 k_L_113 Y_X3_group (m_group _ s hw I J hc (xs (i + 1))) rfl rfl rfl (Nat.le_of_ble_eq_true rfl) ?_
  rintro r h' I1 J1 ⟨rfl, rfl, g1, g2⟩
  have hm1 := mFr.mI g2 hm
  refine u_aload_n E dL_law_820 rfl ?_
  refine u_arg (j := 1) E S hL31 (by omega) (by decide) dL_law_821 dL_law_822 dL_law_823 dL_law_824 dL_law_825 rfl ?_
  refine u_callV (kc := 6 * n) (ks := 94 * n) (c1 := 0) (s1 := 0) E dL_law_826 k_L_116 Y_X4_group (mm_group _ _ s hw I1 J1 hm1 (xs (i + 1))) rfl rfl rfl (Nat.le_of_ble_eq_true rfl) ?_
  rintro r h' I2 J2 ⟨rfl, rfl, p1, rfl⟩
  refine u_icmp_eq (tgt := 972) E dL_law_829 (by decide) (fun _ => ?_) (fun c => absurd rfl c)
  exact back _ _ _ _ ⟨hw, rfl, xFr.cI (mS.x p1) g1, mS.mI p1 hm1⟩
theorem lw_c24 (hy : y.cls = RL) (E : z_E y code 4 (some .boolean) 41 K) (S : z_Sc b0 L xs K) (hL31 : L < 2 ^ 31) {i n : Nat} (hi : i + 5 ≤ L) (s : zS) (hw : s_wf s) (I : zI) (J : zJ) (hc : cI s I J) (hm : mI s I J) (back : ∀ (s2 : zS) (h2 : zH) (I2 : zI) (J2 : zJ), lwI s2 h2 I2 J2 → z_W b0 K 972 [(1, .ref 1), (2, .ref 17), (3, .int (nI i))] [] h2 I2 J2 (6 * n) (94 * n)) : z_W b0 K 834 [(1, .ref 1), (2, .ref 17), (3, .int (nI i))] [] (z_s (s_nl s)) I J (6 * n + 6) (94 * n + 94) := by
  obtain ⟨yc, yn, yd⟩ := y
  have hy : yc = RL := hy
  subst hy
  refine u_wide (kc2 := 6 * n) (ks2 := 94 * n) (by omega) (by omega) ?_
  refine u_aload_n E dL_law_834 rfl ?_
  refine u_callV (kc := 6 * n) (ks := 94 * n) (c1 := 0) (s1 := 0) E dL_law_835 k_L_117 Y_X3_least (m_least _ s hw I J hc ) rfl rfl rfl (Nat.le_of_ble_eq_true rfl) ?_
  rintro r h' I1 J1 ⟨rfl, rfl, g1, g2⟩
  have hm1 := mFr.mI g2 hm
  refine u_aload_n E dL_law_838 rfl ?_
  refine u_callV (kc := 6 * n) (ks := 94 * n) (c1 := 0) (s1 := 0) E dL_law_839 k_L_120 Y_X4_least (mm_least _ _ s hw I1 J1 hm1 ) rfl rfl rfl (Nat.le_of_ble_eq_true rfl) ?_
  rintro r h' I2 J2 ⟨rfl, rfl, p1, rfl⟩
  refine u_icmp_eq (tgt := 972) E dL_law_842 (by decide) (fun _ => ?_) (fun c => absurd rfl c)
  exact back _ _ _ _ ⟨hw, rfl, xFr.cI (mS.x p1) g1, mS.mI p1 hm1⟩
theorem lw_c25 (hy : y.cls = RL) (E : z_E y code 4 (some .boolean) 41 K) (S : z_Sc b0 L xs K) (hL31 : L < 2 ^ 31) {i n : Nat} (hi : i + 5 ≤ L) (s : zS) (hw : s_wf s) (I : zI) (J : zJ) (hc : cI s I J) (hm : mI s I J) (back : ∀ (s2 : zS) (h2 : zH) (I2 : zI) (J2 : zJ), lwI s2 h2 I2 J2 → z_W b0 K 972 [(1, .ref 1), (2, .ref 17), (3, .int (nI i))] [] h2 I2 J2 (6 * n) (94 * n)) : z_W b0 K 847 [(1, .ref 1), (2, .ref 17), (3, .int (nI i))] [] (z_s (s_nl s)) I J (6 * n + 6) (94 * n + 94) := by
  obtain ⟨yc, yn, yd⟩ := y
  have hy : yc = RL := hy
  subst hy
  refine u_wide (kc2 := 6 * n) (ks2 := 94 * n) (by omega) (by omega) ?_
  refine u_aload_n E dL_law_847 rfl ?_
  refine u_arg (j := 1) E S hL31 (by omega) (by decide) dL_law_848 dL_law_849 dL_law_850 dL_law_851 dL_law_852 rfl ?_
  refine u_callV (kc := 6 * n) (ks := 94 * n) (c1 := 0) (s1 := 0) E dL_law_853 k_L_121 Y_X3_planned (m_planned _ s hw I J hc (xs (i + 1))) rfl rfl rfl (Nat.le_of_ble_eq_true rfl) ?_
  rintro r h' I1 J1 ⟨rfl, rfl, g1, g2⟩
  have hm1 := mFr.mI g2 hm
  refine u_aload_n E dL_law_856 rfl ?_
  refine u_arg (j := 1) E S hL31 (by omega) (by decide) dL_law_857 dL_law_858 dL_law_859 dL_law_860 dL_law_861 rfl ?_
  refine u_callV (kc := 6 * n) (ks := 94 * n) (c1 := 0) (s1 := 0) E dL_law_862 k_L_124 Y_X4_planned (mm_planned _ _ s hw I1 J1 hm1 (xs (i + 1))) rfl rfl rfl (Nat.le_of_ble_eq_true rfl) ?_
  rintro r h' I2 J2 ⟨rfl, rfl, p1, rfl⟩
  refine u_icmp_eq (tgt := 972) E dL_law_865 (by decide) (fun _ => ?_) (fun c => absurd rfl c)
  exact back _ _ _ _ ⟨hw, rfl, xFr.cI (mS.x p1) g1, mS.mI p1 hm1⟩
theorem lw_c26 (hy : y.cls = RL) (E : z_E y code 4 (some .boolean) 41 K) (S : z_Sc b0 L xs K) (hL31 : L < 2 ^ 31) {i n : Nat} (hi : i + 5 ≤ L) (s : zS) (hw : s_wf s) (I : zI) (J : zJ) (hc : cI s I J) (hm : mI s I J) (back : ∀ (s2 : zS) (h2 : zH) (I2 : zI) (J2 : zJ), lwI s2 h2 I2 J2 → z_W b0 K 972 [(1, .ref 1), (2, .ref 17), (3, .int (nI i))] [] h2 I2 J2 (6 * n) (94 * n)) : z_W b0 K 870 [(1, .ref 1), (2, .ref 17), (3, .int (nI i))] [] (z_s (s_nl s)) I J (6 * n + 6) (94 * n + 94) := by
  obtain ⟨yc, yn, yd⟩ := y
  have hy : yc = RL := hy
  subst hy
  refine u_wide (kc2 := 6 * n) (ks2 := 94 * n) (by omega) (by omega) ?_
  refine u_aload_n E dL_law_870 rfl ?_
  refine u_arg (j := 1) E S hL31 (by omega) (by decide) dL_law_871 dL_law_872 dL_law_873 dL_law_874 dL_law_875 rfl ?_
  refine u_arg (j := 2) E S hL31 (by omega) (by decide) dL_law_876 dL_law_877 dL_law_878 dL_law_879 dL_law_880 rfl ?_
  refine u_arg (j := 3) E S hL31 (by omega) (by decide) dL_law_881 dL_law_882 dL_law_883 dL_law_884 dL_law_885 rfl ?_
  refine u_arg (j := 4) E S hL31 (by omega) (by decide) dL_law_886 dL_law_887 dL_law_888 dL_law_889 dL_law_890 rfl ?_
  refine u_callV (kc := 6 * n) (ks := 94 * n) (c1 := 0) (s1 := 0) E dL_law_891 k_L_125 Y_X3_plan (m_plan _ s hw I J hc (xs (i + 1)) (xs (i + 2)) (xs (i + 3)) (xs (i + 4))) rfl rfl rfl (Nat.le_of_ble_eq_true rfl) ?_
  rintro r h' I1 J1 ⟨rfl, rfl, g1, g2⟩
  have hm1 := mFr.mI g2 hm
  refine u_aload_n E dL_law_894 rfl ?_
  refine u_arg (j := 1) E S hL31 (by omega) (by decide) dL_law_895 dL_law_896 dL_law_897 dL_law_898 dL_law_899 rfl ?_
  refine u_arg (j := 2) E S hL31 (by omega) (by decide) dL_law_900 dL_law_901 dL_law_902 dL_law_903 dL_law_904 rfl ?_
  refine u_arg (j := 3) E S hL31 (by omega) (by decide) dL_law_905 dL_law_906 dL_law_907 dL_law_908 dL_law_909 rfl ?_
  refine u_arg (j := 4) E S hL31 (by omega) (by decide) dL_law_910 dL_law_911 dL_law_912 dL_law_913 dL_law_914 rfl ?_
  refine u_callV (kc := 6 * n) (ks := 94 * n) (c1 := 0) (s1 := 0) E dL_law_915 k_L_129 Y_X4_plan (mm_plan _ _ s hw I1 J1 hm1 (xs (i + 1)) (xs (i + 2)) (xs (i + 3)) (xs (i + 4))) rfl rfl rfl (Nat.le_of_ble_eq_true rfl) ?_
  rintro r h' I2 J2 ⟨rfl, rfl, p1, rfl⟩
  refine u_icmp_eq (tgt := 972) E dL_law_918 (by decide) (fun _ => ?_) (fun c => absurd rfl c)
  exact back _ _ _ _ ⟨hw, rfl, xFr.cI (mS.x p1) g1, mS.mI p1 hm1⟩
theorem lw_c27 (hy : y.cls = RL) (E : z_E y code 4 (some .boolean) 41 K) (S : z_Sc b0 L xs K) (hL31 : L < 2 ^ 31) {i n : Nat} (hi : i + 5 ≤ L) (s : zS) (hw : s_wf s) (I : zI) (J : zJ) (hc : cI s I J) (hm : mI s I J) (back : ∀ (s2 : zS) (h2 : zH) (I2 : zI) (J2 : zJ), lwI s2 h2 I2 J2 → z_W b0 K 972 [(1, .ref 1), (2, .ref 17), (3, .int (nI i))] [] h2 I2 J2 (6 * n) (94 * n)) : z_W b0 K 923 [(1, .ref 1), (2, .ref 17), (3, .int (nI i))] [] (z_s (s_nl s)) I J (6 * n + 6) (94 * n + 94) := by
  obtain ⟨yc, yn, yd⟩ := y
  have hy : yc = RL := hy
  subst hy
  refine u_wide (kc2 := 6 * n) (ks2 := 94 * n) (by omega) (by omega) ?_
  refine u_aload_n E dL_law_923 rfl ?_
  refine u_callV (kc := 6 * n) (ks := 94 * n) (c1 := 0) (s1 := 0) E dL_law_924 k_L_130 Y_X3_goOn (m_goOn _ s hw I J hc ) rfl rfl rfl (Nat.le_of_ble_eq_true rfl) ?_
  rintro r h' I1 J1 ⟨rfl, rfl, g1, g2⟩
  have hm1 := mFr.mI g2 hm
  refine u_aload_n E dL_law_927 rfl ?_
  refine u_callV (kc := 6 * n) (ks := 94 * n) (c1 := 0) (s1 := 0) E dL_law_928 k_L_133 Y_X4_goOn (mm_goOn _ _ s hw I1 J1 hm1 ) rfl rfl rfl (Nat.le_of_ble_eq_true rfl) ?_
  rintro r h' I2 J2 ⟨rfl, rfl, p1, p2⟩
  refine u_icmp_eq (tgt := 972) E dL_law_931 (by decide) (fun _ => ?_) (fun c => absurd rfl c)
  exact back _ _ _ _ ⟨(w_goOn hw), rfl, xFr.cI p2 g1, p1⟩
theorem lw_c28 (hy : y.cls = RL) (E : z_E y code 4 (some .boolean) 41 K) (S : z_Sc b0 L xs K) (hL31 : L < 2 ^ 31) {i n : Nat} (hi : i + 5 ≤ L) (s : zS) (hw : s_wf s) (I : zI) (J : zJ) (hc : cI s I J) (hm : mI s I J) (back : ∀ (s2 : zS) (h2 : zH) (I2 : zI) (J2 : zJ), lwI s2 h2 I2 J2 → z_W b0 K 972 [(1, .ref 1), (2, .ref 17), (3, .int (nI i))] [] h2 I2 J2 (6 * n) (94 * n)) : z_W b0 K 936 [(1, .ref 1), (2, .ref 17), (3, .int (nI i))] [] (z_s (s_nl s)) I J (6 * n + 6) (94 * n + 94) := by
  obtain ⟨yc, yn, yd⟩ := y
  have hy : yc = RL := hy
  subst hy
  refine u_wide (kc2 := 6 * n) (ks2 := 94 * n) (by omega) (by omega) ?_
  refine u_aload_n E dL_law_936 rfl ?_
  refine u_callV (kc := 6 * n) (ks := 94 * n) (c1 := 0) (s1 := 0) E dL_law_937 k_L_134 Y_X3_finish (m_finish _ s hw I J hc ) rfl rfl rfl (Nat.le_of_ble_eq_true rfl) ?_
  rintro r h' I1 J1 ⟨rfl, rfl, g1, g2⟩
  have hm1 := mFr.mI g2 hm
  refine u_aload_n E dL_law_940 rfl ?_
  refine u_callV (kc := 6 * n) (ks := 94 * n) (c1 := 0) (s1 := 0) E dL_law_941 k_L_137 Y_X4_finish (mm_finish _ _ s hw I1 J1 hm1 ) rfl rfl rfl (Nat.le_of_ble_eq_true rfl) ?_
  rintro r h' I2 J2 ⟨rfl, rfl, p1, p2⟩
  refine u_icmp_eq (tgt := 972) E dL_law_944 (by decide) (fun _ => ?_) (fun c => absurd rfl c)
  exact back _ _ _ _ ⟨(w_fin hw), rfl, xFr.cI p2 g1, p1⟩
theorem lw_c29 (hy : y.cls = RL) (E : z_E y code 4 (some .boolean) 41 K) (S : z_Sc b0 L xs K) (hL31 : L < 2 ^ 31) {i n : Nat} (hi : i + 5 ≤ L) (s : zS) (hw : s_wf s) (I : zI) (J : zJ) (hc : cI s I J) (hm : mI s I J) (back : ∀ (s2 : zS) (h2 : zH) (I2 : zI) (J2 : zJ), lwI s2 h2 I2 J2 → z_W b0 K 972 [(1, .ref 1), (2, .ref 17), (3, .int (nI i))] [] h2 I2 J2 (6 * n) (94 * n)) : z_W b0 K 949 [(1, .ref 1), (2, .ref 17), (3, .int (nI i))] [] (z_s (s_nl s)) I J (6 * n + 6) (94 * n + 94) := by
  obtain ⟨yc, yn, yd⟩ := y
  have hy : yc = RL := hy
  subst hy
  refine u_wide (kc2 := 6 * n) (ks2 := 94 * n) (by omega) (by omega) ?_
  refine u_aload_n E dL_law_949 rfl ?_
  refine u_arg (j := 1) E S hL31 (by omega) (by decide) dL_law_950 dL_law_951 dL_law_952 dL_law_953 dL_law_954 rfl ?_
  refine u_callV (kc := 6 * n) (ks := 94 * n) (c1 := 0) (s1 := 0) E dL_law_955 k_L_138 Y_X3_count (m_count _ s hw I J hc (xs (i + 1))) rfl rfl rfl (Nat.le_of_ble_eq_true rfl) ?_
  rintro r h' I1 J1 ⟨rfl, rfl, rfl, rfl⟩
  refine u_aload_n E dL_law_958 rfl ?_
  refine u_arg (j := 1) E S hL31 (by omega) (by decide) dL_law_959 dL_law_960 dL_law_961 dL_law_962 dL_law_963 rfl ?_
  refine u_callV (kc := 6 * n) (ks := 94 * n) (c1 := 0) (s1 := 0) E dL_law_964 k_L_141 Y_X4_count (mm_count _ _ s hw _ _ hm (xs (i + 1))) rfl rfl rfl (Nat.le_of_ble_eq_true rfl) ?_
  rintro r h' I2 J2 ⟨rfl, rfl, p1, rfl⟩
  refine u_icmp_eq (tgt := 972) E dL_law_967 (by decide) (fun _ => ?_) (fun c => absurd rfl c)
  exact back _ _ _ _ ⟨hw, rfl, xFr.cI (mS.x p1) hc, mS.mI p1 hm⟩
end ZLAW
