/-! The law's cases. -/
theorem lw_cmp0 (x : Int64) : lg_cmp x x = 0 := by
  unfold lg_cmp
  simp

theorem lw_code0 {r : Nat} (h : nI r = 0) (h3 : r ≤ 3) : r = 0 := (pn_eq0 (by omega)).mp h
set_option maxRecDepth 100000 in
set_option maxHeartbeats 4000000 in
theorem lw_case0 {E : pv_E} {SL i n d bc bs : Nat} {xs : Nat → Int32} {nm : String} {hh : List (Nat × Nat × Nat × Nat)} {I : pv_IT} {J : pv_JT} {T : pv_T} {L : List pv_Lot} {H : List pv_S} {B : List Nat} (hD : 11 ≤ d) (hL : SL ≤ 2048) (hi : i + 4 ≤ SL) (hCA : CA I ((T, L), H, B)) (hMA : MA I ((T, L), H, B)) (hw : wx n ((T, L), H, B)) (hn : n ≤ 600) (K : ∀ (I' : pv_IT) (J' : pv_JT) (X' : pv_XS), CA I' X' → MA I' X' → wx (n + 1) X' → pv_X (zL E SL xs) E d bc bs (mL_law nm hh) 2081 [(0, .retAddr 0), (1, .ref 0), (2, .ref 365), (3, .ref 373), (4, .int (nI i))] [] pv_K0 pv_P0 I' J') : pv_X (zL E SL xs) E d (6 + bc) (36 + bs) (mL_law nm hh) 180 [(0, .retAddr 0), (1, .ref 0), (2, .ref 365), (3, .ref 373), (4, .int (nI i))] [] pv_K0 pv_P0 I J := by
  refine px_aload_n dL_law_180 rfl ?_
  refine px_aloadS_n dL_law_181 rfl ?_
  refine px_iload dL_law_182 rfl ?_
  refine px_iconst (v := nI 1) dL_law_184 (by decide) ?_
  refine px_iaddN dL_law_185 ?_
  refine px_sld (j := i + 1) dL_law_186 (by omega) hL ?_
  refine px_aloadS_n dL_law_187 rfl ?_
  refine px_iload dL_law_188 rfl ?_
  refine px_iconst (v := nI 2) dL_law_190 (by decide) ?_
  refine px_iaddN dL_law_191 ?_
  refine px_sld (j := i + 2) dL_law_192 (by omega) hL ?_
  refine px_aloadS_n dL_law_193 rfl ?_
  refine px_iload dL_law_194 rfl ?_
  refine px_iconst (v := nI 3) dL_law_196 (by decide) ?_
  refine px_iaddN dL_law_197 ?_
  refine px_sld (j := i + 3) dL_law_198 (by omega) hL ?_
  refine px_aload_n dL_law_199 rfl ?_
  refine c_L_addKind dL_law_200 mlL_107 (by omega) hCA hw hn (Nat.le_of_ble_eq_true rfl) (fun I1 hC1 hF1 => ?_)
  have hM1 : MA I1 ((T, L), H, B) := MA_far hMA hF1
  refine px_istore dL_law_203 (Nat.le_of_ble_eq_true rfl) ?_
  refine px_aload_n dL_law_205 rfl ?_
  refine px_aloadS_n dL_law_206 rfl ?_
  refine px_iload dL_law_207 rfl ?_
  refine px_iconst (v := nI 1) dL_law_209 (by decide) ?_
  refine px_iaddN dL_law_210 ?_
  refine px_sld (j := i + 1) dL_law_211 (by omega) hL ?_
  refine px_aloadS_n dL_law_212 rfl ?_
  refine px_iload dL_law_213 rfl ?_
  refine px_iconst (v := nI 2) dL_law_215 (by decide) ?_
  refine px_iaddN dL_law_216 ?_
  refine px_sld (j := i + 2) dL_law_217 (by omega) hL ?_
  refine px_aloadS_n dL_law_218 rfl ?_
  refine px_iload dL_law_219 rfl ?_
  refine px_iconst (v := nI 3) dL_law_221 (by decide) ?_
  refine px_iaddN dL_law_222 ?_
  refine px_sld (j := i + 3) dL_law_223 (by omega) hL ?_
  refine c_X10_addKind dL_law_224 mlL_112 (by omega) hM1 hw hn (Nat.le_of_ble_eq_true rfl) ?_
  intro I2 b hM2 hF2 h0 hb
  have hC2 := CA_far hC1 hF2
  have hw2 : wx (n + 1) (po_addKind ((T, L), H, B) (xs (i + 1)) (xs (i + 2)) (xs (i + 3))).2.2 := wx_addKind hw
  have hc3 : (po_addKind ((T, L), H, B) (xs (i + 1)) (xs (i + 2)) (xs (i + 3))).1 ≤ 3 := Nat.le_trans pc_addKind (by decide)
  generalize (po_addKind ((T, L), H, B) (xs (i + 1)) (xs (i + 2)) (xs (i + 3))) = r at hc3 hC2 hM2 hw2 h0 hb ⊢
  show pv_X _ E d _ _ _ _ _ _ _ _ _ _
  refine px_istore dL_law_227 (Nat.le_of_ble_eq_true rfl) ?_
  refine px_aload_n dL_law_229 rfl ?_
  refine c_X10_thrown dL_law_230 mlL_113 (by omega) (Nat.le_of_ble_eq_true rfl) ?_
  refine px_iv (y := nI r.1) h0 ?_
  refine px_iload dL_law_233 rfl ?_
  refine px_icmp_eq (tgt := 240) dL_law_235 (by decide) (fun _ => ?_) (fun h => absurd rfl h)
  refine px_iload dL_law_240 rfl ?_
  have fin : ∀ l5 : pv_LV, pv_X (zL E SL xs) E d bc bs (mL_law nm hh) 257 ([(0, .retAddr 0), (1, .ref 0), (2, .ref 365), (3, .ref 373), (4, .int (nI i)), (5, .int (nI r.1)), (6, .int b)] : pv_LV) [] pv_K0 pv_P0 I2 (lw_J J r) := fun _ => by
    refine px_goto (tgt := 2081) dL_law_257 (by decide) ?_
    refine px_keep [0, 1, 2, 3, 4] ?_
    exact K I2 (lw_J J r) r.2.2 hC2 hM2 hw2
  refine px_if_ne (tgt := 257) dL_law_242 (by decide) (fun h5 => ?_) (fun h5 => ?_)
  · exact fin []
  · refine px_aload_n dL_law_245 rfl ?_
    refine px_iconst (v := nI 0) dL_law_246 (by decide) ?_
    refine px_laldL (j := 0) dL_law_247 pv_s_out rfl (by decide) (by decide) pv_k_out ?_
    refine px_iload dL_law_248 rfl ?_
    refine px_i2l dL_law_250 ?_
    refine px_lcmp dL_law_251 ?_
    refine px_if_eq (tgt := 257) dL_law_252 (by decide) (fun _ => ?_) (fun h => absurd ?_ h)
    · exact fin []
    · have hc : r.1 = 0 := lw_code0 h5 hc3
      rw [hb hc, show lw_J J r = pv_uJ J 373 0 r.2.1.toInt64 from if_pos hc, pv_uJ_self]
      exact lw_cmp0 _
set_option maxRecDepth 100000 in
set_option maxHeartbeats 4000000 in
theorem lw_case1 {E : pv_E} {SL i n d bc bs : Nat} {xs : Nat → Int32} {nm : String} {hh : List (Nat × Nat × Nat × Nat)} {I : pv_IT} {J : pv_JT} {T : pv_T} {L : List pv_Lot} {H : List pv_S} {B : List Nat} (hD : 11 ≤ d) (hL : SL ≤ 2048) (hi : i + 4 ≤ SL) (hCA : CA I ((T, L), H, B)) (hMA : MA I ((T, L), H, B)) (hw : wx n ((T, L), H, B)) (hn : n ≤ 600) (K : ∀ (I' : pv_IT) (J' : pv_JT) (X' : pv_XS), CA I' X' → MA I' X' → wx (n + 1) X' → pv_X (zL E SL xs) E d bc bs (mL_law nm hh) 2081 [(0, .retAddr 0), (1, .ref 0), (2, .ref 365), (3, .ref 373), (4, .int (nI i))] [] pv_K0 pv_P0 I' J') : pv_X (zL E SL xs) E d (6 + bc) (36 + bs) (mL_law nm hh) 260 [(0, .retAddr 0), (1, .ref 0), (2, .ref 365), (3, .ref 373), (4, .int (nI i))] [] pv_K0 pv_P0 I J := by
  refine px_aload_n dL_law_260 rfl ?_
  refine px_aloadS_n dL_law_261 rfl ?_
  refine px_iload dL_law_262 rfl ?_
  refine px_iconst (v := nI 1) dL_law_264 (by decide) ?_
  refine px_iaddN dL_law_265 ?_
  refine px_sld (j := i + 1) dL_law_266 (by omega) hL ?_
  refine px_aloadS_n dL_law_267 rfl ?_
  refine px_iload dL_law_268 rfl ?_
  refine px_iconst (v := nI 2) dL_law_270 (by decide) ?_
  refine px_iaddN dL_law_271 ?_
  refine px_sld (j := i + 2) dL_law_272 (by omega) hL ?_
  refine px_aload_n dL_law_273 rfl ?_
  refine c_L_setRoom dL_law_274 mlL_116 (by omega) hCA hw hn (Nat.le_of_ble_eq_true rfl) (fun I1 hC1 hF1 => ?_)
  have hM1 : MA I1 ((T, L), H, B) := MA_far hMA hF1
  refine px_istore dL_law_277 (Nat.le_of_ble_eq_true rfl) ?_
  refine px_aload_n dL_law_279 rfl ?_
  refine px_aloadS_n dL_law_280 rfl ?_
  refine px_iload dL_law_281 rfl ?_
  refine px_iconst (v := nI 1) dL_law_283 (by decide) ?_
  refine px_iaddN dL_law_284 ?_
  refine px_sld (j := i + 1) dL_law_285 (by omega) hL ?_
  refine px_aloadS_n dL_law_286 rfl ?_
  refine px_iload dL_law_287 rfl ?_
  refine px_iconst (v := nI 2) dL_law_289 (by decide) ?_
  refine px_iaddN dL_law_290 ?_
  refine px_sld (j := i + 2) dL_law_291 (by omega) hL ?_
  refine c_X10_setRoom dL_law_292 mlL_119 (by omega) hM1 hw hn (Nat.le_of_ble_eq_true rfl) ?_
  intro I2 b hM2 hF2 h0 hb
  have hC2 := CA_far hC1 hF2
  have hw2 : wx (n + 1) (po_setRoom ((T, L), H, B) (xs (i + 1)) (xs (i + 2))).2.2 := wx_setRoom hw
  have hc3 : (po_setRoom ((T, L), H, B) (xs (i + 1)) (xs (i + 2))).1 ≤ 3 := Nat.le_trans pc_setRoom (by decide)
  generalize (po_setRoom ((T, L), H, B) (xs (i + 1)) (xs (i + 2))) = r at hc3 hC2 hM2 hw2 h0 hb ⊢
  show pv_X _ E d _ _ _ _ _ _ _ _ _ _
  refine px_istore dL_law_295 (Nat.le_of_ble_eq_true rfl) ?_
  refine px_aload_n dL_law_297 rfl ?_
  refine c_X10_thrown dL_law_298 mlL_113 (by omega) (Nat.le_of_ble_eq_true rfl) ?_
  refine px_iv (y := nI r.1) h0 ?_
  refine px_iload dL_law_301 rfl ?_
  refine px_icmp_eq (tgt := 308) dL_law_303 (by decide) (fun _ => ?_) (fun h => absurd rfl h)
  refine px_iload dL_law_308 rfl ?_
  have fin : ∀ l5 : pv_LV, pv_X (zL E SL xs) E d bc bs (mL_law nm hh) 325 ([(0, .retAddr 0), (1, .ref 0), (2, .ref 365), (3, .ref 373), (4, .int (nI i)), (5, .int (nI r.1)), (6, .int b)] : pv_LV) [] pv_K0 pv_P0 I2 (lw_J J r) := fun _ => by
    refine px_goto (tgt := 2081) dL_law_325 (by decide) ?_
    refine px_keep [0, 1, 2, 3, 4] ?_
    exact K I2 (lw_J J r) r.2.2 hC2 hM2 hw2
  refine px_if_ne (tgt := 325) dL_law_310 (by decide) (fun h5 => ?_) (fun h5 => ?_)
  · exact fin []
  · refine px_aload_n dL_law_313 rfl ?_
    refine px_iconst (v := nI 0) dL_law_314 (by decide) ?_
    refine px_laldL (j := 0) dL_law_315 pv_s_out rfl (by decide) (by decide) pv_k_out ?_
    refine px_iload dL_law_316 rfl ?_
    refine px_i2l dL_law_318 ?_
    refine px_lcmp dL_law_319 ?_
    refine px_if_eq (tgt := 325) dL_law_320 (by decide) (fun _ => ?_) (fun h => absurd ?_ h)
    · exact fin []
    · have hc : r.1 = 0 := lw_code0 h5 hc3
      rw [hb hc, show lw_J J r = pv_uJ J 373 0 r.2.1.toInt64 from if_pos hc, pv_uJ_self]
      exact lw_cmp0 _
set_option maxRecDepth 100000 in
set_option maxHeartbeats 4000000 in
theorem lw_case2 {E : pv_E} {SL i n d bc bs : Nat} {xs : Nat → Int32} {nm : String} {hh : List (Nat × Nat × Nat × Nat)} {I : pv_IT} {J : pv_JT} {T : pv_T} {L : List pv_Lot} {H : List pv_S} {B : List Nat} (hD : 11 ≤ d) (hL : SL ≤ 2048) (hi : i + 4 ≤ SL) (hCA : CA I ((T, L), H, B)) (hMA : MA I ((T, L), H, B)) (hw : wx n ((T, L), H, B)) (hn : n ≤ 600) (K : ∀ (I' : pv_IT) (J' : pv_JT) (X' : pv_XS), CA I' X' → MA I' X' → wx (n + 1) X' → pv_X (zL E SL xs) E d bc bs (mL_law nm hh) 2081 [(0, .retAddr 0), (1, .ref 0), (2, .ref 365), (3, .ref 373), (4, .int (nI i))] [] pv_K0 pv_P0 I' J') : pv_X (zL E SL xs) E d (6 + bc) (36 + bs) (mL_law nm hh) 328 [(0, .retAddr 0), (1, .ref 0), (2, .ref 365), (3, .ref 373), (4, .int (nI i))] [] pv_K0 pv_P0 I J := by
  refine px_aload_n dL_law_328 rfl ?_
  refine px_aloadS_n dL_law_329 rfl ?_
  refine px_iload dL_law_330 rfl ?_
  refine px_iconst (v := nI 1) dL_law_332 (by decide) ?_
  refine px_iaddN dL_law_333 ?_
  refine px_sld (j := i + 1) dL_law_334 (by omega) hL ?_
  refine px_aloadS_n dL_law_335 rfl ?_
  refine px_iload dL_law_336 rfl ?_
  refine px_iconst (v := nI 2) dL_law_338 (by decide) ?_
  refine px_iaddN dL_law_339 ?_
  refine px_sld (j := i + 2) dL_law_340 (by omega) hL ?_
  refine px_aload_n dL_law_341 rfl ?_
  refine c_L_warm dL_law_342 mlL_120 (by omega) hCA hw hn (Nat.le_of_ble_eq_true rfl) (fun I1 hC1 hF1 => ?_)
  have hM1 : MA I1 ((T, L), H, B) := MA_far hMA hF1
  refine px_istore dL_law_345 (Nat.le_of_ble_eq_true rfl) ?_
  refine px_aload_n dL_law_347 rfl ?_
  refine px_aloadS_n dL_law_348 rfl ?_
  refine px_iload dL_law_349 rfl ?_
  refine px_iconst (v := nI 1) dL_law_351 (by decide) ?_
  refine px_iaddN dL_law_352 ?_
  refine px_sld (j := i + 1) dL_law_353 (by omega) hL ?_
  refine px_aloadS_n dL_law_354 rfl ?_
  refine px_iload dL_law_355 rfl ?_
  refine px_iconst (v := nI 2) dL_law_357 (by decide) ?_
  refine px_iaddN dL_law_358 ?_
  refine px_sld (j := i + 2) dL_law_359 (by omega) hL ?_
  refine c_X10_warm dL_law_360 mlL_122 (by omega) hM1 hw hn (Nat.le_of_ble_eq_true rfl) ?_
  intro I2 b hM2 hF2 h0 hb
  have hC2 := CA_far hC1 hF2
  have hw2 : wx (n + 1) (po_warm ((T, L), H, B) (xs (i + 1)) (xs (i + 2))).2.2 := wx_warm hw
  have hc3 : (po_warm ((T, L), H, B) (xs (i + 1)) (xs (i + 2))).1 ≤ 3 := Nat.le_trans pc_warm (by decide)
  generalize (po_warm ((T, L), H, B) (xs (i + 1)) (xs (i + 2))) = r at hc3 hC2 hM2 hw2 h0 hb ⊢
  show pv_X _ E d _ _ _ _ _ _ _ _ _ _
  refine px_istore dL_law_363 (Nat.le_of_ble_eq_true rfl) ?_
  refine px_aload_n dL_law_365 rfl ?_
  refine c_X10_thrown dL_law_366 mlL_113 (by omega) (Nat.le_of_ble_eq_true rfl) ?_
  refine px_iv (y := nI r.1) h0 ?_
  refine px_iload dL_law_369 rfl ?_
  refine px_icmp_eq (tgt := 376) dL_law_371 (by decide) (fun _ => ?_) (fun h => absurd rfl h)
  refine px_iload dL_law_376 rfl ?_
  have fin : ∀ l5 : pv_LV, pv_X (zL E SL xs) E d bc bs (mL_law nm hh) 393 ([(0, .retAddr 0), (1, .ref 0), (2, .ref 365), (3, .ref 373), (4, .int (nI i)), (5, .int (nI r.1)), (6, .int b)] : pv_LV) [] pv_K0 pv_P0 I2 (lw_J J r) := fun _ => by
    refine px_goto (tgt := 2081) dL_law_393 (by decide) ?_
    refine px_keep [0, 1, 2, 3, 4] ?_
    exact K I2 (lw_J J r) r.2.2 hC2 hM2 hw2
  refine px_if_ne (tgt := 393) dL_law_378 (by decide) (fun h5 => ?_) (fun h5 => ?_)
  · exact fin []
  · refine px_aload_n dL_law_381 rfl ?_
    refine px_iconst (v := nI 0) dL_law_382 (by decide) ?_
    refine px_laldL (j := 0) dL_law_383 pv_s_out rfl (by decide) (by decide) pv_k_out ?_
    refine px_iload dL_law_384 rfl ?_
    refine px_i2l dL_law_386 ?_
    refine px_lcmp dL_law_387 ?_
    refine px_if_eq (tgt := 393) dL_law_388 (by decide) (fun _ => ?_) (fun h => absurd ?_ h)
    · exact fin []
    · have hc : r.1 = 0 := lw_code0 h5 hc3
      rw [hb hc, show lw_J J r = pv_uJ J 373 0 r.2.1.toInt64 from if_pos hc, pv_uJ_self]
      exact lw_cmp0 _
set_option maxRecDepth 100000 in
set_option maxHeartbeats 4000000 in
theorem lw_case3 {E : pv_E} {SL i n d bc bs : Nat} {xs : Nat → Int32} {nm : String} {hh : List (Nat × Nat × Nat × Nat)} {I : pv_IT} {J : pv_JT} {T : pv_T} {L : List pv_Lot} {H : List pv_S} {B : List Nat} (hD : 11 ≤ d) (hL : SL ≤ 2048) (hi : i + 4 ≤ SL) (hCA : CA I ((T, L), H, B)) (hMA : MA I ((T, L), H, B)) (hw : wx n ((T, L), H, B)) (hn : n ≤ 600) (K : ∀ (I' : pv_IT) (J' : pv_JT) (X' : pv_XS), CA I' X' → MA I' X' → wx (n + 1) X' → pv_X (zL E SL xs) E d bc bs (mL_law nm hh) 2081 [(0, .retAddr 0), (1, .ref 0), (2, .ref 365), (3, .ref 373), (4, .int (nI i))] [] pv_K0 pv_P0 I' J') : pv_X (zL E SL xs) E d (6 + bc) (36 + bs) (mL_law nm hh) 396 [(0, .retAddr 0), (1, .ref 0), (2, .ref 365), (3, .ref 373), (4, .int (nI i))] [] pv_K0 pv_P0 I J := by
  refine px_aload_n dL_law_396 rfl ?_
  refine px_aloadS_n dL_law_397 rfl ?_
  refine px_iload dL_law_398 rfl ?_
  refine px_iconst (v := nI 1) dL_law_400 (by decide) ?_
  refine px_iaddN dL_law_401 ?_
  refine px_sld (j := i + 1) dL_law_402 (by omega) hL ?_
  refine px_aload_n dL_law_403 rfl ?_
  refine c_L_setCrew dL_law_404 mlL_123 (by omega) hCA hw hn (Nat.le_of_ble_eq_true rfl) (fun I1 hC1 hF1 => ?_)
  have hM1 : MA I1 ((T, L), H, B) := MA_far hMA hF1
  refine px_istore dL_law_407 (Nat.le_of_ble_eq_true rfl) ?_
  refine px_aload_n dL_law_409 rfl ?_
  refine px_aloadS_n dL_law_410 rfl ?_
  refine px_iload dL_law_411 rfl ?_
  refine px_iconst (v := nI 1) dL_law_413 (by decide) ?_
  refine px_iaddN dL_law_414 ?_
  refine px_sld (j := i + 1) dL_law_415 (by omega) hL ?_
  refine c_X10_setCrew dL_law_416 mlL_126 (by omega) hM1 hw hn (Nat.le_of_ble_eq_true rfl) ?_
  intro I2 b hM2 hF2 h0 hb
  have hC2 := CA_far hC1 hF2
  have hw2 : wx (n + 1) (po_setCrew ((T, L), H, B) (xs (i + 1))).2.2 := wx_setCrew hw
  have hc3 : (po_setCrew ((T, L), H, B) (xs (i + 1))).1 ≤ 3 := Nat.le_trans pc_setCrew (by decide)
  generalize (po_setCrew ((T, L), H, B) (xs (i + 1))) = r at hc3 hC2 hM2 hw2 h0 hb ⊢
  show pv_X _ E d _ _ _ _ _ _ _ _ _ _
  refine px_istore dL_law_419 (Nat.le_of_ble_eq_true rfl) ?_
  refine px_aload_n dL_law_421 rfl ?_
  refine c_X10_thrown dL_law_422 mlL_113 (by omega) (Nat.le_of_ble_eq_true rfl) ?_
  refine px_iv (y := nI r.1) h0 ?_
  refine px_iload dL_law_425 rfl ?_
  refine px_icmp_eq (tgt := 432) dL_law_427 (by decide) (fun _ => ?_) (fun h => absurd rfl h)
  refine px_iload dL_law_432 rfl ?_
  have fin : ∀ l5 : pv_LV, pv_X (zL E SL xs) E d bc bs (mL_law nm hh) 449 ([(0, .retAddr 0), (1, .ref 0), (2, .ref 365), (3, .ref 373), (4, .int (nI i)), (5, .int (nI r.1)), (6, .int b)] : pv_LV) [] pv_K0 pv_P0 I2 (lw_J J r) := fun _ => by
    refine px_goto (tgt := 2081) dL_law_449 (by decide) ?_
    refine px_keep [0, 1, 2, 3, 4] ?_
    exact K I2 (lw_J J r) r.2.2 hC2 hM2 hw2
  refine px_if_ne (tgt := 449) dL_law_434 (by decide) (fun h5 => ?_) (fun h5 => ?_)
  · exact fin []
  · refine px_aload_n dL_law_437 rfl ?_
    refine px_iconst (v := nI 0) dL_law_438 (by decide) ?_
    refine px_laldL (j := 0) dL_law_439 pv_s_out rfl (by decide) (by decide) pv_k_out ?_
    refine px_iload dL_law_440 rfl ?_
    refine px_i2l dL_law_442 ?_
    refine px_lcmp dL_law_443 ?_
    refine px_if_eq (tgt := 449) dL_law_444 (by decide) (fun _ => ?_) (fun h => absurd ?_ h)
    · exact fin []
    · have hc : r.1 = 0 := lw_code0 h5 hc3
      rw [hb hc, show lw_J J r = pv_uJ J 373 0 r.2.1.toInt64 from if_pos hc, pv_uJ_self]
      exact lw_cmp0 _
set_option maxRecDepth 100000 in
set_option maxHeartbeats 4000000 in
theorem lw_case4 {E : pv_E} {SL i n d bc bs : Nat} {xs : Nat → Int32} {nm : String} {hh : List (Nat × Nat × Nat × Nat)} {I : pv_IT} {J : pv_JT} {T : pv_T} {L : List pv_Lot} {H : List pv_S} {B : List Nat} (hD : 11 ≤ d) (hL : SL ≤ 2048) (hi : i + 4 ≤ SL) (hCA : CA I ((T, L), H, B)) (hMA : MA I ((T, L), H, B)) (hw : wx n ((T, L), H, B)) (hn : n ≤ 600) (K : ∀ (I' : pv_IT) (J' : pv_JT) (X' : pv_XS), CA I' X' → MA I' X' → wx (n + 1) X' → pv_X (zL E SL xs) E d bc bs (mL_law nm hh) 2081 [(0, .retAddr 0), (1, .ref 0), (2, .ref 365), (3, .ref 373), (4, .int (nI i))] [] pv_K0 pv_P0 I' J') : pv_X (zL E SL xs) E d (6 + bc) (36 + bs) (mL_law nm hh) 452 [(0, .retAddr 0), (1, .ref 0), (2, .ref 365), (3, .ref 373), (4, .int (nI i))] [] pv_K0 pv_P0 I J := by
  refine px_aload_n dL_law_452 rfl ?_
  refine px_aloadS_n dL_law_453 rfl ?_
  refine px_iload dL_law_454 rfl ?_
  refine px_iconst (v := nI 1) dL_law_456 (by decide) ?_
  refine px_iaddN dL_law_457 ?_
  refine px_sld (j := i + 1) dL_law_458 (by omega) hL ?_
  refine px_aload_n dL_law_459 rfl ?_
  refine c_L_pay dL_law_460 mlL_127 (by omega) hCA hw hn (Nat.le_of_ble_eq_true rfl) (fun I1 hC1 hF1 => ?_)
  have hM1 : MA I1 ((T, L), H, B) := MA_far hMA hF1
  refine px_istore dL_law_463 (Nat.le_of_ble_eq_true rfl) ?_
  refine px_aload_n dL_law_465 rfl ?_
  refine px_aloadS_n dL_law_466 rfl ?_
  refine px_iload dL_law_467 rfl ?_
  refine px_iconst (v := nI 1) dL_law_469 (by decide) ?_
  refine px_iaddN dL_law_470 ?_
  refine px_sld (j := i + 1) dL_law_471 (by omega) hL ?_
  refine c_X10_pay dL_law_472 mlL_129 (by omega) hM1 hw hn (Nat.le_of_ble_eq_true rfl) ?_
  intro I2 b hM2 hF2 h0 hb
  have hC2 := CA_far hC1 hF2
  have hw2 : wx (n + 1) (po_pay ((T, L), H, B) (xs (i + 1))).2.2 := wx_pay hw
  have hc3 : (po_pay ((T, L), H, B) (xs (i + 1))).1 ≤ 3 := Nat.le_trans pc_pay (by decide)
  generalize (po_pay ((T, L), H, B) (xs (i + 1))) = r at hc3 hC2 hM2 hw2 h0 hb ⊢
  show pv_X _ E d _ _ _ _ _ _ _ _ _ _
  refine px_istore dL_law_475 (Nat.le_of_ble_eq_true rfl) ?_
  refine px_aload_n dL_law_477 rfl ?_
  refine c_X10_thrown dL_law_478 mlL_113 (by omega) (Nat.le_of_ble_eq_true rfl) ?_
  refine px_iv (y := nI r.1) h0 ?_
  refine px_iload dL_law_481 rfl ?_
  refine px_icmp_eq (tgt := 488) dL_law_483 (by decide) (fun _ => ?_) (fun h => absurd rfl h)
  refine px_iload dL_law_488 rfl ?_
  have fin : ∀ l5 : pv_LV, pv_X (zL E SL xs) E d bc bs (mL_law nm hh) 505 ([(0, .retAddr 0), (1, .ref 0), (2, .ref 365), (3, .ref 373), (4, .int (nI i)), (5, .int (nI r.1)), (6, .int b)] : pv_LV) [] pv_K0 pv_P0 I2 (lw_J J r) := fun _ => by
    refine px_goto (tgt := 2081) dL_law_505 (by decide) ?_
    refine px_keep [0, 1, 2, 3, 4] ?_
    exact K I2 (lw_J J r) r.2.2 hC2 hM2 hw2
  refine px_if_ne (tgt := 505) dL_law_490 (by decide) (fun h5 => ?_) (fun h5 => ?_)
  · exact fin []
  · refine px_aload_n dL_law_493 rfl ?_
    refine px_iconst (v := nI 0) dL_law_494 (by decide) ?_
    refine px_laldL (j := 0) dL_law_495 pv_s_out rfl (by decide) (by decide) pv_k_out ?_
    refine px_iload dL_law_496 rfl ?_
    refine px_i2l dL_law_498 ?_
    refine px_lcmp dL_law_499 ?_
    refine px_if_eq (tgt := 505) dL_law_500 (by decide) (fun _ => ?_) (fun h => absurd ?_ h)
    · exact fin []
    · have hc : r.1 = 0 := lw_code0 h5 hc3
      rw [hb hc, show lw_J J r = pv_uJ J 373 0 r.2.1.toInt64 from if_pos hc, pv_uJ_self]
      exact lw_cmp0 _
set_option maxRecDepth 100000 in
set_option maxHeartbeats 4000000 in
theorem lw_case5 {E : pv_E} {SL i n d bc bs : Nat} {xs : Nat → Int32} {nm : String} {hh : List (Nat × Nat × Nat × Nat)} {I : pv_IT} {J : pv_JT} {T : pv_T} {L : List pv_Lot} {H : List pv_S} {B : List Nat} (hD : 11 ≤ d) (hL : SL ≤ 2048) (hi : i + 4 ≤ SL) (hCA : CA I ((T, L), H, B)) (hMA : MA I ((T, L), H, B)) (hw : wx n ((T, L), H, B)) (hn : n ≤ 600) (K : ∀ (I' : pv_IT) (J' : pv_JT) (X' : pv_XS), CA I' X' → MA I' X' → wx (n + 1) X' → pv_X (zL E SL xs) E d bc bs (mL_law nm hh) 2081 [(0, .retAddr 0), (1, .ref 0), (2, .ref 365), (3, .ref 373), (4, .int (nI i))] [] pv_K0 pv_P0 I' J') : pv_X (zL E SL xs) E d (6 + bc) (36 + bs) (mL_law nm hh) 508 [(0, .retAddr 0), (1, .ref 0), (2, .ref 365), (3, .ref 373), (4, .int (nI i))] [] pv_K0 pv_P0 I J := by
  refine px_aload_n dL_law_508 rfl ?_
  refine px_aloadS_n dL_law_509 rfl ?_
  refine px_iload dL_law_510 rfl ?_
  refine px_iconst (v := nI 1) dL_law_512 (by decide) ?_
  refine px_iaddN dL_law_513 ?_
  refine px_sld (j := i + 1) dL_law_514 (by omega) hL ?_
  refine px_aloadS_n dL_law_515 rfl ?_
  refine px_iload dL_law_516 rfl ?_
  refine px_iconst (v := nI 2) dL_law_518 (by decide) ?_
  refine px_iaddN dL_law_519 ?_
  refine px_sld (j := i + 2) dL_law_520 (by omega) hL ?_
  refine px_aload_n dL_law_521 rfl ?_
  refine c_L_addPort dL_law_522 mlL_130 (by omega) hCA hw hn (Nat.le_of_ble_eq_true rfl) (fun I1 hC1 hF1 => ?_)
  have hM1 : MA I1 ((T, L), H, B) := MA_far hMA hF1
  refine px_istore dL_law_525 (Nat.le_of_ble_eq_true rfl) ?_
  refine px_aload_n dL_law_527 rfl ?_
  refine px_aloadS_n dL_law_528 rfl ?_
  refine px_iload dL_law_529 rfl ?_
  refine px_iconst (v := nI 1) dL_law_531 (by decide) ?_
  refine px_iaddN dL_law_532 ?_
  refine px_sld (j := i + 1) dL_law_533 (by omega) hL ?_
  refine px_aloadS_n dL_law_534 rfl ?_
  refine px_iload dL_law_535 rfl ?_
  refine px_iconst (v := nI 2) dL_law_537 (by decide) ?_
  refine px_iaddN dL_law_538 ?_
  refine px_sld (j := i + 2) dL_law_539 (by omega) hL ?_
  refine c_X10_addPort dL_law_540 mlL_132 (by omega) hM1 hw hn (Nat.le_of_ble_eq_true rfl) ?_
  intro I2 b hM2 hF2 h0 hb
  have hC2 := CA_far hC1 hF2
  have hw2 : wx (n + 1) (po_addPort ((T, L), H, B) (xs (i + 1)) (xs (i + 2))).2.2 := wx_addPort hw
  have hc3 : (po_addPort ((T, L), H, B) (xs (i + 1)) (xs (i + 2))).1 ≤ 3 := Nat.le_trans pc_addPort (by decide)
  generalize (po_addPort ((T, L), H, B) (xs (i + 1)) (xs (i + 2))) = r at hc3 hC2 hM2 hw2 h0 hb ⊢
  show pv_X _ E d _ _ _ _ _ _ _ _ _ _
  refine px_istore dL_law_543 (Nat.le_of_ble_eq_true rfl) ?_
  refine px_aload_n dL_law_545 rfl ?_
  refine c_X10_thrown dL_law_546 mlL_113 (by omega) (Nat.le_of_ble_eq_true rfl) ?_
  refine px_iv (y := nI r.1) h0 ?_
  refine px_iload dL_law_549 rfl ?_
  refine px_icmp_eq (tgt := 556) dL_law_551 (by decide) (fun _ => ?_) (fun h => absurd rfl h)
  refine px_iload dL_law_556 rfl ?_
  have fin : ∀ l5 : pv_LV, pv_X (zL E SL xs) E d bc bs (mL_law nm hh) 573 ([(0, .retAddr 0), (1, .ref 0), (2, .ref 365), (3, .ref 373), (4, .int (nI i)), (5, .int (nI r.1)), (6, .int b)] : pv_LV) [] pv_K0 pv_P0 I2 (lw_J J r) := fun _ => by
    refine px_goto (tgt := 2081) dL_law_573 (by decide) ?_
    refine px_keep [0, 1, 2, 3, 4] ?_
    exact K I2 (lw_J J r) r.2.2 hC2 hM2 hw2
  refine px_if_ne (tgt := 573) dL_law_558 (by decide) (fun h5 => ?_) (fun h5 => ?_)
  · exact fin []
  · refine px_aload_n dL_law_561 rfl ?_
    refine px_iconst (v := nI 0) dL_law_562 (by decide) ?_
    refine px_laldL (j := 0) dL_law_563 pv_s_out rfl (by decide) (by decide) pv_k_out ?_
    refine px_iload dL_law_564 rfl ?_
    refine px_i2l dL_law_566 ?_
    refine px_lcmp dL_law_567 ?_
    refine px_if_eq (tgt := 573) dL_law_568 (by decide) (fun _ => ?_) (fun h => absurd ?_ h)
    · exact fin []
    · have hc : r.1 = 0 := lw_code0 h5 hc3
      rw [hb hc, show lw_J J r = pv_uJ J 373 0 r.2.1.toInt64 from if_pos hc, pv_uJ_self]
      exact lw_cmp0 _
set_option maxRecDepth 100000 in
set_option maxHeartbeats 4000000 in
theorem lw_case6 {E : pv_E} {SL i n d bc bs : Nat} {xs : Nat → Int32} {nm : String} {hh : List (Nat × Nat × Nat × Nat)} {I : pv_IT} {J : pv_JT} {T : pv_T} {L : List pv_Lot} {H : List pv_S} {B : List Nat} (hD : 11 ≤ d) (hL : SL ≤ 2048) (hi : i + 4 ≤ SL) (hCA : CA I ((T, L), H, B)) (hMA : MA I ((T, L), H, B)) (hw : wx n ((T, L), H, B)) (hn : n ≤ 600) (K : ∀ (I' : pv_IT) (J' : pv_JT) (X' : pv_XS), CA I' X' → MA I' X' → wx (n + 1) X' → pv_X (zL E SL xs) E d bc bs (mL_law nm hh) 2081 [(0, .retAddr 0), (1, .ref 0), (2, .ref 365), (3, .ref 373), (4, .int (nI i))] [] pv_K0 pv_P0 I' J') : pv_X (zL E SL xs) E d (6 + bc) (36 + bs) (mL_law nm hh) 576 [(0, .retAddr 0), (1, .ref 0), (2, .ref 365), (3, .ref 373), (4, .int (nI i))] [] pv_K0 pv_P0 I J := by
  refine px_aload_n dL_law_576 rfl ?_
  refine px_aloadS_n dL_law_577 rfl ?_
  refine px_iload dL_law_578 rfl ?_
  refine px_iconst (v := nI 1) dL_law_580 (by decide) ?_
  refine px_iaddN dL_law_581 ?_
  refine px_sld (j := i + 1) dL_law_582 (by omega) hL ?_
  refine px_aload_n dL_law_583 rfl ?_
  refine c_L_removePort dL_law_584 mlL_133 (by omega) hCA hw hn (Nat.le_of_ble_eq_true rfl) (fun I1 hC1 hF1 => ?_)
  have hM1 : MA I1 ((T, L), H, B) := MA_far hMA hF1
  refine px_istore dL_law_587 (Nat.le_of_ble_eq_true rfl) ?_
  refine px_aload_n dL_law_589 rfl ?_
  refine px_aloadS_n dL_law_590 rfl ?_
  refine px_iload dL_law_591 rfl ?_
  refine px_iconst (v := nI 1) dL_law_593 (by decide) ?_
  refine px_iaddN dL_law_594 ?_
  refine px_sld (j := i + 1) dL_law_595 (by omega) hL ?_
  refine c_X10_removePort dL_law_596 mlL_135 (by omega) hM1 hw hn (Nat.le_of_ble_eq_true rfl) ?_
  intro I2 b hM2 hF2 h0 hb
  have hC2 := CA_far hC1 hF2
  have hw2 : wx (n + 1) (po_removePort ((T, L), H, B) (xs (i + 1))).2.2 := wx_removePort hw
  have hc3 : (po_removePort ((T, L), H, B) (xs (i + 1))).1 ≤ 3 := Nat.le_trans pc_removePort (by decide)
  generalize (po_removePort ((T, L), H, B) (xs (i + 1))) = r at hc3 hC2 hM2 hw2 h0 hb ⊢
  show pv_X _ E d _ _ _ _ _ _ _ _ _ _
  refine px_istore dL_law_599 (Nat.le_of_ble_eq_true rfl) ?_
  refine px_aload_n dL_law_601 rfl ?_
  refine c_X10_thrown dL_law_602 mlL_113 (by omega) (Nat.le_of_ble_eq_true rfl) ?_
  refine px_iv (y := nI r.1) h0 ?_
  refine px_iload dL_law_605 rfl ?_
  refine px_icmp_eq (tgt := 612) dL_law_607 (by decide) (fun _ => ?_) (fun h => absurd rfl h)
  refine px_iload dL_law_612 rfl ?_
  have fin : ∀ l5 : pv_LV, pv_X (zL E SL xs) E d bc bs (mL_law nm hh) 629 ([(0, .retAddr 0), (1, .ref 0), (2, .ref 365), (3, .ref 373), (4, .int (nI i)), (5, .int (nI r.1)), (6, .int b)] : pv_LV) [] pv_K0 pv_P0 I2 (lw_J J r) := fun _ => by
    refine px_goto (tgt := 2081) dL_law_629 (by decide) ?_
    refine px_keep [0, 1, 2, 3, 4] ?_
    exact K I2 (lw_J J r) r.2.2 hC2 hM2 hw2
  refine px_if_ne (tgt := 629) dL_law_614 (by decide) (fun h5 => ?_) (fun h5 => ?_)
  · exact fin []
  · refine px_aload_n dL_law_617 rfl ?_
    refine px_iconst (v := nI 0) dL_law_618 (by decide) ?_
    refine px_laldL (j := 0) dL_law_619 pv_s_out rfl (by decide) (by decide) pv_k_out ?_
    refine px_iload dL_law_620 rfl ?_
    refine px_i2l dL_law_622 ?_
    refine px_lcmp dL_law_623 ?_
    refine px_if_eq (tgt := 629) dL_law_624 (by decide) (fun _ => ?_) (fun h => absurd ?_ h)
    · exact fin []
    · have hc : r.1 = 0 := lw_code0 h5 hc3
      rw [hb hc, show lw_J J r = pv_uJ J 373 0 r.2.1.toInt64 from if_pos hc, pv_uJ_self]
      exact lw_cmp0 _
set_option maxRecDepth 100000 in
set_option maxHeartbeats 4000000 in
theorem lw_case7 {E : pv_E} {SL i n d bc bs : Nat} {xs : Nat → Int32} {nm : String} {hh : List (Nat × Nat × Nat × Nat)} {I : pv_IT} {J : pv_JT} {T : pv_T} {L : List pv_Lot} {H : List pv_S} {B : List Nat} (hD : 11 ≤ d) (hL : SL ≤ 2048) (hi : i + 4 ≤ SL) (hCA : CA I ((T, L), H, B)) (hMA : MA I ((T, L), H, B)) (hw : wx n ((T, L), H, B)) (hn : n ≤ 600) (K : ∀ (I' : pv_IT) (J' : pv_JT) (X' : pv_XS), CA I' X' → MA I' X' → wx (n + 1) X' → pv_X (zL E SL xs) E d bc bs (mL_law nm hh) 2081 [(0, .retAddr 0), (1, .ref 0), (2, .ref 365), (3, .ref 373), (4, .int (nI i))] [] pv_K0 pv_P0 I' J') : pv_X (zL E SL xs) E d (6 + bc) (36 + bs) (mL_law nm hh) 632 [(0, .retAddr 0), (1, .ref 0), (2, .ref 365), (3, .ref 373), (4, .int (nI i))] [] pv_K0 pv_P0 I J := by
  refine px_aload_n dL_law_632 rfl ?_
  refine px_aloadS_n dL_law_633 rfl ?_
  refine px_iload dL_law_634 rfl ?_
  refine px_iconst (v := nI 1) dL_law_636 (by decide) ?_
  refine px_iaddN dL_law_637 ?_
  refine px_sld (j := i + 1) dL_law_638 (by omega) hL ?_
  refine px_aloadS_n dL_law_639 rfl ?_
  refine px_iload dL_law_640 rfl ?_
  refine px_iconst (v := nI 2) dL_law_642 (by decide) ?_
  refine px_iaddN dL_law_643 ?_
  refine px_sld (j := i + 2) dL_law_644 (by omega) hL ?_
  refine px_aloadS_n dL_law_645 rfl ?_
  refine px_iload dL_law_646 rfl ?_
  refine px_iconst (v := nI 3) dL_law_648 (by decide) ?_
  refine px_iaddN dL_law_649 ?_
  refine px_sld (j := i + 3) dL_law_650 (by omega) hL ?_
  refine px_aload_n dL_law_651 rfl ?_
  refine c_L_setPrice dL_law_652 mlL_136 (by omega) hCA hw hn (Nat.le_of_ble_eq_true rfl) (fun I1 hC1 hF1 => ?_)
  have hM1 : MA I1 ((T, L), H, B) := MA_far hMA hF1
  refine px_istore dL_law_655 (Nat.le_of_ble_eq_true rfl) ?_
  refine px_aload_n dL_law_657 rfl ?_
  refine px_aloadS_n dL_law_658 rfl ?_
  refine px_iload dL_law_659 rfl ?_
  refine px_iconst (v := nI 1) dL_law_661 (by decide) ?_
  refine px_iaddN dL_law_662 ?_
  refine px_sld (j := i + 1) dL_law_663 (by omega) hL ?_
  refine px_aloadS_n dL_law_664 rfl ?_
  refine px_iload dL_law_665 rfl ?_
  refine px_iconst (v := nI 2) dL_law_667 (by decide) ?_
  refine px_iaddN dL_law_668 ?_
  refine px_sld (j := i + 2) dL_law_669 (by omega) hL ?_
  refine px_aloadS_n dL_law_670 rfl ?_
  refine px_iload dL_law_671 rfl ?_
  refine px_iconst (v := nI 3) dL_law_673 (by decide) ?_
  refine px_iaddN dL_law_674 ?_
  refine px_sld (j := i + 3) dL_law_675 (by omega) hL ?_
  refine c_X10_setPrice dL_law_676 mlL_138 (by omega) hM1 hw hn (Nat.le_of_ble_eq_true rfl) ?_
  intro I2 b hM2 hF2 h0 hb
  have hC2 := CA_far hC1 hF2
  have hw2 : wx (n + 1) (po_setPrice ((T, L), H, B) (xs (i + 1)) (xs (i + 2)) (xs (i + 3))).2.2 := wx_setPrice hw
  have hc3 : (po_setPrice ((T, L), H, B) (xs (i + 1)) (xs (i + 2)) (xs (i + 3))).1 ≤ 3 := Nat.le_trans pc_setPrice (by decide)
  generalize (po_setPrice ((T, L), H, B) (xs (i + 1)) (xs (i + 2)) (xs (i + 3))) = r at hc3 hC2 hM2 hw2 h0 hb ⊢
  show pv_X _ E d _ _ _ _ _ _ _ _ _ _
  refine px_istore dL_law_679 (Nat.le_of_ble_eq_true rfl) ?_
  refine px_aload_n dL_law_681 rfl ?_
  refine c_X10_thrown dL_law_682 mlL_113 (by omega) (Nat.le_of_ble_eq_true rfl) ?_
  refine px_iv (y := nI r.1) h0 ?_
  refine px_iload dL_law_685 rfl ?_
  refine px_icmp_eq (tgt := 692) dL_law_687 (by decide) (fun _ => ?_) (fun h => absurd rfl h)
  refine px_iload dL_law_692 rfl ?_
  have fin : ∀ l5 : pv_LV, pv_X (zL E SL xs) E d bc bs (mL_law nm hh) 709 ([(0, .retAddr 0), (1, .ref 0), (2, .ref 365), (3, .ref 373), (4, .int (nI i)), (5, .int (nI r.1)), (6, .int b)] : pv_LV) [] pv_K0 pv_P0 I2 (lw_J J r) := fun _ => by
    refine px_goto (tgt := 2081) dL_law_709 (by decide) ?_
    refine px_keep [0, 1, 2, 3, 4] ?_
    exact K I2 (lw_J J r) r.2.2 hC2 hM2 hw2
  refine px_if_ne (tgt := 709) dL_law_694 (by decide) (fun h5 => ?_) (fun h5 => ?_)
  · exact fin []
  · refine px_aload_n dL_law_697 rfl ?_
    refine px_iconst (v := nI 0) dL_law_698 (by decide) ?_
    refine px_laldL (j := 0) dL_law_699 pv_s_out rfl (by decide) (by decide) pv_k_out ?_
    refine px_iload dL_law_700 rfl ?_
    refine px_i2l dL_law_702 ?_
    refine px_lcmp dL_law_703 ?_
    refine px_if_eq (tgt := 709) dL_law_704 (by decide) (fun _ => ?_) (fun h => absurd ?_ h)
    · exact fin []
    · have hc : r.1 = 0 := lw_code0 h5 hc3
      rw [hb hc, show lw_J J r = pv_uJ J 373 0 r.2.1.toInt64 from if_pos hc, pv_uJ_self]
      exact lw_cmp0 _
set_option maxRecDepth 100000 in
set_option maxHeartbeats 4000000 in
theorem lw_case8 {E : pv_E} {SL i n d bc bs : Nat} {xs : Nat → Int32} {nm : String} {hh : List (Nat × Nat × Nat × Nat)} {I : pv_IT} {J : pv_JT} {T : pv_T} {L : List pv_Lot} {H : List pv_S} {B : List Nat} (hD : 11 ≤ d) (hL : SL ≤ 2048) (hi : i + 4 ≤ SL) (hCA : CA I ((T, L), H, B)) (hMA : MA I ((T, L), H, B)) (hw : wx n ((T, L), H, B)) (hn : n ≤ 600) (K : ∀ (I' : pv_IT) (J' : pv_JT) (X' : pv_XS), CA I' X' → MA I' X' → wx (n + 1) X' → pv_X (zL E SL xs) E d bc bs (mL_law nm hh) 2081 [(0, .retAddr 0), (1, .ref 0), (2, .ref 365), (3, .ref 373), (4, .int (nI i))] [] pv_K0 pv_P0 I' J') : pv_X (zL E SL xs) E d (6 + bc) (36 + bs) (mL_law nm hh) 712 [(0, .retAddr 0), (1, .ref 0), (2, .ref 365), (3, .ref 373), (4, .int (nI i))] [] pv_K0 pv_P0 I J := by
  refine px_aload_n dL_law_712 rfl ?_
  refine px_aloadS_n dL_law_713 rfl ?_
  refine px_iload dL_law_714 rfl ?_
  refine px_iconst (v := nI 1) dL_law_716 (by decide) ?_
  refine px_iaddN dL_law_717 ?_
  refine px_sld (j := i + 1) dL_law_718 (by omega) hL ?_
  refine px_aloadS_n dL_law_719 rfl ?_
  refine px_iload dL_law_720 rfl ?_
  refine px_iconst (v := nI 2) dL_law_722 (by decide) ?_
  refine px_iaddN dL_law_723 ?_
  refine px_sld (j := i + 2) dL_law_724 (by omega) hL ?_
  refine px_aloadS_n dL_law_725 rfl ?_
  refine px_iload dL_law_726 rfl ?_
  refine px_iconst (v := nI 3) dL_law_728 (by decide) ?_
  refine px_iaddN dL_law_729 ?_
  refine px_sld (j := i + 3) dL_law_730 (by omega) hL ?_
  refine px_aload_n dL_law_731 rfl ?_
  refine c_L_buy dL_law_732 mlL_139 (by omega) hCA hw hn (Nat.le_of_ble_eq_true rfl) (fun I1 hC1 hF1 => ?_)
  have hM1 : MA I1 ((T, L), H, B) := MA_far hMA hF1
  refine px_istore dL_law_735 (Nat.le_of_ble_eq_true rfl) ?_
  refine px_aload_n dL_law_737 rfl ?_
  refine px_aloadS_n dL_law_738 rfl ?_
  refine px_iload dL_law_739 rfl ?_
  refine px_iconst (v := nI 1) dL_law_741 (by decide) ?_
  refine px_iaddN dL_law_742 ?_
  refine px_sld (j := i + 1) dL_law_743 (by omega) hL ?_
  refine px_aloadS_n dL_law_744 rfl ?_
  refine px_iload dL_law_745 rfl ?_
  refine px_iconst (v := nI 2) dL_law_747 (by decide) ?_
  refine px_iaddN dL_law_748 ?_
  refine px_sld (j := i + 2) dL_law_749 (by omega) hL ?_
  refine px_aloadS_n dL_law_750 rfl ?_
  refine px_iload dL_law_751 rfl ?_
  refine px_iconst (v := nI 3) dL_law_753 (by decide) ?_
  refine px_iaddN dL_law_754 ?_
  refine px_sld (j := i + 3) dL_law_755 (by omega) hL ?_
  refine c_X10_buy dL_law_756 mlL_141 (by omega) hM1 hw hn (Nat.le_of_ble_eq_true rfl) ?_
  intro I2 b hM2 hF2 h0 hb
  have hC2 := CA_far hC1 hF2
  have hw2 : wx (n + 1) (po_buy ((T, L), H, B) (xs (i + 1)) (xs (i + 2)) (xs (i + 3))).2.2 := wx_buy hw
  have hc3 : (po_buy ((T, L), H, B) (xs (i + 1)) (xs (i + 2)) (xs (i + 3))).1 ≤ 3 := Nat.le_trans pc_buy (by decide)
  generalize (po_buy ((T, L), H, B) (xs (i + 1)) (xs (i + 2)) (xs (i + 3))) = r at hc3 hC2 hM2 hw2 h0 hb ⊢
  show pv_X _ E d _ _ _ _ _ _ _ _ _ _
  refine px_istore dL_law_759 (Nat.le_of_ble_eq_true rfl) ?_
  refine px_aload_n dL_law_761 rfl ?_
  refine c_X10_thrown dL_law_762 mlL_113 (by omega) (Nat.le_of_ble_eq_true rfl) ?_
  refine px_iv (y := nI r.1) h0 ?_
  refine px_iload dL_law_765 rfl ?_
  refine px_icmp_eq (tgt := 772) dL_law_767 (by decide) (fun _ => ?_) (fun h => absurd rfl h)
  refine px_iload dL_law_772 rfl ?_
  have fin : ∀ l5 : pv_LV, pv_X (zL E SL xs) E d bc bs (mL_law nm hh) 789 ([(0, .retAddr 0), (1, .ref 0), (2, .ref 365), (3, .ref 373), (4, .int (nI i)), (5, .int (nI r.1)), (6, .int b)] : pv_LV) [] pv_K0 pv_P0 I2 (lw_J J r) := fun _ => by
    refine px_goto (tgt := 2081) dL_law_789 (by decide) ?_
    refine px_keep [0, 1, 2, 3, 4] ?_
    exact K I2 (lw_J J r) r.2.2 hC2 hM2 hw2
  refine px_if_ne (tgt := 789) dL_law_774 (by decide) (fun h5 => ?_) (fun h5 => ?_)
  · exact fin []
  · refine px_aload_n dL_law_777 rfl ?_
    refine px_iconst (v := nI 0) dL_law_778 (by decide) ?_
    refine px_laldL (j := 0) dL_law_779 pv_s_out rfl (by decide) (by decide) pv_k_out ?_
    refine px_iload dL_law_780 rfl ?_
    refine px_i2l dL_law_782 ?_
    refine px_lcmp dL_law_783 ?_
    refine px_if_eq (tgt := 789) dL_law_784 (by decide) (fun _ => ?_) (fun h => absurd ?_ h)
    · exact fin []
    · have hc : r.1 = 0 := lw_code0 h5 hc3
      rw [hb hc, show lw_J J r = pv_uJ J 373 0 r.2.1.toInt64 from if_pos hc, pv_uJ_self]
      exact lw_cmp0 _
set_option maxRecDepth 100000 in
set_option maxHeartbeats 4000000 in
theorem lw_case9 {E : pv_E} {SL i n d bc bs : Nat} {xs : Nat → Int32} {nm : String} {hh : List (Nat × Nat × Nat × Nat)} {I : pv_IT} {J : pv_JT} {T : pv_T} {L : List pv_Lot} {H : List pv_S} {B : List Nat} (hD : 11 ≤ d) (hL : SL ≤ 2048) (hi : i + 4 ≤ SL) (hCA : CA I ((T, L), H, B)) (hMA : MA I ((T, L), H, B)) (hw : wx n ((T, L), H, B)) (hn : n ≤ 600) (K : ∀ (I' : pv_IT) (J' : pv_JT) (X' : pv_XS), CA I' X' → MA I' X' → wx (n + 1) X' → pv_X (zL E SL xs) E d bc bs (mL_law nm hh) 2081 [(0, .retAddr 0), (1, .ref 0), (2, .ref 365), (3, .ref 373), (4, .int (nI i))] [] pv_K0 pv_P0 I' J') : pv_X (zL E SL xs) E d (6 + bc) (36 + bs) (mL_law nm hh) 792 [(0, .retAddr 0), (1, .ref 0), (2, .ref 365), (3, .ref 373), (4, .int (nI i))] [] pv_K0 pv_P0 I J := by
  refine px_aload_n dL_law_792 rfl ?_
  refine px_aloadS_n dL_law_793 rfl ?_
  refine px_iload dL_law_794 rfl ?_
  refine px_iconst (v := nI 1) dL_law_796 (by decide) ?_
  refine px_iaddN dL_law_797 ?_
  refine px_sld (j := i + 1) dL_law_798 (by omega) hL ?_
  refine px_aloadS_n dL_law_799 rfl ?_
  refine px_iload dL_law_800 rfl ?_
  refine px_iconst (v := nI 2) dL_law_802 (by decide) ?_
  refine px_iaddN dL_law_803 ?_
  refine px_sld (j := i + 2) dL_law_804 (by omega) hL ?_
  refine px_aloadS_n dL_law_805 rfl ?_
  refine px_iload dL_law_806 rfl ?_
  refine px_iconst (v := nI 3) dL_law_808 (by decide) ?_
  refine px_iaddN dL_law_809 ?_
  refine px_sld (j := i + 3) dL_law_810 (by omega) hL ?_
  refine px_aload_n dL_law_811 rfl ?_
  refine c_L_move dL_law_812 mlL_142 (by omega) hCA hw hn (Nat.le_of_ble_eq_true rfl) (fun I1 hC1 hF1 => ?_)
  have hM1 : MA I1 ((T, L), H, B) := MA_far hMA hF1
  refine px_istore dL_law_815 (Nat.le_of_ble_eq_true rfl) ?_
  refine px_aload_n dL_law_817 rfl ?_
  refine px_aloadS_n dL_law_818 rfl ?_
  refine px_iload dL_law_819 rfl ?_
  refine px_iconst (v := nI 1) dL_law_821 (by decide) ?_
  refine px_iaddN dL_law_822 ?_
  refine px_sld (j := i + 1) dL_law_823 (by omega) hL ?_
  refine px_aloadS_n dL_law_824 rfl ?_
  refine px_iload dL_law_825 rfl ?_
  refine px_iconst (v := nI 2) dL_law_827 (by decide) ?_
  refine px_iaddN dL_law_828 ?_
  refine px_sld (j := i + 2) dL_law_829 (by omega) hL ?_
  refine px_aloadS_n dL_law_830 rfl ?_
  refine px_iload dL_law_831 rfl ?_
  refine px_iconst (v := nI 3) dL_law_833 (by decide) ?_
  refine px_iaddN dL_law_834 ?_
  refine px_sld (j := i + 3) dL_law_835 (by omega) hL ?_
  refine c_X10_move dL_law_836 mlL_144 (by omega) hM1 hw hn (Nat.le_of_ble_eq_true rfl) ?_
  intro I2 b hM2 hF2 h0 hb
  have hC2 := CA_far hC1 hF2
  have hw2 : wx (n + 1) (po_move ((T, L), H, B) (xs (i + 1)) (xs (i + 2)) (xs (i + 3))).2.2 := wx_move hw
  have hc3 : (po_move ((T, L), H, B) (xs (i + 1)) (xs (i + 2)) (xs (i + 3))).1 ≤ 3 := Nat.le_trans pc_move (by decide)
  generalize (po_move ((T, L), H, B) (xs (i + 1)) (xs (i + 2)) (xs (i + 3))) = r at hc3 hC2 hM2 hw2 h0 hb ⊢
  show pv_X _ E d _ _ _ _ _ _ _ _ _ _
  refine px_istore dL_law_839 (Nat.le_of_ble_eq_true rfl) ?_
  refine px_aload_n dL_law_841 rfl ?_
  refine c_X10_thrown dL_law_842 mlL_113 (by omega) (Nat.le_of_ble_eq_true rfl) ?_
  refine px_iv (y := nI r.1) h0 ?_
  refine px_iload dL_law_845 rfl ?_
  refine px_icmp_eq (tgt := 852) dL_law_847 (by decide) (fun _ => ?_) (fun h => absurd rfl h)
  refine px_iload dL_law_852 rfl ?_
  have fin : ∀ l5 : pv_LV, pv_X (zL E SL xs) E d bc bs (mL_law nm hh) 869 ([(0, .retAddr 0), (1, .ref 0), (2, .ref 365), (3, .ref 373), (4, .int (nI i)), (5, .int (nI r.1)), (6, .int b)] : pv_LV) [] pv_K0 pv_P0 I2 (lw_J J r) := fun _ => by
    refine px_goto (tgt := 2081) dL_law_869 (by decide) ?_
    refine px_keep [0, 1, 2, 3, 4] ?_
    exact K I2 (lw_J J r) r.2.2 hC2 hM2 hw2
  refine px_if_ne (tgt := 869) dL_law_854 (by decide) (fun h5 => ?_) (fun h5 => ?_)
  · exact fin []
  · refine px_aload_n dL_law_857 rfl ?_
    refine px_iconst (v := nI 0) dL_law_858 (by decide) ?_
    refine px_laldL (j := 0) dL_law_859 pv_s_out rfl (by decide) (by decide) pv_k_out ?_
    refine px_iload dL_law_860 rfl ?_
    refine px_i2l dL_law_862 ?_
    refine px_lcmp dL_law_863 ?_
    refine px_if_eq (tgt := 869) dL_law_864 (by decide) (fun _ => ?_) (fun h => absurd ?_ h)
    · exact fin []
    · have hc : r.1 = 0 := lw_code0 h5 hc3
      rw [hb hc, show lw_J J r = pv_uJ J 373 0 r.2.1.toInt64 from if_pos hc, pv_uJ_self]
      exact lw_cmp0 _
set_option maxRecDepth 100000 in
set_option maxHeartbeats 4000000 in
theorem lw_case10 {E : pv_E} {SL i n d bc bs : Nat} {xs : Nat → Int32} {nm : String} {hh : List (Nat × Nat × Nat × Nat)} {I : pv_IT} {J : pv_JT} {T : pv_T} {L : List pv_Lot} {H : List pv_S} {B : List Nat} (hD : 11 ≤ d) (hL : SL ≤ 2048) (hi : i + 4 ≤ SL) (hCA : CA I ((T, L), H, B)) (hMA : MA I ((T, L), H, B)) (hw : wx n ((T, L), H, B)) (hn : n ≤ 600) (K : ∀ (I' : pv_IT) (J' : pv_JT) (X' : pv_XS), CA I' X' → MA I' X' → wx (n + 1) X' → pv_X (zL E SL xs) E d bc bs (mL_law nm hh) 2081 [(0, .retAddr 0), (1, .ref 0), (2, .ref 365), (3, .ref 373), (4, .int (nI i))] [] pv_K0 pv_P0 I' J') : pv_X (zL E SL xs) E d (6 + bc) (36 + bs) (mL_law nm hh) 872 [(0, .retAddr 0), (1, .ref 0), (2, .ref 365), (3, .ref 373), (4, .int (nI i))] [] pv_K0 pv_P0 I J := by
  refine px_aload_n dL_law_872 rfl ?_
  refine px_aloadS_n dL_law_873 rfl ?_
  refine px_iload dL_law_874 rfl ?_
  refine px_iconst (v := nI 1) dL_law_876 (by decide) ?_
  refine px_iaddN dL_law_877 ?_
  refine px_sld (j := i + 1) dL_law_878 (by omega) hL ?_
  refine px_aloadS_n dL_law_879 rfl ?_
  refine px_iload dL_law_880 rfl ?_
  refine px_iconst (v := nI 2) dL_law_882 (by decide) ?_
  refine px_iaddN dL_law_883 ?_
  refine px_sld (j := i + 2) dL_law_884 (by omega) hL ?_
  refine px_aload_n dL_law_885 rfl ?_
  refine c_L_discard dL_law_886 mlL_145 (by omega) hCA hw hn (Nat.le_of_ble_eq_true rfl) (fun I1 hC1 hF1 => ?_)
  have hM1 : MA I1 ((T, L), H, B) := MA_far hMA hF1
  refine px_istore dL_law_889 (Nat.le_of_ble_eq_true rfl) ?_
  refine px_aload_n dL_law_891 rfl ?_
  refine px_aloadS_n dL_law_892 rfl ?_
  refine px_iload dL_law_893 rfl ?_
  refine px_iconst (v := nI 1) dL_law_895 (by decide) ?_
  refine px_iaddN dL_law_896 ?_
  refine px_sld (j := i + 1) dL_law_897 (by omega) hL ?_
  refine px_aloadS_n dL_law_898 rfl ?_
  refine px_iload dL_law_899 rfl ?_
  refine px_iconst (v := nI 2) dL_law_901 (by decide) ?_
  refine px_iaddN dL_law_902 ?_
  refine px_sld (j := i + 2) dL_law_903 (by omega) hL ?_
  refine c_X10_discard dL_law_904 mlL_147 (by omega) hM1 hw hn (Nat.le_of_ble_eq_true rfl) ?_
  intro I2 b hM2 hF2 h0 hb
  have hC2 := CA_far hC1 hF2
  have hw2 : wx (n + 1) (po_discard ((T, L), H, B) (xs (i + 1)) (xs (i + 2))).2.2 := wx_discard hw
  have hc3 : (po_discard ((T, L), H, B) (xs (i + 1)) (xs (i + 2))).1 ≤ 3 := Nat.le_trans pc_discard (by decide)
  generalize (po_discard ((T, L), H, B) (xs (i + 1)) (xs (i + 2))) = r at hc3 hC2 hM2 hw2 h0 hb ⊢
  show pv_X _ E d _ _ _ _ _ _ _ _ _ _
  refine px_istore dL_law_907 (Nat.le_of_ble_eq_true rfl) ?_
  refine px_aload_n dL_law_909 rfl ?_
  refine c_X10_thrown dL_law_910 mlL_113 (by omega) (Nat.le_of_ble_eq_true rfl) ?_
  refine px_iv (y := nI r.1) h0 ?_
  refine px_iload dL_law_913 rfl ?_
  refine px_icmp_eq (tgt := 920) dL_law_915 (by decide) (fun _ => ?_) (fun h => absurd rfl h)
  refine px_iload dL_law_920 rfl ?_
  have fin : ∀ l5 : pv_LV, pv_X (zL E SL xs) E d bc bs (mL_law nm hh) 937 ([(0, .retAddr 0), (1, .ref 0), (2, .ref 365), (3, .ref 373), (4, .int (nI i)), (5, .int (nI r.1)), (6, .int b)] : pv_LV) [] pv_K0 pv_P0 I2 (lw_J J r) := fun _ => by
    refine px_goto (tgt := 2081) dL_law_937 (by decide) ?_
    refine px_keep [0, 1, 2, 3, 4] ?_
    exact K I2 (lw_J J r) r.2.2 hC2 hM2 hw2
  refine px_if_ne (tgt := 937) dL_law_922 (by decide) (fun h5 => ?_) (fun h5 => ?_)
  · exact fin []
  · refine px_aload_n dL_law_925 rfl ?_
    refine px_iconst (v := nI 0) dL_law_926 (by decide) ?_
    refine px_laldL (j := 0) dL_law_927 pv_s_out rfl (by decide) (by decide) pv_k_out ?_
    refine px_iload dL_law_928 rfl ?_
    refine px_i2l dL_law_930 ?_
    refine px_lcmp dL_law_931 ?_
    refine px_if_eq (tgt := 937) dL_law_932 (by decide) (fun _ => ?_) (fun h => absurd ?_ h)
    · exact fin []
    · have hc : r.1 = 0 := lw_code0 h5 hc3
      rw [hb hc, show lw_J J r = pv_uJ J 373 0 r.2.1.toInt64 from if_pos hc, pv_uJ_self]
      exact lw_cmp0 _
set_option maxRecDepth 100000 in
set_option maxHeartbeats 4000000 in
theorem lw_case11 {E : pv_E} {SL i n d bc bs : Nat} {xs : Nat → Int32} {nm : String} {hh : List (Nat × Nat × Nat × Nat)} {I : pv_IT} {J : pv_JT} {T : pv_T} {L : List pv_Lot} {H : List pv_S} {B : List Nat} (hD : 11 ≤ d) (hL : SL ≤ 2048) (hi : i + 4 ≤ SL) (hCA : CA I ((T, L), H, B)) (hMA : MA I ((T, L), H, B)) (hw : wx n ((T, L), H, B)) (hn : n ≤ 600) (K : ∀ (I' : pv_IT) (J' : pv_JT) (X' : pv_XS), CA I' X' → MA I' X' → wx (n + 1) X' → pv_X (zL E SL xs) E d bc bs (mL_law nm hh) 2081 [(0, .retAddr 0), (1, .ref 0), (2, .ref 365), (3, .ref 373), (4, .int (nI i))] [] pv_K0 pv_P0 I' J') : pv_X (zL E SL xs) E d (6 + bc) (36 + bs) (mL_law nm hh) 940 [(0, .retAddr 0), (1, .ref 0), (2, .ref 365), (3, .ref 373), (4, .int (nI i))] [] pv_K0 pv_P0 I J := by
  refine px_aload_n dL_law_940 rfl ?_
  refine px_aloadS_n dL_law_941 rfl ?_
  refine px_iload dL_law_942 rfl ?_
  refine px_iconst (v := nI 1) dL_law_944 (by decide) ?_
  refine px_iaddN dL_law_945 ?_
  refine px_sld (j := i + 1) dL_law_946 (by omega) hL ?_
  refine px_aload_n dL_law_947 rfl ?_
  refine c_L_pass dL_law_948 mlL_148 (by omega) hCA hw hn (Nat.le_of_ble_eq_true rfl) (fun I1 hC1 hF1 => ?_)
  have hM1 : MA I1 ((T, L), H, B) := MA_far hMA hF1
  refine px_istore dL_law_951 (Nat.le_of_ble_eq_true rfl) ?_
  refine px_aload_n dL_law_953 rfl ?_
  refine px_aloadS_n dL_law_954 rfl ?_
  refine px_iload dL_law_955 rfl ?_
  refine px_iconst (v := nI 1) dL_law_957 (by decide) ?_
  refine px_iaddN dL_law_958 ?_
  refine px_sld (j := i + 1) dL_law_959 (by omega) hL ?_
  refine c_X10_pass dL_law_960 mlL_150 (by omega) hM1 hw hn (Nat.le_of_ble_eq_true rfl) ?_
  intro I2 b hM2 hF2 h0 hb
  have hC2 := CA_far hC1 hF2
  have hw2 : wx (n + 1) (po_pass ((T, L), H, B) (xs (i + 1))).2.2 := wx_pass hw
  have hc3 : (po_pass ((T, L), H, B) (xs (i + 1))).1 ≤ 3 := Nat.le_trans pc_pass (by decide)
  generalize (po_pass ((T, L), H, B) (xs (i + 1))) = r at hc3 hC2 hM2 hw2 h0 hb ⊢
  show pv_X _ E d _ _ _ _ _ _ _ _ _ _
  refine px_istore dL_law_963 (Nat.le_of_ble_eq_true rfl) ?_
  refine px_aload_n dL_law_965 rfl ?_
  refine c_X10_thrown dL_law_966 mlL_113 (by omega) (Nat.le_of_ble_eq_true rfl) ?_
  refine px_iv (y := nI r.1) h0 ?_
  refine px_iload dL_law_969 rfl ?_
  refine px_icmp_eq (tgt := 976) dL_law_971 (by decide) (fun _ => ?_) (fun h => absurd rfl h)
  refine px_iload dL_law_976 rfl ?_
  have fin : ∀ l5 : pv_LV, pv_X (zL E SL xs) E d bc bs (mL_law nm hh) 993 ([(0, .retAddr 0), (1, .ref 0), (2, .ref 365), (3, .ref 373), (4, .int (nI i)), (5, .int (nI r.1)), (6, .int b)] : pv_LV) [] pv_K0 pv_P0 I2 (lw_J J r) := fun _ => by
    refine px_goto (tgt := 2081) dL_law_993 (by decide) ?_
    refine px_keep [0, 1, 2, 3, 4] ?_
    exact K I2 (lw_J J r) r.2.2 hC2 hM2 hw2
  refine px_if_ne (tgt := 993) dL_law_978 (by decide) (fun h5 => ?_) (fun h5 => ?_)
  · exact fin []
  · refine px_aload_n dL_law_981 rfl ?_
    refine px_iconst (v := nI 0) dL_law_982 (by decide) ?_
    refine px_laldL (j := 0) dL_law_983 pv_s_out rfl (by decide) (by decide) pv_k_out ?_
    refine px_iload dL_law_984 rfl ?_
    refine px_i2l dL_law_986 ?_
    refine px_lcmp dL_law_987 ?_
    refine px_if_eq (tgt := 993) dL_law_988 (by decide) (fun _ => ?_) (fun h => absurd ?_ h)
    · exact fin []
    · have hc : r.1 = 0 := lw_code0 h5 hc3
      rw [hb hc, show lw_J J r = pv_uJ J 373 0 r.2.1.toInt64 from if_pos hc, pv_uJ_self]
      exact lw_cmp0 _
set_option maxRecDepth 100000 in
set_option maxHeartbeats 4000000 in
theorem lw_case12 {E : pv_E} {SL i n d bc bs : Nat} {xs : Nat → Int32} {nm : String} {hh : List (Nat × Nat × Nat × Nat)} {I : pv_IT} {J : pv_JT} {T : pv_T} {L : List pv_Lot} {H : List pv_S} {B : List Nat} (hD : 11 ≤ d) (hL : SL ≤ 2048) (hi : i + 4 ≤ SL) (hCA : CA I ((T, L), H, B)) (hMA : MA I ((T, L), H, B)) (hw : wx n ((T, L), H, B)) (hn : n ≤ 600) (K : ∀ (I' : pv_IT) (J' : pv_JT) (X' : pv_XS), CA I' X' → MA I' X' → wx (n + 1) X' → pv_X (zL E SL xs) E d bc bs (mL_law nm hh) 2081 [(0, .retAddr 0), (1, .ref 0), (2, .ref 365), (3, .ref 373), (4, .int (nI i))] [] pv_K0 pv_P0 I' J') : pv_X (zL E SL xs) E d (6 + bc) (36 + bs) (mL_law nm hh) 996 [(0, .retAddr 0), (1, .ref 0), (2, .ref 365), (3, .ref 373), (4, .int (nI i))] [] pv_K0 pv_P0 I J := by
  refine px_aload_n dL_law_996 rfl ?_
  refine px_aloadS_n dL_law_997 rfl ?_
  refine px_iload dL_law_998 rfl ?_
  refine px_iconst (v := nI 1) dL_law_1000 (by decide) ?_
  refine px_iaddN dL_law_1001 ?_
  refine px_sld (j := i + 1) dL_law_1002 (by omega) hL ?_
  refine px_aload_n dL_law_1003 rfl ?_
  refine c_L_append dL_law_1004 mlL_151 (by omega) hCA hw hn (Nat.le_of_ble_eq_true rfl) (fun I1 hC1 hF1 => ?_)
  have hM1 : MA I1 ((T, L), H, B) := MA_far hMA hF1
  refine px_istore dL_law_1007 (Nat.le_of_ble_eq_true rfl) ?_
  refine px_aload_n dL_law_1009 rfl ?_
  refine px_aloadS_n dL_law_1010 rfl ?_
  refine px_iload dL_law_1011 rfl ?_
  refine px_iconst (v := nI 1) dL_law_1013 (by decide) ?_
  refine px_iaddN dL_law_1014 ?_
  refine px_sld (j := i + 1) dL_law_1015 (by omega) hL ?_
  refine c_X10_append dL_law_1016 mlL_153 (by omega) hM1 hw hn (Nat.le_of_ble_eq_true rfl) ?_
  intro I2 b hM2 hF2 h0 hb
  have hC2 := CA_far hC1 hF2
  have hw2 : wx (n + 1) (po_append ((T, L), H, B) (xs (i + 1))).2.2 := wx_append hw
  have hc3 : (po_append ((T, L), H, B) (xs (i + 1))).1 ≤ 3 := Nat.le_trans pc_append (by decide)
  generalize (po_append ((T, L), H, B) (xs (i + 1))) = r at hc3 hC2 hM2 hw2 h0 hb ⊢
  show pv_X _ E d _ _ _ _ _ _ _ _ _ _
  refine px_istore dL_law_1019 (Nat.le_of_ble_eq_true rfl) ?_
  refine px_aload_n dL_law_1021 rfl ?_
  refine c_X10_thrown dL_law_1022 mlL_113 (by omega) (Nat.le_of_ble_eq_true rfl) ?_
  refine px_iv (y := nI r.1) h0 ?_
  refine px_iload dL_law_1025 rfl ?_
  refine px_icmp_eq (tgt := 1032) dL_law_1027 (by decide) (fun _ => ?_) (fun h => absurd rfl h)
  refine px_iload dL_law_1032 rfl ?_
  have fin : ∀ l5 : pv_LV, pv_X (zL E SL xs) E d bc bs (mL_law nm hh) 1049 ([(0, .retAddr 0), (1, .ref 0), (2, .ref 365), (3, .ref 373), (4, .int (nI i)), (5, .int (nI r.1)), (6, .int b)] : pv_LV) [] pv_K0 pv_P0 I2 (lw_J J r) := fun _ => by
    refine px_goto (tgt := 2081) dL_law_1049 (by decide) ?_
    refine px_keep [0, 1, 2, 3, 4] ?_
    exact K I2 (lw_J J r) r.2.2 hC2 hM2 hw2
  refine px_if_ne (tgt := 1049) dL_law_1034 (by decide) (fun h5 => ?_) (fun h5 => ?_)
  · exact fin []
  · refine px_aload_n dL_law_1037 rfl ?_
    refine px_iconst (v := nI 0) dL_law_1038 (by decide) ?_
    refine px_laldL (j := 0) dL_law_1039 pv_s_out rfl (by decide) (by decide) pv_k_out ?_
    refine px_iload dL_law_1040 rfl ?_
    refine px_i2l dL_law_1042 ?_
    refine px_lcmp dL_law_1043 ?_
    refine px_if_eq (tgt := 1049) dL_law_1044 (by decide) (fun _ => ?_) (fun h => absurd ?_ h)
    · exact fin []
    · have hc : r.1 = 0 := lw_code0 h5 hc3
      rw [hb hc, show lw_J J r = pv_uJ J 373 0 r.2.1.toInt64 from if_pos hc, pv_uJ_self]
      exact lw_cmp0 _
set_option maxRecDepth 100000 in
set_option maxHeartbeats 4000000 in
theorem lw_case13 {E : pv_E} {SL i n d bc bs : Nat} {xs : Nat → Int32} {nm : String} {hh : List (Nat × Nat × Nat × Nat)} {I : pv_IT} {J : pv_JT} {T : pv_T} {L : List pv_Lot} {H : List pv_S} {B : List Nat} (hD : 11 ≤ d) (hL : SL ≤ 2048) (hi : i + 4 ≤ SL) (hCA : CA I ((T, L), H, B)) (hMA : MA I ((T, L), H, B)) (hw : wx n ((T, L), H, B)) (hn : n ≤ 600) (K : ∀ (I' : pv_IT) (J' : pv_JT) (X' : pv_XS), CA I' X' → MA I' X' → wx (n + 1) X' → pv_X (zL E SL xs) E d bc bs (mL_law nm hh) 2081 [(0, .retAddr 0), (1, .ref 0), (2, .ref 365), (3, .ref 373), (4, .int (nI i))] [] pv_K0 pv_P0 I' J') : pv_X (zL E SL xs) E d (6 + bc) (36 + bs) (mL_law nm hh) 1052 [(0, .retAddr 0), (1, .ref 0), (2, .ref 365), (3, .ref 373), (4, .int (nI i))] [] pv_K0 pv_P0 I J := by
  refine px_aload_n dL_law_1052 rfl ?_
  refine c_X9_clearBuffer dL_law_1053 mlL_154 (by omega) hCA hw hn (by omega) (by omega) (Nat.le_of_ble_eq_true rfl) ?_
  intro I1 hC1 hF1
  have hM1 : MA I1 ((T, L), H, B) := MA_far hMA hF1
  show pv_X _ E d _ _ _ _ _ (.int (po_clear ((T, L), H, B)).2.1 :: []) _ _ _ _
  refine px_aload_n dL_law_1056 rfl ?_
  refine c_X10_clearBuffer dL_law_1057 mlL_157 (by omega) hM1 hw hn (Nat.le_of_ble_eq_true rfl) ?_
  intro I2 b hM2 hF2 h0 hb
  have hC2 := CA_far hC1 hF2
  have hw2 : wx (n + 1) (po_clear ((T, L), H, B)).2.2 := wx_clear hw
  have hb2 : b = (po_clear ((T, L), H, B)).2.1 := hb rfl
  show pv_X _ E d _ _ _ _ _ (.int b :: .int (po_clear ((T, L), H, B)).2.1 :: []) _ _ _ _
  refine px_icmp_eq (tgt := 2081) dL_law_1060 (by decide) (fun _ => ?_) (fun h => absurd hb2.symm h)
  refine px_weak rfl (Nat.le_refl _) (c1 := bc) (s1 := bs) (by omega) (by omega) ?_
  exact K I2 J _ hC2 hM2 hw2
set_option maxRecDepth 100000 in
set_option maxHeartbeats 4000000 in
theorem lw_case14 {E : pv_E} {SL i n d bc bs : Nat} {xs : Nat → Int32} {nm : String} {hh : List (Nat × Nat × Nat × Nat)} {I : pv_IT} {J : pv_JT} {T : pv_T} {L : List pv_Lot} {H : List pv_S} {B : List Nat} (hD : 11 ≤ d) (hL : SL ≤ 2048) (hi : i + 4 ≤ SL) (hCA : CA I ((T, L), H, B)) (hMA : MA I ((T, L), H, B)) (hw : wx n ((T, L), H, B)) (hn : n ≤ 600) (K : ∀ (I' : pv_IT) (J' : pv_JT) (X' : pv_XS), CA I' X' → MA I' X' → wx (n + 1) X' → pv_X (zL E SL xs) E d bc bs (mL_law nm hh) 2081 [(0, .retAddr 0), (1, .ref 0), (2, .ref 365), (3, .ref 373), (4, .int (nI i))] [] pv_K0 pv_P0 I' J') : pv_X (zL E SL xs) E d (6 + bc) (36 + bs) (mL_law nm hh) 1065 [(0, .retAddr 0), (1, .ref 0), (2, .ref 365), (3, .ref 373), (4, .int (nI i))] [] pv_K0 pv_P0 I J := by
  refine px_aload_n dL_law_1065 rfl ?_
  refine c_X9_firstError dL_law_1066 mlL_158 (by omega) hCA hw hn (by omega) (by omega) (Nat.le_of_ble_eq_true rfl) ?_
  intro I1 hC1 hF1
  have hM1 : MA I1 ((T, L), H, B) := MA_far hMA hF1
  show pv_X _ E d _ _ _ _ _ (.int (po_first ((T, L), H, B)).2.1 :: []) _ _ _ _
  refine px_aload_n dL_law_1069 rfl ?_
  refine c_X10_firstError dL_law_1070 mlL_161 (by omega) hM1 hw hn (Nat.le_of_ble_eq_true rfl) ?_
  intro I2 b hM2 hF2 h0 hb
  have hC2 := CA_far hC1 hF2
  have hw2 : wx (n + 1) (po_first ((T, L), H, B)).2.2 := wx_firstError hw
  have hb2 : b = (po_first ((T, L), H, B)).2.1 := hb rfl
  show pv_X _ E d _ _ _ _ _ (.int b :: .int (po_first ((T, L), H, B)).2.1 :: []) _ _ _ _
  refine px_icmp_eq (tgt := 2081) dL_law_1073 (by decide) (fun _ => ?_) (fun h => absurd hb2.symm h)
  refine px_weak rfl (Nat.le_refl _) (c1 := bc) (s1 := bs) (by omega) (by omega) ?_
  exact K I2 J _ hC2 hM2 hw2
set_option maxRecDepth 100000 in
set_option maxHeartbeats 4000000 in
theorem lw_case15 {E : pv_E} {SL i n d bc bs : Nat} {xs : Nat → Int32} {nm : String} {hh : List (Nat × Nat × Nat × Nat)} {I : pv_IT} {J : pv_JT} {T : pv_T} {L : List pv_Lot} {H : List pv_S} {B : List Nat} (hD : 11 ≤ d) (hL : SL ≤ 2048) (hi : i + 4 ≤ SL) (hCA : CA I ((T, L), H, B)) (hMA : MA I ((T, L), H, B)) (hw : wx n ((T, L), H, B)) (hn : n ≤ 600) (K : ∀ (I' : pv_IT) (J' : pv_JT) (X' : pv_XS), CA I' X' → MA I' X' → wx (n + 1) X' → pv_X (zL E SL xs) E d bc bs (mL_law nm hh) 2081 [(0, .retAddr 0), (1, .ref 0), (2, .ref 365), (3, .ref 373), (4, .int (nI i))] [] pv_K0 pv_P0 I' J') : pv_X (zL E SL xs) E d (6 + bc) (36 + bs) (mL_law nm hh) 1078 [(0, .retAddr 0), (1, .ref 0), (2, .ref 365), (3, .ref 373), (4, .int (nI i))] [] pv_K0 pv_P0 I J := by
  refine px_aload_n dL_law_1078 rfl ?_
  refine px_aload_n dL_law_1079 rfl ?_
  refine c_L_load dL_law_1080 mlL_162 (by omega) hCA hw hn (Nat.le_of_ble_eq_true rfl) (fun I1 hC1 hF1 => ?_)
  have hM1 : MA I1 ((T, L), H, B) := MA_far hMA hF1
  refine px_istore dL_law_1083 (Nat.le_of_ble_eq_true rfl) ?_
  refine px_aload_n dL_law_1085 rfl ?_
  refine c_X10_load dL_law_1086 mlL_165 (by omega) hM1 hw hn (Nat.le_of_ble_eq_true rfl) ?_
  intro I2 b hM2 hF2 h0 hb
  have hC2 := CA_far hC1 hF2
  have hw2 : wx (n + 1) (po_load ((T, L), H, B)).2.2 := wx_load hw
  have hc3 : (po_load ((T, L), H, B)).1 ≤ 3 := Nat.le_trans pc_load (by decide)
  generalize (po_load ((T, L), H, B)) = r at hc3 hC2 hM2 hw2 h0 hb ⊢
  show pv_X _ E d _ _ _ _ _ _ _ _ _ _
  refine px_istore dL_law_1089 (Nat.le_of_ble_eq_true rfl) ?_
  refine px_aload_n dL_law_1091 rfl ?_
  refine c_X10_thrown dL_law_1092 mlL_113 (by omega) (Nat.le_of_ble_eq_true rfl) ?_
  refine px_iv (y := nI r.1) h0 ?_
  refine px_iload dL_law_1095 rfl ?_
  refine px_icmp_eq (tgt := 1102) dL_law_1097 (by decide) (fun _ => ?_) (fun h => absurd rfl h)
  refine px_iload dL_law_1102 rfl ?_
  have fin : ∀ l5 : pv_LV, pv_X (zL E SL xs) E d bc bs (mL_law nm hh) 1119 ([(0, .retAddr 0), (1, .ref 0), (2, .ref 365), (3, .ref 373), (4, .int (nI i)), (5, .int (nI r.1)), (6, .int b)] : pv_LV) [] pv_K0 pv_P0 I2 (lw_J J r) := fun _ => by
    refine px_goto (tgt := 2081) dL_law_1119 (by decide) ?_
    refine px_keep [0, 1, 2, 3, 4] ?_
    exact K I2 (lw_J J r) r.2.2 hC2 hM2 hw2
  refine px_if_ne (tgt := 1119) dL_law_1104 (by decide) (fun h5 => ?_) (fun h5 => ?_)
  · exact fin []
  · refine px_aload_n dL_law_1107 rfl ?_
    refine px_iconst (v := nI 0) dL_law_1108 (by decide) ?_
    refine px_laldL (j := 0) dL_law_1109 pv_s_out rfl (by decide) (by decide) pv_k_out ?_
    refine px_iload dL_law_1110 rfl ?_
    refine px_i2l dL_law_1112 ?_
    refine px_lcmp dL_law_1113 ?_
    refine px_if_eq (tgt := 1119) dL_law_1114 (by decide) (fun _ => ?_) (fun h => absurd ?_ h)
    · exact fin []
    · have hc : r.1 = 0 := lw_code0 h5 hc3
      rw [hb hc, show lw_J J r = pv_uJ J 373 0 r.2.1.toInt64 from if_pos hc, pv_uJ_self]
      exact lw_cmp0 _
set_option maxRecDepth 100000 in
set_option maxHeartbeats 4000000 in
theorem lw_case16 {E : pv_E} {SL i n d bc bs : Nat} {xs : Nat → Int32} {nm : String} {hh : List (Nat × Nat × Nat × Nat)} {I : pv_IT} {J : pv_JT} {T : pv_T} {L : List pv_Lot} {H : List pv_S} {B : List Nat} (hD : 11 ≤ d) (hL : SL ≤ 2048) (hi : i + 4 ≤ SL) (hCA : CA I ((T, L), H, B)) (hMA : MA I ((T, L), H, B)) (hw : wx n ((T, L), H, B)) (hn : n ≤ 600) (K : ∀ (I' : pv_IT) (J' : pv_JT) (X' : pv_XS), CA I' X' → MA I' X' → wx (n + 1) X' → pv_X (zL E SL xs) E d bc bs (mL_law nm hh) 2081 [(0, .retAddr 0), (1, .ref 0), (2, .ref 365), (3, .ref 373), (4, .int (nI i))] [] pv_K0 pv_P0 I' J') : pv_X (zL E SL xs) E d (6 + bc) (36 + bs) (mL_law nm hh) 1122 [(0, .retAddr 0), (1, .ref 0), (2, .ref 365), (3, .ref 373), (4, .int (nI i))] [] pv_K0 pv_P0 I J := by
  refine px_aload_n dL_law_1122 rfl ?_
  refine px_aload_n dL_law_1123 rfl ?_
  refine c_L_undo dL_law_1124 mlL_166 (by omega) hCA hw hn (Nat.le_of_ble_eq_true rfl) (fun I1 hC1 hF1 => ?_)
  have hM1 : MA I1 ((T, L), H, B) := MA_far hMA hF1
  refine px_istore dL_law_1127 (Nat.le_of_ble_eq_true rfl) ?_
  refine px_aload_n dL_law_1129 rfl ?_
  refine c_X10_undo dL_law_1130 mlL_168 (by omega) hM1 hw hn (Nat.le_of_ble_eq_true rfl) ?_
  intro I2 b hM2 hF2 h0 hb
  have hC2 := CA_far hC1 hF2
  have hw2 : wx (n + 1) (po_undo ((T, L), H, B)).2.2 := wx_undo hw
  have hc3 : (po_undo ((T, L), H, B)).1 ≤ 3 := Nat.le_trans pc_undo (by decide)
  generalize (po_undo ((T, L), H, B)) = r at hc3 hC2 hM2 hw2 h0 hb ⊢
  show pv_X _ E d _ _ _ _ _ _ _ _ _ _
  refine px_istore dL_law_1133 (Nat.le_of_ble_eq_true rfl) ?_
  refine px_aload_n dL_law_1135 rfl ?_
  refine c_X10_thrown dL_law_1136 mlL_113 (by omega) (Nat.le_of_ble_eq_true rfl) ?_
  refine px_iv (y := nI r.1) h0 ?_
  refine px_iload dL_law_1139 rfl ?_
  refine px_icmp_eq (tgt := 1146) dL_law_1141 (by decide) (fun _ => ?_) (fun h => absurd rfl h)
  refine px_iload dL_law_1146 rfl ?_
  have fin : ∀ l5 : pv_LV, pv_X (zL E SL xs) E d bc bs (mL_law nm hh) 1163 ([(0, .retAddr 0), (1, .ref 0), (2, .ref 365), (3, .ref 373), (4, .int (nI i)), (5, .int (nI r.1)), (6, .int b)] : pv_LV) [] pv_K0 pv_P0 I2 (lw_J J r) := fun _ => by
    refine px_goto (tgt := 2081) dL_law_1163 (by decide) ?_
    refine px_keep [0, 1, 2, 3, 4] ?_
    exact K I2 (lw_J J r) r.2.2 hC2 hM2 hw2
  refine px_if_ne (tgt := 1163) dL_law_1148 (by decide) (fun h5 => ?_) (fun h5 => ?_)
  · exact fin []
  · refine px_aload_n dL_law_1151 rfl ?_
    refine px_iconst (v := nI 0) dL_law_1152 (by decide) ?_
    refine px_laldL (j := 0) dL_law_1153 pv_s_out rfl (by decide) (by decide) pv_k_out ?_
    refine px_iload dL_law_1154 rfl ?_
    refine px_i2l dL_law_1156 ?_
    refine px_lcmp dL_law_1157 ?_
    refine px_if_eq (tgt := 1163) dL_law_1158 (by decide) (fun _ => ?_) (fun h => absurd ?_ h)
    · exact fin []
    · have hc : r.1 = 0 := lw_code0 h5 hc3
      rw [hb hc, show lw_J J r = pv_uJ J 373 0 r.2.1.toInt64 from if_pos hc, pv_uJ_self]
      exact lw_cmp0 _
set_option maxRecDepth 100000 in
set_option maxHeartbeats 4000000 in
theorem lw_case17 {E : pv_E} {SL i n d bc bs : Nat} {xs : Nat → Int32} {nm : String} {hh : List (Nat × Nat × Nat × Nat)} {I : pv_IT} {J : pv_JT} {T : pv_T} {L : List pv_Lot} {H : List pv_S} {B : List Nat} (hD : 11 ≤ d) (hL : SL ≤ 2048) (hi : i + 4 ≤ SL) (hCA : CA I ((T, L), H, B)) (hMA : MA I ((T, L), H, B)) (hw : wx n ((T, L), H, B)) (hn : n ≤ 600) (K : ∀ (I' : pv_IT) (J' : pv_JT) (X' : pv_XS), CA I' X' → MA I' X' → wx (n + 1) X' → pv_X (zL E SL xs) E d bc bs (mL_law nm hh) 2081 [(0, .retAddr 0), (1, .ref 0), (2, .ref 365), (3, .ref 373), (4, .int (nI i))] [] pv_K0 pv_P0 I' J') : pv_X (zL E SL xs) E d (6 + bc) (36 + bs) (mL_law nm hh) 1166 [(0, .retAddr 0), (1, .ref 0), (2, .ref 365), (3, .ref 373), (4, .int (nI i))] [] pv_K0 pv_P0 I J := by
  refine px_aload_n dL_law_1166 rfl ?_
  refine px_aloadS_n dL_law_1167 rfl ?_
  refine px_iload dL_law_1168 rfl ?_
  refine px_iconst (v := nI 1) dL_law_1170 (by decide) ?_
  refine px_iaddN dL_law_1171 ?_
  refine px_sld (j := i + 1) dL_law_1172 (by omega) hL ?_
  refine px_aloadS_n dL_law_1173 rfl ?_
  refine px_iload dL_law_1174 rfl ?_
  refine px_iconst (v := nI 2) dL_law_1176 (by decide) ?_
  refine px_iaddN dL_law_1177 ?_
  refine px_sld (j := i + 2) dL_law_1178 (by omega) hL ?_
  refine px_aload_n dL_law_1179 rfl ?_
  refine c_L_lot dL_law_1180 mlL_169 (by omega) hCA hw hn (Nat.le_of_ble_eq_true rfl) (fun I1 hC1 hF1 => ?_)
  have hM1 : MA I1 ((T, L), H, B) := MA_far hMA hF1
  refine px_istore dL_law_1183 (Nat.le_of_ble_eq_true rfl) ?_
  refine px_aload_n dL_law_1185 rfl ?_
  refine px_aloadS_n dL_law_1186 rfl ?_
  refine px_iload dL_law_1187 rfl ?_
  refine px_iconst (v := nI 1) dL_law_1189 (by decide) ?_
  refine px_iaddN dL_law_1190 ?_
  refine px_sld (j := i + 1) dL_law_1191 (by omega) hL ?_
  refine px_aloadS_n dL_law_1192 rfl ?_
  refine px_iload dL_law_1193 rfl ?_
  refine px_iconst (v := nI 2) dL_law_1195 (by decide) ?_
  refine px_iaddN dL_law_1196 ?_
  refine px_sld (j := i + 2) dL_law_1197 (by omega) hL ?_
  refine c_X10_lot dL_law_1198 mlL_171 (by omega) hM1 hw hn (Nat.le_of_ble_eq_true rfl) ?_
  intro I2 b hM2 hF2 h0 hb
  have hC2 := CA_far hC1 hF2
  have hw2 : wx (n + 1) (po_lot ((T, L), H, B) (xs (i + 1)) (xs (i + 2))).2.2 := wx_lot hw
  have hc3 : (po_lot ((T, L), H, B) (xs (i + 1)) (xs (i + 2))).1 ≤ 3 := Nat.le_trans pc_lot (by decide)
  generalize (po_lot ((T, L), H, B) (xs (i + 1)) (xs (i + 2))) = r at hc3 hC2 hM2 hw2 h0 hb ⊢
  show pv_X _ E d _ _ _ _ _ _ _ _ _ _
  refine px_istore dL_law_1201 (Nat.le_of_ble_eq_true rfl) ?_
  refine px_aload_n dL_law_1203 rfl ?_
  refine c_X10_thrown dL_law_1204 mlL_113 (by omega) (Nat.le_of_ble_eq_true rfl) ?_
  refine px_iv (y := nI r.1) h0 ?_
  refine px_iload dL_law_1207 rfl ?_
  refine px_icmp_eq (tgt := 1214) dL_law_1209 (by decide) (fun _ => ?_) (fun h => absurd rfl h)
  refine px_iload dL_law_1214 rfl ?_
  have fin : ∀ l5 : pv_LV, pv_X (zL E SL xs) E d bc bs (mL_law nm hh) 1231 ([(0, .retAddr 0), (1, .ref 0), (2, .ref 365), (3, .ref 373), (4, .int (nI i)), (5, .int (nI r.1)), (6, .int b)] : pv_LV) [] pv_K0 pv_P0 I2 (lw_J J r) := fun _ => by
    refine px_goto (tgt := 2081) dL_law_1231 (by decide) ?_
    refine px_keep [0, 1, 2, 3, 4] ?_
    exact K I2 (lw_J J r) r.2.2 hC2 hM2 hw2
  refine px_if_ne (tgt := 1231) dL_law_1216 (by decide) (fun h5 => ?_) (fun h5 => ?_)
  · exact fin []
  · refine px_aload_n dL_law_1219 rfl ?_
    refine px_iconst (v := nI 0) dL_law_1220 (by decide) ?_
    refine px_laldL (j := 0) dL_law_1221 pv_s_out rfl (by decide) (by decide) pv_k_out ?_
    refine px_iload dL_law_1222 rfl ?_
    refine px_i2l dL_law_1224 ?_
    refine px_lcmp dL_law_1225 ?_
    refine px_if_eq (tgt := 1231) dL_law_1226 (by decide) (fun _ => ?_) (fun h => absurd ?_ h)
    · exact fin []
    · have hc : r.1 = 0 := lw_code0 h5 hc3
      rw [hb hc, show lw_J J r = pv_uJ J 373 0 r.2.1.toInt64 from if_pos hc, pv_uJ_self]
      exact lw_cmp0 _
set_option maxRecDepth 100000 in
set_option maxHeartbeats 4000000 in
theorem lw_case18 {E : pv_E} {SL i n d bc bs : Nat} {xs : Nat → Int32} {nm : String} {hh : List (Nat × Nat × Nat × Nat)} {I : pv_IT} {J : pv_JT} {T : pv_T} {L : List pv_Lot} {H : List pv_S} {B : List Nat} (hD : 11 ≤ d) (hL : SL ≤ 2048) (hi : i + 4 ≤ SL) (hCA : CA I ((T, L), H, B)) (hMA : MA I ((T, L), H, B)) (hw : wx n ((T, L), H, B)) (hn : n ≤ 600) (K : ∀ (I' : pv_IT) (J' : pv_JT) (X' : pv_XS), CA I' X' → MA I' X' → wx (n + 1) X' → pv_X (zL E SL xs) E d bc bs (mL_law nm hh) 2081 [(0, .retAddr 0), (1, .ref 0), (2, .ref 365), (3, .ref 373), (4, .int (nI i))] [] pv_K0 pv_P0 I' J') : pv_X (zL E SL xs) E d (6 + bc) (36 + bs) (mL_law nm hh) 1234 [(0, .retAddr 0), (1, .ref 0), (2, .ref 365), (3, .ref 373), (4, .int (nI i))] [] pv_K0 pv_P0 I J := by
  refine px_aload_n dL_law_1234 rfl ?_
  refine px_aloadS_n dL_law_1235 rfl ?_
  refine px_iload dL_law_1236 rfl ?_
  refine px_iconst (v := nI 1) dL_law_1238 (by decide) ?_
  refine px_iaddN dL_law_1239 ?_
  refine px_sld (j := i + 1) dL_law_1240 (by omega) hL ?_
  refine px_aloadS_n dL_law_1241 rfl ?_
  refine px_iload dL_law_1242 rfl ?_
  refine px_iconst (v := nI 2) dL_law_1244 (by decide) ?_
  refine px_iaddN dL_law_1245 ?_
  refine px_sld (j := i + 2) dL_law_1246 (by omega) hL ?_
  refine px_aload_n dL_law_1247 rfl ?_
  refine c_L_store dL_law_1248 mlL_172 (by omega) hCA hw hn (Nat.le_of_ble_eq_true rfl) (fun I1 hC1 hF1 => ?_)
  have hM1 : MA I1 ((T, L), H, B) := MA_far hMA hF1
  refine px_istore dL_law_1251 (Nat.le_of_ble_eq_true rfl) ?_
  refine px_aload_n dL_law_1253 rfl ?_
  refine px_aloadS_n dL_law_1254 rfl ?_
  refine px_iload dL_law_1255 rfl ?_
  refine px_iconst (v := nI 1) dL_law_1257 (by decide) ?_
  refine px_iaddN dL_law_1258 ?_
  refine px_sld (j := i + 1) dL_law_1259 (by omega) hL ?_
  refine px_aloadS_n dL_law_1260 rfl ?_
  refine px_iload dL_law_1261 rfl ?_
  refine px_iconst (v := nI 2) dL_law_1263 (by decide) ?_
  refine px_iaddN dL_law_1264 ?_
  refine px_sld (j := i + 2) dL_law_1265 (by omega) hL ?_
  refine c_X10_store dL_law_1266 mlL_174 (by omega) hM1 hw hn (Nat.le_of_ble_eq_true rfl) ?_
  intro I2 b hM2 hF2 h0 hb
  have hC2 := CA_far hC1 hF2
  have hw2 : wx (n + 1) (po_store ((T, L), H, B) (xs (i + 1)) (xs (i + 2))).2.2 := wx_store hw
  have hc3 : (po_store ((T, L), H, B) (xs (i + 1)) (xs (i + 2))).1 ≤ 3 := Nat.le_trans pc_store (by decide)
  generalize (po_store ((T, L), H, B) (xs (i + 1)) (xs (i + 2))) = r at hc3 hC2 hM2 hw2 h0 hb ⊢
  show pv_X _ E d _ _ _ _ _ _ _ _ _ _
  refine px_istore dL_law_1269 (Nat.le_of_ble_eq_true rfl) ?_
  refine px_aload_n dL_law_1271 rfl ?_
  refine c_X10_thrown dL_law_1272 mlL_113 (by omega) (Nat.le_of_ble_eq_true rfl) ?_
  refine px_iv (y := nI r.1) h0 ?_
  refine px_iload dL_law_1275 rfl ?_
  refine px_icmp_eq (tgt := 1282) dL_law_1277 (by decide) (fun _ => ?_) (fun h => absurd rfl h)
  refine px_iload dL_law_1282 rfl ?_
  have fin : ∀ l5 : pv_LV, pv_X (zL E SL xs) E d bc bs (mL_law nm hh) 1299 ([(0, .retAddr 0), (1, .ref 0), (2, .ref 365), (3, .ref 373), (4, .int (nI i)), (5, .int (nI r.1)), (6, .int b)] : pv_LV) [] pv_K0 pv_P0 I2 (lw_J J r) := fun _ => by
    refine px_goto (tgt := 2081) dL_law_1299 (by decide) ?_
    refine px_keep [0, 1, 2, 3, 4] ?_
    exact K I2 (lw_J J r) r.2.2 hC2 hM2 hw2
  refine px_if_ne (tgt := 1299) dL_law_1284 (by decide) (fun h5 => ?_) (fun h5 => ?_)
  · exact fin []
  · refine px_aload_n dL_law_1287 rfl ?_
    refine px_iconst (v := nI 0) dL_law_1288 (by decide) ?_
    refine px_laldL (j := 0) dL_law_1289 pv_s_out rfl (by decide) (by decide) pv_k_out ?_
    refine px_iload dL_law_1290 rfl ?_
    refine px_i2l dL_law_1292 ?_
    refine px_lcmp dL_law_1293 ?_
    refine px_if_eq (tgt := 1299) dL_law_1294 (by decide) (fun _ => ?_) (fun h => absurd ?_ h)
    · exact fin []
    · have hc : r.1 = 0 := lw_code0 h5 hc3
      rw [hb hc, show lw_J J r = pv_uJ J 373 0 r.2.1.toInt64 from if_pos hc, pv_uJ_self]
      exact lw_cmp0 _
set_option maxRecDepth 100000 in
set_option maxHeartbeats 4000000 in
theorem lw_case19 {E : pv_E} {SL i n d bc bs : Nat} {xs : Nat → Int32} {nm : String} {hh : List (Nat × Nat × Nat × Nat)} {I : pv_IT} {J : pv_JT} {T : pv_T} {L : List pv_Lot} {H : List pv_S} {B : List Nat} (hD : 11 ≤ d) (hL : SL ≤ 2048) (hi : i + 4 ≤ SL) (hCA : CA I ((T, L), H, B)) (hMA : MA I ((T, L), H, B)) (hw : wx n ((T, L), H, B)) (hn : n ≤ 600) (K : ∀ (I' : pv_IT) (J' : pv_JT) (X' : pv_XS), CA I' X' → MA I' X' → wx (n + 1) X' → pv_X (zL E SL xs) E d bc bs (mL_law nm hh) 2081 [(0, .retAddr 0), (1, .ref 0), (2, .ref 365), (3, .ref 373), (4, .int (nI i))] [] pv_K0 pv_P0 I' J') : pv_X (zL E SL xs) E d (6 + bc) (36 + bs) (mL_law nm hh) 1302 [(0, .retAddr 0), (1, .ref 0), (2, .ref 365), (3, .ref 373), (4, .int (nI i))] [] pv_K0 pv_P0 I J := by
  refine px_aload_n dL_law_1302 rfl ?_
  refine px_aloadS_n dL_law_1303 rfl ?_
  refine px_iload dL_law_1304 rfl ?_
  refine px_iconst (v := nI 1) dL_law_1306 (by decide) ?_
  refine px_iaddN dL_law_1307 ?_
  refine px_sld (j := i + 1) dL_law_1308 (by omega) hL ?_
  refine px_aloadS_n dL_law_1309 rfl ?_
  refine px_iload dL_law_1310 rfl ?_
  refine px_iconst (v := nI 2) dL_law_1312 (by decide) ?_
  refine px_iaddN dL_law_1313 ?_
  refine px_sld (j := i + 2) dL_law_1314 (by omega) hL ?_
  refine px_aload_n dL_law_1315 rfl ?_
  refine c_L_kind dL_law_1316 mlL_175 (by omega) hCA hw hn (Nat.le_of_ble_eq_true rfl) (fun I1 hC1 hF1 => ?_)
  have hM1 : MA I1 ((T, L), H, B) := MA_far hMA hF1
  refine px_istore dL_law_1319 (Nat.le_of_ble_eq_true rfl) ?_
  refine px_aload_n dL_law_1321 rfl ?_
  refine px_aloadS_n dL_law_1322 rfl ?_
  refine px_iload dL_law_1323 rfl ?_
  refine px_iconst (v := nI 1) dL_law_1325 (by decide) ?_
  refine px_iaddN dL_law_1326 ?_
  refine px_sld (j := i + 1) dL_law_1327 (by omega) hL ?_
  refine px_aloadS_n dL_law_1328 rfl ?_
  refine px_iload dL_law_1329 rfl ?_
  refine px_iconst (v := nI 2) dL_law_1331 (by decide) ?_
  refine px_iaddN dL_law_1332 ?_
  refine px_sld (j := i + 2) dL_law_1333 (by omega) hL ?_
  refine c_X10_kind dL_law_1334 mlL_177 (by omega) hM1 hw hn (Nat.le_of_ble_eq_true rfl) ?_
  intro I2 b hM2 hF2 h0 hb
  have hC2 := CA_far hC1 hF2
  have hw2 : wx (n + 1) (po_kind ((T, L), H, B) (xs (i + 1)) (xs (i + 2))).2.2 := wx_kind hw
  have hc3 : (po_kind ((T, L), H, B) (xs (i + 1)) (xs (i + 2))).1 ≤ 3 := Nat.le_trans pc_kind (by decide)
  generalize (po_kind ((T, L), H, B) (xs (i + 1)) (xs (i + 2))) = r at hc3 hC2 hM2 hw2 h0 hb ⊢
  show pv_X _ E d _ _ _ _ _ _ _ _ _ _
  refine px_istore dL_law_1337 (Nat.le_of_ble_eq_true rfl) ?_
  refine px_aload_n dL_law_1339 rfl ?_
  refine c_X10_thrown dL_law_1340 mlL_113 (by omega) (Nat.le_of_ble_eq_true rfl) ?_
  refine px_iv (y := nI r.1) h0 ?_
  refine px_iload dL_law_1343 rfl ?_
  refine px_icmp_eq (tgt := 1350) dL_law_1345 (by decide) (fun _ => ?_) (fun h => absurd rfl h)
  refine px_iload dL_law_1350 rfl ?_
  have fin : ∀ l5 : pv_LV, pv_X (zL E SL xs) E d bc bs (mL_law nm hh) 1367 ([(0, .retAddr 0), (1, .ref 0), (2, .ref 365), (3, .ref 373), (4, .int (nI i)), (5, .int (nI r.1)), (6, .int b)] : pv_LV) [] pv_K0 pv_P0 I2 (lw_J J r) := fun _ => by
    refine px_goto (tgt := 2081) dL_law_1367 (by decide) ?_
    refine px_keep [0, 1, 2, 3, 4] ?_
    exact K I2 (lw_J J r) r.2.2 hC2 hM2 hw2
  refine px_if_ne (tgt := 1367) dL_law_1352 (by decide) (fun h5 => ?_) (fun h5 => ?_)
  · exact fin []
  · refine px_aload_n dL_law_1355 rfl ?_
    refine px_iconst (v := nI 0) dL_law_1356 (by decide) ?_
    refine px_laldL (j := 0) dL_law_1357 pv_s_out rfl (by decide) (by decide) pv_k_out ?_
    refine px_iload dL_law_1358 rfl ?_
    refine px_i2l dL_law_1360 ?_
    refine px_lcmp dL_law_1361 ?_
    refine px_if_eq (tgt := 1367) dL_law_1362 (by decide) (fun _ => ?_) (fun h => absurd ?_ h)
    · exact fin []
    · have hc : r.1 = 0 := lw_code0 h5 hc3
      rw [hb hc, show lw_J J r = pv_uJ J 373 0 r.2.1.toInt64 from if_pos hc, pv_uJ_self]
      exact lw_cmp0 _
set_option maxRecDepth 100000 in
set_option maxHeartbeats 4000000 in
theorem lw_case20 {E : pv_E} {SL i n d bc bs : Nat} {xs : Nat → Int32} {nm : String} {hh : List (Nat × Nat × Nat × Nat)} {I : pv_IT} {J : pv_JT} {T : pv_T} {L : List pv_Lot} {H : List pv_S} {B : List Nat} (hD : 11 ≤ d) (hL : SL ≤ 2048) (hi : i + 4 ≤ SL) (hCA : CA I ((T, L), H, B)) (hMA : MA I ((T, L), H, B)) (hw : wx n ((T, L), H, B)) (hn : n ≤ 600) (K : ∀ (I' : pv_IT) (J' : pv_JT) (X' : pv_XS), CA I' X' → MA I' X' → wx (n + 1) X' → pv_X (zL E SL xs) E d bc bs (mL_law nm hh) 2081 [(0, .retAddr 0), (1, .ref 0), (2, .ref 365), (3, .ref 373), (4, .int (nI i))] [] pv_K0 pv_P0 I' J') : pv_X (zL E SL xs) E d (6 + bc) (36 + bs) (mL_law nm hh) 1370 [(0, .retAddr 0), (1, .ref 0), (2, .ref 365), (3, .ref 373), (4, .int (nI i))] [] pv_K0 pv_P0 I J := by
  refine px_aload_n dL_law_1370 rfl ?_
  refine px_aloadS_n dL_law_1371 rfl ?_
  refine px_iload dL_law_1372 rfl ?_
  refine px_iconst (v := nI 1) dL_law_1374 (by decide) ?_
  refine px_iaddN dL_law_1375 ?_
  refine px_sld (j := i + 1) dL_law_1376 (by omega) hL ?_
  refine px_aloadS_n dL_law_1377 rfl ?_
  refine px_iload dL_law_1378 rfl ?_
  refine px_iconst (v := nI 2) dL_law_1380 (by decide) ?_
  refine px_iaddN dL_law_1381 ?_
  refine px_sld (j := i + 2) dL_law_1382 (by omega) hL ?_
  refine px_aload_n dL_law_1383 rfl ?_
  refine c_L_port dL_law_1384 mlL_178 (by omega) hCA hw hn (Nat.le_of_ble_eq_true rfl) (fun I1 hC1 hF1 => ?_)
  have hM1 : MA I1 ((T, L), H, B) := MA_far hMA hF1
  refine px_istore dL_law_1387 (Nat.le_of_ble_eq_true rfl) ?_
  refine px_aload_n dL_law_1389 rfl ?_
  refine px_aloadS_n dL_law_1390 rfl ?_
  refine px_iload dL_law_1391 rfl ?_
  refine px_iconst (v := nI 1) dL_law_1393 (by decide) ?_
  refine px_iaddN dL_law_1394 ?_
  refine px_sld (j := i + 1) dL_law_1395 (by omega) hL ?_
  refine px_aloadS_n dL_law_1396 rfl ?_
  refine px_iload dL_law_1397 rfl ?_
  refine px_iconst (v := nI 2) dL_law_1399 (by decide) ?_
  refine px_iaddN dL_law_1400 ?_
  refine px_sld (j := i + 2) dL_law_1401 (by omega) hL ?_
  refine c_X10_port dL_law_1402 mlL_180 (by omega) hM1 hw hn (Nat.le_of_ble_eq_true rfl) ?_
  intro I2 b hM2 hF2 h0 hb
  have hC2 := CA_far hC1 hF2
  have hw2 : wx (n + 1) (po_port ((T, L), H, B) (xs (i + 1)) (xs (i + 2))).2.2 := wx_port hw
  have hc3 : (po_port ((T, L), H, B) (xs (i + 1)) (xs (i + 2))).1 ≤ 3 := Nat.le_trans pc_port (by decide)
  generalize (po_port ((T, L), H, B) (xs (i + 1)) (xs (i + 2))) = r at hc3 hC2 hM2 hw2 h0 hb ⊢
  show pv_X _ E d _ _ _ _ _ _ _ _ _ _
  refine px_istore dL_law_1405 (Nat.le_of_ble_eq_true rfl) ?_
  refine px_aload_n dL_law_1407 rfl ?_
  refine c_X10_thrown dL_law_1408 mlL_113 (by omega) (Nat.le_of_ble_eq_true rfl) ?_
  refine px_iv (y := nI r.1) h0 ?_
  refine px_iload dL_law_1411 rfl ?_
  refine px_icmp_eq (tgt := 1418) dL_law_1413 (by decide) (fun _ => ?_) (fun h => absurd rfl h)
  refine px_iload dL_law_1418 rfl ?_
  have fin : ∀ l5 : pv_LV, pv_X (zL E SL xs) E d bc bs (mL_law nm hh) 1435 ([(0, .retAddr 0), (1, .ref 0), (2, .ref 365), (3, .ref 373), (4, .int (nI i)), (5, .int (nI r.1)), (6, .int b)] : pv_LV) [] pv_K0 pv_P0 I2 (lw_J J r) := fun _ => by
    refine px_goto (tgt := 2081) dL_law_1435 (by decide) ?_
    refine px_keep [0, 1, 2, 3, 4] ?_
    exact K I2 (lw_J J r) r.2.2 hC2 hM2 hw2
  refine px_if_ne (tgt := 1435) dL_law_1420 (by decide) (fun h5 => ?_) (fun h5 => ?_)
  · exact fin []
  · refine px_aload_n dL_law_1423 rfl ?_
    refine px_iconst (v := nI 0) dL_law_1424 (by decide) ?_
    refine px_laldL (j := 0) dL_law_1425 pv_s_out rfl (by decide) (by decide) pv_k_out ?_
    refine px_iload dL_law_1426 rfl ?_
    refine px_i2l dL_law_1428 ?_
    refine px_lcmp dL_law_1429 ?_
    refine px_if_eq (tgt := 1435) dL_law_1430 (by decide) (fun _ => ?_) (fun h => absurd ?_ h)
    · exact fin []
    · have hc : r.1 = 0 := lw_code0 h5 hc3
      rw [hb hc, show lw_J J r = pv_uJ J 373 0 r.2.1.toInt64 from if_pos hc, pv_uJ_self]
      exact lw_cmp0 _
set_option maxRecDepth 100000 in
set_option maxHeartbeats 4000000 in
theorem lw_case21 {E : pv_E} {SL i n d bc bs : Nat} {xs : Nat → Int32} {nm : String} {hh : List (Nat × Nat × Nat × Nat)} {I : pv_IT} {J : pv_JT} {T : pv_T} {L : List pv_Lot} {H : List pv_S} {B : List Nat} (hD : 11 ≤ d) (hL : SL ≤ 2048) (hi : i + 4 ≤ SL) (hCA : CA I ((T, L), H, B)) (hMA : MA I ((T, L), H, B)) (hw : wx n ((T, L), H, B)) (hn : n ≤ 600) (K : ∀ (I' : pv_IT) (J' : pv_JT) (X' : pv_XS), CA I' X' → MA I' X' → wx (n + 1) X' → pv_X (zL E SL xs) E d bc bs (mL_law nm hh) 2081 [(0, .retAddr 0), (1, .ref 0), (2, .ref 365), (3, .ref 373), (4, .int (nI i))] [] pv_K0 pv_P0 I' J') : pv_X (zL E SL xs) E d (6 + bc) (36 + bs) (mL_law nm hh) 1438 [(0, .retAddr 0), (1, .ref 0), (2, .ref 365), (3, .ref 373), (4, .int (nI i))] [] pv_K0 pv_P0 I J := by
  refine px_aload_n dL_law_1438 rfl ?_
  refine px_aloadS_n dL_law_1439 rfl ?_
  refine px_iload dL_law_1440 rfl ?_
  refine px_iconst (v := nI 1) dL_law_1442 (by decide) ?_
  refine px_iaddN dL_law_1443 ?_
  refine px_sld (j := i + 1) dL_law_1444 (by omega) hL ?_
  refine px_aloadS_n dL_law_1445 rfl ?_
  refine px_iload dL_law_1446 rfl ?_
  refine px_iconst (v := nI 2) dL_law_1448 (by decide) ?_
  refine px_iaddN dL_law_1449 ?_
  refine px_sld (j := i + 2) dL_law_1450 (by omega) hL ?_
  refine px_aloadS_n dL_law_1451 rfl ?_
  refine px_iload dL_law_1452 rfl ?_
  refine px_iconst (v := nI 3) dL_law_1454 (by decide) ?_
  refine px_iaddN dL_law_1455 ?_
  refine px_sld (j := i + 3) dL_law_1456 (by omega) hL ?_
  refine px_aload_n dL_law_1457 rfl ?_
  refine c_L_menu dL_law_1458 mlL_181 (by omega) hCA hw hn (Nat.le_of_ble_eq_true rfl) (fun I1 hC1 hF1 => ?_)
  have hM1 : MA I1 ((T, L), H, B) := MA_far hMA hF1
  refine px_istore dL_law_1461 (Nat.le_of_ble_eq_true rfl) ?_
  refine px_aload_n dL_law_1463 rfl ?_
  refine px_aloadS_n dL_law_1464 rfl ?_
  refine px_iload dL_law_1465 rfl ?_
  refine px_iconst (v := nI 1) dL_law_1467 (by decide) ?_
  refine px_iaddN dL_law_1468 ?_
  refine px_sld (j := i + 1) dL_law_1469 (by omega) hL ?_
  refine px_aloadS_n dL_law_1470 rfl ?_
  refine px_iload dL_law_1471 rfl ?_
  refine px_iconst (v := nI 2) dL_law_1473 (by decide) ?_
  refine px_iaddN dL_law_1474 ?_
  refine px_sld (j := i + 2) dL_law_1475 (by omega) hL ?_
  refine px_aloadS_n dL_law_1476 rfl ?_
  refine px_iload dL_law_1477 rfl ?_
  refine px_iconst (v := nI 3) dL_law_1479 (by decide) ?_
  refine px_iaddN dL_law_1480 ?_
  refine px_sld (j := i + 3) dL_law_1481 (by omega) hL ?_
  refine c_X10_menu dL_law_1482 mlL_183 (by omega) hM1 hw hn (Nat.le_of_ble_eq_true rfl) ?_
  intro I2 b hM2 hF2 h0 hb
  have hC2 := CA_far hC1 hF2
  have hw2 : wx (n + 1) (po_menu ((T, L), H, B) (xs (i + 1)) (xs (i + 2)) (xs (i + 3))).2.2 := wx_menu hw
  have hc3 : (po_menu ((T, L), H, B) (xs (i + 1)) (xs (i + 2)) (xs (i + 3))).1 ≤ 3 := Nat.le_trans pc_menu (by decide)
  generalize (po_menu ((T, L), H, B) (xs (i + 1)) (xs (i + 2)) (xs (i + 3))) = r at hc3 hC2 hM2 hw2 h0 hb ⊢
  show pv_X _ E d _ _ _ _ _ _ _ _ _ _
  refine px_istore dL_law_1485 (Nat.le_of_ble_eq_true rfl) ?_
  refine px_aload_n dL_law_1487 rfl ?_
  refine c_X10_thrown dL_law_1488 mlL_113 (by omega) (Nat.le_of_ble_eq_true rfl) ?_
  refine px_iv (y := nI r.1) h0 ?_
  refine px_iload dL_law_1491 rfl ?_
  refine px_icmp_eq (tgt := 1498) dL_law_1493 (by decide) (fun _ => ?_) (fun h => absurd rfl h)
  refine px_iload dL_law_1498 rfl ?_
  have fin : ∀ l5 : pv_LV, pv_X (zL E SL xs) E d bc bs (mL_law nm hh) 1515 ([(0, .retAddr 0), (1, .ref 0), (2, .ref 365), (3, .ref 373), (4, .int (nI i)), (5, .int (nI r.1)), (6, .int b)] : pv_LV) [] pv_K0 pv_P0 I2 (lw_J J r) := fun _ => by
    refine px_goto (tgt := 2081) dL_law_1515 (by decide) ?_
    refine px_keep [0, 1, 2, 3, 4] ?_
    exact K I2 (lw_J J r) r.2.2 hC2 hM2 hw2
  refine px_if_ne (tgt := 1515) dL_law_1500 (by decide) (fun h5 => ?_) (fun h5 => ?_)
  · exact fin []
  · refine px_aload_n dL_law_1503 rfl ?_
    refine px_iconst (v := nI 0) dL_law_1504 (by decide) ?_
    refine px_laldL (j := 0) dL_law_1505 pv_s_out rfl (by decide) (by decide) pv_k_out ?_
    refine px_iload dL_law_1506 rfl ?_
    refine px_i2l dL_law_1508 ?_
    refine px_lcmp dL_law_1509 ?_
    refine px_if_eq (tgt := 1515) dL_law_1510 (by decide) (fun _ => ?_) (fun h => absurd ?_ h)
    · exact fin []
    · have hc : r.1 = 0 := lw_code0 h5 hc3
      rw [hb hc, show lw_J J r = pv_uJ J 373 0 r.2.1.toInt64 from if_pos hc, pv_uJ_self]
      exact lw_cmp0 _
set_option maxRecDepth 100000 in
set_option maxHeartbeats 4000000 in
theorem lw_case22 {E : pv_E} {SL i n d bc bs : Nat} {xs : Nat → Int32} {nm : String} {hh : List (Nat × Nat × Nat × Nat)} {I : pv_IT} {J : pv_JT} {T : pv_T} {L : List pv_Lot} {H : List pv_S} {B : List Nat} (hD : 11 ≤ d) (hL : SL ≤ 2048) (hi : i + 4 ≤ SL) (hCA : CA I ((T, L), H, B)) (hMA : MA I ((T, L), H, B)) (hw : wx n ((T, L), H, B)) (hn : n ≤ 600) (K : ∀ (I' : pv_IT) (J' : pv_JT) (X' : pv_XS), CA I' X' → MA I' X' → wx (n + 1) X' → pv_X (zL E SL xs) E d bc bs (mL_law nm hh) 2081 [(0, .retAddr 0), (1, .ref 0), (2, .ref 365), (3, .ref 373), (4, .int (nI i))] [] pv_K0 pv_P0 I' J') : pv_X (zL E SL xs) E d (6 + bc) (36 + bs) (mL_law nm hh) 1518 [(0, .retAddr 0), (1, .ref 0), (2, .ref 365), (3, .ref 373), (4, .int (nI i))] [] pv_K0 pv_P0 I J := by
  refine px_aload_n dL_law_1518 rfl ?_
  refine px_aloadS_n dL_law_1519 rfl ?_
  refine px_iload dL_law_1520 rfl ?_
  refine px_iconst (v := nI 1) dL_law_1522 (by decide) ?_
  refine px_iaddN dL_law_1523 ?_
  refine px_sld (j := i + 1) dL_law_1524 (by omega) hL ?_
  refine px_aload_n dL_law_1525 rfl ?_
  refine c_L_count dL_law_1526 mlL_184 (by omega) hCA hw hn (Nat.le_of_ble_eq_true rfl) (fun I1 hC1 hF1 => ?_)
  have hM1 : MA I1 ((T, L), H, B) := MA_far hMA hF1
  refine px_istore dL_law_1529 (Nat.le_of_ble_eq_true rfl) ?_
  refine px_aload_n dL_law_1531 rfl ?_
  refine px_aloadS_n dL_law_1532 rfl ?_
  refine px_iload dL_law_1533 rfl ?_
  refine px_iconst (v := nI 1) dL_law_1535 (by decide) ?_
  refine px_iaddN dL_law_1536 ?_
  refine px_sld (j := i + 1) dL_law_1537 (by omega) hL ?_
  refine c_X10_count dL_law_1538 mlL_186 (by omega) hM1 hw hn (Nat.le_of_ble_eq_true rfl) ?_
  intro I2 b hM2 hF2 h0 hb
  have hC2 := CA_far hC1 hF2
  have hw2 : wx (n + 1) (po_count ((T, L), H, B) (xs (i + 1))).2.2 := wx_count hw
  have hc3 : (po_count ((T, L), H, B) (xs (i + 1))).1 ≤ 3 := Nat.le_trans pc_count (by decide)
  generalize (po_count ((T, L), H, B) (xs (i + 1))) = r at hc3 hC2 hM2 hw2 h0 hb ⊢
  show pv_X _ E d _ _ _ _ _ _ _ _ _ _
  refine px_istore dL_law_1541 (Nat.le_of_ble_eq_true rfl) ?_
  refine px_aload_n dL_law_1543 rfl ?_
  refine c_X10_thrown dL_law_1544 mlL_113 (by omega) (Nat.le_of_ble_eq_true rfl) ?_
  refine px_iv (y := nI r.1) h0 ?_
  refine px_iload dL_law_1547 rfl ?_
  refine px_icmp_eq (tgt := 1554) dL_law_1549 (by decide) (fun _ => ?_) (fun h => absurd rfl h)
  refine px_iload dL_law_1554 rfl ?_
  have fin : ∀ l5 : pv_LV, pv_X (zL E SL xs) E d bc bs (mL_law nm hh) 1571 ([(0, .retAddr 0), (1, .ref 0), (2, .ref 365), (3, .ref 373), (4, .int (nI i)), (5, .int (nI r.1)), (6, .int b)] : pv_LV) [] pv_K0 pv_P0 I2 (lw_J J r) := fun _ => by
    refine px_goto (tgt := 2081) dL_law_1571 (by decide) ?_
    refine px_keep [0, 1, 2, 3, 4] ?_
    exact K I2 (lw_J J r) r.2.2 hC2 hM2 hw2
  refine px_if_ne (tgt := 1571) dL_law_1556 (by decide) (fun h5 => ?_) (fun h5 => ?_)
  · exact fin []
  · refine px_aload_n dL_law_1559 rfl ?_
    refine px_iconst (v := nI 0) dL_law_1560 (by decide) ?_
    refine px_laldL (j := 0) dL_law_1561 pv_s_out rfl (by decide) (by decide) pv_k_out ?_
    refine px_iload dL_law_1562 rfl ?_
    refine px_i2l dL_law_1564 ?_
    refine px_lcmp dL_law_1565 ?_
    refine px_if_eq (tgt := 1571) dL_law_1566 (by decide) (fun _ => ?_) (fun h => absurd ?_ h)
    · exact fin []
    · have hc : r.1 = 0 := lw_code0 h5 hc3
      rw [hb hc, show lw_J J r = pv_uJ J 373 0 r.2.1.toInt64 from if_pos hc, pv_uJ_self]
      exact lw_cmp0 _
set_option maxRecDepth 100000 in
set_option maxHeartbeats 4000000 in
theorem lw_case23 {E : pv_E} {SL i n d bc bs : Nat} {xs : Nat → Int32} {nm : String} {hh : List (Nat × Nat × Nat × Nat)} {I : pv_IT} {J : pv_JT} {T : pv_T} {L : List pv_Lot} {H : List pv_S} {B : List Nat} (hD : 11 ≤ d) (hL : SL ≤ 2048) (hi : i + 4 ≤ SL) (hCA : CA I ((T, L), H, B)) (hMA : MA I ((T, L), H, B)) (hw : wx n ((T, L), H, B)) (hn : n ≤ 600) (K : ∀ (I' : pv_IT) (J' : pv_JT) (X' : pv_XS), CA I' X' → MA I' X' → wx (n + 1) X' → pv_X (zL E SL xs) E d bc bs (mL_law nm hh) 2081 [(0, .retAddr 0), (1, .ref 0), (2, .ref 365), (3, .ref 373), (4, .int (nI i))] [] pv_K0 pv_P0 I' J') : pv_X (zL E SL xs) E d (6 + bc) (36 + bs) (mL_law nm hh) 1574 [(0, .retAddr 0), (1, .ref 0), (2, .ref 365), (3, .ref 373), (4, .int (nI i))] [] pv_K0 pv_P0 I J := by
  refine px_aload_n dL_law_1574 rfl ?_
  refine px_aloadS_n dL_law_1575 rfl ?_
  refine px_iload dL_law_1576 rfl ?_
  refine px_iconst (v := nI 1) dL_law_1578 (by decide) ?_
  refine px_iaddN dL_law_1579 ?_
  refine px_sld (j := i + 1) dL_law_1580 (by omega) hL ?_
  refine px_aloadS_n dL_law_1581 rfl ?_
  refine px_iload dL_law_1582 rfl ?_
  refine px_iconst (v := nI 2) dL_law_1584 (by decide) ?_
  refine px_iaddN dL_law_1585 ?_
  refine px_sld (j := i + 2) dL_law_1586 (by omega) hL ?_
  refine px_aloadS_n dL_law_1587 rfl ?_
  refine px_iload dL_law_1588 rfl ?_
  refine px_iconst (v := nI 3) dL_law_1590 (by decide) ?_
  refine px_iaddN dL_law_1591 ?_
  refine px_sld (j := i + 3) dL_law_1592 (by omega) hL ?_
  refine px_aload_n dL_law_1593 rfl ?_
  refine c_L_why dL_law_1594 mlL_187 (by omega) hCA hw hn (Nat.le_of_ble_eq_true rfl) (fun I1 hC1 hF1 => ?_)
  have hM1 : MA I1 ((T, L), H, B) := MA_far hMA hF1
  refine px_istore dL_law_1597 (Nat.le_of_ble_eq_true rfl) ?_
  refine px_aload_n dL_law_1599 rfl ?_
  refine px_aloadS_n dL_law_1600 rfl ?_
  refine px_iload dL_law_1601 rfl ?_
  refine px_iconst (v := nI 1) dL_law_1603 (by decide) ?_
  refine px_iaddN dL_law_1604 ?_
  refine px_sld (j := i + 1) dL_law_1605 (by omega) hL ?_
  refine px_aloadS_n dL_law_1606 rfl ?_
  refine px_iload dL_law_1607 rfl ?_
  refine px_iconst (v := nI 2) dL_law_1609 (by decide) ?_
  refine px_iaddN dL_law_1610 ?_
  refine px_sld (j := i + 2) dL_law_1611 (by omega) hL ?_
  refine px_aloadS_n dL_law_1612 rfl ?_
  refine px_iload dL_law_1613 rfl ?_
  refine px_iconst (v := nI 3) dL_law_1615 (by decide) ?_
  refine px_iaddN dL_law_1616 ?_
  refine px_sld (j := i + 3) dL_law_1617 (by omega) hL ?_
  refine c_X10_why dL_law_1618 mlL_189 (by omega) hM1 hw hn (Nat.le_of_ble_eq_true rfl) ?_
  intro I2 b hM2 hF2 h0 hb
  have hC2 := CA_far hC1 hF2
  have hw2 : wx (n + 1) (po_why ((T, L), H, B) (xs (i + 1)) (xs (i + 2)) (xs (i + 3))).2.2 := wx_why hw
  have hc3 : (po_why ((T, L), H, B) (xs (i + 1)) (xs (i + 2)) (xs (i + 3))).1 ≤ 3 := Nat.le_trans pc_why (by decide)
  generalize (po_why ((T, L), H, B) (xs (i + 1)) (xs (i + 2)) (xs (i + 3))) = r at hc3 hC2 hM2 hw2 h0 hb ⊢
  show pv_X _ E d _ _ _ _ _ _ _ _ _ _
  refine px_istore dL_law_1621 (Nat.le_of_ble_eq_true rfl) ?_
  refine px_aload_n dL_law_1623 rfl ?_
  refine c_X10_thrown dL_law_1624 mlL_113 (by omega) (Nat.le_of_ble_eq_true rfl) ?_
  refine px_iv (y := nI r.1) h0 ?_
  refine px_iload dL_law_1627 rfl ?_
  refine px_icmp_eq (tgt := 1634) dL_law_1629 (by decide) (fun _ => ?_) (fun h => absurd rfl h)
  refine px_iload dL_law_1634 rfl ?_
  have fin : ∀ l5 : pv_LV, pv_X (zL E SL xs) E d bc bs (mL_law nm hh) 1651 ([(0, .retAddr 0), (1, .ref 0), (2, .ref 365), (3, .ref 373), (4, .int (nI i)), (5, .int (nI r.1)), (6, .int b)] : pv_LV) [] pv_K0 pv_P0 I2 (lw_J J r) := fun _ => by
    refine px_goto (tgt := 2081) dL_law_1651 (by decide) ?_
    refine px_keep [0, 1, 2, 3, 4] ?_
    exact K I2 (lw_J J r) r.2.2 hC2 hM2 hw2
  refine px_if_ne (tgt := 1651) dL_law_1636 (by decide) (fun h5 => ?_) (fun h5 => ?_)
  · exact fin []
  · refine px_aload_n dL_law_1639 rfl ?_
    refine px_iconst (v := nI 0) dL_law_1640 (by decide) ?_
    refine px_laldL (j := 0) dL_law_1641 pv_s_out rfl (by decide) (by decide) pv_k_out ?_
    refine px_iload dL_law_1642 rfl ?_
    refine px_i2l dL_law_1644 ?_
    refine px_lcmp dL_law_1645 ?_
    refine px_if_eq (tgt := 1651) dL_law_1646 (by decide) (fun _ => ?_) (fun h => absurd ?_ h)
    · exact fin []
    · have hc : r.1 = 0 := lw_code0 h5 hc3
      rw [hb hc, show lw_J J r = pv_uJ J 373 0 r.2.1.toInt64 from if_pos hc, pv_uJ_self]
      exact lw_cmp0 _
set_option maxRecDepth 100000 in
set_option maxHeartbeats 4000000 in
theorem lw_case24 {E : pv_E} {SL i n d bc bs : Nat} {xs : Nat → Int32} {nm : String} {hh : List (Nat × Nat × Nat × Nat)} {I : pv_IT} {J : pv_JT} {T : pv_T} {L : List pv_Lot} {H : List pv_S} {B : List Nat} (hD : 11 ≤ d) (hL : SL ≤ 2048) (hi : i + 4 ≤ SL) (hCA : CA I ((T, L), H, B)) (hMA : MA I ((T, L), H, B)) (hw : wx n ((T, L), H, B)) (hn : n ≤ 600) (K : ∀ (I' : pv_IT) (J' : pv_JT) (X' : pv_XS), CA I' X' → MA I' X' → wx (n + 1) X' → pv_X (zL E SL xs) E d bc bs (mL_law nm hh) 2081 [(0, .retAddr 0), (1, .ref 0), (2, .ref 365), (3, .ref 373), (4, .int (nI i))] [] pv_K0 pv_P0 I' J') : pv_X (zL E SL xs) E d (6 + bc) (36 + bs) (mL_law nm hh) 1654 [(0, .retAddr 0), (1, .ref 0), (2, .ref 365), (3, .ref 373), (4, .int (nI i))] [] pv_K0 pv_P0 I J := by
  refine px_aload_n dL_law_1654 rfl ?_
  refine px_aloadS_n dL_law_1655 rfl ?_
  refine px_iload dL_law_1656 rfl ?_
  refine px_iconst (v := nI 1) dL_law_1658 (by decide) ?_
  refine px_iaddN dL_law_1659 ?_
  refine px_sld (j := i + 1) dL_law_1660 (by omega) hL ?_
  refine px_aloadS_n dL_law_1661 rfl ?_
  refine px_iload dL_law_1662 rfl ?_
  refine px_iconst (v := nI 2) dL_law_1664 (by decide) ?_
  refine px_iaddN dL_law_1665 ?_
  refine px_sld (j := i + 2) dL_law_1666 (by omega) hL ?_
  refine px_aload_n dL_law_1667 rfl ?_
  refine c_L_ifPass dL_law_1668 mlL_190 (by omega) hCA hw hn (Nat.le_of_ble_eq_true rfl) (fun I1 hC1 hF1 => ?_)
  have hM1 : MA I1 ((T, L), H, B) := MA_far hMA hF1
  refine px_istore dL_law_1671 (Nat.le_of_ble_eq_true rfl) ?_
  refine px_aload_n dL_law_1673 rfl ?_
  refine px_aloadS_n dL_law_1674 rfl ?_
  refine px_iload dL_law_1675 rfl ?_
  refine px_iconst (v := nI 1) dL_law_1677 (by decide) ?_
  refine px_iaddN dL_law_1678 ?_
  refine px_sld (j := i + 1) dL_law_1679 (by omega) hL ?_
  refine px_aloadS_n dL_law_1680 rfl ?_
  refine px_iload dL_law_1681 rfl ?_
  refine px_iconst (v := nI 2) dL_law_1683 (by decide) ?_
  refine px_iaddN dL_law_1684 ?_
  refine px_sld (j := i + 2) dL_law_1685 (by omega) hL ?_
  refine c_X10_ifPass dL_law_1686 mlL_192 (by omega) hM1 hw hn (Nat.le_of_ble_eq_true rfl) ?_
  intro I2 b hM2 hF2 h0 hb
  have hC2 := CA_far hC1 hF2
  have hw2 : wx (n + 1) (po_ifPass ((T, L), H, B) (xs (i + 1)) (xs (i + 2))).2.2 := wx_ifPass hw
  have hc3 : (po_ifPass ((T, L), H, B) (xs (i + 1)) (xs (i + 2))).1 ≤ 3 := Nat.le_trans pc_ifPass (by decide)
  generalize (po_ifPass ((T, L), H, B) (xs (i + 1)) (xs (i + 2))) = r at hc3 hC2 hM2 hw2 h0 hb ⊢
  show pv_X _ E d _ _ _ _ _ _ _ _ _ _
  refine px_istore dL_law_1689 (Nat.le_of_ble_eq_true rfl) ?_
  refine px_aload_n dL_law_1691 rfl ?_
  refine c_X10_thrown dL_law_1692 mlL_113 (by omega) (Nat.le_of_ble_eq_true rfl) ?_
  refine px_iv (y := nI r.1) h0 ?_
  refine px_iload dL_law_1695 rfl ?_
  refine px_icmp_eq (tgt := 1702) dL_law_1697 (by decide) (fun _ => ?_) (fun h => absurd rfl h)
  refine px_iload dL_law_1702 rfl ?_
  have fin : ∀ l5 : pv_LV, pv_X (zL E SL xs) E d bc bs (mL_law nm hh) 1719 ([(0, .retAddr 0), (1, .ref 0), (2, .ref 365), (3, .ref 373), (4, .int (nI i)), (5, .int (nI r.1)), (6, .int b)] : pv_LV) [] pv_K0 pv_P0 I2 (lw_J J r) := fun _ => by
    refine px_goto (tgt := 2081) dL_law_1719 (by decide) ?_
    refine px_keep [0, 1, 2, 3, 4] ?_
    exact K I2 (lw_J J r) r.2.2 hC2 hM2 hw2
  refine px_if_ne (tgt := 1719) dL_law_1704 (by decide) (fun h5 => ?_) (fun h5 => ?_)
  · exact fin []
  · refine px_aload_n dL_law_1707 rfl ?_
    refine px_iconst (v := nI 0) dL_law_1708 (by decide) ?_
    refine px_laldL (j := 0) dL_law_1709 pv_s_out rfl (by decide) (by decide) pv_k_out ?_
    refine px_iload dL_law_1710 rfl ?_
    refine px_i2l dL_law_1712 ?_
    refine px_lcmp dL_law_1713 ?_
    refine px_if_eq (tgt := 1719) dL_law_1714 (by decide) (fun _ => ?_) (fun h => absurd ?_ h)
    · exact fin []
    · have hc : r.1 = 0 := lw_code0 h5 hc3
      rw [hb hc, show lw_J J r = pv_uJ J 373 0 r.2.1.toInt64 from if_pos hc, pv_uJ_self]
      exact lw_cmp0 _
set_option maxRecDepth 100000 in
set_option maxHeartbeats 4000000 in
theorem lw_case25 {E : pv_E} {SL i n d bc bs : Nat} {xs : Nat → Int32} {nm : String} {hh : List (Nat × Nat × Nat × Nat)} {I : pv_IT} {J : pv_JT} {T : pv_T} {L : List pv_Lot} {H : List pv_S} {B : List Nat} (hD : 11 ≤ d) (hL : SL ≤ 2048) (hi : i + 4 ≤ SL) (hCA : CA I ((T, L), H, B)) (hMA : MA I ((T, L), H, B)) (hw : wx n ((T, L), H, B)) (hn : n ≤ 600) (K : ∀ (I' : pv_IT) (J' : pv_JT) (X' : pv_XS), CA I' X' → MA I' X' → wx (n + 1) X' → pv_X (zL E SL xs) E d bc bs (mL_law nm hh) 2081 [(0, .retAddr 0), (1, .ref 0), (2, .ref 365), (3, .ref 373), (4, .int (nI i))] [] pv_K0 pv_P0 I' J') : pv_X (zL E SL xs) E d (6 + bc) (36 + bs) (mL_law nm hh) 1722 [(0, .retAddr 0), (1, .ref 0), (2, .ref 365), (3, .ref 373), (4, .int (nI i))] [] pv_K0 pv_P0 I J := by
  refine px_aload_n dL_law_1722 rfl ?_
  refine px_aloadS_n dL_law_1723 rfl ?_
  refine px_iload dL_law_1724 rfl ?_
  refine px_iconst (v := nI 1) dL_law_1726 (by decide) ?_
  refine px_iaddN dL_law_1727 ?_
  refine px_sld (j := i + 1) dL_law_1728 (by omega) hL ?_
  refine px_aloadS_n dL_law_1729 rfl ?_
  refine px_iload dL_law_1730 rfl ?_
  refine px_iconst (v := nI 2) dL_law_1732 (by decide) ?_
  refine px_iaddN dL_law_1733 ?_
  refine px_sld (j := i + 2) dL_law_1734 (by omega) hL ?_
  refine px_aload_n dL_law_1735 rfl ?_
  refine c_L_spoils dL_law_1736 mlL_193 (by omega) hCA hw hn (Nat.le_of_ble_eq_true rfl) (fun I1 hC1 hF1 => ?_)
  have hM1 : MA I1 ((T, L), H, B) := MA_far hMA hF1
  refine px_istore dL_law_1739 (Nat.le_of_ble_eq_true rfl) ?_
  refine px_aload_n dL_law_1741 rfl ?_
  refine px_aloadS_n dL_law_1742 rfl ?_
  refine px_iload dL_law_1743 rfl ?_
  refine px_iconst (v := nI 1) dL_law_1745 (by decide) ?_
  refine px_iaddN dL_law_1746 ?_
  refine px_sld (j := i + 1) dL_law_1747 (by omega) hL ?_
  refine px_aloadS_n dL_law_1748 rfl ?_
  refine px_iload dL_law_1749 rfl ?_
  refine px_iconst (v := nI 2) dL_law_1751 (by decide) ?_
  refine px_iaddN dL_law_1752 ?_
  refine px_sld (j := i + 2) dL_law_1753 (by omega) hL ?_
  refine c_X10_spoils dL_law_1754 mlL_195 (by omega) hM1 hw hn (Nat.le_of_ble_eq_true rfl) ?_
  intro I2 b hM2 hF2 h0 hb
  have hC2 := CA_far hC1 hF2
  have hw2 : wx (n + 1) (po_spoils ((T, L), H, B) (xs (i + 1)) (xs (i + 2))).2.2 := wx_spoils hw
  have hc3 : (po_spoils ((T, L), H, B) (xs (i + 1)) (xs (i + 2))).1 ≤ 3 := Nat.le_trans pc_spoils (by decide)
  generalize (po_spoils ((T, L), H, B) (xs (i + 1)) (xs (i + 2))) = r at hc3 hC2 hM2 hw2 h0 hb ⊢
  show pv_X _ E d _ _ _ _ _ _ _ _ _ _
  refine px_istore dL_law_1757 (Nat.le_of_ble_eq_true rfl) ?_
  refine px_aload_n dL_law_1759 rfl ?_
  refine c_X10_thrown dL_law_1760 mlL_113 (by omega) (Nat.le_of_ble_eq_true rfl) ?_
  refine px_iv (y := nI r.1) h0 ?_
  refine px_iload dL_law_1763 rfl ?_
  refine px_icmp_eq (tgt := 1770) dL_law_1765 (by decide) (fun _ => ?_) (fun h => absurd rfl h)
  refine px_iload dL_law_1770 rfl ?_
  have fin : ∀ l5 : pv_LV, pv_X (zL E SL xs) E d bc bs (mL_law nm hh) 1787 ([(0, .retAddr 0), (1, .ref 0), (2, .ref 365), (3, .ref 373), (4, .int (nI i)), (5, .int (nI r.1)), (6, .int b)] : pv_LV) [] pv_K0 pv_P0 I2 (lw_J J r) := fun _ => by
    refine px_goto (tgt := 2081) dL_law_1787 (by decide) ?_
    refine px_keep [0, 1, 2, 3, 4] ?_
    exact K I2 (lw_J J r) r.2.2 hC2 hM2 hw2
  refine px_if_ne (tgt := 1787) dL_law_1772 (by decide) (fun h5 => ?_) (fun h5 => ?_)
  · exact fin []
  · refine px_aload_n dL_law_1775 rfl ?_
    refine px_iconst (v := nI 0) dL_law_1776 (by decide) ?_
    refine px_laldL (j := 0) dL_law_1777 pv_s_out rfl (by decide) (by decide) pv_k_out ?_
    refine px_iload dL_law_1778 rfl ?_
    refine px_i2l dL_law_1780 ?_
    refine px_lcmp dL_law_1781 ?_
    refine px_if_eq (tgt := 1787) dL_law_1782 (by decide) (fun _ => ?_) (fun h => absurd ?_ h)
    · exact fin []
    · have hc : r.1 = 0 := lw_code0 h5 hc3
      rw [hb hc, show lw_J J r = pv_uJ J 373 0 r.2.1.toInt64 from if_pos hc, pv_uJ_self]
      exact lw_cmp0 _
set_option maxRecDepth 100000 in
set_option maxHeartbeats 4000000 in
theorem lw_case26 {E : pv_E} {SL i n d bc bs : Nat} {xs : Nat → Int32} {nm : String} {hh : List (Nat × Nat × Nat × Nat)} {I : pv_IT} {J : pv_JT} {T : pv_T} {L : List pv_Lot} {H : List pv_S} {B : List Nat} (hD : 11 ≤ d) (hL : SL ≤ 2048) (hi : i + 4 ≤ SL) (hCA : CA I ((T, L), H, B)) (hMA : MA I ((T, L), H, B)) (hw : wx n ((T, L), H, B)) (hn : n ≤ 600) (K : ∀ (I' : pv_IT) (J' : pv_JT) (X' : pv_XS), CA I' X' → MA I' X' → wx (n + 1) X' → pv_X (zL E SL xs) E d bc bs (mL_law nm hh) 2081 [(0, .retAddr 0), (1, .ref 0), (2, .ref 365), (3, .ref 373), (4, .int (nI i))] [] pv_K0 pv_P0 I' J') : pv_X (zL E SL xs) E d (6 + bc) (36 + bs) (mL_law nm hh) 1790 [(0, .retAddr 0), (1, .ref 0), (2, .ref 365), (3, .ref 373), (4, .int (nI i))] [] pv_K0 pv_P0 I J := by
  refine px_aload_n dL_law_1790 rfl ?_
  refine px_aloadS_n dL_law_1791 rfl ?_
  refine px_iload dL_law_1792 rfl ?_
  refine px_iconst (v := nI 1) dL_law_1794 (by decide) ?_
  refine px_iaddN dL_law_1795 ?_
  refine px_sld (j := i + 1) dL_law_1796 (by omega) hL ?_
  refine px_aload_n dL_law_1797 rfl ?_
  refine c_L_shortIn dL_law_1798 mlL_196 (by omega) hCA hw hn (Nat.le_of_ble_eq_true rfl) (fun I1 hC1 hF1 => ?_)
  have hM1 : MA I1 ((T, L), H, B) := MA_far hMA hF1
  refine px_istore dL_law_1801 (Nat.le_of_ble_eq_true rfl) ?_
  refine px_aload_n dL_law_1803 rfl ?_
  refine px_aloadS_n dL_law_1804 rfl ?_
  refine px_iload dL_law_1805 rfl ?_
  refine px_iconst (v := nI 1) dL_law_1807 (by decide) ?_
  refine px_iaddN dL_law_1808 ?_
  refine px_sld (j := i + 1) dL_law_1809 (by omega) hL ?_
  refine c_X10_shortIn dL_law_1810 mlL_198 (by omega) hM1 hw hn (Nat.le_of_ble_eq_true rfl) ?_
  intro I2 b hM2 hF2 h0 hb
  have hC2 := CA_far hC1 hF2
  have hw2 : wx (n + 1) (po_shortIn ((T, L), H, B) (xs (i + 1))).2.2 := wx_shortIn hw
  have hc3 : (po_shortIn ((T, L), H, B) (xs (i + 1))).1 ≤ 3 := Nat.le_trans pc_shortIn (by decide)
  generalize (po_shortIn ((T, L), H, B) (xs (i + 1))) = r at hc3 hC2 hM2 hw2 h0 hb ⊢
  show pv_X _ E d _ _ _ _ _ _ _ _ _ _
  refine px_istore dL_law_1813 (Nat.le_of_ble_eq_true rfl) ?_
  refine px_aload_n dL_law_1815 rfl ?_
  refine c_X10_thrown dL_law_1816 mlL_113 (by omega) (Nat.le_of_ble_eq_true rfl) ?_
  refine px_iv (y := nI r.1) h0 ?_
  refine px_iload dL_law_1819 rfl ?_
  refine px_icmp_eq (tgt := 1826) dL_law_1821 (by decide) (fun _ => ?_) (fun h => absurd rfl h)
  refine px_iload dL_law_1826 rfl ?_
  have fin : ∀ l5 : pv_LV, pv_X (zL E SL xs) E d bc bs (mL_law nm hh) 1843 ([(0, .retAddr 0), (1, .ref 0), (2, .ref 365), (3, .ref 373), (4, .int (nI i)), (5, .int (nI r.1)), (6, .int b)] : pv_LV) [] pv_K0 pv_P0 I2 (lw_J J r) := fun _ => by
    refine px_goto (tgt := 2081) dL_law_1843 (by decide) ?_
    refine px_keep [0, 1, 2, 3, 4] ?_
    exact K I2 (lw_J J r) r.2.2 hC2 hM2 hw2
  refine px_if_ne (tgt := 1843) dL_law_1828 (by decide) (fun h5 => ?_) (fun h5 => ?_)
  · exact fin []
  · refine px_aload_n dL_law_1831 rfl ?_
    refine px_iconst (v := nI 0) dL_law_1832 (by decide) ?_
    refine px_laldL (j := 0) dL_law_1833 pv_s_out rfl (by decide) (by decide) pv_k_out ?_
    refine px_iload dL_law_1834 rfl ?_
    refine px_i2l dL_law_1836 ?_
    refine px_lcmp dL_law_1837 ?_
    refine px_if_eq (tgt := 1843) dL_law_1838 (by decide) (fun _ => ?_) (fun h => absurd ?_ h)
    · exact fin []
    · have hc : r.1 = 0 := lw_code0 h5 hc3
      rw [hb hc, show lw_J J r = pv_uJ J 373 0 r.2.1.toInt64 from if_pos hc, pv_uJ_self]
      exact lw_cmp0 _
set_option maxRecDepth 100000 in
set_option maxHeartbeats 4000000 in
theorem lw_case27 {E : pv_E} {SL i n d bc bs : Nat} {xs : Nat → Int32} {nm : String} {hh : List (Nat × Nat × Nat × Nat)} {I : pv_IT} {J : pv_JT} {T : pv_T} {L : List pv_Lot} {H : List pv_S} {B : List Nat} (hD : 11 ≤ d) (hL : SL ≤ 2048) (hi : i + 4 ≤ SL) (hCA : CA I ((T, L), H, B)) (hMA : MA I ((T, L), H, B)) (hw : wx n ((T, L), H, B)) (hn : n ≤ 600) (K : ∀ (I' : pv_IT) (J' : pv_JT) (X' : pv_XS), CA I' X' → MA I' X' → wx (n + 1) X' → pv_X (zL E SL xs) E d bc bs (mL_law nm hh) 2081 [(0, .retAddr 0), (1, .ref 0), (2, .ref 365), (3, .ref 373), (4, .int (nI i))] [] pv_K0 pv_P0 I' J') : pv_X (zL E SL xs) E d (6 + bc) (36 + bs) (mL_law nm hh) 1846 [(0, .retAddr 0), (1, .ref 0), (2, .ref 365), (3, .ref 373), (4, .int (nI i))] [] pv_K0 pv_P0 I J := by
  refine px_aload_n dL_law_1846 rfl ?_
  refine px_aloadS_n dL_law_1847 rfl ?_
  refine px_iload dL_law_1848 rfl ?_
  refine px_iconst (v := nI 1) dL_law_1850 (by decide) ?_
  refine px_iaddN dL_law_1851 ?_
  refine px_sld (j := i + 1) dL_law_1852 (by omega) hL ?_
  refine px_aload_n dL_law_1853 rfl ?_
  refine c_L_bestStore dL_law_1854 mlL_199 (by omega) hCA hw hn (Nat.le_of_ble_eq_true rfl) (fun I1 hC1 hF1 => ?_)
  have hM1 : MA I1 ((T, L), H, B) := MA_far hMA hF1
  refine px_istore dL_law_1857 (Nat.le_of_ble_eq_true rfl) ?_
  refine px_aload_n dL_law_1859 rfl ?_
  refine px_aloadS_n dL_law_1860 rfl ?_
  refine px_iload dL_law_1861 rfl ?_
  refine px_iconst (v := nI 1) dL_law_1863 (by decide) ?_
  refine px_iaddN dL_law_1864 ?_
  refine px_sld (j := i + 1) dL_law_1865 (by omega) hL ?_
  refine c_X10_bestStore dL_law_1866 mlL_201 (by omega) hM1 hw hn (Nat.le_of_ble_eq_true rfl) ?_
  intro I2 b hM2 hF2 h0 hb
  have hC2 := CA_far hC1 hF2
  have hw2 : wx (n + 1) (po_best ((T, L), H, B) (xs (i + 1))).2.2 := wx_bestStore hw
  have hc3 : (po_best ((T, L), H, B) (xs (i + 1))).1 ≤ 3 := Nat.le_trans pc_bestStore (by decide)
  generalize (po_best ((T, L), H, B) (xs (i + 1))) = r at hc3 hC2 hM2 hw2 h0 hb ⊢
  show pv_X _ E d _ _ _ _ _ _ _ _ _ _
  refine px_istore dL_law_1869 (Nat.le_of_ble_eq_true rfl) ?_
  refine px_aload_n dL_law_1871 rfl ?_
  refine c_X10_thrown dL_law_1872 mlL_113 (by omega) (Nat.le_of_ble_eq_true rfl) ?_
  refine px_iv (y := nI r.1) h0 ?_
  refine px_iload dL_law_1875 rfl ?_
  refine px_icmp_eq (tgt := 1882) dL_law_1877 (by decide) (fun _ => ?_) (fun h => absurd rfl h)
  refine px_iload dL_law_1882 rfl ?_
  have fin : ∀ l5 : pv_LV, pv_X (zL E SL xs) E d bc bs (mL_law nm hh) 1899 ([(0, .retAddr 0), (1, .ref 0), (2, .ref 365), (3, .ref 373), (4, .int (nI i)), (5, .int (nI r.1)), (6, .int b)] : pv_LV) [] pv_K0 pv_P0 I2 (lw_J J r) := fun _ => by
    refine px_goto (tgt := 2081) dL_law_1899 (by decide) ?_
    refine px_keep [0, 1, 2, 3, 4] ?_
    exact K I2 (lw_J J r) r.2.2 hC2 hM2 hw2
  refine px_if_ne (tgt := 1899) dL_law_1884 (by decide) (fun h5 => ?_) (fun h5 => ?_)
  · exact fin []
  · refine px_aload_n dL_law_1887 rfl ?_
    refine px_iconst (v := nI 0) dL_law_1888 (by decide) ?_
    refine px_laldL (j := 0) dL_law_1889 pv_s_out rfl (by decide) (by decide) pv_k_out ?_
    refine px_iload dL_law_1890 rfl ?_
    refine px_i2l dL_law_1892 ?_
    refine px_lcmp dL_law_1893 ?_
    refine px_if_eq (tgt := 1899) dL_law_1894 (by decide) (fun _ => ?_) (fun h => absurd ?_ h)
    · exact fin []
    · have hc : r.1 = 0 := lw_code0 h5 hc3
      rw [hb hc, show lw_J J r = pv_uJ J 373 0 r.2.1.toInt64 from if_pos hc, pv_uJ_self]
      exact lw_cmp0 _
set_option maxRecDepth 100000 in
set_option maxHeartbeats 4000000 in
theorem lw_case28 {E : pv_E} {SL i n d bc bs : Nat} {xs : Nat → Int32} {nm : String} {hh : List (Nat × Nat × Nat × Nat)} {I : pv_IT} {J : pv_JT} {T : pv_T} {L : List pv_Lot} {H : List pv_S} {B : List Nat} (hD : 11 ≤ d) (hL : SL ≤ 2048) (hi : i + 4 ≤ SL) (hCA : CA I ((T, L), H, B)) (hMA : MA I ((T, L), H, B)) (hw : wx n ((T, L), H, B)) (hn : n ≤ 600) (K : ∀ (I' : pv_IT) (J' : pv_JT) (X' : pv_XS), CA I' X' → MA I' X' → wx (n + 1) X' → pv_X (zL E SL xs) E d bc bs (mL_law nm hh) 2081 [(0, .retAddr 0), (1, .ref 0), (2, .ref 365), (3, .ref 373), (4, .int (nI i))] [] pv_K0 pv_P0 I' J') : pv_X (zL E SL xs) E d (6 + bc) (36 + bs) (mL_law nm hh) 1902 [(0, .retAddr 0), (1, .ref 0), (2, .ref 365), (3, .ref 373), (4, .int (nI i))] [] pv_K0 pv_P0 I J := by
  refine px_aload_n dL_law_1902 rfl ?_
  refine px_aloadS_n dL_law_1903 rfl ?_
  refine px_iload dL_law_1904 rfl ?_
  refine px_iconst (v := nI 1) dL_law_1906 (by decide) ?_
  refine px_iaddN dL_law_1907 ?_
  refine px_sld (j := i + 1) dL_law_1908 (by omega) hL ?_
  refine px_aloadS_n dL_law_1909 rfl ?_
  refine px_iload dL_law_1910 rfl ?_
  refine px_iconst (v := nI 2) dL_law_1912 (by decide) ?_
  refine px_iaddN dL_law_1913 ?_
  refine px_sld (j := i + 2) dL_law_1914 (by omega) hL ?_
  refine px_aload_n dL_law_1915 rfl ?_
  refine c_L_leastPurchase dL_law_1916 mlL_202 (by omega) hCA hw hn (Nat.le_of_ble_eq_true rfl) (fun I1 hC1 hF1 => ?_)
  have hM1 : MA I1 ((T, L), H, B) := MA_far hMA hF1
  refine px_istore dL_law_1919 (Nat.le_of_ble_eq_true rfl) ?_
  refine px_aload_n dL_law_1921 rfl ?_
  refine px_aloadS_n dL_law_1922 rfl ?_
  refine px_iload dL_law_1923 rfl ?_
  refine px_iconst (v := nI 1) dL_law_1925 (by decide) ?_
  refine px_iaddN dL_law_1926 ?_
  refine px_sld (j := i + 1) dL_law_1927 (by omega) hL ?_
  refine px_aloadS_n dL_law_1928 rfl ?_
  refine px_iload dL_law_1929 rfl ?_
  refine px_iconst (v := nI 2) dL_law_1931 (by decide) ?_
  refine px_iaddN dL_law_1932 ?_
  refine px_sld (j := i + 2) dL_law_1933 (by omega) hL ?_
  refine c_X10_leastPurchase dL_law_1934 mlL_204 (by omega) hM1 hw hn (Nat.le_of_ble_eq_true rfl) ?_
  intro I2 b hM2 hF2 h0 hb
  have hC2 := CA_far hC1 hF2
  have hw2 : wx (n + 1) (po_least ((T, L), H, B) (xs (i + 1)) (xs (i + 2))).2.2 := wx_leastPurchase hw
  have hc3 : (po_least ((T, L), H, B) (xs (i + 1)) (xs (i + 2))).1 ≤ 3 := Nat.le_trans pc_leastPurchase (by decide)
  generalize (po_least ((T, L), H, B) (xs (i + 1)) (xs (i + 2))) = r at hc3 hC2 hM2 hw2 h0 hb ⊢
  show pv_X _ E d _ _ _ _ _ _ _ _ _ _
  refine px_istore dL_law_1937 (Nat.le_of_ble_eq_true rfl) ?_
  refine px_aload_n dL_law_1939 rfl ?_
  refine c_X10_thrown dL_law_1940 mlL_113 (by omega) (Nat.le_of_ble_eq_true rfl) ?_
  refine px_iv (y := nI r.1) h0 ?_
  refine px_iload dL_law_1943 rfl ?_
  refine px_icmp_eq (tgt := 1950) dL_law_1945 (by decide) (fun _ => ?_) (fun h => absurd rfl h)
  refine px_iload dL_law_1950 rfl ?_
  have fin : ∀ l5 : pv_LV, pv_X (zL E SL xs) E d bc bs (mL_law nm hh) 1967 ([(0, .retAddr 0), (1, .ref 0), (2, .ref 365), (3, .ref 373), (4, .int (nI i)), (5, .int (nI r.1)), (6, .int b)] : pv_LV) [] pv_K0 pv_P0 I2 (lw_J J r) := fun _ => by
    refine px_goto (tgt := 2081) dL_law_1967 (by decide) ?_
    refine px_keep [0, 1, 2, 3, 4] ?_
    exact K I2 (lw_J J r) r.2.2 hC2 hM2 hw2
  refine px_if_ne (tgt := 1967) dL_law_1952 (by decide) (fun h5 => ?_) (fun h5 => ?_)
  · exact fin []
  · refine px_aload_n dL_law_1955 rfl ?_
    refine px_iconst (v := nI 0) dL_law_1956 (by decide) ?_
    refine px_laldL (j := 0) dL_law_1957 pv_s_out rfl (by decide) (by decide) pv_k_out ?_
    refine px_iload dL_law_1958 rfl ?_
    refine px_i2l dL_law_1960 ?_
    refine px_lcmp dL_law_1961 ?_
    refine px_if_eq (tgt := 1967) dL_law_1962 (by decide) (fun _ => ?_) (fun h => absurd ?_ h)
    · exact fin []
    · have hc : r.1 = 0 := lw_code0 h5 hc3
      rw [hb hc, show lw_J J r = pv_uJ J 373 0 r.2.1.toInt64 from if_pos hc, pv_uJ_self]
      exact lw_cmp0 _
set_option maxRecDepth 100000 in
set_option maxHeartbeats 4000000 in
theorem lw_case29 {E : pv_E} {SL i n d bc bs : Nat} {xs : Nat → Int32} {nm : String} {hh : List (Nat × Nat × Nat × Nat)} {I : pv_IT} {J : pv_JT} {T : pv_T} {L : List pv_Lot} {H : List pv_S} {B : List Nat} (hD : 11 ≤ d) (hL : SL ≤ 2048) (hi : i + 4 ≤ SL) (hCA : CA I ((T, L), H, B)) (hMA : MA I ((T, L), H, B)) (hw : wx n ((T, L), H, B)) (hn : n ≤ 600) (K : ∀ (I' : pv_IT) (J' : pv_JT) (X' : pv_XS), CA I' X' → MA I' X' → wx (n + 1) X' → pv_X (zL E SL xs) E d bc bs (mL_law nm hh) 2081 [(0, .retAddr 0), (1, .ref 0), (2, .ref 365), (3, .ref 373), (4, .int (nI i))] [] pv_K0 pv_P0 I' J') : pv_X (zL E SL xs) E d (6 + bc) (36 + bs) (mL_law nm hh) 1970 [(0, .retAddr 0), (1, .ref 0), (2, .ref 365), (3, .ref 373), (4, .int (nI i))] [] pv_K0 pv_P0 I J := by
  refine px_aload_n dL_law_1970 rfl ?_
  refine px_aloadS_n dL_law_1971 rfl ?_
  refine px_iload dL_law_1972 rfl ?_
  refine px_iconst (v := nI 1) dL_law_1974 (by decide) ?_
  refine px_iaddN dL_law_1975 ?_
  refine px_sld (j := i + 1) dL_law_1976 (by omega) hL ?_
  refine px_aload_n dL_law_1977 rfl ?_
  refine c_L_cheapest dL_law_1978 mlL_205 (by omega) hCA hw hn (Nat.le_of_ble_eq_true rfl) (fun I1 hC1 hF1 => ?_)
  have hM1 : MA I1 ((T, L), H, B) := MA_far hMA hF1
  refine px_istore dL_law_1981 (Nat.le_of_ble_eq_true rfl) ?_
  refine px_aload_n dL_law_1983 rfl ?_
  refine px_aloadS_n dL_law_1984 rfl ?_
  refine px_iload dL_law_1985 rfl ?_
  refine px_iconst (v := nI 1) dL_law_1987 (by decide) ?_
  refine px_iaddN dL_law_1988 ?_
  refine px_sld (j := i + 1) dL_law_1989 (by omega) hL ?_
  refine c_X10_cheapest dL_law_1990 mlL_207 (by omega) hM1 hw hn (Nat.le_of_ble_eq_true rfl) ?_
  intro I2 b hM2 hF2 h0 hb
  have hC2 := CA_far hC1 hF2
  have hw2 : wx (n + 1) (po_cheap ((T, L), H, B) (xs (i + 1))).2.2 := wx_cheapest hw
  have hc3 : (po_cheap ((T, L), H, B) (xs (i + 1))).1 ≤ 3 := Nat.le_trans pc_cheapest (by decide)
  generalize (po_cheap ((T, L), H, B) (xs (i + 1))) = r at hc3 hC2 hM2 hw2 h0 hb ⊢
  show pv_X _ E d _ _ _ _ _ _ _ _ _ _
  refine px_istore dL_law_1993 (Nat.le_of_ble_eq_true rfl) ?_
  refine px_aload_n dL_law_1995 rfl ?_
  refine c_X10_thrown dL_law_1996 mlL_113 (by omega) (Nat.le_of_ble_eq_true rfl) ?_
  refine px_iv (y := nI r.1) h0 ?_
  refine px_iload dL_law_1999 rfl ?_
  refine px_icmp_eq (tgt := 2006) dL_law_2001 (by decide) (fun _ => ?_) (fun h => absurd rfl h)
  refine px_iload dL_law_2006 rfl ?_
  have fin : ∀ l5 : pv_LV, pv_X (zL E SL xs) E d bc bs (mL_law nm hh) 2023 ([(0, .retAddr 0), (1, .ref 0), (2, .ref 365), (3, .ref 373), (4, .int (nI i)), (5, .int (nI r.1)), (6, .int b)] : pv_LV) [] pv_K0 pv_P0 I2 (lw_J J r) := fun _ => by
    refine px_goto (tgt := 2081) dL_law_2023 (by decide) ?_
    refine px_keep [0, 1, 2, 3, 4] ?_
    exact K I2 (lw_J J r) r.2.2 hC2 hM2 hw2
  refine px_if_ne (tgt := 2023) dL_law_2008 (by decide) (fun h5 => ?_) (fun h5 => ?_)
  · exact fin []
  · refine px_aload_n dL_law_2011 rfl ?_
    refine px_iconst (v := nI 0) dL_law_2012 (by decide) ?_
    refine px_laldL (j := 0) dL_law_2013 pv_s_out rfl (by decide) (by decide) pv_k_out ?_
    refine px_iload dL_law_2014 rfl ?_
    refine px_i2l dL_law_2016 ?_
    refine px_lcmp dL_law_2017 ?_
    refine px_if_eq (tgt := 2023) dL_law_2018 (by decide) (fun _ => ?_) (fun h => absurd ?_ h)
    · exact fin []
    · have hc : r.1 = 0 := lw_code0 h5 hc3
      rw [hb hc, show lw_J J r = pv_uJ J 373 0 r.2.1.toInt64 from if_pos hc, pv_uJ_self]
      exact lw_cmp0 _
set_option maxRecDepth 100000 in
set_option maxHeartbeats 4000000 in
theorem lw_case30 {E : pv_E} {SL i n d bc bs : Nat} {xs : Nat → Int32} {nm : String} {hh : List (Nat × Nat × Nat × Nat)} {I : pv_IT} {J : pv_JT} {T : pv_T} {L : List pv_Lot} {H : List pv_S} {B : List Nat} (hD : 11 ≤ d) (hL : SL ≤ 2048) (hi : i + 4 ≤ SL) (hCA : CA I ((T, L), H, B)) (hMA : MA I ((T, L), H, B)) (hw : wx n ((T, L), H, B)) (hn : n ≤ 600) (K : ∀ (I' : pv_IT) (J' : pv_JT) (X' : pv_XS), CA I' X' → MA I' X' → wx (n + 1) X' → pv_X (zL E SL xs) E d bc bs (mL_law nm hh) 2081 [(0, .retAddr 0), (1, .ref 0), (2, .ref 365), (3, .ref 373), (4, .int (nI i))] [] pv_K0 pv_P0 I' J') : pv_X (zL E SL xs) E d (6 + bc) (36 + bs) (mL_law nm hh) 2026 [(0, .retAddr 0), (1, .ref 0), (2, .ref 365), (3, .ref 373), (4, .int (nI i))] [] pv_K0 pv_P0 I J := by
  refine px_aload_n dL_law_2026 rfl ?_
  refine c_X9_meanAge dL_law_2027 mlL_208 (by omega) hCA hw hn (Nat.le_of_ble_eq_true rfl) ?_
  refine px_dstore dL_law_2030 (Nat.le_of_ble_eq_true rfl) ?_
  refine px_aload_n dL_law_2032 rfl ?_
  refine c_X10_meanAge dL_law_2033 mlL_212 (by omega) hMA hw hn (Nat.le_of_ble_eq_true rfl) (fun I2 hM2 hF2 h0 => ?_)
  refine px_dstore dL_law_2036 (Nat.le_of_ble_eq_true rfl) ?_
  refine px_dload dL_law_2038 rfl ?_
  refine px_dload dL_law_2040 rfl ?_
  refine px_dcmp dL_law_2042 ?_
  refine px_iv (y := 0) (by rw [pt_mean_self hw.1.1.2.1]; rfl) ?_
  refine px_if_eq (tgt := 2064) dL_law_2043 (by decide) (fun _ => ?_) (fun h => absurd rfl h)
  refine px_goto (tgt := 2081) dL_law_2064 (by decide) ?_
  refine px_weak rfl (Nat.le_refl _) (c1 := bc) (s1 := bs) (by omega) (by omega) ?_
  refine px_keep [0, 1, 2, 3, 4] ?_
  exact K I2 J _ (CA_far hCA hF2) hM2 (wx_mono hw (Nat.le_succ n))
set_option maxRecDepth 100000 in
set_option maxHeartbeats 4000000 in
theorem lw_case31 {E : pv_E} {SL i n d bc bs : Nat} {xs : Nat → Int32} {nm : String} {hh : List (Nat × Nat × Nat × Nat)} {I : pv_IT} {J : pv_JT} {T : pv_T} {L : List pv_Lot} {H : List pv_S} {B : List Nat} (hD : 11 ≤ d) (hL : SL ≤ 2048) (hi : i + 4 ≤ SL) (hCA : CA I ((T, L), H, B)) (hMA : MA I ((T, L), H, B)) (hw : wx n ((T, L), H, B)) (hn : n ≤ 600) (K : ∀ (I' : pv_IT) (J' : pv_JT) (X' : pv_XS), CA I' X' → MA I' X' → wx (n + 1) X' → pv_X (zL E SL xs) E d bc bs (mL_law nm hh) 2081 [(0, .retAddr 0), (1, .ref 0), (2, .ref 365), (3, .ref 373), (4, .int (nI i))] [] pv_K0 pv_P0 I' J') : pv_X (zL E SL xs) E d (6 + bc) (36 + bs) (mL_law nm hh) 2067 [(0, .retAddr 0), (1, .ref 0), (2, .ref 365), (3, .ref 373), (4, .int (nI i))] [] pv_K0 pv_P0 I J := by
  refine px_aload_n dL_law_2067 rfl ?_
  refine c_X9_digest dL_law_2068 mlL_213 (by omega) hCA hw hn (Nat.le_of_ble_eq_true rfl) (fun I1 hC1 hF1 => ?_)
  have hM1 : MA I1 ((T, L), H, B) := MA_far hMA hF1
  refine px_aload_n dL_law_2071 rfl ?_
  refine c_X10_digest dL_law_2072 mlL_217 (by omega) hM1 hw hn (Nat.le_of_ble_eq_true rfl) (fun I2 J2 hM2 hF2 h0 hJ2 => ?_)
  refine px_lcmp dL_law_2075 ?_
  refine px_iv (y := 0) (lw_cmp0 _) ?_
  refine px_if_eq (tgt := 2081) dL_law_2076 (by decide) (fun _ => ?_) (fun h => absurd rfl h)
  refine px_weak rfl (Nat.le_refl _) (c1 := bc) (s1 := bs) (by omega) (by omega) ?_
  exact K I2 J2 _ (CA_far hC1 hF2) hM2 (wx_mono hw (Nat.le_succ n))
