/-! The class: its digest. -/
theorem dg_at {f : Nat → Int64 → Int64} {g x : Int64} {a b : Nat} {v : Int32} (hb : b = a + 1) (h : dgs f a g = x) (hf : f a x = mx x v.toInt64) : 31 * x + v.toInt64 = dgs f b g := by
  subst hb
  show _ = f a (dgs f a g)
  rw [h, hf]
  rfl
theorem dz_port {X : pv_XS} {p i : Nat} (hl : p < X.1.1 407) (hb : X.1.1 407 ≤ 8) (h : i ≤ 1) : po_port X (nI p) (nI i) = (0, nI (X.1.1 (324 + 10 * p + i)), X) := by
  unfold po_port
  rw [if_pos ((pu_hasN (by omega) (by omega)).mpr hl), if_pos (Or.inl (dz_in h (by decide))), dz_tn (by omega), dz_tn (by omega)]
  unfold pt_port
  rw [if_pos (by omega)]
theorem dz_port2 {X : pv_XS} {p k : Nat} (hl : p < X.1.1 407) (hb : X.1.1 407 ≤ 8) (hk : k < X.1.1 405) (hb2 : X.1.1 405 ≤ 8) : po_port X (nI p) (nI (10 + k)) = (0, nI (X.1.1 (324 + 10 * p + (2 + k))), X) := by
  unfold po_port
  have e : nI 10 ≤ nI (10 + k) ∧ nI (10 + k) < nI (10 + X.1.1 405) := by
    refine ⟨(nI_leI (by omega) (by omega)).mpr (by omega), ?_⟩
    rw [Int32.lt_iff_toInt_lt, nI_toInt (by omega), nI_toInt (by omega)]
    omega
  rw [if_pos ((pu_hasN (by omega) (by omega)).mpr hl), if_pos (Or.inr e), dz_tn (by omega), dz_tn (by omega)]
  unfold pt_port
  rw [if_neg (by omega), show 10 + k - 8 = 2 + k by omega]
theorem pt_ahead_out {T : pv_T} {L : List pv_Lot} {d w : Nat} : pt_ahead (T, L) d w = pt_outc T ((pd_days (T, L) d).1, (pd_days (T, L) d).2) w := rfl
theorem px_lv1 {z : pv_Z} {E : pv_E} {d bc bs : Nat} {mi : pv_MI} {pc : Nat} {l : List (Nat × Value)} {st : List Value} {P : pv_PT} {I : pv_IT} {J : pv_JT} {i : Nat} {x y : Int64} {r : pv_LV} (e : x = y) (k : pv_X z E d bc bs mi pc ((i, .long y) :: r) st pv_K0 P I J) : pv_X z E d bc bs mi pc ((i, .long x) :: r) st pv_K0 P I J := by rw [e]; exact k
set_option maxRecDepth 100000 in
set_option maxHeartbeats 4000000 in
theorem s_X9_digest {Q : pv_Q} {E : pv_E} {d bc bs : Nat} {J : pv_JT} {I : pv_IT} {T : pv_T} {L : List pv_Lot} {H : List pv_S} {B : List Nat} {n : Nat} (hD : 10 ≤ d) (hCA : CA I ((T, L), H, B)) (hw : wx n ((T, L), H, B)) (hn : n ≤ 600) (h : ∀ I' : pv_IT, CA I' ((T, L), H, B) → (∀ k, 365 ≤ k → I' k = I k) → Q (.inl (some (.long (pt_dig ((T, L), H, B))))) pv_K0 pv_P0 (I') (J)) : pv_X (pv_ZQ E Q) E d bc bs mX9_digest 0 [(0, .ref (0))] [] pv_K0 pv_P0 I J := by
  obtain ⟨hC, hH, hB⟩ := id hCA
  replace hC : CR I 1 T L := hC
  replace hH : HR I H := hH
  replace hB : TXc I B := hB
  have hdy : dy (T, L) := hw.1.1
  have htb : tb T := hdy.1
  have hlb : lbs L := hdy.2.1
  have h31 : L.length ≤ 31 := hlb.1
  have h30 : L.length ≤ 30 := hw.1.2.1
  have h404 : T 404 ≤ 60 * n := hw.1.2.2.1
  have hn8 : T 405 ≤ 8 := htb.2.2.1
  have hp8 : T 407 ≤ 8 := htb.2.2.2.2.2.1.1
  have h10 : T 408 ≤ 10 := htb.2.2.2.2.2.2.2.1
  refine px_ldc2l (v := 2203) dX9_digest_0 (pv_t 395 (by decide +kernel) rfl) ?_
  refine px_lstore_n dX9_digest_3 (by decide) ?_
  refine px_iconst (v := nI 0) dX9_digest_4 (by decide) ?_
  refine px_istore_n dX9_digest_5 (by decide) ?_
  have key1 : ∀ i : Nat, i ≤ 13 → ∀ I1 : pv_IT, CA I1 ((T, L), H, B) → (∀ k, 365 ≤ k → I1 k = I k) → pv_X (pv_ZQ E Q) E d bc bs mX9_digest 6 [(0, .ref 0), (1, .long (dgs (fun w g => mx g (pt_count ((T, L), H, B) w).toInt64) (i) 2203)), (3, .int (nI (i)))] [] pv_K0 pv_P0 (I1) (J) := by
    refine pv_up (13) ?_ ?_
    · intro I1 hCA1 hF1
      refine px_iload_n dX9_digest_6 rfl ?_
      refine px_bipush (v := nI 12) dX9_digest_7 (by decide) ?_
      refine px_icmp_gtN (tgt := 31) dX9_digest_9 (by decide) (by omega) (by omega) (fun _ => ?_) (fun h0 => absurd h0 (by omega))
      have key2 : ∀ i : Nat, i ≤ L.length → ∀ I1 : pv_IT, CA I1 ((T, L), H, B) → (∀ k, 365 ≤ k → I1 k = I k) → pv_X (pv_ZQ E Q) E d bc bs mX9_digest 33 [(0, .ref 0), (1, .long (dgs (fun j g => mx g (nI (pt_lot (T, L) (j / 6) (j % 6))).toInt64) (6 * (i)) (dg_1 ((T, L), H, B)))), (3, .int (nI (i)))] [] pv_K0 pv_P0 (I1) (J) := by
        refine pv_up (L.length) ?_ ?_
        · intro I1 hCA1 hF1
          have hC1 : CR I1 1 T L := hCA1.1
          refine px_iload_n dX9_digest_33 rfl ?_
          refine px_aload_n dX9_digest_34 rfl ?_
          refine px_getR dX9_digest_35 flX9_10 pv_s_main (by decide) (by decide) rfl pv_k_main pv_p_0_0 ?_
          refine px_getR dX9_digest_38 flX9_66 pv_ship_1.1 (by decide) (by decide) rfl pv_ship_1.2.1 pv_ship_1.2.2.2.2.1.1 ?_
          refine px_getI dX9_digest_41 flX9_178 pv_ship_1.2.2.2.2.1.2.1 (by decide) (by decide) rfl pv_ship_1.2.2.2.2.1.2.2.1 ?_
          refine px_iv (y := nI (L.length)) (hC1.2.2.2.1.1) ?_
          refine px_icmp_geN (tgt := 83) dX9_digest_44 (by decide) (by omega) (by omega) (fun _ => ?_) (fun h0 => absurd h0 (by omega))
          have key3 : ∀ i : Nat, i ≤ 3 → ∀ I1 : pv_IT, CA I1 ((T, L), H, B) → (∀ k, 365 ≤ k → I1 k = I k) → pv_X (pv_ZQ E Q) E d bc bs mX9_digest 85 [(0, .ref 0), (1, .long (dgs (fun j g => mx g (nI (pt_store (T, L) (j / 4) (j % 4))).toInt64) (4 * (i)) (dg_2 ((T, L), H, B)))), (3, .int (nI (i)))] [] pv_K0 pv_P0 (I1) (J) := by
            refine pv_up (3) ?_ ?_
            · intro I1 hCA1 hF1
              have hC1 : CR I1 1 T L := hCA1.1
              refine px_iload_n dX9_digest_85 rfl ?_
              refine px_iconst (v := nI 3) dX9_digest_86 (by decide) ?_
              refine px_icmp_geN (tgt := 126) dX9_digest_87 (by decide) (by omega) (by omega) (fun _ => ?_) (fun h0 => absurd h0 (by omega))
              have hsh : ∀ k, k < 8 → T (28 + 5 * k) ≤ 216000 * n := hw.1.2.2.2.1
              have key4 : ∀ i : Nat, i ≤ T 405 → ∀ I1 : pv_IT, CA I1 ((T, L), H, B) → (∀ k, 365 ≤ k → I1 k = I k) → pv_X (pv_ZQ E Q) E d bc bs mX9_digest 128 [(0, .ref 0), (1, .long (dgs (dg_kind (T, L)) (i) (dg_3 ((T, L), H, B)))), (3, .int (nI (i)))] [] pv_K0 pv_P0 (I1) (J) := by
                refine pv_up (T 405) ?_ ?_
                · intro I1 hCA1 hF1
                  have hC1 : CR I1 1 T L := hCA1.1
                  refine px_iload_n dX9_digest_128 rfl ?_
                  refine px_aload_n dX9_digest_129 rfl ?_
                  refine px_getR dX9_digest_130 flX9_10 pv_s_main (by decide) (by decide) rfl pv_k_main pv_p_0_0 ?_
                  refine px_getR dX9_digest_133 flX9_37 pv_ship_1.1 (by decide) (by decide) rfl pv_ship_1.2.1 pv_ship_1.2.2.1.1 ?_
                  refine px_getI dX9_digest_136 flX9_41 pv_ship_1.2.2.1.2.1 (by decide) (by decide) rfl pv_ship_1.2.2.1.2.2.1 ?_
                  refine px_iv (y := nI (T 405)) (hC1.2.1.1) ?_
                  refine px_icmp_geN (tgt := 221) dX9_digest_139 (by decide) (by omega) (by omega) (fun _ => ?_) (fun h0 => absurd h0 (by omega))
                  have key5 : ∀ i : Nat, i ≤ T 407 → ∀ I1 : pv_IT, CA I1 ((T, L), H, B) → (∀ k, 365 ≤ k → I1 k = I k) → pv_X (pv_ZQ E Q) E d bc bs mX9_digest 223 [(0, .ref 0), (1, .long (dgs (dg_port T) (i) (dg_4 ((T, L), H, B)))), (3, .int (nI (i)))] [] pv_K0 pv_P0 (I1) (J) := by
                    refine pv_up (T 407) ?_ ?_
                    · intro I1 hCA1 hF1
                      have hC1 : CR I1 1 T L := hCA1.1
                      refine px_iload_n dX9_digest_223 rfl ?_
                      refine px_aload_n dX9_digest_224 rfl ?_
                      refine px_getR dX9_digest_225 flX9_10 pv_s_main (by decide) (by decide) rfl pv_k_main pv_p_0_0 ?_
                      refine px_getR dX9_digest_228 flX9_122 pv_ship_1.1 (by decide) (by decide) rfl pv_ship_1.2.1 pv_ship_1.2.2.2.2.2.1.1 ?_
                      refine px_getI dX9_digest_231 flX9_126 pv_ship_1.2.2.2.2.2.1.2.1 (by decide) (by decide) rfl pv_ship_1.2.2.2.2.2.1.2.2.1 ?_
                      refine px_iv (y := nI (T 407)) (hC1.2.2.2.2.1.1) ?_
                      refine px_icmp_geN (tgt := 313) dX9_digest_234 (by decide) (by omega) (by omega) (fun _ => ?_) (fun h0 => absurd h0 (by omega))
                      have key6 : ∀ i : Nat, i ≤ T 408 → ∀ I1 : pv_IT, CA I1 ((T, L), H, B) → (∀ k, 365 ≤ k → I1 k = I k) → pv_X (pv_ZQ E Q) E d bc bs mX9_digest 315 [(0, .ref 0), (1, .long (dgs (fun j g => mx g (nI (pt_menu (T, L) (j / 12) (j / 3 % 4) (j % 3))).toInt64) (12 * (i)) (dg_5 ((T, L), H, B)))), (3, .int (nI (i)))] [] pv_K0 pv_P0 (I1) (J) := by
                        refine pv_up (T 408) ?_ ?_
                        · intro I1 hCA1 hF1
                          have hC1 : CR I1 1 T L := hCA1.1
                          refine px_iload_n dX9_digest_315 rfl ?_
                          refine px_aload_n dX9_digest_316 rfl ?_
                          refine px_getR dX9_digest_317 flX9_10 pv_s_main (by decide) (by decide) rfl pv_k_main pv_p_0_0 ?_
                          refine px_getR dX9_digest_320 flX9_231 pv_ship_1.1 (by decide) (by decide) rfl pv_ship_1.2.1 pv_ship_1.2.2.2.2.2.2.1.1 ?_
                          refine px_getI dX9_digest_323 flX9_242 pv_ship_1.2.2.2.2.2.2.1.2.1 (by decide) (by decide) rfl pv_ship_1.2.2.2.2.2.2.1.2.2.1 ?_
                          refine px_iv (y := nI (T 408)) (hC1.2.2.2.2.2.1) ?_
                          refine px_icmp_geN (tgt := 382) dX9_digest_326 (by decide) (by omega) (by omega) (fun _ => ?_) (fun h0 => absurd h0 (by omega))
                          have hpd : dgs (fun j g => mx g (nI (bf B j)).toInt64) B.length (mx (mx (dgs (fun w g => mx g (pt_ahead (T, L) 14 w).toInt64) 5 (dg_6 ((T, L), H, B))) (pt_mean L).toInt64) (nI B.length).toInt64) = pt_dig ((T, L), H, B) := rfl
                          rw [← hpd] at h
                          clear hpd
                          rw [show dgs (fun j g => mx g (nI (pt_menu (T, L) (j / 12) (j / 3 % 4) (j % 3))).toInt64) (12 * T 408) (dg_5 ((T, L), H, B)) = dg_6 ((T, L), H, B) from rfl]
                          generalize dg_6 ((T, L), H, B) = g6 at h ⊢
                          have hC1 : CR I1 1 T L := hCA1.1
                          refine px_aload_n dX9_digest_382 rfl ?_
                          refine px_getR dX9_digest_383 flX9_16 pv_s_main (by decide) (by decide) rfl pv_k_main pv_p_0_1 ?_
                          refine px_aload_n dX9_digest_386 rfl ?_
                          refine px_getR dX9_digest_387 flX9_10 pv_s_main (by decide) (by decide) rfl pv_k_main pv_p_0_0 ?_
                          refine c_X7_become dX9_digest_390 mlX9_317 (by omega) pv_ship_45 pv_ship_1 hC1 (by omega) (Nat.le_of_ble_eq_true rfl) (fun I2 hC2 hF2 => ?_)
                          refine px_aload_n dX9_digest_393 rfl ?_
                          refine px_getR dX9_digest_394 flX9_16 pv_s_main (by decide) (by decide) rfl pv_k_main pv_p_0_1 ?_
                          refine px_bipush (v := nI 14) dX9_digest_397 (by decide) ?_
                          refine c_X7_passDays dX9_digest_399 mlX9_206 (by omega) pv_ship_45 hC2 hdy (by omega) (Nat.le_of_ble_eq_true rfl) (fun I3 hC3 hF3 => ?_)
                          have hFk : ∀ k, k < 45 ∨ 89 ≤ k → I3 k = I1 k := fun k hk => (hF3 k (by omega)).trans (hF2 k (by omega))
                          have hCA3 := CA_trial hCA1 hFk
                          have hCs : CR I3 1 T L := hCA3.1
                          have hB3 : TXc I3 B := hCA3.2.2
                          have h60 := hB3.2.1
                          have key7 : ∀ i : Nat, i ≤ 5 → pv_X (pv_ZQ E Q) E d bc bs mX9_digest 404 [(0, .ref 0), (1, .long (dgs (fun w g => mx g (pt_ahead (T, L) 14 w).toInt64) (i) g6)), (3, .int (nI (i)))] [] pv_K0 pv_P0 (I3) (J) := by
                            refine pv_up (5) ?_ ?_
                            · generalize dgs (fun w g => mx g (pt_ahead (T, L) 14 w).toInt64) 5 g6 = g7 at h ⊢
                              refine px_iload_n dX9_digest_404 rfl ?_
                              refine px_iconst (v := nI 4) dX9_digest_405 (by decide) ?_
                              refine px_icmp_gtN (tgt := 428) dX9_digest_406 (by decide) (by omega) (by omega) (fun _ => ?_) (fun h0 => absurd h0 (by omega))
                              refine px_ldc2l (v := 31) dX9_digest_428 (pv_t 396 (by decide +kernel) rfl) ?_
                              refine px_lload_n dX9_digest_431 rfl ?_
                              refine px_lmul dX9_digest_432 ?_
                              refine px_aload_n dX9_digest_433 rfl ?_
                              refine c_X9_meanAge dX9_digest_434 mlX9_363 (by omega) hCA3 hw hn (Nat.le_of_ble_eq_true rfl) ?_
                              refine c_X9_bitsOf dX9_digest_437 mlX9_367 (by omega) (pt_mean_is hlb) (Nat.le_of_ble_eq_true rfl) ?_
                              refine px_ladd dX9_digest_440 ?_
                              refine px_lstore_n dX9_digest_441 (by decide) ?_
                              refine px_ldc2l (v := 31) dX9_digest_442 (pv_t 396 (by decide +kernel) rfl) ?_
                              refine px_lload_n dX9_digest_445 rfl ?_
                              refine px_lmul dX9_digest_446 ?_
                              refine px_aload_n dX9_digest_447 rfl ?_
                              refine px_getR dX9_digest_448 flX9_29 pv_s_main (by decide) (by decide) rfl pv_k_main pv_p_0_3 ?_
                              refine px_getI dX9_digest_451 flX9_209 pv_s_text (by decide) (by decide) rfl pv_k_text ?_
                              refine px_iv (y := nI (B.length)) (hB3.1) ?_
                              refine px_i2l dX9_digest_454 ?_
                              refine px_ladd dX9_digest_455 ?_
                              refine px_lstore_n dX9_digest_456 (by decide) ?_
                              refine px_iconst (v := nI 0) dX9_digest_457 (by decide) ?_
                              refine px_istore_n dX9_digest_458 (by decide) ?_
                              refine px_keep [0, 1, 3] ?_
                              rw [show 31 * (31 * g7 + (pt_mean L).toInt64) + (nI B.length).toInt64 = (mx (mx g7 (pt_mean L).toInt64) (nI B.length).toInt64) from rfl]
                              generalize (mx (mx g7 (pt_mean L).toInt64) (nI B.length).toInt64) = g9 at h ⊢
                              have key8 : ∀ i : Nat, i ≤ B.length → pv_X (pv_ZQ E Q) E d bc bs mX9_digest 459 [(0, .ref 0), (1, .long (dgs (fun j g => mx g (nI (bf B j)).toInt64) (i) g9)), (3, .int (nI (i)))] [] pv_K0 pv_P0 (I3) (J) := by
                                refine pv_up (B.length) ?_ ?_
                                · refine px_iload_n dX9_digest_459 rfl ?_
                                  refine px_aload_n dX9_digest_460 rfl ?_
                                  refine px_getR dX9_digest_461 flX9_29 pv_s_main (by decide) (by decide) rfl pv_k_main pv_p_0_3 ?_
                                  refine px_getI dX9_digest_464 flX9_209 pv_s_text (by decide) (by decide) rfl pv_k_text ?_
                                  refine px_iv (y := nI (B.length)) (hB3.1) ?_
                                  refine px_icmp_geN (tgt := 495) dX9_digest_467 (by decide) (by omega) (by omega) (fun _ => ?_) (fun h0 => absurd h0 (by omega))
                                  refine px_lload_n dX9_digest_495 rfl ?_
                                  exact px_lret dX9_digest_496 rfl (Or.inl rfl) (h I3 hCA3 (fun k hk => (hFk k (by omega)).trans (hF1 k hk)))
                                · intro i hi K 
                                  refine px_iload_n dX9_digest_459 rfl ?_
                                  refine px_aload_n dX9_digest_460 rfl ?_
                                  refine px_getR dX9_digest_461 flX9_29 pv_s_main (by decide) (by decide) rfl pv_k_main pv_p_0_3 ?_
                                  refine px_getI dX9_digest_464 flX9_209 pv_s_text (by decide) (by decide) rfl pv_k_text ?_
                                  refine px_iv (y := nI (B.length)) (hB3.1) ?_
                                  refine px_icmp_geN (tgt := 495) dX9_digest_467 (by decide) (by omega) (by omega) (fun h0 => absurd h0 (by omega)) (fun _ => ?_)
                                  refine px_ldc2l (v := 31) dX9_digest_470 (pv_t 396 (by decide +kernel) rfl) ?_
                                  refine px_lload_n dX9_digest_473 rfl ?_
                                  refine px_lmul dX9_digest_474 ?_
                                  refine px_aload_n dX9_digest_475 rfl ?_
                                  refine px_getR dX9_digest_476 flX9_29 pv_s_main (by decide) (by decide) rfl pv_k_main pv_p_0_3 ?_
                                  refine px_getR dX9_digest_479 flX9_214 pv_s_text (by decide) (by decide) rfl pv_k_text pv_p_355_1 ?_
                                  refine px_iload_n dX9_digest_482 rfl ?_
                                  refine c_X6_at dX9_digest_483 mlX9_88 (by omega) (j := i) pv_row_356 (by omega) (Nat.le_of_ble_eq_true rfl) ?_
                                  refine px_iv (y := nI (bf B i)) (hB3.2.2 i hi) ?_
                                  refine px_i2l dX9_digest_486 ?_
                                  refine px_ladd dX9_digest_487 ?_
                                  refine px_lstore_n dX9_digest_488 (by decide) ?_
                                  refine px_iincN (c := 1) (by decide) dX9_digest_489 rfl (by decide) ?_
                                  refine px_goto (tgt := 459) dX9_digest_492 (by decide) ?_
                                  refine px_keep [0, 1, 3] ?_
                                  have hstep := dg_at (f := (fun j g => mx g (nI (bf B j)).toInt64)) (g := g9) (a := i) (b := i + 1) (v := nI (bf B i)) rfl rfl rfl
                                  rw [← hstep] at K
                                  exact K
                              refine px_keep [0, 1, 3] ?_
                              exact key8 0 (by omega)
                            · intro i hi K 
                              refine px_iload_n dX9_digest_404 rfl ?_
                              refine px_iconst (v := nI 4) dX9_digest_405 (by decide) ?_
                              refine px_icmp_gtN (tgt := 428) dX9_digest_406 (by decide) (by omega) (by omega) (fun h0 => absurd h0 (by omega)) (fun _ => ?_)
                              refine px_ldc2l (v := 31) dX9_digest_409 (pv_t 396 (by decide +kernel) rfl) ?_
                              refine px_lload_n dX9_digest_412 rfl ?_
                              refine px_lmul dX9_digest_413 ?_
                              refine px_aload_n dX9_digest_414 rfl ?_
                              refine px_iload_n dX9_digest_415 rfl ?_
                              refine c_X9_outcomeOfTrial dX9_digest_416 mlX9_319 (by omega) hCs hC3 (by omega) (Nat.le_of_ble_eq_true rfl) ?_
                              refine px_i2l dX9_digest_419 ?_
                              refine px_ladd dX9_digest_420 ?_
                              refine px_lstore_n dX9_digest_421 (by decide) ?_
                              refine px_iincN (c := 1) (by decide) dX9_digest_422 rfl (by decide) ?_
                              refine px_goto (tgt := 404) dX9_digest_425 (by decide) ?_
                              refine px_keep [0, 1, 3] ?_
                              have hstep := dg_at (f := (fun w g => mx g (pt_ahead (T, L) 14 w).toInt64)) (g := g6) (a := i) (b := i + 1) (v := pt_outc T ((pd_days (T, L) 14).1, (pd_days (T, L) 14).2) i) rfl rfl (by show mx _ (pt_ahead (T, L) 14 i).toInt64 = _; rw [pt_ahead_out])
                              rw [← hstep] at K
                              exact K
                          refine px_iconst (v := nI 0) dX9_digest_402 (by decide) ?_
                          refine px_istore_n dX9_digest_403 (by decide) ?_
                          refine px_keep [0, 1, 3] ?_
                          exact key7 0 (by omega)
                        · intro i hi K I1 hCA1 hF1
                          have hio := hi
                          have KO := K
                          clear K
                          have hC1 : CR I1 1 T L := hCA1.1
                          refine px_iload_n dX9_digest_315 rfl ?_
                          refine px_aload_n dX9_digest_316 rfl ?_
                          refine px_getR dX9_digest_317 flX9_10 pv_s_main (by decide) (by decide) rfl pv_k_main pv_p_0_0 ?_
                          refine px_getR dX9_digest_320 flX9_231 pv_ship_1.1 (by decide) (by decide) rfl pv_ship_1.2.1 pv_ship_1.2.2.2.2.2.2.1.1 ?_
                          refine px_getI dX9_digest_323 flX9_242 pv_ship_1.2.2.2.2.2.2.1.2.1 (by decide) (by decide) rfl pv_ship_1.2.2.2.2.2.2.1.2.2.1 ?_
                          refine px_iv (y := nI (T 408)) (hC1.2.2.2.2.2.1) ?_
                          refine px_icmp_geN (tgt := 382) dX9_digest_326 (by decide) (by omega) (by omega) (fun h0 => absurd h0 (by omega)) (fun _ => ?_)
                          refine px_iconst (v := nI 0) dX9_digest_329 (by decide) ?_
                          refine px_istore dX9_digest_330 (by decide) ?_
                          have key6I : ∀ w : Nat, w ≤ 4 → ∀ I1 : pv_IT, CA I1 ((T, L), H, B) → (∀ k, 365 ≤ k → I1 k = I k) → pv_X (pv_ZQ E Q) E d bc bs mX9_digest 332 [(0, .ref 0), (1, .long (dgs (fun j g => mx g (nI (pt_menu (T, L) (j / 12) (j / 3 % 4) (j % 3))).toInt64) (12 * i + 3 * (w)) (dg_5 ((T, L), H, B)))), (3, .int (nI (i))), (4, .int (nI (w)))] [] pv_K0 pv_P0 (I1) (J) := by
                            refine pv_up (4) ?_ ?_
                            · intro I1 hCA1 hF1
                              refine px_iload dX9_digest_332 rfl ?_
                              refine px_iconst (v := nI 4) dX9_digest_334 (by decide) ?_
                              refine px_icmp_geN (tgt := 376) dX9_digest_335 (by decide) (by omega) (by omega) (fun _ => ?_) (fun h0 => absurd h0 (by omega))
                              refine px_iincN (c := 1) (by decide) dX9_digest_376 rfl (by decide) ?_
                              refine px_goto (tgt := 315) dX9_digest_379 (by decide) ?_
                              refine px_keep [0, 1, 3] ?_
                              rw [show 12 * (i + 1) = 12 * i + 3 * 4 by omega] at KO
                              exact KO I1 hCA1 hF1
                            · intro w hi K I1 hCA1 hF1
                              have hiw := hi
                              have KM := K
                              clear K
                              refine px_iload dX9_digest_332 rfl ?_
                              refine px_iconst (v := nI 4) dX9_digest_334 (by decide) ?_
                              refine px_icmp_geN (tgt := 376) dX9_digest_335 (by decide) (by omega) (by omega) (fun h0 => absurd h0 (by omega)) (fun _ => ?_)
                              refine px_iconst (v := nI 0) dX9_digest_338 (by decide) ?_
                              refine px_istore dX9_digest_339 (by decide) ?_
                              have key6J : ∀ u : Nat, u ≤ 3 → ∀ I1 : pv_IT, CA I1 ((T, L), H, B) → (∀ k, 365 ≤ k → I1 k = I k) → pv_X (pv_ZQ E Q) E d bc bs mX9_digest 341 [(0, .ref 0), (1, .long (dgs (fun j g => mx g (nI (pt_menu (T, L) (j / 12) (j / 3 % 4) (j % 3))).toInt64) (12 * i + 3 * w + (u)) (dg_5 ((T, L), H, B)))), (3, .int (nI (i))), (4, .int (nI (w))), (5, .int (nI (u)))] [] pv_K0 pv_P0 (I1) (J) := by
                                refine pv_up (3) ?_ ?_
                                · intro I1 hCA1 hF1
                                  refine px_iload dX9_digest_341 rfl ?_
                                  refine px_iconst (v := nI 2) dX9_digest_343 (by decide) ?_
                                  refine px_icmp_gtN (tgt := 370) dX9_digest_344 (by decide) (by omega) (by omega) (fun _ => ?_) (fun h0 => absurd h0 (by omega))
                                  refine px_iincN (c := 1) (by decide) dX9_digest_370 rfl (by decide) ?_
                                  refine px_goto (tgt := 332) dX9_digest_373 (by decide) ?_
                                  refine px_keep [0, 1, 3, 4] ?_
                                  rw [show 12 * i + 3 * (w + 1) = 12 * i + 3 * w + 3 by omega] at KM
                                  exact KM I1 hCA1 hF1
                                · intro u hi K I1 hCA1 hF1
                                  refine px_iload dX9_digest_341 rfl ?_
                                  refine px_iconst (v := nI 2) dX9_digest_343 (by decide) ?_
                                  refine px_icmp_gtN (tgt := 370) dX9_digest_344 (by decide) (by omega) (by omega) (fun h0 => absurd h0 (by omega)) (fun _ => ?_)
                                  refine px_ldc2l (v := 31) dX9_digest_347 (pv_t 396 (by decide +kernel) rfl) ?_
                                  refine px_lload_n dX9_digest_350 rfl ?_
                                  refine px_lmul dX9_digest_351 ?_
                                  refine px_aload_n dX9_digest_352 rfl ?_
                                  refine px_iload_n dX9_digest_353 rfl ?_
                                  refine px_iload dX9_digest_354 rfl ?_
                                  refine px_iload dX9_digest_356 rfl ?_
                                  refine c_Z9_menu dX9_digest_358 mlX9_360 (by omega) hCA1 hw hn (by rw [dz_menu (X := ((T, L), H, B)) (m := i) (i := w) (j := u) hio h10 hiw (by omega)]) (Nat.le_of_ble_eq_true rfl) (dz_ok (dz_menu (X := ((T, L), H, B)) (m := i) (i := w) (j := u) hio h10 hiw (by omega)) fun I2 hCA2 hF2 => ?_)
                                  refine px_i2l dX9_digest_361 ?_
                                  refine px_ladd dX9_digest_362 ?_
                                  refine px_lstore_n dX9_digest_363 (by decide) ?_
                                  refine px_iincN (c := 1) (by decide) dX9_digest_364 rfl (by decide) ?_
                                  refine px_goto (tgt := 341) dX9_digest_367 (by decide) ?_
                                  refine px_keep [0, 1, 3, 4, 5] ?_
                                  have hstep := dg_at (f := (fun j g => mx g (nI (pt_menu (T, L) (j / 12) (j / 3 % 4) (j % 3))).toInt64)) (g := dg_5 ((T, L), H, B)) (a := 12 * i + 3 * w + u) (b := 12 * i + 3 * w + (u + 1)) (v := nI (pt_menu (T, L) i w u)) (by omega) rfl (by show mx _ (nI (pt_menu (T, L) ((12 * i + 3 * w + u) / 12) ((12 * i + 3 * w + u) / 3 % 4) ((12 * i + 3 * w + u) % 3))).toInt64 = _; rw [show (12 * i + 3 * w + u) / 12 = i by omega, show (12 * i + 3 * w + u) / 3 % 4 = w by omega, show (12 * i + 3 * w + u) % 3 = u by omega])
                                  rw [← hstep] at K
                                  exact K I2 hCA2 (fun k hk => (hF2 k hk).trans (hF1 k hk))
                              refine px_keep [0, 1, 3, 4, 5] ?_
                              exact key6J 0 (by omega) I1 hCA1 hF1
                          refine px_keep [0, 1, 3, 4] ?_
                          exact key6I 0 (by omega) I1 hCA1 hF1
                      refine px_iconst (v := nI 0) dX9_digest_313 (by decide) ?_
                      refine px_istore_n dX9_digest_314 (by decide) ?_
                      refine px_keep [0, 1, 3] ?_
                      exact key6 0 (by omega) I1 hCA1 hF1
                    · intro i hi K I1 hCA1 hF1
                      have hio := hi
                      have KO := K
                      clear K
                      have hC1 : CR I1 1 T L := hCA1.1
                      refine px_iload_n dX9_digest_223 rfl ?_
                      refine px_aload_n dX9_digest_224 rfl ?_
                      refine px_getR dX9_digest_225 flX9_10 pv_s_main (by decide) (by decide) rfl pv_k_main pv_p_0_0 ?_
                      refine px_getR dX9_digest_228 flX9_122 pv_ship_1.1 (by decide) (by decide) rfl pv_ship_1.2.1 pv_ship_1.2.2.2.2.2.1.1 ?_
                      refine px_getI dX9_digest_231 flX9_126 pv_ship_1.2.2.2.2.2.1.2.1 (by decide) (by decide) rfl pv_ship_1.2.2.2.2.2.1.2.2.1 ?_
                      refine px_iv (y := nI (T 407)) (hC1.2.2.2.2.1.1) ?_
                      refine px_icmp_geN (tgt := 313) dX9_digest_234 (by decide) (by omega) (by omega) (fun h0 => absurd h0 (by omega)) (fun _ => ?_)
                      refine px_ldc2l (v := 31) dX9_digest_237 (pv_t 396 (by decide +kernel) rfl) ?_
                      refine px_lload_n dX9_digest_240 rfl ?_
                      refine px_lmul dX9_digest_241 ?_
                      refine px_aload_n dX9_digest_242 rfl ?_
                      refine px_iload_n dX9_digest_243 rfl ?_
                      refine px_iconst (v := nI 0) dX9_digest_244 (by decide) ?_
                      refine c_Z9_port dX9_digest_245 mlX9_357 (by omega) hCA1 hw hn (by rw [dz_port (X := ((T, L), H, B)) (p := i) (i := 0) hio hp8 (by omega)]) (Nat.le_of_ble_eq_true rfl) (dz_ok (dz_port (X := ((T, L), H, B)) (p := i) (i := 0) hio hp8 (by omega)) fun I2 hCA2 hF2 => ?_)
                      have hF1b : ∀ k, 365 ≤ k → I2 k = I k := fun k hk => (hF2 k hk).trans (hF1 k hk)
                      clear hF2
                      refine px_i2l dX9_digest_248 ?_
                      refine px_ladd dX9_digest_249 ?_
                      refine px_lstore_n dX9_digest_250 (by decide) ?_
                      refine px_ldc2l (v := 31) dX9_digest_251 (pv_t 396 (by decide +kernel) rfl) ?_
                      refine px_lload_n dX9_digest_254 rfl ?_
                      refine px_lmul dX9_digest_255 ?_
                      refine px_aload_n dX9_digest_256 rfl ?_
                      refine px_iload_n dX9_digest_257 rfl ?_
                      refine px_iconst (v := nI 1) dX9_digest_258 (by decide) ?_
                      refine c_Z9_port dX9_digest_259 mlX9_357 (by omega) hCA2 hw hn (by rw [dz_port (X := ((T, L), H, B)) (p := i) (i := 1) hio hp8 (by omega)]) (Nat.le_of_ble_eq_true rfl) (dz_ok (dz_port (X := ((T, L), H, B)) (p := i) (i := 1) hio hp8 (by omega)) fun I3 hCA3 hF3 => ?_)
                      refine px_i2l dX9_digest_262 ?_
                      refine px_ladd dX9_digest_263 ?_
                      refine px_lstore_n dX9_digest_264 (by decide) ?_
                      refine px_iconst (v := nI 0) dX9_digest_265 (by decide) ?_
                      refine px_istore dX9_digest_266 (by decide) ?_
                      have key5I : ∀ w : Nat, w ≤ T 405 → ∀ I1 : pv_IT, CA I1 ((T, L), H, B) → (∀ k, 365 ≤ k → I1 k = I k) → pv_X (pv_ZQ E Q) E d bc bs mX9_digest 268 [(0, .ref 0), (1, .long (dgs (dg_pw T i) (2 + (w)) (dgs (dg_port T) (i) (dg_4 ((T, L), H, B))))), (3, .int (nI i)), (4, .int (nI (w)))] [] pv_K0 pv_P0 (I1) (J) := by
                        refine pv_up (T 405) ?_ ?_
                        · intro I1 hCA1 hF1
                          have hC1 : CR I1 1 T L := hCA1.1
                          refine px_iload dX9_digest_268 rfl ?_
                          refine px_aload_n dX9_digest_270 rfl ?_
                          refine px_getR dX9_digest_271 flX9_10 pv_s_main (by decide) (by decide) rfl pv_k_main pv_p_0_0 ?_
                          refine px_getR dX9_digest_274 flX9_37 pv_ship_1.1 (by decide) (by decide) rfl pv_ship_1.2.1 pv_ship_1.2.2.1.1 ?_
                          refine px_getI dX9_digest_277 flX9_41 pv_ship_1.2.2.1.2.1 (by decide) (by decide) rfl pv_ship_1.2.2.1.2.2.1 ?_
                          refine px_iv (y := nI (T 405)) (hC1.2.1.1) ?_
                          refine px_icmp_geN (tgt := 307) dX9_digest_280 (by decide) (by omega) (by omega) (fun _ => ?_) (fun h0 => absurd h0 (by omega))
                          refine px_iincN (c := 1) (by decide) dX9_digest_307 rfl (by decide) ?_
                          refine px_goto (tgt := 223) dX9_digest_310 (by decide) ?_
                          refine px_keep [0, 1, 3] ?_
                          exact KO I1 hCA1 hF1
                        · intro w hi K I1 hCA1 hF1
                          have hC1 : CR I1 1 T L := hCA1.1
                          refine px_iload dX9_digest_268 rfl ?_
                          refine px_aload_n dX9_digest_270 rfl ?_
                          refine px_getR dX9_digest_271 flX9_10 pv_s_main (by decide) (by decide) rfl pv_k_main pv_p_0_0 ?_
                          refine px_getR dX9_digest_274 flX9_37 pv_ship_1.1 (by decide) (by decide) rfl pv_ship_1.2.1 pv_ship_1.2.2.1.1 ?_
                          refine px_getI dX9_digest_277 flX9_41 pv_ship_1.2.2.1.2.1 (by decide) (by decide) rfl pv_ship_1.2.2.1.2.2.1 ?_
                          refine px_iv (y := nI (T 405)) (hC1.2.1.1) ?_
                          refine px_icmp_geN (tgt := 307) dX9_digest_280 (by decide) (by omega) (by omega) (fun h0 => absurd h0 (by omega)) (fun _ => ?_)
                          refine px_ldc2l (v := 31) dX9_digest_283 (pv_t 396 (by decide +kernel) rfl) ?_
                          refine px_lload_n dX9_digest_286 rfl ?_
                          refine px_lmul dX9_digest_287 ?_
                          refine px_aload_n dX9_digest_288 rfl ?_
                          refine px_iload_n dX9_digest_289 rfl ?_
                          refine px_bipush (v := nI 10) dX9_digest_290 (by decide) ?_
                          refine px_iload dX9_digest_292 rfl ?_
                          refine px_iaddN dX9_digest_294 ?_
                          refine c_Z9_port dX9_digest_295 mlX9_357 (by omega) hCA1 hw hn (by rw [dz_port2 (X := ((T, L), H, B)) (p := i) (k := w) hio hp8 hi hn8]) (Nat.le_of_ble_eq_true rfl) (dz_ok (dz_port2 (X := ((T, L), H, B)) (p := i) (k := w) hio hp8 hi hn8) fun I2 hCA2 hF2 => ?_)
                          refine px_i2l dX9_digest_298 ?_
                          refine px_ladd dX9_digest_299 ?_
                          refine px_lstore_n dX9_digest_300 (by decide) ?_
                          refine px_iincN (c := 1) (by decide) dX9_digest_301 rfl (by decide) ?_
                          refine px_goto (tgt := 268) dX9_digest_304 (by decide) ?_
                          refine px_keep [0, 1, 3, 4] ?_
                          exact K I2 hCA2 (fun k hk => (hF2 k hk).trans (hF1 k hk))
                      refine px_keep [0, 1, 3, 4] ?_
                      exact key5I 0 (by omega) I3 hCA3 (fun k hk => (hF3 k hk).trans (hF1b k hk))
                  refine px_iconst (v := nI 0) dX9_digest_221 (by decide) ?_
                  refine px_istore_n dX9_digest_222 (by decide) ?_
                  refine px_keep [0, 1, 3] ?_
                  exact key5 0 (by omega) I1 hCA1 hF1
                · intro i hi K I1 hCA1 hF1
                  have hio := hi
                  have hsk := hsh i (by omega)
                  have KO := K
                  clear K
                  have hC1 : CR I1 1 T L := hCA1.1
                  refine px_iload_n dX9_digest_128 rfl ?_
                  refine px_aload_n dX9_digest_129 rfl ?_
                  refine px_getR dX9_digest_130 flX9_10 pv_s_main (by decide) (by decide) rfl pv_k_main pv_p_0_0 ?_
                  refine px_getR dX9_digest_133 flX9_37 pv_ship_1.1 (by decide) (by decide) rfl pv_ship_1.2.1 pv_ship_1.2.2.1.1 ?_
                  refine px_getI dX9_digest_136 flX9_41 pv_ship_1.2.2.1.2.1 (by decide) (by decide) rfl pv_ship_1.2.2.1.2.2.1 ?_
                  refine px_iv (y := nI (T 405)) (hC1.2.1.1) ?_
                  refine px_icmp_geN (tgt := 221) dX9_digest_139 (by decide) (by omega) (by omega) (fun h0 => absurd h0 (by omega)) (fun _ => ?_)
                  refine px_iconst (v := nI 0) dX9_digest_142 (by decide) ?_
                  refine px_istore dX9_digest_143 (by decide) ?_
                  have key4I : ∀ w : Nat, w ≤ 10 → ∀ I1 : pv_IT, CA I1 ((T, L), H, B) → (∀ k, 365 ≤ k → I1 k = I k) → pv_X (pv_ZQ E Q) E d bc bs mX9_digest 145 [(0, .ref 0), (1, .long (dgs (dg_kw (T, L) i) (w) (dgs (dg_kind (T, L)) (i) (dg_3 ((T, L), H, B))))), (3, .int (nI i)), (4, .int (nI (w)))] [] pv_K0 pv_P0 (I1) (J) := by
                    refine pv_up (10) ?_ ?_
                    · intro I1 hCA1 hF1
                      have hC1 : CR I1 1 T L := hCA1.1
                      refine px_iload dX9_digest_145 rfl ?_
                      refine px_bipush (v := nI 9) dX9_digest_147 (by decide) ?_
                      refine px_icmp_gtN (tgt := 173) dX9_digest_149 (by decide) (by omega) (by omega) (fun _ => ?_) (fun h0 => absurd h0 (by omega))
                      refine px_aload_n dX9_digest_173 rfl ?_
                      refine px_getR dX9_digest_174 flX9_16 pv_s_main (by decide) (by decide) rfl pv_k_main pv_p_0_1 ?_
                      refine px_aload_n dX9_digest_177 rfl ?_
                      refine px_getR dX9_digest_178 flX9_10 pv_s_main (by decide) (by decide) rfl pv_k_main pv_p_0_0 ?_
                      refine c_X7_become dX9_digest_181 mlX9_317 (by omega) pv_ship_45 pv_ship_1 hC1 (by omega) (Nat.le_of_ble_eq_true rfl) (fun I2 hC2 hF2 => ?_)
                      refine px_ldc2l (v := 31) dX9_digest_184 (pv_t 396 (by decide +kernel) rfl) ?_
                      refine px_lload_n dX9_digest_187 rfl ?_
                      refine px_lmul dX9_digest_188 ?_
                      refine px_aload_n dX9_digest_189 rfl ?_
                      refine px_getR dX9_digest_190 flX9_16 pv_s_main (by decide) (by decide) rfl pv_k_main pv_p_0_1 ?_
                      refine px_iload_n dX9_digest_193 rfl ?_
                      refine px_bipush (v := nI 60) dX9_digest_194 (by decide) ?_
                      refine c_X7_firstShort dX9_digest_196 mlX9_322 (by omega) pv_ship_45 hC2 hdy (by omega) (by omega) (by omega) (Nat.le_of_ble_eq_true rfl) (fun I3 hF3 => ?_)
                      have hFk : ∀ k, k < 45 ∨ 89 ≤ k → I3 k = I1 k := fun k hk => (hF3 k (by omega)).trans (hF2 k (by omega))
                      have hCA3 := CA_trial hCA1 hFk
                      refine px_i2l dX9_digest_199 ?_
                      refine px_ladd dX9_digest_200 ?_
                      refine px_lstore_n dX9_digest_201 (by decide) ?_
                      refine px_ldc2l (v := 31) dX9_digest_202 (pv_t 396 (by decide +kernel) rfl) ?_
                      refine px_lload_n dX9_digest_205 rfl ?_
                      refine px_lmul dX9_digest_206 ?_
                      refine px_aload_n dX9_digest_207 rfl ?_
                      refine px_iload_n dX9_digest_208 rfl ?_
                      refine c_Z9_bestStore dX9_digest_209 mlX9_354 (by omega) hCA3 hw hn (by rw [dz_best (X := ((T, L), H, B)) (l := i) hio hn8]) (Nat.le_of_ble_eq_true rfl) (dz_ok (dz_best (X := ((T, L), H, B)) (l := i) hio hn8) fun I4 hCA4 hF4 => ?_)
                      refine px_i2l dX9_digest_212 ?_
                      refine px_ladd dX9_digest_213 ?_
                      refine px_lstore_n dX9_digest_214 (by decide) ?_
                      refine px_iincN (c := 1) (by decide) dX9_digest_215 rfl (by decide) ?_
                      refine px_goto (tgt := 128) dX9_digest_218 (by decide) ?_
                      refine px_keep [0, 1, 3] ?_
                      exact KO I4 hCA4 (fun k hk => (hF4 k hk).trans ((hFk k (by omega)).trans (hF1 k hk)))
                    · intro w hi K I1 hCA1 hF1
                      refine px_iload dX9_digest_145 rfl ?_
                      refine px_bipush (v := nI 9) dX9_digest_147 (by decide) ?_
                      refine px_icmp_gtN (tgt := 173) dX9_digest_149 (by decide) (by omega) (by omega) (fun h0 => absurd h0 (by omega)) (fun _ => ?_)
                      refine px_ldc2l (v := 31) dX9_digest_152 (pv_t 396 (by decide +kernel) rfl) ?_
                      refine px_lload_n dX9_digest_155 rfl ?_
                      refine px_lmul dX9_digest_156 ?_
                      refine px_aload_n dX9_digest_157 rfl ?_
                      refine px_iload_n dX9_digest_158 rfl ?_
                      refine px_iload dX9_digest_159 rfl ?_
                      refine c_Z9_kind dX9_digest_161 mlX9_351 (by omega) hCA1 hw hn (by rw [dz_kind (X := ((T, L), H, B)) (l := i) (i := w) hio hn8 (by omega)]) (Nat.le_of_ble_eq_true rfl) (dz_ok (dz_kind (X := ((T, L), H, B)) (l := i) (i := w) hio hn8 (by omega)) fun I2 hCA2 hF2 => ?_)
                      refine px_i2l dX9_digest_164 ?_
                      refine px_ladd dX9_digest_165 ?_
                      refine px_lstore_n dX9_digest_166 (by decide) ?_
                      refine px_iincN (c := 1) (by decide) dX9_digest_167 rfl (by decide) ?_
                      refine px_goto (tgt := 145) dX9_digest_170 (by decide) ?_
                      refine px_keep [0, 1, 3, 4] ?_
                      exact K I2 hCA2 (fun k hk => (hF2 k hk).trans (hF1 k hk))
                  refine px_keep [0, 1, 3, 4] ?_
                  exact key4I 0 (by omega) I1 hCA1 hF1
              refine px_iconst (v := nI 0) dX9_digest_126 (by decide) ?_
              refine px_istore_n dX9_digest_127 (by decide) ?_
              refine px_keep [0, 1, 3] ?_
              exact key4 0 (by omega) I1 hCA1 hF1
            · intro i hi K I1 hCA1 hF1
              have hio := hi
              have KO := K
              clear K
              have hC1 : CR I1 1 T L := hCA1.1
              refine px_iload_n dX9_digest_85 rfl ?_
              refine px_iconst (v := nI 3) dX9_digest_86 (by decide) ?_
              refine px_icmp_geN (tgt := 126) dX9_digest_87 (by decide) (by omega) (by omega) (fun h0 => absurd h0 (by omega)) (fun _ => ?_)
              refine px_iconst (v := nI 0) dX9_digest_90 (by decide) ?_
              refine px_istore dX9_digest_91 (by decide) ?_
              have key3I : ∀ w : Nat, w ≤ 4 → ∀ I1 : pv_IT, CA I1 ((T, L), H, B) → (∀ k, 365 ≤ k → I1 k = I k) → pv_X (pv_ZQ E Q) E d bc bs mX9_digest 93 [(0, .ref 0), (1, .long (dgs (fun j g => mx g (nI (pt_store (T, L) (j / 4) (j % 4))).toInt64) (4 * i + (w)) (dg_2 ((T, L), H, B)))), (3, .int (nI i)), (4, .int (nI (w)))] [] pv_K0 pv_P0 (I1) (J) := by
                refine pv_up (4) ?_ ?_
                · intro I1 hCA1 hF1
                  refine px_iload dX9_digest_93 rfl ?_
                  refine px_iconst (v := nI 3) dX9_digest_95 (by decide) ?_
                  refine px_icmp_gtN (tgt := 120) dX9_digest_96 (by decide) (by omega) (by omega) (fun _ => ?_) (fun h0 => absurd h0 (by omega))
                  refine px_iincN (c := 1) (by decide) dX9_digest_120 rfl (by decide) ?_
                  refine px_goto (tgt := 85) dX9_digest_123 (by decide) ?_
                  refine px_keep [0, 1, 3] ?_
                  rw [show 4 * (i + 1) = 4 * i + 4 by omega] at KO
                  exact KO I1 hCA1 hF1
                · intro w hi K I1 hCA1 hF1
                  refine px_iload dX9_digest_93 rfl ?_
                  refine px_iconst (v := nI 3) dX9_digest_95 (by decide) ?_
                  refine px_icmp_gtN (tgt := 120) dX9_digest_96 (by decide) (by omega) (by omega) (fun h0 => absurd h0 (by omega)) (fun _ => ?_)
                  refine px_ldc2l (v := 31) dX9_digest_99 (pv_t 396 (by decide +kernel) rfl) ?_
                  refine px_lload_n dX9_digest_102 rfl ?_
                  refine px_lmul dX9_digest_103 ?_
                  refine px_aload_n dX9_digest_104 rfl ?_
                  refine px_iload_n dX9_digest_105 rfl ?_
                  refine px_iload dX9_digest_106 rfl ?_
                  refine c_Z9_store dX9_digest_108 mlX9_348 (by omega) hCA1 hw hn (by rw [dz_store (X := ((T, L), H, B)) (l := i) (i := w) hio (by omega)]) (Nat.le_of_ble_eq_true rfl) (dz_ok (dz_store (X := ((T, L), H, B)) (l := i) (i := w) hio (by omega)) fun I2 hCA2 hF2 => ?_)
                  refine px_i2l dX9_digest_111 ?_
                  refine px_ladd dX9_digest_112 ?_
                  refine px_lstore_n dX9_digest_113 (by decide) ?_
                  refine px_iincN (c := 1) (by decide) dX9_digest_114 rfl (by decide) ?_
                  refine px_goto (tgt := 93) dX9_digest_117 (by decide) ?_
                  refine px_keep [0, 1, 3, 4] ?_
                  have hstep := dg_at (f := (fun j g => mx g (nI (pt_store (T, L) (j / 4) (j % 4))).toInt64)) (g := dg_2 ((T, L), H, B)) (a := 4 * i + w) (b := 4 * i + (w + 1)) (v := nI (pt_store (T, L) i w)) (by omega) rfl (by show mx _ (nI (pt_store (T, L) ((4 * i + w) / 4) ((4 * i + w) % 4))).toInt64 = _; rw [show (4 * i + w) / 4 = i by omega, show (4 * i + w) % 4 = w by omega])
                  rw [← hstep] at K
                  exact K I2 hCA2 (fun k hk => (hF2 k hk).trans (hF1 k hk))
              refine px_keep [0, 1, 3, 4] ?_
              exact key3I 0 (by omega) I1 hCA1 hF1
          refine px_iconst (v := nI 0) dX9_digest_83 (by decide) ?_
          refine px_istore_n dX9_digest_84 (by decide) ?_
          refine px_keep [0, 1, 3] ?_
          exact key3 0 (by omega) I1 hCA1 hF1
        · intro i hi K I1 hCA1 hF1
          have hio := hi
          have KO := K
          clear K
          have hC1 : CR I1 1 T L := hCA1.1
          refine px_iload_n dX9_digest_33 rfl ?_
          refine px_aload_n dX9_digest_34 rfl ?_
          refine px_getR dX9_digest_35 flX9_10 pv_s_main (by decide) (by decide) rfl pv_k_main pv_p_0_0 ?_
          refine px_getR dX9_digest_38 flX9_66 pv_ship_1.1 (by decide) (by decide) rfl pv_ship_1.2.1 pv_ship_1.2.2.2.2.1.1 ?_
          refine px_getI dX9_digest_41 flX9_178 pv_ship_1.2.2.2.2.1.2.1 (by decide) (by decide) rfl pv_ship_1.2.2.2.2.1.2.2.1 ?_
          refine px_iv (y := nI (L.length)) (hC1.2.2.2.1.1) ?_
          refine px_icmp_geN (tgt := 83) dX9_digest_44 (by decide) (by omega) (by omega) (fun h0 => absurd h0 (by omega)) (fun _ => ?_)
          refine px_iconst (v := nI 0) dX9_digest_47 (by decide) ?_
          refine px_istore dX9_digest_48 (by decide) ?_
          have key2I : ∀ w : Nat, w ≤ 6 → ∀ I1 : pv_IT, CA I1 ((T, L), H, B) → (∀ k, 365 ≤ k → I1 k = I k) → pv_X (pv_ZQ E Q) E d bc bs mX9_digest 50 [(0, .ref 0), (1, .long (dgs (fun j g => mx g (nI (pt_lot (T, L) (j / 6) (j % 6))).toInt64) (6 * i + (w)) (dg_1 ((T, L), H, B)))), (3, .int (nI i)), (4, .int (nI (w)))] [] pv_K0 pv_P0 (I1) (J) := by
            refine pv_up (6) ?_ ?_
            · intro I1 hCA1 hF1
              refine px_iload dX9_digest_50 rfl ?_
              refine px_iconst (v := nI 5) dX9_digest_52 (by decide) ?_
              refine px_icmp_gtN (tgt := 77) dX9_digest_53 (by decide) (by omega) (by omega) (fun _ => ?_) (fun h0 => absurd h0 (by omega))
              refine px_iincN (c := 1) (by decide) dX9_digest_77 rfl (by decide) ?_
              refine px_goto (tgt := 33) dX9_digest_80 (by decide) ?_
              refine px_keep [0, 1, 3] ?_
              rw [show 6 * (i + 1) = 6 * i + 6 by omega] at KO
              exact KO I1 hCA1 hF1
            · intro w hi K I1 hCA1 hF1
              refine px_iload dX9_digest_50 rfl ?_
              refine px_iconst (v := nI 5) dX9_digest_52 (by decide) ?_
              refine px_icmp_gtN (tgt := 77) dX9_digest_53 (by decide) (by omega) (by omega) (fun h0 => absurd h0 (by omega)) (fun _ => ?_)
              refine px_ldc2l (v := 31) dX9_digest_56 (pv_t 396 (by decide +kernel) rfl) ?_
              refine px_lload_n dX9_digest_59 rfl ?_
              refine px_lmul dX9_digest_60 ?_
              refine px_aload_n dX9_digest_61 rfl ?_
              refine px_iload_n dX9_digest_62 rfl ?_
              refine px_iload dX9_digest_63 rfl ?_
              refine c_Z9_lot dX9_digest_65 mlX9_345 (by omega) hCA1 hw hn (by rw [dz_lot (X := ((T, L), H, B)) (l := i) (i := w) hio h31 (by omega)]) (Nat.le_of_ble_eq_true rfl) (dz_ok (dz_lot (X := ((T, L), H, B)) (l := i) (i := w) hio h31 (by omega)) fun I2 hCA2 hF2 => ?_)
              refine px_i2l dX9_digest_68 ?_
              refine px_ladd dX9_digest_69 ?_
              refine px_lstore_n dX9_digest_70 (by decide) ?_
              refine px_iincN (c := 1) (by decide) dX9_digest_71 rfl (by decide) ?_
              refine px_goto (tgt := 50) dX9_digest_74 (by decide) ?_
              refine px_keep [0, 1, 3, 4] ?_
              have hstep := dg_at (f := (fun j g => mx g (nI (pt_lot (T, L) (j / 6) (j % 6))).toInt64)) (g := dg_1 ((T, L), H, B)) (a := 6 * i + w) (b := 6 * i + (w + 1)) (v := nI (pt_lot (T, L) i w)) (by omega) rfl (by show mx _ (nI (pt_lot (T, L) ((6 * i + w) / 6) ((6 * i + w) % 6))).toInt64 = _; rw [show (6 * i + w) / 6 = i by omega, show (6 * i + w) % 6 = w by omega])
              rw [← hstep] at K
              exact K I2 hCA2 (fun k hk => (hF2 k hk).trans (hF1 k hk))
          refine px_keep [0, 1, 3, 4] ?_
          exact key2I 0 (by omega) I1 hCA1 hF1
      refine px_iconst (v := nI 0) dX9_digest_31 (by decide) ?_
      refine px_istore_n dX9_digest_32 (by decide) ?_
      refine px_keep [0, 1, 3] ?_
      exact key2 0 (by omega) I1 hCA1 hF1
    · intro i hi K I1 hCA1 hF1
      refine px_iload_n dX9_digest_6 rfl ?_
      refine px_bipush (v := nI 12) dX9_digest_7 (by decide) ?_
      refine px_icmp_gtN (tgt := 31) dX9_digest_9 (by decide) (by omega) (by omega) (fun h0 => absurd h0 (by omega)) (fun _ => ?_)
      refine px_ldc2l (v := 31) dX9_digest_12 (pv_t 396 (by decide +kernel) rfl) ?_
      refine px_lload_n dX9_digest_15 rfl ?_
      refine px_lmul dX9_digest_16 ?_
      refine px_aload_n dX9_digest_17 rfl ?_
      refine px_iload_n dX9_digest_18 rfl ?_
      refine c_Z9_count dX9_digest_19 mlX9_342 (by omega) hCA1 hw hn (by rw [dz_count (X := ((T, L), H, B)) (i := i) (by omega)]) (Nat.le_of_ble_eq_true rfl) (dz_ok (dz_count (X := ((T, L), H, B)) (i := i) (by omega)) fun I2 hCA2 hF2 => ?_)
      refine px_i2l dX9_digest_22 ?_
      refine px_ladd dX9_digest_23 ?_
      refine px_lstore_n dX9_digest_24 (by decide) ?_
      refine px_iincN (c := 1) (by decide) dX9_digest_25 rfl (by decide) ?_
      refine px_goto (tgt := 6) dX9_digest_28 (by decide) ?_
      refine px_keep [0, 1, 3] ?_
      exact K I2 hCA2 (fun k hk => (hF2 k hk).trans (hF1 k hk))
  refine px_keep [0, 1, 3] ?_
  exact key1 0 (by omega) I hCA (fun _ _ => rfl)
theorem c_X9_digest {z : pv_Z} {E : pv_E} {d bc bs : Nat} {J : pv_JT} {I : pv_IT} {mi : pv_MI} {pc idx : Nat} {lv : pv_LV} {st : List Value} {T : pv_T} {L : List pv_Lot} {H : List pv_S} {B : List Nat} {n : Nat} (hd : decode mi.2.1 pc = .ok (.invokevirtual idx, 3)) (hlk : Cond.methodLink mi.1.cls idx mX9_digest.1 ∈ pv_W) (hD : 10+1 ≤ d) (hCA : CA I ((T, L), H, B)) (hw : wx n ((T, L), H, B)) (hn : n ≤ 600) (hcat : (st.map fun v => v.category).sum ≤ 8) (K : ∀ I' : pv_IT, CA I' ((T, L), H, B) → (∀ k, 365 ≤ k → I' k = I k) → pv_X z E d bc bs mi (pc + 3) lv ((.long (pt_dig ((T, L), H, B))) :: st) pv_K0 pv_P0 (I') (J)) : pv_X z E d bc bs mi pc lv (.ref (0) :: st) pv_K0 pv_P0 I J := by
  obtain ⟨d, rfl⟩ : ∃ d0, d = d0 + 1 := ⟨d - 1, by omega⟩
  have key := px_callV (bc := bc) (bs := bs) (bc1 := 0) (bs1 := 0) (as := []) (E := E) (z := z) (lv := lv) hd mvX9_digest hlk pv_s_main (by decide) rfl pv_k_main rfl rfl hcat (by exact Nat.le_of_ble_eq_true rfl) (s_X9_digest (by omega) hCA hw hn K)
  rw [Nat.zero_add, Nat.zero_add] at key
  exact key
