/-! The reference: its digest. -/
set_option maxRecDepth 100000 in
set_option maxHeartbeats 4000000 in
theorem s_X10_meanAge {Q : pv_Q} {E : pv_E} {d bc bs : Nat} {J : pv_JT} {I : pv_IT} {T : pv_T} {L : List pv_Lot} {H : List pv_S} {B : List Nat} {n : Nat} (hD : 8 ≤ d) (hMA : MA I ((T, L), H, B)) (hw : wx n ((T, L), H, B)) (hn : n ≤ 600) (h : ∀ I' : pv_IT, MA I' ((T, L), H, B) → (∀ k, k < 365 → I' k = I k) → I' 365 0 = nI 0 → Q (.inl (some (.double (pt_mean L)))) pv_K0 pv_P0 (I') (J)) : pv_X (pv_ZQ E Q) E d bc bs mX10_meanAge 0 [(0, .ref (365))] [] pv_K0 pv_P0 I J := by
  obtain ⟨hM, hS, hB⟩ := id hMA
  replace hM : MR (I 366) T L := hM
  replace hS : MSV I H := hS
  replace hB : MB I B := hB
  have hdy : dy (T, L) := hw.1.1
  have htb : tb T := hdy.1
  have hlb : lbs L := hdy.2.1
  have h31 : L.length ≤ 31 := hlb.1
  have h30 : L.length ≤ 30 := hw.1.2.1
  have h404 : T 404 ≤ 60 * n := hw.1.2.2.1
  have hn8 : T 405 ≤ 8 := htb.2.2.1
  have hp8 : T 407 ≤ 8 := htb.2.2.2.2.2.1.1
  have h10 : T 408 ≤ 10 := htb.2.2.2.2.2.2.2.1
  have hwk : wk (T, L) := ⟨hw.1.2.2.2.2.1, hw.1.2.2.2.2.2.1, hw.1.2.2.2.2.2.2⟩
  refine px_aload_n dX10_meanAge_0 rfl ?_
  refine px_iconst (v := nI 0) dX10_meanAge_1 (by decide) ?_
  refine px_putI dX10_meanAge_2 fwX10_31 pv_s_model (by decide) (by decide) rfl pv_k_model ?_
  refine px_aload_n dX10_meanAge_5 rfl ?_
  obtain ⟨I0, hI0⟩ : ∃ I0, I0 = pv_uI I 365 0 (nI 0) := ⟨_, rfl⟩
  rw [← hI0]
  obtain ⟨hM0, hS0, hB0, hT0, hK0, hF0, hG0⟩ := pm_zero hM hS hB hI0
  refine c_X10_meanNow dX10_meanAge_6 mlX10_198 (by omega) hM0 (Nat.le_of_ble_eq_true rfl) ?_
  exact px_dret dX10_meanAge_9 rfl (Or.inl rfl) (h I0 ⟨hM0, hS0, hB0⟩ hK0 hT0)
theorem c_X10_meanAge {z : pv_Z} {E : pv_E} {d bc bs : Nat} {J : pv_JT} {I : pv_IT} {mi : pv_MI} {pc idx : Nat} {lv : pv_LV} {st : List Value} {T : pv_T} {L : List pv_Lot} {H : List pv_S} {B : List Nat} {n : Nat} (hd : decode mi.2.1 pc = .ok (.invokevirtual idx, 3)) (hlk : Cond.methodLink mi.1.cls idx mX10_meanAge.1 ∈ pv_W) (hD : 8+1 ≤ d) (hMA : MA I ((T, L), H, B)) (hw : wx n ((T, L), H, B)) (hn : n ≤ 600) (hcat : (st.map fun v => v.category).sum ≤ 8) (K : ∀ I' : pv_IT, MA I' ((T, L), H, B) → (∀ k, k < 365 → I' k = I k) → I' 365 0 = nI 0 → pv_X z E d bc bs mi (pc + 3) lv ((.double (pt_mean L)) :: st) pv_K0 pv_P0 (I') (J)) : pv_X z E d bc bs mi pc lv (.ref (365) :: st) pv_K0 pv_P0 I J := by
  obtain ⟨d, rfl⟩ : ∃ d0, d = d0 + 1 := ⟨d - 1, by omega⟩
  have key := px_callV (bc := bc) (bs := bs) (bc1 := 0) (bs1 := 0) (as := []) (E := E) (z := z) (lv := lv) hd mvX10_meanAge hlk pv_s_model (by decide) rfl pv_k_model rfl rfl hcat (by exact Nat.le_of_ble_eq_true rfl) (s_X10_meanAge (by omega) hMA hw hn K)
  rw [Nat.zero_add, Nat.zero_add] at key
  exact key
set_option maxRecDepth 100000 in
set_option maxHeartbeats 4000000 in
theorem s_X10_digest {Q : pv_Q} {E : pv_E} {d bc bs : Nat} {J : pv_JT} {I : pv_IT} {T : pv_T} {L : List pv_Lot} {H : List pv_S} {B : List Nat} {n : Nat} (hD : 8 ≤ d) (hMA : MA I ((T, L), H, B)) (hw : wx n ((T, L), H, B)) (hn : n ≤ 600) (h : ∀ (I' : pv_IT) (J' : pv_JT), MA I' ((T, L), H, B) → (∀ k, k < 365 → I' k = I k) → I' 365 0 = nI 0 → JF J J' → Q (.inl (some (.long (pt_dig ((T, L), H, B))))) pv_K0 pv_P0 (I') (J')) : pv_X (pv_ZQ E Q) E d bc bs mX10_digest 0 [(0, .ref (365))] [] pv_K0 pv_P0 I J := by
  obtain ⟨hM, hS, hB⟩ := id hMA
  replace hM : MR (I 366) T L := hM
  replace hS : MSV I H := hS
  replace hB : MB I B := hB
  have hdy : dy (T, L) := hw.1.1
  have htb : tb T := hdy.1
  have hlb : lbs L := hdy.2.1
  have h31 : L.length ≤ 31 := hlb.1
  have h30 : L.length ≤ 30 := hw.1.2.1
  have h404 : T 404 ≤ 60 * n := hw.1.2.2.1
  have hn8 : T 405 ≤ 8 := htb.2.2.1
  have hp8 : T 407 ≤ 8 := htb.2.2.2.2.2.1.1
  have h10 : T 408 ≤ 10 := htb.2.2.2.2.2.2.2.1
  have hwk : wk (T, L) := ⟨hw.1.2.2.2.2.1, hw.1.2.2.2.2.2.1, hw.1.2.2.2.2.2.2⟩
  have hsk : ∀ k, k < 8 → T (28 + 5 * k) ≤ 216000 * n := hw.1.2.2.2.1
  have hll := pt_mean_self hlb
  refine px_aload_n dX10_digest_0 rfl ?_
  refine px_iconst (v := nI 0) dX10_digest_1 (by decide) ?_
  refine px_putI dX10_digest_2 fwX10_31 pv_s_model (by decide) (by decide) rfl pv_k_model ?_
  obtain ⟨I0, hI0⟩ : ∃ I0, I0 = pv_uI I 365 0 (nI 0) := ⟨_, rfl⟩
  rw [← hI0]
  obtain ⟨hM0, hS0, hB0, hT0, hK0, hF0, hG0⟩ := pm_zero hM hS hB hI0
  refine px_aload_n dX10_digest_5 rfl ?_
  refine px_ldc2l (v := 2203) dX10_digest_6 (pv_t 1357 (by decide +kernel) rfl) ?_
  refine px_putL dX10_digest_9 fwX10_204 pv_s_model (by decide) (by decide) rfl pv_k_model ?_
  obtain ⟨J0, hJ0e⟩ : ∃ J0, J0 = pv_uJ J 365 12 2203 := ⟨_, rfl⟩
  rw [← hJ0e]
  have hJ0 : J0 365 12 = 2203 := by rw [hJ0e]; exact pv_uJ_at
  have hFJ0 : JF J J0 := fun k hk => by rw [hJ0e]; exact pv_uJ_ne hk
  have key1 : ∀ i : Nat, i ≤ 13 → ∀ J1 : pv_JT, J1 365 12 = dgs (fun w g => mx g (pt_count ((T, L), H, B) w).toInt64) (i) (2203) → JF J J1 → pv_X (pv_ZQ E Q) E d bc bs mX10_digest 14 [(0, .ref 365), (1, .int (nI (i)))] [] pv_K0 pv_P0 (I0) (J1) := by
    refine pv_up (13) ?_ ?_
    · intro J1 hJ1 hFJ1
      refine px_iload_n dX10_digest_14 rfl ?_
      refine px_bipush (v := nI 13) dX10_digest_15 (by decide) ?_
      refine px_icmp_geN (tgt := 36) dX10_digest_17 (by decide) (by omega) (by omega) (fun _ => ?_) (fun h0 => absurd h0 (by omega))
      have hJ1x : J1 365 12 = dg_1 ((T, L), H, B) := hJ1
      clear hJ1
      have hJ1 := hJ1x
      have key2 : ∀ i : Nat, i ≤ 6 * L.length → ∀ J2 : pv_JT, J2 365 12 = dgs (fun j g => mx g (nI (pt_lot (T, L) (j / 6) (j % 6))).toInt64) (i) (dg_1 ((T, L), H, B)) → JF J J2 → pv_X (pv_ZQ E Q) E d bc bs mX10_digest 38 [(0, .ref 365), (1, .int (nI (i)))] [] pv_K0 pv_P0 (I0) (J2) := by
        refine pv_up (6 * L.length) ?_ ?_
        · intro J2 hJ2 hFJ2
          refine px_iload_n dX10_digest_38 rfl ?_
          refine px_bipush (v := nI 6) dX10_digest_39 (by decide) ?_
          refine px_aload_n dX10_digest_41 rfl ?_
          refine px_getR dX10_digest_42 flX10_7 pv_s_model (by decide) (by decide) rfl pv_k_model pv_p_365_1 ?_
          refine px_sipush (v := nI 406) dX10_digest_45 (by decide) ?_
          refine px_iald (j := 406) dX10_digest_48 pv_a_z.1 rfl (by omega) pv_a_z.2.2 pv_a_z.2.1 ?_
          refine px_iv (y := nI (L.length)) (hM0.2.1) ?_
          refine px_imulN dX10_digest_49 ?_
          refine px_icmp_geN (tgt := 76) dX10_digest_50 (by decide) (by omega) (by omega) (fun _ => ?_) (fun h0 => absurd h0 (by omega))
          have hJ2x : J2 365 12 = dg_2 ((T, L), H, B) := hJ2
          clear hJ2
          have hJ2 := hJ2x
          have key3 : ∀ i : Nat, i ≤ 12 → ∀ J3 : pv_JT, J3 365 12 = dgs (fun j g => mx g (nI (pt_store (T, L) (j / 4) (j % 4))).toInt64) (i) (dg_2 ((T, L), H, B)) → JF J J3 → pv_X (pv_ZQ E Q) E d bc bs mX10_digest 78 [(0, .ref 365), (1, .int (nI (i)))] [] pv_K0 pv_P0 (I0) (J3) := by
            refine pv_up (12) ?_ ?_
            · intro J3 hJ3 hFJ3
              refine px_iload_n dX10_digest_78 rfl ?_
              refine px_bipush (v := nI 12) dX10_digest_79 (by decide) ?_
              refine px_icmp_geN (tgt := 105) dX10_digest_81 (by decide) (by omega) (by omega) (fun _ => ?_) (fun h0 => absurd h0 (by omega))
              have hJ3x : J3 365 12 = dg_3 ((T, L), H, B) := hJ3
              clear hJ3
              have hJ3 := hJ3x
              refine px_aload_n dX10_digest_105 rfl ?_
              refine c_X10_mixKinds dX10_digest_106 mlX10_214 (by omega) hM0 hJ3 hdy (by omega) (fun k hk => by have := hsk k hk; omega) (Nat.le_of_ble_eq_true rfl) (fun I4 J4 hZ4 hJ4 hG4 => ?_)
              have hM4 := ZF_M hZ4 hM0
              refine px_aload_n dX10_digest_109 rfl ?_
              refine c_X10_mixPorts dX10_digest_110 mlX10_217 (by omega) hM4 htb hJ4 (Nat.le_of_ble_eq_true rfl) (fun J5 hJ5x hG5 => ?_)
              have hJ5 : J5 365 12 = dg_5 ((T, L), H, B) := hJ5x
              have hFJ5 : JF J J5 := JF_t hFJ3 (JF_t hG4 hG5)
              have key6 : ∀ i : Nat, i ≤ 12 * T 408 → ∀ J6 : pv_JT, J6 365 12 = dgs (fun j g => mx g (nI (pt_menu (T, L) (j / 12) (j / 3 % 4) (j % 3))).toInt64) (i) (dg_5 ((T, L), H, B)) → JF J J6 → pv_X (pv_ZQ E Q) E d bc bs mX10_digest 115 [(0, .ref 365), (1, .int (nI (i)))] [] pv_K0 pv_P0 (I4) (J6) := by
                refine pv_up (12 * T 408) ?_ ?_
                · intro J6 hJ6 hFJ6
                  refine px_iload_n dX10_digest_115 rfl ?_
                  refine px_bipush (v := nI 12) dX10_digest_116 (by decide) ?_
                  refine px_aload_n dX10_digest_118 rfl ?_
                  refine px_getR dX10_digest_119 flX10_7 pv_s_model (by decide) (by decide) rfl pv_k_model pv_p_365_1 ?_
                  refine px_sipush (v := nI 408) dX10_digest_122 (by decide) ?_
                  refine px_iald (j := 408) dX10_digest_125 pv_a_z.1 rfl (by omega) pv_a_z.2.2 pv_a_z.2.1 ?_
                  refine px_iv (y := nI (T (408))) (hM4.1 (408) (by omega) (by omega) (by omega)) ?_
                  refine px_imulN dX10_digest_126 ?_
                  refine px_icmp_geN (tgt := 157) dX10_digest_127 (by decide) (by omega) (by omega) (fun _ => ?_) (fun h0 => absurd h0 (by omega))
                  have hJ6x : J6 365 12 = dg_6 ((T, L), H, B) := hJ6
                  clear hJ6
                  have hJ6 := hJ6x
                  have key7 : ∀ i : Nat, i ≤ 5 → ∀ (I7 : pv_IT) (J7 : pv_JT), ZF I0 I7 → J7 365 12 = dgs (fun w g => mx g (pt_ahead (T, L) 14 w).toInt64) (i) (dg_6 ((T, L), H, B)) → JF J J7 → pv_X (pv_ZQ E Q) E d bc bs mX10_digest 159 [(0, .ref 365), (1, .int (nI (i)))] [] pv_K0 pv_P0 (I7) (J7) := by
                    refine pv_up (5) ?_ ?_
                    · intro I7 J7 hZ7 hJ7 hFJ7
                      refine px_iload_n dX10_digest_159 rfl ?_
                      refine px_iconst (v := nI 5) dX10_digest_160 (by decide) ?_
                      refine px_icmp_geN (tgt := 182) dX10_digest_161 (by decide) (by omega) (by omega) (fun _ => ?_) (fun h0 => absurd h0 (by omega))
                      have hJ7x : J7 365 12 = dg_7 ((T, L), H, B) := hJ7
                      clear hJ7
                      have hJ7 := hJ7x
                      have hM7 := ZF_M hZ7 hM0
                      refine px_aload_n dX10_digest_182 rfl ?_
                      refine px_aload_n dX10_digest_183 rfl ?_
                      refine c_X10_meanNow dX10_digest_184 mlX10_198 (by omega) hM7 (Nat.le_of_ble_eq_true rfl) ?_
                      refine c_J_bits dX10_digest_187 mlX10_220 (by omega) hll (Nat.le_of_ble_eq_true rfl) ?_
                      refine c_X10_mix dX10_digest_190 mlX10_208 (by omega) hJ7 (Nat.le_of_ble_eq_true rfl) (fun J8 hJ8x hG8 => ?_)
                      have hJ8 : J8 365 12 = dg_8 ((T, L), H, B) := hJ8x
                      have hL7 : I7 365 5 = nI B.length := (congrFun (hZ7.2 365 (by omega) (by omega) (by omega)) 5).trans hB0.1
                      have hB7 : ∀ j, j < B.length → I7 369 j = nI (bf B j) := fun j hj => (congrFun (hZ7.2 369 (by omega) (by omega) (by omega)) j).trans (hB0.2.2 j hj)
                      have h60 := hB0.2.1
                      refine px_aload_n dX10_digest_193 rfl ?_
                      refine px_aload_n dX10_digest_194 rfl ?_
                      refine px_getI dX10_digest_195 flX10_144 pv_s_model (by decide) (by decide) rfl pv_k_model ?_
                      refine px_iv (y := nI (B.length)) (hL7) ?_
                      refine px_i2l dX10_digest_198 ?_
                      refine c_X10_mix dX10_digest_199 mlX10_208 (by omega) hJ8 (Nat.le_of_ble_eq_true rfl) (fun J9 hJ9x hG9 => ?_)
                      have hJa : J9 365 12 = dg_9 ((T, L), H, B) := hJ9x
                      have hFJ9 : JF J J9 := JF_t hFJ7 (JF_t hG8 hG9)
                      have keyA : ∀ i : Nat, i ≤ B.length → ∀ Ja : pv_JT, Ja 365 12 = dgs (fun j g => mx g (nI (bf B j)).toInt64) (i) (dg_9 ((T, L), H, B)) → JF J Ja → pv_X (pv_ZQ E Q) E d bc bs mX10_digest 204 [(0, .ref 365), (1, .int (nI (i)))] [] pv_K0 pv_P0 (I7) (Ja) := by
                        refine pv_up (B.length) ?_ ?_
                        · intro Ja hJa hFJa
                          refine px_iload_n dX10_digest_204 rfl ?_
                          refine px_aload_n dX10_digest_205 rfl ?_
                          refine px_getI dX10_digest_206 flX10_144 pv_s_model (by decide) (by decide) rfl pv_k_model ?_
                          refine px_iv (y := nI (B.length)) (hL7) ?_
                          refine px_icmp_geN (tgt := 229) dX10_digest_209 (by decide) (by omega) (by omega) (fun _ => ?_) (fun h0 => absurd h0 (by omega))
                          refine px_aload_n dX10_digest_229 rfl ?_
                          refine px_getL dX10_digest_230 flX10_204 pv_s_model (by decide) (by decide) rfl pv_k_model ?_
                          rw [show Ja 365 12 = pt_dig ((T, L), H, B) from hJa]
                          exact px_lret dX10_digest_233 rfl (Or.inl rfl) (h I7 Ja ⟨hM7, MSV_of hS0 (congrFun (hZ7.2 365 (by omega) (by omega) (by omega)) 3) (hZ7.2 368 (by omega) (by omega) (by omega)), MB_of hB0 (congrFun (hZ7.2 365 (by omega) (by omega) (by omega)) 5) (hZ7.2 369 (by omega) (by omega) (by omega))⟩ (fun k hk => (hZ7.2 k (by omega) (by omega) (by omega)).trans (hK0 k hk)) ((congrFun (hZ7.2 365 (by omega) (by omega) (by omega)) 0).trans hT0) hFJa)
                        · intro i hi K Ja hJa hFJa
                          refine px_iload_n dX10_digest_204 rfl ?_
                          refine px_aload_n dX10_digest_205 rfl ?_
                          refine px_getI dX10_digest_206 flX10_144 pv_s_model (by decide) (by decide) rfl pv_k_model ?_
                          refine px_iv (y := nI (B.length)) (hL7) ?_
                          refine px_icmp_geN (tgt := 229) dX10_digest_209 (by decide) (by omega) (by omega) (fun h0 => absurd h0 (by omega)) (fun _ => ?_)
                          refine px_aload_n dX10_digest_212 rfl ?_
                          refine px_aload_n dX10_digest_213 rfl ?_
                          refine px_getR dX10_digest_214 flX10_19 pv_s_model (by decide) (by decide) rfl pv_k_model pv_p_365_6 ?_
                          refine px_iload_n dX10_digest_217 rfl ?_
                          refine px_iald (j := i) dX10_digest_218 pv_a_buf.1 rfl (by omega) pv_a_buf.2.2 pv_a_buf.2.1 ?_
                          refine px_iv (y := nI (bf B i)) (hB7 i hi) ?_
                          refine px_i2l dX10_digest_219 ?_
                          refine c_X10_mix dX10_digest_220 mlX10_208 (by omega) hJa (Nat.le_of_ble_eq_true rfl) (fun Jb hJb hFb => ?_)
                          refine px_iincN (c := 1) (by decide) dX10_digest_223 rfl (by decide) ?_
                          refine px_goto (tgt := 204) dX10_digest_226 (by decide) ?_
                          refine px_keep [0, 1] ?_
                          exact K Jb hJb (JF_t hFJa hFb)
                      refine px_iconst (v := nI 0) dX10_digest_202 (by decide) ?_
                      refine px_istore_n dX10_digest_203 (by decide) ?_
                      refine px_keep [0, 1] ?_
                      exact keyA 0 (by omega) J9 hJa hFJ9
                    · intro i hi K I7 J7 hZ7 hJ7 hFJ7
                      have hM7 := ZF_M hZ7 hM0
                      refine px_iload_n dX10_digest_159 rfl ?_
                      refine px_iconst (v := nI 5) dX10_digest_160 (by decide) ?_
                      refine px_icmp_geN (tgt := 182) dX10_digest_161 (by decide) (by omega) (by omega) (fun h0 => absurd h0 (by omega)) (fun _ => ?_)
                      refine px_aload_n dX10_digest_164 rfl ?_
                      refine px_aload_n dX10_digest_165 rfl ?_
                      refine px_bipush (v := nI 14) dX10_digest_166 (by decide) ?_
                      refine px_iload_n dX10_digest_168 rfl ?_
                      refine c_X10_ahead dX10_digest_169 mlX10_186 (by omega) hM7 hdy hwk (by omega) (by omega) (Nat.le_of_ble_eq_true rfl) (fun I9 h9 hG9 => ?_)
                      refine px_i2l dX10_digest_172 ?_
                      refine c_X10_mix dX10_digest_173 mlX10_208 (by omega) hJ7 (Nat.le_of_ble_eq_true rfl) (fun J9 hJ9 hF9 => ?_)
                      refine px_iincN (c := 1) (by decide) dX10_digest_176 rfl (by decide) ?_
                      refine px_goto (tgt := 159) dX10_digest_179 (by decide) ?_
                      refine px_keep [0, 1] ?_
                      exact K I9 J9 (ZF_t hZ7 ⟨h9, hG9⟩) hJ9 (JF_t hFJ7 hF9)
                  refine px_iconst (v := nI 0) dX10_digest_157 (by decide) ?_
                  refine px_istore_n dX10_digest_158 (by decide) ?_
                  refine px_keep [0, 1] ?_
                  exact key7 0 (by omega) I4 J6 hZ4 hJ6 hFJ6
                · intro i hi K J6 hJ6 hFJ6
                  refine px_iload_n dX10_digest_115 rfl ?_
                  refine px_bipush (v := nI 12) dX10_digest_116 (by decide) ?_
                  refine px_aload_n dX10_digest_118 rfl ?_
                  refine px_getR dX10_digest_119 flX10_7 pv_s_model (by decide) (by decide) rfl pv_k_model pv_p_365_1 ?_
                  refine px_sipush (v := nI 408) dX10_digest_122 (by decide) ?_
                  refine px_iald (j := 408) dX10_digest_125 pv_a_z.1 rfl (by omega) pv_a_z.2.2 pv_a_z.2.1 ?_
                  refine px_iv (y := nI (T (408))) (hM4.1 (408) (by omega) (by omega) (by omega)) ?_
                  refine px_imulN dX10_digest_126 ?_
                  refine px_icmp_geN (tgt := 157) dX10_digest_127 (by decide) (by omega) (by omega) (fun h0 => absurd h0 (by omega)) (fun _ => ?_)
                  refine px_aload_n dX10_digest_130 rfl ?_
                  refine px_aload_n dX10_digest_131 rfl ?_
                  refine px_iload_n dX10_digest_132 rfl ?_
                  refine px_bipush (v := nI 12) dX10_digest_133 (by decide) ?_
                  refine px_idivN (by omega) (by omega) (by omega) dX10_digest_135 ?_
                  refine px_iload_n dX10_digest_136 rfl ?_
                  refine px_iconst (v := nI 3) dX10_digest_137 (by decide) ?_
                  refine px_idivN (by omega) (by omega) (by omega) dX10_digest_138 ?_
                  refine px_iconst (v := nI 4) dX10_digest_139 (by decide) ?_
                  refine px_iremN (by omega) (by omega) (by omega) dX10_digest_140 ?_
                  refine px_iload_n dX10_digest_141 rfl ?_
                  refine px_iconst (v := nI 3) dX10_digest_142 (by decide) ?_
                  refine px_iremN (by omega) (by omega) (by omega) dX10_digest_143 ?_
                  refine c_X10_menuNow dX10_digest_144 mlX10_174 (by omega) hM4 htb (by omega) (by omega) (by omega) (Nat.le_of_ble_eq_true rfl) ?_
                  refine px_i2l dX10_digest_147 ?_
                  refine c_X10_mix dX10_digest_148 mlX10_208 (by omega) hJ6 (Nat.le_of_ble_eq_true rfl) (fun J9 hJ9 hF9 => ?_)
                  refine px_iincN (c := 1) (by decide) dX10_digest_151 rfl (by decide) ?_
                  refine px_goto (tgt := 115) dX10_digest_154 (by decide) ?_
                  refine px_keep [0, 1] ?_
                  exact K J9 hJ9 (JF_t hFJ6 hF9)
              refine px_iconst (v := nI 0) dX10_digest_113 (by decide) ?_
              refine px_istore_n dX10_digest_114 (by decide) ?_
              refine px_keep [0, 1] ?_
              exact key6 0 (by omega) J5 hJ5 hFJ5
            · intro i hi K J3 hJ3 hFJ3
              refine px_iload_n dX10_digest_78 rfl ?_
              refine px_bipush (v := nI 12) dX10_digest_79 (by decide) ?_
              refine px_icmp_geN (tgt := 105) dX10_digest_81 (by decide) (by omega) (by omega) (fun h0 => absurd h0 (by omega)) (fun _ => ?_)
              refine px_aload_n dX10_digest_84 rfl ?_
              refine px_aload_n dX10_digest_85 rfl ?_
              refine px_iload_n dX10_digest_86 rfl ?_
              refine px_iconst (v := nI 4) dX10_digest_87 (by decide) ?_
              refine px_idivN (by omega) (by omega) (by omega) dX10_digest_88 ?_
              refine px_iload_n dX10_digest_89 rfl ?_
              refine px_iconst (v := nI 4) dX10_digest_90 (by decide) ?_
              refine px_iremN (by omega) (by omega) (by omega) dX10_digest_91 ?_
              refine c_X10_storeNow dX10_digest_92 mlX10_165 (by omega) hM0 (by omega) (by omega) (Nat.le_of_ble_eq_true rfl) ?_
              refine px_i2l dX10_digest_95 ?_
              refine c_X10_mix dX10_digest_96 mlX10_208 (by omega) hJ3 (Nat.le_of_ble_eq_true rfl) (fun J9 hJ9 hF9 => ?_)
              refine px_iincN (c := 1) (by decide) dX10_digest_99 rfl (by decide) ?_
              refine px_goto (tgt := 78) dX10_digest_102 (by decide) ?_
              refine px_keep [0, 1] ?_
              exact K J9 hJ9 (JF_t hFJ3 hF9)
          refine px_iconst (v := nI 0) dX10_digest_76 (by decide) ?_
          refine px_istore_n dX10_digest_77 (by decide) ?_
          refine px_keep [0, 1] ?_
          exact key3 0 (by omega) J2 hJ2 hFJ2
        · intro i hi K J2 hJ2 hFJ2
          refine px_iload_n dX10_digest_38 rfl ?_
          refine px_bipush (v := nI 6) dX10_digest_39 (by decide) ?_
          refine px_aload_n dX10_digest_41 rfl ?_
          refine px_getR dX10_digest_42 flX10_7 pv_s_model (by decide) (by decide) rfl pv_k_model pv_p_365_1 ?_
          refine px_sipush (v := nI 406) dX10_digest_45 (by decide) ?_
          refine px_iald (j := 406) dX10_digest_48 pv_a_z.1 rfl (by omega) pv_a_z.2.2 pv_a_z.2.1 ?_
          refine px_iv (y := nI (L.length)) (hM0.2.1) ?_
          refine px_imulN dX10_digest_49 ?_
          refine px_icmp_geN (tgt := 76) dX10_digest_50 (by decide) (by omega) (by omega) (fun h0 => absurd h0 (by omega)) (fun _ => ?_)
          refine px_aload_n dX10_digest_53 rfl ?_
          refine px_aload_n dX10_digest_54 rfl ?_
          refine px_iload_n dX10_digest_55 rfl ?_
          refine px_bipush (v := nI 6) dX10_digest_56 (by decide) ?_
          refine px_idivN (by omega) (by omega) (by omega) dX10_digest_58 ?_
          refine px_iload_n dX10_digest_59 rfl ?_
          refine px_bipush (v := nI 6) dX10_digest_60 (by decide) ?_
          refine px_iremN (by omega) (by omega) (by omega) dX10_digest_62 ?_
          refine c_X10_lotNow dX10_digest_63 mlX10_159 (by omega) hM0 htb hdy.2.2 (by omega) (by omega) (Nat.le_of_ble_eq_true rfl) ?_
          refine px_i2l dX10_digest_66 ?_
          refine c_X10_mix dX10_digest_67 mlX10_208 (by omega) hJ2 (Nat.le_of_ble_eq_true rfl) (fun J9 hJ9 hF9 => ?_)
          refine px_iincN (c := 1) (by decide) dX10_digest_70 rfl (by decide) ?_
          refine px_goto (tgt := 38) dX10_digest_73 (by decide) ?_
          refine px_keep [0, 1] ?_
          exact K J9 hJ9 (JF_t hFJ2 hF9)
      refine px_iconst (v := nI 0) dX10_digest_36 (by decide) ?_
      refine px_istore_n dX10_digest_37 (by decide) ?_
      refine px_keep [0, 1] ?_
      exact key2 0 (by omega) J1 hJ1 hFJ1
    · intro i hi K J1 hJ1 hFJ1
      refine px_iload_n dX10_digest_14 rfl ?_
      refine px_bipush (v := nI 13) dX10_digest_15 (by decide) ?_
      refine px_icmp_geN (tgt := 36) dX10_digest_17 (by decide) (by omega) (by omega) (fun h0 => absurd h0 (by omega)) (fun _ => ?_)
      refine px_aload_n dX10_digest_20 rfl ?_
      refine px_aload_n dX10_digest_21 rfl ?_
      refine px_iload_n dX10_digest_22 rfl ?_
      refine c_X10_counted dX10_digest_23 mlX10_180 (by omega) (B := B) hM0 hS0 htb (by omega) (by omega) (Nat.le_of_ble_eq_true rfl) ?_
      refine px_i2l dX10_digest_26 ?_
      refine c_X10_mix dX10_digest_27 mlX10_208 (by omega) hJ1 (Nat.le_of_ble_eq_true rfl) (fun J9 hJ9 hF9 => ?_)
      refine px_iincN (c := 1) (by decide) dX10_digest_30 rfl (by decide) ?_
      refine px_goto (tgt := 14) dX10_digest_33 (by decide) ?_
      refine px_keep [0, 1] ?_
      exact K J9 hJ9 (JF_t hFJ1 hF9)
  refine px_iconst (v := nI 0) dX10_digest_12 (by decide) ?_
  refine px_istore_n dX10_digest_13 (by decide) ?_
  refine px_keep [0, 1] ?_
  exact key1 0 (by omega) J0 hJ0 hFJ0
theorem c_X10_digest {z : pv_Z} {E : pv_E} {d bc bs : Nat} {J : pv_JT} {I : pv_IT} {mi : pv_MI} {pc idx : Nat} {lv : pv_LV} {st : List Value} {T : pv_T} {L : List pv_Lot} {H : List pv_S} {B : List Nat} {n : Nat} (hd : decode mi.2.1 pc = .ok (.invokevirtual idx, 3)) (hlk : Cond.methodLink mi.1.cls idx mX10_digest.1 ∈ pv_W) (hD : 8+1 ≤ d) (hMA : MA I ((T, L), H, B)) (hw : wx n ((T, L), H, B)) (hn : n ≤ 600) (hcat : (st.map fun v => v.category).sum ≤ 8) (K : ∀ (I' : pv_IT) (J' : pv_JT), MA I' ((T, L), H, B) → (∀ k, k < 365 → I' k = I k) → I' 365 0 = nI 0 → JF J J' → pv_X z E d bc bs mi (pc + 3) lv ((.long (pt_dig ((T, L), H, B))) :: st) pv_K0 pv_P0 (I') (J')) : pv_X z E d bc bs mi pc lv (.ref (365) :: st) pv_K0 pv_P0 I J := by
  obtain ⟨d, rfl⟩ : ∃ d0, d = d0 + 1 := ⟨d - 1, by omega⟩
  have key := px_callV (bc := bc) (bs := bs) (bc1 := 0) (bs1 := 0) (as := []) (E := E) (z := z) (lv := lv) hd mvX10_digest hlk pv_s_model (by decide) rfl pv_k_model rfl rfl hcat (by exact Nat.le_of_ble_eq_true rfl) (s_X10_digest (by omega) hMA hw hn K)
  rw [Nat.zero_add, Nat.zero_add] at key
  exact key
