/-! The digest, as a number; the reference: its kinds and ports. -/
def dgs (f : Nat → Int64 → Int64) : Nat → Int64 → Int64
  | 0, g => g
  | n + 1, g => f n (dgs f n g)
def dg_kw (s : pv_S) (k : Nat) (w : Nat) (g : Int64) : Int64 := mx g (nI (pt_kindv s k w)).toInt64
def dg_kind (s : pv_S) (k : Nat) (g : Int64) : Int64 := mx (mx (dgs (dg_kw s k) 10 g) (oI (pt_short s k 60)).toInt64) (oI (pt_best s.1 k)).toInt64
def dg_pw (T : pv_T) (p j : Nat) (g : Int64) : Int64 := mx g (nI (T (324 + 10 * p + j))).toInt64
def dg_port (T : pv_T) (p : Nat) (g : Int64) : Int64 := dgs (dg_pw T p) (2 + T 405) g
def dg_1 (X : pv_XS) : Int64 := dgs (fun w g => mx g (pt_count X w).toInt64) 13 2203
def dg_2 (X : pv_XS) : Int64 := dgs (fun j g => mx g (nI (pt_lot X.1 (j / 6) (j % 6))).toInt64) (6 * X.1.2.length) (dg_1 X)
def dg_3 (X : pv_XS) : Int64 := dgs (fun j g => mx g (nI (pt_store X.1 (j / 4) (j % 4))).toInt64) 12 (dg_2 X)
def dg_4 (X : pv_XS) : Int64 := dgs (dg_kind X.1) (X.1.1 405) (dg_3 X)
def dg_5 (X : pv_XS) : Int64 := dgs (dg_port X.1.1) (X.1.1 407) (dg_4 X)
def dg_6 (X : pv_XS) : Int64 := dgs (fun j g => mx g (nI (pt_menu X.1 (j / 12) (j / 3 % 4) (j % 3))).toInt64) (12 * X.1.1 408) (dg_5 X)
def dg_7 (X : pv_XS) : Int64 := dgs (fun w g => mx g (pt_ahead X.1 14 w).toInt64) 5 (dg_6 X)
def dg_8 (X : pv_XS) : Int64 := mx (dg_7 X) (pt_mean X.1.2).toInt64
def dg_9 (X : pv_XS) : Int64 := mx (dg_8 X) (nI X.2.2.length).toInt64
/-- the digest -/
def pt_dig (X : pv_XS) : Int64 := dgs (fun j g => mx g (nI (bf X.2.2 j)).toInt64) X.2.2.length (dg_9 X)
def JF (J J' : pv_JT) : Prop := ∀ k, k ≠ 365 → J' k = J k
theorem JF_t {J J1 J2 : pv_JT} (h : JF J J1) (g : JF J1 J2) : JF J J2 := fun k hk => (g k hk).trans (h k hk)
def ZF (I I' : pv_IT) : Prop := (∀ i, i < 413 → I' 366 i = I 366 i) ∧ ∀ k, k ≠ 366 → k ≠ 367 → k ≠ 370 → I' k = I k
theorem ZF_t {I I1 I2 : pv_IT} (h : ZF I I1) (g : ZF I1 I2) : ZF I I2 := ⟨fun i hi => (g.1 i hi).trans (h.1 i hi), fun k a b c => (g.2 k a b c).trans (h.2 k a b c)⟩
theorem ZF_M {I I1 : pv_IT} {T : pv_T} {L : List pv_Lot} (h : ZF I I1) (hM : MR (I 366) T L) : MR (I1 366) T L := MR_of hM h.1
set_option maxRecDepth 100000 in
set_option maxHeartbeats 4000000 in
theorem s_X10_mixKinds {Q : pv_Q} {E : pv_E} {d bc bs : Nat} {J : pv_JT} {I : pv_IT} {T : pv_T} {L : List pv_Lot} {g : Int64} (hD : 7 ≤ d) (hM : MR (I 366) T L) (hJ : J 365 12 = g) (hdy : dy (T, L)) (h4 : T 404 + 60 < 2147483648) (hsh : ∀ k, k < 8 → T (28 + 5 * k) + 3600 * 60 < 2147483648) (h : ∀ (I' : pv_IT) (J' : pv_JT), ZF I I' → J' 365 12 = dgs (dg_kind (T, L)) (T 405) g → JF J J' → Q (.inl none) pv_K0 pv_P0 (I') (J')) : pv_X (pv_ZQ E Q) E d bc bs mX10_mixKinds 0 [(0, .ref (365))] [] pv_K0 pv_P0 I J := by
  have hn8 : T 405 ≤ 8 := hdy.1.2.2.1
  have key : ∀ i : Nat, i ≤ T 405 → ∀ (I1 : pv_IT) (J1 : pv_JT), ZF I I1 → J1 365 12 = dgs (dg_kind (T, L)) (i) g → JF J J1 → pv_X (pv_ZQ E Q) E d bc bs mX10_mixKinds 2 [(0, .ref 365), (1, .int (nI (i)))] [] pv_K0 pv_P0 (I1) (J1) := by
    refine pv_up (T 405) ?_ ?_
    · intro I1 J1 hZ1 hJ1 hF1
      refine px_iload_n dX10_mixKinds_2 rfl ?_
      refine px_aload_n dX10_mixKinds_3 rfl ?_
      refine px_getR dX10_mixKinds_4 flX10_7 pv_s_model (by decide) (by decide) rfl pv_k_model pv_p_365_1 ?_
      refine px_sipush (v := nI 405) dX10_mixKinds_7 (by decide) ?_
      refine px_iald (j := 405) dX10_mixKinds_10 pv_a_z.1 rfl (by omega) pv_a_z.2.2 pv_a_z.2.1 ?_
      refine px_iv (y := nI (T (405))) ((ZF_M hZ1 hM).1 (405) (by omega) (by omega) (by omega)) ?_
      refine px_icmp_geN (tgt := 65) dX10_mixKinds_11 (by decide) (by omega) (by omega) (fun _ => ?_) (fun h0 => absurd h0 (by omega))
      exact px_vret dX10_mixKinds_65 rfl (Or.inl rfl) (h I1 J1 hZ1 hJ1 hF1)
    · intro i hi K I1 J1 hZ1 hJ1 hF1
      have KO := K
      clear K
      have hM1 := ZF_M hZ1 hM
      have hsk := hsh i (by omega)
      refine px_iload_n dX10_mixKinds_2 rfl ?_
      refine px_aload_n dX10_mixKinds_3 rfl ?_
      refine px_getR dX10_mixKinds_4 flX10_7 pv_s_model (by decide) (by decide) rfl pv_k_model pv_p_365_1 ?_
      refine px_sipush (v := nI 405) dX10_mixKinds_7 (by decide) ?_
      refine px_iald (j := 405) dX10_mixKinds_10 pv_a_z.1 rfl (by omega) pv_a_z.2.2 pv_a_z.2.1 ?_
      refine px_iv (y := nI (T (405))) (hM1.1 (405) (by omega) (by omega) (by omega)) ?_
      refine px_icmp_geN (tgt := 65) dX10_mixKinds_11 (by decide) (by omega) (by omega) (fun h0 => absurd h0 (by omega)) (fun _ => ?_)
      refine px_iconst (v := nI 0) dX10_mixKinds_14 (by decide) ?_
      refine px_istore_n dX10_mixKinds_15 (by decide) ?_
      have keyI : ∀ w : Nat, w ≤ 10 → ∀ J2 : pv_JT, J2 365 12 = dgs (dg_kw (T, L) i) (w) (dgs (dg_kind (T, L)) i g) → JF J J2 → pv_X (pv_ZQ E Q) E d bc bs mX10_mixKinds 16 [(0, .ref 365), (1, .int (nI i)), (2, .int (nI (w)))] [] pv_K0 pv_P0 (I1) (J2) := by
        refine pv_up (10) ?_ ?_
        · intro J2 hJ2 hF2
          refine px_iload_n dX10_mixKinds_16 rfl ?_
          refine px_bipush (v := nI 10) dX10_mixKinds_17 (by decide) ?_
          refine px_icmp_geN (tgt := 39) dX10_mixKinds_19 (by decide) (by omega) (by omega) (fun _ => ?_) (fun h0 => absurd h0 (by omega))
          refine px_aload_n dX10_mixKinds_39 rfl ?_
          refine px_aload_n dX10_mixKinds_40 rfl ?_
          refine px_iload_n dX10_mixKinds_41 rfl ?_
          refine c_X10_shortNow dX10_mixKinds_42 mlX10_192 (by omega) hM1 hdy (by omega) (by omega) (by omega) (Nat.le_of_ble_eq_true rfl) (fun I2 h2 hG2 => ?_)
          have hZ2 : ZF I I2 := ZF_t hZ1 ⟨h2, hG2⟩
          have hM2 := ZF_M hZ2 hM
          refine px_i2l dX10_mixKinds_45 ?_
          refine c_X10_mix dX10_mixKinds_46 mlX10_208 (by omega) hJ2 (Nat.le_of_ble_eq_true rfl) (fun J3 hJ3 hF3 => ?_)
          refine px_aload_n dX10_mixKinds_49 rfl ?_
          refine px_aload_n dX10_mixKinds_50 rfl ?_
          refine px_iload_n dX10_mixKinds_51 rfl ?_
          refine c_X10_bestNow dX10_mixKinds_52 mlX10_195 (by omega) hM2 hdy.1 (by omega) (Nat.le_of_ble_eq_true rfl) ?_
          refine px_i2l dX10_mixKinds_55 ?_
          refine c_X10_mix dX10_mixKinds_56 mlX10_208 (by omega) hJ3 (Nat.le_of_ble_eq_true rfl) (fun J4 hJ4 hF4 => ?_)
          refine px_iincN (c := 1) (by decide) dX10_mixKinds_59 rfl (by decide) ?_
          refine px_goto (tgt := 2) dX10_mixKinds_62 (by decide) ?_
          refine px_keep [0, 1] ?_
          exact KO I2 J4 hZ2 hJ4 (JF_t hF2 (JF_t hF3 hF4))
        · intro w hi K J2 hJ2 hF2
          refine px_iload_n dX10_mixKinds_16 rfl ?_
          refine px_bipush (v := nI 10) dX10_mixKinds_17 (by decide) ?_
          refine px_icmp_geN (tgt := 39) dX10_mixKinds_19 (by decide) (by omega) (by omega) (fun h0 => absurd h0 (by omega)) (fun _ => ?_)
          refine px_aload_n dX10_mixKinds_22 rfl ?_
          refine px_aload_n dX10_mixKinds_23 rfl ?_
          refine px_iload_n dX10_mixKinds_24 rfl ?_
          refine px_iload_n dX10_mixKinds_25 rfl ?_
          refine c_X10_kindNow dX10_mixKinds_26 mlX10_171 (by omega) hM1 (by omega) (by omega) (Nat.le_of_ble_eq_true rfl) ?_
          refine px_i2l dX10_mixKinds_29 ?_
          refine c_X10_mix dX10_mixKinds_30 mlX10_208 (by omega) hJ2 (Nat.le_of_ble_eq_true rfl) (fun J3 hJ3 hF3 => ?_)
          refine px_iincN (c := 1) (by decide) dX10_mixKinds_33 rfl (by decide) ?_
          refine px_goto (tgt := 16) dX10_mixKinds_36 (by decide) ?_
          refine px_keep [0, 1, 2] ?_
          exact K J3 hJ3 (JF_t hF2 hF3)
      refine px_keep [0, 1, 2] ?_
      exact keyI 0 (by omega) J1 hJ1 hF1
  refine px_iconst (v := nI 0) dX10_mixKinds_0 (by decide) ?_
  refine px_istore_n dX10_mixKinds_1 (by decide) ?_
  exact key 0 (by omega) I J ⟨fun _ _ => rfl, fun _ _ _ _ => rfl⟩ hJ (fun _ _ => rfl)
theorem c_X10_mixKinds {z : pv_Z} {E : pv_E} {d bc bs : Nat} {J : pv_JT} {I : pv_IT} {mi : pv_MI} {pc idx : Nat} {lv : pv_LV} {st : List Value} {T : pv_T} {L : List pv_Lot} {g : Int64} (hd : decode mi.2.1 pc = .ok (.invokevirtual idx, 3)) (hlk : Cond.methodLink mi.1.cls idx mX10_mixKinds.1 ∈ pv_W) (hD : 7+1 ≤ d) (hM : MR (I 366) T L) (hJ : J 365 12 = g) (hdy : dy (T, L)) (h4 : T 404 + 60 < 2147483648) (hsh : ∀ k, k < 8 → T (28 + 5 * k) + 3600 * 60 < 2147483648) (hcat : (st.map fun v => v.category).sum ≤ 8) (K : ∀ (I' : pv_IT) (J' : pv_JT), ZF I I' → J' 365 12 = dgs (dg_kind (T, L)) (T 405) g → JF J J' → pv_X z E d bc bs mi (pc + 3) lv (st) pv_K0 pv_P0 (I') (J')) : pv_X z E d bc bs mi pc lv (.ref (365) :: st) pv_K0 pv_P0 I J := by
  obtain ⟨d, rfl⟩ : ∃ d0, d = d0 + 1 := ⟨d - 1, by omega⟩
  have key := px_callV (bc := bc) (bs := bs) (bc1 := 0) (bs1 := 0) (as := []) (E := E) (z := z) (lv := lv) hd mvX10_mixKinds hlk pv_s_model (by decide) rfl pv_k_model rfl rfl hcat (by exact Nat.le_of_ble_eq_true rfl) (s_X10_mixKinds (by omega) hM hJ hdy h4 hsh K)
  rw [Nat.zero_add, Nat.zero_add] at key
  exact key
set_option maxRecDepth 100000 in
set_option maxHeartbeats 4000000 in
theorem s_X10_mixPorts {Q : pv_Q} {E : pv_E} {d bc bs : Nat} {J : pv_JT} {I : pv_IT} {T : pv_T} {L : List pv_Lot} {g : Int64} (hD : 1 ≤ d) (hM : MR (I 366) T L) (hb : tb T) (hJ : J 365 12 = g) (h : ∀ J' : pv_JT, J' 365 12 = dgs (dg_port T) (T 407) g → JF J J' → Q (.inl none) pv_K0 pv_P0 (I) (J')) : pv_X (pv_ZQ E Q) E d bc bs mX10_mixPorts 0 [(0, .ref (365))] [] pv_K0 pv_P0 I J := by
  have hn8 : T 405 ≤ 8 := hb.2.2.1
  have hp8 : T 407 ≤ 8 := hb.2.2.2.2.2.1.1
  have key : ∀ i : Nat, i ≤ T 407 → ∀ J1 : pv_JT, J1 365 12 = dgs (dg_port T) (i) g → JF J J1 → pv_X (pv_ZQ E Q) E d bc bs mX10_mixPorts 2 [(0, .ref 365), (1, .int (nI (i)))] [] pv_K0 pv_P0 (I) (J1) := by
    refine pv_up (T 407) ?_ ?_
    · intro J1 hJ1 hF1
      refine px_iload_n dX10_mixPorts_2 rfl ?_
      refine px_aload_n dX10_mixPorts_3 rfl ?_
      refine px_getR dX10_mixPorts_4 flX10_7 pv_s_model (by decide) (by decide) rfl pv_k_model pv_p_365_1 ?_
      refine px_sipush (v := nI 407) dX10_mixPorts_7 (by decide) ?_
      refine px_iald (j := 407) dX10_mixPorts_10 pv_a_z.1 rfl (by omega) pv_a_z.2.2 pv_a_z.2.1 ?_
      refine px_iv (y := nI (T (407))) (hM.1 (407) (by omega) (by omega) (by omega)) ?_
      refine px_icmp_geN (tgt := 62) dX10_mixPorts_11 (by decide) (by omega) (by omega) (fun _ => ?_) (fun h0 => absurd h0 (by omega))
      exact px_vret dX10_mixPorts_62 rfl (Or.inl rfl) (h J1 hJ1 hF1)
    · intro i hi K J1 hJ1 hF1
      have KO := K
      clear K
      refine px_iload_n dX10_mixPorts_2 rfl ?_
      refine px_aload_n dX10_mixPorts_3 rfl ?_
      refine px_getR dX10_mixPorts_4 flX10_7 pv_s_model (by decide) (by decide) rfl pv_k_model pv_p_365_1 ?_
      refine px_sipush (v := nI 407) dX10_mixPorts_7 (by decide) ?_
      refine px_iald (j := 407) dX10_mixPorts_10 pv_a_z.1 rfl (by omega) pv_a_z.2.2 pv_a_z.2.1 ?_
      refine px_iv (y := nI (T (407))) (hM.1 (407) (by omega) (by omega) (by omega)) ?_
      refine px_icmp_geN (tgt := 62) dX10_mixPorts_11 (by decide) (by omega) (by omega) (fun h0 => absurd h0 (by omega)) (fun _ => ?_)
      refine px_iconst (v := nI 0) dX10_mixPorts_14 (by decide) ?_
      refine px_istore_n dX10_mixPorts_15 (by decide) ?_
      have keyI : ∀ w : Nat, w ≤ 2 + T 405 → ∀ J2 : pv_JT, J2 365 12 = dgs (dg_pw T i) (w) (dgs (dg_port T) i g) → JF J J2 → pv_X (pv_ZQ E Q) E d bc bs mX10_mixPorts 16 [(0, .ref 365), (1, .int (nI i)), (2, .int (nI (w)))] [] pv_K0 pv_P0 (I) (J2) := by
        refine pv_up (2 + T 405) ?_ ?_
        · intro J2 hJ2 hF2
          refine px_iload_n dX10_mixPorts_16 rfl ?_
          refine px_iconst (v := nI 2) dX10_mixPorts_17 (by decide) ?_
          refine px_aload_n dX10_mixPorts_18 rfl ?_
          refine px_getR dX10_mixPorts_19 flX10_7 pv_s_model (by decide) (by decide) rfl pv_k_model pv_p_365_1 ?_
          refine px_sipush (v := nI 405) dX10_mixPorts_22 (by decide) ?_
          refine px_iald (j := 405) dX10_mixPorts_25 pv_a_z.1 rfl (by omega) pv_a_z.2.2 pv_a_z.2.1 ?_
          refine px_iv (y := nI (T (405))) (hM.1 (405) (by omega) (by omega) (by omega)) ?_
          refine px_iaddN dX10_mixPorts_26 ?_
          refine px_icmp_geN (tgt := 56) dX10_mixPorts_27 (by decide) (by omega) (by omega) (fun _ => ?_) (fun h0 => absurd h0 (by omega))
          refine px_iincN (c := 1) (by decide) dX10_mixPorts_56 rfl (by decide) ?_
          refine px_goto (tgt := 2) dX10_mixPorts_59 (by decide) ?_
          refine px_keep [0, 1] ?_
          exact KO J2 hJ2 hF2
        · intro w hi K J2 hJ2 hF2
          refine px_iload_n dX10_mixPorts_16 rfl ?_
          refine px_iconst (v := nI 2) dX10_mixPorts_17 (by decide) ?_
          refine px_aload_n dX10_mixPorts_18 rfl ?_
          refine px_getR dX10_mixPorts_19 flX10_7 pv_s_model (by decide) (by decide) rfl pv_k_model pv_p_365_1 ?_
          refine px_sipush (v := nI 405) dX10_mixPorts_22 (by decide) ?_
          refine px_iald (j := 405) dX10_mixPorts_25 pv_a_z.1 rfl (by omega) pv_a_z.2.2 pv_a_z.2.1 ?_
          refine px_iv (y := nI (T (405))) (hM.1 (405) (by omega) (by omega) (by omega)) ?_
          refine px_iaddN dX10_mixPorts_26 ?_
          refine px_icmp_geN (tgt := 56) dX10_mixPorts_27 (by decide) (by omega) (by omega) (fun h0 => absurd h0 (by omega)) (fun _ => ?_)
          refine px_aload_n dX10_mixPorts_30 rfl ?_
          refine px_aload_n dX10_mixPorts_31 rfl ?_
          refine px_getR dX10_mixPorts_32 flX10_7 pv_s_model (by decide) (by decide) rfl pv_k_model pv_p_365_1 ?_
          refine px_sipush (v := nI 324) dX10_mixPorts_35 (by decide) ?_
          refine px_bipush (v := nI 10) dX10_mixPorts_38 (by decide) ?_
          refine px_iload_n dX10_mixPorts_40 rfl ?_
          refine px_imulN dX10_mixPorts_41 ?_
          refine px_iaddN dX10_mixPorts_42 ?_
          refine px_iload_n dX10_mixPorts_43 rfl ?_
          refine px_iaddN dX10_mixPorts_44 ?_
          refine px_iald (j := ((324 + (10 * i)) + w)) dX10_mixPorts_45 pv_a_z.1 rfl (by omega) pv_a_z.2.2 pv_a_z.2.1 ?_
          refine px_iv (y := nI (T (((324 + (10 * i)) + w)))) (hM.1 (((324 + (10 * i)) + w)) (by omega) (by omega) (by omega)) ?_
          refine px_i2l dX10_mixPorts_46 ?_
          refine c_X10_mix dX10_mixPorts_47 mlX10_208 (by omega) hJ2 (Nat.le_of_ble_eq_true rfl) (fun J3 hJ3 hF3 => ?_)
          refine px_iincN (c := 1) (by decide) dX10_mixPorts_50 rfl (by decide) ?_
          refine px_goto (tgt := 16) dX10_mixPorts_53 (by decide) ?_
          refine px_keep [0, 1, 2] ?_
          exact K J3 hJ3 (JF_t hF2 hF3)
      refine px_keep [0, 1, 2] ?_
      exact keyI 0 (by omega) J1 hJ1 hF1
  refine px_iconst (v := nI 0) dX10_mixPorts_0 (by decide) ?_
  refine px_istore_n dX10_mixPorts_1 (by decide) ?_
  exact key 0 (by omega) J hJ (fun _ _ => rfl)
theorem c_X10_mixPorts {z : pv_Z} {E : pv_E} {d bc bs : Nat} {J : pv_JT} {I : pv_IT} {mi : pv_MI} {pc idx : Nat} {lv : pv_LV} {st : List Value} {T : pv_T} {L : List pv_Lot} {g : Int64} (hd : decode mi.2.1 pc = .ok (.invokevirtual idx, 3)) (hlk : Cond.methodLink mi.1.cls idx mX10_mixPorts.1 ∈ pv_W) (hD : 1+1 ≤ d) (hM : MR (I 366) T L) (hb : tb T) (hJ : J 365 12 = g) (hcat : (st.map fun v => v.category).sum ≤ 8) (K : ∀ J' : pv_JT, J' 365 12 = dgs (dg_port T) (T 407) g → JF J J' → pv_X z E d bc bs mi (pc + 3) lv (st) pv_K0 pv_P0 (I) (J')) : pv_X z E d bc bs mi pc lv (.ref (365) :: st) pv_K0 pv_P0 I J := by
  obtain ⟨d, rfl⟩ : ∃ d0, d = d0 + 1 := ⟨d - 1, by omega⟩
  have key := px_callV (bc := bc) (bs := bs) (bc1 := 0) (bs1 := 0) (as := []) (E := E) (z := z) (lv := lv) hd mvX10_mixPorts hlk pv_s_model (by decide) rfl pv_k_model rfl rfl hcat (by exact Nat.le_of_ble_eq_true rfl) (s_X10_mixPorts (by omega) hM hb hJ K)
  rw [Nat.zero_add, Nat.zero_add] at key
  exact key
