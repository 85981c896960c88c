/-! The reference: the mean age, a step of its digest. -/
set_option maxRecDepth 100000 in
set_option maxHeartbeats 4000000 in
theorem s_J_isNaN {Q : pv_Q} {E : pv_E} {d bc bs : Nat} {J : pv_JT} {I : pv_IT} {x : UInt64} (hD : 0 ≤ d) (hx : FP.dcmp x x = some .eq) (h : Q (.inl (some (.int (nI 0)))) pv_K0 pv_P0 (I) (J)) : pv_X (pv_ZQ E Q) E d bc bs mJxe99ae_isNaN_b9ae7 0 [(0, .double x)] [] pv_K0 pv_P0 I J := by
  refine px_dload_n dJxe99ae_isNaN_b9ae7_0 rfl ?_
  refine px_dload_n dJxe99ae_isNaN_b9ae7_1 rfl ?_
  refine px_dcmp dJxe99ae_isNaN_b9ae7_2 ?_
  rw [hx]
  refine px_iv (y := nI 0) (by decide) ?_
  refine px_if_eqN (tgt := 10) dJxe99ae_isNaN_b9ae7_3 (by decide) (by omega) (fun _ => ?_) (fun h0 => absurd h0 (by omega))
  refine px_iconst (v := nI 0) dJxe99ae_isNaN_b9ae7_10 (by decide) ?_
  exact px_zret dJxe99ae_isNaN_b9ae7_11 rfl rfl (Or.inl rfl) (h)
theorem c_J_isNaN {z : pv_Z} {E : pv_E} {d bc bs : Nat} {J : pv_JT} {I : pv_IT} {mi : pv_MI} {pc idx : Nat} {lv : pv_LV} {st : List Value} {x : UInt64} (hd : decode mi.2.1 pc = .ok (.invokestatic idx, 3)) (hlk : Cond.methodLink mi.1.cls idx mJxe99ae_isNaN_b9ae7.1 ∈ pv_W) (hD : 0+1 ≤ d) (hx : FP.dcmp x x = some .eq) (hcat : (st.map fun v => v.category).sum ≤ 8) (K : pv_X z E d bc bs mi (pc + 3) lv ((.int (nI 0)) :: st) pv_K0 pv_P0 (I) (J)) : pv_X z E d bc bs mi pc lv (.double x :: st) pv_K0 pv_P0 I J := by
  obtain ⟨d, rfl⟩ : ∃ d0, d = d0 + 1 := ⟨d - 1, by omega⟩
  have key := px_callS (bc := bc) (bs := bs) (bc1 := 0) (bs1 := 0) (as := [.double x]) (E := E) (z := z) (lv := lv) hd msJxe99ae_isNaN_b9ae7 hlk rfl rfl hcat (by exact Nat.le_of_ble_eq_true rfl) (s_J_isNaN (by omega) hx K)
  rw [Nat.zero_add, Nat.zero_add] at key
  exact key
set_option maxRecDepth 100000 in
set_option maxHeartbeats 4000000 in
theorem s_J_bits {Q : pv_Q} {E : pv_E} {d bc bs : Nat} {J : pv_JT} {I : pv_IT} {x : UInt64} (hD : 1 ≤ d) (hx : FP.dcmp x x = some .eq) (h : Q (.inl (some (.long x.toInt64))) pv_K0 pv_P0 (I) (J)) : pv_X (pv_ZQ E Q) E d bc bs mJxe99ae_doubleToLongBits_ccdee 0 [(0, .double x)] [] pv_K0 pv_P0 I J := by
  refine px_dload_n dJxe99ae_doubleToLongBits_ccdee_0 rfl ?_
  refine c_J_isNaN dJxe99ae_doubleToLongBits_ccdee_1 mlJxe99ae_122 (by omega) hx (Nat.le_of_ble_eq_true rfl) ?_
  refine px_if_neN (tgt := 12) dJxe99ae_doubleToLongBits_ccdee_4 (by decide) (by omega) (fun h0 => absurd h0 (by omega)) (fun _ => ?_)
  refine px_dload_n dJxe99ae_doubleToLongBits_ccdee_7 rfl ?_
  refine px_raw rfl dJxe99ae_doubleToLongBits_ccdee_8 (by omega) (Nat.le_of_ble_eq_true rfl) ?_
  exact px_lret dJxe99ae_doubleToLongBits_ccdee_11 rfl (Or.inl rfl) (h)
theorem c_J_bits {z : pv_Z} {E : pv_E} {d bc bs : Nat} {J : pv_JT} {I : pv_IT} {mi : pv_MI} {pc idx : Nat} {lv : pv_LV} {st : List Value} {x : UInt64} (hd : decode mi.2.1 pc = .ok (.invokestatic idx, 3)) (hlk : Cond.methodLink mi.1.cls idx mJxe99ae_doubleToLongBits_ccdee.1 ∈ pv_W) (hD : 1+1 ≤ d) (hx : FP.dcmp x x = some .eq) (hcat : (st.map fun v => v.category).sum ≤ 8) (K : pv_X z E d bc bs mi (pc + 3) lv ((.long x.toInt64) :: st) pv_K0 pv_P0 (I) (J)) : pv_X z E d bc bs mi pc lv (.double x :: st) pv_K0 pv_P0 I J := by
  obtain ⟨d, rfl⟩ : ∃ d0, d = d0 + 1 := ⟨d - 1, by omega⟩
  have key := px_callS (bc := bc) (bs := bs) (bc1 := 0) (bs1 := 0) (as := [.double x]) (E := E) (z := z) (lv := lv) hd msJxe99ae_doubleToLongBits_ccdee hlk rfl rfl hcat (by exact Nat.le_of_ble_eq_true rfl) (s_J_bits (by omega) hx K)
  rw [Nat.zero_add, Nat.zero_add] at key
  exact key
/-- a step of the digest -/
def mx (g x : Int64) : Int64 := 31 * g + x
theorem pv_uJ_at {J : pv_JT} {k j : Nat} {v : Int64} : pv_uJ J k j v k j = v := by
  unfold pv_uJ
  rw [if_pos rfl]
  simp [vp_updL]
set_option maxRecDepth 100000 in
set_option maxHeartbeats 4000000 in
theorem s_X10_mix {Q : pv_Q} {E : pv_E} {d bc bs : Nat} {J : pv_JT} {I : pv_IT} {x g : Int64} (hD : 0 ≤ d) (hJ : J 365 12 = g) (h : ∀ J' : pv_JT, J' 365 12 = mx g x → (∀ k, k ≠ 365 → J' k = J k) → Q (.inl none) pv_K0 pv_P0 (I) (J')) : pv_X (pv_ZQ E Q) E d bc bs mX10_mix 0 [(0, .ref (365)), (1, .long x)] [] pv_K0 pv_P0 I J := by
  refine px_aload_n dX10_mix_0 rfl ?_
  refine px_ldc2l (v := 31) dX10_mix_1 (pv_t 1362 (by decide +kernel) rfl) ?_
  refine px_aload_n dX10_mix_4 rfl ?_
  refine px_getL dX10_mix_5 flX10_204 pv_s_model (by decide) (by decide) rfl pv_k_model ?_
  refine px_lmul dX10_mix_8 ?_
  refine px_lload_n dX10_mix_9 rfl ?_
  refine px_ladd dX10_mix_10 ?_
  refine px_putL dX10_mix_11 fwX10_204 pv_s_model (by decide) (by decide) rfl pv_k_model ?_
  exact px_vret dX10_mix_14 rfl (Or.inl rfl) (h _ (pv_uJ_at.trans (by rw [hJ]; rfl)) (fun k hk => pv_uJ_ne hk))
theorem c_X10_mix {z : pv_Z} {E : pv_E} {d bc bs : Nat} {J : pv_JT} {I : pv_IT} {mi : pv_MI} {pc idx : Nat} {lv : pv_LV} {st : List Value} {x g : Int64} (hd : decode mi.2.1 pc = .ok (.invokevirtual idx, 3)) (hlk : Cond.methodLink mi.1.cls idx mX10_mix.1 ∈ pv_W) (hD : 0+1 ≤ d) (hJ : J 365 12 = g) (hcat : (st.map fun v => v.category).sum ≤ 8) (K : ∀ J' : pv_JT, J' 365 12 = mx g x → (∀ k, k ≠ 365 → J' k = J k) → pv_X z E d bc bs mi (pc + 3) lv (st) pv_K0 pv_P0 (I) (J')) : pv_X z E d bc bs mi pc lv (.long x :: .ref (365) :: st) pv_K0 pv_P0 I J := by
  obtain ⟨d, rfl⟩ : ∃ d0, d = d0 + 1 := ⟨d - 1, by omega⟩
  have key := px_callV (bc := bc) (bs := bs) (bc1 := 0) (bs1 := 0) (as := [.long x]) (E := E) (z := z) (lv := lv) hd mvX10_mix hlk pv_s_model (by decide) rfl pv_k_model rfl rfl hcat (by exact Nat.le_of_ble_eq_true rfl) (s_X10_mix (by omega) hJ K)
  rw [Nat.zero_add, Nat.zero_add] at key
  exact key
set_option maxRecDepth 100000 in
set_option maxHeartbeats 4000000 in
theorem s_X10_meanNow {Q : pv_Q} {E : pv_E} {d bc bs : Nat} {J : pv_JT} {I : pv_IT} {T : pv_T} {L : List pv_Lot} (hD : 3 ≤ d) (hM : MR (I 366) T L) (h : Q (.inl (some (.double (pt_mean L)))) pv_K0 pv_P0 (I) (J)) : pv_X (pv_ZQ E Q) E d bc bs mX10_meanNow 0 [(0, .ref (365))] [] pv_K0 pv_P0 I J := by
  have hlb : lbs L := hM.2.2.1
  have h31 := hlb.1
  have hag := ps_age_le hlb
  have hal := ps_all_le hlb
  have key : ∀ i : Nat, i ≤ L.length → pv_X (pv_ZQ E Q) E d bc bs mX10_meanNow 4 [(0, .ref 365), (1, .int (nI (pn_sum (fun l => (pl_g L l).2.2.2 * (pl_g L l).2.2.1) (i)))), (2, .int (nI (i)))] [] pv_K0 pv_P0 (I) (J) := by
    refine pv_up (L.length) ?_ ?_
    · refine px_iload_n dX10_meanNow_4 rfl ?_
      refine px_aload_n dX10_meanNow_5 rfl ?_
      refine px_getR dX10_meanNow_6 flX10_7 pv_s_model (by decide) (by decide) rfl pv_k_model pv_p_365_1 ?_
      refine px_sipush (v := nI 406) dX10_meanNow_9 (by decide) ?_
      refine px_iald (j := 406) dX10_meanNow_12 pv_a_z.1 rfl (by omega) pv_a_z.2.2 pv_a_z.2.1 ?_
      refine px_iv (y := nI (L.length)) (hM.2.1) ?_
      refine px_icmp_geN (tgt := 38) dX10_meanNow_13 (by decide) (by omega) (by omega) (fun _ => ?_) (fun h0 => absurd h0 (by omega))
      refine px_aload_n dX10_meanNow_38 rfl ?_
      refine c_X10_rations dX10_meanNow_39 mlX10_102 (by omega) hM (Nat.le_of_ble_eq_true rfl) ?_
      refine px_if_neN (tgt := 49) dX10_meanNow_42 (by decide) (by omega) (fun h0 => ?_) (fun h0 => ?_)
      · refine px_iload_n dX10_meanNow_49 rfl ?_
        refine px_i2d dX10_meanNow_50 ?_
        refine px_aload_n dX10_meanNow_51 rfl ?_
        refine c_X10_rations dX10_meanNow_52 mlX10_102 (by omega) hM (Nat.le_of_ble_eq_true rfl) ?_
        refine px_i2d dX10_meanNow_55 ?_
        have hm : pt_mean L = FP.ddiv (fbi (ps_age L)) (fbi (ps_all L)) := if_neg (by omega)
        rw [show pn_sum (fun l => (pl_g L l).2.2.2 * (pl_g L l).2.2.1) L.length = ps_age L from rfl, fbi_i (by omega), fbi_i (by omega)]
        refine px_ddiv dX10_meanNow_56 (by rw [← hm]; exact pt_mean_n64 hlb) ?_
        rw [← hm]
        exact px_dret dX10_meanNow_57 rfl (Or.inl rfl) (h)
      · rw [show pt_mean L = 0 from if_pos (by omega)] at h
        refine px_dconst0 dX10_meanNow_45 ?_
        refine px_goto (tgt := 57) dX10_meanNow_46 (by decide) ?_
        exact px_dret dX10_meanNow_57 rfl (Or.inl rfl) (h)
    · intro i hi K 
      have hx := hlb.2 i hi
      unfold lb at hx
      refine px_iload_n dX10_meanNow_4 rfl ?_
      refine px_aload_n dX10_meanNow_5 rfl ?_
      refine px_getR dX10_meanNow_6 flX10_7 pv_s_model (by decide) (by decide) rfl pv_k_model pv_p_365_1 ?_
      refine px_sipush (v := nI 406) dX10_meanNow_9 (by decide) ?_
      refine px_iald (j := 406) dX10_meanNow_12 pv_a_z.1 rfl (by omega) pv_a_z.2.2 pv_a_z.2.1 ?_
      refine px_iv (y := nI (L.length)) (hM.2.1) ?_
      refine px_icmp_geN (tgt := 38) dX10_meanNow_13 (by decide) (by omega) (by omega) (fun h0 => absurd h0 (by omega)) (fun _ => ?_)
      refine px_iload_n dX10_meanNow_16 rfl ?_
      refine px_aload_n dX10_meanNow_17 rfl ?_
      refine px_iload_n dX10_meanNow_18 rfl ?_
      refine px_iconst (v := nI 3) dX10_meanNow_19 (by decide) ?_
      refine c_X10_of dX10_meanNow_20 mlX10_53 (by omega) (by omega) (by omega) (Nat.le_of_ble_eq_true rfl) ?_
      refine px_iv (y := nI ((pl_g L (i)).2.2.2)) ((mr_l hM (by omega)).2.2.2) ?_
      refine px_aload_n dX10_meanNow_23 rfl ?_
      refine px_iload_n dX10_meanNow_24 rfl ?_
      refine px_iconst (v := nI 2) dX10_meanNow_25 (by decide) ?_
      refine c_X10_of dX10_meanNow_26 mlX10_53 (by omega) (by omega) (by omega) (Nat.le_of_ble_eq_true rfl) ?_
      refine px_iv (y := nI ((pl_g L (i)).2.2.1)) ((mr_l hM (by omega)).2.2.1) ?_
      refine px_imulN dX10_meanNow_29 ?_
      refine px_iaddN dX10_meanNow_30 ?_
      refine px_istore_n dX10_meanNow_31 (by decide) ?_
      refine px_iincN (c := 1) (by decide) dX10_meanNow_32 rfl (by decide) ?_
      refine px_goto (tgt := 4) dX10_meanNow_35 (by decide) ?_
      refine px_keep [0, 1, 2] ?_
      exact K
  refine px_iconst (v := nI 0) dX10_meanNow_0 (by decide) ?_
  refine px_istore_n dX10_meanNow_1 (by decide) ?_
  refine px_iconst (v := nI 0) dX10_meanNow_2 (by decide) ?_
  refine px_istore_n dX10_meanNow_3 (by decide) ?_
  exact key 0 (by omega) 
theorem c_X10_meanNow {z : pv_Z} {E : pv_E} {d bc bs : Nat} {J : pv_JT} {I : pv_IT} {mi : pv_MI} {pc idx : Nat} {lv : pv_LV} {st : List Value} {T : pv_T} {L : List pv_Lot} (hd : decode mi.2.1 pc = .ok (.invokevirtual idx, 3)) (hlk : Cond.methodLink mi.1.cls idx mX10_meanNow.1 ∈ pv_W) (hD : 3+1 ≤ d) (hM : MR (I 366) T L) (hcat : (st.map fun v => v.category).sum ≤ 8) (K : pv_X z E d bc bs mi (pc + 3) lv ((.double (pt_mean L)) :: st) pv_K0 pv_P0 (I) (J)) : pv_X z E d bc bs mi pc lv (.ref (365) :: st) pv_K0 pv_P0 I J := by
  obtain ⟨d, rfl⟩ : ∃ d0, d = d0 + 1 := ⟨d - 1, by omega⟩
  have key := px_callV (bc := bc) (bs := bs) (bc1 := 0) (bs1 := 0) (as := []) (E := E) (z := z) (lv := lv) hd mvX10_meanNow hlk pv_s_model (by decide) rfl pv_k_model rfl rfl hcat (by exact Nat.le_of_ble_eq_true rfl) (s_X10_meanNow (by omega) hM K)
  rw [Nat.zero_add, Nat.zero_add] at key
  exact key
