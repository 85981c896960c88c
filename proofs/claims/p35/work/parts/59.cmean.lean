/-! The class: the mean age, its bits. -/
theorem pl_add1 {a : Nat} : lN a + 1 = lN (a + 1) := by rw [lN_add2]; rfl
theorem pl_sub1 {a : Nat} (h : 1 ≤ a) : lN a - 1 = lN (a - 1) := by
  have e : lN a = lN (a - 1) + 1 := by rw [pl_add1]; exact congrArg lN (by omega)
  rw [e, Int64.add_sub_cancel]
set_option maxRecDepth 100000 in
set_option maxHeartbeats 4000000 in
theorem s_X9_meanAge {Q : pv_Q} {E : pv_E} {d bc bs : Nat} {J : pv_JT} {I : pv_IT} {T : pv_T} {L : List pv_Lot} {H : List pv_S} {B : List Nat} {n : Nat} (hD : 8 ≤ d) (hCA : CA I ((T, L), H, B)) (hw : wx n ((T, L), H, B)) (hn : n ≤ 600) (h : Q (.inl (some (.double (pt_mean L)))) pv_K0 pv_P0 (I) (J)) : pv_X (pv_ZQ E Q) E d bc bs mX9_meanAge 0 [(0, .ref (0))] [] pv_K0 pv_P0 I J := by
  obtain ⟨hC, hH, hB⟩ := id hCA
  replace hC : CR I 1 T L := hC
  replace hH : HR I H := hH
  replace hB : TXc I B := hB
  have hdy : dy (T, L) := hw.1.1
  have htb : tb T := hdy.1
  have hlb : lbs L := hdy.2.1
  have h31 : L.length ≤ 31 := hlb.1
  have h30 : L.length ≤ 30 := hw.1.2.1
  have h404 : T 404 ≤ 60 * n := hw.1.2.2.1
  have hn8 : T 405 ≤ 8 := htb.2.2.1
  have hp8 : T 407 ≤ 8 := htb.2.2.2.2.2.1.1
  have h10 : T 408 ≤ 10 := htb.2.2.2.2.2.2.2.1
  have hag := ps_age_le hlb
  have hal := ps_all_le hlb
  refine px_aload_n dX9_meanAge_0 rfl ?_
  refine px_getR dX9_meanAge_1 flX9_10 pv_s_main (by decide) (by decide) rfl pv_k_main pv_p_0_0 ?_
  refine px_getR dX9_meanAge_4 flX9_66 pv_ship_1.1 (by decide) (by decide) rfl pv_ship_1.2.1 pv_ship_1.2.2.2.2.1.1 ?_
  refine c_X2_rations dX9_meanAge_7 mlX9_196 (by omega) pv_ship_1.2.2.2.2.1.2 hC.2.2.2.1 (Nat.le_of_ble_eq_true rfl) ?_
  refine px_istore_n dX9_meanAge_10 (by decide) ?_
  refine px_iload_n dX9_meanAge_11 rfl ?_
  refine px_iconst (v := nI 1) dX9_meanAge_12 (by decide) ?_
  refine px_icmp_geN (tgt := 20) dX9_meanAge_13 (by decide) (by omega) (by omega) (fun h0 => ?_) (fun h0 => ?_)
  · refine px_aload_n dX9_meanAge_20 rfl ?_
    refine px_getR dX9_meanAge_21 flX9_10 pv_s_main (by decide) (by decide) rfl pv_k_main pv_p_0_0 ?_
    refine px_getR dX9_meanAge_24 flX9_66 pv_ship_1.1 (by decide) (by decide) rfl pv_ship_1.2.1 pv_ship_1.2.2.2.2.1.1 ?_
    refine c_X2_ageSum dX9_meanAge_27 mlX9_334 (by omega) pv_ship_1.2.2.2.2.1.2 hC.2.2.2.1 (Nat.le_of_ble_eq_true rfl) ?_
    refine px_l2d dX9_meanAge_30 ?_
    refine px_iload_n dX9_meanAge_31 rfl ?_
    refine px_i2d dX9_meanAge_32 ?_
    have hm : pt_mean L = FP.ddiv (fbi (ps_age L)) (fbi (ps_all L)) := if_neg (by omega)
    rw [fbi_l (by omega), fbi_i (by omega)]
    refine px_ddiv dX9_meanAge_33 (by rw [← hm]; exact pt_mean_n64 hlb) ?_
    rw [← hm]
    exact px_dret dX9_meanAge_34 rfl (Or.inl rfl) (h)
  · rw [show pt_mean L = 0 from if_pos (by omega)] at h
    refine px_dconst0 dX9_meanAge_16 ?_
    refine px_goto (tgt := 34) dX9_meanAge_17 (by decide) ?_
    exact px_dret dX9_meanAge_34 rfl (Or.inl rfl) (h)
theorem c_X9_meanAge {z : pv_Z} {E : pv_E} {d bc bs : Nat} {J : pv_JT} {I : pv_IT} {mi : pv_MI} {pc idx : Nat} {lv : pv_LV} {st : List Value} {T : pv_T} {L : List pv_Lot} {H : List pv_S} {B : List Nat} {n : Nat} (hd : decode mi.2.1 pc = .ok (.invokevirtual idx, 3)) (hlk : Cond.methodLink mi.1.cls idx mX9_meanAge.1 ∈ pv_W) (hD : 8+1 ≤ d) (hCA : CA I ((T, L), H, B)) (hw : wx n ((T, L), H, B)) (hn : n ≤ 600) (hcat : (st.map fun v => v.category).sum ≤ 8) (K : pv_X z E d bc bs mi (pc + 3) lv ((.double (pt_mean L)) :: st) pv_K0 pv_P0 (I) (J)) : pv_X z E d bc bs mi pc lv (.ref (0) :: st) pv_K0 pv_P0 I J := by
  obtain ⟨d, rfl⟩ : ∃ d0, d = d0 + 1 := ⟨d - 1, by omega⟩
  have key := px_callV (bc := bc) (bs := bs) (bc1 := 0) (bs1 := 0) (as := []) (E := E) (z := z) (lv := lv) hd mvX9_meanAge hlk pv_s_main (by decide) rfl pv_k_main rfl rfl hcat (by exact Nat.le_of_ble_eq_true rfl) (s_X9_meanAge (by omega) hCA hw hn K)
  rw [Nat.zero_add, Nat.zero_add] at key
  exact key
