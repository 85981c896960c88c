/-! The class: its calls that foresee. -/
def pt_outc (T : pv_T) (s : pv_S) (w : Nat) : Int32 := if w = 0 then nI (pt_sum s.1 1 8) - nI (pt_sum T 1 8) else if w = 1 then nI (pt_sum s.1 2 8) - nI (pt_sum T 2 8) else if w = 2 then nI (pt_sum s.1 4 8) - nI (pt_sum T 4 8) else if w = 3 then nI (s.1 412) - nI (T 412) else nI (ps_all s.2)
theorem pt_ahead_is {s : pv_S} {d w : Nat} : pt_ahead s d w = pt_outc s.1 (pd_days s d) w := rfl
theorem pt_wait_le {T : pv_T} : pt_wait T ≤ 60 := by
  unfold pt_wait
  split
  · exact Nat.le_refl _
  · omega
set_option maxRecDepth 100000 in
set_option maxHeartbeats 4000000 in
theorem s_X9_outcomeOfTrial {Q : pv_Q} {E : pv_E} {d bc bs : Nat} {J : pv_JT} {I : pv_IT} {T T2 : pv_T} {L L2 : List pv_Lot} {w : Nat} (hD : 2 ≤ d) (hC : CR I 1 T L) (hC2 : CR I 45 T2 L2) (hw4 : w ≤ 4) (h : Q (.inl (some (.int (pt_outc T (T2, L2) w)))) pv_K0 pv_P0 (I) (J)) : pv_X (pv_ZQ E Q) E d bc bs mX9_outcomeOfTrial 0 [(0, .ref (0)), (1, .int (nI (w)))] [] pv_K0 pv_P0 I J := by
  refine px_iload_n dX9_outcomeOfTrial_0 rfl ?_
  rcases (by omega : w = 0 ∨ w = 1 ∨ w = 2 ∨ w = 3 ∨ w = 4) with e | e | e | e | e
  · subst e
    refine px_tableIn (tgt := 32) dX9_outcomeOfTrial_1 (by decide) (by decide) rfl (by decide) ?_
    refine px_aload_n dX9_outcomeOfTrial_32 rfl ?_
    refine px_getR dX9_outcomeOfTrial_33 flX9_16 pv_s_main (by decide) (by decide) rfl pv_k_main pv_p_0_1 ?_
    refine px_getR dX9_outcomeOfTrial_36 flX9_37 pv_ship_45.1 (by decide) (by decide) rfl pv_ship_45.2.1 pv_ship_45.2.2.1.1 ?_
    refine px_getR dX9_outcomeOfTrial_39 flX9_271 pv_ship_45.2.2.1.2.1 (by decide) (by decide) rfl pv_ship_45.2.2.1.2.2.1 pv_ship_45.2.2.1.2.2.2.2.2.1.1 ?_
    refine c_X6_sum dX9_outcomeOfTrial_42 mlX9_203 (by omega) pv_ship_45.2.2.1.2.2.2.2.2.1.2 (Nat.le_of_ble_eq_true rfl) ?_
    refine px_iv (y := nI (pt_sum T2 1 8)) (pv_sum_nI (fun i hi => ((hC2.2.1.2.2 i hi).2.1).trans (congrArg nI (congrArg _ (by omega))))) ?_
    refine px_aload_n dX9_outcomeOfTrial_45 rfl ?_
    refine px_getR dX9_outcomeOfTrial_46 flX9_10 pv_s_main (by decide) (by decide) rfl pv_k_main pv_p_0_0 ?_
    refine px_getR dX9_outcomeOfTrial_49 flX9_37 pv_ship_1.1 (by decide) (by decide) rfl pv_ship_1.2.1 pv_ship_1.2.2.1.1 ?_
    refine px_getR dX9_outcomeOfTrial_52 flX9_271 pv_ship_1.2.2.1.2.1 (by decide) (by decide) rfl pv_ship_1.2.2.1.2.2.1 pv_ship_1.2.2.1.2.2.2.2.2.1.1 ?_
    refine c_X6_sum dX9_outcomeOfTrial_55 mlX9_203 (by omega) pv_ship_1.2.2.1.2.2.2.2.2.1.2 (Nat.le_of_ble_eq_true rfl) ?_
    refine px_iv (y := nI (pt_sum T 1 8)) (pv_sum_nI (fun i hi => ((hC.2.1.2.2 i hi).2.1).trans (congrArg nI (congrArg _ (by omega))))) ?_
    refine px_isub dX9_outcomeOfTrial_58 ?_
    exact px_iret dX9_outcomeOfTrial_59 rfl (Or.inl rfl) (h)
  · subst e
    refine px_tableIn (tgt := 60) dX9_outcomeOfTrial_1 (by decide) (by decide) rfl (by decide) ?_
    refine px_aload_n dX9_outcomeOfTrial_60 rfl ?_
    refine px_getR dX9_outcomeOfTrial_61 flX9_16 pv_s_main (by decide) (by decide) rfl pv_k_main pv_p_0_1 ?_
    refine px_getR dX9_outcomeOfTrial_64 flX9_37 pv_ship_45.1 (by decide) (by decide) rfl pv_ship_45.2.1 pv_ship_45.2.2.1.1 ?_
    refine px_getR dX9_outcomeOfTrial_67 flX9_200 pv_ship_45.2.2.1.2.1 (by decide) (by decide) rfl pv_ship_45.2.2.1.2.2.1 pv_ship_45.2.2.1.2.2.2.2.2.2.1.1 ?_
    refine c_X6_sum dX9_outcomeOfTrial_70 mlX9_203 (by omega) pv_ship_45.2.2.1.2.2.2.2.2.2.1.2 (Nat.le_of_ble_eq_true rfl) ?_
    refine px_iv (y := nI (pt_sum T2 2 8)) (pv_sum_nI (fun i hi => ((hC2.2.1.2.2 i hi).2.2.1).trans (congrArg nI (congrArg _ (by omega))))) ?_
    refine px_aload_n dX9_outcomeOfTrial_73 rfl ?_
    refine px_getR dX9_outcomeOfTrial_74 flX9_10 pv_s_main (by decide) (by decide) rfl pv_k_main pv_p_0_0 ?_
    refine px_getR dX9_outcomeOfTrial_77 flX9_37 pv_ship_1.1 (by decide) (by decide) rfl pv_ship_1.2.1 pv_ship_1.2.2.1.1 ?_
    refine px_getR dX9_outcomeOfTrial_80 flX9_200 pv_ship_1.2.2.1.2.1 (by decide) (by decide) rfl pv_ship_1.2.2.1.2.2.1 pv_ship_1.2.2.1.2.2.2.2.2.2.1.1 ?_
    refine c_X6_sum dX9_outcomeOfTrial_83 mlX9_203 (by omega) pv_ship_1.2.2.1.2.2.2.2.2.2.1.2 (Nat.le_of_ble_eq_true rfl) ?_
    refine px_iv (y := nI (pt_sum T 2 8)) (pv_sum_nI (fun i hi => ((hC.2.1.2.2 i hi).2.2.1).trans (congrArg nI (congrArg _ (by omega))))) ?_
    refine px_isub dX9_outcomeOfTrial_86 ?_
    exact px_iret dX9_outcomeOfTrial_87 rfl (Or.inl rfl) (h)
  · subst e
    refine px_tableIn (tgt := 88) dX9_outcomeOfTrial_1 (by decide) (by decide) rfl (by decide) ?_
    refine px_aload_n dX9_outcomeOfTrial_88 rfl ?_
    refine px_getR dX9_outcomeOfTrial_89 flX9_16 pv_s_main (by decide) (by decide) rfl pv_k_main pv_p_0_1 ?_
    refine px_getR dX9_outcomeOfTrial_92 flX9_37 pv_ship_45.1 (by decide) (by decide) rfl pv_ship_45.2.1 pv_ship_45.2.2.1.1 ?_
    refine px_getR dX9_outcomeOfTrial_95 flX9_277 pv_ship_45.2.2.1.2.1 (by decide) (by decide) rfl pv_ship_45.2.2.1.2.2.1 pv_ship_45.2.2.1.2.2.2.2.2.2.2.2.1 ?_
    refine c_X6_sum dX9_outcomeOfTrial_98 mlX9_203 (by omega) pv_ship_45.2.2.1.2.2.2.2.2.2.2.2.2 (Nat.le_of_ble_eq_true rfl) ?_
    refine px_iv (y := nI (pt_sum T2 4 8)) (pv_sum_nI (fun i hi => ((hC2.2.1.2.2 i hi).2.2.2.2).trans (congrArg nI (congrArg _ (by omega))))) ?_
    refine px_aload_n dX9_outcomeOfTrial_101 rfl ?_
    refine px_getR dX9_outcomeOfTrial_102 flX9_10 pv_s_main (by decide) (by decide) rfl pv_k_main pv_p_0_0 ?_
    refine px_getR dX9_outcomeOfTrial_105 flX9_37 pv_ship_1.1 (by decide) (by decide) rfl pv_ship_1.2.1 pv_ship_1.2.2.1.1 ?_
    refine px_getR dX9_outcomeOfTrial_108 flX9_277 pv_ship_1.2.2.1.2.1 (by decide) (by decide) rfl pv_ship_1.2.2.1.2.2.1 pv_ship_1.2.2.1.2.2.2.2.2.2.2.2.1 ?_
    refine c_X6_sum dX9_outcomeOfTrial_111 mlX9_203 (by omega) pv_ship_1.2.2.1.2.2.2.2.2.2.2.2.2 (Nat.le_of_ble_eq_true rfl) ?_
    refine px_iv (y := nI (pt_sum T 4 8)) (pv_sum_nI (fun i hi => ((hC.2.1.2.2 i hi).2.2.2.2).trans (congrArg nI (congrArg _ (by omega))))) ?_
    refine px_isub dX9_outcomeOfTrial_114 ?_
    exact px_iret dX9_outcomeOfTrial_115 rfl (Or.inl rfl) (h)
  · subst e
    refine px_tableIn (tgt := 116) dX9_outcomeOfTrial_1 (by decide) (by decide) rfl (by decide) ?_
    refine px_aload_n dX9_outcomeOfTrial_116 rfl ?_
    refine px_getR dX9_outcomeOfTrial_117 flX9_16 pv_s_main (by decide) (by decide) rfl pv_k_main pv_p_0_1 ?_
    refine px_getI dX9_outcomeOfTrial_120 flX9_309 pv_ship_45.1 (by decide) (by decide) rfl pv_ship_45.2.1 ?_
    refine px_iv (y := nI (T2 412)) (hC2.1.2.2.2.2) ?_
    refine px_aload_n dX9_outcomeOfTrial_123 rfl ?_
    refine px_getR dX9_outcomeOfTrial_124 flX9_10 pv_s_main (by decide) (by decide) rfl pv_k_main pv_p_0_0 ?_
    refine px_getI dX9_outcomeOfTrial_127 flX9_309 pv_ship_1.1 (by decide) (by decide) rfl pv_ship_1.2.1 ?_
    refine px_iv (y := nI (T 412)) (hC.1.2.2.2.2) ?_
    refine px_isub dX9_outcomeOfTrial_130 ?_
    exact px_iret dX9_outcomeOfTrial_131 rfl (Or.inl rfl) (h)
  · subst e
    refine px_tableOut (tgt := 132) dX9_outcomeOfTrial_1 (by decide) (by decide) ?_
    refine px_aload_n dX9_outcomeOfTrial_132 rfl ?_
    refine px_getR dX9_outcomeOfTrial_133 flX9_16 pv_s_main (by decide) (by decide) rfl pv_k_main pv_p_0_1 ?_
    refine px_getR dX9_outcomeOfTrial_136 flX9_66 pv_ship_45.1 (by decide) (by decide) rfl pv_ship_45.2.1 pv_ship_45.2.2.2.2.1.1 ?_
    refine c_X2_rations dX9_outcomeOfTrial_139 mlX9_196 (by omega) pv_ship_45.2.2.2.2.1.2 hC2.2.2.2.1 (Nat.le_of_ble_eq_true rfl) ?_
    exact px_iret dX9_outcomeOfTrial_142 rfl (Or.inl rfl) (h)
theorem c_X9_outcomeOfTrial {z : pv_Z} {E : pv_E} {d bc bs : Nat} {J : pv_JT} {I : pv_IT} {mi : pv_MI} {pc idx : Nat} {lv : pv_LV} {st : List Value} {T T2 : pv_T} {L L2 : List pv_Lot} {w : Nat} (hd : decode mi.2.1 pc = .ok (.invokevirtual idx, 3)) (hlk : Cond.methodLink mi.1.cls idx mX9_outcomeOfTrial.1 ∈ pv_W) (hD : 2+1 ≤ d) (hC : CR I 1 T L) (hC2 : CR I 45 T2 L2) (hw4 : w ≤ 4) (hcat : (st.map fun v => v.category).sum ≤ 8) (K : pv_X z E d bc bs mi (pc + 3) lv ((.int (pt_outc T (T2, L2) w)) :: st) pv_K0 pv_P0 (I) (J)) : pv_X z E d bc bs mi pc lv (.int (nI (w)) :: .ref (0) :: st) pv_K0 pv_P0 I J := by
  obtain ⟨d, rfl⟩ : ∃ d0, d = d0 + 1 := ⟨d - 1, by omega⟩
  have key := px_callV (bc := bc) (bs := bs) (bc1 := 0) (bs1 := 0) (as := [.int (nI (w))]) (E := E) (z := z) (lv := lv) hd mvX9_outcomeOfTrial hlk pv_s_main (by decide) rfl pv_k_main rfl rfl hcat (by exact Nat.le_of_ble_eq_true rfl) (s_X9_outcomeOfTrial (by omega) hC hC2 hw4 K)
  rw [Nat.zero_add, Nat.zero_add] at key
  exact key
set_option maxRecDepth 100000 in
set_option maxHeartbeats 4000000 in
theorem s_X9_ifPass {Q : pv_Q} {E : pv_E} {d bc bs : Nat} {J : pv_JT} {I : pv_IT} {T : pv_T} {L : List pv_Lot} {H : List pv_S} {B : List Nat} {n : Nat} {d0 w0 : Int32} (hD : 8 ≤ d) (hCA : CA I ((T, L), H, B)) (hw : wx n ((T, L), H, B)) (hn : n ≤ 600) (hbc : 6 ≤ bc) (hbs : 36 ≤ bs) (h : po_ok Q I J [pv_xIA] (po_ifPass ((T, L), H, B) d0 w0)) : pv_X (pv_ZQ E Q) E d bc bs mX9_ifPass 0 [(0, .ref (0)), (1, .int (d0)), (2, .int (w0))] [] pv_K0 pv_P0 I J := by
  obtain ⟨hC, hH, hB⟩ := id hCA
  replace hC : CR I 1 T L := hC
  replace hH : HR I H := hH
  replace hB : TXc I B := hB
  have hdy : dy (T, L) := hw.1.1
  have htb : tb T := hdy.1
  have hlb : lbs L := hdy.2.1
  have h31 : L.length ≤ 31 := hlb.1
  have h30 : L.length ≤ 30 := hw.1.2.1
  have h404 : T 404 ≤ 60 * n := hw.1.2.2.1
  have hn8 : T 405 ≤ 8 := htb.2.2.1
  have hp8 : T 407 ≤ 8 := htb.2.2.2.2.2.1.1
  have h10 : T 408 ≤ 10 := htb.2.2.2.2.2.2.2.1
  refine px_iload_n dX9_ifPass_0 rfl ?_
  refine px_iconst (v := nI 1) dX9_ifPass_1 (by decide) ?_
  refine px_bipush (v := nI 60) dX9_ifPass_2 (by decide) ?_
  refine c_X9_requireWithin dX9_ifPass_4 mlX9_33 (by omega)  (by omega) (by omega) (Nat.le_of_ble_eq_true rfl) ⟨fun ha => ?_, fun ha => ?_⟩
  refine px_iload_n dX9_ifPass_7 rfl ?_
  refine px_iconst (v := nI 0) dX9_ifPass_8 (by decide) ?_
  refine px_iconst (v := nI 4) dX9_ifPass_9 (by decide) ?_
  refine c_X9_requireWithin dX9_ifPass_10 mlX9_33 (by omega)  (by omega) (by omega) (Nat.le_of_ble_eq_true rfl) ⟨fun hb => ?_, fun hb => ?_⟩
  have hab := And.intro ha hb
  obtain ⟨d1, d11, d12, rfl, d13⟩ := pu_in_nI ha (by omega) (by omega)
  obtain ⟨w, w1, w2, rfl, w3⟩ := pu_in_nI hb (by omega) (by omega)
  refine px_aload_n dX9_ifPass_13 rfl ?_
  refine px_getR dX9_ifPass_14 flX9_16 pv_s_main (by decide) (by decide) rfl pv_k_main pv_p_0_1 ?_
  refine px_aload_n dX9_ifPass_17 rfl ?_
  refine px_getR dX9_ifPass_18 flX9_10 pv_s_main (by decide) (by decide) rfl pv_k_main pv_p_0_0 ?_
  refine c_X7_become dX9_ifPass_21 mlX9_317 (by omega) pv_ship_45 pv_ship_1 hC (by omega) (Nat.le_of_ble_eq_true rfl) (fun I1 hC1 hF1 => ?_)
  refine px_aload_n dX9_ifPass_24 rfl ?_
  refine px_getR dX9_ifPass_25 flX9_16 pv_s_main (by decide) (by decide) rfl pv_k_main pv_p_0_1 ?_
  refine px_iload_n dX9_ifPass_28 rfl ?_
  refine c_X7_passDays dX9_ifPass_29 mlX9_206 (by omega) pv_ship_45 hC1 hdy (by omega) (Nat.le_of_ble_eq_true rfl) (fun I2 hC2 hF2 => ?_)
  have hFk : ∀ k, k < 45 ∨ 89 ≤ k → I2 k = I k := fun k hk => (hF2 k (by omega)).trans (hF1 k (by omega))
  have hCA2 := CA_trial hCA hFk
  refine px_aload_n dX9_ifPass_32 rfl ?_
  refine px_iload_n dX9_ifPass_33 rfl ?_
  refine c_X9_outcomeOfTrial dX9_ifPass_34 mlX9_319 (by omega) hCA2.1 hC2 (by omega) (Nat.le_of_ble_eq_true rfl) ?_
  refine px_iret dX9_ifPass_37 rfl (Or.inl rfl) (po_val (by unfold po_ifPass at h; simp only [tn, d13, w3] at h; rw [if_pos hab] at h; exact h) hCA2 (fun k hk => hFk k (by omega)))
  exact py_out rfl (Or.inl rfl) (po_exc (by unfold po_ifPass at h; rw [if_neg (fun z => hb z.2)] at h; exact h) hCA)
  exact py_out rfl (Or.inl rfl) (po_exc (by unfold po_ifPass at h; rw [if_neg (fun z => ha z.1)] at h; exact h) hCA)
theorem c_X9_ifPass {z : pv_Z} {E : pv_E} {d bc bs : Nat} {J : pv_JT} {I : pv_IT} {mi : pv_MI} {pc idx : Nat} {lv : pv_LV} {st : List Value} {T : pv_T} {L : List pv_Lot} {H : List pv_S} {B : List Nat} {n : Nat} {d0 w0 : Int32} (hd : decode mi.2.1 pc = .ok (.invokevirtual idx, 3)) (hlk : Cond.methodLink mi.1.cls idx mX9_ifPass.1 ∈ pv_W) (hD : 8+1 ≤ d) (hCA : CA I ((T, L), H, B)) (hw : wx n ((T, L), H, B)) (hn : n ≤ 600) (hbc : 6 ≤ bc) (hbs : 36 ≤ bs) (hcat : (st.map fun v => v.category).sum ≤ 8) (K : po_ok (pv_K z E d (bc - 6) (bs - 36) mi pc lv st) I J [pv_xIA] (po_ifPass ((T, L), H, B) d0 w0)) : pv_X z E d bc bs mi pc lv (.int (w0) :: .int (d0) :: .ref (0) :: st) pv_K0 pv_P0 I J := by
  obtain ⟨bc, rfl⟩ : ∃ b0, bc = 6 + b0 := ⟨bc - 6, by omega⟩
  obtain ⟨bs, rfl⟩ : ∃ b0, bs = 36 + b0 := ⟨bs - 36, by omega⟩
  rw [show 6 + bc - 6 = bc by omega, show 36 + bs - 36 = bs by omega] at K
  obtain ⟨d, rfl⟩ : ∃ d0, d = d0 + 1 := ⟨d - 1, by omega⟩
  have key := px_callV (bc := bc) (bs := bs) (bc1 := 6) (bs1 := 36) (as := [.int (d0), .int (w0)]) (E := E) (z := z) (lv := lv) hd mvX9_ifPass hlk pv_s_main (by decide) rfl pv_k_main rfl rfl hcat (by exact Nat.le_of_ble_eq_true rfl) (s_X9_ifPass (by omega) hCA hw hn (Nat.le_refl _) (Nat.le_refl _) K)
  exact key
set_option maxRecDepth 100000 in
set_option maxHeartbeats 4000000 in
theorem s_X9_spoils {Q : pv_Q} {E : pv_E} {d bc bs : Nat} {J : pv_JT} {I : pv_IT} {T : pv_T} {L : List pv_Lot} {H : List pv_S} {B : List Nat} {n : Nat} {k0 d0 : Int32} (hD : 8 ≤ d) (hCA : CA I ((T, L), H, B)) (hw : wx n ((T, L), H, B)) (hn : n ≤ 600) (hbc : 6 ≤ bc) (hbs : 36 ≤ bs) (h : po_ok Q I J [pv_xIO, pv_xIA] (po_spoils ((T, L), H, B) k0 d0)) : pv_X (pv_ZQ E Q) E d bc bs mX9_spoils 0 [(0, .ref (0)), (1, .int (k0)), (2, .int (d0))] [] pv_K0 pv_P0 I J := by
  obtain ⟨hC, hH, hB⟩ := id hCA
  replace hC : CR I 1 T L := hC
  replace hH : HR I H := hH
  replace hB : TXc I B := hB
  have hdy : dy (T, L) := hw.1.1
  have htb : tb T := hdy.1
  have hlb : lbs L := hdy.2.1
  have h31 : L.length ≤ 31 := hlb.1
  have h30 : L.length ≤ 30 := hw.1.2.1
  have h404 : T 404 ≤ 60 * n := hw.1.2.2.1
  have hn8 : T 405 ≤ 8 := htb.2.2.1
  have hp8 : T 407 ≤ 8 := htb.2.2.2.2.2.1.1
  have h10 : T 408 ≤ 10 := htb.2.2.2.2.2.2.2.1
  refine px_aload_n dX9_spoils_0 rfl ?_
  refine px_iload_n dX9_spoils_1 rfl ?_
  refine c_X9_requireKind dX9_spoils_2 mlX9_147 (by omega) hC (by omega) (by omega) (by omega) (Nat.le_of_ble_eq_true rfl) ⟨fun ha => ?_, fun ha => ?_⟩
  obtain ⟨k, k1, rfl, k3⟩ := pu_has_nI ha (by omega)
  refine px_iload_n dX9_spoils_5 rfl ?_
  refine px_iconst (v := nI 1) dX9_spoils_6 (by decide) ?_
  refine px_bipush (v := nI 60) dX9_spoils_7 (by decide) ?_
  refine c_X9_requireWithin dX9_spoils_9 mlX9_33 (by omega)  (by omega) (by omega) (Nat.le_of_ble_eq_true rfl) ⟨fun hb => ?_, fun hb => ?_⟩
  obtain ⟨d1, d11, d12, rfl, d13⟩ := pu_in_nI hb (by omega) (by omega)
  refine px_aload_n dX9_spoils_12 rfl ?_
  refine px_getR dX9_spoils_13 flX9_16 pv_s_main (by decide) (by decide) rfl pv_k_main pv_p_0_1 ?_
  refine px_aload_n dX9_spoils_16 rfl ?_
  refine px_getR dX9_spoils_17 flX9_10 pv_s_main (by decide) (by decide) rfl pv_k_main pv_p_0_0 ?_
  refine c_X7_become dX9_spoils_20 mlX9_317 (by omega) pv_ship_45 pv_ship_1 hC (by omega) (Nat.le_of_ble_eq_true rfl) (fun I1 hC1 hF1 => ?_)
  refine px_aload_n dX9_spoils_23 rfl ?_
  refine px_getR dX9_spoils_24 flX9_16 pv_s_main (by decide) (by decide) rfl pv_k_main pv_p_0_1 ?_
  refine px_iload_n dX9_spoils_27 rfl ?_
  refine c_X7_passDays dX9_spoils_28 mlX9_206 (by omega) pv_ship_45 hC1 hdy (by omega) (Nat.le_of_ble_eq_true rfl) (fun I2 hC2 hF2 => ?_)
  have hFk : ∀ k, k < 45 ∨ 89 ≤ k → I2 k = I k := fun k hk => (hF2 k (by omega)).trans (hF1 k (by omega))
  have hCA2 := CA_trial hCA hFk
  have hCs : CR I2 1 T L := hCA2.1
  refine px_aload_n dX9_spoils_31 rfl ?_
  refine px_getR dX9_spoils_32 flX9_16 pv_s_main (by decide) (by decide) rfl pv_k_main pv_p_0_1 ?_
  refine px_getR dX9_spoils_35 flX9_37 pv_ship_45.1 (by decide) (by decide) rfl pv_ship_45.2.1 pv_ship_45.2.2.1.1 ?_
  refine px_getR dX9_spoils_38 flX9_200 pv_ship_45.2.2.1.2.1 (by decide) (by decide) rfl pv_ship_45.2.2.1.2.2.1 pv_ship_45.2.2.1.2.2.2.2.2.2.1.1 ?_
  refine px_iload_n dX9_spoils_41 rfl ?_
  refine c_X6_at dX9_spoils_42 mlX9_88 (by omega) (j := k) pv_ship_45.2.2.1.2.2.2.2.2.2.1.2 (by omega) (Nat.le_of_ble_eq_true rfl) ?_
  refine px_iv (y := nI ((pd_days (T, L) d1).1 (26 + 5 * k))) ((hC2.2.1.2.2 k (by omega)).2.2.1) ?_
  refine px_aload_n dX9_spoils_45 rfl ?_
  refine px_getR dX9_spoils_46 flX9_10 pv_s_main (by decide) (by decide) rfl pv_k_main pv_p_0_0 ?_
  refine px_getR dX9_spoils_49 flX9_37 pv_ship_1.1 (by decide) (by decide) rfl pv_ship_1.2.1 pv_ship_1.2.2.1.1 ?_
  refine px_getR dX9_spoils_52 flX9_200 pv_ship_1.2.2.1.2.1 (by decide) (by decide) rfl pv_ship_1.2.2.1.2.2.1 pv_ship_1.2.2.1.2.2.2.2.2.2.1.1 ?_
  refine px_iload_n dX9_spoils_55 rfl ?_
  refine c_X6_at dX9_spoils_56 mlX9_88 (by omega) (j := k) pv_ship_1.2.2.1.2.2.2.2.2.2.1.2 (by omega) (Nat.le_of_ble_eq_true rfl) ?_
  refine px_iv (y := nI (T (26 + 5 * k))) ((hCs.2.1.2.2 k (by omega)).2.2.1) ?_
  refine px_isub dX9_spoils_59 ?_
  refine px_iret dX9_spoils_60 rfl (Or.inl rfl) (po_val (by unfold po_spoils at h; simp only [tn, k3, d13] at h; rw [if_pos ha] at h; rw [if_pos hb] at h; exact h) hCA2 (fun k hk => hFk k (by omega)))
  exact py_out rfl (Or.inl rfl) (po_exc (by unfold po_spoils at h; simp only [tn, k3] at h; rw [if_pos ha] at h; rw [if_neg hb] at h; exact h) hCA)
  exact py_out rfl (Or.inl rfl) (po_exc (by unfold po_spoils at h; rw [if_neg ha] at h; exact h) hCA)
theorem c_X9_spoils {z : pv_Z} {E : pv_E} {d bc bs : Nat} {J : pv_JT} {I : pv_IT} {mi : pv_MI} {pc idx : Nat} {lv : pv_LV} {st : List Value} {T : pv_T} {L : List pv_Lot} {H : List pv_S} {B : List Nat} {n : Nat} {k0 d0 : Int32} (hd : decode mi.2.1 pc = .ok (.invokevirtual idx, 3)) (hlk : Cond.methodLink mi.1.cls idx mX9_spoils.1 ∈ pv_W) (hD : 8+1 ≤ d) (hCA : CA I ((T, L), H, B)) (hw : wx n ((T, L), H, B)) (hn : n ≤ 600) (hbc : 6 ≤ bc) (hbs : 36 ≤ bs) (hcat : (st.map fun v => v.category).sum ≤ 8) (K : po_ok (pv_K z E d (bc - 6) (bs - 36) mi pc lv st) I J [pv_xIO, pv_xIA] (po_spoils ((T, L), H, B) k0 d0)) : pv_X z E d bc bs mi pc lv (.int (d0) :: .int (k0) :: .ref (0) :: st) pv_K0 pv_P0 I J := by
  obtain ⟨bc, rfl⟩ : ∃ b0, bc = 6 + b0 := ⟨bc - 6, by omega⟩
  obtain ⟨bs, rfl⟩ : ∃ b0, bs = 36 + b0 := ⟨bs - 36, by omega⟩
  rw [show 6 + bc - 6 = bc by omega, show 36 + bs - 36 = bs by omega] at K
  obtain ⟨d, rfl⟩ : ∃ d0, d = d0 + 1 := ⟨d - 1, by omega⟩
  have key := px_callV (bc := bc) (bs := bs) (bc1 := 6) (bs1 := 36) (as := [.int (k0), .int (d0)]) (E := E) (z := z) (lv := lv) hd mvX9_spoils hlk pv_s_main (by decide) rfl pv_k_main rfl rfl hcat (by exact Nat.le_of_ble_eq_true rfl) (s_X9_spoils (by omega) hCA hw hn (Nat.le_refl _) (Nat.le_refl _) K)
  exact key
set_option maxRecDepth 100000 in
set_option maxHeartbeats 4000000 in
theorem s_X9_shortIn {Q : pv_Q} {E : pv_E} {d bc bs : Nat} {J : pv_JT} {I : pv_IT} {T : pv_T} {L : List pv_Lot} {H : List pv_S} {B : List Nat} {n : Nat} {k0 : Int32} (hD : 8 ≤ d) (hCA : CA I ((T, L), H, B)) (hw : wx n ((T, L), H, B)) (hn : n ≤ 600) (hbc : 6 ≤ bc) (hbs : 36 ≤ bs) (h : po_ok Q I J [pv_xIO] (po_shortIn ((T, L), H, B) k0)) : pv_X (pv_ZQ E Q) E d bc bs mX9_shortIn 0 [(0, .ref (0)), (1, .int (k0))] [] pv_K0 pv_P0 I J := by
  obtain ⟨hC, hH, hB⟩ := id hCA
  replace hC : CR I 1 T L := hC
  replace hH : HR I H := hH
  replace hB : TXc I B := hB
  have hdy : dy (T, L) := hw.1.1
  have htb : tb T := hdy.1
  have hlb : lbs L := hdy.2.1
  have h31 : L.length ≤ 31 := hlb.1
  have h30 : L.length ≤ 30 := hw.1.2.1
  have h404 : T 404 ≤ 60 * n := hw.1.2.2.1
  have hn8 : T 405 ≤ 8 := htb.2.2.1
  have hp8 : T 407 ≤ 8 := htb.2.2.2.2.2.1.1
  have h10 : T 408 ≤ 10 := htb.2.2.2.2.2.2.2.1
  refine px_aload_n dX9_shortIn_0 rfl ?_
  refine px_iload_n dX9_shortIn_1 rfl ?_
  refine c_X9_requireKind dX9_shortIn_2 mlX9_147 (by omega) hC (by omega) (by omega) (by omega) (Nat.le_of_ble_eq_true rfl) ⟨fun ha => ?_, fun ha => ?_⟩
  obtain ⟨k, k1, rfl, k3⟩ := pu_has_nI ha (by omega)
  have hsh : T (28 + 5 * k) ≤ 216000 * n := hw.1.2.2.2.1 k (by omega)
  refine px_aload_n dX9_shortIn_5 rfl ?_
  refine px_getR dX9_shortIn_6 flX9_16 pv_s_main (by decide) (by decide) rfl pv_k_main pv_p_0_1 ?_
  refine px_aload_n dX9_shortIn_9 rfl ?_
  refine px_getR dX9_shortIn_10 flX9_10 pv_s_main (by decide) (by decide) rfl pv_k_main pv_p_0_0 ?_
  refine c_X7_become dX9_shortIn_13 mlX9_317 (by omega) pv_ship_45 pv_ship_1 hC (by omega) (Nat.le_of_ble_eq_true rfl) (fun I1 hC1 hF1 => ?_)
  refine px_aload_n dX9_shortIn_16 rfl ?_
  refine px_getR dX9_shortIn_17 flX9_16 pv_s_main (by decide) (by decide) rfl pv_k_main pv_p_0_1 ?_
  refine px_iload_n dX9_shortIn_20 rfl ?_
  refine px_bipush (v := nI 60) dX9_shortIn_21 (by decide) ?_
  refine c_X7_firstShort dX9_shortIn_23 mlX9_322 (by omega) pv_ship_45 hC1 hdy (by omega) (by omega) (by omega) (Nat.le_of_ble_eq_true rfl) (fun I2 hF2 => ?_)
  have hFk : ∀ k, k < 45 ∨ 89 ≤ k → I2 k = I k := fun k hk => (hF2 k (by omega)).trans (hF1 k (by omega))
  have hCA2 := CA_trial hCA hFk
  refine px_iret dX9_shortIn_26 rfl (Or.inl rfl) (po_val (by unfold po_shortIn at h; simp only [tn, k3] at h; rw [if_pos ha] at h; exact h) hCA2 (fun k hk => hFk k (by omega)))
  exact py_out rfl (Or.inl rfl) (po_exc (by unfold po_shortIn at h; rw [if_neg ha] at h; exact h) hCA)
theorem c_X9_shortIn {z : pv_Z} {E : pv_E} {d bc bs : Nat} {J : pv_JT} {I : pv_IT} {mi : pv_MI} {pc idx : Nat} {lv : pv_LV} {st : List Value} {T : pv_T} {L : List pv_Lot} {H : List pv_S} {B : List Nat} {n : Nat} {k0 : Int32} (hd : decode mi.2.1 pc = .ok (.invokevirtual idx, 3)) (hlk : Cond.methodLink mi.1.cls idx mX9_shortIn.1 ∈ pv_W) (hD : 8+1 ≤ d) (hCA : CA I ((T, L), H, B)) (hw : wx n ((T, L), H, B)) (hn : n ≤ 600) (hbc : 6 ≤ bc) (hbs : 36 ≤ bs) (hcat : (st.map fun v => v.category).sum ≤ 8) (K : po_ok (pv_K z E d (bc - 6) (bs - 36) mi pc lv st) I J [pv_xIO] (po_shortIn ((T, L), H, B) k0)) : pv_X z E d bc bs mi pc lv (.int (k0) :: .ref (0) :: st) pv_K0 pv_P0 I J := by
  obtain ⟨bc, rfl⟩ : ∃ b0, bc = 6 + b0 := ⟨bc - 6, by omega⟩
  obtain ⟨bs, rfl⟩ : ∃ b0, bs = 36 + b0 := ⟨bs - 36, by omega⟩
  rw [show 6 + bc - 6 = bc by omega, show 36 + bs - 36 = bs by omega] at K
  obtain ⟨d, rfl⟩ : ∃ d0, d = d0 + 1 := ⟨d - 1, by omega⟩
  have key := px_callV (bc := bc) (bs := bs) (bc1 := 6) (bs1 := 36) (as := [.int (k0)]) (E := E) (z := z) (lv := lv) hd mvX9_shortIn hlk pv_s_main (by decide) rfl pv_k_main rfl rfl hcat (by exact Nat.le_of_ble_eq_true rfl) (s_X9_shortIn (by omega) hCA hw hn (Nat.le_refl _) (Nat.le_refl _) K)
  exact key
theorem pt_bestN_le {T : pv_T} {k : Nat} (hb : tb T) (hk : k < 8) : ∀ s, s ≤ 3 → (pt_bestN T k s).2 ≤ 200
  | 0, _ => Nat.zero_le _
  | s + 1, h => by
    unfold pt_bestN
    split
    · exact pt_now_le hb hk (by omega)
    · exact pt_bestN_le hb hk s (by omega)
set_option maxRecDepth 100000 in
set_option maxHeartbeats 4000000 in
theorem s_X9_bestStore {Q : pv_Q} {E : pv_E} {d bc bs : Nat} {J : pv_JT} {I : pv_IT} {T : pv_T} {L : List pv_Lot} {H : List pv_S} {B : List Nat} {n : Nat} {k0 : Int32} (hD : 8 ≤ d) (hCA : CA I ((T, L), H, B)) (hw : wx n ((T, L), H, B)) (hn : n ≤ 600) (hbc : 6 ≤ bc) (hbs : 36 ≤ bs) (h : po_ok Q I J [pv_xIO] (po_best ((T, L), H, B) k0)) : pv_X (pv_ZQ E Q) E d bc bs mX9_bestStore 0 [(0, .ref (0)), (1, .int (k0))] [] pv_K0 pv_P0 I J := by
  obtain ⟨hC, hH, hB⟩ := id hCA
  replace hC : CR I 1 T L := hC
  replace hH : HR I H := hH
  replace hB : TXc I B := hB
  have hdy : dy (T, L) := hw.1.1
  have htb : tb T := hdy.1
  have hlb : lbs L := hdy.2.1
  have h31 : L.length ≤ 31 := hlb.1
  have h30 : L.length ≤ 30 := hw.1.2.1
  have h404 : T 404 ≤ 60 * n := hw.1.2.2.1
  have hn8 : T 405 ≤ 8 := htb.2.2.1
  have hp8 : T 407 ≤ 8 := htb.2.2.2.2.2.1.1
  have h10 : T 408 ≤ 10 := htb.2.2.2.2.2.2.2.1
  refine px_aload_n dX9_bestStore_0 rfl ?_
  refine px_iload_n dX9_bestStore_1 rfl ?_
  refine c_X9_requireKind dX9_bestStore_2 mlX9_147 (by omega) hC (by omega) (by omega) (by omega) (Nat.le_of_ble_eq_true rfl) ⟨fun ha => ?_, fun ha => ?_⟩
  obtain ⟨k, k1, rfl, k3⟩ := pu_has_nI ha (by omega)
  have h9 := (by unfold po_best at h; simp only [tn, k3] at h; rw [if_pos ha] at h; exact h)
  replace h9 : po_ok Q I J [pv_xIO] (0, oI (pt_best T k), ((T, L), H, B)) := h9
  have key : ∀ i : Nat, i ≤ 3 → pv_X (pv_ZQ E Q) E d (bc - 1) (bs - 6) mX9_bestStore 12 [(0, .ref 0), (1, .int (nI k)), (2, .int (oI (pt_bestN T k (i)).1)), (3, .int (nI (pt_bestN T k (i)).2)), (4, .int (nI (i)))] [] pv_K0 pv_P0 (I) (J) := by
    refine pv_up (3) ?_ ?_
    · refine px_iload dX9_bestStore_12 rfl ?_
      refine px_iconst (v := nI 3) dX9_bestStore_14 (by decide) ?_
      refine px_icmp_geN (tgt := 48) dX9_bestStore_15 (by decide) (by omega) (by omega) (fun _ => ?_) (fun h0 => absurd h0 (by omega))
      refine px_iload_n dX9_bestStore_48 rfl ?_
      exact px_iret dX9_bestStore_49 rfl (Or.inl rfl) (po_same h9 hCA)
    · intro i hi K 
      have hbl := pt_bestN_le htb (k := k) (by omega) i (by omega)
      have hnl := pt_now_le htb (k := k) (s := i) (by omega) hi
      refine px_iload dX9_bestStore_12 rfl ?_
      refine px_iconst (v := nI 3) dX9_bestStore_14 (by decide) ?_
      refine px_icmp_geN (tgt := 48) dX9_bestStore_15 (by decide) (by omega) (by omega) (fun h0 => absurd h0 (by omega)) (fun _ => ?_)
      refine px_aload_n dX9_bestStore_18 rfl ?_
      refine px_getR dX9_bestStore_19 flX9_10 pv_s_main (by decide) (by decide) rfl pv_k_main pv_p_0_0 ?_
      refine px_iload_n dX9_bestStore_22 rfl ?_
      refine px_iload dX9_bestStore_23 rfl ?_
      refine c_X7_lifeNow dX9_bestStore_25 mlX9_325 (by omega) pv_ship_1 hC htb (by omega) hi (Nat.le_of_ble_eq_true rfl) ?_
      refine px_istore dX9_bestStore_28 (by decide) ?_
      refine px_iload dX9_bestStore_30 rfl ?_
      refine px_iload_n dX9_bestStore_32 rfl ?_
      refine px_icmp_leN (tgt := 42) dX9_bestStore_33 (by decide) (by omega) (by omega) (fun h5 => ?_) (fun h5 => ?_)
      · refine px_iincN (c := 1) (by decide) dX9_bestStore_42 rfl (by decide) ?_
        refine px_goto (tgt := 12) dX9_bestStore_45 (by decide) ?_
        refine px_keep [0, 1, 2, 3, 4] ?_
        rw [show pt_bestN T k (i + 1) = pt_bestN T k i from if_neg (by omega)] at K
        exact K
      · refine px_iload dX9_bestStore_36 rfl ?_
        refine px_istore_n dX9_bestStore_38 (by decide) ?_
        refine px_iload dX9_bestStore_39 rfl ?_
        refine px_istore_n dX9_bestStore_41 (by decide) ?_
        refine px_iincN (c := 1) (by decide) dX9_bestStore_42 rfl (by decide) ?_
        refine px_goto (tgt := 12) dX9_bestStore_45 (by decide) ?_
        refine px_keep [0, 1, 2, 3, 4] ?_
        rw [show pt_bestN T k (i + 1) = (some i, pt_now T k i) from if_pos h5] at K
        exact K
  refine px_iconst (v := -1) dX9_bestStore_5 (by decide) ?_
  refine px_istore_n dX9_bestStore_6 (by decide) ?_
  refine px_iconst (v := nI 0) dX9_bestStore_7 (by decide) ?_
  refine px_istore_n dX9_bestStore_8 (by decide) ?_
  refine px_iconst (v := nI 0) dX9_bestStore_9 (by decide) ?_
  refine px_istore dX9_bestStore_10 (by decide) ?_
  exact key 0 (by omega)
  exact py_out rfl (Or.inl rfl) (po_exc (by unfold po_best at h; rw [if_neg ha] at h; exact h) hCA)
theorem c_X9_bestStore {z : pv_Z} {E : pv_E} {d bc bs : Nat} {J : pv_JT} {I : pv_IT} {mi : pv_MI} {pc idx : Nat} {lv : pv_LV} {st : List Value} {T : pv_T} {L : List pv_Lot} {H : List pv_S} {B : List Nat} {n : Nat} {k0 : Int32} (hd : decode mi.2.1 pc = .ok (.invokevirtual idx, 3)) (hlk : Cond.methodLink mi.1.cls idx mX9_bestStore.1 ∈ pv_W) (hD : 8+1 ≤ d) (hCA : CA I ((T, L), H, B)) (hw : wx n ((T, L), H, B)) (hn : n ≤ 600) (hbc : 6 ≤ bc) (hbs : 36 ≤ bs) (hcat : (st.map fun v => v.category).sum ≤ 8) (K : po_ok (pv_K z E d (bc - 6) (bs - 36) mi pc lv st) I J [pv_xIO] (po_best ((T, L), H, B) k0)) : pv_X z E d bc bs mi pc lv (.int (k0) :: .ref (0) :: st) pv_K0 pv_P0 I J := by
  obtain ⟨bc, rfl⟩ : ∃ b0, bc = 6 + b0 := ⟨bc - 6, by omega⟩
  obtain ⟨bs, rfl⟩ : ∃ b0, bs = 36 + b0 := ⟨bs - 36, by omega⟩
  rw [show 6 + bc - 6 = bc by omega, show 36 + bs - 36 = bs by omega] at K
  obtain ⟨d, rfl⟩ : ∃ d0, d = d0 + 1 := ⟨d - 1, by omega⟩
  have key := px_callV (bc := bc) (bs := bs) (bc1 := 6) (bs1 := 36) (as := [.int (k0)]) (E := E) (z := z) (lv := lv) hd mvX9_bestStore hlk pv_s_main (by decide) rfl pv_k_main rfl rfl hcat (by exact Nat.le_of_ble_eq_true rfl) (s_X9_bestStore (by omega) hCA hw hn (Nat.le_refl _) (Nat.le_refl _) K)
  exact key
theorem pt_cheapN_lt {T : pv_T} {k : Nat} : ∀ {n b : Nat}, pt_cheapN T k n = some b → b < n
  | 0, b, h => by cases h
  | n + 1, b, h => by
    rw [pt_cheapN] at h
    by_cases e : T 404 ≤ T (324 + 10 * n) ∧ 0 < pt_price T n k
    · rw [if_pos e] at h
      cases e2 : pt_cheapN T k n with
      | none =>
        rw [e2] at h
        have h9 : n = b := Option.some.inj h
        omega
      | some c =>
        rw [e2] at h
        have h3 := pt_cheapN_lt e2
        by_cases e3 : pt_price T n k < pt_price T c k
        · have h9 : n = b := Option.some.inj (by rw [← h]; exact (if_pos e3).symm)
          omega
        · have h9 : c = b := Option.some.inj (by rw [← h]; exact (if_neg e3).symm)
          omega
    · rw [if_neg e] at h
      have h3 := pt_cheapN_lt h
      omega
set_option maxRecDepth 100000 in
set_option maxHeartbeats 4000000 in
theorem s_X9_cheapest {Q : pv_Q} {E : pv_E} {d bc bs : Nat} {J : pv_JT} {I : pv_IT} {T : pv_T} {L : List pv_Lot} {H : List pv_S} {B : List Nat} {n : Nat} {k0 : Int32} (hD : 8 ≤ d) (hCA : CA I ((T, L), H, B)) (hw : wx n ((T, L), H, B)) (hn : n ≤ 600) (hbc : 6 ≤ bc) (hbs : 36 ≤ bs) (h : po_ok Q I J [pv_xIO] (po_cheap ((T, L), H, B) k0)) : pv_X (pv_ZQ E Q) E d bc bs mX9_cheapest 0 [(0, .ref (0)), (1, .int (k0))] [] pv_K0 pv_P0 I J := by
  obtain ⟨hC, hH, hB⟩ := id hCA
  replace hC : CR I 1 T L := hC
  replace hH : HR I H := hH
  replace hB : TXc I B := hB
  have hdy : dy (T, L) := hw.1.1
  have htb : tb T := hdy.1
  have hlb : lbs L := hdy.2.1
  have h31 : L.length ≤ 31 := hlb.1
  have h30 : L.length ≤ 30 := hw.1.2.1
  have h404 : T 404 ≤ 60 * n := hw.1.2.2.1
  have hn8 : T 405 ≤ 8 := htb.2.2.1
  have hp8 : T 407 ≤ 8 := htb.2.2.2.2.2.1.1
  have h10 : T 408 ≤ 10 := htb.2.2.2.2.2.2.2.1
  refine px_aload_n dX9_cheapest_0 rfl ?_
  refine px_iload_n dX9_cheapest_1 rfl ?_
  refine c_X9_requireKind dX9_cheapest_2 mlX9_147 (by omega) hC (by omega) (by omega) (by omega) (Nat.le_of_ble_eq_true rfl) ⟨fun ha => ?_, fun ha => ?_⟩
  obtain ⟨k, k1, rfl, k3⟩ := pu_has_nI ha (by omega)
  have h9 := (by unfold po_cheap at h; simp only [tn, k3] at h; rw [if_pos ha] at h; exact h)
  replace h9 : po_ok Q I J [pv_xIO] (0, oI (pt_cheapN T k (T 407)), ((T, L), H, B)) := h9
  have key : ∀ i : Nat, i ≤ T 407 → pv_X (pv_ZQ E Q) E d (bc - 1) (bs - 6) mX9_cheapest 9 [(0, .ref 0), (1, .int (nI k)), (2, .int (oI (pt_cheapN T k (i)))), (3, .int (nI (i)))] [] pv_K0 pv_P0 (I) (J) := by
    refine pv_up (T 407) ?_ ?_
    · refine px_iload_n dX9_cheapest_9 rfl ?_
      refine px_aload_n dX9_cheapest_10 rfl ?_
      refine px_getR dX9_cheapest_11 flX9_10 pv_s_main (by decide) (by decide) rfl pv_k_main pv_p_0_0 ?_
      refine px_getR dX9_cheapest_14 flX9_122 pv_ship_1.1 (by decide) (by decide) rfl pv_ship_1.2.1 pv_ship_1.2.2.2.2.2.1.1 ?_
      refine px_getI dX9_cheapest_17 flX9_126 pv_ship_1.2.2.2.2.2.1.2.1 (by decide) (by decide) rfl pv_ship_1.2.2.2.2.2.1.2.2.1 ?_
      refine px_iv (y := nI (T 407)) (hC.2.2.2.2.1.1) ?_
      refine px_icmp_geN (tgt := 108) dX9_cheapest_20 (by decide) (by omega) (by omega) (fun _ => ?_) (fun h0 => absurd h0 (by omega))
      refine px_iload_n dX9_cheapest_108 rfl ?_
      exact px_iret dX9_cheapest_109 rfl (Or.inl rfl) (po_same h9 hCA)
    · intro i hi K 
      have hpb := htb.2.2.2.2.2.1.2.1 i hi
      have hpr : pt_price T i k ≤ 100 := hpb.2.2 k (by omega)
      refine px_iload_n dX9_cheapest_9 rfl ?_
      refine px_aload_n dX9_cheapest_10 rfl ?_
      refine px_getR dX9_cheapest_11 flX9_10 pv_s_main (by decide) (by decide) rfl pv_k_main pv_p_0_0 ?_
      refine px_getR dX9_cheapest_14 flX9_122 pv_ship_1.1 (by decide) (by decide) rfl pv_ship_1.2.1 pv_ship_1.2.2.2.2.2.1.1 ?_
      refine px_getI dX9_cheapest_17 flX9_126 pv_ship_1.2.2.2.2.2.1.2.1 (by decide) (by decide) rfl pv_ship_1.2.2.2.2.2.1.2.2.1 ?_
      refine px_iv (y := nI (T 407)) (hC.2.2.2.2.1.1) ?_
      refine px_icmp_geN (tgt := 108) dX9_cheapest_20 (by decide) (by omega) (by omega) (fun h0 => absurd h0 (by omega)) (fun _ => ?_)
      refine px_aload_n dX9_cheapest_23 rfl ?_
      refine px_getR dX9_cheapest_24 flX9_10 pv_s_main (by decide) (by decide) rfl pv_k_main pv_p_0_0 ?_
      refine px_getR dX9_cheapest_27 flX9_122 pv_ship_1.1 (by decide) (by decide) rfl pv_ship_1.2.1 pv_ship_1.2.2.2.2.2.1.1 ?_
      refine px_iload_n dX9_cheapest_30 rfl ?_
      refine px_iload_n dX9_cheapest_31 rfl ?_
      refine c_X5_priceOf dX9_cheapest_32 mlX9_150 (by omega) pv_ship_1.2.2.2.2.2.1.2 hC.2.2.2.2.1 (by omega) (by omega) (Nat.le_of_ble_eq_true rfl) ?_
      refine px_istore dX9_cheapest_35 (by decide) ?_
      refine px_aload_n dX9_cheapest_37 rfl ?_
      refine px_getR dX9_cheapest_38 flX9_10 pv_s_main (by decide) (by decide) rfl pv_k_main pv_p_0_0 ?_
      refine px_getR dX9_cheapest_41 flX9_122 pv_ship_1.1 (by decide) (by decide) rfl pv_ship_1.2.1 pv_ship_1.2.2.2.2.2.1.1 ?_
      refine px_getR dX9_cheapest_44 flX9_141 pv_ship_1.2.2.2.2.2.1.2.1 (by decide) (by decide) rfl pv_ship_1.2.2.2.2.2.1.2.2.1 pv_ship_1.2.2.2.2.2.1.2.2.2.1.1 ?_
      refine px_iload_n dX9_cheapest_47 rfl ?_
      refine c_X6_at dX9_cheapest_48 mlX9_88 (by omega) (j := i) pv_ship_1.2.2.2.2.2.1.2.2.2.1.2 (by omega) (Nat.le_of_ble_eq_true rfl) ?_
      refine px_iv (y := nI (T (324 + 10 * (i)))) (pc_day hC.2.2.2.2.1 (by omega)) ?_
      refine px_aload_n dX9_cheapest_51 rfl ?_
      refine px_getR dX9_cheapest_52 flX9_10 pv_s_main (by decide) (by decide) rfl pv_k_main pv_p_0_0 ?_
      refine px_getI dX9_cheapest_55 flX9_304 pv_ship_1.1 (by decide) (by decide) rfl pv_ship_1.2.1 ?_
      refine px_iv (y := nI (T 404)) (hC.1.1) ?_
      refine px_icmp_ltN (tgt := 70) dX9_cheapest_58 (by decide) (by omega) (by omega) (fun h5 => ?_) (fun h5 => ?_)
      · refine px_iconst (v := nI 0) dX9_cheapest_70 (by decide) ?_
        refine px_istore dX9_cheapest_71 (by decide) ?_
        refine px_iload dX9_cheapest_73 rfl ?_
        refine px_if_eqN (tgt := 102) dX9_cheapest_75 (by decide) (by omega) (fun _ => ?_) (fun h0 => absurd h0 (by omega))
        refine px_iincN (c := 1) (by decide) dX9_cheapest_102 rfl (by decide) ?_
        refine px_goto (tgt := 9) dX9_cheapest_105 (by decide) ?_
        refine px_keep [0, 1, 2, 3] ?_
        rw [show pt_cheapN T k (i + 1) = pt_cheapN T k i by rw [pt_cheapN, if_neg (by omega)]] at K
        exact K
      · refine px_iload dX9_cheapest_61 rfl ?_
        refine px_if_leN (tgt := 70) dX9_cheapest_63 (by decide) (by omega) (fun h6 => ?_) (fun h6 => ?_)
        · refine px_iconst (v := nI 0) dX9_cheapest_70 (by decide) ?_
          refine px_istore dX9_cheapest_71 (by decide) ?_
          refine px_iload dX9_cheapest_73 rfl ?_
          refine px_if_eqN (tgt := 102) dX9_cheapest_75 (by decide) (by omega) (fun _ => ?_) (fun h0 => absurd h0 (by omega))
          refine px_iincN (c := 1) (by decide) dX9_cheapest_102 rfl (by decide) ?_
          refine px_goto (tgt := 9) dX9_cheapest_105 (by decide) ?_
          refine px_keep [0, 1, 2, 3] ?_
          rw [show pt_cheapN T k (i + 1) = pt_cheapN T k i by rw [pt_cheapN, if_neg (by omega)]] at K
          exact K
        · refine px_iconst (v := nI 1) dX9_cheapest_66 (by decide) ?_
          refine px_goto (tgt := 71) dX9_cheapest_67 (by decide) ?_
          refine px_istore dX9_cheapest_71 (by decide) ?_
          refine px_iload dX9_cheapest_73 rfl ?_
          refine px_if_eqN (tgt := 102) dX9_cheapest_75 (by decide) (by omega) (fun h0 => absurd h0 (by omega)) (fun _ => ?_)
          refine px_iload_n dX9_cheapest_78 rfl ?_
          refine px_iconst (v := -1) dX9_cheapest_79 (by decide) ?_
          cases e : pt_cheapN T k i with
          | none =>
            have e1 : pt_cheapN T k (i + 1) = some i := by rw [pt_cheapN, if_pos ⟨by omega, by omega⟩, e]
            rw [e1] at K
            refine px_icmp_eq (tgt := 100) dX9_cheapest_80 (by decide) (fun _ => ?_) (fun h8 => absurd rfl h8)
            refine px_iload_n dX9_cheapest_100 rfl ?_
            refine px_istore_n dX9_cheapest_101 (by decide) ?_
            refine px_iincN (c := 1) (by decide) dX9_cheapest_102 rfl (by decide) ?_
            refine px_goto (tgt := 9) dX9_cheapest_105 (by decide) ?_
            refine px_keep [0, 1, 2, 3] ?_
            exact K
          | some b =>
            have e1 : pt_cheapN T k (i + 1) = if pt_price T i k < pt_price T b k then some i else some b := by rw [pt_cheapN, if_pos ⟨by omega, by omega⟩, e]
            have hbi := pt_cheapN_lt e
            have hprb : pt_price T b k ≤ 100 := (htb.2.2.2.2.2.1.2.1 b (by omega)).2.2 k (by omega)
            refine px_icmp_eq (tgt := 100) dX9_cheapest_80 (by decide) (fun h8 => absurd h8 (pn_m1 (by omega))) (fun _ => ?_)
            refine px_iload dX9_cheapest_83 rfl ?_
            refine px_aload_n dX9_cheapest_85 rfl ?_
            refine px_getR dX9_cheapest_86 flX9_10 pv_s_main (by decide) (by decide) rfl pv_k_main pv_p_0_0 ?_
            refine px_getR dX9_cheapest_89 flX9_122 pv_ship_1.1 (by decide) (by decide) rfl pv_ship_1.2.1 pv_ship_1.2.2.2.2.2.1.1 ?_
            refine px_iload_n dX9_cheapest_92 rfl ?_
            refine px_iload_n dX9_cheapest_93 rfl ?_
            refine c_X5_priceOf dX9_cheapest_94 mlX9_150 (by omega) pv_ship_1.2.2.2.2.2.1.2 hC.2.2.2.2.1 (by omega) (by omega) (Nat.le_of_ble_eq_true rfl) ?_
            refine px_icmp_geN (tgt := 102) dX9_cheapest_97 (by decide) (by omega) (by omega) (fun h8 => ?_) (fun h8 => ?_)
            · refine px_iincN (c := 1) (by decide) dX9_cheapest_102 rfl (by decide) ?_
              refine px_goto (tgt := 9) dX9_cheapest_105 (by decide) ?_
              refine px_keep [0, 1, 2, 3] ?_
              rw [e1, if_neg (by omega)] at K
              exact K
            · refine px_iload_n dX9_cheapest_100 rfl ?_
              refine px_istore_n dX9_cheapest_101 (by decide) ?_
              refine px_iincN (c := 1) (by decide) dX9_cheapest_102 rfl (by decide) ?_
              refine px_goto (tgt := 9) dX9_cheapest_105 (by decide) ?_
              refine px_keep [0, 1, 2, 3] ?_
              rw [e1, if_pos h8] at K
              exact K
  refine px_iconst (v := -1) dX9_cheapest_5 (by decide) ?_
  refine px_istore_n dX9_cheapest_6 (by decide) ?_
  refine px_iconst (v := nI 0) dX9_cheapest_7 (by decide) ?_
  refine px_istore_n dX9_cheapest_8 (by decide) ?_
  exact key 0 (by omega)
  exact py_out rfl (Or.inl rfl) (po_exc (by unfold po_cheap at h; rw [if_neg ha] at h; exact h) hCA)
theorem c_X9_cheapest {z : pv_Z} {E : pv_E} {d bc bs : Nat} {J : pv_JT} {I : pv_IT} {mi : pv_MI} {pc idx : Nat} {lv : pv_LV} {st : List Value} {T : pv_T} {L : List pv_Lot} {H : List pv_S} {B : List Nat} {n : Nat} {k0 : Int32} (hd : decode mi.2.1 pc = .ok (.invokevirtual idx, 3)) (hlk : Cond.methodLink mi.1.cls idx mX9_cheapest.1 ∈ pv_W) (hD : 8+1 ≤ d) (hCA : CA I ((T, L), H, B)) (hw : wx n ((T, L), H, B)) (hn : n ≤ 600) (hbc : 6 ≤ bc) (hbs : 36 ≤ bs) (hcat : (st.map fun v => v.category).sum ≤ 8) (K : po_ok (pv_K z E d (bc - 6) (bs - 36) mi pc lv st) I J [pv_xIO] (po_cheap ((T, L), H, B) k0)) : pv_X z E d bc bs mi pc lv (.int (k0) :: .ref (0) :: st) pv_K0 pv_P0 I J := by
  obtain ⟨bc, rfl⟩ : ∃ b0, bc = 6 + b0 := ⟨bc - 6, by omega⟩
  obtain ⟨bs, rfl⟩ : ∃ b0, bs = 36 + b0 := ⟨bs - 36, by omega⟩
  rw [show 6 + bc - 6 = bc by omega, show 36 + bs - 36 = bs by omega] at K
  obtain ⟨d, rfl⟩ : ∃ d0, d = d0 + 1 := ⟨d - 1, by omega⟩
  have key := px_callV (bc := bc) (bs := bs) (bc1 := 6) (bs1 := 36) (as := [.int (k0)]) (E := E) (z := z) (lv := lv) hd mvX9_cheapest hlk pv_s_main (by decide) rfl pv_k_main rfl rfl hcat (by exact Nat.le_of_ble_eq_true rfl) (s_X9_cheapest (by omega) hCA hw hn (Nat.le_refl _) (Nat.le_refl _) K)
  exact key
set_option maxRecDepth 100000 in
set_option maxHeartbeats 4000000 in
theorem s_X9_leastPurchase {Q : pv_Q} {E : pv_E} {d bc bs : Nat} {J : pv_JT} {I : pv_IT} {T : pv_T} {L : List pv_Lot} {H : List pv_S} {B : List Nat} {n : Nat} {k0 s0 : Int32} (hD : 8 ≤ d) (hCA : CA I ((T, L), H, B)) (hw : wx n ((T, L), H, B)) (hn : n ≤ 600) (hbc : 6 ≤ bc) (hbs : 36 ≤ bs) (h : po_ok Q I J [pv_xIO] (po_least ((T, L), H, B) k0 s0)) : pv_X (pv_ZQ E Q) E d bc bs mX9_leastPurchase 0 [(0, .ref (0)), (1, .int (k0)), (2, .int (s0))] [] pv_K0 pv_P0 I J := by
  obtain ⟨hC, hH, hB⟩ := id hCA
  replace hC : CR I 1 T L := hC
  replace hH : HR I H := hH
  replace hB : TXc I B := hB
  have hdy : dy (T, L) := hw.1.1
  have htb : tb T := hdy.1
  have hlb : lbs L := hdy.2.1
  have h31 : L.length ≤ 31 := hlb.1
  have h30 : L.length ≤ 30 := hw.1.2.1
  have h404 : T 404 ≤ 60 * n := hw.1.2.2.1
  have hn8 : T 405 ≤ 8 := htb.2.2.1
  have hp8 : T 407 ≤ 8 := htb.2.2.2.2.2.1.1
  have h10 : T 408 ≤ 10 := htb.2.2.2.2.2.2.2.1
  refine px_aload_n dX9_leastPurchase_0 rfl ?_
  refine px_iload_n dX9_leastPurchase_1 rfl ?_
  refine c_X9_requireKind dX9_leastPurchase_2 mlX9_147 (by omega) hC (by omega) (by omega) (by omega) (Nat.le_of_ble_eq_true rfl) ⟨fun ha => ?_, fun ha => ?_⟩
  refine px_iload_n dX9_leastPurchase_5 rfl ?_
  refine c_X9_requireStore dX9_leastPurchase_6 mlX9_62 (by omega)  (by omega) (by omega) (Nat.le_of_ble_eq_true rfl) ⟨fun hs => ?_, fun hs => ?_⟩
  have hab := And.intro ha hs
  obtain ⟨k, k1, rfl, k3⟩ := pu_has_nI ha (by omega)
  obtain ⟨s, s1, rfl, s3⟩ := pu_has_nI hs (by omega)
  have h9 := (by unfold po_least at h; simp only [tn, k3, s3] at h; rw [if_pos hab] at h; exact h)
  replace h9 : po_ok Q I J [pv_xIO] (0, oI10 (pt_least (T, L) k s), ((T, L), H, B)) := h9
  have hsh : T (28 + 5 * k) ≤ 216000 * n := hw.1.2.2.2.1 k (by omega)
  have hwt := @pt_wait_le T
  refine px_aload_n dX9_leastPurchase_9 rfl ?_
  refine px_getR dX9_leastPurchase_10 flX9_10 pv_s_main (by decide) (by decide) rfl pv_k_main pv_p_0_0 ?_
  refine c_X7_daysToNextPort dX9_leastPurchase_13 mlX9_328 (by omega) pv_ship_1 hC htb (by omega) (Nat.le_of_ble_eq_true rfl) ?_
  have key : ∀ i : Nat, i ≤ 101 → ∀ I1 : pv_IT, (∀ k0, k0 < 45 ∨ 89 ≤ k0 → I1 k0 = I k0) → (∀ j, j < i → (fun j => (pt_short (pt_tried (T, L) k s j) k (pt_wait T)).isNone) j = false) → pv_X (pv_ZQ E Q) E d (bc - 1 - 1) (bs - 6 - 6) mX9_leastPurchase 20 [(0, .ref 0), (1, .int (nI k)), (2, .int (nI s)), (3, .int (nI (pt_wait T))), (4, .int (nI (10 * (i))))] [] pv_K0 pv_P0 (I1) (J) := by
    refine pv_up (101) ?_ ?_
    · intro I1 hFk hA
      refine px_iload dX9_leastPurchase_20 rfl ?_
      refine px_sipush (v := nI 1000) dX9_leastPurchase_22 (by decide) ?_
      refine px_icmp_gtN (tgt := 82) dX9_leastPurchase_25 (by decide) (by omega) (by omega) (fun _ => ?_) (fun h0 => absurd h0 (by omega))
      refine px_iconst (v := -1) dX9_leastPurchase_82 (by decide) ?_
      exact px_iret dX9_leastPurchase_83 rfl (Or.inl rfl) (po_val (v := -1) (by unfold pt_least at h9; rw [pf_none (n := 101) hA] at h9; exact h9) (CA_trial hCA hFk) (fun k hk => hFk k (by omega)))
    · intro i hi K I1 hFk hA
      have hCA1 := CA_trial hCA hFk
      have hC1 : CR I1 1 T L := hCA1.1
      refine px_iload dX9_leastPurchase_20 rfl ?_
      refine px_sipush (v := nI 1000) dX9_leastPurchase_22 (by decide) ?_
      refine px_icmp_gtN (tgt := 82) dX9_leastPurchase_25 (by decide) (by omega) (by omega) (fun h0 => absurd h0 (by omega)) (fun _ => ?_)
      refine px_aload_n dX9_leastPurchase_28 rfl ?_
      refine px_getR dX9_leastPurchase_29 flX9_16 pv_s_main (by decide) (by decide) rfl pv_k_main pv_p_0_1 ?_
      refine px_aload_n dX9_leastPurchase_32 rfl ?_
      refine px_getR dX9_leastPurchase_33 flX9_10 pv_s_main (by decide) (by decide) rfl pv_k_main pv_p_0_0 ?_
      refine c_X7_become dX9_leastPurchase_36 mlX9_317 (by omega) pv_ship_45 pv_ship_1 hC1 (by omega) (Nat.le_of_ble_eq_true rfl) (fun I2 hC2 hF2 => ?_)
      refine px_iload dX9_leastPurchase_39 rfl ?_
      refine px_if_leN (tgt := 60) dX9_leastPurchase_41 (by decide) (by omega) (fun h5 => ?_) (fun h5 => ?_)
      · have hst : pt_tried (T, L) k s i = (T, L) := by unfold pt_tried; rw [if_neg (by omega)]
        have hdt : dy (T, L) := hdy
        refine px_aload_n dX9_leastPurchase_60 rfl ?_
        refine px_getR dX9_leastPurchase_61 flX9_16 pv_s_main (by decide) (by decide) rfl pv_k_main pv_p_0_1 ?_
        refine px_iload_n dX9_leastPurchase_64 rfl ?_
        refine px_iload_n dX9_leastPurchase_65 rfl ?_
        refine c_X7_firstShort dX9_leastPurchase_66 mlX9_322 (by omega) pv_ship_45 hC2 hdt (by omega) (by omega) (by omega) (Nat.le_of_ble_eq_true rfl) (fun I4 hF4 => ?_)
        refine px_iconst (v := -1) dX9_leastPurchase_69 (by decide) ?_
        have hF9 : ∀ k0, k0 < 45 ∨ 89 ≤ k0 → I4 k0 = I k0 := fun k0 hk => (hF4 k0 (by omega)).trans ((hF2 k0 (by omega)).trans (hFk k0 (by omega)))
        cases e : pt_short (T, L) k (pt_wait T) with
        | none =>
          refine px_icmp_ne (tgt := 76) dX9_leastPurchase_70 (by decide) (fun h8 => absurd rfl h8) (fun _ => ?_)
          refine px_iload dX9_leastPurchase_73 rfl ?_
          exact px_iret dX9_leastPurchase_75 rfl (Or.inl rfl) (po_val (v := nI (10 * i)) (by unfold pt_least at h9; rw [pf_some (n := 101) hi hA (show (pt_short (pt_tried (T, L) k s i) k (pt_wait T)).isNone = true by rw [hst, e]; rfl)] at h9; exact h9) (CA_trial hCA hF9) (fun k hk => hF9 k (by omega)))
        | some b =>
          have hb := (pf_is e).1
          refine px_icmp_ne (tgt := 76) dX9_leastPurchase_70 (by decide) (fun _ => ?_) (fun h8 => absurd h8 (pn_m1 (by omega)))
          refine px_iincN (c := 10) (by decide) dX9_leastPurchase_76 rfl (by decide) ?_
          refine px_goto (tgt := 20) dX9_leastPurchase_79 (by decide) ?_
          refine px_keep [0, 1, 2, 3, 4] ?_
          rw [show 10 * (i + 1) = 10 * i + 10 by omega] at K
          refine K I4 hF9 (fun j hj => ?_)
          by_cases e9 : j = i
          · subst e9
            show (pt_short (pt_tried (T, L) k s j) k (pt_wait T)).isNone = false
            rw [hst, e]
            rfl
          · exact hA j (by omega)
      · refine px_aload_n dX9_leastPurchase_44 rfl ?_
        refine px_getR dX9_leastPurchase_45 flX9_16 pv_s_main (by decide) (by decide) rfl pv_k_main pv_p_0_1 ?_
        refine px_getR dX9_leastPurchase_48 flX9_66 pv_ship_45.1 (by decide) (by decide) rfl pv_ship_45.2.1 pv_ship_45.2.2.2.2.1.1 ?_
        refine px_iload_n dX9_leastPurchase_51 rfl ?_
        refine px_iload_n dX9_leastPurchase_52 rfl ?_
        refine px_iload dX9_leastPurchase_53 rfl ?_
        refine px_iconst (v := nI 0) dX9_leastPurchase_55 (by decide) ?_
        refine c_X2_addOne dX9_leastPurchase_56 mlX9_331 (by omega) pv_ship_45.2.2.2.2.1.2 hC2.2.2.2.1 (by omega) ⟨by omega, by omega, by show 10 * i ≤ 2000; omega, by show 0 ≤ 2000; omega⟩ (Nat.le_of_ble_eq_true rfl) (fun I3 hL3 hF3 => ?_)
        have hC3 := CR_lt hC2 hL3 (fun k h1 h2 h3 => hF3 k (by omega))
        refine px_pop dX9_leastPurchase_59 rfl ?_
        have hst : pt_tried (T, L) k s i = (T, L ++ [(k, s, 10 * i, 0)]) := by unfold pt_tried; rw [if_pos (by omega)]
        have hdt : dy (T, L ++ [(k, s, 10 * i, 0)]) := by
          refine ⟨htb, hC3.2.2.2.1.2.1, fun l hl => ?_⟩
          rw [pl_g_push]
          replace hl : l < (L ++ [(k, s, 10 * i, 0)]).length := hl
          rw [List.length_append] at hl
          replace hl : l < L.length + 1 := hl
          by_cases e3 : l < L.length
          · rw [if_pos e3]; exact hdy.2.2 l e3
          · rw [if_neg e3, if_pos (by omega)]
            exact ⟨by show 1 ≤ 10 * i; omega, by show 0 < 1000; omega⟩
        refine px_aload_n dX9_leastPurchase_60 rfl ?_
        refine px_getR dX9_leastPurchase_61 flX9_16 pv_s_main (by decide) (by decide) rfl pv_k_main pv_p_0_1 ?_
        refine px_iload_n dX9_leastPurchase_64 rfl ?_
        refine px_iload_n dX9_leastPurchase_65 rfl ?_
        refine c_X7_firstShort dX9_leastPurchase_66 mlX9_322 (by omega) pv_ship_45 hC3 hdt (by omega) (by omega) (by omega) (Nat.le_of_ble_eq_true rfl) (fun I4 hF4 => ?_)
        refine px_iconst (v := -1) dX9_leastPurchase_69 (by decide) ?_
        have hF9 : ∀ k0, k0 < 45 ∨ 89 ≤ k0 → I4 k0 = I k0 := fun k0 hk => (hF4 k0 (by omega)).trans ((hF3 k0 (by omega)).trans ((hF2 k0 (by omega)).trans (hFk k0 (by omega))))
        cases e : pt_short (T, L ++ [(k, s, 10 * i, 0)]) k (pt_wait T) with
        | none =>
          refine px_icmp_ne (tgt := 76) dX9_leastPurchase_70 (by decide) (fun h8 => absurd rfl h8) (fun _ => ?_)
          refine px_iload dX9_leastPurchase_73 rfl ?_
          exact px_iret dX9_leastPurchase_75 rfl (Or.inl rfl) (po_val (v := nI (10 * i)) (by unfold pt_least at h9; rw [pf_some (n := 101) hi hA (show (pt_short (pt_tried (T, L) k s i) k (pt_wait T)).isNone = true by rw [hst, e]; rfl)] at h9; exact h9) (CA_trial hCA hF9) (fun k hk => hF9 k (by omega)))
        | some b =>
          have hb := (pf_is e).1
          refine px_icmp_ne (tgt := 76) dX9_leastPurchase_70 (by decide) (fun _ => ?_) (fun h8 => absurd h8 (pn_m1 (by omega)))
          refine px_iincN (c := 10) (by decide) dX9_leastPurchase_76 rfl (by decide) ?_
          refine px_goto (tgt := 20) dX9_leastPurchase_79 (by decide) ?_
          refine px_keep [0, 1, 2, 3, 4] ?_
          rw [show 10 * (i + 1) = 10 * i + 10 by omega] at K
          refine K I4 hF9 (fun j hj => ?_)
          by_cases e9 : j = i
          · subst e9
            show (pt_short (pt_tried (T, L) k s j) k (pt_wait T)).isNone = false
            rw [hst, e]
            rfl
          · exact hA j (by omega)
  refine px_istore_n dX9_leastPurchase_16 (by decide) ?_
  refine px_iconst (v := nI 0) dX9_leastPurchase_17 (by decide) ?_
  refine px_istore dX9_leastPurchase_18 (by decide) ?_
  exact key 0 (by omega) I (fun _ _ => rfl) (fun j hj => absurd hj (Nat.not_lt_zero _))
  exact py_out rfl (Or.inl rfl) (po_exc (by unfold po_least at h; rw [if_neg (fun z => hs z.2)] at h; exact h) hCA)
  exact py_out rfl (Or.inl rfl) (po_exc (by unfold po_least at h; rw [if_neg (fun z => ha z.1)] at h; exact h) hCA)
theorem c_X9_leastPurchase {z : pv_Z} {E : pv_E} {d bc bs : Nat} {J : pv_JT} {I : pv_IT} {mi : pv_MI} {pc idx : Nat} {lv : pv_LV} {st : List Value} {T : pv_T} {L : List pv_Lot} {H : List pv_S} {B : List Nat} {n : Nat} {k0 s0 : Int32} (hd : decode mi.2.1 pc = .ok (.invokevirtual idx, 3)) (hlk : Cond.methodLink mi.1.cls idx mX9_leastPurchase.1 ∈ pv_W) (hD : 8+1 ≤ d) (hCA : CA I ((T, L), H, B)) (hw : wx n ((T, L), H, B)) (hn : n ≤ 600) (hbc : 6 ≤ bc) (hbs : 36 ≤ bs) (hcat : (st.map fun v => v.category).sum ≤ 8) (K : po_ok (pv_K z E d (bc - 6) (bs - 36) mi pc lv st) I J [pv_xIO] (po_least ((T, L), H, B) k0 s0)) : pv_X z E d bc bs mi pc lv (.int (s0) :: .int (k0) :: .ref (0) :: st) pv_K0 pv_P0 I J := by
  obtain ⟨bc, rfl⟩ : ∃ b0, bc = 6 + b0 := ⟨bc - 6, by omega⟩
  obtain ⟨bs, rfl⟩ : ∃ b0, bs = 36 + b0 := ⟨bs - 36, by omega⟩
  rw [show 6 + bc - 6 = bc by omega, show 36 + bs - 36 = bs by omega] at K
  obtain ⟨d, rfl⟩ : ∃ d0, d = d0 + 1 := ⟨d - 1, by omega⟩
  have key := px_callV (bc := bc) (bs := bs) (bc1 := 6) (bs1 := 36) (as := [.int (k0), .int (s0)]) (E := E) (z := z) (lv := lv) hd mvX9_leastPurchase hlk pv_s_main (by decide) rfl pv_k_main rfl rfl hcat (by exact Nat.le_of_ble_eq_true rfl) (s_X9_leastPurchase (by omega) hCA hw hn (Nat.le_refl _) (Nat.le_refl _) K)
  exact key
