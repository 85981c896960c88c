/-! The class: its calls that change the ship. -/
set_option maxRecDepth 100000 in
set_option maxHeartbeats 4000000 in
theorem s_X9_addKind {Q : pv_Q} {E : pv_E} {d bc bs : Nat} {J : pv_JT} {I : pv_IT} {T : pv_T} {L : List pv_Lot} {H : List pv_S} {B : List Nat} {n : Nat} {a0 b0 c0 : Int32} (hD : 8 ≤ d) (hCA : CA I ((T, L), H, B)) (hw : wx n ((T, L), H, B)) (hn : n ≤ 600) (hbc : 6 ≤ bc) (hbs : 36 ≤ bs) (h : po_ok Q I J [pv_xIA, pv_xIS] (po_addKind ((T, L), H, B) a0 b0 c0)) : pv_X (pv_ZQ E Q) E d bc bs mX9_addKind 0 [(0, .ref (0)), (1, .int (a0)), (2, .int (b0)), (3, .int (c0))] [] pv_K0 pv_P0 I J := by
  obtain ⟨hC, hH, hB⟩ := id hCA
  replace hC : CR I 1 T L := hC
  replace hH : HR I H := hH
  replace hB : TXc I B := hB
  have hdy : dy (T, L) := hw.1.1
  have htb : tb T := hdy.1
  have hlb : lbs L := hdy.2.1
  have h31 : L.length ≤ 31 := hlb.1
  have h30 : L.length ≤ 30 := hw.1.2.1
  have h404 : T 404 ≤ 60 * n := hw.1.2.2.1
  have hn8 : T 405 ≤ 8 := htb.2.2.1
  have hp8 : T 407 ≤ 8 := htb.2.2.2.2.2.1.1
  have h10 : T 408 ≤ 10 := htb.2.2.2.2.2.2.2.1
  refine px_iload_n dX9_addKind_0 rfl ?_
  refine px_iconst (v := nI 0) dX9_addKind_1 (by decide) ?_
  refine px_sipush (v := nI 200) dX9_addKind_2 (by decide) ?_
  refine c_X9_requireWithin dX9_addKind_5 mlX9_33 (by omega)  (by omega) (by omega) (Nat.le_of_ble_eq_true rfl) ⟨fun ha => ?_, fun ha => ?_⟩
  refine px_iload_n dX9_addKind_8 rfl ?_
  refine px_iconst (v := nI 0) dX9_addKind_9 (by decide) ?_
  refine px_sipush (v := nI 200) dX9_addKind_10 (by decide) ?_
  refine c_X9_requireWithin dX9_addKind_13 mlX9_33 (by omega)  (by omega) (by omega) (Nat.le_of_ble_eq_true rfl) ⟨fun hb => ?_, fun hb => ?_⟩
  refine px_iload_n dX9_addKind_16 rfl ?_
  refine px_iconst (v := nI 0) dX9_addKind_17 (by decide) ?_
  refine px_sipush (v := nI 200) dX9_addKind_18 (by decide) ?_
  refine c_X9_requireWithin dX9_addKind_21 mlX9_33 (by omega)  (by omega) (by omega) (Nat.le_of_ble_eq_true rfl) ⟨fun hc => ?_, fun hc => ?_⟩
  refine px_aload_n dX9_addKind_24 rfl ?_
  refine px_getR dX9_addKind_25 flX9_10 pv_s_main (by decide) (by decide) rfl pv_k_main pv_p_0_0 ?_
  refine px_getR dX9_addKind_28 flX9_37 pv_ship_1.1 (by decide) (by decide) rfl pv_ship_1.2.1 pv_ship_1.2.2.1.1 ?_
  refine px_getI dX9_addKind_31 flX9_41 pv_ship_1.2.2.1.2.1 (by decide) (by decide) rfl pv_ship_1.2.2.1.2.2.1 ?_
  refine px_iv (y := nI (T 405)) (hC.2.1.1) ?_
  refine px_bipush (v := nI 8) dX9_addKind_34 (by decide) ?_
  refine px_icmp_ltN (tgt := 49) dX9_addKind_36 (by decide) (by omega) (by omega) (fun h5 => ?_) (fun h5 => ?_)
  · refine px_aload_n dX9_addKind_49 rfl ?_
    refine px_getR dX9_addKind_50 flX9_22 pv_s_main (by decide) (by decide) rfl pv_k_main pv_p_0_2 ?_
    refine px_aload_n dX9_addKind_53 rfl ?_
    refine px_getR dX9_addKind_54 flX9_10 pv_s_main (by decide) (by decide) rfl pv_k_main pv_p_0_0 ?_
    refine c_X0_save dX9_addKind_57 mlX9_54 (by omega) hH hC (Nat.le_of_ble_eq_true rfl) (fun I1 hH1 hF1 => ?_)
    have hC1 : CR I1 1 T L := CR_of hC fun k h1 h2 => hF1 k (by omega)
    have hab := And.intro ha (And.intro hb hc)
    obtain ⟨a, a1, a2, rfl, a3⟩ := pu_in_nI ha (by omega) (by omega)
    obtain ⟨b, b1, b2, rfl, b3⟩ := pu_in_nI hb (by omega) (by omega)
    obtain ⟨c, c1, c2, rfl, c3⟩ := pu_in_nI hc (by omega) (by omega)
    refine px_aload_n dX9_addKind_60 rfl ?_
    refine px_getR dX9_addKind_61 flX9_10 pv_s_main (by decide) (by decide) rfl pv_k_main pv_p_0_0 ?_
    refine px_getR dX9_addKind_64 flX9_37 pv_ship_1.1 (by decide) (by decide) rfl pv_ship_1.2.1 pv_ship_1.2.2.1.1 ?_
    refine px_iload_n dX9_addKind_67 rfl ?_
    refine px_iload_n dX9_addKind_68 rfl ?_
    refine px_iload_n dX9_addKind_69 rfl ?_
    refine c_X1_addOne dX9_addKind_70 mlX9_58 (by omega) pv_ship_1.2.2.1.2 hC1.2.1 (by omega) (Nat.le_of_ble_eq_true rfl) (fun I2 hK2 hF2 => ?_)
    have hC2 := CR_ck hC1 hK2 (fun k h1 h2 h3 => hF2 k (by omega)) (fun i hi => by unfold pt_kind; rw [pt_un (by omega), pt_un (by omega), pt_un (by omega), pt_un (by omega)])
    exact px_iret dX9_addKind_73 rfl (Or.inl rfl) (po_fin (by unfold po_addKind at h; simp only [tn, a3, b3, c3] at h; rw [if_pos hab] at h; rw [if_pos (by omega)] at h; exact h) hB hF1 hH1 hC2 (fun k hk => hF2 k (by omega)))
  · exact px_throw (pvt_IS (text := "there are 8 kinds") (by decide)) dX9_addKind_39 dX9_addKind_42 dX9_addKind_43 dX9_addKind_45 dX9_addKind_48 rfl (by omega) (by omega) (by omega) rfl (po_exc (by unfold po_addKind at h; rw [if_pos ⟨ha, hb, hc⟩] at h; rw [if_neg (show ¬ T 405 < 8 by omega)] at h; exact h) hCA)
  exact py_out rfl (Or.inl rfl) (po_exc (by unfold po_addKind at h; rw [if_neg (fun z => hc z.2.2)] at h; exact h) hCA)
  exact py_out rfl (Or.inl rfl) (po_exc (by unfold po_addKind at h; rw [if_neg (fun z => hb z.2.1)] at h; exact h) hCA)
  exact py_out rfl (Or.inl rfl) (po_exc (by unfold po_addKind at h; rw [if_neg (fun z => ha z.1)] at h; exact h) hCA)
theorem c_X9_addKind {z : pv_Z} {E : pv_E} {d bc bs : Nat} {J : pv_JT} {I : pv_IT} {mi : pv_MI} {pc idx : Nat} {lv : pv_LV} {st : List Value} {T : pv_T} {L : List pv_Lot} {H : List pv_S} {B : List Nat} {n : Nat} {a0 b0 c0 : Int32} (hd : decode mi.2.1 pc = .ok (.invokevirtual idx, 3)) (hlk : Cond.methodLink mi.1.cls idx mX9_addKind.1 ∈ pv_W) (hD : 8+1 ≤ d) (hCA : CA I ((T, L), H, B)) (hw : wx n ((T, L), H, B)) (hn : n ≤ 600) (hbc : 6 ≤ bc) (hbs : 36 ≤ bs) (hcat : (st.map fun v => v.category).sum ≤ 8) (K : po_ok (pv_K z E d (bc - 6) (bs - 36) mi pc lv st) I J [pv_xIA, pv_xIS] (po_addKind ((T, L), H, B) a0 b0 c0)) : pv_X z E d bc bs mi pc lv (.int (c0) :: .int (b0) :: .int (a0) :: .ref (0) :: st) pv_K0 pv_P0 I J := by
  obtain ⟨bc, rfl⟩ : ∃ b0, bc = 6 + b0 := ⟨bc - 6, by omega⟩
  obtain ⟨bs, rfl⟩ : ∃ b0, bs = 36 + b0 := ⟨bs - 36, by omega⟩
  rw [show 6 + bc - 6 = bc by omega, show 36 + bs - 36 = bs by omega] at K
  obtain ⟨d, rfl⟩ : ∃ d0, d = d0 + 1 := ⟨d - 1, by omega⟩
  have key := px_callV (bc := bc) (bs := bs) (bc1 := 6) (bs1 := 36) (as := [.int (a0), .int (b0), .int (c0)]) (E := E) (z := z) (lv := lv) hd mvX9_addKind hlk pv_s_main (by decide) rfl pv_k_main rfl rfl hcat (by exact Nat.le_of_ble_eq_true rfl) (s_X9_addKind (by omega) hCA hw hn (Nat.le_refl _) (Nat.le_refl _) K)
  exact key
set_option maxRecDepth 100000 in
set_option maxHeartbeats 4000000 in
theorem s_X9_setRoom {Q : pv_Q} {E : pv_E} {d bc bs : Nat} {J : pv_JT} {I : pv_IT} {T : pv_T} {L : List pv_Lot} {H : List pv_S} {B : List Nat} {n : Nat} {s0 r0 : Int32} (hD : 8 ≤ d) (hCA : CA I ((T, L), H, B)) (hw : wx n ((T, L), H, B)) (hn : n ≤ 600) (hbc : 6 ≤ bc) (hbs : 36 ≤ bs) (h : po_ok Q I J [pv_xIO, pv_xIA, pv_xIS] (po_setRoom ((T, L), H, B) s0 r0)) : pv_X (pv_ZQ E Q) E d bc bs mX9_setRoom 0 [(0, .ref (0)), (1, .int (s0)), (2, .int (r0))] [] pv_K0 pv_P0 I J := by
  obtain ⟨hC, hH, hB⟩ := id hCA
  replace hC : CR I 1 T L := hC
  replace hH : HR I H := hH
  replace hB : TXc I B := hB
  have hdy : dy (T, L) := hw.1.1
  have htb : tb T := hdy.1
  have hlb : lbs L := hdy.2.1
  have h31 : L.length ≤ 31 := hlb.1
  have h30 : L.length ≤ 30 := hw.1.2.1
  have h404 : T 404 ≤ 60 * n := hw.1.2.2.1
  have hn8 : T 405 ≤ 8 := htb.2.2.1
  have hp8 : T 407 ≤ 8 := htb.2.2.2.2.2.1.1
  have h10 : T 408 ≤ 10 := htb.2.2.2.2.2.2.2.1
  refine px_iload_n dX9_setRoom_0 rfl ?_
  refine c_X9_requireStore dX9_setRoom_1 mlX9_62 (by omega)  (by omega) (by omega) (Nat.le_of_ble_eq_true rfl) ⟨fun hs => ?_, fun hs => ?_⟩
  obtain ⟨s, s1, rfl, s3⟩ := pu_has_nI hs (by omega)
  refine px_iload_n dX9_setRoom_4 rfl ?_
  refine px_iconst (v := nI 0) dX9_setRoom_5 (by decide) ?_
  refine px_sipush (v := nI 5000) dX9_setRoom_6 (by decide) ?_
  refine c_X9_requireWithin dX9_setRoom_9 mlX9_33 (by omega)  (by omega) (by omega) (Nat.le_of_ble_eq_true rfl) ⟨fun hr => ?_, fun hr => ?_⟩
  obtain ⟨r, r1, r2, rfl, r3⟩ := pu_in_nI hr (by omega) (by omega)
  have hin := ps_in_le (s := s) hlb
  refine px_aload_n dX9_setRoom_12 rfl ?_
  refine px_getR dX9_setRoom_13 flX9_10 pv_s_main (by decide) (by decide) rfl pv_k_main pv_p_0_0 ?_
  refine px_getR dX9_setRoom_16 flX9_66 pv_ship_1.1 (by decide) (by decide) rfl pv_ship_1.2.1 pv_ship_1.2.2.2.2.1.1 ?_
  refine px_iload_n dX9_setRoom_19 rfl ?_
  refine c_X2_rationsIn dX9_setRoom_20 mlX9_70 (by omega) pv_ship_1.2.2.2.2.1.2 hC.2.2.2.1 (by omega) (Nat.le_of_ble_eq_true rfl) ?_
  refine px_iload_n dX9_setRoom_23 rfl ?_
  refine px_icmp_leN (tgt := 37) dX9_setRoom_24 (by decide) (by omega) (by omega) (fun h5 => ?_) (fun h5 => ?_)
  · refine px_aload_n dX9_setRoom_37 rfl ?_
    refine px_getR dX9_setRoom_38 flX9_22 pv_s_main (by decide) (by decide) rfl pv_k_main pv_p_0_2 ?_
    refine px_aload_n dX9_setRoom_41 rfl ?_
    refine px_getR dX9_setRoom_42 flX9_10 pv_s_main (by decide) (by decide) rfl pv_k_main pv_p_0_0 ?_
    refine c_X0_save dX9_setRoom_45 mlX9_54 (by omega) hH hC (Nat.le_of_ble_eq_true rfl) (fun I1 hH1 hF1 => ?_)
    have hC1 : CR I1 1 T L := CR_of hC fun k h1 h2 => hF1 k (by omega)
    refine px_aload_n dX9_setRoom_48 rfl ?_
    refine px_getR dX9_setRoom_49 flX9_10 pv_s_main (by decide) (by decide) rfl pv_k_main pv_p_0_0 ?_
    refine px_getR dX9_setRoom_52 flX9_78 pv_ship_1.1 (by decide) (by decide) rfl pv_ship_1.2.1 pv_ship_1.2.2.2.1.1 ?_
    refine px_getR dX9_setRoom_55 flX9_82 pv_ship_1.2.2.2.1.2.1 (by decide) (by decide) rfl pv_ship_1.2.2.2.1.2.2.1 pv_ship_1.2.2.2.1.2.2.2.1.1 ?_
    refine px_iload_n dX9_setRoom_58 rfl ?_
    refine c_X6_at dX9_setRoom_59 mlX9_88 (by omega) (j := s) pv_ship_1.2.2.2.1.2.2.2.1.2 (by omega) (Nat.le_of_ble_eq_true rfl) ?_
    refine px_iv (y := nI (T (64 + s))) ((hC1.2.2.1 (s) (by omega)).1) ?_
    refine px_istore_n dX9_setRoom_62 (by decide) ?_
    refine px_aload_n dX9_setRoom_63 rfl ?_
    refine px_getR dX9_setRoom_64 flX9_10 pv_s_main (by decide) (by decide) rfl pv_k_main pv_p_0_0 ?_
    refine px_getR dX9_setRoom_67 flX9_78 pv_ship_1.1 (by decide) (by decide) rfl pv_ship_1.2.1 pv_ship_1.2.2.2.1.1 ?_
    refine px_getR dX9_setRoom_70 flX9_82 pv_ship_1.2.2.2.1.2.1 (by decide) (by decide) rfl pv_ship_1.2.2.2.1.2.2.1 pv_ship_1.2.2.2.1.2.2.2.1.1 ?_
    refine px_iload_n dX9_setRoom_73 rfl ?_
    refine px_iload_n dX9_setRoom_74 rfl ?_
    refine c_X6_put dX9_setRoom_75 mlX9_93 (by omega) (j := s) pv_ship_1.2.2.2.1.2.2.2.1.2 (by omega) (Nat.le_of_ble_eq_true rfl) ?_
    refine px_iload_n dX9_setRoom_78 rfl ?_
    exact px_iret dX9_setRoom_79 rfl (Or.inl rfl) (po_fin (by unfold po_setRoom at h; simp only [tn, s3, r3] at h; rw [if_pos hs] at h; rw [if_pos hr] at h; rw [if_pos (by omega)] at h; exact h) hB hF1 hH1 (CR_room hC1 (by omega)) (fun k hk => pv_uI_ne (by omega)))
  · exact px_throw (pvt_IS (text := "the lots in the store have more rations") (by decide)) dX9_setRoom_27 dX9_setRoom_30 dX9_setRoom_31 dX9_setRoom_33 dX9_setRoom_36 rfl (by omega) (by omega) (by omega) rfl (po_exc (by unfold po_setRoom at h; simp only [tn, s3, r3] at h; rw [if_pos hs] at h; rw [if_pos hr] at h; rw [if_neg (by omega)] at h; exact h) hCA)
  exact py_out rfl (Or.inl rfl) (po_exc (by unfold po_setRoom at h; simp only [tn, s3] at h; rw [if_pos hs] at h; rw [if_neg hr] at h; exact h) hCA)
  exact py_out rfl (Or.inl rfl) (po_exc (by unfold po_setRoom at h; rw [if_neg hs] at h; exact h) hCA)
theorem c_X9_setRoom {z : pv_Z} {E : pv_E} {d bc bs : Nat} {J : pv_JT} {I : pv_IT} {mi : pv_MI} {pc idx : Nat} {lv : pv_LV} {st : List Value} {T : pv_T} {L : List pv_Lot} {H : List pv_S} {B : List Nat} {n : Nat} {s0 r0 : Int32} (hd : decode mi.2.1 pc = .ok (.invokevirtual idx, 3)) (hlk : Cond.methodLink mi.1.cls idx mX9_setRoom.1 ∈ pv_W) (hD : 8+1 ≤ d) (hCA : CA I ((T, L), H, B)) (hw : wx n ((T, L), H, B)) (hn : n ≤ 600) (hbc : 6 ≤ bc) (hbs : 36 ≤ bs) (hcat : (st.map fun v => v.category).sum ≤ 8) (K : po_ok (pv_K z E d (bc - 6) (bs - 36) mi pc lv st) I J [pv_xIO, pv_xIA, pv_xIS] (po_setRoom ((T, L), H, B) s0 r0)) : pv_X z E d bc bs mi pc lv (.int (r0) :: .int (s0) :: .ref (0) :: st) pv_K0 pv_P0 I J := by
  obtain ⟨bc, rfl⟩ : ∃ b0, bc = 6 + b0 := ⟨bc - 6, by omega⟩
  obtain ⟨bs, rfl⟩ : ∃ b0, bs = 36 + b0 := ⟨bs - 36, by omega⟩
  rw [show 6 + bc - 6 = bc by omega, show 36 + bs - 36 = bs by omega] at K
  obtain ⟨d, rfl⟩ : ∃ d0, d = d0 + 1 := ⟨d - 1, by omega⟩
  have key := px_callV (bc := bc) (bs := bs) (bc1 := 6) (bs1 := 36) (as := [.int (s0), .int (r0)]) (E := E) (z := z) (lv := lv) hd mvX9_setRoom hlk pv_s_main (by decide) rfl pv_k_main rfl rfl hcat (by exact Nat.le_of_ble_eq_true rfl) (s_X9_setRoom (by omega) hCA hw hn (Nat.le_refl _) (Nat.le_refl _) K)
  exact key
set_option maxRecDepth 100000 in
set_option maxHeartbeats 4000000 in
theorem s_X9_warm {Q : pv_Q} {E : pv_E} {d bc bs : Nat} {J : pv_JT} {I : pv_IT} {T : pv_T} {L : List pv_Lot} {H : List pv_S} {B : List Nat} {n : Nat} {s0 r0 : Int32} (hD : 8 ≤ d) (hCA : CA I ((T, L), H, B)) (hw : wx n ((T, L), H, B)) (hn : n ≤ 600) (hbc : 6 ≤ bc) (hbs : 36 ≤ bs) (h : po_ok Q I J [pv_xIO, pv_xIA] (po_warm ((T, L), H, B) s0 r0)) : pv_X (pv_ZQ E Q) E d bc bs mX9_warm 0 [(0, .ref (0)), (1, .int (s0)), (2, .int (r0))] [] pv_K0 pv_P0 I J := by
  obtain ⟨hC, hH, hB⟩ := id hCA
  replace hC : CR I 1 T L := hC
  replace hH : HR I H := hH
  replace hB : TXc I B := hB
  have hdy : dy (T, L) := hw.1.1
  have htb : tb T := hdy.1
  have hlb : lbs L := hdy.2.1
  have h31 : L.length ≤ 31 := hlb.1
  have h30 : L.length ≤ 30 := hw.1.2.1
  have h404 : T 404 ≤ 60 * n := hw.1.2.2.1
  have hn8 : T 405 ≤ 8 := htb.2.2.1
  have hp8 : T 407 ≤ 8 := htb.2.2.2.2.2.1.1
  have h10 : T 408 ≤ 10 := htb.2.2.2.2.2.2.2.1
  refine px_iload_n dX9_warm_0 rfl ?_
  refine px_iconst (v := nI 1) dX9_warm_1 (by decide) ?_
  refine px_iconst (v := nI 2) dX9_warm_2 (by decide) ?_
  refine c_X9_isWithin dX9_warm_3 mlX9_97 (by omega)  (Nat.le_of_ble_eq_true rfl) ?_
  refine px_if_neB (tgt := 19) dX9_warm_6 (by decide) (fun hs => ?_) (fun hs => ?_)
  · obtain ⟨s, s1, s2, rfl, s3⟩ := pu_in_nI hs (by omega) (by omega)
    refine px_iload_n dX9_warm_19 rfl ?_
    refine px_iconst (v := nI 0) dX9_warm_20 (by decide) ?_
    refine px_bipush (v := nI 30) dX9_warm_21 (by decide) ?_
    refine c_X9_requireWithin dX9_warm_23 mlX9_33 (by omega)  (by omega) (by omega) (Nat.le_of_ble_eq_true rfl) ⟨fun hr => ?_, fun hr => ?_⟩
    obtain ⟨r, r1, r2, rfl, r3⟩ := pu_in_nI hr (by omega) (by omega)
    refine px_aload_n dX9_warm_26 rfl ?_
    refine px_getR dX9_warm_27 flX9_22 pv_s_main (by decide) (by decide) rfl pv_k_main pv_p_0_2 ?_
    refine px_aload_n dX9_warm_30 rfl ?_
    refine px_getR dX9_warm_31 flX9_10 pv_s_main (by decide) (by decide) rfl pv_k_main pv_p_0_0 ?_
    refine c_X0_save dX9_warm_34 mlX9_54 (by omega) hH hC (Nat.le_of_ble_eq_true rfl) (fun I1 hH1 hF1 => ?_)
    have hC1 : CR I1 1 T L := CR_of hC fun k h1 h2 => hF1 k (by omega)
    refine px_aload_n dX9_warm_37 rfl ?_
    refine px_getR dX9_warm_38 flX9_10 pv_s_main (by decide) (by decide) rfl pv_k_main pv_p_0_0 ?_
    refine px_getR dX9_warm_41 flX9_78 pv_ship_1.1 (by decide) (by decide) rfl pv_ship_1.2.1 pv_ship_1.2.2.2.1.1 ?_
    refine px_getR dX9_warm_44 flX9_106 pv_ship_1.2.2.2.1.2.1 (by decide) (by decide) rfl pv_ship_1.2.2.2.1.2.2.1 pv_ship_1.2.2.2.1.2.2.2.2.1 ?_
    refine px_iload_n dX9_warm_47 rfl ?_
    refine c_X6_at dX9_warm_48 mlX9_88 (by omega) (j := s) pv_ship_1.2.2.2.1.2.2.2.2.2 (by omega) (Nat.le_of_ble_eq_true rfl) ?_
    refine px_iv (y := nI (T (67 + s))) ((hC1.2.2.1 (s) (by omega)).2) ?_
    refine px_istore_n dX9_warm_51 (by decide) ?_
    refine px_aload_n dX9_warm_52 rfl ?_
    refine px_getR dX9_warm_53 flX9_10 pv_s_main (by decide) (by decide) rfl pv_k_main pv_p_0_0 ?_
    refine px_getR dX9_warm_56 flX9_78 pv_ship_1.1 (by decide) (by decide) rfl pv_ship_1.2.1 pv_ship_1.2.2.2.1.1 ?_
    refine px_getR dX9_warm_59 flX9_106 pv_ship_1.2.2.2.1.2.1 (by decide) (by decide) rfl pv_ship_1.2.2.2.1.2.2.1 pv_ship_1.2.2.2.1.2.2.2.2.1 ?_
    refine px_iload_n dX9_warm_62 rfl ?_
    refine px_iload_n dX9_warm_63 rfl ?_
    refine c_X6_put dX9_warm_64 mlX9_93 (by omega) (j := s) pv_ship_1.2.2.2.1.2.2.2.2.2 (by omega) (Nat.le_of_ble_eq_true rfl) ?_
    refine px_iload_n dX9_warm_67 rfl ?_
    exact px_iret dX9_warm_68 rfl (Or.inl rfl) (po_fin (by unfold po_warm at h; simp only [tn, s3, r3] at h; rw [if_pos hs] at h; rw [if_pos hr] at h; exact h) hB hF1 hH1 (CR_warm hC1 (by omega)) (fun k hk => pv_uI_ne (by omega)))
    exact py_out rfl (Or.inl rfl) (po_exc (by unfold po_warm at h; simp only [tn, s3] at h; rw [if_pos hs] at h; rw [if_neg hr] at h; exact h) hCA)
  · exact px_throw (pvt_IO (text := "there is no such store, or it cannot be warm") (by decide)) dX9_warm_9 dX9_warm_12 dX9_warm_13 dX9_warm_15 dX9_warm_18 rfl (by omega) (by omega) (by omega) rfl (po_exc (by unfold po_warm at h; rw [if_neg hs] at h; exact h) hCA)
theorem c_X9_warm {z : pv_Z} {E : pv_E} {d bc bs : Nat} {J : pv_JT} {I : pv_IT} {mi : pv_MI} {pc idx : Nat} {lv : pv_LV} {st : List Value} {T : pv_T} {L : List pv_Lot} {H : List pv_S} {B : List Nat} {n : Nat} {s0 r0 : Int32} (hd : decode mi.2.1 pc = .ok (.invokevirtual idx, 3)) (hlk : Cond.methodLink mi.1.cls idx mX9_warm.1 ∈ pv_W) (hD : 8+1 ≤ d) (hCA : CA I ((T, L), H, B)) (hw : wx n ((T, L), H, B)) (hn : n ≤ 600) (hbc : 6 ≤ bc) (hbs : 36 ≤ bs) (hcat : (st.map fun v => v.category).sum ≤ 8) (K : po_ok (pv_K z E d (bc - 6) (bs - 36) mi pc lv st) I J [pv_xIO, pv_xIA] (po_warm ((T, L), H, B) s0 r0)) : pv_X z E d bc bs mi pc lv (.int (r0) :: .int (s0) :: .ref (0) :: st) pv_K0 pv_P0 I J := by
  obtain ⟨bc, rfl⟩ : ∃ b0, bc = 6 + b0 := ⟨bc - 6, by omega⟩
  obtain ⟨bs, rfl⟩ : ∃ b0, bs = 36 + b0 := ⟨bs - 36, by omega⟩
  rw [show 6 + bc - 6 = bc by omega, show 36 + bs - 36 = bs by omega] at K
  obtain ⟨d, rfl⟩ : ∃ d0, d = d0 + 1 := ⟨d - 1, by omega⟩
  have key := px_callV (bc := bc) (bs := bs) (bc1 := 6) (bs1 := 36) (as := [.int (s0), .int (r0)]) (E := E) (z := z) (lv := lv) hd mvX9_warm hlk pv_s_main (by decide) rfl pv_k_main rfl rfl hcat (by exact Nat.le_of_ble_eq_true rfl) (s_X9_warm (by omega) hCA hw hn (Nat.le_refl _) (Nat.le_refl _) K)
  exact key
set_option maxRecDepth 100000 in
set_option maxHeartbeats 4000000 in
theorem s_X9_setCrew {Q : pv_Q} {E : pv_E} {d bc bs : Nat} {J : pv_JT} {I : pv_IT} {T : pv_T} {L : List pv_Lot} {H : List pv_S} {B : List Nat} {n : Nat} {a0 : Int32} (hD : 8 ≤ d) (hCA : CA I ((T, L), H, B)) (hw : wx n ((T, L), H, B)) (hn : n ≤ 600) (hbc : 6 ≤ bc) (hbs : 36 ≤ bs) (h : po_ok Q I J [pv_xIA] (po_setCrew ((T, L), H, B) a0)) : pv_X (pv_ZQ E Q) E d bc bs mX9_setCrew 0 [(0, .ref (0)), (1, .int (a0))] [] pv_K0 pv_P0 I J := by
  obtain ⟨hC, hH, hB⟩ := id hCA
  replace hC : CR I 1 T L := hC
  replace hH : HR I H := hH
  replace hB : TXc I B := hB
  have hdy : dy (T, L) := hw.1.1
  have htb : tb T := hdy.1
  have hlb : lbs L := hdy.2.1
  have h31 : L.length ≤ 31 := hlb.1
  have h30 : L.length ≤ 30 := hw.1.2.1
  have h404 : T 404 ≤ 60 * n := hw.1.2.2.1
  have hn8 : T 405 ≤ 8 := htb.2.2.1
  have hp8 : T 407 ≤ 8 := htb.2.2.2.2.2.1.1
  have h10 : T 408 ≤ 10 := htb.2.2.2.2.2.2.2.1
  refine px_iload_n dX9_setCrew_0 rfl ?_
  refine px_iconst (v := nI 1) dX9_setCrew_1 (by decide) ?_
  refine px_bipush (v := nI 100) dX9_setCrew_2 (by decide) ?_
  refine c_X9_requireWithin dX9_setCrew_4 mlX9_33 (by omega)  (by omega) (by omega) (Nat.le_of_ble_eq_true rfl) ⟨fun ha => ?_, fun ha => ?_⟩
  obtain ⟨a, a1, a2, rfl, a3⟩ := pu_in_nI ha (by omega) (by omega)
  refine px_aload_n dX9_setCrew_7 rfl ?_
  refine px_getR dX9_setCrew_8 flX9_22 pv_s_main (by decide) (by decide) rfl pv_k_main pv_p_0_2 ?_
  refine px_aload_n dX9_setCrew_11 rfl ?_
  refine px_getR dX9_setCrew_12 flX9_10 pv_s_main (by decide) (by decide) rfl pv_k_main pv_p_0_0 ?_
  refine c_X0_save dX9_setCrew_15 mlX9_54 (by omega) hH hC (Nat.le_of_ble_eq_true rfl) (fun I1 hH1 hF1 => ?_)
  have hC1 : CR I1 1 T L := CR_of hC fun k h1 h2 => hF1 k (by omega)
  refine px_aload_n dX9_setCrew_18 rfl ?_
  refine px_getR dX9_setCrew_19 flX9_10 pv_s_main (by decide) (by decide) rfl pv_k_main pv_p_0_0 ?_
  refine px_getI dX9_setCrew_22 flX9_109 pv_ship_1.1 (by decide) (by decide) rfl pv_ship_1.2.1 ?_
  refine px_iv (y := nI (T 409)) (hC1.1.2.1) ?_
  refine px_istore_n dX9_setCrew_25 (by decide) ?_
  refine px_aload_n dX9_setCrew_26 rfl ?_
  refine px_getR dX9_setCrew_27 flX9_10 pv_s_main (by decide) (by decide) rfl pv_k_main pv_p_0_0 ?_
  refine px_iload_n dX9_setCrew_30 rfl ?_
  refine px_putI dX9_setCrew_31 fwX9_109 pv_ship_1.1 (by decide) (by decide) rfl pv_ship_1.2.1 ?_
  refine px_iload_n dX9_setCrew_34 rfl ?_
  exact px_iret dX9_setCrew_35 rfl (Or.inl rfl) (po_fin (by unfold po_setCrew at h; simp only [tn, a3] at h; rw [if_pos ha] at h; exact h) hB hF1 hH1 (CR_heads hC1) (fun k hk => pv_uI_ne (by omega)))
  exact py_out rfl (Or.inl rfl) (po_exc (by unfold po_setCrew at h; rw [if_neg ha] at h; exact h) hCA)
theorem c_X9_setCrew {z : pv_Z} {E : pv_E} {d bc bs : Nat} {J : pv_JT} {I : pv_IT} {mi : pv_MI} {pc idx : Nat} {lv : pv_LV} {st : List Value} {T : pv_T} {L : List pv_Lot} {H : List pv_S} {B : List Nat} {n : Nat} {a0 : Int32} (hd : decode mi.2.1 pc = .ok (.invokevirtual idx, 3)) (hlk : Cond.methodLink mi.1.cls idx mX9_setCrew.1 ∈ pv_W) (hD : 8+1 ≤ d) (hCA : CA I ((T, L), H, B)) (hw : wx n ((T, L), H, B)) (hn : n ≤ 600) (hbc : 6 ≤ bc) (hbs : 36 ≤ bs) (hcat : (st.map fun v => v.category).sum ≤ 8) (K : po_ok (pv_K z E d (bc - 6) (bs - 36) mi pc lv st) I J [pv_xIA] (po_setCrew ((T, L), H, B) a0)) : pv_X z E d bc bs mi pc lv (.int (a0) :: .ref (0) :: st) pv_K0 pv_P0 I J := by
  obtain ⟨bc, rfl⟩ : ∃ b0, bc = 6 + b0 := ⟨bc - 6, by omega⟩
  obtain ⟨bs, rfl⟩ : ∃ b0, bs = 36 + b0 := ⟨bs - 36, by omega⟩
  rw [show 6 + bc - 6 = bc by omega, show 36 + bs - 36 = bs by omega] at K
  obtain ⟨d, rfl⟩ : ∃ d0, d = d0 + 1 := ⟨d - 1, by omega⟩
  have key := px_callV (bc := bc) (bs := bs) (bc1 := 6) (bs1 := 36) (as := [.int (a0)]) (E := E) (z := z) (lv := lv) hd mvX9_setCrew hlk pv_s_main (by decide) rfl pv_k_main rfl rfl hcat (by exact Nat.le_of_ble_eq_true rfl) (s_X9_setCrew (by omega) hCA hw hn (Nat.le_refl _) (Nat.le_refl _) K)
  exact key
theorem pn_pay {a : Nat} {x : Int32} (ha : a ≤ 1000000) : ((nI a).toInt64 + x.toInt64).toInt = (a : Int) + x.toInt := by
  have h1 := Int32.toInt_lt x
  have h2 := Int32.le_toInt x
  have e1 : (nI a).toInt64.toInt = (a : Int) := by rw [Int32.toInt_toInt64, nI_toInt (by omega)]
  have e2 : x.toInt64.toInt = x.toInt := Int32.toInt_toInt64 x
  rw [Int64.toInt_add, e1, e2]
  exact Int.bmod_eq_of_le (by omega) (by omega)
theorem pn_pay2 {a : Nat} {x : Int32} (ha : a ≤ 1000000) (h0 : 0 ≤ (a : Int) + x.toInt) (h1 : (a : Int) + x.toInt ≤ 1000000) : ((nI a).toInt64 + x.toInt64).toInt32 = nI ((a : Int) + x.toInt).toNat := by
  have e : (nI a).toInt64 + x.toInt64 = lN ((a : Int) + x.toInt).toNat := by
    apply Int64.toInt_inj.mp
    rw [pn_pay ha]
    unfold lN
    rw [Int64.toInt_ofNat_of_lt (by omega)]
    omega
  rw [e, lN_i]
theorem pn_lcmp {x y : Int64} : (0 ≤ lg_cmp x y ↔ y.toInt ≤ x.toInt) ∧ (lg_cmp x y ≤ 0 ↔ x.toInt ≤ y.toInt) := by
  unfold lg_cmp
  by_cases h1 : x > y
  · have h2 : y.toInt < x.toInt := Int64.lt_iff_toInt_lt.mp h1
    rw [if_pos h1]
    exact ⟨⟨fun _ => by omega, fun _ => by decide⟩, ⟨fun h => absurd h (by decide), fun h => by omega⟩⟩
  · rw [if_neg h1]
    have h2 : ¬ y.toInt < x.toInt := fun h => h1 (Int64.lt_iff_toInt_lt.mpr h)
    by_cases h3 : x = y
    · subst h3
      rw [if_pos rfl]
      exact ⟨⟨fun _ => Int.le_refl _, fun _ => by decide⟩, ⟨fun _ => Int.le_refl _, fun _ => by decide⟩⟩
    · rw [if_neg h3]
      have h4 : x.toInt ≠ y.toInt := fun h => h3 (Int64.toInt_inj.mp h)
      exact ⟨⟨fun h => absurd h (by decide), fun h => by omega⟩, ⟨fun _ => by omega, fun _ => by decide⟩⟩
set_option maxRecDepth 100000 in
set_option maxHeartbeats 4000000 in
theorem s_X9_pay {Q : pv_Q} {E : pv_E} {d bc bs : Nat} {J : pv_JT} {I : pv_IT} {T : pv_T} {L : List pv_Lot} {H : List pv_S} {B : List Nat} {n : Nat} {c0 : Int32} (hD : 8 ≤ d) (hCA : CA I ((T, L), H, B)) (hw : wx n ((T, L), H, B)) (hn : n ≤ 600) (hbc : 6 ≤ bc) (hbs : 36 ≤ bs) (h : po_ok Q I J [pv_xIA] (po_pay ((T, L), H, B) c0)) : pv_X (pv_ZQ E Q) E d bc bs mX9_pay 0 [(0, .ref (0)), (1, .int (c0))] [] pv_K0 pv_P0 I J := by
  obtain ⟨hC, hH, hB⟩ := id hCA
  replace hC : CR I 1 T L := hC
  replace hH : HR I H := hH
  replace hB : TXc I B := hB
  have hdy : dy (T, L) := hw.1.1
  have htb : tb T := hdy.1
  have hlb : lbs L := hdy.2.1
  have h31 : L.length ≤ 31 := hlb.1
  have h30 : L.length ≤ 30 := hw.1.2.1
  have h404 : T 404 ≤ 60 * n := hw.1.2.2.1
  have hn8 : T 405 ≤ 8 := htb.2.2.1
  have hp8 : T 407 ≤ 8 := htb.2.2.2.2.2.1.1
  have h10 : T 408 ≤ 10 := htb.2.2.2.2.2.2.2.1
  have hpu : T 410 ≤ 1000000 := htb.2.2.2.2.1
  have hsum := pn_pay (x := c0) hpu
  refine px_aload_n dX9_pay_0 rfl ?_
  refine px_getR dX9_pay_1 flX9_10 pv_s_main (by decide) (by decide) rfl pv_k_main pv_p_0_0 ?_
  refine px_getI dX9_pay_4 flX9_112 pv_ship_1.1 (by decide) (by decide) rfl pv_ship_1.2.1 ?_
  refine px_iv (y := nI (T 410)) (hC.1.2.2.1) ?_
  refine px_i2l dX9_pay_7 ?_
  refine px_iload_n dX9_pay_8 rfl ?_
  refine px_i2l dX9_pay_9 ?_
  refine px_ladd dX9_pay_10 ?_
  refine px_lstore_n dX9_pay_11 (by decide) ?_
  refine px_lload_n dX9_pay_12 rfl ?_
  refine px_lconst dX9_pay_13 rfl ?_
  refine px_lcmp dX9_pay_14 ?_
  refine px_if_lt (tgt := 26) dX9_pay_15 (by decide) (fun h5 => ?_) (fun h5 => ?_)
  · exact px_throw (pvt_IA (text := "the purse cannot have so many coins") (by decide)) dX9_pay_26 dX9_pay_29 dX9_pay_30 dX9_pay_32 dX9_pay_35 rfl (by omega) (by omega) (by omega) rfl (po_exc (by unfold po_pay at h; rw [if_neg (fun z => absurd h5 (Int32.not_lt.mpr (pn_lcmp.1.mpr (by rw [hsum]; exact z.1))))] at h; exact h) hCA)
  · have h6 : 0 ≤ (T 410 : Int) + c0.toInt := by rw [← hsum]; exact pn_lcmp.1.mp (Int32.not_lt.mp h5)
    refine px_lload_n dX9_pay_18 rfl ?_
    refine px_ldc2l (v := 1000000) dX9_pay_19 (pv_t 630 (by decide +kernel) rfl) ?_
    refine px_lcmp dX9_pay_22 ?_
    refine px_if_le (tgt := 36) dX9_pay_23 (by decide) (fun h7 => ?_) (fun h7 => ?_)
    · have h8 : (T 410 : Int) + c0.toInt ≤ 1000000 := by rw [← hsum]; exact pn_lcmp.2.mp h7
      have h9 := pn_pay2 hpu h6 h8
      refine px_aload_n dX9_pay_36 rfl ?_
      refine px_getR dX9_pay_37 flX9_22 pv_s_main (by decide) (by decide) rfl pv_k_main pv_p_0_2 ?_
      refine px_aload_n dX9_pay_40 rfl ?_
      refine px_getR dX9_pay_41 flX9_10 pv_s_main (by decide) (by decide) rfl pv_k_main pv_p_0_0 ?_
      refine c_X0_save dX9_pay_44 mlX9_54 (by omega) hH hC (Nat.le_of_ble_eq_true rfl) (fun I1 hH1 hF1 => ?_)
      have hC1 : CR I1 1 T L := CR_of hC fun k h1 h2 => hF1 k (by omega)
      refine px_aload_n dX9_pay_47 rfl ?_
      refine px_getR dX9_pay_48 flX9_10 pv_s_main (by decide) (by decide) rfl pv_k_main pv_p_0_0 ?_
      refine px_lload_n dX9_pay_51 rfl ?_
      refine px_l2i dX9_pay_52 ?_
      refine px_iv (y := nI ((T 410 : Int) + c0.toInt).toNat) h9 ?_
      refine px_putI dX9_pay_53 fwX9_112 pv_ship_1.1 (by decide) (by decide) rfl pv_ship_1.2.1 ?_
      refine px_aload_n dX9_pay_56 rfl ?_
      refine px_getR dX9_pay_57 flX9_10 pv_s_main (by decide) (by decide) rfl pv_k_main pv_p_0_0 ?_
      refine px_getI dX9_pay_60 flX9_112 pv_ship_1.1 (by decide) (by decide) rfl pv_ship_1.2.1 ?_
      refine px_iv (y := nI (((T 410 : Int) + c0.toInt).toNat)) (by simp [pv_uI_at]) ?_
      exact px_iret dX9_pay_63 rfl (Or.inl rfl) (po_fin (by unfold po_pay at h; rw [if_pos ⟨h6, h8⟩] at h; exact h) hB hF1 hH1 (CR_pay hC1) (fun k hk => pv_uI_ne (by omega)))
    · exact px_throw (pvt_IA (text := "the purse cannot have so many coins") (by decide)) dX9_pay_26 dX9_pay_29 dX9_pay_30 dX9_pay_32 dX9_pay_35 rfl (by omega) (by omega) (by omega) rfl (po_exc (by unfold po_pay at h; rw [if_neg (fun z => h7 (pn_lcmp.2.mpr (by rw [hsum]; exact z.2)))] at h; exact h) hCA)
theorem c_X9_pay {z : pv_Z} {E : pv_E} {d bc bs : Nat} {J : pv_JT} {I : pv_IT} {mi : pv_MI} {pc idx : Nat} {lv : pv_LV} {st : List Value} {T : pv_T} {L : List pv_Lot} {H : List pv_S} {B : List Nat} {n : Nat} {c0 : Int32} (hd : decode mi.2.1 pc = .ok (.invokevirtual idx, 3)) (hlk : Cond.methodLink mi.1.cls idx mX9_pay.1 ∈ pv_W) (hD : 8+1 ≤ d) (hCA : CA I ((T, L), H, B)) (hw : wx n ((T, L), H, B)) (hn : n ≤ 600) (hbc : 6 ≤ bc) (hbs : 36 ≤ bs) (hcat : (st.map fun v => v.category).sum ≤ 8) (K : po_ok (pv_K z E d (bc - 6) (bs - 36) mi pc lv st) I J [pv_xIA] (po_pay ((T, L), H, B) c0)) : pv_X z E d bc bs mi pc lv (.int (c0) :: .ref (0) :: st) pv_K0 pv_P0 I J := by
  obtain ⟨bc, rfl⟩ : ∃ b0, bc = 6 + b0 := ⟨bc - 6, by omega⟩
  obtain ⟨bs, rfl⟩ : ∃ b0, bs = 36 + b0 := ⟨bs - 36, by omega⟩
  rw [show 6 + bc - 6 = bc by omega, show 36 + bs - 36 = bs by omega] at K
  obtain ⟨d, rfl⟩ : ∃ d0, d = d0 + 1 := ⟨d - 1, by omega⟩
  have key := px_callV (bc := bc) (bs := bs) (bc1 := 6) (bs1 := 36) (as := [.int (c0)]) (E := E) (z := z) (lv := lv) hd mvX9_pay hlk pv_s_main (by decide) rfl pv_k_main rfl rfl hcat (by exact Nat.le_of_ble_eq_true rfl) (s_X9_pay (by omega) hCA hw hn (Nat.le_refl _) (Nat.le_refl _) K)
  exact key
set_option maxRecDepth 100000 in
set_option maxHeartbeats 4000000 in
theorem s_X9_addPort {Q : pv_Q} {E : pv_E} {d bc bs : Nat} {J : pv_JT} {I : pv_IT} {T : pv_T} {L : List pv_Lot} {H : List pv_S} {B : List Nat} {n : Nat} {a0 b0 : Int32} (hD : 8 ≤ d) (hCA : CA I ((T, L), H, B)) (hw : wx n ((T, L), H, B)) (hn : n ≤ 600) (hbc : 6 ≤ bc) (hbs : 36 ≤ bs) (h : po_ok Q I J [pv_xIA, pv_xIS] (po_addPort ((T, L), H, B) a0 b0)) : pv_X (pv_ZQ E Q) E d bc bs mX9_addPort 0 [(0, .ref (0)), (1, .int (a0)), (2, .int (b0))] [] pv_K0 pv_P0 I J := by
  obtain ⟨hC, hH, hB⟩ := id hCA
  replace hC : CR I 1 T L := hC
  replace hH : HR I H := hH
  replace hB : TXc I B := hB
  have hdy : dy (T, L) := hw.1.1
  have htb : tb T := hdy.1
  have hlb : lbs L := hdy.2.1
  have h31 : L.length ≤ 31 := hlb.1
  have h30 : L.length ≤ 30 := hw.1.2.1
  have h404 : T 404 ≤ 60 * n := hw.1.2.2.1
  have hn8 : T 405 ≤ 8 := htb.2.2.1
  have hp8 : T 407 ≤ 8 := htb.2.2.2.2.2.1.1
  have h10 : T 408 ≤ 10 := htb.2.2.2.2.2.2.2.1
  refine px_iload_n dX9_addPort_0 rfl ?_
  refine px_iconst (v := nI 0) dX9_addPort_1 (by decide) ?_
  refine px_sipush (v := nI 500) dX9_addPort_2 (by decide) ?_
  refine c_X9_requireWithin dX9_addPort_5 mlX9_33 (by omega)  (by omega) (by omega) (Nat.le_of_ble_eq_true rfl) ⟨fun ha => ?_, fun ha => ?_⟩
  refine px_iload_n dX9_addPort_8 rfl ?_
  refine px_iconst (v := nI 0) dX9_addPort_9 (by decide) ?_
  refine px_sipush (v := nI 900) dX9_addPort_10 (by decide) ?_
  refine c_X9_requireWithin dX9_addPort_13 mlX9_33 (by omega)  (by omega) (by omega) (Nat.le_of_ble_eq_true rfl) ⟨fun hb => ?_, fun hb => ?_⟩
  have hab := And.intro ha hb
  obtain ⟨a, a1, a2, rfl, a3⟩ := pu_in_nI ha (by omega) (by omega)
  obtain ⟨b, b1, b2, rfl, b3⟩ := pu_in_nI hb (by omega) (by omega)
  refine px_aload_n dX9_addPort_16 rfl ?_
  refine px_getR dX9_addPort_17 flX9_10 pv_s_main (by decide) (by decide) rfl pv_k_main pv_p_0_0 ?_
  refine px_getR dX9_addPort_20 flX9_122 pv_ship_1.1 (by decide) (by decide) rfl pv_ship_1.2.1 pv_ship_1.2.2.2.2.2.1.1 ?_
  refine px_getI dX9_addPort_23 flX9_126 pv_ship_1.2.2.2.2.2.1.2.1 (by decide) (by decide) rfl pv_ship_1.2.2.2.2.2.1.2.2.1 ?_
  refine px_iv (y := nI (T 407)) (hC.2.2.2.2.1.1) ?_
  refine px_bipush (v := nI 8) dX9_addPort_26 (by decide) ?_
  refine px_icmp_geN (tgt := 46) dX9_addPort_28 (by decide) (by omega) (by omega) (fun h5 => ?_) (fun h5 => ?_)
  · exact px_throw (pvt_IS (text := "there are 8 ports, or one with this day") (by decide)) dX9_addPort_46 dX9_addPort_49 dX9_addPort_50 dX9_addPort_52 dX9_addPort_55 rfl (by omega) (by omega) (by omega) rfl (po_exc (by unfold po_addPort at h; simp only [tn, a3, b3] at h; rw [if_pos hab] at h; rw [if_neg (fun z => absurd z.1 (by omega))] at h; exact h) hCA)
  · refine px_aload_n dX9_addPort_31 rfl ?_
    refine px_getR dX9_addPort_32 flX9_10 pv_s_main (by decide) (by decide) rfl pv_k_main pv_p_0_0 ?_
    refine px_getR dX9_addPort_35 flX9_122 pv_ship_1.1 (by decide) (by decide) rfl pv_ship_1.2.1 pv_ship_1.2.2.2.2.2.1.1 ?_
    refine px_iload_n dX9_addPort_38 rfl ?_
    refine c_X5_onDay dX9_addPort_39 mlX9_129 (by omega) pv_ship_1.2.2.2.2.2.1.2 hC.2.2.2.2.1 htb.2.2.2.2.2.1 (by omega) (Nat.le_of_ble_eq_true rfl) ?_
    refine px_iconst (v := -1) dX9_addPort_42 (by decide) ?_
    cases e : pt_on T a with
    | none =>
      refine px_icmp_eq (tgt := 56) dX9_addPort_43 (by decide) (fun _ => ?_) (fun h9 => absurd rfl h9)
      refine px_aload_n dX9_addPort_56 rfl ?_
      refine px_getR dX9_addPort_57 flX9_22 pv_s_main (by decide) (by decide) rfl pv_k_main pv_p_0_2 ?_
      refine px_aload_n dX9_addPort_60 rfl ?_
      refine px_getR dX9_addPort_61 flX9_10 pv_s_main (by decide) (by decide) rfl pv_k_main pv_p_0_0 ?_
      refine c_X0_save dX9_addPort_64 mlX9_54 (by omega) hH hC (Nat.le_of_ble_eq_true rfl) (fun I1 hH1 hF1 => ?_)
      have hC1 : CR I1 1 T L := CR_of hC fun k h1 h2 => hF1 k (by omega)
      refine px_aload_n dX9_addPort_67 rfl ?_
      refine px_getR dX9_addPort_68 flX9_10 pv_s_main (by decide) (by decide) rfl pv_k_main pv_p_0_0 ?_
      refine px_getR dX9_addPort_71 flX9_122 pv_ship_1.1 (by decide) (by decide) rfl pv_ship_1.2.1 pv_ship_1.2.2.2.2.2.1.1 ?_
      refine px_iload_n dX9_addPort_74 rfl ?_
      refine px_iload_n dX9_addPort_75 rfl ?_
      refine c_X5_insert dX9_addPort_76 mlX9_134 (by omega) pv_ship_1.2.2.2.2.2.1.2 hC1.2.2.2.2.1 htb.2.2.2.2.2.1 (by omega) (by omega) (Nat.le_of_ble_eq_true rfl) (fun I2 hK2 hF2 => ?_)
      have hC2 := CR_cp hC1 hK2 (fun k h1 h2 h3 => hF2 k (by omega)) (fun i hi => by
        unfold pt_ins
        have hj : pt_place T a ≤ T 407 := by
          unfold pt_place
          cases e : pt_aft T a with
          | none => exact Nat.le_refl _
          | some p => exact Nat.le_of_lt (pt_aft_lt e).1
        rw [if_neg (by omega), if_neg (by omega), if_neg (by omega)])
      exact px_iret dX9_addPort_79 rfl (Or.inl rfl) (po_fin (by unfold po_addPort at h; simp only [tn, a3, b3] at h; rw [if_pos hab] at h; rw [if_pos ⟨by omega, e⟩] at h; exact h) hB hF1 hH1 hC2 (fun k hk => hF2 k (by omega)))
    | some p =>
      have hpl := pt_on_lt e
      refine px_icmp_eq (tgt := 56) dX9_addPort_43 (by decide) (fun h9 => absurd h9 (pn_m1 (by omega))) (fun _ => ?_)
      exact px_throw (pvt_IS (text := "there are 8 ports, or one with this day") (by decide)) dX9_addPort_46 dX9_addPort_49 dX9_addPort_50 dX9_addPort_52 dX9_addPort_55 rfl (by omega) (by omega) (by omega) rfl (po_exc (by unfold po_addPort at h; simp only [tn, a3, b3] at h; rw [if_pos hab] at h; rw [if_neg (fun z => by rw [e] at z; cases z.2)] at h; exact h) hCA)
  exact py_out rfl (Or.inl rfl) (po_exc (by unfold po_addPort at h; rw [if_neg (fun z => hb z.2)] at h; exact h) hCA)
  exact py_out rfl (Or.inl rfl) (po_exc (by unfold po_addPort at h; rw [if_neg (fun z => ha z.1)] at h; exact h) hCA)
theorem c_X9_addPort {z : pv_Z} {E : pv_E} {d bc bs : Nat} {J : pv_JT} {I : pv_IT} {mi : pv_MI} {pc idx : Nat} {lv : pv_LV} {st : List Value} {T : pv_T} {L : List pv_Lot} {H : List pv_S} {B : List Nat} {n : Nat} {a0 b0 : Int32} (hd : decode mi.2.1 pc = .ok (.invokevirtual idx, 3)) (hlk : Cond.methodLink mi.1.cls idx mX9_addPort.1 ∈ pv_W) (hD : 8+1 ≤ d) (hCA : CA I ((T, L), H, B)) (hw : wx n ((T, L), H, B)) (hn : n ≤ 600) (hbc : 6 ≤ bc) (hbs : 36 ≤ bs) (hcat : (st.map fun v => v.category).sum ≤ 8) (K : po_ok (pv_K z E d (bc - 6) (bs - 36) mi pc lv st) I J [pv_xIA, pv_xIS] (po_addPort ((T, L), H, B) a0 b0)) : pv_X z E d bc bs mi pc lv (.int (b0) :: .int (a0) :: .ref (0) :: st) pv_K0 pv_P0 I J := by
  obtain ⟨bc, rfl⟩ : ∃ b0, bc = 6 + b0 := ⟨bc - 6, by omega⟩
  obtain ⟨bs, rfl⟩ : ∃ b0, bs = 36 + b0 := ⟨bs - 36, by omega⟩
  rw [show 6 + bc - 6 = bc by omega, show 36 + bs - 36 = bs by omega] at K
  obtain ⟨d, rfl⟩ : ∃ d0, d = d0 + 1 := ⟨d - 1, by omega⟩
  have key := px_callV (bc := bc) (bs := bs) (bc1 := 6) (bs1 := 36) (as := [.int (a0), .int (b0)]) (E := E) (z := z) (lv := lv) hd mvX9_addPort hlk pv_s_main (by decide) rfl pv_k_main rfl rfl hcat (by exact Nat.le_of_ble_eq_true rfl) (s_X9_addPort (by omega) hCA hw hn (Nat.le_refl _) (Nat.le_refl _) K)
  exact key
set_option maxRecDepth 100000 in
set_option maxHeartbeats 4000000 in
theorem s_X9_setPrice {Q : pv_Q} {E : pv_E} {d bc bs : Nat} {J : pv_JT} {I : pv_IT} {T : pv_T} {L : List pv_Lot} {H : List pv_S} {B : List Nat} {n : Nat} {a0 b0 c0 : Int32} (hD : 8 ≤ d) (hCA : CA I ((T, L), H, B)) (hw : wx n ((T, L), H, B)) (hn : n ≤ 600) (hbc : 6 ≤ bc) (hbs : 36 ≤ bs) (h : po_ok Q I J [pv_xIO, pv_xIA] (po_setPrice ((T, L), H, B) a0 b0 c0)) : pv_X (pv_ZQ E Q) E d bc bs mX9_setPrice 0 [(0, .ref (0)), (1, .int (a0)), (2, .int (b0)), (3, .int (c0))] [] pv_K0 pv_P0 I J := by
  obtain ⟨hC, hH, hB⟩ := id hCA
  replace hC : CR I 1 T L := hC
  replace hH : HR I H := hH
  replace hB : TXc I B := hB
  have hdy : dy (T, L) := hw.1.1
  have htb : tb T := hdy.1
  have hlb : lbs L := hdy.2.1
  have h31 : L.length ≤ 31 := hlb.1
  have h30 : L.length ≤ 30 := hw.1.2.1
  have h404 : T 404 ≤ 60 * n := hw.1.2.2.1
  have hn8 : T 405 ≤ 8 := htb.2.2.1
  have hp8 : T 407 ≤ 8 := htb.2.2.2.2.2.1.1
  have h10 : T 408 ≤ 10 := htb.2.2.2.2.2.2.2.1
  refine px_aload_n dX9_setPrice_0 rfl ?_
  refine px_iload_n dX9_setPrice_1 rfl ?_
  refine c_X9_requirePort dX9_setPrice_2 mlX9_138 (by omega) hC (by omega) (by omega) (by omega) (Nat.le_of_ble_eq_true rfl) ⟨fun ha => ?_, fun ha => ?_⟩
  refine px_aload_n dX9_setPrice_5 rfl ?_
  refine px_iload_n dX9_setPrice_6 rfl ?_
  refine c_X9_requireKind dX9_setPrice_7 mlX9_147 (by omega) hC (by omega) (by omega) (by omega) (Nat.le_of_ble_eq_true rfl) ⟨fun hb => ?_, fun hb => ?_⟩
  have hab := And.intro ha hb
  obtain ⟨a, a1, rfl, a3⟩ := pu_has_nI ha (by omega)
  obtain ⟨b, b1, rfl, b3⟩ := pu_has_nI hb (by omega)
  refine px_iload_n dX9_setPrice_10 rfl ?_
  refine px_iconst (v := nI 0) dX9_setPrice_11 (by decide) ?_
  refine px_bipush (v := nI 100) dX9_setPrice_12 (by decide) ?_
  refine c_X9_requireWithin dX9_setPrice_14 mlX9_33 (by omega)  (by omega) (by omega) (Nat.le_of_ble_eq_true rfl) ⟨fun hc => ?_, fun hc => ?_⟩
  obtain ⟨c, c1, c2, rfl, c3⟩ := pu_in_nI hc (by omega) (by omega)
  refine px_aload_n dX9_setPrice_17 rfl ?_
  refine px_getR dX9_setPrice_18 flX9_22 pv_s_main (by decide) (by decide) rfl pv_k_main pv_p_0_2 ?_
  refine px_aload_n dX9_setPrice_21 rfl ?_
  refine px_getR dX9_setPrice_22 flX9_10 pv_s_main (by decide) (by decide) rfl pv_k_main pv_p_0_0 ?_
  refine c_X0_save dX9_setPrice_25 mlX9_54 (by omega) hH hC (Nat.le_of_ble_eq_true rfl) (fun I1 hH1 hF1 => ?_)
  have hC1 : CR I1 1 T L := CR_of hC fun k h1 h2 => hF1 k (by omega)
  refine px_aload_n dX9_setPrice_28 rfl ?_
  refine px_getR dX9_setPrice_29 flX9_10 pv_s_main (by decide) (by decide) rfl pv_k_main pv_p_0_0 ?_
  refine px_getR dX9_setPrice_32 flX9_122 pv_ship_1.1 (by decide) (by decide) rfl pv_ship_1.2.1 pv_ship_1.2.2.2.2.2.1.1 ?_
  refine px_iload_n dX9_setPrice_35 rfl ?_
  refine px_iload_n dX9_setPrice_36 rfl ?_
  refine c_X5_priceOf dX9_setPrice_37 mlX9_150 (by omega) pv_ship_1.2.2.2.2.2.1.2 hC1.2.2.2.2.1 (by omega) (by omega) (Nat.le_of_ble_eq_true rfl) ?_
  refine px_istore dX9_setPrice_40 (by decide) ?_
  refine px_aload_n dX9_setPrice_42 rfl ?_
  refine px_getR dX9_setPrice_43 flX9_10 pv_s_main (by decide) (by decide) rfl pv_k_main pv_p_0_0 ?_
  refine px_getR dX9_setPrice_46 flX9_122 pv_ship_1.1 (by decide) (by decide) rfl pv_ship_1.2.1 pv_ship_1.2.2.2.2.2.1.1 ?_
  refine px_iload_n dX9_setPrice_49 rfl ?_
  refine px_iload_n dX9_setPrice_50 rfl ?_
  refine px_iload_n dX9_setPrice_51 rfl ?_
  refine c_X5_putPrice dX9_setPrice_52 mlX9_153 (by omega) pv_ship_1.2.2.2.2.2.1.2 (by omega) (by omega) (Nat.le_of_ble_eq_true rfl) ?_
  refine px_iload dX9_setPrice_55 rfl ?_
  exact px_iret dX9_setPrice_57 rfl (Or.inl rfl) (po_fin (by unfold po_setPrice at h; simp only [tn, a3, b3, c3] at h; rw [if_pos hab] at h; rw [if_pos hc] at h; exact h) hB hF1 hH1 (CR_price hC1 (by omega) (by omega)) (fun k hk => pv_uI_ne (by omega)))
  exact py_out rfl (Or.inl rfl) (po_exc (by unfold po_setPrice at h; simp only [tn, a3, b3] at h; rw [if_pos hab] at h; rw [if_neg hc] at h; exact h) hCA)
  exact py_out rfl (Or.inl rfl) (po_exc (by unfold po_setPrice at h; rw [if_neg (fun z => hb z.2)] at h; exact h) hCA)
  exact py_out rfl (Or.inl rfl) (po_exc (by unfold po_setPrice at h; rw [if_neg (fun z => ha z.1)] at h; exact h) hCA)
theorem c_X9_setPrice {z : pv_Z} {E : pv_E} {d bc bs : Nat} {J : pv_JT} {I : pv_IT} {mi : pv_MI} {pc idx : Nat} {lv : pv_LV} {st : List Value} {T : pv_T} {L : List pv_Lot} {H : List pv_S} {B : List Nat} {n : Nat} {a0 b0 c0 : Int32} (hd : decode mi.2.1 pc = .ok (.invokevirtual idx, 3)) (hlk : Cond.methodLink mi.1.cls idx mX9_setPrice.1 ∈ pv_W) (hD : 8+1 ≤ d) (hCA : CA I ((T, L), H, B)) (hw : wx n ((T, L), H, B)) (hn : n ≤ 600) (hbc : 6 ≤ bc) (hbs : 36 ≤ bs) (hcat : (st.map fun v => v.category).sum ≤ 8) (K : po_ok (pv_K z E d (bc - 6) (bs - 36) mi pc lv st) I J [pv_xIO, pv_xIA] (po_setPrice ((T, L), H, B) a0 b0 c0)) : pv_X z E d bc bs mi pc lv (.int (c0) :: .int (b0) :: .int (a0) :: .ref (0) :: st) pv_K0 pv_P0 I J := by
  obtain ⟨bc, rfl⟩ : ∃ b0, bc = 6 + b0 := ⟨bc - 6, by omega⟩
  obtain ⟨bs, rfl⟩ : ∃ b0, bs = 36 + b0 := ⟨bs - 36, by omega⟩
  rw [show 6 + bc - 6 = bc by omega, show 36 + bs - 36 = bs by omega] at K
  obtain ⟨d, rfl⟩ : ∃ d0, d = d0 + 1 := ⟨d - 1, by omega⟩
  have key := px_callV (bc := bc) (bs := bs) (bc1 := 6) (bs1 := 36) (as := [.int (a0), .int (b0), .int (c0)]) (E := E) (z := z) (lv := lv) hd mvX9_setPrice hlk pv_s_main (by decide) rfl pv_k_main rfl rfl hcat (by exact Nat.le_of_ble_eq_true rfl) (s_X9_setPrice (by omega) hCA hw hn (Nat.le_refl _) (Nat.le_refl _) K)
  exact key
set_option maxRecDepth 100000 in
set_option maxHeartbeats 4000000 in
theorem s_X9_buy {Q : pv_Q} {E : pv_E} {d bc bs : Nat} {J : pv_JT} {I : pv_IT} {T : pv_T} {L : List pv_Lot} {H : List pv_S} {B : List Nat} {n : Nat} {k0 a0 s0 : Int32} (hD : 8 ≤ d) (hCA : CA I ((T, L), H, B)) (hw : wx n ((T, L), H, B)) (hn : n ≤ 600) (hbc : 6 ≤ bc) (hbs : 36 ≤ bs) (h : po_ok Q I J [pv_xIO, pv_xIA, pv_xIS] (po_buy ((T, L), H, B) k0 a0 s0)) : pv_X (pv_ZQ E Q) E d bc bs mX9_buy 0 [(0, .ref (0)), (1, .int (k0)), (2, .int (a0)), (3, .int (s0))] [] pv_K0 pv_P0 I J := by
  obtain ⟨hC, hH, hB⟩ := id hCA
  replace hC : CR I 1 T L := hC
  replace hH : HR I H := hH
  replace hB : TXc I B := hB
  have hdy : dy (T, L) := hw.1.1
  have htb : tb T := hdy.1
  have hlb : lbs L := hdy.2.1
  have h31 : L.length ≤ 31 := hlb.1
  have h30 : L.length ≤ 30 := hw.1.2.1
  have h404 : T 404 ≤ 60 * n := hw.1.2.2.1
  have hn8 : T 405 ≤ 8 := htb.2.2.1
  have hp8 : T 407 ≤ 8 := htb.2.2.2.2.2.1.1
  have h10 : T 408 ≤ 10 := htb.2.2.2.2.2.2.2.1
  refine px_aload_n dX9_buy_0 rfl ?_
  refine px_iload_n dX9_buy_1 rfl ?_
  refine c_X9_requireKind dX9_buy_2 mlX9_147 (by omega) hC (by omega) (by omega) (by omega) (Nat.le_of_ble_eq_true rfl) ⟨fun ha => ?_, fun ha => ?_⟩
  refine px_iload_n dX9_buy_5 rfl ?_
  refine c_X9_requireStore dX9_buy_6 mlX9_62 (by omega)  (by omega) (by omega) (Nat.le_of_ble_eq_true rfl) ⟨fun hs => ?_, fun hs => ?_⟩
  have hab := And.intro ha hs
  obtain ⟨k, k1, rfl, k3⟩ := pu_has_nI ha (by omega)
  obtain ⟨s, s1, rfl, s3⟩ := pu_has_nI hs (by omega)
  refine px_iload_n dX9_buy_9 rfl ?_
  refine px_iconst (v := nI 1) dX9_buy_10 (by decide) ?_
  refine px_sipush (v := nI 2000) dX9_buy_11 (by decide) ?_
  refine c_X9_requireWithin dX9_buy_14 mlX9_33 (by omega)  (by omega) (by omega) (Nat.le_of_ble_eq_true rfl) ⟨fun hm => ?_, fun hm => ?_⟩
  obtain ⟨a, a1, a2, rfl, a3⟩ := pu_in_nI hm (by omega) (by omega)
  refine px_aload_n dX9_buy_17 rfl ?_
  refine px_getR dX9_buy_18 flX9_10 pv_s_main (by decide) (by decide) rfl pv_k_main pv_p_0_0 ?_
  refine px_iload_n dX9_buy_21 rfl ?_
  refine px_iload_n dX9_buy_22 rfl ?_
  refine px_iload_n dX9_buy_23 rfl ?_
  refine c_X7_refusal dX9_buy_24 mlX9_156 (by omega) pv_ship_1 hC htb (by omega) (by omega) (by omega) (by omega) (Nat.le_of_ble_eq_true rfl) ?_
  have hrf : pt_refuse T L k a s ≤ 6 := by
    unfold pt_refuse
    split
    · omega
    · repeat' (first | omega | split)
  refine px_if_eqN (tgt := 40) dX9_buy_27 (by decide) (by omega) (fun h5 => ?_) (fun h5 => ?_)
  · have hpo : ∃ p, pt_on T (T 404) = some p ∧ pt_price T p k * a ≤ T 410 ∧ L.length < 30 := by
      unfold pt_refuse at h5
      cases e : pt_on T (T 404) with
      | none => rw [e] at h5; exact absurd h5 (by simp)
      | some p =>
        rw [e] at h5
        refine ⟨p, rfl, ?_⟩
        replace h5 : (if pt_price T p k = 0 then 2 else if pt_now T k s = 0 then 3 else if T (64 + s) < ps_in L s + a then 4 else if T 410 < pt_price T p k * a then 5 else if 30 ≤ L.length then 6 else 0) = 0 := h5
        by_cases g1 : pt_price T p k = 0
        · rw [if_pos g1] at h5; omega
        rw [if_neg g1] at h5
        by_cases g2 : pt_now T k s = 0
        · rw [if_pos g2] at h5; omega
        rw [if_neg g2] at h5
        by_cases g3 : T (64 + s) < ps_in L s + a
        · rw [if_pos g3] at h5; omega
        rw [if_neg g3] at h5
        by_cases g4 : T 410 < pt_price T p k * a
        · rw [if_pos g4] at h5; omega
        rw [if_neg g4] at h5
        by_cases g5 : 30 ≤ L.length
        · rw [if_pos g5] at h5; omega
        omega
    obtain ⟨p, hpo, hco, hl30⟩ := hpo
    have hbt : pt_bought (T, L) k a s = (pt_buy T k a (pt_price T p k * a), L ++ [(k, s, a, T (325 + 10 * p))]) := by
      unfold pt_bought
      show (pt_buy T k a (pt_price T ((pt_on T (T 404)).getD 0) k * a), L ++ [(k, s, a, T (325 + 10 * (pt_on T (T 404)).getD 0))]) = _
      rw [hpo]
      rfl
    refine px_aload_n dX9_buy_40 rfl ?_
    refine px_getR dX9_buy_41 flX9_22 pv_s_main (by decide) (by decide) rfl pv_k_main pv_p_0_2 ?_
    refine px_aload_n dX9_buy_44 rfl ?_
    refine px_getR dX9_buy_45 flX9_10 pv_s_main (by decide) (by decide) rfl pv_k_main pv_p_0_0 ?_
    refine c_X0_save dX9_buy_48 mlX9_54 (by omega) hH hC (Nat.le_of_ble_eq_true rfl) (fun I1 hH1 hF1 => ?_)
    have hC1 : CR I1 1 T L := CR_of hC fun k h1 h2 => hF1 k (by omega)
    refine px_aload_n dX9_buy_51 rfl ?_
    refine px_getR dX9_buy_52 flX9_10 pv_s_main (by decide) (by decide) rfl pv_k_main pv_p_0_0 ?_
    refine px_iload_n dX9_buy_55 rfl ?_
    refine px_iload_n dX9_buy_56 rfl ?_
    refine px_iload_n dX9_buy_57 rfl ?_
    refine c_X7_purchase dX9_buy_58 mlX9_161 (by omega) pv_ship_1 hC1 htb (by omega) (by omega) (by omega) (by omega) hpo hco (by omega) (Nat.le_of_ble_eq_true rfl) (fun I2 hC2 hF2 => ?_)
    exact px_iret dX9_buy_61 rfl (Or.inl rfl) (po_fin (by unfold po_buy at h; simp only [tn, k3, s3, a3] at h; rw [if_pos hab] at h; rw [if_pos hm] at h; rw [if_pos h5] at h; rw [hbt] at h; exact h) hB hF1 hH1 hC2 (fun k hk => hF2 k (by omega)))
  · exact px_throw (pvt_IS (text := "the purchase is refused") (by decide)) dX9_buy_30 dX9_buy_33 dX9_buy_34 dX9_buy_36 dX9_buy_39 rfl (by omega) (by omega) (by omega) rfl (po_exc (by unfold po_buy at h; simp only [tn, k3, s3, a3] at h; rw [if_pos hab] at h; rw [if_pos hm] at h; rw [if_neg (by omega)] at h; exact h) hCA)
  exact py_out rfl (Or.inl rfl) (po_exc (by unfold po_buy at h; simp only [tn, k3, s3] at h; rw [if_pos hab] at h; rw [if_neg hm] at h; exact h) hCA)
  exact py_out rfl (Or.inl rfl) (po_exc (by unfold po_buy at h; rw [if_neg (fun z => hs z.2)] at h; exact h) hCA)
  exact py_out rfl (Or.inl rfl) (po_exc (by unfold po_buy at h; rw [if_neg (fun z => ha z.1)] at h; exact h) hCA)
theorem c_X9_buy {z : pv_Z} {E : pv_E} {d bc bs : Nat} {J : pv_JT} {I : pv_IT} {mi : pv_MI} {pc idx : Nat} {lv : pv_LV} {st : List Value} {T : pv_T} {L : List pv_Lot} {H : List pv_S} {B : List Nat} {n : Nat} {k0 a0 s0 : Int32} (hd : decode mi.2.1 pc = .ok (.invokevirtual idx, 3)) (hlk : Cond.methodLink mi.1.cls idx mX9_buy.1 ∈ pv_W) (hD : 8+1 ≤ d) (hCA : CA I ((T, L), H, B)) (hw : wx n ((T, L), H, B)) (hn : n ≤ 600) (hbc : 6 ≤ bc) (hbs : 36 ≤ bs) (hcat : (st.map fun v => v.category).sum ≤ 8) (K : po_ok (pv_K z E d (bc - 6) (bs - 36) mi pc lv st) I J [pv_xIO, pv_xIA, pv_xIS] (po_buy ((T, L), H, B) k0 a0 s0)) : pv_X z E d bc bs mi pc lv (.int (s0) :: .int (a0) :: .int (k0) :: .ref (0) :: st) pv_K0 pv_P0 I J := by
  obtain ⟨bc, rfl⟩ : ∃ b0, bc = 6 + b0 := ⟨bc - 6, by omega⟩
  obtain ⟨bs, rfl⟩ : ∃ b0, bs = 36 + b0 := ⟨bs - 36, by omega⟩
  rw [show 6 + bc - 6 = bc by omega, show 36 + bs - 36 = bs by omega] at K
  obtain ⟨d, rfl⟩ : ∃ d0, d = d0 + 1 := ⟨d - 1, by omega⟩
  have key := px_callV (bc := bc) (bs := bs) (bc1 := 6) (bs1 := 36) (as := [.int (k0), .int (a0), .int (s0)]) (E := E) (z := z) (lv := lv) hd mvX9_buy hlk pv_s_main (by decide) rfl pv_k_main rfl rfl hcat (by exact Nat.le_of_ble_eq_true rfl) (s_X9_buy (by omega) hCA hw hn (Nat.le_refl _) (Nat.le_refl _) K)
  exact key
set_option maxRecDepth 100000 in
set_option maxHeartbeats 4000000 in
theorem s_X9_discard {Q : pv_Q} {E : pv_E} {d bc bs : Nat} {J : pv_JT} {I : pv_IT} {T : pv_T} {L : List pv_Lot} {H : List pv_S} {B : List Nat} {n : Nat} {l0 a0 : Int32} (hD : 8 ≤ d) (hCA : CA I ((T, L), H, B)) (hw : wx n ((T, L), H, B)) (hn : n ≤ 600) (hbc : 6 ≤ bc) (hbs : 36 ≤ bs) (h : po_ok Q I J [pv_xIO, pv_xIA] (po_discard ((T, L), H, B) l0 a0)) : pv_X (pv_ZQ E Q) E d bc bs mX9_discard 0 [(0, .ref (0)), (1, .int (l0)), (2, .int (a0))] [] pv_K0 pv_P0 I J := by
  obtain ⟨hC, hH, hB⟩ := id hCA
  replace hC : CR I 1 T L := hC
  replace hH : HR I H := hH
  replace hB : TXc I B := hB
  have hdy : dy (T, L) := hw.1.1
  have htb : tb T := hdy.1
  have hlb : lbs L := hdy.2.1
  have h31 : L.length ≤ 31 := hlb.1
  have h30 : L.length ≤ 30 := hw.1.2.1
  have h404 : T 404 ≤ 60 * n := hw.1.2.2.1
  have hn8 : T 405 ≤ 8 := htb.2.2.1
  have hp8 : T 407 ≤ 8 := htb.2.2.2.2.2.1.1
  have h10 : T 408 ≤ 10 := htb.2.2.2.2.2.2.2.1
  refine px_aload_n dX9_discard_0 rfl ?_
  refine px_iload_n dX9_discard_1 rfl ?_
  refine c_X9_requireLot dX9_discard_2 mlX9_164 (by omega) hC (by omega) (by omega) (Nat.le_of_ble_eq_true rfl) ⟨fun ha => ?_, fun ha => ?_⟩
  obtain ⟨l, l1, rfl, l3⟩ := pu_has_nI ha (by omega)
  have hx := hlb.2 l l1
  unfold lb at hx
  have hol : lv_ok (pl_g L l) := hdy.2.2 l l1
  unfold lv_ok at hol
  refine px_iload_n dX9_discard_5 rfl ?_
  refine px_iconst (v := nI 1) dX9_discard_6 (by decide) ?_
  refine px_aload_n dX9_discard_7 rfl ?_
  refine px_getR dX9_discard_8 flX9_10 pv_s_main (by decide) (by decide) rfl pv_k_main pv_p_0_0 ?_
  refine px_getR dX9_discard_11 flX9_66 pv_ship_1.1 (by decide) (by decide) rfl pv_ship_1.2.1 pv_ship_1.2.2.2.2.1.1 ?_
  refine px_getR dX9_discard_14 flX9_167 pv_ship_1.2.2.2.2.1.2.1 (by decide) (by decide) rfl pv_ship_1.2.2.2.2.1.2.2.1 pv_ship_1.2.2.2.2.1.2.2.2.2.2.1.1 ?_
  refine px_iload_n dX9_discard_17 rfl ?_
  refine c_X6_at dX9_discard_18 mlX9_88 (by omega) (j := l) pv_ship_1.2.2.2.2.1.2.2.2.2.2.1.2 (by omega) (Nat.le_of_ble_eq_true rfl) ?_
  refine px_iv (y := nI ((pl_g L (l)).2.2.1)) ((hC.2.2.2.1.2.2 (l) (by omega)).2.2.1) ?_
  refine c_X9_requireWithin dX9_discard_21 mlX9_33 (by omega)  (by omega) (by omega) (Nat.le_of_ble_eq_true rfl) ⟨fun hm => ?_, fun hm => ?_⟩
  obtain ⟨a, a1, a2, rfl, a3⟩ := pu_in_nI hm (by omega) (by omega)
  refine px_aload_n dX9_discard_24 rfl ?_
  refine px_getR dX9_discard_25 flX9_22 pv_s_main (by decide) (by decide) rfl pv_k_main pv_p_0_2 ?_
  refine px_aload_n dX9_discard_28 rfl ?_
  refine px_getR dX9_discard_29 flX9_10 pv_s_main (by decide) (by decide) rfl pv_k_main pv_p_0_0 ?_
  refine c_X0_save dX9_discard_32 mlX9_54 (by omega) hH hC (Nat.le_of_ble_eq_true rfl) (fun I1 hH1 hF1 => ?_)
  have hC1 : CR I1 1 T L := CR_of hC fun k h1 h2 => hF1 k (by omega)
  refine px_aload_n dX9_discard_35 rfl ?_
  refine px_getR dX9_discard_36 flX9_10 pv_s_main (by decide) (by decide) rfl pv_k_main pv_p_0_0 ?_
  refine px_getR dX9_discard_39 flX9_37 pv_ship_1.1 (by decide) (by decide) rfl pv_ship_1.2.1 pv_ship_1.2.2.1.1 ?_
  refine px_getR dX9_discard_42 flX9_184 pv_ship_1.2.2.1.2.1 (by decide) (by decide) rfl pv_ship_1.2.2.1.2.2.1 pv_ship_1.2.2.1.2.2.2.2.2.2.2.1.1 ?_
  refine px_aload_n dX9_discard_45 rfl ?_
  refine px_getR dX9_discard_46 flX9_10 pv_s_main (by decide) (by decide) rfl pv_k_main pv_p_0_0 ?_
  refine px_getR dX9_discard_49 flX9_66 pv_ship_1.1 (by decide) (by decide) rfl pv_ship_1.2.1 pv_ship_1.2.2.2.2.1.1 ?_
  refine px_getR dX9_discard_52 flX9_187 pv_ship_1.2.2.2.2.1.2.1 (by decide) (by decide) rfl pv_ship_1.2.2.2.2.1.2.2.1 pv_ship_1.2.2.2.2.1.2.2.2.1.1 ?_
  refine px_iload_n dX9_discard_55 rfl ?_
  refine c_X6_at dX9_discard_56 mlX9_88 (by omega) (j := l) pv_ship_1.2.2.2.2.1.2.2.2.1.2 (by omega) (Nat.le_of_ble_eq_true rfl) ?_
  refine px_iv (y := nI ((pl_g L (l)).1)) ((hC1.2.2.2.1.2.2 (l) (by omega)).1) ?_
  refine px_iload_n dX9_discard_59 rfl ?_
  refine c_X6_add dX9_discard_60 mlX9_190 (by omega) (j := (pl_g L l).1) pv_ship_1.2.2.1.2.2.2.2.2.2.2.1.2 (by omega) (Nat.le_of_ble_eq_true rfl) ?_
  have hC2 := CR_thrown hC1 (k := (pl_g L l).1) (by omega) (x := a)
  have hF2 : ∀ k, k < 1 ∨ 43 ≤ k → (pv_uI I1 (1 + 11) (pl_g L l).1 (I1 (1 + 11) (pl_g L l).1 + nI a)) k = I1 k := fun k hk => pv_uI_ne (by omega)
  refine px_mem (I' := pv_uI I1 (1 + 11) (pl_g L l).1 (I1 (1 + 11) (pl_g L l).1 + nI a)) rfl ?_
  generalize pv_uI I1 (1 + 11) (pl_g L l).1 (I1 (1 + 11) (pl_g L l).1 + nI a) = I2 at hC2 hF2 ⊢
  refine px_aload_n dX9_discard_63 rfl ?_
  refine px_getR dX9_discard_64 flX9_10 pv_s_main (by decide) (by decide) rfl pv_k_main pv_p_0_0 ?_
  refine px_getR dX9_discard_67 flX9_66 pv_ship_1.1 (by decide) (by decide) rfl pv_ship_1.2.1 pv_ship_1.2.2.2.2.1.1 ?_
  refine px_getR dX9_discard_70 flX9_167 pv_ship_1.2.2.2.2.1.2.1 (by decide) (by decide) rfl pv_ship_1.2.2.2.2.1.2.2.1 pv_ship_1.2.2.2.2.1.2.2.2.2.2.1.1 ?_
  refine px_iload_n dX9_discard_73 rfl ?_
  refine px_iload_n dX9_discard_74 rfl ?_
  refine px_ineg dX9_discard_75 ?_
  refine c_X6_add dX9_discard_76 mlX9_190 (by omega) (j := l) pv_ship_1.2.2.2.2.1.2.2.2.2.2.1.2 (by omega) (Nat.le_of_ble_eq_true rfl) ?_
  have e1 : I2 (1 + 25) l + -nI a = nI ((pl_g L l).2.2.1 - a) := by
    rw [show I2 (1 + 25) l = nI (pl_g L l).2.2.1 from (hC2.2.2.2.1.2.2 l l1).2.2.1, ← pk_sub (by omega), Int32.sub_eq_add_neg]
  refine px_mem (I' := pv_uI I2 (1 + 25) l (nI ((pl_g L l).2.2.1 - a))) (congrArg (pv_uI I2 (1 + 25) l) e1) ?_
  have hC3 := CR_amt hC2 l1 (v := (pl_g L l).2.2.1 - a) (by omega)
  have hF3 : ∀ k, k < 1 ∨ 43 ≤ k → (pv_uI I2 (1 + 25) l (nI ((pl_g L l).2.2.1 - a))) k = I1 k := fun k hk => (pv_uI_ne (by omega)).trans (hF2 k hk)
  generalize pv_uI I2 (1 + 25) l (nI ((pl_g L l).2.2.1 - a)) = I3 at hC3 hF3 ⊢
  refine px_aload_n dX9_discard_79 rfl ?_
  refine px_getR dX9_discard_80 flX9_10 pv_s_main (by decide) (by decide) rfl pv_k_main pv_p_0_0 ?_
  refine px_getR dX9_discard_83 flX9_66 pv_ship_1.1 (by decide) (by decide) rfl pv_ship_1.2.1 pv_ship_1.2.2.2.2.1.1 ?_
  refine c_X2_dropEmpty dX9_discard_86 mlX9_193 (by omega) pv_ship_1.2.2.2.2.1.2 hC3.2.2.2.1 (Nat.le_of_ble_eq_true rfl) (fun I4 hL4 hF4 => ?_)
  have hC4 := CR_lt hC3 hL4 (fun k h1 h2 h3 => hF4 k (by omega))
  refine px_aload_n dX9_discard_89 rfl ?_
  refine px_getR dX9_discard_90 flX9_10 pv_s_main (by decide) (by decide) rfl pv_k_main pv_p_0_0 ?_
  refine px_getR dX9_discard_93 flX9_66 pv_ship_1.1 (by decide) (by decide) rfl pv_ship_1.2.1 pv_ship_1.2.2.2.2.1.1 ?_
  refine c_X2_rations dX9_discard_96 mlX9_196 (by omega) pv_ship_1.2.2.2.2.1.2 hL4 (Nat.le_of_ble_eq_true rfl) ?_
  exact px_iret dX9_discard_99 rfl (Or.inl rfl) (po_fin (by unfold po_discard at h; simp only [tn, l3, a3] at h; rw [if_pos ha] at h; rw [if_pos hm] at h; exact h) hB hF1 hH1 hC4 (fun k hk => (hF4 k (by omega)).trans (hF3 k hk)))
  exact py_out rfl (Or.inl rfl) (po_exc (by unfold po_discard at h; simp only [tn, l3] at h; rw [if_pos ha] at h; rw [if_neg hm] at h; exact h) hCA)
  exact py_out rfl (Or.inl rfl) (po_exc (by unfold po_discard at h; rw [if_neg ha] at h; exact h) hCA)
theorem c_X9_discard {z : pv_Z} {E : pv_E} {d bc bs : Nat} {J : pv_JT} {I : pv_IT} {mi : pv_MI} {pc idx : Nat} {lv : pv_LV} {st : List Value} {T : pv_T} {L : List pv_Lot} {H : List pv_S} {B : List Nat} {n : Nat} {l0 a0 : Int32} (hd : decode mi.2.1 pc = .ok (.invokevirtual idx, 3)) (hlk : Cond.methodLink mi.1.cls idx mX9_discard.1 ∈ pv_W) (hD : 8+1 ≤ d) (hCA : CA I ((T, L), H, B)) (hw : wx n ((T, L), H, B)) (hn : n ≤ 600) (hbc : 6 ≤ bc) (hbs : 36 ≤ bs) (hcat : (st.map fun v => v.category).sum ≤ 8) (K : po_ok (pv_K z E d (bc - 6) (bs - 36) mi pc lv st) I J [pv_xIO, pv_xIA] (po_discard ((T, L), H, B) l0 a0)) : pv_X z E d bc bs mi pc lv (.int (a0) :: .int (l0) :: .ref (0) :: st) pv_K0 pv_P0 I J := by
  obtain ⟨bc, rfl⟩ : ∃ b0, bc = 6 + b0 := ⟨bc - 6, by omega⟩
  obtain ⟨bs, rfl⟩ : ∃ b0, bs = 36 + b0 := ⟨bs - 36, by omega⟩
  rw [show 6 + bc - 6 = bc by omega, show 36 + bs - 36 = bs by omega] at K
  obtain ⟨d, rfl⟩ : ∃ d0, d = d0 + 1 := ⟨d - 1, by omega⟩
  have key := px_callV (bc := bc) (bs := bs) (bc1 := 6) (bs1 := 36) (as := [.int (l0), .int (a0)]) (E := E) (z := z) (lv := lv) hd mvX9_discard hlk pv_s_main (by decide) rfl pv_k_main rfl rfl hcat (by exact Nat.le_of_ble_eq_true rfl) (s_X9_discard (by omega) hCA hw hn (Nat.le_refl _) (Nat.le_refl _) K)
  exact key
