/-! The class: its calls that ask, where nothing is thrown. -/
set_option maxRecDepth 100000 in
set_option maxHeartbeats 4000000 in
theorem s_Z9_requireWithin {Q : pv_Q} {E : pv_E} {d bc bs : Nat} {J : pv_JT} {I : pv_IT} {x : Int32} {a b : Nat} (hD : 6 ≤ d) (hv : pu_in x a b) (h : Q (.inl none) pv_K0 pv_P0 (I) (J)) : pv_X (pv_ZQ E Q) E d bc bs mX9_requireWithin 0 [(0, .int (x)), (1, .int (nI (a))), (2, .int (nI (b)))] [] pv_K0 pv_P0 I J := by
  refine px_iload_n dX9_requireWithin_0 rfl ?_
  refine px_iload_n dX9_requireWithin_1 rfl ?_
  refine px_iload_n dX9_requireWithin_2 rfl ?_
  refine c_X9_isWithin dX9_requireWithin_3 mlX9_97 (by omega)  (Nat.le_of_ble_eq_true rfl) ?_
  refine px_if_neB (tgt := 20) dX9_requireWithin_6 (by decide) (fun hw => ?_) (fun hw => ?_)
  · exact px_vret dX9_requireWithin_20 rfl (Or.inl rfl) (h)
  · exact absurd hv hw
theorem c_Z9_requireWithin {z : pv_Z} {E : pv_E} {d bc bs : Nat} {J : pv_JT} {I : pv_IT} {mi : pv_MI} {pc idx : Nat} {lv : pv_LV} {st : List Value} {x : Int32} {a b : Nat} (hd : decode mi.2.1 pc = .ok (.invokestatic idx, 3)) (hlk : Cond.methodLink mi.1.cls idx mX9_requireWithin.1 ∈ pv_W) (hD : 6+1 ≤ d) (hv : pu_in x a b) (hcat : (st.map fun v => v.category).sum ≤ 8) (K : pv_X z E d bc bs mi (pc + 3) lv (st) pv_K0 pv_P0 (I) (J)) : pv_X z E d bc bs mi pc lv (.int (nI (b)) :: .int (nI (a)) :: .int (x) :: st) pv_K0 pv_P0 I J := by
  obtain ⟨d, rfl⟩ : ∃ d0, d = d0 + 1 := ⟨d - 1, by omega⟩
  have key := px_callS (bc := bc) (bs := bs) (bc1 := 0) (bs1 := 0) (as := [.int (x), .int (nI (a)), .int (nI (b))]) (E := E) (z := z) (lv := lv) hd msX9_requireWithin hlk rfl rfl hcat (by exact Nat.le_of_ble_eq_true rfl) (s_Z9_requireWithin (by omega) hv K)
  rw [Nat.zero_add, Nat.zero_add] at key
  exact key
set_option maxRecDepth 100000 in
set_option maxHeartbeats 4000000 in
theorem s_Z9_requireStore {Q : pv_Q} {E : pv_E} {d bc bs : Nat} {J : pv_JT} {I : pv_IT} {x : Int32} (hD : 6 ≤ d) (hv : pu_has x 3) (h : Q (.inl none) pv_K0 pv_P0 (I) (J)) : pv_X (pv_ZQ E Q) E d bc bs mX9_requireStore 0 [(0, .int (x))] [] pv_K0 pv_P0 I J := by
  refine px_iload_n dX9_requireStore_0 rfl ?_
  refine px_iconst (v := nI 0) dX9_requireStore_1 (by decide) ?_
  refine px_iconst (v := nI 2) dX9_requireStore_2 (by decide) ?_
  refine c_X9_isWithin dX9_requireStore_3 mlX9_97 (by omega)  (Nat.le_of_ble_eq_true rfl) ?_
  refine px_if_neB (tgt := 20) dX9_requireStore_6 (by decide) (fun hw => ?_) (fun hw => ?_)
  · exact px_vret dX9_requireStore_20 rfl (Or.inl rfl) (h)
  · exact absurd ((pu_has_in (by decide)).mpr hv) hw
theorem c_Z9_requireStore {z : pv_Z} {E : pv_E} {d bc bs : Nat} {J : pv_JT} {I : pv_IT} {mi : pv_MI} {pc idx : Nat} {lv : pv_LV} {st : List Value} {x : Int32} (hd : decode mi.2.1 pc = .ok (.invokestatic idx, 3)) (hlk : Cond.methodLink mi.1.cls idx mX9_requireStore.1 ∈ pv_W) (hD : 6+1 ≤ d) (hv : pu_has x 3) (hcat : (st.map fun v => v.category).sum ≤ 8) (K : pv_X z E d bc bs mi (pc + 3) lv (st) pv_K0 pv_P0 (I) (J)) : pv_X z E d bc bs mi pc lv (.int (x) :: st) pv_K0 pv_P0 I J := by
  obtain ⟨d, rfl⟩ : ∃ d0, d = d0 + 1 := ⟨d - 1, by omega⟩
  have key := px_callS (bc := bc) (bs := bs) (bc1 := 0) (bs1 := 0) (as := [.int (x)]) (E := E) (z := z) (lv := lv) hd msX9_requireStore hlk rfl rfl hcat (by exact Nat.le_of_ble_eq_true rfl) (s_Z9_requireStore (by omega) hv K)
  rw [Nat.zero_add, Nat.zero_add] at key
  exact key
set_option maxRecDepth 100000 in
set_option maxHeartbeats 4000000 in
theorem s_Z9_requireKind {Q : pv_Q} {E : pv_E} {d bc bs : Nat} {J : pv_JT} {I : pv_IT} {x : Int32} {T : pv_T} {L : List pv_Lot} (hD : 6 ≤ d) (hC : CR I 1 T L) (hn : T 405 ≤ 100) (hv : pu_has x (T 405)) (h : Q (.inl none) pv_K0 pv_P0 (I) (J)) : pv_X (pv_ZQ E Q) E d bc bs mX9_requireKind 0 [(0, .ref (0)), (1, .int (x))] [] pv_K0 pv_P0 I J := by
  skip
  refine px_iload_n dX9_requireKind_0 rfl ?_
  refine px_iconst (v := nI 0) dX9_requireKind_1 (by decide) ?_
  refine px_aload_n dX9_requireKind_2 rfl ?_
  refine px_getR dX9_requireKind_3 flX9_10 pv_s_main (by decide) (by decide) rfl pv_k_main pv_p_0_0 ?_
  refine px_getR dX9_requireKind_6 flX9_37 pv_ship_1.1 (by decide) (by decide) rfl pv_ship_1.2.1 pv_ship_1.2.2.1.1 ?_
  refine px_getI dX9_requireKind_9 flX9_41 pv_ship_1.2.2.1.2.1 (by decide) (by decide) rfl pv_ship_1.2.2.1.2.2.1 ?_
  refine px_iv (y := nI (T 405)) (hC.2.1.1) ?_
  refine px_iconst (v := nI 1) dX9_requireKind_12 (by decide) ?_
  refine px_isub dX9_requireKind_13 ?_
  refine c_X9_isWithin dX9_requireKind_14 mlX9_97 (by omega)  (Nat.le_of_ble_eq_true rfl) ?_
  refine px_if_neB (tgt := 31) dX9_requireKind_17 (by decide) (fun hw => ?_) (fun hw => ?_)
  · exact px_vret dX9_requireKind_31 rfl (Or.inl rfl) (h)
  · exact absurd ((pu_has_le (by omega)).mpr hv) hw
theorem c_Z9_requireKind {z : pv_Z} {E : pv_E} {d bc bs : Nat} {J : pv_JT} {I : pv_IT} {mi : pv_MI} {pc idx : Nat} {lv : pv_LV} {st : List Value} {x : Int32} {T : pv_T} {L : List pv_Lot} (hd : decode mi.2.1 pc = .ok (.invokevirtual idx, 3)) (hlk : Cond.methodLink mi.1.cls idx mX9_requireKind.1 ∈ pv_W) (hD : 6+1 ≤ d) (hC : CR I 1 T L) (hn : T 405 ≤ 100) (hv : pu_has x (T 405)) (hcat : (st.map fun v => v.category).sum ≤ 8) (K : pv_X z E d bc bs mi (pc + 3) lv (st) pv_K0 pv_P0 (I) (J)) : pv_X z E d bc bs mi pc lv (.int (x) :: .ref (0) :: st) pv_K0 pv_P0 I J := by
  obtain ⟨d, rfl⟩ : ∃ d0, d = d0 + 1 := ⟨d - 1, by omega⟩
  have key := px_callV (bc := bc) (bs := bs) (bc1 := 0) (bs1 := 0) (as := [.int (x)]) (E := E) (z := z) (lv := lv) hd mvX9_requireKind hlk pv_s_main (by decide) rfl pv_k_main rfl rfl hcat (by exact Nat.le_of_ble_eq_true rfl) (s_Z9_requireKind (by omega) hC hn hv K)
  rw [Nat.zero_add, Nat.zero_add] at key
  exact key
set_option maxRecDepth 100000 in
set_option maxHeartbeats 4000000 in
theorem s_Z9_requireLot {Q : pv_Q} {E : pv_E} {d bc bs : Nat} {J : pv_JT} {I : pv_IT} {x : Int32} {T : pv_T} {L : List pv_Lot} (hD : 6 ≤ d) (hC : CR I 1 T L) (hv : pu_has x (L.length)) (h : Q (.inl none) pv_K0 pv_P0 (I) (J)) : pv_X (pv_ZQ E Q) E d bc bs mX9_requireLot 0 [(0, .ref (0)), (1, .int (x))] [] pv_K0 pv_P0 I J := by
  have hn := hC.2.2.2.1.2.1.1
  refine px_iload_n dX9_requireLot_0 rfl ?_
  refine px_iconst (v := nI 0) dX9_requireLot_1 (by decide) ?_
  refine px_aload_n dX9_requireLot_2 rfl ?_
  refine px_getR dX9_requireLot_3 flX9_10 pv_s_main (by decide) (by decide) rfl pv_k_main pv_p_0_0 ?_
  refine px_getR dX9_requireLot_6 flX9_66 pv_ship_1.1 (by decide) (by decide) rfl pv_ship_1.2.1 pv_ship_1.2.2.2.2.1.1 ?_
  refine px_getI dX9_requireLot_9 flX9_178 pv_ship_1.2.2.2.2.1.2.1 (by decide) (by decide) rfl pv_ship_1.2.2.2.2.1.2.2.1 ?_
  refine px_iv (y := nI (L.length)) (hC.2.2.2.1.1) ?_
  refine px_iconst (v := nI 1) dX9_requireLot_12 (by decide) ?_
  refine px_isub dX9_requireLot_13 ?_
  refine c_X9_isWithin dX9_requireLot_14 mlX9_97 (by omega)  (Nat.le_of_ble_eq_true rfl) ?_
  refine px_if_neB (tgt := 31) dX9_requireLot_17 (by decide) (fun hw => ?_) (fun hw => ?_)
  · exact px_vret dX9_requireLot_31 rfl (Or.inl rfl) (h)
  · exact absurd ((pu_has_le (by omega)).mpr hv) hw
theorem c_Z9_requireLot {z : pv_Z} {E : pv_E} {d bc bs : Nat} {J : pv_JT} {I : pv_IT} {mi : pv_MI} {pc idx : Nat} {lv : pv_LV} {st : List Value} {x : Int32} {T : pv_T} {L : List pv_Lot} (hd : decode mi.2.1 pc = .ok (.invokevirtual idx, 3)) (hlk : Cond.methodLink mi.1.cls idx mX9_requireLot.1 ∈ pv_W) (hD : 6+1 ≤ d) (hC : CR I 1 T L) (hv : pu_has x (L.length)) (hcat : (st.map fun v => v.category).sum ≤ 8) (K : pv_X z E d bc bs mi (pc + 3) lv (st) pv_K0 pv_P0 (I) (J)) : pv_X z E d bc bs mi pc lv (.int (x) :: .ref (0) :: st) pv_K0 pv_P0 I J := by
  obtain ⟨d, rfl⟩ : ∃ d0, d = d0 + 1 := ⟨d - 1, by omega⟩
  have key := px_callV (bc := bc) (bs := bs) (bc1 := 0) (bs1 := 0) (as := [.int (x)]) (E := E) (z := z) (lv := lv) hd mvX9_requireLot hlk pv_s_main (by decide) rfl pv_k_main rfl rfl hcat (by exact Nat.le_of_ble_eq_true rfl) (s_Z9_requireLot (by omega) hC hv K)
  rw [Nat.zero_add, Nat.zero_add] at key
  exact key
set_option maxRecDepth 100000 in
set_option maxHeartbeats 4000000 in
theorem s_Z9_requirePort {Q : pv_Q} {E : pv_E} {d bc bs : Nat} {J : pv_JT} {I : pv_IT} {x : Int32} {T : pv_T} {L : List pv_Lot} (hD : 6 ≤ d) (hC : CR I 1 T L) (hn : T 407 ≤ 100) (hv : pu_has x (T 407)) (h : Q (.inl none) pv_K0 pv_P0 (I) (J)) : pv_X (pv_ZQ E Q) E d bc bs mX9_requirePort 0 [(0, .ref (0)), (1, .int (x))] [] pv_K0 pv_P0 I J := by
  skip
  refine px_iload_n dX9_requirePort_0 rfl ?_
  refine px_iconst (v := nI 0) dX9_requirePort_1 (by decide) ?_
  refine px_aload_n dX9_requirePort_2 rfl ?_
  refine px_getR dX9_requirePort_3 flX9_10 pv_s_main (by decide) (by decide) rfl pv_k_main pv_p_0_0 ?_
  refine px_getR dX9_requirePort_6 flX9_122 pv_ship_1.1 (by decide) (by decide) rfl pv_ship_1.2.1 pv_ship_1.2.2.2.2.2.1.1 ?_
  refine px_getI dX9_requirePort_9 flX9_126 pv_ship_1.2.2.2.2.2.1.2.1 (by decide) (by decide) rfl pv_ship_1.2.2.2.2.2.1.2.2.1 ?_
  refine px_iv (y := nI (T 407)) (hC.2.2.2.2.1.1) ?_
  refine px_iconst (v := nI 1) dX9_requirePort_12 (by decide) ?_
  refine px_isub dX9_requirePort_13 ?_
  refine c_X9_isWithin dX9_requirePort_14 mlX9_97 (by omega)  (Nat.le_of_ble_eq_true rfl) ?_
  refine px_if_neB (tgt := 31) dX9_requirePort_17 (by decide) (fun hw => ?_) (fun hw => ?_)
  · exact px_vret dX9_requirePort_31 rfl (Or.inl rfl) (h)
  · exact absurd ((pu_has_le (by omega)).mpr hv) hw
theorem c_Z9_requirePort {z : pv_Z} {E : pv_E} {d bc bs : Nat} {J : pv_JT} {I : pv_IT} {mi : pv_MI} {pc idx : Nat} {lv : pv_LV} {st : List Value} {x : Int32} {T : pv_T} {L : List pv_Lot} (hd : decode mi.2.1 pc = .ok (.invokevirtual idx, 3)) (hlk : Cond.methodLink mi.1.cls idx mX9_requirePort.1 ∈ pv_W) (hD : 6+1 ≤ d) (hC : CR I 1 T L) (hn : T 407 ≤ 100) (hv : pu_has x (T 407)) (hcat : (st.map fun v => v.category).sum ≤ 8) (K : pv_X z E d bc bs mi (pc + 3) lv (st) pv_K0 pv_P0 (I) (J)) : pv_X z E d bc bs mi pc lv (.int (x) :: .ref (0) :: st) pv_K0 pv_P0 I J := by
  obtain ⟨d, rfl⟩ : ∃ d0, d = d0 + 1 := ⟨d - 1, by omega⟩
  have key := px_callV (bc := bc) (bs := bs) (bc1 := 0) (bs1 := 0) (as := [.int (x)]) (E := E) (z := z) (lv := lv) hd mvX9_requirePort hlk pv_s_main (by decide) rfl pv_k_main rfl rfl hcat (by exact Nat.le_of_ble_eq_true rfl) (s_Z9_requirePort (by omega) hC hn hv K)
  rw [Nat.zero_add, Nat.zero_add] at key
  exact key
set_option maxRecDepth 100000 in
set_option maxHeartbeats 4000000 in
theorem s_Z9_lot {Q : pv_Q} {E : pv_E} {d bc bs : Nat} {J : pv_JT} {I : pv_IT} {T : pv_T} {L : List pv_Lot} {H : List pv_S} {B : List Nat} {n : Nat} {l0 w0 : Int32} (hD : 8 ≤ d) (hCA : CA I ((T, L), H, B)) (hw : wx n ((T, L), H, B)) (hn : n ≤ 600) (hv : (po_lot ((T, L), H, B) l0 w0).1 = 0) (h : po_ok Q I J [pv_xIO, pv_xIA] (po_lot ((T, L), H, B) l0 w0)) : pv_X (pv_ZQ E Q) E d bc bs mX9_lot 0 [(0, .ref (0)), (1, .int (l0)), (2, .int (w0))] [] pv_K0 pv_P0 I J := by
  obtain ⟨hC, hH, hB⟩ := id hCA
  replace hC : CR I 1 T L := hC
  replace hH : HR I H := hH
  replace hB : TXc I B := hB
  have hdy : dy (T, L) := hw.1.1
  have htb : tb T := hdy.1
  have hlb : lbs L := hdy.2.1
  have h31 : L.length ≤ 31 := hlb.1
  have h30 : L.length ≤ 30 := hw.1.2.1
  have h404 : T 404 ≤ 60 * n := hw.1.2.2.1
  have hn8 : T 405 ≤ 8 := htb.2.2.1
  have hp8 : T 407 ≤ 8 := htb.2.2.2.2.2.1.1
  have h10 : T 408 ≤ 10 := htb.2.2.2.2.2.2.2.1
  refine px_aload_n dX9_lot_0 rfl ?_
  refine px_iload_n dX9_lot_1 rfl ?_
  have ha : pu_has l0 L.length := by
    refine Classical.byContradiction fun ha => ?_
    unfold po_lot at hv; rw [if_neg ha] at hv
    exact absurd hv (Nat.succ_ne_zero _)
  refine c_Z9_requireLot dX9_lot_2 mlX9_164 (by omega) hC ha (Nat.le_of_ble_eq_true rfl) ?_
  obtain ⟨l, l1, rfl, l3⟩ := pu_has_nI ha (by omega)
  have hol : lv_ok (pl_g L l) := hdy.2.2 l l1
  unfold lv_ok at hol
  refine px_iload_n dX9_lot_5 rfl ?_
  by_cases hm : pu_in w0 0 5
  · obtain ⟨w, w1, w2, rfl, w3⟩ := pu_in_nI hm (by omega) (by omega)
    rcases (by omega : w = 0 ∨ w = 1 ∨ w = 2 ∨ w = 3 ∨ w = 4 ∨ w = 5) with e | e | e | e | e | e
    · subst e
      refine px_tableIn (tgt := 44) dX9_lot_6 (by decide) (by decide) rfl (by decide) ?_
      refine px_aload_n dX9_lot_44 rfl ?_
      refine px_getR dX9_lot_45 flX9_10 pv_s_main (by decide) (by decide) rfl pv_k_main pv_p_0_0 ?_
      refine px_getR dX9_lot_48 flX9_66 pv_ship_1.1 (by decide) (by decide) rfl pv_ship_1.2.1 pv_ship_1.2.2.2.2.1.1 ?_
      refine px_getR dX9_lot_51 flX9_187 pv_ship_1.2.2.2.2.1.2.1 (by decide) (by decide) rfl pv_ship_1.2.2.2.2.1.2.2.1 pv_ship_1.2.2.2.2.1.2.2.2.1.1 ?_
      refine px_iload_n dX9_lot_54 rfl ?_
      refine c_X6_at dX9_lot_55 mlX9_88 (by omega) (j := l) pv_ship_1.2.2.2.2.1.2.2.2.1.2 (by omega) (Nat.le_of_ble_eq_true rfl) ?_
      refine px_iv (y := nI ((pl_g L (l)).1)) ((hC.2.2.2.1.2.2 (l) (by omega)).1) ?_
      exact px_iret dX9_lot_58 rfl (Or.inl rfl) (po_same (by unfold po_lot at h; simp only [tn, l3, w3] at h; rw [if_pos ha] at h; rw [if_pos hm] at h; exact h) hCA)
    · subst e
      refine px_tableIn (tgt := 59) dX9_lot_6 (by decide) (by decide) rfl (by decide) ?_
      refine px_aload_n dX9_lot_59 rfl ?_
      refine px_getR dX9_lot_60 flX9_10 pv_s_main (by decide) (by decide) rfl pv_k_main pv_p_0_0 ?_
      refine px_getR dX9_lot_63 flX9_66 pv_ship_1.1 (by decide) (by decide) rfl pv_ship_1.2.1 pv_ship_1.2.2.2.2.1.1 ?_
      refine px_getR dX9_lot_66 flX9_170 pv_ship_1.2.2.2.2.1.2.1 (by decide) (by decide) rfl pv_ship_1.2.2.2.2.1.2.2.1 pv_ship_1.2.2.2.2.1.2.2.2.2.1.1 ?_
      refine px_iload_n dX9_lot_69 rfl ?_
      refine c_X6_at dX9_lot_70 mlX9_88 (by omega) (j := l) pv_ship_1.2.2.2.2.1.2.2.2.2.1.2 (by omega) (Nat.le_of_ble_eq_true rfl) ?_
      refine px_iv (y := nI ((pl_g L (l)).2.1)) ((hC.2.2.2.1.2.2 (l) (by omega)).2.1) ?_
      exact px_iret dX9_lot_73 rfl (Or.inl rfl) (po_same (by unfold po_lot at h; simp only [tn, l3, w3] at h; rw [if_pos ha] at h; rw [if_pos hm] at h; exact h) hCA)
    · subst e
      refine px_tableIn (tgt := 74) dX9_lot_6 (by decide) (by decide) rfl (by decide) ?_
      refine px_aload_n dX9_lot_74 rfl ?_
      refine px_getR dX9_lot_75 flX9_10 pv_s_main (by decide) (by decide) rfl pv_k_main pv_p_0_0 ?_
      refine px_getR dX9_lot_78 flX9_66 pv_ship_1.1 (by decide) (by decide) rfl pv_ship_1.2.1 pv_ship_1.2.2.2.2.1.1 ?_
      refine px_getR dX9_lot_81 flX9_167 pv_ship_1.2.2.2.2.1.2.1 (by decide) (by decide) rfl pv_ship_1.2.2.2.2.1.2.2.1 pv_ship_1.2.2.2.2.1.2.2.2.2.2.1.1 ?_
      refine px_iload_n dX9_lot_84 rfl ?_
      refine c_X6_at dX9_lot_85 mlX9_88 (by omega) (j := l) pv_ship_1.2.2.2.2.1.2.2.2.2.2.1.2 (by omega) (Nat.le_of_ble_eq_true rfl) ?_
      refine px_iv (y := nI ((pl_g L (l)).2.2.1)) ((hC.2.2.2.1.2.2 (l) (by omega)).2.2.1) ?_
      exact px_iret dX9_lot_88 rfl (Or.inl rfl) (po_same (by unfold po_lot at h; simp only [tn, l3, w3] at h; rw [if_pos ha] at h; rw [if_pos hm] at h; exact h) hCA)
    · subst e
      refine px_tableIn (tgt := 89) dX9_lot_6 (by decide) (by decide) rfl (by decide) ?_
      refine px_aload_n dX9_lot_89 rfl ?_
      refine px_getR dX9_lot_90 flX9_10 pv_s_main (by decide) (by decide) rfl pv_k_main pv_p_0_0 ?_
      refine px_getR dX9_lot_93 flX9_66 pv_ship_1.1 (by decide) (by decide) rfl pv_ship_1.2.1 pv_ship_1.2.2.2.2.1.1 ?_
      refine px_getR dX9_lot_96 flX9_249 pv_ship_1.2.2.2.2.1.2.1 (by decide) (by decide) rfl pv_ship_1.2.2.2.2.1.2.2.1 pv_ship_1.2.2.2.2.1.2.2.2.2.2.2.1 ?_
      refine px_iload_n dX9_lot_99 rfl ?_
      refine c_X6_at dX9_lot_100 mlX9_88 (by omega) (j := l) pv_ship_1.2.2.2.2.1.2.2.2.2.2.2.2 (by omega) (Nat.le_of_ble_eq_true rfl) ?_
      refine px_iv (y := nI ((pl_g L (l)).2.2.2)) ((hC.2.2.2.1.2.2 (l) (by omega)).2.2.2) ?_
      exact px_iret dX9_lot_103 rfl (Or.inl rfl) (po_same (by unfold po_lot at h; simp only [tn, l3, w3] at h; rw [if_pos ha] at h; rw [if_pos hm] at h; exact h) hCA)
    · subst e
      refine px_tableIn (tgt := 104) dX9_lot_6 (by decide) (by decide) rfl (by decide) ?_
      refine px_aload_n dX9_lot_104 rfl ?_
      refine px_getR dX9_lot_105 flX9_10 pv_s_main (by decide) (by decide) rfl pv_k_main pv_p_0_0 ?_
      refine px_iload_n dX9_lot_108 rfl ?_
      refine c_X7_daysLeftOf dX9_lot_109 mlX9_252 (by omega) pv_ship_1 hC htb l1 (by omega) (Nat.le_of_ble_eq_true rfl) ?_
      exact px_iret dX9_lot_112 rfl (Or.inl rfl) (po_same (by unfold po_lot at h; simp only [tn, l3, w3] at h; rw [if_pos ha] at h; rw [if_pos hm] at h; exact h) hCA)
    · subst e
      refine px_tableIn (tgt := 113) dX9_lot_6 (by decide) (by decide) rfl (by decide) ?_
      refine px_aload_n dX9_lot_113 rfl ?_
      refine px_getR dX9_lot_114 flX9_10 pv_s_main (by decide) (by decide) rfl pv_k_main pv_p_0_0 ?_
      refine px_iload_n dX9_lot_117 rfl ?_
      refine c_X7_eatingPlaceOf dX9_lot_118 mlX9_255 (by omega) pv_ship_1 hC htb hdy.2.2 l1 (Nat.le_of_ble_eq_true rfl) ?_
      exact px_iret dX9_lot_121 rfl (Or.inl rfl) (po_same (by unfold po_lot at h; simp only [tn, l3, w3] at h; rw [if_pos ha] at h; rw [if_pos hm] at h; exact h) hCA)
  · refine px_tableOut (tgt := 122) dX9_lot_6 (pu_out hm (by decide)) (by decide) ?_
    unfold po_lot at hv; simp only [tn, l3] at hv; rw [if_pos ha] at hv; rw [if_neg hm] at hv
    exact absurd hv (Nat.succ_ne_zero _)
theorem c_Z9_lot {z : pv_Z} {E : pv_E} {d bc bs : Nat} {J : pv_JT} {I : pv_IT} {mi : pv_MI} {pc idx : Nat} {lv : pv_LV} {st : List Value} {T : pv_T} {L : List pv_Lot} {H : List pv_S} {B : List Nat} {n : Nat} {l0 w0 : Int32} (hd : decode mi.2.1 pc = .ok (.invokevirtual idx, 3)) (hlk : Cond.methodLink mi.1.cls idx mX9_lot.1 ∈ pv_W) (hD : 8+1 ≤ d) (hCA : CA I ((T, L), H, B)) (hw : wx n ((T, L), H, B)) (hn : n ≤ 600) (hv : (po_lot ((T, L), H, B) l0 w0).1 = 0) (hcat : (st.map fun v => v.category).sum ≤ 8) (K : po_ok (pv_K z E d bc bs mi pc lv st) I J [pv_xIO, pv_xIA] (po_lot ((T, L), H, B) l0 w0)) : pv_X z E d bc bs mi pc lv (.int (w0) :: .int (l0) :: .ref (0) :: st) pv_K0 pv_P0 I J := by
  obtain ⟨d, rfl⟩ : ∃ d0, d = d0 + 1 := ⟨d - 1, by omega⟩
  have key := px_callV (bc := bc) (bs := bs) (bc1 := 0) (bs1 := 0) (as := [.int (l0), .int (w0)]) (E := E) (z := z) (lv := lv) hd mvX9_lot hlk pv_s_main (by decide) rfl pv_k_main rfl rfl hcat (by exact Nat.le_of_ble_eq_true rfl) (s_Z9_lot (by omega) hCA hw hn hv K)
  rw [Nat.zero_add, Nat.zero_add] at key
  exact key
set_option maxRecDepth 100000 in
set_option maxHeartbeats 4000000 in
theorem s_Z9_store {Q : pv_Q} {E : pv_E} {d bc bs : Nat} {J : pv_JT} {I : pv_IT} {T : pv_T} {L : List pv_Lot} {H : List pv_S} {B : List Nat} {n : Nat} {l0 w0 : Int32} (hD : 8 ≤ d) (hCA : CA I ((T, L), H, B)) (hw : wx n ((T, L), H, B)) (hn : n ≤ 600) (hv : (po_store ((T, L), H, B) l0 w0).1 = 0) (h : po_ok Q I J [pv_xIO, pv_xIA] (po_store ((T, L), H, B) l0 w0)) : pv_X (pv_ZQ E Q) E d bc bs mX9_store 0 [(0, .ref (0)), (1, .int (l0)), (2, .int (w0))] [] pv_K0 pv_P0 I J := by
  obtain ⟨hC, hH, hB⟩ := id hCA
  replace hC : CR I 1 T L := hC
  replace hH : HR I H := hH
  replace hB : TXc I B := hB
  have hdy : dy (T, L) := hw.1.1
  have htb : tb T := hdy.1
  have hlb : lbs L := hdy.2.1
  have h31 : L.length ≤ 31 := hlb.1
  have h30 : L.length ≤ 30 := hw.1.2.1
  have h404 : T 404 ≤ 60 * n := hw.1.2.2.1
  have hn8 : T 405 ≤ 8 := htb.2.2.1
  have hp8 : T 407 ≤ 8 := htb.2.2.2.2.2.1.1
  have h10 : T 408 ≤ 10 := htb.2.2.2.2.2.2.2.1
  refine px_iload_n dX9_store_0 rfl ?_
  have ha : pu_has l0 3 := by
    refine Classical.byContradiction fun ha => ?_
    unfold po_store at hv; rw [if_neg ha] at hv
    exact absurd hv (Nat.succ_ne_zero _)
  refine c_Z9_requireStore dX9_store_1 mlX9_62 (by omega)  ha (Nat.le_of_ble_eq_true rfl) ?_
  obtain ⟨l, l1, rfl, l3⟩ := pu_has_nI ha (by omega)
  refine px_iload_n dX9_store_4 rfl ?_
  by_cases hm : pu_in w0 0 3
  · obtain ⟨w, w1, w2, rfl, w3⟩ := pu_in_nI hm (by omega) (by omega)
    rcases (by omega : w = 0 ∨ w = 1 ∨ w = 2 ∨ w = 3) with e | e | e | e
    · subst e
      refine px_tableIn (tgt := 36) dX9_store_5 (by decide) (by decide) rfl (by decide) ?_
      refine px_aload_n dX9_store_36 rfl ?_
      refine px_getR dX9_store_37 flX9_10 pv_s_main (by decide) (by decide) rfl pv_k_main pv_p_0_0 ?_
      refine px_getR dX9_store_40 flX9_78 pv_ship_1.1 (by decide) (by decide) rfl pv_ship_1.2.1 pv_ship_1.2.2.2.1.1 ?_
      refine px_getR dX9_store_43 flX9_82 pv_ship_1.2.2.2.1.2.1 (by decide) (by decide) rfl pv_ship_1.2.2.2.1.2.2.1 pv_ship_1.2.2.2.1.2.2.2.1.1 ?_
      refine px_iload_n dX9_store_46 rfl ?_
      refine c_X6_at dX9_store_47 mlX9_88 (by omega) (j := l) pv_ship_1.2.2.2.1.2.2.2.1.2 (by omega) (Nat.le_of_ble_eq_true rfl) ?_
      refine px_iv (y := nI (T (64 + l))) ((hC.2.2.1 (l) (by omega)).1) ?_
      exact px_iret dX9_store_50 rfl (Or.inl rfl) (po_same (by unfold po_store at h; simp only [tn, l3, w3] at h; rw [if_pos ha] at h; rw [if_pos hm] at h; exact h) hCA)
    · subst e
      refine px_tableIn (tgt := 51) dX9_store_5 (by decide) (by decide) rfl (by decide) ?_
      refine px_aload_n dX9_store_51 rfl ?_
      refine px_getR dX9_store_52 flX9_10 pv_s_main (by decide) (by decide) rfl pv_k_main pv_p_0_0 ?_
      refine px_getR dX9_store_55 flX9_66 pv_ship_1.1 (by decide) (by decide) rfl pv_ship_1.2.1 pv_ship_1.2.2.2.2.1.1 ?_
      refine px_iload_n dX9_store_58 rfl ?_
      refine c_X2_rationsIn dX9_store_59 mlX9_70 (by omega) pv_ship_1.2.2.2.2.1.2 hC.2.2.2.1 (by omega) (Nat.le_of_ble_eq_true rfl) ?_
      exact px_iret dX9_store_62 rfl (Or.inl rfl) (po_same (by unfold po_store at h; simp only [tn, l3, w3] at h; rw [if_pos ha] at h; rw [if_pos hm] at h; exact h) hCA)
    · subst e
      refine px_tableIn (tgt := 63) dX9_store_5 (by decide) (by decide) rfl (by decide) ?_
      refine px_aload_n dX9_store_63 rfl ?_
      refine px_getR dX9_store_64 flX9_10 pv_s_main (by decide) (by decide) rfl pv_k_main pv_p_0_0 ?_
      refine px_getR dX9_store_67 flX9_66 pv_ship_1.1 (by decide) (by decide) rfl pv_ship_1.2.1 pv_ship_1.2.2.2.2.1.1 ?_
      refine px_iload_n dX9_store_70 rfl ?_
      refine c_X2_numberIn dX9_store_71 mlX9_260 (by omega) pv_ship_1.2.2.2.2.1.2 hC.2.2.2.1 (by omega) (Nat.le_of_ble_eq_true rfl) ?_
      exact px_iret dX9_store_74 rfl (Or.inl rfl) (po_same (by unfold po_store at h; simp only [tn, l3, w3] at h; rw [if_pos ha] at h; rw [if_pos hm] at h; exact h) hCA)
    · subst e
      refine px_tableIn (tgt := 75) dX9_store_5 (by decide) (by decide) rfl (by decide) ?_
      refine px_aload_n dX9_store_75 rfl ?_
      refine px_getR dX9_store_76 flX9_10 pv_s_main (by decide) (by decide) rfl pv_k_main pv_p_0_0 ?_
      refine px_getR dX9_store_79 flX9_78 pv_ship_1.1 (by decide) (by decide) rfl pv_ship_1.2.1 pv_ship_1.2.2.2.1.1 ?_
      refine px_getR dX9_store_82 flX9_106 pv_ship_1.2.2.2.1.2.1 (by decide) (by decide) rfl pv_ship_1.2.2.2.1.2.2.1 pv_ship_1.2.2.2.1.2.2.2.2.1 ?_
      refine px_iload_n dX9_store_85 rfl ?_
      refine c_X6_at dX9_store_86 mlX9_88 (by omega) (j := l) pv_ship_1.2.2.2.1.2.2.2.2.2 (by omega) (Nat.le_of_ble_eq_true rfl) ?_
      refine px_iv (y := nI (T (67 + l))) ((hC.2.2.1 (l) (by omega)).2) ?_
      exact px_iret dX9_store_89 rfl (Or.inl rfl) (po_same (by unfold po_store at h; simp only [tn, l3, w3] at h; rw [if_pos ha] at h; rw [if_pos hm] at h; exact h) hCA)
  · refine px_tableOut (tgt := 90) dX9_store_5 (pu_out hm (by decide)) (by decide) ?_
    unfold po_store at hv; simp only [tn, l3] at hv; rw [if_pos ha] at hv; rw [if_neg hm] at hv
    exact absurd hv (Nat.succ_ne_zero _)
theorem c_Z9_store {z : pv_Z} {E : pv_E} {d bc bs : Nat} {J : pv_JT} {I : pv_IT} {mi : pv_MI} {pc idx : Nat} {lv : pv_LV} {st : List Value} {T : pv_T} {L : List pv_Lot} {H : List pv_S} {B : List Nat} {n : Nat} {l0 w0 : Int32} (hd : decode mi.2.1 pc = .ok (.invokevirtual idx, 3)) (hlk : Cond.methodLink mi.1.cls idx mX9_store.1 ∈ pv_W) (hD : 8+1 ≤ d) (hCA : CA I ((T, L), H, B)) (hw : wx n ((T, L), H, B)) (hn : n ≤ 600) (hv : (po_store ((T, L), H, B) l0 w0).1 = 0) (hcat : (st.map fun v => v.category).sum ≤ 8) (K : po_ok (pv_K z E d bc bs mi pc lv st) I J [pv_xIO, pv_xIA] (po_store ((T, L), H, B) l0 w0)) : pv_X z E d bc bs mi pc lv (.int (w0) :: .int (l0) :: .ref (0) :: st) pv_K0 pv_P0 I J := by
  obtain ⟨d, rfl⟩ : ∃ d0, d = d0 + 1 := ⟨d - 1, by omega⟩
  have key := px_callV (bc := bc) (bs := bs) (bc1 := 0) (bs1 := 0) (as := [.int (l0), .int (w0)]) (E := E) (z := z) (lv := lv) hd mvX9_store hlk pv_s_main (by decide) rfl pv_k_main rfl rfl hcat (by exact Nat.le_of_ble_eq_true rfl) (s_Z9_store (by omega) hCA hw hn hv K)
  rw [Nat.zero_add, Nat.zero_add] at key
  exact key
set_option maxRecDepth 100000 in
set_option maxHeartbeats 4000000 in
theorem s_Z9_kind {Q : pv_Q} {E : pv_E} {d bc bs : Nat} {J : pv_JT} {I : pv_IT} {T : pv_T} {L : List pv_Lot} {H : List pv_S} {B : List Nat} {n : Nat} {l0 w0 : Int32} (hD : 8 ≤ d) (hCA : CA I ((T, L), H, B)) (hw : wx n ((T, L), H, B)) (hn : n ≤ 600) (hv : (po_kind ((T, L), H, B) l0 w0).1 = 0) (h : po_ok Q I J [pv_xIO, pv_xIA] (po_kind ((T, L), H, B) l0 w0)) : pv_X (pv_ZQ E Q) E d bc bs mX9_kind 0 [(0, .ref (0)), (1, .int (l0)), (2, .int (w0))] [] pv_K0 pv_P0 I J := by
  obtain ⟨hC, hH, hB⟩ := id hCA
  replace hC : CR I 1 T L := hC
  replace hH : HR I H := hH
  replace hB : TXc I B := hB
  have hdy : dy (T, L) := hw.1.1
  have htb : tb T := hdy.1
  have hlb : lbs L := hdy.2.1
  have h31 : L.length ≤ 31 := hlb.1
  have h30 : L.length ≤ 30 := hw.1.2.1
  have h404 : T 404 ≤ 60 * n := hw.1.2.2.1
  have hn8 : T 405 ≤ 8 := htb.2.2.1
  have hp8 : T 407 ≤ 8 := htb.2.2.2.2.2.1.1
  have h10 : T 408 ≤ 10 := htb.2.2.2.2.2.2.2.1
  refine px_aload_n dX9_kind_0 rfl ?_
  refine px_iload_n dX9_kind_1 rfl ?_
  have ha : pu_has l0 (T 405) := by
    refine Classical.byContradiction fun ha => ?_
    unfold po_kind at hv; rw [if_neg ha] at hv
    exact absurd hv (Nat.succ_ne_zero _)
  refine c_Z9_requireKind dX9_kind_2 mlX9_147 (by omega) hC (by omega) ha (Nat.le_of_ble_eq_true rfl) ?_
  obtain ⟨l, l1, rfl, l3⟩ := pu_has_nI ha (by omega)
  refine px_iload_n dX9_kind_5 rfl ?_
  by_cases hm : pu_in w0 0 9
  · obtain ⟨w, w1, w2, rfl, w3⟩ := pu_in_nI hm (by omega) (by omega)
    rcases (by omega : w = 0 ∨ w = 1 ∨ w = 2 ∨ w = 3 ∨ w = 4 ∨ w = 5 ∨ w = 6 ∨ w = 7 ∨ w = 8 ∨ w = 9) with e | e | e | e | e | e | e | e | e | e
    · subst e
      refine px_tableIn (tgt := 60) dX9_kind_6 (by decide) (by decide) rfl (by decide) ?_
      refine px_aload_n dX9_kind_60 rfl ?_
      refine px_getR dX9_kind_61 flX9_10 pv_s_main (by decide) (by decide) rfl pv_k_main pv_p_0_0 ?_
      refine px_getR dX9_kind_64 flX9_37 pv_ship_1.1 (by decide) (by decide) rfl pv_ship_1.2.1 pv_ship_1.2.2.1.1 ?_
      refine px_iload_n dX9_kind_67 rfl ?_
      refine px_iload_n dX9_kind_68 rfl ?_
      refine c_X1_lifeIn dX9_kind_69 mlX9_265 (by omega) pv_ship_1.2.2.1.2 hC.2.1 (by omega) (by omega) (Nat.le_of_ble_eq_true rfl) ?_
      exact px_iret dX9_kind_72 rfl (Or.inl rfl) (po_same (by unfold po_kind at h; simp only [tn, l3, w3] at h; rw [if_pos ha] at h; rw [if_pos hm] at h; exact h) hCA)
    · subst e
      refine px_tableIn (tgt := 60) dX9_kind_6 (by decide) (by decide) rfl (by decide) ?_
      refine px_aload_n dX9_kind_60 rfl ?_
      refine px_getR dX9_kind_61 flX9_10 pv_s_main (by decide) (by decide) rfl pv_k_main pv_p_0_0 ?_
      refine px_getR dX9_kind_64 flX9_37 pv_ship_1.1 (by decide) (by decide) rfl pv_ship_1.2.1 pv_ship_1.2.2.1.1 ?_
      refine px_iload_n dX9_kind_67 rfl ?_
      refine px_iload_n dX9_kind_68 rfl ?_
      refine c_X1_lifeIn dX9_kind_69 mlX9_265 (by omega) pv_ship_1.2.2.1.2 hC.2.1 (by omega) (by omega) (Nat.le_of_ble_eq_true rfl) ?_
      exact px_iret dX9_kind_72 rfl (Or.inl rfl) (po_same (by unfold po_kind at h; simp only [tn, l3, w3] at h; rw [if_pos ha] at h; rw [if_pos hm] at h; exact h) hCA)
    · subst e
      refine px_tableIn (tgt := 60) dX9_kind_6 (by decide) (by decide) rfl (by decide) ?_
      refine px_aload_n dX9_kind_60 rfl ?_
      refine px_getR dX9_kind_61 flX9_10 pv_s_main (by decide) (by decide) rfl pv_k_main pv_p_0_0 ?_
      refine px_getR dX9_kind_64 flX9_37 pv_ship_1.1 (by decide) (by decide) rfl pv_ship_1.2.1 pv_ship_1.2.2.1.1 ?_
      refine px_iload_n dX9_kind_67 rfl ?_
      refine px_iload_n dX9_kind_68 rfl ?_
      refine c_X1_lifeIn dX9_kind_69 mlX9_265 (by omega) pv_ship_1.2.2.1.2 hC.2.1 (by omega) (by omega) (Nat.le_of_ble_eq_true rfl) ?_
      exact px_iret dX9_kind_72 rfl (Or.inl rfl) (po_same (by unfold po_kind at h; simp only [tn, l3, w3] at h; rw [if_pos ha] at h; rw [if_pos hm] at h; exact h) hCA)
    · subst e
      refine px_tableIn (tgt := 73) dX9_kind_6 (by decide) (by decide) rfl (by decide) ?_
      refine px_aload_n dX9_kind_73 rfl ?_
      refine px_getR dX9_kind_74 flX9_10 pv_s_main (by decide) (by decide) rfl pv_k_main pv_p_0_0 ?_
      refine px_getR dX9_kind_77 flX9_37 pv_ship_1.1 (by decide) (by decide) rfl pv_ship_1.2.1 pv_ship_1.2.2.1.1 ?_
      refine px_getR dX9_kind_80 flX9_268 pv_ship_1.2.2.1.2.1 (by decide) (by decide) rfl pv_ship_1.2.2.1.2.2.1 pv_ship_1.2.2.1.2.2.2.2.1.1 ?_
      refine px_iload_n dX9_kind_83 rfl ?_
      refine c_X6_at dX9_kind_84 mlX9_88 (by omega) (j := l) pv_ship_1.2.2.1.2.2.2.2.1.2 (by omega) (Nat.le_of_ble_eq_true rfl) ?_
      refine px_iv (y := nI (T (24 + 5 * (l)))) ((hC.2.1.2.2 (l) (by omega)).1) ?_
      exact px_iret dX9_kind_87 rfl (Or.inl rfl) (po_same (by unfold po_kind at h; simp only [tn, l3, w3] at h; rw [if_pos ha] at h; rw [if_pos hm] at h; exact h) hCA)
    · subst e
      refine px_tableIn (tgt := 88) dX9_kind_6 (by decide) (by decide) rfl (by decide) ?_
      refine px_aload_n dX9_kind_88 rfl ?_
      refine px_getR dX9_kind_89 flX9_10 pv_s_main (by decide) (by decide) rfl pv_k_main pv_p_0_0 ?_
      refine px_getR dX9_kind_92 flX9_37 pv_ship_1.1 (by decide) (by decide) rfl pv_ship_1.2.1 pv_ship_1.2.2.1.1 ?_
      refine px_getR dX9_kind_95 flX9_271 pv_ship_1.2.2.1.2.1 (by decide) (by decide) rfl pv_ship_1.2.2.1.2.2.1 pv_ship_1.2.2.1.2.2.2.2.2.1.1 ?_
      refine px_iload_n dX9_kind_98 rfl ?_
      refine c_X6_at dX9_kind_99 mlX9_88 (by omega) (j := l) pv_ship_1.2.2.1.2.2.2.2.2.1.2 (by omega) (Nat.le_of_ble_eq_true rfl) ?_
      refine px_iv (y := nI (T (25 + 5 * (l)))) ((hC.2.1.2.2 (l) (by omega)).2.1) ?_
      exact px_iret dX9_kind_102 rfl (Or.inl rfl) (po_same (by unfold po_kind at h; simp only [tn, l3, w3] at h; rw [if_pos ha] at h; rw [if_pos hm] at h; exact h) hCA)
    · subst e
      refine px_tableIn (tgt := 103) dX9_kind_6 (by decide) (by decide) rfl (by decide) ?_
      refine px_aload_n dX9_kind_103 rfl ?_
      refine px_getR dX9_kind_104 flX9_10 pv_s_main (by decide) (by decide) rfl pv_k_main pv_p_0_0 ?_
      refine px_getR dX9_kind_107 flX9_37 pv_ship_1.1 (by decide) (by decide) rfl pv_ship_1.2.1 pv_ship_1.2.2.1.1 ?_
      refine px_getR dX9_kind_110 flX9_200 pv_ship_1.2.2.1.2.1 (by decide) (by decide) rfl pv_ship_1.2.2.1.2.2.1 pv_ship_1.2.2.1.2.2.2.2.2.2.1.1 ?_
      refine px_iload_n dX9_kind_113 rfl ?_
      refine c_X6_at dX9_kind_114 mlX9_88 (by omega) (j := l) pv_ship_1.2.2.1.2.2.2.2.2.2.1.2 (by omega) (Nat.le_of_ble_eq_true rfl) ?_
      refine px_iv (y := nI (T (26 + 5 * (l)))) ((hC.2.1.2.2 (l) (by omega)).2.2.1) ?_
      exact px_iret dX9_kind_117 rfl (Or.inl rfl) (po_same (by unfold po_kind at h; simp only [tn, l3, w3] at h; rw [if_pos ha] at h; rw [if_pos hm] at h; exact h) hCA)
    · subst e
      refine px_tableIn (tgt := 118) dX9_kind_6 (by decide) (by decide) rfl (by decide) ?_
      refine px_aload_n dX9_kind_118 rfl ?_
      refine px_getR dX9_kind_119 flX9_10 pv_s_main (by decide) (by decide) rfl pv_k_main pv_p_0_0 ?_
      refine px_getR dX9_kind_122 flX9_37 pv_ship_1.1 (by decide) (by decide) rfl pv_ship_1.2.1 pv_ship_1.2.2.1.1 ?_
      refine px_getR dX9_kind_125 flX9_184 pv_ship_1.2.2.1.2.1 (by decide) (by decide) rfl pv_ship_1.2.2.1.2.2.1 pv_ship_1.2.2.1.2.2.2.2.2.2.2.1.1 ?_
      refine px_iload_n dX9_kind_128 rfl ?_
      refine c_X6_at dX9_kind_129 mlX9_88 (by omega) (j := l) pv_ship_1.2.2.1.2.2.2.2.2.2.2.1.2 (by omega) (Nat.le_of_ble_eq_true rfl) ?_
      refine px_iv (y := nI (T (27 + 5 * (l)))) ((hC.2.1.2.2 (l) (by omega)).2.2.2.1) ?_
      exact px_iret dX9_kind_132 rfl (Or.inl rfl) (po_same (by unfold po_kind at h; simp only [tn, l3, w3] at h; rw [if_pos ha] at h; rw [if_pos hm] at h; exact h) hCA)
    · subst e
      refine px_tableIn (tgt := 133) dX9_kind_6 (by decide) (by decide) rfl (by decide) ?_
      refine px_aload_n dX9_kind_133 rfl ?_
      refine px_getR dX9_kind_134 flX9_10 pv_s_main (by decide) (by decide) rfl pv_k_main pv_p_0_0 ?_
      refine px_getR dX9_kind_137 flX9_66 pv_ship_1.1 (by decide) (by decide) rfl pv_ship_1.2.1 pv_ship_1.2.2.2.2.1.1 ?_
      refine px_iload_n dX9_kind_140 rfl ?_
      refine c_X2_rationsOf dX9_kind_141 mlX9_274 (by omega) pv_ship_1.2.2.2.2.1.2 hC.2.2.2.1 (by omega) (Nat.le_of_ble_eq_true rfl) ?_
      exact px_iret dX9_kind_144 rfl (Or.inl rfl) (po_same (by unfold po_kind at h; simp only [tn, l3, w3] at h; rw [if_pos ha] at h; rw [if_pos hm] at h; exact h) hCA)
    · subst e
      refine px_tableIn (tgt := 145) dX9_kind_6 (by decide) (by decide) rfl (by decide) ?_
      refine px_aload_n dX9_kind_145 rfl ?_
      refine px_getR dX9_kind_146 flX9_10 pv_s_main (by decide) (by decide) rfl pv_k_main pv_p_0_0 ?_
      refine px_getR dX9_kind_149 flX9_37 pv_ship_1.1 (by decide) (by decide) rfl pv_ship_1.2.1 pv_ship_1.2.2.1.1 ?_
      refine px_getR dX9_kind_152 flX9_277 pv_ship_1.2.2.1.2.1 (by decide) (by decide) rfl pv_ship_1.2.2.1.2.2.1 pv_ship_1.2.2.1.2.2.2.2.2.2.2.2.1 ?_
      refine px_iload_n dX9_kind_155 rfl ?_
      refine c_X6_at dX9_kind_156 mlX9_88 (by omega) (j := l) pv_ship_1.2.2.1.2.2.2.2.2.2.2.2.2 (by omega) (Nat.le_of_ble_eq_true rfl) ?_
      refine px_iv (y := nI (T (28 + 5 * (l)))) ((hC.2.1.2.2 (l) (by omega)).2.2.2.2) ?_
      exact px_iret dX9_kind_159 rfl (Or.inl rfl) (po_same (by unfold po_kind at h; simp only [tn, l3, w3] at h; rw [if_pos ha] at h; rw [if_pos hm] at h; exact h) hCA)
    · subst e
      refine px_tableIn (tgt := 160) dX9_kind_6 (by decide) (by decide) rfl (by decide) ?_
      refine px_aload_n dX9_kind_160 rfl ?_
      refine px_getR dX9_kind_161 flX9_10 pv_s_main (by decide) (by decide) rfl pv_k_main pv_p_0_0 ?_
      refine px_getR dX9_kind_164 flX9_66 pv_ship_1.1 (by decide) (by decide) rfl pv_ship_1.2.1 pv_ship_1.2.2.2.2.1.1 ?_
      refine px_iload_n dX9_kind_167 rfl ?_
      refine c_X2_numberOf dX9_kind_168 mlX9_280 (by omega) pv_ship_1.2.2.2.2.1.2 hC.2.2.2.1 (by omega) (Nat.le_of_ble_eq_true rfl) ?_
      exact px_iret dX9_kind_171 rfl (Or.inl rfl) (po_same (by unfold po_kind at h; simp only [tn, l3, w3] at h; rw [if_pos ha] at h; rw [if_pos hm] at h; exact h) hCA)
  · refine px_tableOut (tgt := 172) dX9_kind_6 (pu_out hm (by decide)) (by decide) ?_
    unfold po_kind at hv; simp only [tn, l3] at hv; rw [if_pos ha] at hv; rw [if_neg hm] at hv
    exact absurd hv (Nat.succ_ne_zero _)
theorem c_Z9_kind {z : pv_Z} {E : pv_E} {d bc bs : Nat} {J : pv_JT} {I : pv_IT} {mi : pv_MI} {pc idx : Nat} {lv : pv_LV} {st : List Value} {T : pv_T} {L : List pv_Lot} {H : List pv_S} {B : List Nat} {n : Nat} {l0 w0 : Int32} (hd : decode mi.2.1 pc = .ok (.invokevirtual idx, 3)) (hlk : Cond.methodLink mi.1.cls idx mX9_kind.1 ∈ pv_W) (hD : 8+1 ≤ d) (hCA : CA I ((T, L), H, B)) (hw : wx n ((T, L), H, B)) (hn : n ≤ 600) (hv : (po_kind ((T, L), H, B) l0 w0).1 = 0) (hcat : (st.map fun v => v.category).sum ≤ 8) (K : po_ok (pv_K z E d bc bs mi pc lv st) I J [pv_xIO, pv_xIA] (po_kind ((T, L), H, B) l0 w0)) : pv_X z E d bc bs mi pc lv (.int (w0) :: .int (l0) :: .ref (0) :: st) pv_K0 pv_P0 I J := by
  obtain ⟨d, rfl⟩ : ∃ d0, d = d0 + 1 := ⟨d - 1, by omega⟩
  have key := px_callV (bc := bc) (bs := bs) (bc1 := 0) (bs1 := 0) (as := [.int (l0), .int (w0)]) (E := E) (z := z) (lv := lv) hd mvX9_kind hlk pv_s_main (by decide) rfl pv_k_main rfl rfl hcat (by exact Nat.le_of_ble_eq_true rfl) (s_Z9_kind (by omega) hCA hw hn hv K)
  rw [Nat.zero_add, Nat.zero_add] at key
  exact key
set_option maxRecDepth 100000 in
set_option maxHeartbeats 4000000 in
theorem s_Z9_menu {Q : pv_Q} {E : pv_E} {d bc bs : Nat} {J : pv_JT} {I : pv_IT} {T : pv_T} {L : List pv_Lot} {H : List pv_S} {B : List Nat} {n : Nat} {m0 i0 w0 : Int32} (hD : 8 ≤ d) (hCA : CA I ((T, L), H, B)) (hw : wx n ((T, L), H, B)) (hn : n ≤ 600) (hv : (po_menu ((T, L), H, B) m0 i0 w0).1 = 0) (h : po_ok Q I J [pv_xIO, pv_xIA] (po_menu ((T, L), H, B) m0 i0 w0)) : pv_X (pv_ZQ E Q) E d bc bs mX9_menu 0 [(0, .ref (0)), (1, .int (m0)), (2, .int (i0)), (3, .int (w0))] [] pv_K0 pv_P0 I J := by
  obtain ⟨hC, hH, hB⟩ := id hCA
  replace hC : CR I 1 T L := hC
  replace hH : HR I H := hH
  replace hB : TXc I B := hB
  have hdy : dy (T, L) := hw.1.1
  have htb : tb T := hdy.1
  have hlb : lbs L := hdy.2.1
  have h31 : L.length ≤ 31 := hlb.1
  have h30 : L.length ≤ 30 := hw.1.2.1
  have h404 : T 404 ≤ 60 * n := hw.1.2.2.1
  have hn8 : T 405 ≤ 8 := htb.2.2.1
  have hp8 : T 407 ≤ 8 := htb.2.2.2.2.2.1.1
  have h10 : T 408 ≤ 10 := htb.2.2.2.2.2.2.2.1
  refine px_iload_n dX9_menu_0 rfl ?_
  refine px_iconst (v := nI 0) dX9_menu_1 (by decide) ?_
  refine px_aload_n dX9_menu_2 rfl ?_
  refine px_getR dX9_menu_3 flX9_10 pv_s_main (by decide) (by decide) rfl pv_k_main pv_p_0_0 ?_
  refine px_getR dX9_menu_6 flX9_231 pv_ship_1.1 (by decide) (by decide) rfl pv_ship_1.2.1 pv_ship_1.2.2.2.2.2.2.1.1 ?_
  refine px_getI dX9_menu_9 flX9_242 pv_ship_1.2.2.2.2.2.2.1.2.1 (by decide) (by decide) rfl pv_ship_1.2.2.2.2.2.2.1.2.2.1 ?_
  refine px_iv (y := nI (T 408)) (hC.2.2.2.2.2.1) ?_
  refine px_iconst (v := nI 1) dX9_menu_12 (by decide) ?_
  refine px_isub dX9_menu_13 ?_
  refine c_X9_isWithin dX9_menu_14 mlX9_97 (by omega)  (Nat.le_of_ble_eq_true rfl) ?_
  refine px_if_eqB (tgt := 29) dX9_menu_17 (by decide) (fun hw1 => ?_) (fun hw1 => ?_)
  · unfold po_menu at hv; rw [if_neg (fun z => hw1 ((pu_has_le (by omega)).mpr z.1))] at hv
    exact absurd hv (Nat.succ_ne_zero _)
  · refine px_iload_n dX9_menu_20 rfl ?_
    refine px_iconst (v := nI 0) dX9_menu_21 (by decide) ?_
    refine px_iconst (v := nI 3) dX9_menu_22 (by decide) ?_
    refine c_X9_isWithin dX9_menu_23 mlX9_97 (by omega)  (Nat.le_of_ble_eq_true rfl) ?_
    refine px_if_neB (tgt := 40) dX9_menu_26 (by decide) (fun hw2 => ?_) (fun hw2 => ?_)
    · have hab : pu_has m0 (T 408) ∧ pu_has i0 4 := ⟨(pu_has_le (by omega)).mp hw1, (pu_has_in (by decide)).mp hw2⟩
      have ha := hab.1
      have hb := hab.2
      obtain ⟨m, m1, rfl, m3⟩ := pu_has_nI ha (by omega)
      obtain ⟨i, i1, rfl, i3⟩ := pu_has_nI hb (by omega)
      have hmx := hC.2.2.2.2.2.2.2 m m1 i i1
      have hmb := (htb.2.2.2.2.2.2.2.2 m m1)
      refine px_aload_n dX9_menu_40 rfl ?_
      refine px_getR dX9_menu_41 flX9_10 pv_s_main (by decide) (by decide) rfl pv_k_main pv_p_0_0 ?_
      refine px_getR dX9_menu_44 flX9_231 pv_ship_1.1 (by decide) (by decide) rfl pv_ship_1.2.1 pv_ship_1.2.2.2.2.2.2.1.1 ?_
      refine px_iload_n dX9_menu_47 rfl ?_
      refine px_iload_n dX9_menu_48 rfl ?_
      refine c_X4_slot dX9_menu_49 mlX9_290 (by omega) pv_ship_1.2.2.2.2.2.2.1.2 (Nat.le_of_ble_eq_true rfl) ?_
      refine px_istore dX9_menu_52 (by decide) ?_
      refine px_iload_n dX9_menu_54 rfl ?_
      by_cases hm : pu_in w0 0 2
      · obtain ⟨w, w1, w2, rfl, w3⟩ := pu_in_nI hm (by omega) (by omega)
        rcases (by omega : w = 0 ∨ w = 1 ∨ w = 2) with e | e | e
        · subst e
          refine px_tableIn (tgt := 80) dX9_menu_55 (by decide) (by decide) rfl (by decide) ?_
          by_cases hlt : i < T (314 + m)
          · have hc := hmx.1 hlt
            have hbd := hmb.2 i hlt
            refine px_aload_n dX9_menu_80 rfl ?_
            refine px_getR dX9_menu_81 flX9_10 pv_s_main (by decide) (by decide) rfl pv_k_main pv_p_0_0 ?_
            refine px_getR dX9_menu_84 flX9_231 pv_ship_1.1 (by decide) (by decide) rfl pv_ship_1.2.1 pv_ship_1.2.2.2.2.2.2.1.1 ?_
            refine px_iload dX9_menu_87 rfl ?_
            refine c_X4_has dX9_menu_89 mlX9_293 (by omega) (x := T (195 + 12 * m + 3 * i)) pv_ship_1.2.2.2.2.2.2.1.2 (by omega) hc.2.1 (by omega) (Nat.le_of_ble_eq_true rfl) ?_
            refine px_if_eqB (tgt := 113) dX9_menu_92 (by decide) (fun h0 => absurd (show 0 < T (195 + 12 * m + 3 * i) by omega) h0) (fun _ => ?_)
            refine px_aload_n dX9_menu_95 rfl ?_
            refine px_getR dX9_menu_96 flX9_10 pv_s_main (by decide) (by decide) rfl pv_k_main pv_p_0_0 ?_
            refine px_getR dX9_menu_99 flX9_231 pv_ship_1.1 (by decide) (by decide) rfl pv_ship_1.2.1 pv_ship_1.2.2.2.2.2.2.1.1 ?_
            refine px_getR dX9_menu_102 flX9_297 pv_ship_1.2.2.2.2.2.2.1.2.1 (by decide) (by decide) rfl pv_ship_1.2.2.2.2.2.2.1.2.2.1 pv_ship_1.2.2.2.2.2.2.1.2.2.2.1.1 ?_
            refine px_iload dX9_menu_105 rfl ?_
            refine c_X6_at dX9_menu_107 mlX9_88 (by omega) (j := (m * 4 + i)) pv_ship_1.2.2.2.2.2.2.1.2.2.2.1.2 (by omega) (Nat.le_of_ble_eq_true rfl) ?_
            refine px_iv (y := nI (T (194 + 12 * m + 3 * i))) (hc.1) ?_
            refine px_goto (tgt := 114) dX9_menu_110 (by decide) ?_
            have h9 := (by unfold po_menu at h; simp only [tn, m3, i3, w3] at h; rw [if_pos hab] at h; rw [if_pos hm] at h; exact h)
            replace h9 : po_ok Q I J [pv_xIO, pv_xIA] (0, nI (pt_menu (T, L) m i 0), ((T, L), H, B)) := h9
            rw [show pt_menu (T, L) m i 0 = T (194 + 12 * m + 3 * i) from (if_pos hlt).trans (congrArg T (by omega))] at h9
            exact px_iret dX9_menu_114 rfl (Or.inl rfl) (po_same h9 hCA)
          · refine px_aload_n dX9_menu_80 rfl ?_
            refine px_getR dX9_menu_81 flX9_10 pv_s_main (by decide) (by decide) rfl pv_k_main pv_p_0_0 ?_
            refine px_getR dX9_menu_84 flX9_231 pv_ship_1.1 (by decide) (by decide) rfl pv_ship_1.2.1 pv_ship_1.2.2.2.2.2.2.1.1 ?_
            refine px_iload dX9_menu_87 rfl ?_
            refine c_X4_has dX9_menu_89 mlX9_293 (by omega) (x := 0) pv_ship_1.2.2.2.2.2.2.1.2 (by omega) (hmx.2 (by omega)) (by omega) (Nat.le_of_ble_eq_true rfl) ?_
            refine px_if_eqB (tgt := 113) dX9_menu_92 (by decide) (fun _ => ?_) (fun h0 => absurd h0 (by omega))
            refine px_iconst (v := -1) dX9_menu_113 (by decide) ?_
            have h9 := (by unfold po_menu at h; simp only [tn, m3, i3, w3] at h; rw [if_pos hab] at h; rw [if_pos hm] at h; exact h)
            replace h9 : po_ok Q I J [pv_xIO, pv_xIA] (0, nI (pt_menu (T, L) m i 0), ((T, L), H, B)) := h9
            rw [show pt_menu (T, L) m i 0 = 4294967295 from if_neg hlt] at h9
            exact px_iret dX9_menu_114 rfl (Or.inl rfl) (po_same (v := -1) h9 hCA)
        · subst e
          refine px_tableIn (tgt := 115) dX9_menu_55 (by decide) (by decide) rfl (by decide) ?_
          by_cases hlt : i < T (314 + m)
          · have hc := hmx.1 hlt
            have hbd := hmb.2 i hlt
            refine px_aload_n dX9_menu_115 rfl ?_
            refine px_getR dX9_menu_116 flX9_10 pv_s_main (by decide) (by decide) rfl pv_k_main pv_p_0_0 ?_
            refine px_getR dX9_menu_119 flX9_231 pv_ship_1.1 (by decide) (by decide) rfl pv_ship_1.2.1 pv_ship_1.2.2.2.2.2.2.1.1 ?_
            refine px_iload dX9_menu_122 rfl ?_
            refine c_X4_has dX9_menu_124 mlX9_293 (by omega) (x := T (195 + 12 * m + 3 * i)) pv_ship_1.2.2.2.2.2.2.1.2 (by omega) hc.2.1 (by omega) (Nat.le_of_ble_eq_true rfl) ?_
            refine px_if_eqB (tgt := 148) dX9_menu_127 (by decide) (fun h0 => absurd (show 0 < T (195 + 12 * m + 3 * i) by omega) h0) (fun _ => ?_)
            refine px_aload_n dX9_menu_130 rfl ?_
            refine px_getR dX9_menu_131 flX9_10 pv_s_main (by decide) (by decide) rfl pv_k_main pv_p_0_0 ?_
            refine px_getR dX9_menu_134 flX9_231 pv_ship_1.1 (by decide) (by decide) rfl pv_ship_1.2.1 pv_ship_1.2.2.2.2.2.2.1.1 ?_
            refine px_getR dX9_menu_137 flX9_298 pv_ship_1.2.2.2.2.2.2.1.2.1 (by decide) (by decide) rfl pv_ship_1.2.2.2.2.2.2.1.2.2.1 pv_ship_1.2.2.2.2.2.2.1.2.2.2.2.1.1 ?_
            refine px_iload dX9_menu_140 rfl ?_
            refine c_X6_at dX9_menu_142 mlX9_88 (by omega) (j := (m * 4 + i)) pv_ship_1.2.2.2.2.2.2.1.2.2.2.2.1.2 (by omega) (Nat.le_of_ble_eq_true rfl) ?_
            refine px_iv (y := nI (T (195 + 12 * m + 3 * i))) (hc.2.1) ?_
            refine px_goto (tgt := 149) dX9_menu_145 (by decide) ?_
            have h9 := (by unfold po_menu at h; simp only [tn, m3, i3, w3] at h; rw [if_pos hab] at h; rw [if_pos hm] at h; exact h)
            replace h9 : po_ok Q I J [pv_xIO, pv_xIA] (0, nI (pt_menu (T, L) m i 1), ((T, L), H, B)) := h9
            rw [show pt_menu (T, L) m i 1 = T (195 + 12 * m + 3 * i) from (if_pos hlt).trans (congrArg T (by omega))] at h9
            exact px_iret dX9_menu_149 rfl (Or.inl rfl) (po_same h9 hCA)
          · refine px_aload_n dX9_menu_115 rfl ?_
            refine px_getR dX9_menu_116 flX9_10 pv_s_main (by decide) (by decide) rfl pv_k_main pv_p_0_0 ?_
            refine px_getR dX9_menu_119 flX9_231 pv_ship_1.1 (by decide) (by decide) rfl pv_ship_1.2.1 pv_ship_1.2.2.2.2.2.2.1.1 ?_
            refine px_iload dX9_menu_122 rfl ?_
            refine c_X4_has dX9_menu_124 mlX9_293 (by omega) (x := 0) pv_ship_1.2.2.2.2.2.2.1.2 (by omega) (hmx.2 (by omega)) (by omega) (Nat.le_of_ble_eq_true rfl) ?_
            refine px_if_eqB (tgt := 148) dX9_menu_127 (by decide) (fun _ => ?_) (fun h0 => absurd h0 (by omega))
            refine px_iconst (v := -1) dX9_menu_148 (by decide) ?_
            have h9 := (by unfold po_menu at h; simp only [tn, m3, i3, w3] at h; rw [if_pos hab] at h; rw [if_pos hm] at h; exact h)
            replace h9 : po_ok Q I J [pv_xIO, pv_xIA] (0, nI (pt_menu (T, L) m i 1), ((T, L), H, B)) := h9
            rw [show pt_menu (T, L) m i 1 = 4294967295 from if_neg hlt] at h9
            exact px_iret dX9_menu_149 rfl (Or.inl rfl) (po_same (v := -1) h9 hCA)
        · subst e
          refine px_tableIn (tgt := 150) dX9_menu_55 (by decide) (by decide) rfl (by decide) ?_
          by_cases hlt : i < T (314 + m)
          · have hc := hmx.1 hlt
            have hbd := hmb.2 i hlt
            refine px_aload_n dX9_menu_150 rfl ?_
            refine px_getR dX9_menu_151 flX9_10 pv_s_main (by decide) (by decide) rfl pv_k_main pv_p_0_0 ?_
            refine px_getR dX9_menu_154 flX9_231 pv_ship_1.1 (by decide) (by decide) rfl pv_ship_1.2.1 pv_ship_1.2.2.2.2.2.2.1.1 ?_
            refine px_iload dX9_menu_157 rfl ?_
            refine c_X4_has dX9_menu_159 mlX9_293 (by omega) (x := T (195 + 12 * m + 3 * i)) pv_ship_1.2.2.2.2.2.2.1.2 (by omega) hc.2.1 (by omega) (Nat.le_of_ble_eq_true rfl) ?_
            refine px_if_eqB (tgt := 183) dX9_menu_162 (by decide) (fun h0 => absurd (show 0 < T (195 + 12 * m + 3 * i) by omega) h0) (fun _ => ?_)
            refine px_aload_n dX9_menu_165 rfl ?_
            refine px_getR dX9_menu_166 flX9_10 pv_s_main (by decide) (by decide) rfl pv_k_main pv_p_0_0 ?_
            refine px_getR dX9_menu_169 flX9_231 pv_ship_1.1 (by decide) (by decide) rfl pv_ship_1.2.1 pv_ship_1.2.2.2.2.2.2.1.1 ?_
            refine px_getR dX9_menu_172 flX9_299 pv_ship_1.2.2.2.2.2.2.1.2.1 (by decide) (by decide) rfl pv_ship_1.2.2.2.2.2.2.1.2.2.1 pv_ship_1.2.2.2.2.2.2.1.2.2.2.2.2.1 ?_
            refine px_iload dX9_menu_175 rfl ?_
            refine c_X6_at dX9_menu_177 mlX9_88 (by omega) (j := (m * 4 + i)) pv_ship_1.2.2.2.2.2.2.1.2.2.2.2.2.2 (by omega) (Nat.le_of_ble_eq_true rfl) ?_
            refine px_iv (y := nI (T (196 + 12 * m + 3 * i))) (hc.2.2) ?_
            refine px_goto (tgt := 184) dX9_menu_180 (by decide) ?_
            have h9 := (by unfold po_menu at h; simp only [tn, m3, i3, w3] at h; rw [if_pos hab] at h; rw [if_pos hm] at h; exact h)
            replace h9 : po_ok Q I J [pv_xIO, pv_xIA] (0, nI (pt_menu (T, L) m i 2), ((T, L), H, B)) := h9
            rw [show pt_menu (T, L) m i 2 = T (196 + 12 * m + 3 * i) from (if_pos hlt).trans (congrArg T (by omega))] at h9
            exact px_iret dX9_menu_184 rfl (Or.inl rfl) (po_same h9 hCA)
          · refine px_aload_n dX9_menu_150 rfl ?_
            refine px_getR dX9_menu_151 flX9_10 pv_s_main (by decide) (by decide) rfl pv_k_main pv_p_0_0 ?_
            refine px_getR dX9_menu_154 flX9_231 pv_ship_1.1 (by decide) (by decide) rfl pv_ship_1.2.1 pv_ship_1.2.2.2.2.2.2.1.1 ?_
            refine px_iload dX9_menu_157 rfl ?_
            refine c_X4_has dX9_menu_159 mlX9_293 (by omega) (x := 0) pv_ship_1.2.2.2.2.2.2.1.2 (by omega) (hmx.2 (by omega)) (by omega) (Nat.le_of_ble_eq_true rfl) ?_
            refine px_if_eqB (tgt := 183) dX9_menu_162 (by decide) (fun _ => ?_) (fun h0 => absurd h0 (by omega))
            refine px_iconst (v := -1) dX9_menu_183 (by decide) ?_
            have h9 := (by unfold po_menu at h; simp only [tn, m3, i3, w3] at h; rw [if_pos hab] at h; rw [if_pos hm] at h; exact h)
            replace h9 : po_ok Q I J [pv_xIO, pv_xIA] (0, nI (pt_menu (T, L) m i 2), ((T, L), H, B)) := h9
            rw [show pt_menu (T, L) m i 2 = 4294967295 from if_neg hlt] at h9
            exact px_iret dX9_menu_184 rfl (Or.inl rfl) (po_same (v := -1) h9 hCA)
      · refine px_tableOut (tgt := 185) dX9_menu_55 (pu_out hm (by decide)) (by decide) ?_
        unfold po_menu at hv; simp only [tn, m3, i3] at hv; rw [if_pos hab] at hv; rw [if_neg hm] at hv
        exact absurd hv (Nat.succ_ne_zero _)
    · unfold po_menu at hv; rw [if_neg (fun z => hw2 ((pu_has_in (by decide)).mpr z.2))] at hv
      exact absurd hv (Nat.succ_ne_zero _)
theorem c_Z9_menu {z : pv_Z} {E : pv_E} {d bc bs : Nat} {J : pv_JT} {I : pv_IT} {mi : pv_MI} {pc idx : Nat} {lv : pv_LV} {st : List Value} {T : pv_T} {L : List pv_Lot} {H : List pv_S} {B : List Nat} {n : Nat} {m0 i0 w0 : Int32} (hd : decode mi.2.1 pc = .ok (.invokevirtual idx, 3)) (hlk : Cond.methodLink mi.1.cls idx mX9_menu.1 ∈ pv_W) (hD : 8+1 ≤ d) (hCA : CA I ((T, L), H, B)) (hw : wx n ((T, L), H, B)) (hn : n ≤ 600) (hv : (po_menu ((T, L), H, B) m0 i0 w0).1 = 0) (hcat : (st.map fun v => v.category).sum ≤ 8) (K : po_ok (pv_K z E d bc bs mi pc lv st) I J [pv_xIO, pv_xIA] (po_menu ((T, L), H, B) m0 i0 w0)) : pv_X z E d bc bs mi pc lv (.int (w0) :: .int (i0) :: .int (m0) :: .ref (0) :: st) pv_K0 pv_P0 I J := by
  obtain ⟨d, rfl⟩ : ∃ d0, d = d0 + 1 := ⟨d - 1, by omega⟩
  have key := px_callV (bc := bc) (bs := bs) (bc1 := 0) (bs1 := 0) (as := [.int (m0), .int (i0), .int (w0)]) (E := E) (z := z) (lv := lv) hd mvX9_menu hlk pv_s_main (by decide) rfl pv_k_main rfl rfl hcat (by exact Nat.le_of_ble_eq_true rfl) (s_Z9_menu (by omega) hCA hw hn hv K)
  rw [Nat.zero_add, Nat.zero_add] at key
  exact key
set_option maxRecDepth 100000 in
set_option maxHeartbeats 4000000 in
theorem s_Z9_count {Q : pv_Q} {E : pv_E} {d bc bs : Nat} {J : pv_JT} {I : pv_IT} {T : pv_T} {L : List pv_Lot} {H : List pv_S} {B : List Nat} {n : Nat} {w0 : Int32} (hD : 8 ≤ d) (hCA : CA I ((T, L), H, B)) (hw : wx n ((T, L), H, B)) (hn : n ≤ 600) (hv : (po_count ((T, L), H, B) w0).1 = 0) (h : po_ok Q I J [pv_xIA] (po_count ((T, L), H, B) w0)) : pv_X (pv_ZQ E Q) E d bc bs mX9_count 0 [(0, .ref (0)), (1, .int (w0))] [] pv_K0 pv_P0 I J := by
  obtain ⟨hC, hH, hB⟩ := id hCA
  replace hC : CR I 1 T L := hC
  replace hH : HR I H := hH
  replace hB : TXc I B := hB
  have hdy : dy (T, L) := hw.1.1
  have htb : tb T := hdy.1
  have hlb : lbs L := hdy.2.1
  have h31 : L.length ≤ 31 := hlb.1
  have h30 : L.length ≤ 30 := hw.1.2.1
  have h404 : T 404 ≤ 60 * n := hw.1.2.2.1
  have hn8 : T 405 ≤ 8 := htb.2.2.1
  have hp8 : T 407 ≤ 8 := htb.2.2.2.2.2.1.1
  have h10 : T 408 ≤ 10 := htb.2.2.2.2.2.2.2.1
  obtain ⟨o, hh1, hh2, hh3, hh4, hh5⟩ := id hH
  refine px_iload_n dX9_count_0 rfl ?_
  by_cases hm : pu_in w0 0 12
  · obtain ⟨w, w1, w2, rfl, w3⟩ := pu_in_nI hm (by omega) (by omega)
    rcases (by omega : w = 0 ∨ w = 1 ∨ w = 2 ∨ w = 3 ∨ w = 4 ∨ w = 5 ∨ w = 6 ∨ w = 7 ∨ w = 8 ∨ w = 9 ∨ w = 10 ∨ w = 11 ∨ w = 12) with e | e | e | e | e | e | e | e | e | e | e | e | e
    · subst e
      refine px_tableIn (tgt := 68) dX9_count_1 (by decide) (by decide) rfl (by decide) ?_
      refine px_aload_n dX9_count_68 rfl ?_
      refine px_getR dX9_count_69 flX9_10 pv_s_main (by decide) (by decide) rfl pv_k_main pv_p_0_0 ?_
      refine px_getI dX9_count_72 flX9_304 pv_ship_1.1 (by decide) (by decide) rfl pv_ship_1.2.1 ?_
      refine px_iv (y := nI (T 404)) (hC.1.1) ?_
      exact px_iret dX9_count_75 rfl (Or.inl rfl) (po_same (by unfold po_count at h; simp only [tn, w3] at h; rw [if_pos hm] at h; exact h) hCA)
    · subst e
      refine px_tableIn (tgt := 76) dX9_count_1 (by decide) (by decide) rfl (by decide) ?_
      refine px_aload_n dX9_count_76 rfl ?_
      refine px_getR dX9_count_77 flX9_10 pv_s_main (by decide) (by decide) rfl pv_k_main pv_p_0_0 ?_
      refine px_getR dX9_count_80 flX9_37 pv_ship_1.1 (by decide) (by decide) rfl pv_ship_1.2.1 pv_ship_1.2.2.1.1 ?_
      refine px_getI dX9_count_83 flX9_41 pv_ship_1.2.2.1.2.1 (by decide) (by decide) rfl pv_ship_1.2.2.1.2.2.1 ?_
      refine px_iv (y := nI (T 405)) (hC.2.1.1) ?_
      exact px_iret dX9_count_86 rfl (Or.inl rfl) (po_same (by unfold po_count at h; simp only [tn, w3] at h; rw [if_pos hm] at h; exact h) hCA)
    · subst e
      refine px_tableIn (tgt := 87) dX9_count_1 (by decide) (by decide) rfl (by decide) ?_
      refine px_aload_n dX9_count_87 rfl ?_
      refine px_getR dX9_count_88 flX9_10 pv_s_main (by decide) (by decide) rfl pv_k_main pv_p_0_0 ?_
      refine px_getR dX9_count_91 flX9_66 pv_ship_1.1 (by decide) (by decide) rfl pv_ship_1.2.1 pv_ship_1.2.2.2.2.1.1 ?_
      refine px_getI dX9_count_94 flX9_178 pv_ship_1.2.2.2.2.1.2.1 (by decide) (by decide) rfl pv_ship_1.2.2.2.2.1.2.2.1 ?_
      refine px_iv (y := nI (L.length)) (hC.2.2.2.1.1) ?_
      exact px_iret dX9_count_97 rfl (Or.inl rfl) (po_same (by unfold po_count at h; simp only [tn, w3] at h; rw [if_pos hm] at h; exact h) hCA)
    · subst e
      refine px_tableIn (tgt := 98) dX9_count_1 (by decide) (by decide) rfl (by decide) ?_
      refine px_aload_n dX9_count_98 rfl ?_
      refine px_getR dX9_count_99 flX9_10 pv_s_main (by decide) (by decide) rfl pv_k_main pv_p_0_0 ?_
      refine px_getR dX9_count_102 flX9_122 pv_ship_1.1 (by decide) (by decide) rfl pv_ship_1.2.1 pv_ship_1.2.2.2.2.2.1.1 ?_
      refine px_getI dX9_count_105 flX9_126 pv_ship_1.2.2.2.2.2.1.2.1 (by decide) (by decide) rfl pv_ship_1.2.2.2.2.2.1.2.2.1 ?_
      refine px_iv (y := nI (T 407)) (hC.2.2.2.2.1.1) ?_
      exact px_iret dX9_count_108 rfl (Or.inl rfl) (po_same (by unfold po_count at h; simp only [tn, w3] at h; rw [if_pos hm] at h; exact h) hCA)
    · subst e
      refine px_tableIn (tgt := 109) dX9_count_1 (by decide) (by decide) rfl (by decide) ?_
      refine px_aload_n dX9_count_109 rfl ?_
      refine px_getR dX9_count_110 flX9_10 pv_s_main (by decide) (by decide) rfl pv_k_main pv_p_0_0 ?_
      refine px_getR dX9_count_113 flX9_231 pv_ship_1.1 (by decide) (by decide) rfl pv_ship_1.2.1 pv_ship_1.2.2.2.2.2.2.1.1 ?_
      refine px_getI dX9_count_116 flX9_242 pv_ship_1.2.2.2.2.2.2.1.2.1 (by decide) (by decide) rfl pv_ship_1.2.2.2.2.2.2.1.2.2.1 ?_
      refine px_iv (y := nI (T 408)) (hC.2.2.2.2.2.1) ?_
      exact px_iret dX9_count_119 rfl (Or.inl rfl) (po_same (by unfold po_count at h; simp only [tn, w3] at h; rw [if_pos hm] at h; exact h) hCA)
    · subst e
      refine px_tableIn (tgt := 120) dX9_count_1 (by decide) (by decide) rfl (by decide) ?_
      refine px_aload_n dX9_count_120 rfl ?_
      refine px_getR dX9_count_121 flX9_10 pv_s_main (by decide) (by decide) rfl pv_k_main pv_p_0_0 ?_
      refine px_getI dX9_count_124 flX9_109 pv_ship_1.1 (by decide) (by decide) rfl pv_ship_1.2.1 ?_
      refine px_iv (y := nI (T 409)) (hC.1.2.1) ?_
      exact px_iret dX9_count_127 rfl (Or.inl rfl) (po_same (by unfold po_count at h; simp only [tn, w3] at h; rw [if_pos hm] at h; exact h) hCA)
    · subst e
      refine px_tableIn (tgt := 128) dX9_count_1 (by decide) (by decide) rfl (by decide) ?_
      refine px_aload_n dX9_count_128 rfl ?_
      refine px_getR dX9_count_129 flX9_10 pv_s_main (by decide) (by decide) rfl pv_k_main pv_p_0_0 ?_
      refine px_getI dX9_count_132 flX9_112 pv_ship_1.1 (by decide) (by decide) rfl pv_ship_1.2.1 ?_
      refine px_iv (y := nI (T 410)) (hC.1.2.2.1) ?_
      exact px_iret dX9_count_135 rfl (Or.inl rfl) (po_same (by unfold po_count at h; simp only [tn, w3] at h; rw [if_pos hm] at h; exact h) hCA)
    · subst e
      refine px_tableIn (tgt := 136) dX9_count_1 (by decide) (by decide) rfl (by decide) ?_
      refine px_aload_n dX9_count_136 rfl ?_
      refine px_getR dX9_count_137 flX9_10 pv_s_main (by decide) (by decide) rfl pv_k_main pv_p_0_0 ?_
      refine px_getI dX9_count_140 flX9_306 pv_ship_1.1 (by decide) (by decide) rfl pv_ship_1.2.1 ?_
      refine px_iv (y := nI (T 411)) (hC.1.2.2.2.1) ?_
      exact px_iret dX9_count_143 rfl (Or.inl rfl) (po_same (by unfold po_count at h; simp only [tn, w3] at h; rw [if_pos hm] at h; exact h) hCA)
    · subst e
      refine px_tableIn (tgt := 144) dX9_count_1 (by decide) (by decide) rfl (by decide) ?_
      refine px_aload_n dX9_count_144 rfl ?_
      refine px_getR dX9_count_145 flX9_10 pv_s_main (by decide) (by decide) rfl pv_k_main pv_p_0_0 ?_
      refine px_getI dX9_count_148 flX9_309 pv_ship_1.1 (by decide) (by decide) rfl pv_ship_1.2.1 ?_
      refine px_iv (y := nI (T 412)) (hC.1.2.2.2.2) ?_
      exact px_iret dX9_count_151 rfl (Or.inl rfl) (po_same (by unfold po_count at h; simp only [tn, w3] at h; rw [if_pos hm] at h; exact h) hCA)
    · subst e
      refine px_tableIn (tgt := 152) dX9_count_1 (by decide) (by decide) rfl (by decide) ?_
      refine px_aload_n dX9_count_152 rfl ?_
      refine px_getR dX9_count_153 flX9_22 pv_s_main (by decide) (by decide) rfl pv_k_main pv_p_0_2 ?_
      refine px_getI dX9_count_156 flX9_243 pv_s_hist (by decide) (by decide) rfl pv_k_hist ?_
      refine px_iv (y := nI (H.length)) (hh1) ?_
      exact px_iret dX9_count_159 rfl (Or.inl rfl) (po_same (by unfold po_count at h; simp only [tn, w3] at h; rw [if_pos hm] at h; exact h) hCA)
    · subst e
      refine px_tableIn (tgt := 160) dX9_count_1 (by decide) (by decide) rfl (by decide) ?_
      refine px_aload_n dX9_count_160 rfl ?_
      refine px_getR dX9_count_161 flX9_10 pv_s_main (by decide) (by decide) rfl pv_k_main pv_p_0_0 ?_
      refine px_getR dX9_count_164 flX9_122 pv_ship_1.1 (by decide) (by decide) rfl pv_ship_1.2.1 pv_ship_1.2.2.2.2.2.1.1 ?_
      refine px_aload_n dX9_count_167 rfl ?_
      refine px_getR dX9_count_168 flX9_10 pv_s_main (by decide) (by decide) rfl pv_k_main pv_p_0_0 ?_
      refine px_getI dX9_count_171 flX9_304 pv_ship_1.1 (by decide) (by decide) rfl pv_ship_1.2.1 ?_
      refine px_iv (y := nI (T 404)) (hC.1.1) ?_
      refine c_X5_onDay dX9_count_174 mlX9_129 (by omega) pv_ship_1.2.2.2.2.2.1.2 hC.2.2.2.2.1 htb.2.2.2.2.2.1 (by omega) (Nat.le_of_ble_eq_true rfl) ?_
      exact px_iret dX9_count_177 rfl (Or.inl rfl) (po_same (by unfold po_count at h; simp only [tn, w3] at h; rw [if_pos hm] at h; exact h) hCA)
    · subst e
      refine px_tableIn (tgt := 178) dX9_count_1 (by decide) (by decide) rfl (by decide) ?_
      refine px_aload_n dX9_count_178 rfl ?_
      refine px_getR dX9_count_179 flX9_10 pv_s_main (by decide) (by decide) rfl pv_k_main pv_p_0_0 ?_
      refine px_getR dX9_count_182 flX9_122 pv_ship_1.1 (by decide) (by decide) rfl pv_ship_1.2.1 pv_ship_1.2.2.2.2.2.1.1 ?_
      refine px_aload_n dX9_count_185 rfl ?_
      refine px_getR dX9_count_186 flX9_10 pv_s_main (by decide) (by decide) rfl pv_k_main pv_p_0_0 ?_
      refine px_getI dX9_count_189 flX9_304 pv_ship_1.1 (by decide) (by decide) rfl pv_ship_1.2.1 ?_
      refine px_iv (y := nI (T 404)) (hC.1.1) ?_
      refine c_X5_after dX9_count_192 mlX9_312 (by omega) pv_ship_1.2.2.2.2.2.1.2 hC.2.2.2.2.1 htb.2.2.2.2.2.1 (by omega) (Nat.le_of_ble_eq_true rfl) ?_
      exact px_iret dX9_count_195 rfl (Or.inl rfl) (po_same (by unfold po_count at h; simp only [tn, w3] at h; rw [if_pos hm] at h; exact h) hCA)
    · subst e
      refine px_tableIn (tgt := 196) dX9_count_1 (by decide) (by decide) rfl (by decide) ?_
      refine px_aload_n dX9_count_196 rfl ?_
      refine px_getR dX9_count_197 flX9_10 pv_s_main (by decide) (by decide) rfl pv_k_main pv_p_0_0 ?_
      refine px_getR dX9_count_200 flX9_66 pv_ship_1.1 (by decide) (by decide) rfl pv_ship_1.2.1 pv_ship_1.2.2.2.2.1.1 ?_
      refine c_X2_rations dX9_count_203 mlX9_196 (by omega) pv_ship_1.2.2.2.2.1.2 hC.2.2.2.1 (Nat.le_of_ble_eq_true rfl) ?_
      exact px_iret dX9_count_206 rfl (Or.inl rfl) (po_same (by unfold po_count at h; simp only [tn, w3] at h; rw [if_pos hm] at h; exact h) hCA)
  · refine px_tableOut (tgt := 207) dX9_count_1 (pu_out hm (by decide)) (by decide) ?_
    unfold po_count at hv; rw [if_neg hm] at hv
    exact absurd hv (Nat.succ_ne_zero _)
theorem c_Z9_count {z : pv_Z} {E : pv_E} {d bc bs : Nat} {J : pv_JT} {I : pv_IT} {mi : pv_MI} {pc idx : Nat} {lv : pv_LV} {st : List Value} {T : pv_T} {L : List pv_Lot} {H : List pv_S} {B : List Nat} {n : Nat} {w0 : Int32} (hd : decode mi.2.1 pc = .ok (.invokevirtual idx, 3)) (hlk : Cond.methodLink mi.1.cls idx mX9_count.1 ∈ pv_W) (hD : 8+1 ≤ d) (hCA : CA I ((T, L), H, B)) (hw : wx n ((T, L), H, B)) (hn : n ≤ 600) (hv : (po_count ((T, L), H, B) w0).1 = 0) (hcat : (st.map fun v => v.category).sum ≤ 8) (K : po_ok (pv_K z E d bc bs mi pc lv st) I J [pv_xIA] (po_count ((T, L), H, B) w0)) : pv_X z E d bc bs mi pc lv (.int (w0) :: .ref (0) :: st) pv_K0 pv_P0 I J := by
  obtain ⟨d, rfl⟩ : ∃ d0, d = d0 + 1 := ⟨d - 1, by omega⟩
  have key := px_callV (bc := bc) (bs := bs) (bc1 := 0) (bs1 := 0) (as := [.int (w0)]) (E := E) (z := z) (lv := lv) hd mvX9_count hlk pv_s_main (by decide) rfl pv_k_main rfl rfl hcat (by exact Nat.le_of_ble_eq_true rfl) (s_Z9_count (by omega) hCA hw hn hv K)
  rw [Nat.zero_add, Nat.zero_add] at key
  exact key
