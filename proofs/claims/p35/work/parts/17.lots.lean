/-! The class: its lots. -/
set_option maxRecDepth 100000 in
set_option maxHeartbeats 4000000 in
theorem s_X2_rations {Q : pv_Q} {E : pv_E} {d bc bs : Nat} {J : pv_JT} {I : pv_IT} {q : Nat} {L : List pv_Lot} (hD : 1 ≤ d) (hq : pv_lots q) (hl : lt_c I q L) (h : Q (.inl (some (.int (nI (ps_all L))))) pv_K0 pv_P0 (I) (J)) : pv_X (pv_ZQ E Q) E d bc bs mX2_rations 0 [(0, .ref (q))] [] pv_K0 pv_P0 I J := by
  have hL := hl.2.1.1
  have key : ∀ i : Nat, i ≤ L.length → pv_X (pv_ZQ E Q) E d bc bs mX2_rations 4 [(0, .ref q), (1, .int (nI (pn_sum (fun l => (pl_g L l).2.2.1) i))), (2, .int (nI (i)))] [] pv_K0 pv_P0 (I) (J) := by
    refine pv_up L.length ?_ ?_
    · refine px_iload_n dX2_rations_4 rfl ?_
      refine px_aload_n dX2_rations_5 rfl ?_
      refine px_getI dX2_rations_6 flX2_29 hq.1 (by decide) (by decide) rfl hq.2.1 ?_
      refine px_iv (y := nI (L.length)) (hl.1) ?_
      refine px_icmp_geN (tgt := 29) dX2_rations_9 (by decide) (by omega) (by omega) (fun _ => ?_) (fun h0 => absurd h0 (by omega))
      refine px_iload_n dX2_rations_29 rfl ?_
      exact px_iret dX2_rations_30 rfl (Or.inl rfl) (h)
    · intro i hi K 
      have hb := hl.2.1.2 i hi
      unfold lb at hb
      refine px_iload_n dX2_rations_4 rfl ?_
      refine px_aload_n dX2_rations_5 rfl ?_
      refine px_getI dX2_rations_6 flX2_29 hq.1 (by decide) (by decide) rfl hq.2.1 ?_
      refine px_iv (y := nI (L.length)) (hl.1) ?_
      refine px_icmp_geN (tgt := 29) dX2_rations_9 (by decide) (by omega) (by omega) (fun h0 => absurd h0 (by omega)) (fun _ => ?_)
      refine px_iload_n dX2_rations_12 rfl ?_
      refine px_aload_n dX2_rations_13 rfl ?_
      refine px_getR dX2_rations_14 flX2_23 hq.1 (by decide) (by decide) rfl hq.2.1 hq.2.2.2.2.1.1 ?_
      refine px_iload_n dX2_rations_17 rfl ?_
      refine c_X6_at dX2_rations_18 mlX2_40 (by omega) (j := i) hq.2.2.2.2.1.2 (by omega) (Nat.le_of_ble_eq_true rfl) ?_
      refine px_iv (y := nI ((pl_g L (i)).2.2.1)) ((hl.2.2 (i) (by omega)).2.2.1) ?_
      refine px_iaddN dX2_rations_21 ?_
      refine px_istore_n dX2_rations_22 (by decide) ?_
      refine px_iincN (c := 1) (by decide) dX2_rations_23 rfl (by decide) ?_
      refine px_goto (tgt := 4) dX2_rations_26 (by decide) ?_
      refine px_keep [0, 1, 2] ?_
      exact K
  refine px_iconst (v := nI 0) dX2_rations_0 (by decide) ?_
  refine px_istore_n dX2_rations_1 (by decide) ?_
  refine px_iconst (v := nI 0) dX2_rations_2 (by decide) ?_
  refine px_istore_n dX2_rations_3 (by decide) ?_
  exact key 0 (by omega) 
theorem c_X2_rations {z : pv_Z} {E : pv_E} {d bc bs : Nat} {J : pv_JT} {I : pv_IT} {mi : pv_MI} {pc idx : Nat} {lv : pv_LV} {st : List Value} {q : Nat} {L : List pv_Lot} (hd : decode mi.2.1 pc = .ok (.invokevirtual idx, 3)) (hlk : Cond.methodLink mi.1.cls idx mX2_rations.1 ∈ pv_W) (hD : 1+1 ≤ d) (hq : pv_lots q) (hl : lt_c I q L) (hcat : (st.map fun v => v.category).sum ≤ 8) (K : pv_X z E d bc bs mi (pc + 3) lv ((.int (nI (ps_all L))) :: st) pv_K0 pv_P0 (I) (J)) : pv_X z E d bc bs mi pc lv (.ref (q) :: st) pv_K0 pv_P0 I J := by
  obtain ⟨d, rfl⟩ : ∃ d0, d = d0 + 1 := ⟨d - 1, by omega⟩
  have key := px_callV (bc := bc) (bs := bs) (bc1 := 0) (bs1 := 0) (as := []) (E := E) (z := z) (lv := lv) hd mvX2_rations hlk hq.1 (by decide) rfl hq.2.1 rfl rfl hcat (by exact Nat.le_of_ble_eq_true rfl) (s_X2_rations (by omega) hq hl K)
  rw [Nat.zero_add, Nat.zero_add] at key
  exact key
set_option maxRecDepth 100000 in
set_option maxHeartbeats 4000000 in
theorem s_X2_rationsIn {Q : pv_Q} {E : pv_E} {d bc bs : Nat} {J : pv_JT} {I : pv_IT} {q : Nat} {L : List pv_Lot} {s : Nat} (hD : 1 ≤ d) (hq : pv_lots q) (hl : lt_c I q L) (hs : s < 2147483648) (h : Q (.inl (some (.int (nI (ps_in L s))))) pv_K0 pv_P0 (I) (J)) : pv_X (pv_ZQ E Q) E d bc bs mX2_rationsIn 0 [(0, .ref (q)), (1, .int (nI (s)))] [] pv_K0 pv_P0 I J := by
  have hL := hl.2.1.1
  have key : ∀ i : Nat, i ≤ L.length → pv_X (pv_ZQ E Q) E d bc bs mX2_rationsIn 4 [(0, .ref q), (1, .int (nI s)), (2, .int (nI (pn_sum (fun l => if (pl_g L l).2.1 = s then (pl_g L l).2.2.1 else 0) i))), (3, .int (nI (i)))] [] pv_K0 pv_P0 (I) (J) := by
    refine pv_up L.length ?_ ?_
    · refine px_iload_n dX2_rationsIn_4 rfl ?_
      refine px_aload_n dX2_rationsIn_5 rfl ?_
      refine px_getI dX2_rationsIn_6 flX2_29 hq.1 (by decide) (by decide) rfl hq.2.1 ?_
      refine px_iv (y := nI (L.length)) (hl.1) ?_
      refine px_icmp_geN (tgt := 45) dX2_rationsIn_9 (by decide) (by omega) (by omega) (fun _ => ?_) (fun h0 => absurd h0 (by omega))
      refine px_iload_n dX2_rationsIn_45 rfl ?_
      exact px_iret dX2_rationsIn_46 rfl (Or.inl rfl) (h)
    · intro i hi K 
      have hb := hl.2.1.2 i hi
      unfold lb at hb
      refine px_iload_n dX2_rationsIn_4 rfl ?_
      refine px_aload_n dX2_rationsIn_5 rfl ?_
      refine px_getI dX2_rationsIn_6 flX2_29 hq.1 (by decide) (by decide) rfl hq.2.1 ?_
      refine px_iv (y := nI (L.length)) (hl.1) ?_
      refine px_icmp_geN (tgt := 45) dX2_rationsIn_9 (by decide) (by omega) (by omega) (fun h0 => absurd h0 (by omega)) (fun _ => ?_)
      refine px_iload_n dX2_rationsIn_12 rfl ?_
      refine px_aload_n dX2_rationsIn_13 rfl ?_
      refine px_getR dX2_rationsIn_14 flX2_20 hq.1 (by decide) (by decide) rfl hq.2.1 hq.2.2.2.1.1 ?_
      refine px_iload_n dX2_rationsIn_17 rfl ?_
      refine c_X6_at dX2_rationsIn_18 mlX2_40 (by omega) (j := i) hq.2.2.2.1.2 (by omega) (Nat.le_of_ble_eq_true rfl) ?_
      refine px_iv (y := nI ((pl_g L (i)).2.1)) ((hl.2.2 (i) (by omega)).2.1) ?_
      refine px_iload_n dX2_rationsIn_21 rfl ?_
      refine px_icmp_neN (tgt := 36) dX2_rationsIn_22 (by decide) (by omega) (by omega) (fun h0 => ?_) (fun h0 => ?_)
      · refine px_iconst (v := nI 0) dX2_rationsIn_36 (by decide) ?_
        refine px_iaddN dX2_rationsIn_37 ?_
        refine px_istore_n dX2_rationsIn_38 (by decide) ?_
        refine px_iincN (c := 1) (by decide) dX2_rationsIn_39 rfl (by decide) ?_
        refine px_goto (tgt := 4) dX2_rationsIn_42 (by decide) ?_
        refine px_keep [0, 1, 2, 3] ?_
        unfold pn_sum at K; rw [if_neg h0] at K; exact K
      · refine px_aload_n dX2_rationsIn_25 rfl ?_
        refine px_getR dX2_rationsIn_26 flX2_23 hq.1 (by decide) (by decide) rfl hq.2.1 hq.2.2.2.2.1.1 ?_
        refine px_iload_n dX2_rationsIn_29 rfl ?_
        refine c_X6_at dX2_rationsIn_30 mlX2_40 (by omega) (j := i) hq.2.2.2.2.1.2 (by omega) (Nat.le_of_ble_eq_true rfl) ?_
        refine px_iv (y := nI ((pl_g L (i)).2.2.1)) ((hl.2.2 (i) (by omega)).2.2.1) ?_
        refine px_goto (tgt := 37) dX2_rationsIn_33 (by decide) ?_
        refine px_iaddN dX2_rationsIn_37 ?_
        refine px_istore_n dX2_rationsIn_38 (by decide) ?_
        refine px_iincN (c := 1) (by decide) dX2_rationsIn_39 rfl (by decide) ?_
        refine px_goto (tgt := 4) dX2_rationsIn_42 (by decide) ?_
        refine px_keep [0, 1, 2, 3] ?_
        unfold pn_sum at K; rw [if_pos h0] at K; exact K
  refine px_iconst (v := nI 0) dX2_rationsIn_0 (by decide) ?_
  refine px_istore_n dX2_rationsIn_1 (by decide) ?_
  refine px_iconst (v := nI 0) dX2_rationsIn_2 (by decide) ?_
  refine px_istore_n dX2_rationsIn_3 (by decide) ?_
  exact key 0 (by omega) 
theorem c_X2_rationsIn {z : pv_Z} {E : pv_E} {d bc bs : Nat} {J : pv_JT} {I : pv_IT} {mi : pv_MI} {pc idx : Nat} {lv : pv_LV} {st : List Value} {q : Nat} {L : List pv_Lot} {s : Nat} (hd : decode mi.2.1 pc = .ok (.invokevirtual idx, 3)) (hlk : Cond.methodLink mi.1.cls idx mX2_rationsIn.1 ∈ pv_W) (hD : 1+1 ≤ d) (hq : pv_lots q) (hl : lt_c I q L) (hs : s < 2147483648) (hcat : (st.map fun v => v.category).sum ≤ 8) (K : pv_X z E d bc bs mi (pc + 3) lv ((.int (nI (ps_in L s))) :: st) pv_K0 pv_P0 (I) (J)) : pv_X z E d bc bs mi pc lv (.int (nI (s)) :: .ref (q) :: st) pv_K0 pv_P0 I J := by
  obtain ⟨d, rfl⟩ : ∃ d0, d = d0 + 1 := ⟨d - 1, by omega⟩
  have key := px_callV (bc := bc) (bs := bs) (bc1 := 0) (bs1 := 0) (as := [.int (nI (s))]) (E := E) (z := z) (lv := lv) hd mvX2_rationsIn hlk hq.1 (by decide) rfl hq.2.1 rfl rfl hcat (by exact Nat.le_of_ble_eq_true rfl) (s_X2_rationsIn (by omega) hq hl hs K)
  rw [Nat.zero_add, Nat.zero_add] at key
  exact key
set_option maxRecDepth 100000 in
set_option maxHeartbeats 4000000 in
theorem s_X2_rationsOf {Q : pv_Q} {E : pv_E} {d bc bs : Nat} {J : pv_JT} {I : pv_IT} {q : Nat} {L : List pv_Lot} {s : Nat} (hD : 1 ≤ d) (hq : pv_lots q) (hl : lt_c I q L) (hs : s < 2147483648) (h : Q (.inl (some (.int (nI (ps_of L s))))) pv_K0 pv_P0 (I) (J)) : pv_X (pv_ZQ E Q) E d bc bs mX2_rationsOf 0 [(0, .ref (q)), (1, .int (nI (s)))] [] pv_K0 pv_P0 I J := by
  have hL := hl.2.1.1
  have key : ∀ i : Nat, i ≤ L.length → pv_X (pv_ZQ E Q) E d bc bs mX2_rationsOf 4 [(0, .ref q), (1, .int (nI s)), (2, .int (nI (pn_sum (fun l => if (pl_g L l).1 = s then (pl_g L l).2.2.1 else 0) i))), (3, .int (nI (i)))] [] pv_K0 pv_P0 (I) (J) := by
    refine pv_up L.length ?_ ?_
    · refine px_iload_n dX2_rationsOf_4 rfl ?_
      refine px_aload_n dX2_rationsOf_5 rfl ?_
      refine px_getI dX2_rationsOf_6 flX2_29 hq.1 (by decide) (by decide) rfl hq.2.1 ?_
      refine px_iv (y := nI (L.length)) (hl.1) ?_
      refine px_icmp_geN (tgt := 45) dX2_rationsOf_9 (by decide) (by omega) (by omega) (fun _ => ?_) (fun h0 => absurd h0 (by omega))
      refine px_iload_n dX2_rationsOf_45 rfl ?_
      exact px_iret dX2_rationsOf_46 rfl (Or.inl rfl) (h)
    · intro i hi K 
      have hb := hl.2.1.2 i hi
      unfold lb at hb
      refine px_iload_n dX2_rationsOf_4 rfl ?_
      refine px_aload_n dX2_rationsOf_5 rfl ?_
      refine px_getI dX2_rationsOf_6 flX2_29 hq.1 (by decide) (by decide) rfl hq.2.1 ?_
      refine px_iv (y := nI (L.length)) (hl.1) ?_
      refine px_icmp_geN (tgt := 45) dX2_rationsOf_9 (by decide) (by omega) (by omega) (fun h0 => absurd h0 (by omega)) (fun _ => ?_)
      refine px_iload_n dX2_rationsOf_12 rfl ?_
      refine px_aload_n dX2_rationsOf_13 rfl ?_
      refine px_getR dX2_rationsOf_14 flX2_14 hq.1 (by decide) (by decide) rfl hq.2.1 hq.2.2.1.1 ?_
      refine px_iload_n dX2_rationsOf_17 rfl ?_
      refine c_X6_at dX2_rationsOf_18 mlX2_40 (by omega) (j := i) hq.2.2.1.2 (by omega) (Nat.le_of_ble_eq_true rfl) ?_
      refine px_iv (y := nI ((pl_g L (i)).1)) ((hl.2.2 (i) (by omega)).1) ?_
      refine px_iload_n dX2_rationsOf_21 rfl ?_
      refine px_icmp_neN (tgt := 36) dX2_rationsOf_22 (by decide) (by omega) (by omega) (fun h0 => ?_) (fun h0 => ?_)
      · refine px_iconst (v := nI 0) dX2_rationsOf_36 (by decide) ?_
        refine px_iaddN dX2_rationsOf_37 ?_
        refine px_istore_n dX2_rationsOf_38 (by decide) ?_
        refine px_iincN (c := 1) (by decide) dX2_rationsOf_39 rfl (by decide) ?_
        refine px_goto (tgt := 4) dX2_rationsOf_42 (by decide) ?_
        refine px_keep [0, 1, 2, 3] ?_
        unfold pn_sum at K; rw [if_neg h0] at K; exact K
      · refine px_aload_n dX2_rationsOf_25 rfl ?_
        refine px_getR dX2_rationsOf_26 flX2_23 hq.1 (by decide) (by decide) rfl hq.2.1 hq.2.2.2.2.1.1 ?_
        refine px_iload_n dX2_rationsOf_29 rfl ?_
        refine c_X6_at dX2_rationsOf_30 mlX2_40 (by omega) (j := i) hq.2.2.2.2.1.2 (by omega) (Nat.le_of_ble_eq_true rfl) ?_
        refine px_iv (y := nI ((pl_g L (i)).2.2.1)) ((hl.2.2 (i) (by omega)).2.2.1) ?_
        refine px_goto (tgt := 37) dX2_rationsOf_33 (by decide) ?_
        refine px_iaddN dX2_rationsOf_37 ?_
        refine px_istore_n dX2_rationsOf_38 (by decide) ?_
        refine px_iincN (c := 1) (by decide) dX2_rationsOf_39 rfl (by decide) ?_
        refine px_goto (tgt := 4) dX2_rationsOf_42 (by decide) ?_
        refine px_keep [0, 1, 2, 3] ?_
        unfold pn_sum at K; rw [if_pos h0] at K; exact K
  refine px_iconst (v := nI 0) dX2_rationsOf_0 (by decide) ?_
  refine px_istore_n dX2_rationsOf_1 (by decide) ?_
  refine px_iconst (v := nI 0) dX2_rationsOf_2 (by decide) ?_
  refine px_istore_n dX2_rationsOf_3 (by decide) ?_
  exact key 0 (by omega) 
theorem c_X2_rationsOf {z : pv_Z} {E : pv_E} {d bc bs : Nat} {J : pv_JT} {I : pv_IT} {mi : pv_MI} {pc idx : Nat} {lv : pv_LV} {st : List Value} {q : Nat} {L : List pv_Lot} {s : Nat} (hd : decode mi.2.1 pc = .ok (.invokevirtual idx, 3)) (hlk : Cond.methodLink mi.1.cls idx mX2_rationsOf.1 ∈ pv_W) (hD : 1+1 ≤ d) (hq : pv_lots q) (hl : lt_c I q L) (hs : s < 2147483648) (hcat : (st.map fun v => v.category).sum ≤ 8) (K : pv_X z E d bc bs mi (pc + 3) lv ((.int (nI (ps_of L s))) :: st) pv_K0 pv_P0 (I) (J)) : pv_X z E d bc bs mi pc lv (.int (nI (s)) :: .ref (q) :: st) pv_K0 pv_P0 I J := by
  obtain ⟨d, rfl⟩ : ∃ d0, d = d0 + 1 := ⟨d - 1, by omega⟩
  have key := px_callV (bc := bc) (bs := bs) (bc1 := 0) (bs1 := 0) (as := [.int (nI (s))]) (E := E) (z := z) (lv := lv) hd mvX2_rationsOf hlk hq.1 (by decide) rfl hq.2.1 rfl rfl hcat (by exact Nat.le_of_ble_eq_true rfl) (s_X2_rationsOf (by omega) hq hl hs K)
  rw [Nat.zero_add, Nat.zero_add] at key
  exact key
set_option maxRecDepth 100000 in
set_option maxHeartbeats 4000000 in
theorem s_X2_numberIn {Q : pv_Q} {E : pv_E} {d bc bs : Nat} {J : pv_JT} {I : pv_IT} {q : Nat} {L : List pv_Lot} {s : Nat} (hD : 1 ≤ d) (hq : pv_lots q) (hl : lt_c I q L) (hs : s < 2147483648) (h : Q (.inl (some (.int (nI (ps_nin L s))))) pv_K0 pv_P0 (I) (J)) : pv_X (pv_ZQ E Q) E d bc bs mX2_numberIn 0 [(0, .ref (q)), (1, .int (nI (s)))] [] pv_K0 pv_P0 I J := by
  have hL := hl.2.1.1
  have key : ∀ i : Nat, i ≤ L.length → pv_X (pv_ZQ E Q) E d bc bs mX2_numberIn 4 [(0, .ref q), (1, .int (nI s)), (2, .int (nI (pn_sum (fun l => if (pl_g L l).2.1 = s then 1 else 0) i))), (3, .int (nI (i)))] [] pv_K0 pv_P0 (I) (J) := by
    refine pv_up L.length ?_ ?_
    · refine px_iload_n dX2_numberIn_4 rfl ?_
      refine px_aload_n dX2_numberIn_5 rfl ?_
      refine px_getI dX2_numberIn_6 flX2_29 hq.1 (by decide) (by decide) rfl hq.2.1 ?_
      refine px_iv (y := nI (L.length)) (hl.1) ?_
      refine px_icmp_geN (tgt := 38) dX2_numberIn_9 (by decide) (by omega) (by omega) (fun _ => ?_) (fun h0 => absurd h0 (by omega))
      refine px_iload_n dX2_numberIn_38 rfl ?_
      exact px_iret dX2_numberIn_39 rfl (Or.inl rfl) (h)
    · intro i hi K 
      have hb := hl.2.1.2 i hi
      unfold lb at hb
      refine px_iload_n dX2_numberIn_4 rfl ?_
      refine px_aload_n dX2_numberIn_5 rfl ?_
      refine px_getI dX2_numberIn_6 flX2_29 hq.1 (by decide) (by decide) rfl hq.2.1 ?_
      refine px_iv (y := nI (L.length)) (hl.1) ?_
      refine px_icmp_geN (tgt := 38) dX2_numberIn_9 (by decide) (by omega) (by omega) (fun h0 => absurd h0 (by omega)) (fun _ => ?_)
      refine px_iload_n dX2_numberIn_12 rfl ?_
      refine px_aload_n dX2_numberIn_13 rfl ?_
      refine px_getR dX2_numberIn_14 flX2_20 hq.1 (by decide) (by decide) rfl hq.2.1 hq.2.2.2.1.1 ?_
      refine px_iload_n dX2_numberIn_17 rfl ?_
      refine c_X6_at dX2_numberIn_18 mlX2_40 (by omega) (j := i) hq.2.2.2.1.2 (by omega) (Nat.le_of_ble_eq_true rfl) ?_
      refine px_iv (y := nI ((pl_g L (i)).2.1)) ((hl.2.2 (i) (by omega)).2.1) ?_
      refine px_iload_n dX2_numberIn_21 rfl ?_
      refine px_icmp_neN (tgt := 29) dX2_numberIn_22 (by decide) (by omega) (by omega) (fun h0 => ?_) (fun h0 => ?_)
      · refine px_iconst (v := nI 0) dX2_numberIn_29 (by decide) ?_
        refine px_iaddN dX2_numberIn_30 ?_
        refine px_istore_n dX2_numberIn_31 (by decide) ?_
        refine px_iincN (c := 1) (by decide) dX2_numberIn_32 rfl (by decide) ?_
        refine px_goto (tgt := 4) dX2_numberIn_35 (by decide) ?_
        refine px_keep [0, 1, 2, 3] ?_
        unfold pn_sum at K; rw [if_neg h0] at K; exact K
      · refine px_iconst (v := nI 1) dX2_numberIn_25 (by decide) ?_
        refine px_goto (tgt := 30) dX2_numberIn_26 (by decide) ?_
        refine px_iaddN dX2_numberIn_30 ?_
        refine px_istore_n dX2_numberIn_31 (by decide) ?_
        refine px_iincN (c := 1) (by decide) dX2_numberIn_32 rfl (by decide) ?_
        refine px_goto (tgt := 4) dX2_numberIn_35 (by decide) ?_
        refine px_keep [0, 1, 2, 3] ?_
        unfold pn_sum at K; rw [if_pos h0] at K; exact K
  refine px_iconst (v := nI 0) dX2_numberIn_0 (by decide) ?_
  refine px_istore_n dX2_numberIn_1 (by decide) ?_
  refine px_iconst (v := nI 0) dX2_numberIn_2 (by decide) ?_
  refine px_istore_n dX2_numberIn_3 (by decide) ?_
  exact key 0 (by omega) 
theorem c_X2_numberIn {z : pv_Z} {E : pv_E} {d bc bs : Nat} {J : pv_JT} {I : pv_IT} {mi : pv_MI} {pc idx : Nat} {lv : pv_LV} {st : List Value} {q : Nat} {L : List pv_Lot} {s : Nat} (hd : decode mi.2.1 pc = .ok (.invokevirtual idx, 3)) (hlk : Cond.methodLink mi.1.cls idx mX2_numberIn.1 ∈ pv_W) (hD : 1+1 ≤ d) (hq : pv_lots q) (hl : lt_c I q L) (hs : s < 2147483648) (hcat : (st.map fun v => v.category).sum ≤ 8) (K : pv_X z E d bc bs mi (pc + 3) lv ((.int (nI (ps_nin L s))) :: st) pv_K0 pv_P0 (I) (J)) : pv_X z E d bc bs mi pc lv (.int (nI (s)) :: .ref (q) :: st) pv_K0 pv_P0 I J := by
  obtain ⟨d, rfl⟩ : ∃ d0, d = d0 + 1 := ⟨d - 1, by omega⟩
  have key := px_callV (bc := bc) (bs := bs) (bc1 := 0) (bs1 := 0) (as := [.int (nI (s))]) (E := E) (z := z) (lv := lv) hd mvX2_numberIn hlk hq.1 (by decide) rfl hq.2.1 rfl rfl hcat (by exact Nat.le_of_ble_eq_true rfl) (s_X2_numberIn (by omega) hq hl hs K)
  rw [Nat.zero_add, Nat.zero_add] at key
  exact key
set_option maxRecDepth 100000 in
set_option maxHeartbeats 4000000 in
theorem s_X2_numberOf {Q : pv_Q} {E : pv_E} {d bc bs : Nat} {J : pv_JT} {I : pv_IT} {q : Nat} {L : List pv_Lot} {s : Nat} (hD : 1 ≤ d) (hq : pv_lots q) (hl : lt_c I q L) (hs : s < 2147483648) (h : Q (.inl (some (.int (nI (ps_nof L s))))) pv_K0 pv_P0 (I) (J)) : pv_X (pv_ZQ E Q) E d bc bs mX2_numberOf 0 [(0, .ref (q)), (1, .int (nI (s)))] [] pv_K0 pv_P0 I J := by
  have hL := hl.2.1.1
  have key : ∀ i : Nat, i ≤ L.length → pv_X (pv_ZQ E Q) E d bc bs mX2_numberOf 4 [(0, .ref q), (1, .int (nI s)), (2, .int (nI (pn_sum (fun l => if (pl_g L l).1 = s then 1 else 0) i))), (3, .int (nI (i)))] [] pv_K0 pv_P0 (I) (J) := by
    refine pv_up L.length ?_ ?_
    · refine px_iload_n dX2_numberOf_4 rfl ?_
      refine px_aload_n dX2_numberOf_5 rfl ?_
      refine px_getI dX2_numberOf_6 flX2_29 hq.1 (by decide) (by decide) rfl hq.2.1 ?_
      refine px_iv (y := nI (L.length)) (hl.1) ?_
      refine px_icmp_geN (tgt := 38) dX2_numberOf_9 (by decide) (by omega) (by omega) (fun _ => ?_) (fun h0 => absurd h0 (by omega))
      refine px_iload_n dX2_numberOf_38 rfl ?_
      exact px_iret dX2_numberOf_39 rfl (Or.inl rfl) (h)
    · intro i hi K 
      have hb := hl.2.1.2 i hi
      unfold lb at hb
      refine px_iload_n dX2_numberOf_4 rfl ?_
      refine px_aload_n dX2_numberOf_5 rfl ?_
      refine px_getI dX2_numberOf_6 flX2_29 hq.1 (by decide) (by decide) rfl hq.2.1 ?_
      refine px_iv (y := nI (L.length)) (hl.1) ?_
      refine px_icmp_geN (tgt := 38) dX2_numberOf_9 (by decide) (by omega) (by omega) (fun h0 => absurd h0 (by omega)) (fun _ => ?_)
      refine px_iload_n dX2_numberOf_12 rfl ?_
      refine px_aload_n dX2_numberOf_13 rfl ?_
      refine px_getR dX2_numberOf_14 flX2_14 hq.1 (by decide) (by decide) rfl hq.2.1 hq.2.2.1.1 ?_
      refine px_iload_n dX2_numberOf_17 rfl ?_
      refine c_X6_at dX2_numberOf_18 mlX2_40 (by omega) (j := i) hq.2.2.1.2 (by omega) (Nat.le_of_ble_eq_true rfl) ?_
      refine px_iv (y := nI ((pl_g L (i)).1)) ((hl.2.2 (i) (by omega)).1) ?_
      refine px_iload_n dX2_numberOf_21 rfl ?_
      refine px_icmp_neN (tgt := 29) dX2_numberOf_22 (by decide) (by omega) (by omega) (fun h0 => ?_) (fun h0 => ?_)
      · refine px_iconst (v := nI 0) dX2_numberOf_29 (by decide) ?_
        refine px_iaddN dX2_numberOf_30 ?_
        refine px_istore_n dX2_numberOf_31 (by decide) ?_
        refine px_iincN (c := 1) (by decide) dX2_numberOf_32 rfl (by decide) ?_
        refine px_goto (tgt := 4) dX2_numberOf_35 (by decide) ?_
        refine px_keep [0, 1, 2, 3] ?_
        unfold pn_sum at K; rw [if_neg h0] at K; exact K
      · refine px_iconst (v := nI 1) dX2_numberOf_25 (by decide) ?_
        refine px_goto (tgt := 30) dX2_numberOf_26 (by decide) ?_
        refine px_iaddN dX2_numberOf_30 ?_
        refine px_istore_n dX2_numberOf_31 (by decide) ?_
        refine px_iincN (c := 1) (by decide) dX2_numberOf_32 rfl (by decide) ?_
        refine px_goto (tgt := 4) dX2_numberOf_35 (by decide) ?_
        refine px_keep [0, 1, 2, 3] ?_
        unfold pn_sum at K; rw [if_pos h0] at K; exact K
  refine px_iconst (v := nI 0) dX2_numberOf_0 (by decide) ?_
  refine px_istore_n dX2_numberOf_1 (by decide) ?_
  refine px_iconst (v := nI 0) dX2_numberOf_2 (by decide) ?_
  refine px_istore_n dX2_numberOf_3 (by decide) ?_
  exact key 0 (by omega) 
theorem c_X2_numberOf {z : pv_Z} {E : pv_E} {d bc bs : Nat} {J : pv_JT} {I : pv_IT} {mi : pv_MI} {pc idx : Nat} {lv : pv_LV} {st : List Value} {q : Nat} {L : List pv_Lot} {s : Nat} (hd : decode mi.2.1 pc = .ok (.invokevirtual idx, 3)) (hlk : Cond.methodLink mi.1.cls idx mX2_numberOf.1 ∈ pv_W) (hD : 1+1 ≤ d) (hq : pv_lots q) (hl : lt_c I q L) (hs : s < 2147483648) (hcat : (st.map fun v => v.category).sum ≤ 8) (K : pv_X z E d bc bs mi (pc + 3) lv ((.int (nI (ps_nof L s))) :: st) pv_K0 pv_P0 (I) (J)) : pv_X z E d bc bs mi pc lv (.int (nI (s)) :: .ref (q) :: st) pv_K0 pv_P0 I J := by
  obtain ⟨d, rfl⟩ : ∃ d0, d = d0 + 1 := ⟨d - 1, by omega⟩
  have key := px_callV (bc := bc) (bs := bs) (bc1 := 0) (bs1 := 0) (as := [.int (nI (s))]) (E := E) (z := z) (lv := lv) hd mvX2_numberOf hlk hq.1 (by decide) rfl hq.2.1 rfl rfl hcat (by exact Nat.le_of_ble_eq_true rfl) (s_X2_numberOf (by omega) hq hl hs K)
  rw [Nat.zero_add, Nat.zero_add] at key
  exact key
theorem lN_add2 (a b : Nat) : lN (a + b) = lN a + lN b := by unfold lN; exact Int64.ofNat_add a b
theorem lN_mul2 (a b : Nat) : lN a * lN b = lN (a * b) := by unfold lN; exact (Int64.ofNat_mul a b).symm
set_option maxRecDepth 100000 in
set_option maxHeartbeats 4000000 in
theorem s_X2_ageSum {Q : pv_Q} {E : pv_E} {d bc bs : Nat} {J : pv_JT} {I : pv_IT} {q : Nat} {L : List pv_Lot} (hD : 1 ≤ d) (hq : pv_lots q) (hl : lt_c I q L) (h : Q (.inl (some (.long (lN (ps_age L))))) pv_K0 pv_P0 (I) (J)) : pv_X (pv_ZQ E Q) E d bc bs mX2_ageSum 0 [(0, .ref (q))] [] pv_K0 pv_P0 I J := by
  have hL := hl.2.1.1
  have key : ∀ i : Nat, i ≤ L.length → pv_X (pv_ZQ E Q) E d bc bs mX2_ageSum 4 [(0, .ref q), (1, .long (lN (pn_sum (fun l => (pl_g L l).2.2.2 * (pl_g L l).2.2.1) (i)))), (3, .int (nI (i)))] [] pv_K0 pv_P0 (I) (J) := by
    refine pv_up L.length ?_ ?_
    · refine px_iload_n dX2_ageSum_4 rfl ?_
      refine px_aload_n dX2_ageSum_5 rfl ?_
      refine px_getI dX2_ageSum_6 flX2_29 hq.1 (by decide) (by decide) rfl hq.2.1 ?_
      refine px_iv (y := nI (L.length)) (hl.1) ?_
      refine px_icmp_geN (tgt := 40) dX2_ageSum_9 (by decide) (by omega) (by omega) (fun _ => ?_) (fun h0 => absurd h0 (by omega))
      refine px_lload_n dX2_ageSum_40 rfl ?_
      exact px_lret dX2_ageSum_41 rfl (Or.inl rfl) (h)
    · intro i hi K 
      have hb := hl.2.1.2 i hi
      unfold lb at hb
      refine px_iload_n dX2_ageSum_4 rfl ?_
      refine px_aload_n dX2_ageSum_5 rfl ?_
      refine px_getI dX2_ageSum_6 flX2_29 hq.1 (by decide) (by decide) rfl hq.2.1 ?_
      refine px_iv (y := nI (L.length)) (hl.1) ?_
      refine px_icmp_geN (tgt := 40) dX2_ageSum_9 (by decide) (by omega) (by omega) (fun h0 => absurd h0 (by omega)) (fun _ => ?_)
      refine px_lload_n dX2_ageSum_12 rfl ?_
      refine px_aload_n dX2_ageSum_13 rfl ?_
      refine px_getR dX2_ageSum_14 flX2_26 hq.1 (by decide) (by decide) rfl hq.2.1 hq.2.2.2.2.2.1 ?_
      refine px_iload_n dX2_ageSum_17 rfl ?_
      refine c_X6_at dX2_ageSum_18 mlX2_40 (by omega) (j := i) hq.2.2.2.2.2.2 (by omega) (Nat.le_of_ble_eq_true rfl) ?_
      refine px_iv (y := nI ((pl_g L (i)).2.2.2)) ((hl.2.2 (i) (by omega)).2.2.2) ?_
      refine px_i2l dX2_ageSum_21 ?_
      refine px_aload_n dX2_ageSum_22 rfl ?_
      refine px_getR dX2_ageSum_23 flX2_23 hq.1 (by decide) (by decide) rfl hq.2.1 hq.2.2.2.2.1.1 ?_
      refine px_iload_n dX2_ageSum_26 rfl ?_
      refine c_X6_at dX2_ageSum_27 mlX2_40 (by omega) (j := i) hq.2.2.2.2.1.2 (by omega) (Nat.le_of_ble_eq_true rfl) ?_
      refine px_iv (y := nI ((pl_g L (i)).2.2.1)) ((hl.2.2 (i) (by omega)).2.2.1) ?_
      refine px_i2l dX2_ageSum_30 ?_
      refine px_lmul dX2_ageSum_31 ?_
      refine px_ladd dX2_ageSum_32 ?_
      refine px_lstore_n dX2_ageSum_33 (by decide) ?_
      refine px_iincN (c := 1) (by decide) dX2_ageSum_34 rfl (by decide) ?_
      refine px_goto (tgt := 4) dX2_ageSum_37 (by decide) ?_
      refine px_keep [0, 1, 3] ?_
      have e1 : lN (pn_sum (fun l => (pl_g L l).2.2.2 * (pl_g L l).2.2.1) (i + 1)) = lN (pn_sum (fun l => (pl_g L l).2.2.2 * (pl_g L l).2.2.1) i) + (nI (pl_g L i).2.2.2).toInt64 * (nI (pl_g L i).2.2.1).toInt64 := by
        rw [nI_l (n := (pl_g L i).2.2.2) (by omega), nI_l (n := (pl_g L i).2.2.1) (by omega), lN_mul2, ← lN_add2]
        rfl
      rw [e1] at K
      exact K
  refine px_lconst dX2_ageSum_0 rfl ?_
  refine px_lstore_n dX2_ageSum_1 (by decide) ?_
  refine px_iconst (v := nI 0) dX2_ageSum_2 (by decide) ?_
  refine px_istore_n dX2_ageSum_3 (by decide) ?_
  exact key 0 (by omega) 
theorem c_X2_ageSum {z : pv_Z} {E : pv_E} {d bc bs : Nat} {J : pv_JT} {I : pv_IT} {mi : pv_MI} {pc idx : Nat} {lv : pv_LV} {st : List Value} {q : Nat} {L : List pv_Lot} (hd : decode mi.2.1 pc = .ok (.invokevirtual idx, 3)) (hlk : Cond.methodLink mi.1.cls idx mX2_ageSum.1 ∈ pv_W) (hD : 1+1 ≤ d) (hq : pv_lots q) (hl : lt_c I q L) (hcat : (st.map fun v => v.category).sum ≤ 8) (K : pv_X z E d bc bs mi (pc + 3) lv ((.long (lN (ps_age L))) :: st) pv_K0 pv_P0 (I) (J)) : pv_X z E d bc bs mi pc lv (.ref (q) :: st) pv_K0 pv_P0 I J := by
  obtain ⟨d, rfl⟩ : ∃ d0, d = d0 + 1 := ⟨d - 1, by omega⟩
  have key := px_callV (bc := bc) (bs := bs) (bc1 := 0) (bs1 := 0) (as := []) (E := E) (z := z) (lv := lv) hd mvX2_ageSum hlk hq.1 (by decide) rfl hq.2.1 rfl rfl hcat (by exact Nat.le_of_ble_eq_true rfl) (s_X2_ageSum (by omega) hq hl K)
  rw [Nat.zero_add, Nat.zero_add] at key
  exact key
set_option maxRecDepth 100000 in
set_option maxHeartbeats 4000000 in
theorem s_X2_addOne {Q : pv_Q} {E : pv_E} {d bc bs : Nat} {J : pv_JT} {I : pv_IT} {q : Nat} {L : List pv_Lot} {k s a g : Nat} (hD : 1 ≤ d) (hq : pv_lots q) (hl : lt_c I q L) (hL1 : L.length < 31) (hx : lb (k, s, a, g)) (h : ∀ I' : pv_IT, lt_c I' q (L ++ [(k, s, a, g)]) → (∀ k0 : Nat, k0 < q ∨ q + 9 ≤ k0 → I' k0 = I k0) → Q (.inl (some (.int (nI L.length)))) pv_K0 pv_P0 (I') (J)) : pv_X (pv_ZQ E Q) E d bc bs mX2_addOne 0 [(0, .ref (q)), (1, .int (nI (k))), (2, .int (nI (s))), (3, .int (nI (a))), (4, .int (nI (g)))] [] pv_K0 pv_P0 I J := by
  have hL := hl.2.1.1
  refine px_aload_n dX2_addOne_0 rfl ?_
  refine px_getR dX2_addOne_1 flX2_14 hq.1 (by decide) (by decide) rfl hq.2.1 hq.2.2.1.1 ?_
  refine px_aload_n dX2_addOne_4 rfl ?_
  refine px_getI dX2_addOne_5 flX2_29 hq.1 (by decide) (by decide) rfl hq.2.1 ?_
  refine px_iv (y := nI (L.length)) (hl.1) ?_
  refine px_iload_n dX2_addOne_8 rfl ?_
  refine c_X6_put dX2_addOne_9 mlX2_33 (by omega) (j := (L.length)) hq.2.2.1.2 (by omega) (Nat.le_of_ble_eq_true rfl) ?_
  refine px_aload_n dX2_addOne_12 rfl ?_
  refine px_getR dX2_addOne_13 flX2_20 hq.1 (by decide) (by decide) rfl hq.2.1 hq.2.2.2.1.1 ?_
  refine px_aload_n dX2_addOne_16 rfl ?_
  refine px_getI dX2_addOne_17 flX2_29 hq.1 (by decide) (by decide) rfl hq.2.1 ?_
  refine px_iv (y := nI (L.length)) (Eq.trans (by simp only [pv_uI_at]; repeat' (first | rfl | omega | split)) (hl.1)) ?_
  refine px_iload_n dX2_addOne_20 rfl ?_
  refine c_X6_put dX2_addOne_21 mlX2_33 (by omega) (j := (L.length)) hq.2.2.2.1.2 (by omega) (Nat.le_of_ble_eq_true rfl) ?_
  refine px_aload_n dX2_addOne_24 rfl ?_
  refine px_getR dX2_addOne_25 flX2_23 hq.1 (by decide) (by decide) rfl hq.2.1 hq.2.2.2.2.1.1 ?_
  refine px_aload_n dX2_addOne_28 rfl ?_
  refine px_getI dX2_addOne_29 flX2_29 hq.1 (by decide) (by decide) rfl hq.2.1 ?_
  refine px_iv (y := nI (L.length)) (Eq.trans (by simp only [pv_uI_at]; repeat' (first | rfl | omega | split)) (hl.1)) ?_
  refine px_iload_n dX2_addOne_32 rfl ?_
  refine c_X6_put dX2_addOne_33 mlX2_33 (by omega) (j := (L.length)) hq.2.2.2.2.1.2 (by omega) (Nat.le_of_ble_eq_true rfl) ?_
  refine px_aload_n dX2_addOne_36 rfl ?_
  refine px_getR dX2_addOne_37 flX2_26 hq.1 (by decide) (by decide) rfl hq.2.1 hq.2.2.2.2.2.1 ?_
  refine px_aload_n dX2_addOne_40 rfl ?_
  refine px_getI dX2_addOne_41 flX2_29 hq.1 (by decide) (by decide) rfl hq.2.1 ?_
  refine px_iv (y := nI (L.length)) (Eq.trans (by simp only [pv_uI_at]; repeat' (first | rfl | omega | split)) (hl.1)) ?_
  refine px_iload dX2_addOne_44 rfl ?_
  refine c_X6_put dX2_addOne_46 mlX2_33 (by omega) (j := (L.length)) hq.2.2.2.2.2.2 (by omega) (Nat.le_of_ble_eq_true rfl) ?_
  refine px_aload_n dX2_addOne_49 rfl ?_
  refine px_dup dX2_addOne_50 rfl ?_
  refine px_getI dX2_addOne_51 flX2_29 hq.1 (by decide) (by decide) rfl hq.2.1 ?_
  refine px_iv (y := nI (L.length)) (Eq.trans (by simp only [pv_uI_at]; repeat' (first | rfl | omega | split)) (hl.1)) ?_
  refine px_iconst (v := nI 1) dX2_addOne_54 (by decide) ?_
  refine px_iaddN dX2_addOne_55 ?_
  refine px_putI dX2_addOne_56 fwX2_29 hq.1 (by decide) (by decide) rfl hq.2.1 ?_
  refine px_aload_n dX2_addOne_59 rfl ?_
  refine px_getI dX2_addOne_60 flX2_29 hq.1 (by decide) (by decide) rfl hq.2.1 ?_
  refine px_iv (y := nI (L.length + 1)) (by simp [pv_uI_at]) ?_
  refine px_iconst (v := nI 1) dX2_addOne_63 (by decide) ?_
  refine px_isubN (by omega) dX2_addOne_64 ?_
  refine px_iret dX2_addOne_65 rfl (Or.inl rfl) ?_
  refine pq_i (h _ ⟨?_, lbs_push hl.2.1 hL1 hx, fun l hl2 => ?_⟩ (fun k hk => ?_)) ?_
  · simp only [pv_uI_at]
    simp
  · rw [pl_g_push]
    unfold lc
    simp only [pv_uI_at]
    simp at hl2
    by_cases e : l < L.length
    · have h3 := hl.2.2 l e
      unfold lc at h3
      have e2 : l ≠ L.length := by omega
      simp [e, e2]
      exact h3
    · have e2 : l = L.length := by omega
      subst e2
      simp
  · rw [pv_uI_ne (by omega), pv_uI_ne (by omega), pv_uI_ne (by omega), pv_uI_ne (by omega), pv_uI_ne (by omega)]
  · exact congrArg nI (by omega)
theorem c_X2_addOne {z : pv_Z} {E : pv_E} {d bc bs : Nat} {J : pv_JT} {I : pv_IT} {mi : pv_MI} {pc idx : Nat} {lv : pv_LV} {st : List Value} {q : Nat} {L : List pv_Lot} {k s a g : Nat} (hd : decode mi.2.1 pc = .ok (.invokevirtual idx, 3)) (hlk : Cond.methodLink mi.1.cls idx mX2_addOne.1 ∈ pv_W) (hD : 1+1 ≤ d) (hq : pv_lots q) (hl : lt_c I q L) (hL1 : L.length < 31) (hx : lb (k, s, a, g)) (hcat : (st.map fun v => v.category).sum ≤ 8) (K : ∀ I' : pv_IT, lt_c I' q (L ++ [(k, s, a, g)]) → (∀ k0 : Nat, k0 < q ∨ q + 9 ≤ k0 → I' k0 = I k0) → pv_X z E d bc bs mi (pc + 3) lv ((.int (nI L.length)) :: st) pv_K0 pv_P0 (I') (J)) : pv_X z E d bc bs mi pc lv (.int (nI (g)) :: .int (nI (a)) :: .int (nI (s)) :: .int (nI (k)) :: .ref (q) :: st) pv_K0 pv_P0 I J := by
  obtain ⟨d, rfl⟩ : ∃ d0, d = d0 + 1 := ⟨d - 1, by omega⟩
  have key := px_callV (bc := bc) (bs := bs) (bc1 := 0) (bs1 := 0) (as := [.int (nI (k)), .int (nI (s)), .int (nI (a)), .int (nI (g))]) (E := E) (z := z) (lv := lv) hd mvX2_addOne hlk hq.1 (by decide) rfl hq.2.1 rfl rfl hcat (by exact Nat.le_of_ble_eq_true rfl) (s_X2_addOne (by omega) hq hl hL1 hx K)
  rw [Nat.zero_add, Nat.zero_add] at key
  exact key
