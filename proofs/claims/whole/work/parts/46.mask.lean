/-! The reference: what is asked, forecasts, what is saved. -/
def MSV (I : pv_IT) (H : List pv_S) : Prop := I 365 3 = nI H.length ∧ H.length ≤ 6 ∧ ∀ j, j < H.length → MR (fun i => I 368 (413 * j + i)) (hg H j).1 (hg H j).2
def MB (I : pv_IT) (B : List Nat) : Prop := I 365 5 = nI B.length ∧ B.length ≤ 60 ∧ ∀ j, j < B.length → I 369 j = nI (bf B j)
def MA (I : pv_IT) (X : pv_XS) : Prop := MR (I 366) X.1.1 X.1.2 ∧ MSV I X.2.1 ∧ MB I X.2.2
theorem MSV_of {I I' : pv_IT} {H : List pv_S} (h : MSV I H) (h1 : I' 365 3 = I 365 3) (h2 : I' 368 = I 368) : MSV I' H := ⟨h1.trans h.1, h.2.1, fun j hj => by rw [h2]; exact h.2.2 j hj⟩
theorem MB_of {I I' : pv_IT} {B : List Nat} (h : MB I B) (h1 : I' 365 5 = I 365 5) (h2 : I' 369 = I 369) : MB I' B := ⟨h1.trans h.1, h.2.1, fun j hj => by rw [h2]; exact h.2.2 j hj⟩
set_option maxRecDepth 100000 in
set_option maxHeartbeats 4000000 in
theorem s_X10_placeOf {Q : pv_Q} {E : pv_E} {d bc bs : Nat} {J : pv_JT} {I : pv_IT} {T : pv_T} {L : List pv_Lot} {l : Nat} (hD : 3 ≤ d) (hM : MR (I 366) T L) (hb : tb T) (ho : lo_ok L) (h1 : l < L.length) (h : Q (.inl (some (.int (nI (pt_eatp T L l))))) pv_K0 pv_P0 (I) (J)) : pv_X (pv_ZQ E Q) E d bc bs mX10_placeOf 0 [(0, .ref (365)), (1, .int (nI (l)))] [] pv_K0 pv_P0 I J := by
  have h31 := hM.2.2.1.1
  have hol := ho l h1
  unfold lv_ok at hol
  have hlb := hM.2.2.1.2 l h1
  have hle := pt_left_le hb hlb
  unfold lb at hlb
  refine px_iconst (v := nI 0) dX10_placeOf_0 (by decide) ?_
  refine px_istore_n dX10_placeOf_1 (by decide) ?_
  refine px_aload_n dX10_placeOf_2 rfl ?_
  refine px_iload_n dX10_placeOf_3 rfl ?_
  refine c_X10_daysLeft dX10_placeOf_4 mlX10_109 (by omega) hM hb h1 (by omega) (Nat.le_of_ble_eq_true rfl) ?_
  have key : ∀ i : Nat, i ≤ L.length → pv_X (pv_ZQ E Q) E d bc bs mX10_placeOf 11 [(0, .ref 365), (1, .int (nI l)), (2, .int (nI (pn_sum (pt_place1 T L l) (i)))), (3, .int (nI (pt_left T (pl_g L l)))), (4, .int (nI (i)))] [] pv_K0 pv_P0 (I) (J) := by
    refine pv_up (L.length) ?_ ?_
    · refine px_iload dX10_placeOf_11 rfl ?_
      refine px_aload_n dX10_placeOf_13 rfl ?_
      refine px_getR dX10_placeOf_14 flX10_7 pv_s_model (by decide) (by decide) rfl pv_k_model pv_p_365_1 ?_
      refine px_sipush (v := nI 406) dX10_placeOf_17 (by decide) ?_
      refine px_iald (j := 406) dX10_placeOf_20 pv_a_z.1 rfl (by omega) pv_a_z.2.2 pv_a_z.2.1 ?_
      refine px_iv (y := nI (L.length)) (hM.2.1) ?_
      refine px_icmp_geN (tgt := 80) dX10_placeOf_21 (by decide) (by omega) (by omega) (fun _ => ?_) (fun h0 => absurd h0 (by omega))
      refine px_iload_n dX10_placeOf_80 rfl ?_
      exact px_iret dX10_placeOf_81 rfl (Or.inl rfl) (h)
    · intro i hi K 
      have hoi := ho i hi
      unfold lv_ok at hoi
      have hib := hM.2.2.1.2 i hi
      have hie := pt_left_le hb hib
      unfold lb at hib
      have h9 := pn_sum_le (f := pt_place1 T L l) (c := 1) (n := i) (fun j _ => by unfold pt_place1; split <;> (try split) <;> omega)
      refine px_iload dX10_placeOf_11 rfl ?_
      refine px_aload_n dX10_placeOf_13 rfl ?_
      refine px_getR dX10_placeOf_14 flX10_7 pv_s_model (by decide) (by decide) rfl pv_k_model pv_p_365_1 ?_
      refine px_sipush (v := nI 406) dX10_placeOf_17 (by decide) ?_
      refine px_iald (j := 406) dX10_placeOf_20 pv_a_z.1 rfl (by omega) pv_a_z.2.2 pv_a_z.2.1 ?_
      refine px_iv (y := nI (L.length)) (hM.2.1) ?_
      refine px_icmp_geN (tgt := 80) dX10_placeOf_21 (by decide) (by omega) (by omega) (fun h0 => absurd h0 (by omega)) (fun _ => ?_)
      refine px_aload_n dX10_placeOf_24 rfl ?_
      refine px_iload dX10_placeOf_25 rfl ?_
      refine px_iconst (v := nI 0) dX10_placeOf_27 (by decide) ?_
      refine c_X10_of dX10_placeOf_28 mlX10_53 (by omega) (by omega) (by omega) (Nat.le_of_ble_eq_true rfl) ?_
      refine px_iv (y := nI ((pl_g L (i)).1)) ((mr_l hM (by omega)).1) ?_
      refine px_aload_n dX10_placeOf_31 rfl ?_
      refine px_iload_n dX10_placeOf_32 rfl ?_
      refine px_iconst (v := nI 0) dX10_placeOf_33 (by decide) ?_
      refine c_X10_of dX10_placeOf_34 mlX10_53 (by omega) (by omega) (by omega) (Nat.le_of_ble_eq_true rfl) ?_
      refine px_iv (y := nI ((pl_g L (l)).1)) ((mr_l hM (by omega)).1) ?_
      refine px_icmp_neN (tgt := 74) dX10_placeOf_37 (by decide) (by omega) (by omega) (fun h0 => ?_) (fun h0 => ?_)
      · refine px_iincN (c := 1) (by decide) dX10_placeOf_74 rfl (by decide) ?_
        refine px_goto (tgt := 11) dX10_placeOf_77 (by decide) ?_
        refine px_keep [0, 1, 2, 3, 4] ?_
        have e : pn_sum (pt_place1 T L l) (i + 1) = pn_sum (pt_place1 T L l) i := by show pn_sum (pt_place1 T L l) i + pt_place1 T L l i = _; rw [show pt_place1 T L l i = 0 from if_neg h0]; rfl
        rw [e] at K
        exact K
      · refine px_aload_n dX10_placeOf_40 rfl ?_
        refine px_iload dX10_placeOf_41 rfl ?_
        refine c_X10_daysLeft dX10_placeOf_43 mlX10_109 (by omega) hM hb hi (by omega) (Nat.le_of_ble_eq_true rfl) ?_
        refine px_istore dX10_placeOf_46 (by decide) ?_
        refine px_iload_n dX10_placeOf_48 rfl ?_
        refine px_iload dX10_placeOf_49 rfl ?_
        refine px_iload_n dX10_placeOf_51 rfl ?_
        refine px_icmp_ltN (tgt := 67) dX10_placeOf_52 (by decide) (by omega) (by omega) (fun h5 => ?_) (fun h5 => ?_)
        · refine px_iconst (v := nI 1) dX10_placeOf_67 (by decide) ?_
          refine px_goto (tgt := 72) dX10_placeOf_68 (by decide) ?_
          refine px_iaddN dX10_placeOf_72 ?_
          refine px_istore_n dX10_placeOf_73 (by decide) ?_
          refine px_iincN (c := 1) (by decide) dX10_placeOf_74 rfl (by decide) ?_
          refine px_goto (tgt := 11) dX10_placeOf_77 (by decide) ?_
          refine px_keep [0, 1, 2, 3, 4] ?_
          have e : pn_sum (pt_place1 T L l) (i + 1) = pn_sum (pt_place1 T L l) i + 1 := by show pn_sum (pt_place1 T L l) i + pt_place1 T L l i = _; rw [show pt_place1 T L l i = 1 by unfold pt_place1; rw [if_pos h0, if_pos (by omega)]]
          rw [e] at K
          exact K
        · refine px_iload dX10_placeOf_55 rfl ?_
          refine px_iload_n dX10_placeOf_57 rfl ?_
          refine px_icmp_neN (tgt := 71) dX10_placeOf_58 (by decide) (by omega) (by omega) (fun h6 => ?_) (fun h6 => ?_)
          · refine px_iconst (v := nI 0) dX10_placeOf_71 (by decide) ?_
            refine px_iaddN dX10_placeOf_72 ?_
            refine px_istore_n dX10_placeOf_73 (by decide) ?_
            refine px_iincN (c := 1) (by decide) dX10_placeOf_74 rfl (by decide) ?_
            refine px_goto (tgt := 11) dX10_placeOf_77 (by decide) ?_
            refine px_keep [0, 1, 2, 3, 4] ?_
            have e : pn_sum (pt_place1 T L l) (i + 1) = pn_sum (pt_place1 T L l) i + 0 := by show pn_sum (pt_place1 T L l) i + pt_place1 T L l i = _; rw [show pt_place1 T L l i = 0 by unfold pt_place1; rw [if_pos h0, if_neg (by omega)]]
            rw [e] at K
            exact K
          · refine px_iload dX10_placeOf_61 rfl ?_
            refine px_iload_n dX10_placeOf_63 rfl ?_
            refine px_icmp_geN (tgt := 71) dX10_placeOf_64 (by decide) (by omega) (by omega) (fun h7 => ?_) (fun h7 => ?_)
            · refine px_iconst (v := nI 0) dX10_placeOf_71 (by decide) ?_
              refine px_iaddN dX10_placeOf_72 ?_
              refine px_istore_n dX10_placeOf_73 (by decide) ?_
              refine px_iincN (c := 1) (by decide) dX10_placeOf_74 rfl (by decide) ?_
              refine px_goto (tgt := 11) dX10_placeOf_77 (by decide) ?_
              refine px_keep [0, 1, 2, 3, 4] ?_
              have e : pn_sum (pt_place1 T L l) (i + 1) = pn_sum (pt_place1 T L l) i + 0 := by show pn_sum (pt_place1 T L l) i + pt_place1 T L l i = _; rw [show pt_place1 T L l i = 0 by unfold pt_place1; rw [if_pos h0, if_neg (by omega)]]
              rw [e] at K
              exact K
            · refine px_iconst (v := nI 1) dX10_placeOf_67 (by decide) ?_
              refine px_goto (tgt := 72) dX10_placeOf_68 (by decide) ?_
              refine px_iaddN dX10_placeOf_72 ?_
              refine px_istore_n dX10_placeOf_73 (by decide) ?_
              refine px_iincN (c := 1) (by decide) dX10_placeOf_74 rfl (by decide) ?_
              refine px_goto (tgt := 11) dX10_placeOf_77 (by decide) ?_
              refine px_keep [0, 1, 2, 3, 4] ?_
              have e : pn_sum (pt_place1 T L l) (i + 1) = pn_sum (pt_place1 T L l) i + 1 := by show pn_sum (pt_place1 T L l) i + pt_place1 T L l i = _; rw [show pt_place1 T L l i = 1 by unfold pt_place1; rw [if_pos h0, if_pos (by omega)]]
              rw [e] at K
              exact K
  refine px_istore_n dX10_placeOf_7 (by decide) ?_
  refine px_iconst (v := nI 0) dX10_placeOf_8 (by decide) ?_
  refine px_istore dX10_placeOf_9 (by decide) ?_
  exact key 0 (by omega)
theorem c_X10_placeOf {z : pv_Z} {E : pv_E} {d bc bs : Nat} {J : pv_JT} {I : pv_IT} {mi : pv_MI} {pc idx : Nat} {lv : pv_LV} {st : List Value} {T : pv_T} {L : List pv_Lot} {l : Nat} (hd : decode mi.2.1 pc = .ok (.invokevirtual idx, 3)) (hlk : Cond.methodLink mi.1.cls idx mX10_placeOf.1 ∈ pv_W) (hD : 3+1 ≤ d) (hM : MR (I 366) T L) (hb : tb T) (ho : lo_ok L) (h1 : l < L.length) (hcat : (st.map fun v => v.category).sum ≤ 8) (K : pv_X z E d bc bs mi (pc + 3) lv ((.int (nI (pt_eatp T L l))) :: st) pv_K0 pv_P0 (I) (J)) : pv_X z E d bc bs mi pc lv (.int (nI (l)) :: .ref (365) :: st) pv_K0 pv_P0 I J := by
  obtain ⟨d, rfl⟩ : ∃ d0, d = d0 + 1 := ⟨d - 1, by omega⟩
  have key := px_callV (bc := bc) (bs := bs) (bc1 := 0) (bs1 := 0) (as := [.int (nI (l))]) (E := E) (z := z) (lv := lv) hd mvX10_placeOf hlk pv_s_model (by decide) rfl pv_k_model rfl rfl hcat (by exact Nat.le_of_ble_eq_true rfl) (s_X10_placeOf (by omega) hM hb ho h1 K)
  rw [Nat.zero_add, Nat.zero_add] at key
  exact key
set_option maxRecDepth 100000 in
set_option maxHeartbeats 4000000 in
theorem s_X10_lotNow {Q : pv_Q} {E : pv_E} {d bc bs : Nat} {J : pv_JT} {I : pv_IT} {T : pv_T} {L : List pv_Lot} {l w : Nat} (hD : 4 ≤ d) (hM : MR (I 366) T L) (hb : tb T) (ho : lo_ok L) (h1 : l < L.length) (h2 : w ≤ 5) (h : Q (.inl (some (.int (nI (pt_lot (T, L) l w))))) pv_K0 pv_P0 (I) (J)) : pv_X (pv_ZQ E Q) E d bc bs mX10_lotNow 0 [(0, .ref (365)), (1, .int (nI (l))), (2, .int (nI (w)))] [] pv_K0 pv_P0 I J := by
  have h31 := hM.2.2.1.1
  have hol := ho l h1
  unfold lv_ok at hol
  refine px_iload_n dX10_lotNow_0 rfl ?_
  refine px_iconst (v := nI 4) dX10_lotNow_1 (by decide) ?_
  refine px_icmp_geN (tgt := 14) dX10_lotNow_2 (by decide) (by omega) (by omega) (fun h5 => ?_) (fun h5 => ?_)
  · refine px_iload_n dX10_lotNow_14 rfl ?_
    refine px_iconst (v := nI 4) dX10_lotNow_15 (by decide) ?_
    refine px_icmp_neN (tgt := 27) dX10_lotNow_16 (by decide) (by omega) (by omega) (fun h6 => ?_) (fun h6 => ?_)
    · refine px_aload_n dX10_lotNow_27 rfl ?_
      refine px_iload_n dX10_lotNow_28 rfl ?_
      refine c_X10_placeOf dX10_lotNow_29 mlX10_156 (by omega) hM hb ho h1 (Nat.le_of_ble_eq_true rfl) ?_
      rw [show w = 5 by omega] at h
      exact px_iret dX10_lotNow_32 rfl (Or.inl rfl) (h)
    · refine px_aload_n dX10_lotNow_19 rfl ?_
      refine px_iload_n dX10_lotNow_20 rfl ?_
      refine c_X10_daysLeft dX10_lotNow_21 mlX10_109 (by omega) hM hb h1 (by omega) (Nat.le_of_ble_eq_true rfl) ?_
      refine px_goto (tgt := 32) dX10_lotNow_24 (by decide) ?_
      rw [h6] at h
      exact px_iret dX10_lotNow_32 rfl (Or.inl rfl) (h)
  · have hml := mr_l hM h1
    refine px_aload_n dX10_lotNow_5 rfl ?_
    refine px_iload_n dX10_lotNow_6 rfl ?_
    refine px_iload_n dX10_lotNow_7 rfl ?_
    refine c_X10_of dX10_lotNow_8 mlX10_53 (by omega) (by omega) h5 (Nat.le_of_ble_eq_true rfl) ?_
    have e : I 366 (70 + 4 * l + w) = nI (pt_lot (T, L) l w) := by
      rcases (by omega : w = 0 ∨ w = 1 ∨ w = 2 ∨ w = 3) with e | e | e | e <;> subst e
      · exact hml.1
      · exact hml.2.1
      · exact hml.2.2.1
      · exact hml.2.2.2
    refine px_iv (y := nI (pt_lot (T, L) l w)) (e) ?_
    refine px_goto (tgt := 32) dX10_lotNow_11 (by decide) ?_
    exact px_iret dX10_lotNow_32 rfl (Or.inl rfl) (h)
theorem c_X10_lotNow {z : pv_Z} {E : pv_E} {d bc bs : Nat} {J : pv_JT} {I : pv_IT} {mi : pv_MI} {pc idx : Nat} {lv : pv_LV} {st : List Value} {T : pv_T} {L : List pv_Lot} {l w : Nat} (hd : decode mi.2.1 pc = .ok (.invokevirtual idx, 3)) (hlk : Cond.methodLink mi.1.cls idx mX10_lotNow.1 ∈ pv_W) (hD : 4+1 ≤ d) (hM : MR (I 366) T L) (hb : tb T) (ho : lo_ok L) (h1 : l < L.length) (h2 : w ≤ 5) (hcat : (st.map fun v => v.category).sum ≤ 8) (K : pv_X z E d bc bs mi (pc + 3) lv ((.int (nI (pt_lot (T, L) l w))) :: st) pv_K0 pv_P0 (I) (J)) : pv_X z E d bc bs mi pc lv (.int (nI (w)) :: .int (nI (l)) :: .ref (365) :: st) pv_K0 pv_P0 I J := by
  obtain ⟨d, rfl⟩ : ∃ d0, d = d0 + 1 := ⟨d - 1, by omega⟩
  have key := px_callV (bc := bc) (bs := bs) (bc1 := 0) (bs1 := 0) (as := [.int (nI (l)), .int (nI (w))]) (E := E) (z := z) (lv := lv) hd mvX10_lotNow hlk pv_s_model (by decide) rfl pv_k_model rfl rfl hcat (by exact Nat.le_of_ble_eq_true rfl) (s_X10_lotNow (by omega) hM hb ho h1 h2 K)
  rw [Nat.zero_add, Nat.zero_add] at key
  exact key
set_option maxRecDepth 100000 in
set_option maxHeartbeats 4000000 in
theorem s_X10_storeNow {Q : pv_Q} {E : pv_E} {d bc bs : Nat} {J : pv_JT} {I : pv_IT} {T : pv_T} {L : List pv_Lot} {s w : Nat} (hD : 2 ≤ d) (hM : MR (I 366) T L) (h1 : s < 3) (h2 : w ≤ 3) (h : Q (.inl (some (.int (nI (pt_store (T, L) s w))))) pv_K0 pv_P0 (I) (J)) : pv_X (pv_ZQ E Q) E d bc bs mX10_storeNow 0 [(0, .ref (365)), (1, .int (nI (s))), (2, .int (nI (w)))] [] pv_K0 pv_P0 I J := by
  have h31 := hM.2.2.1.1
  refine px_iload_n dX10_storeNow_0 rfl ?_
  rcases (by omega : w = 0 ∨ w = 1 ∨ w = 2 ∨ w = 3) with e | e | e | e
  · subst e
    refine px_tableIn (tgt := 28) dX10_storeNow_1 (by decide) (by decide) rfl (by decide) ?_
    refine px_aload_n dX10_storeNow_28 rfl ?_
    refine px_getR dX10_storeNow_29 flX10_7 pv_s_model (by decide) (by decide) rfl pv_k_model pv_p_365_1 ?_
    refine px_bipush (v := nI 64) dX10_storeNow_32 (by decide) ?_
    refine px_iload_n dX10_storeNow_34 rfl ?_
    refine px_iaddN dX10_storeNow_35 ?_
    refine px_iald (j := (64 + s)) dX10_storeNow_36 pv_a_z.1 rfl (by omega) pv_a_z.2.2 pv_a_z.2.1 ?_
    refine px_iv (y := nI (T ((64 + s)))) (hM.1 ((64 + s)) (by omega) (by omega) (by omega)) ?_
    exact px_iret dX10_storeNow_37 rfl (Or.inl rfl) (h)
  · subst e
    refine px_tableIn (tgt := 38) dX10_storeNow_1 (by decide) (by decide) rfl (by decide) ?_
    refine px_aload_n dX10_storeNow_38 rfl ?_
    refine px_iload_n dX10_storeNow_39 rfl ?_
    refine c_X10_inStore dX10_storeNow_40 mlX10_60 (by omega) hM (by omega) (Nat.le_of_ble_eq_true rfl) ?_
    exact px_iret dX10_storeNow_43 rfl (Or.inl rfl) (h)
  · subst e
    refine px_tableIn (tgt := 44) dX10_storeNow_1 (by decide) (by decide) rfl (by decide) ?_
    refine px_aload_n dX10_storeNow_44 rfl ?_
    refine px_iconst (v := nI 1) dX10_storeNow_45 (by decide) ?_
    refine px_iload_n dX10_storeNow_46 rfl ?_
    refine c_M_lotsWithS dX10_storeNow_47 mlX10_162 (by omega) hM (by omega) (Nat.le_of_ble_eq_true rfl) ?_
    exact px_iret dX10_storeNow_50 rfl (Or.inl rfl) (h)
  · subst e
    refine px_tableOut (tgt := 51) dX10_storeNow_1 (by decide) (by decide) ?_
    refine px_aload_n dX10_storeNow_51 rfl ?_
    refine px_getR dX10_storeNow_52 flX10_7 pv_s_model (by decide) (by decide) rfl pv_k_model pv_p_365_1 ?_
    refine px_bipush (v := nI 67) dX10_storeNow_55 (by decide) ?_
    refine px_iload_n dX10_storeNow_57 rfl ?_
    refine px_iaddN dX10_storeNow_58 ?_
    refine px_iald (j := (67 + s)) dX10_storeNow_59 pv_a_z.1 rfl (by omega) pv_a_z.2.2 pv_a_z.2.1 ?_
    refine px_iv (y := nI (T ((67 + s)))) (hM.1 ((67 + s)) (by omega) (by omega) (by omega)) ?_
    exact px_iret dX10_storeNow_60 rfl (Or.inl rfl) (h)
theorem c_X10_storeNow {z : pv_Z} {E : pv_E} {d bc bs : Nat} {J : pv_JT} {I : pv_IT} {mi : pv_MI} {pc idx : Nat} {lv : pv_LV} {st : List Value} {T : pv_T} {L : List pv_Lot} {s w : Nat} (hd : decode mi.2.1 pc = .ok (.invokevirtual idx, 3)) (hlk : Cond.methodLink mi.1.cls idx mX10_storeNow.1 ∈ pv_W) (hD : 2+1 ≤ d) (hM : MR (I 366) T L) (h1 : s < 3) (h2 : w ≤ 3) (hcat : (st.map fun v => v.category).sum ≤ 8) (K : pv_X z E d bc bs mi (pc + 3) lv ((.int (nI (pt_store (T, L) s w))) :: st) pv_K0 pv_P0 (I) (J)) : pv_X z E d bc bs mi pc lv (.int (nI (w)) :: .int (nI (s)) :: .ref (365) :: st) pv_K0 pv_P0 I J := by
  obtain ⟨d, rfl⟩ : ∃ d0, d = d0 + 1 := ⟨d - 1, by omega⟩
  have key := px_callV (bc := bc) (bs := bs) (bc1 := 0) (bs1 := 0) (as := [.int (nI (s)), .int (nI (w))]) (E := E) (z := z) (lv := lv) hd mvX10_storeNow hlk pv_s_model (by decide) rfl pv_k_model rfl rfl hcat (by exact Nat.le_of_ble_eq_true rfl) (s_X10_storeNow (by omega) hM h1 h2 K)
  rw [Nat.zero_add, Nat.zero_add] at key
  exact key
set_option maxRecDepth 100000 in
set_option maxHeartbeats 4000000 in
theorem s_X10_kindNow {Q : pv_Q} {E : pv_E} {d bc bs : Nat} {J : pv_JT} {I : pv_IT} {T : pv_T} {L : List pv_Lot} {k w : Nat} (hD : 2 ≤ d) (hM : MR (I 366) T L) (h1 : k < 8) (h2 : w ≤ 9) (h : Q (.inl (some (.int (nI (pt_kindv (T, L) k w))))) pv_K0 pv_P0 (I) (J)) : pv_X (pv_ZQ E Q) E d bc bs mX10_kindNow 0 [(0, .ref (365)), (1, .int (nI (k))), (2, .int (nI (w)))] [] pv_K0 pv_P0 I J := by
  have h31 := hM.2.2.1.1
  refine px_iload_n dX10_kindNow_0 rfl ?_
  rcases (by omega : w = 0 ∨ w = 1 ∨ w = 2 ∨ w = 3 ∨ w = 4 ∨ w = 5 ∨ w = 6 ∨ w = 7 ∨ w = 8 ∨ w = 9) with e | e | e | e | e | e | e | e | e | e
  · subst e
    refine px_tableIn (tgt := 56) dX10_kindNow_1 (by decide) (by decide) rfl (by decide) ?_
    refine px_aload_n dX10_kindNow_56 rfl ?_
    refine px_getR dX10_kindNow_57 flX10_7 pv_s_model (by decide) (by decide) rfl pv_k_model pv_p_365_1 ?_
    refine px_iconst (v := nI 3) dX10_kindNow_60 (by decide) ?_
    refine px_iload_n dX10_kindNow_61 rfl ?_
    refine px_imulN dX10_kindNow_62 ?_
    refine px_iload_n dX10_kindNow_63 rfl ?_
    refine px_iaddN dX10_kindNow_64 ?_
    refine px_iald (j := ((3 * k) + 0)) dX10_kindNow_65 pv_a_z.1 rfl (by omega) pv_a_z.2.2 pv_a_z.2.1 ?_
    refine px_iv (y := nI (T (k * 3 + 0))) ((hM.1 (((3 * k) + 0)) (by omega) (by omega) (by omega)).trans (congrArg nI (congrArg T (by omega)))) ?_
    exact px_iret dX10_kindNow_66 rfl (Or.inl rfl) (h)
  · subst e
    refine px_tableIn (tgt := 56) dX10_kindNow_1 (by decide) (by decide) rfl (by decide) ?_
    refine px_aload_n dX10_kindNow_56 rfl ?_
    refine px_getR dX10_kindNow_57 flX10_7 pv_s_model (by decide) (by decide) rfl pv_k_model pv_p_365_1 ?_
    refine px_iconst (v := nI 3) dX10_kindNow_60 (by decide) ?_
    refine px_iload_n dX10_kindNow_61 rfl ?_
    refine px_imulN dX10_kindNow_62 ?_
    refine px_iload_n dX10_kindNow_63 rfl ?_
    refine px_iaddN dX10_kindNow_64 ?_
    refine px_iald (j := ((3 * k) + 1)) dX10_kindNow_65 pv_a_z.1 rfl (by omega) pv_a_z.2.2 pv_a_z.2.1 ?_
    refine px_iv (y := nI (T (k * 3 + 1))) ((hM.1 (((3 * k) + 1)) (by omega) (by omega) (by omega)).trans (congrArg nI (congrArg T (by omega)))) ?_
    exact px_iret dX10_kindNow_66 rfl (Or.inl rfl) (h)
  · subst e
    refine px_tableIn (tgt := 56) dX10_kindNow_1 (by decide) (by decide) rfl (by decide) ?_
    refine px_aload_n dX10_kindNow_56 rfl ?_
    refine px_getR dX10_kindNow_57 flX10_7 pv_s_model (by decide) (by decide) rfl pv_k_model pv_p_365_1 ?_
    refine px_iconst (v := nI 3) dX10_kindNow_60 (by decide) ?_
    refine px_iload_n dX10_kindNow_61 rfl ?_
    refine px_imulN dX10_kindNow_62 ?_
    refine px_iload_n dX10_kindNow_63 rfl ?_
    refine px_iaddN dX10_kindNow_64 ?_
    refine px_iald (j := ((3 * k) + 2)) dX10_kindNow_65 pv_a_z.1 rfl (by omega) pv_a_z.2.2 pv_a_z.2.1 ?_
    refine px_iv (y := nI (T (k * 3 + 2))) ((hM.1 (((3 * k) + 2)) (by omega) (by omega) (by omega)).trans (congrArg nI (congrArg T (by omega)))) ?_
    exact px_iret dX10_kindNow_66 rfl (Or.inl rfl) (h)
  · subst e
    refine px_tableIn (tgt := 94) dX10_kindNow_1 (by decide) (by decide) rfl (by decide) ?_
    refine px_aload_n dX10_kindNow_94 rfl ?_
    refine px_getR dX10_kindNow_95 flX10_7 pv_s_model (by decide) (by decide) rfl pv_k_model pv_p_365_1 ?_
    refine px_bipush (v := nI 24) dX10_kindNow_98 (by decide) ?_
    refine px_iconst (v := nI 5) dX10_kindNow_100 (by decide) ?_
    refine px_iload_n dX10_kindNow_101 rfl ?_
    refine px_imulN dX10_kindNow_102 ?_
    refine px_iaddN dX10_kindNow_103 ?_
    refine px_iload_n dX10_kindNow_104 rfl ?_
    refine px_iaddN dX10_kindNow_105 ?_
    refine px_iconst (v := nI 3) dX10_kindNow_106 (by decide) ?_
    refine px_isubN (by omega) dX10_kindNow_107 ?_
    refine px_iald (j := (((24 + (5 * k)) + 3) - 3)) dX10_kindNow_108 pv_a_z.1 rfl (by omega) pv_a_z.2.2 pv_a_z.2.1 ?_
    refine px_iv (y := nI (T (24 + (3 - 3) + 5 * k))) ((hM.1 ((((24 + (5 * k)) + 3) - 3)) (by omega) (by omega) (by omega)).trans (congrArg nI (congrArg T (by omega)))) ?_
    exact px_iret dX10_kindNow_109 rfl (Or.inl rfl) (h)
  · subst e
    refine px_tableIn (tgt := 94) dX10_kindNow_1 (by decide) (by decide) rfl (by decide) ?_
    refine px_aload_n dX10_kindNow_94 rfl ?_
    refine px_getR dX10_kindNow_95 flX10_7 pv_s_model (by decide) (by decide) rfl pv_k_model pv_p_365_1 ?_
    refine px_bipush (v := nI 24) dX10_kindNow_98 (by decide) ?_
    refine px_iconst (v := nI 5) dX10_kindNow_100 (by decide) ?_
    refine px_iload_n dX10_kindNow_101 rfl ?_
    refine px_imulN dX10_kindNow_102 ?_
    refine px_iaddN dX10_kindNow_103 ?_
    refine px_iload_n dX10_kindNow_104 rfl ?_
    refine px_iaddN dX10_kindNow_105 ?_
    refine px_iconst (v := nI 3) dX10_kindNow_106 (by decide) ?_
    refine px_isubN (by omega) dX10_kindNow_107 ?_
    refine px_iald (j := (((24 + (5 * k)) + 4) - 3)) dX10_kindNow_108 pv_a_z.1 rfl (by omega) pv_a_z.2.2 pv_a_z.2.1 ?_
    refine px_iv (y := nI (T (24 + (4 - 3) + 5 * k))) ((hM.1 ((((24 + (5 * k)) + 4) - 3)) (by omega) (by omega) (by omega)).trans (congrArg nI (congrArg T (by omega)))) ?_
    exact px_iret dX10_kindNow_109 rfl (Or.inl rfl) (h)
  · subst e
    refine px_tableIn (tgt := 94) dX10_kindNow_1 (by decide) (by decide) rfl (by decide) ?_
    refine px_aload_n dX10_kindNow_94 rfl ?_
    refine px_getR dX10_kindNow_95 flX10_7 pv_s_model (by decide) (by decide) rfl pv_k_model pv_p_365_1 ?_
    refine px_bipush (v := nI 24) dX10_kindNow_98 (by decide) ?_
    refine px_iconst (v := nI 5) dX10_kindNow_100 (by decide) ?_
    refine px_iload_n dX10_kindNow_101 rfl ?_
    refine px_imulN dX10_kindNow_102 ?_
    refine px_iaddN dX10_kindNow_103 ?_
    refine px_iload_n dX10_kindNow_104 rfl ?_
    refine px_iaddN dX10_kindNow_105 ?_
    refine px_iconst (v := nI 3) dX10_kindNow_106 (by decide) ?_
    refine px_isubN (by omega) dX10_kindNow_107 ?_
    refine px_iald (j := (((24 + (5 * k)) + 5) - 3)) dX10_kindNow_108 pv_a_z.1 rfl (by omega) pv_a_z.2.2 pv_a_z.2.1 ?_
    refine px_iv (y := nI (T (24 + (5 - 3) + 5 * k))) ((hM.1 ((((24 + (5 * k)) + 5) - 3)) (by omega) (by omega) (by omega)).trans (congrArg nI (congrArg T (by omega)))) ?_
    exact px_iret dX10_kindNow_109 rfl (Or.inl rfl) (h)
  · subst e
    refine px_tableIn (tgt := 94) dX10_kindNow_1 (by decide) (by decide) rfl (by decide) ?_
    refine px_aload_n dX10_kindNow_94 rfl ?_
    refine px_getR dX10_kindNow_95 flX10_7 pv_s_model (by decide) (by decide) rfl pv_k_model pv_p_365_1 ?_
    refine px_bipush (v := nI 24) dX10_kindNow_98 (by decide) ?_
    refine px_iconst (v := nI 5) dX10_kindNow_100 (by decide) ?_
    refine px_iload_n dX10_kindNow_101 rfl ?_
    refine px_imulN dX10_kindNow_102 ?_
    refine px_iaddN dX10_kindNow_103 ?_
    refine px_iload_n dX10_kindNow_104 rfl ?_
    refine px_iaddN dX10_kindNow_105 ?_
    refine px_iconst (v := nI 3) dX10_kindNow_106 (by decide) ?_
    refine px_isubN (by omega) dX10_kindNow_107 ?_
    refine px_iald (j := (((24 + (5 * k)) + 6) - 3)) dX10_kindNow_108 pv_a_z.1 rfl (by omega) pv_a_z.2.2 pv_a_z.2.1 ?_
    refine px_iv (y := nI (T (24 + (6 - 3) + 5 * k))) ((hM.1 ((((24 + (5 * k)) + 6) - 3)) (by omega) (by omega) (by omega)).trans (congrArg nI (congrArg T (by omega)))) ?_
    exact px_iret dX10_kindNow_109 rfl (Or.inl rfl) (h)
  · subst e
    refine px_tableIn (tgt := 67) dX10_kindNow_1 (by decide) (by decide) rfl (by decide) ?_
    refine px_aload_n dX10_kindNow_67 rfl ?_
    refine px_iload_n dX10_kindNow_68 rfl ?_
    refine c_X10_inLots dX10_kindNow_69 mlX10_168 (by omega) hM (by omega) (Nat.le_of_ble_eq_true rfl) ?_
    exact px_iret dX10_kindNow_72 rfl (Or.inl rfl) (h)
  · subst e
    refine px_tableIn (tgt := 73) dX10_kindNow_1 (by decide) (by decide) rfl (by decide) ?_
    refine px_aload_n dX10_kindNow_73 rfl ?_
    refine px_getR dX10_kindNow_74 flX10_7 pv_s_model (by decide) (by decide) rfl pv_k_model pv_p_365_1 ?_
    refine px_bipush (v := nI 24) dX10_kindNow_77 (by decide) ?_
    refine px_iconst (v := nI 5) dX10_kindNow_79 (by decide) ?_
    refine px_iload_n dX10_kindNow_80 rfl ?_
    refine px_imulN dX10_kindNow_81 ?_
    refine px_iaddN dX10_kindNow_82 ?_
    refine px_iconst (v := nI 4) dX10_kindNow_83 (by decide) ?_
    refine px_iaddN dX10_kindNow_84 ?_
    refine px_iald (j := ((24 + (5 * k)) + 4)) dX10_kindNow_85 pv_a_z.1 rfl (by omega) pv_a_z.2.2 pv_a_z.2.1 ?_
    refine px_iv (y := nI (T (28 + 5 * k))) ((hM.1 (((24 + (5 * k)) + 4)) (by omega) (by omega) (by omega)).trans (congrArg nI (congrArg T (by omega)))) ?_
    exact px_iret dX10_kindNow_86 rfl (Or.inl rfl) (h)
  · subst e
    refine px_tableIn (tgt := 87) dX10_kindNow_1 (by decide) (by decide) rfl (by decide) ?_
    refine px_aload_n dX10_kindNow_87 rfl ?_
    refine px_iconst (v := nI 0) dX10_kindNow_88 (by decide) ?_
    refine px_iload_n dX10_kindNow_89 rfl ?_
    refine c_M_lotsWithK dX10_kindNow_90 mlX10_162 (by omega) hM (by omega) (Nat.le_of_ble_eq_true rfl) ?_
    exact px_iret dX10_kindNow_93 rfl (Or.inl rfl) (h)
theorem c_X10_kindNow {z : pv_Z} {E : pv_E} {d bc bs : Nat} {J : pv_JT} {I : pv_IT} {mi : pv_MI} {pc idx : Nat} {lv : pv_LV} {st : List Value} {T : pv_T} {L : List pv_Lot} {k w : Nat} (hd : decode mi.2.1 pc = .ok (.invokevirtual idx, 3)) (hlk : Cond.methodLink mi.1.cls idx mX10_kindNow.1 ∈ pv_W) (hD : 2+1 ≤ d) (hM : MR (I 366) T L) (h1 : k < 8) (h2 : w ≤ 9) (hcat : (st.map fun v => v.category).sum ≤ 8) (K : pv_X z E d bc bs mi (pc + 3) lv ((.int (nI (pt_kindv (T, L) k w))) :: st) pv_K0 pv_P0 (I) (J)) : pv_X z E d bc bs mi pc lv (.int (nI (w)) :: .int (nI (k)) :: .ref (365) :: st) pv_K0 pv_P0 I J := by
  obtain ⟨d, rfl⟩ : ∃ d0, d = d0 + 1 := ⟨d - 1, by omega⟩
  have key := px_callV (bc := bc) (bs := bs) (bc1 := 0) (bs1 := 0) (as := [.int (nI (k)), .int (nI (w))]) (E := E) (z := z) (lv := lv) hd mvX10_kindNow hlk pv_s_model (by decide) rfl pv_k_model rfl rfl hcat (by exact Nat.le_of_ble_eq_true rfl) (s_X10_kindNow (by omega) hM h1 h2 K)
  rw [Nat.zero_add, Nat.zero_add] at key
  exact key
set_option maxRecDepth 100000 in
set_option maxHeartbeats 4000000 in
theorem s_X10_menuNow {Q : pv_Q} {E : pv_E} {d bc bs : Nat} {J : pv_JT} {I : pv_IT} {T : pv_T} {L : List pv_Lot} {m i w : Nat} (hD : 0 ≤ d) (hM : MR (I 366) T L) (hb : tb T) (hm : m < T 408) (hi : i < 4) (hw : w ≤ 2) (h : Q (.inl (some (.int (nI (pt_menu (T, L) m i w))))) pv_K0 pv_P0 (I) (J)) : pv_X (pv_ZQ E Q) E d bc bs mX10_menuNow 0 [(0, .ref (365)), (1, .int (nI (m))), (2, .int (nI (i))), (3, .int (nI (w)))] [] pv_K0 pv_P0 I J := by
  have h10 := hb.2.2.2.2.2.2.2.1
  have hmm := hb.2.2.2.2.2.2.2.2 m hm
  have hl4 := hmm.1
  refine px_iload_n dX10_menuNow_0 rfl ?_
  refine px_aload_n dX10_menuNow_1 rfl ?_
  refine px_getR dX10_menuNow_2 flX10_7 pv_s_model (by decide) (by decide) rfl pv_k_model pv_p_365_1 ?_
  refine px_sipush (v := nI 314) dX10_menuNow_5 (by decide) ?_
  refine px_iload_n dX10_menuNow_8 rfl ?_
  refine px_iaddN dX10_menuNow_9 ?_
  refine px_iald (j := (314 + m)) dX10_menuNow_10 pv_a_z.1 rfl (by omega) pv_a_z.2.2 pv_a_z.2.1 ?_
  refine px_iv (y := nI (T ((314 + m)))) (hM.1 ((314 + m)) (by omega) (by omega) (by omega)) ?_
  refine px_icmp_geN (tgt := 36) dX10_menuNow_11 (by decide) (by omega) (by omega) (fun h5 => ?_) (fun h5 => ?_)
  · refine px_iconst (v := -1) dX10_menuNow_36 (by decide) ?_
    exact px_iret dX10_menuNow_37 rfl (Or.inl rfl) (pq_i h (by rw [show pt_menu (T, L) m i w = 4294967295 from if_neg (by show ¬ i < T (314 + m); omega)]; decide))
  · refine px_aload_n dX10_menuNow_14 rfl ?_
    refine px_getR dX10_menuNow_15 flX10_7 pv_s_model (by decide) (by decide) rfl pv_k_model pv_p_365_1 ?_
    refine px_sipush (v := nI 194) dX10_menuNow_18 (by decide) ?_
    refine px_bipush (v := nI 12) dX10_menuNow_21 (by decide) ?_
    refine px_iload_n dX10_menuNow_23 rfl ?_
    refine px_imulN dX10_menuNow_24 ?_
    refine px_iaddN dX10_menuNow_25 ?_
    refine px_iconst (v := nI 3) dX10_menuNow_26 (by decide) ?_
    refine px_iload_n dX10_menuNow_27 rfl ?_
    refine px_imulN dX10_menuNow_28 ?_
    refine px_iaddN dX10_menuNow_29 ?_
    refine px_iload_n dX10_menuNow_30 rfl ?_
    refine px_iaddN dX10_menuNow_31 ?_
    refine px_iald (j := (((194 + (12 * m)) + (3 * i)) + w)) dX10_menuNow_32 pv_a_z.1 rfl (by omega) pv_a_z.2.2 pv_a_z.2.1 ?_
    refine px_iv (y := nI (T ((((194 + (12 * m)) + (3 * i)) + w)))) (hM.1 ((((194 + (12 * m)) + (3 * i)) + w)) (by omega) (by omega) (by omega)) ?_
    refine px_goto (tgt := 37) dX10_menuNow_33 (by decide) ?_
    exact px_iret dX10_menuNow_37 rfl (Or.inl rfl) (pq_i h (congrArg nI (by rw [show pt_menu (T, L) m i w = T (194 + 12 * m + 3 * i + w) from if_pos h5])))
theorem c_X10_menuNow {z : pv_Z} {E : pv_E} {d bc bs : Nat} {J : pv_JT} {I : pv_IT} {mi : pv_MI} {pc idx : Nat} {lv : pv_LV} {st : List Value} {T : pv_T} {L : List pv_Lot} {m i w : Nat} (hd : decode mi.2.1 pc = .ok (.invokevirtual idx, 3)) (hlk : Cond.methodLink mi.1.cls idx mX10_menuNow.1 ∈ pv_W) (hD : 0+1 ≤ d) (hM : MR (I 366) T L) (hb : tb T) (hm : m < T 408) (hi : i < 4) (hw : w ≤ 2) (hcat : (st.map fun v => v.category).sum ≤ 8) (K : pv_X z E d bc bs mi (pc + 3) lv ((.int (nI (pt_menu (T, L) m i w))) :: st) pv_K0 pv_P0 (I) (J)) : pv_X z E d bc bs mi pc lv (.int (nI (w)) :: .int (nI (i)) :: .int (nI (m)) :: .ref (365) :: st) pv_K0 pv_P0 I J := by
  obtain ⟨d, rfl⟩ : ∃ d0, d = d0 + 1 := ⟨d - 1, by omega⟩
  have key := px_callV (bc := bc) (bs := bs) (bc1 := 0) (bs1 := 0) (as := [.int (nI (m)), .int (nI (i)), .int (nI (w))]) (E := E) (z := z) (lv := lv) hd mvX10_menuNow hlk pv_s_model (by decide) rfl pv_k_model rfl rfl hcat (by exact Nat.le_of_ble_eq_true rfl) (s_X10_menuNow (by omega) hM hb hm hi hw K)
  rw [Nat.zero_add, Nat.zero_add] at key
  exact key
set_option maxRecDepth 100000 in
set_option maxHeartbeats 4000000 in
theorem s_X10_counted {Q : pv_Q} {E : pv_E} {d bc bs : Nat} {J : pv_JT} {I : pv_IT} {T : pv_T} {L : List pv_Lot} {H : List pv_S} {B : List Nat} {w : Nat} (hD : 3 ≤ d) (hM : MR (I 366) T L) (hS : MSV I H) (hb : tb T) (h4 : T 404 < 2147483648) (h2 : w ≤ 12) (h : Q (.inl (some (.int (pt_count ((T, L), H, B) w)))) pv_K0 pv_P0 (I) (J)) : pv_X (pv_ZQ E Q) E d bc bs mX10_counted 0 [(0, .ref (365)), (1, .int (nI (w)))] [] pv_K0 pv_P0 I J := by
  have h31 := hM.2.2.1.1
  refine px_iload_n dX10_counted_0 rfl ?_
  rcases (by omega : w = 0 ∨ w = 1 ∨ w = 2 ∨ w = 3 ∨ w = 4 ∨ w = 5 ∨ w = 6 ∨ w = 7 ∨ w = 8 ∨ w = 9 ∨ w = 10 ∨ w = 11 ∨ w = 12) with e | e | e | e | e | e | e | e | e | e | e | e | e
  · subst e
    refine px_tableIn (tgt := 64) dX10_counted_1 (by decide) (by decide) rfl (by decide) ?_
    refine px_aload_n dX10_counted_64 rfl ?_
    refine px_getR dX10_counted_65 flX10_7 pv_s_model (by decide) (by decide) rfl pv_k_model pv_p_365_1 ?_
    refine px_sipush (v := nI 404) dX10_counted_68 (by decide) ?_
    refine px_iald (j := 404) dX10_counted_71 pv_a_z.1 rfl (by omega) pv_a_z.2.2 pv_a_z.2.1 ?_
    refine px_iv (y := nI (T (404))) (hM.1 (404) (by omega) (by omega) (by omega)) ?_
    exact px_iret dX10_counted_72 rfl (Or.inl rfl) (h)
  · subst e
    refine px_tableIn (tgt := 73) dX10_counted_1 (by decide) (by decide) rfl (by decide) ?_
    refine px_aload_n dX10_counted_73 rfl ?_
    refine px_getR dX10_counted_74 flX10_7 pv_s_model (by decide) (by decide) rfl pv_k_model pv_p_365_1 ?_
    refine px_sipush (v := nI 405) dX10_counted_77 (by decide) ?_
    refine px_iload_n dX10_counted_80 rfl ?_
    refine px_iaddN dX10_counted_81 ?_
    refine px_iconst (v := nI 1) dX10_counted_82 (by decide) ?_
    refine px_isubN (by omega) dX10_counted_83 ?_
    refine px_iald (j := 405) dX10_counted_84 pv_a_z.1 rfl (by omega) pv_a_z.2.2 pv_a_z.2.1 ?_
    refine px_iv (y := nI (T 405)) (hM.1 405 (by omega) (by omega) (by omega)) ?_
    exact px_iret dX10_counted_85 rfl (Or.inl rfl) (h)
  · subst e
    refine px_tableIn (tgt := 73) dX10_counted_1 (by decide) (by decide) rfl (by decide) ?_
    refine px_aload_n dX10_counted_73 rfl ?_
    refine px_getR dX10_counted_74 flX10_7 pv_s_model (by decide) (by decide) rfl pv_k_model pv_p_365_1 ?_
    refine px_sipush (v := nI 405) dX10_counted_77 (by decide) ?_
    refine px_iload_n dX10_counted_80 rfl ?_
    refine px_iaddN dX10_counted_81 ?_
    refine px_iconst (v := nI 1) dX10_counted_82 (by decide) ?_
    refine px_isubN (by omega) dX10_counted_83 ?_
    refine px_iald (j := 406) dX10_counted_84 pv_a_z.1 rfl (by omega) pv_a_z.2.2 pv_a_z.2.1 ?_
    refine px_iv (y := nI (L.length)) (hM.2.1) ?_
    exact px_iret dX10_counted_85 rfl (Or.inl rfl) (h)
  · subst e
    refine px_tableIn (tgt := 73) dX10_counted_1 (by decide) (by decide) rfl (by decide) ?_
    refine px_aload_n dX10_counted_73 rfl ?_
    refine px_getR dX10_counted_74 flX10_7 pv_s_model (by decide) (by decide) rfl pv_k_model pv_p_365_1 ?_
    refine px_sipush (v := nI 405) dX10_counted_77 (by decide) ?_
    refine px_iload_n dX10_counted_80 rfl ?_
    refine px_iaddN dX10_counted_81 ?_
    refine px_iconst (v := nI 1) dX10_counted_82 (by decide) ?_
    refine px_isubN (by omega) dX10_counted_83 ?_
    refine px_iald (j := 407) dX10_counted_84 pv_a_z.1 rfl (by omega) pv_a_z.2.2 pv_a_z.2.1 ?_
    refine px_iv (y := nI (T 407)) (hM.1 407 (by omega) (by omega) (by omega)) ?_
    exact px_iret dX10_counted_85 rfl (Or.inl rfl) (h)
  · subst e
    refine px_tableIn (tgt := 73) dX10_counted_1 (by decide) (by decide) rfl (by decide) ?_
    refine px_aload_n dX10_counted_73 rfl ?_
    refine px_getR dX10_counted_74 flX10_7 pv_s_model (by decide) (by decide) rfl pv_k_model pv_p_365_1 ?_
    refine px_sipush (v := nI 405) dX10_counted_77 (by decide) ?_
    refine px_iload_n dX10_counted_80 rfl ?_
    refine px_iaddN dX10_counted_81 ?_
    refine px_iconst (v := nI 1) dX10_counted_82 (by decide) ?_
    refine px_isubN (by omega) dX10_counted_83 ?_
    refine px_iald (j := 408) dX10_counted_84 pv_a_z.1 rfl (by omega) pv_a_z.2.2 pv_a_z.2.1 ?_
    refine px_iv (y := nI (T 408)) (hM.1 408 (by omega) (by omega) (by omega)) ?_
    exact px_iret dX10_counted_85 rfl (Or.inl rfl) (h)
  · subst e
    refine px_tableIn (tgt := 86) dX10_counted_1 (by decide) (by decide) rfl (by decide) ?_
    refine px_aload_n dX10_counted_86 rfl ?_
    refine px_getR dX10_counted_87 flX10_7 pv_s_model (by decide) (by decide) rfl pv_k_model pv_p_365_1 ?_
    refine px_sipush (v := nI 409) dX10_counted_90 (by decide) ?_
    refine px_iload_n dX10_counted_93 rfl ?_
    refine px_iaddN dX10_counted_94 ?_
    refine px_iconst (v := nI 5) dX10_counted_95 (by decide) ?_
    refine px_isubN (by omega) dX10_counted_96 ?_
    refine px_iald (j := 409) dX10_counted_97 pv_a_z.1 rfl (by omega) pv_a_z.2.2 pv_a_z.2.1 ?_
    refine px_iv (y := nI (T 409)) (hM.1 409 (by omega) (by omega) (by omega)) ?_
    exact px_iret dX10_counted_98 rfl (Or.inl rfl) (h)
  · subst e
    refine px_tableIn (tgt := 86) dX10_counted_1 (by decide) (by decide) rfl (by decide) ?_
    refine px_aload_n dX10_counted_86 rfl ?_
    refine px_getR dX10_counted_87 flX10_7 pv_s_model (by decide) (by decide) rfl pv_k_model pv_p_365_1 ?_
    refine px_sipush (v := nI 409) dX10_counted_90 (by decide) ?_
    refine px_iload_n dX10_counted_93 rfl ?_
    refine px_iaddN dX10_counted_94 ?_
    refine px_iconst (v := nI 5) dX10_counted_95 (by decide) ?_
    refine px_isubN (by omega) dX10_counted_96 ?_
    refine px_iald (j := 410) dX10_counted_97 pv_a_z.1 rfl (by omega) pv_a_z.2.2 pv_a_z.2.1 ?_
    refine px_iv (y := nI (T 410)) (hM.1 410 (by omega) (by omega) (by omega)) ?_
    exact px_iret dX10_counted_98 rfl (Or.inl rfl) (h)
  · subst e
    refine px_tableIn (tgt := 86) dX10_counted_1 (by decide) (by decide) rfl (by decide) ?_
    refine px_aload_n dX10_counted_86 rfl ?_
    refine px_getR dX10_counted_87 flX10_7 pv_s_model (by decide) (by decide) rfl pv_k_model pv_p_365_1 ?_
    refine px_sipush (v := nI 409) dX10_counted_90 (by decide) ?_
    refine px_iload_n dX10_counted_93 rfl ?_
    refine px_iaddN dX10_counted_94 ?_
    refine px_iconst (v := nI 5) dX10_counted_95 (by decide) ?_
    refine px_isubN (by omega) dX10_counted_96 ?_
    refine px_iald (j := 411) dX10_counted_97 pv_a_z.1 rfl (by omega) pv_a_z.2.2 pv_a_z.2.1 ?_
    refine px_iv (y := nI (T 411)) (hM.1 411 (by omega) (by omega) (by omega)) ?_
    exact px_iret dX10_counted_98 rfl (Or.inl rfl) (h)
  · subst e
    refine px_tableIn (tgt := 86) dX10_counted_1 (by decide) (by decide) rfl (by decide) ?_
    refine px_aload_n dX10_counted_86 rfl ?_
    refine px_getR dX10_counted_87 flX10_7 pv_s_model (by decide) (by decide) rfl pv_k_model pv_p_365_1 ?_
    refine px_sipush (v := nI 409) dX10_counted_90 (by decide) ?_
    refine px_iload_n dX10_counted_93 rfl ?_
    refine px_iaddN dX10_counted_94 ?_
    refine px_iconst (v := nI 5) dX10_counted_95 (by decide) ?_
    refine px_isubN (by omega) dX10_counted_96 ?_
    refine px_iald (j := 412) dX10_counted_97 pv_a_z.1 rfl (by omega) pv_a_z.2.2 pv_a_z.2.1 ?_
    refine px_iv (y := nI (T 412)) (hM.1 412 (by omega) (by omega) (by omega)) ?_
    exact px_iret dX10_counted_98 rfl (Or.inl rfl) (h)
  · subst e
    refine px_tableIn (tgt := 99) dX10_counted_1 (by decide) (by decide) rfl (by decide) ?_
    refine px_aload_n dX10_counted_99 rfl ?_
    refine px_getI dX10_counted_100 flX10_39 pv_s_model (by decide) (by decide) rfl pv_k_model ?_
    refine px_iv (y := nI (H.length)) (hS.1) ?_
    exact px_iret dX10_counted_103 rfl (Or.inl rfl) (h)
  · subst e
    refine px_tableIn (tgt := 104) dX10_counted_1 (by decide) (by decide) rfl (by decide) ?_
    refine px_aload_n dX10_counted_104 rfl ?_
    refine px_aload_n dX10_counted_105 rfl ?_
    refine px_getR dX10_counted_106 flX10_7 pv_s_model (by decide) (by decide) rfl pv_k_model pv_p_365_1 ?_
    refine px_sipush (v := nI 404) dX10_counted_109 (by decide) ?_
    refine px_iald (j := 404) dX10_counted_112 pv_a_z.1 rfl (by omega) pv_a_z.2.2 pv_a_z.2.1 ?_
    refine px_iv (y := nI (T (404))) (hM.1 (404) (by omega) (by omega) (by omega)) ?_
    refine c_X10_portOf dX10_counted_113 mlX10_66 (by omega) hM hb.2.2.2.2.2.1 (by omega) (Nat.le_of_ble_eq_true rfl) ?_
    exact px_iret dX10_counted_116 rfl (Or.inl rfl) (h)
  · subst e
    refine px_tableIn (tgt := 117) dX10_counted_1 (by decide) (by decide) rfl (by decide) ?_
    refine px_aload_n dX10_counted_117 rfl ?_
    refine c_X10_nextPort dX10_counted_118 mlX10_177 (by omega) hM hb.2.2.2.2.2.1 (by omega) (Nat.le_of_ble_eq_true rfl) ?_
    exact px_iret dX10_counted_121 rfl (Or.inl rfl) (h)
  · subst e
    refine px_tableOut (tgt := 122) dX10_counted_1 (by decide) (by decide) ?_
    refine px_aload_n dX10_counted_122 rfl ?_
    refine c_X10_rations dX10_counted_123 mlX10_102 (by omega) hM (Nat.le_of_ble_eq_true rfl) ?_
    exact px_iret dX10_counted_126 rfl (Or.inl rfl) (h)
theorem c_X10_counted {z : pv_Z} {E : pv_E} {d bc bs : Nat} {J : pv_JT} {I : pv_IT} {mi : pv_MI} {pc idx : Nat} {lv : pv_LV} {st : List Value} {T : pv_T} {L : List pv_Lot} {H : List pv_S} {B : List Nat} {w : Nat} (hd : decode mi.2.1 pc = .ok (.invokevirtual idx, 3)) (hlk : Cond.methodLink mi.1.cls idx mX10_counted.1 ∈ pv_W) (hD : 3+1 ≤ d) (hM : MR (I 366) T L) (hS : MSV I H) (hb : tb T) (h4 : T 404 < 2147483648) (h2 : w ≤ 12) (hcat : (st.map fun v => v.category).sum ≤ 8) (K : pv_X z E d bc bs mi (pc + 3) lv ((.int (pt_count ((T, L), H, B) w)) :: st) pv_K0 pv_P0 (I) (J)) : pv_X z E d bc bs mi pc lv (.int (nI (w)) :: .ref (365) :: st) pv_K0 pv_P0 I J := by
  obtain ⟨d, rfl⟩ : ∃ d0, d = d0 + 1 := ⟨d - 1, by omega⟩
  have key := px_callV (bc := bc) (bs := bs) (bc1 := 0) (bs1 := 0) (as := [.int (nI (w))]) (E := E) (z := z) (lv := lv) hd mvX10_counted hlk pv_s_model (by decide) rfl pv_k_model rfl rfl hcat (by exact Nat.le_of_ble_eq_true rfl) (s_X10_counted (by omega) hM hS hb h4 h2 K)
  rw [Nat.zero_add, Nat.zero_add] at key
  exact key
set_option maxRecDepth 100000 in
set_option maxHeartbeats 4000000 in
theorem s_X10_bestNow {Q : pv_Q} {E : pv_E} {d bc bs : Nat} {J : pv_JT} {I : pv_IT} {T : pv_T} {L : List pv_Lot} {k : Nat} (hD : 1 ≤ d) (hM : MR (I 366) T L) (hb : tb T) (h1 : k < 8) (h : Q (.inl (some (.int (oI (pt_best T k))))) pv_K0 pv_P0 (I) (J)) : pv_X (pv_ZQ E Q) E d bc bs mX10_bestNow 0 [(0, .ref (365)), (1, .int (nI (k)))] [] pv_K0 pv_P0 I J := by
  have key : ∀ i : Nat, i ≤ 3 → pv_X (pv_ZQ E Q) E d bc bs mX10_bestNow 7 [(0, .ref 365), (1, .int (nI k)), (2, .int (oI (pt_bestN T k (i)).1)), (3, .int (nI (pt_bestN T k (i)).2)), (4, .int (nI (i)))] [] pv_K0 pv_P0 (I) (J) := by
    refine pv_up (3) ?_ ?_
    · refine px_iload dX10_bestNow_7 rfl ?_
      refine px_iconst (v := nI 3) dX10_bestNow_9 (by decide) ?_
      refine px_icmp_geN (tgt := 64) dX10_bestNow_10 (by decide) (by omega) (by omega) (fun _ => ?_) (fun h0 => absurd h0 (by omega))
      refine px_iload_n dX10_bestNow_64 rfl ?_
      exact px_iret dX10_bestNow_65 rfl (Or.inl rfl) (h)
    · intro i hi K 
      have hbl := pt_bestN_le hb (k := k) h1 i (by omega)
      have hnl := pt_now_le hb (k := k) (s := i) h1 hi
      have hwm := (hb.2.1 i hi).2
      refine px_iload dX10_bestNow_7 rfl ?_
      refine px_iconst (v := nI 3) dX10_bestNow_9 (by decide) ?_
      refine px_icmp_geN (tgt := 64) dX10_bestNow_10 (by decide) (by omega) (by omega) (fun h0 => absurd h0 (by omega)) (fun _ => ?_)
      refine px_aload_n dX10_bestNow_13 rfl ?_
      refine px_iload_n dX10_bestNow_14 rfl ?_
      refine px_iload dX10_bestNow_15 rfl ?_
      refine px_aload_n dX10_bestNow_17 rfl ?_
      refine px_getR dX10_bestNow_18 flX10_7 pv_s_model (by decide) (by decide) rfl pv_k_model pv_p_365_1 ?_
      refine px_bipush (v := nI 67) dX10_bestNow_21 (by decide) ?_
      refine px_iload dX10_bestNow_23 rfl ?_
      refine px_iaddN dX10_bestNow_25 ?_
      refine px_iald (j := (67 + i)) dX10_bestNow_26 pv_a_z.1 rfl (by omega) pv_a_z.2.2 pv_a_z.2.1 ?_
      refine px_iv (y := nI (T ((67 + i)))) (hM.1 ((67 + i)) (by omega) (by omega) (by omega)) ?_
      refine c_X10_lifeIn dX10_bestNow_27 mlX10_75 (by omega) hM h1 hi (by omega) (Nat.le_of_ble_eq_true rfl) ?_
      rw [pm_now]
      refine px_istore dX10_bestNow_30 (by decide) ?_
      refine px_iload dX10_bestNow_32 rfl ?_
      refine px_iload_n dX10_bestNow_34 rfl ?_
      refine px_icmp_leN (tgt := 43) dX10_bestNow_35 (by decide) (by omega) (by omega) (fun h5 => ?_) (fun h5 => ?_)
      · refine px_iload_n dX10_bestNow_43 rfl ?_
        refine px_istore_n dX10_bestNow_44 (by decide) ?_
        refine px_iload dX10_bestNow_45 rfl ?_
        refine px_iload_n dX10_bestNow_47 rfl ?_
        refine px_icmp_leN (tgt := 56) dX10_bestNow_48 (by decide) (by omega) (by omega) (fun _ => ?_) (fun h0 => absurd h0 (by omega))
        refine px_iload_n dX10_bestNow_56 rfl ?_
        refine px_istore_n dX10_bestNow_57 (by decide) ?_
        refine px_iincN (c := 1) (by decide) dX10_bestNow_58 rfl (by decide) ?_
        refine px_goto (tgt := 7) dX10_bestNow_61 (by decide) ?_
        refine px_keep [0, 1, 2, 3, 4] ?_
        rw [show pt_bestN T k (i + 1) = pt_bestN T k i from if_neg (by omega)] at K
        exact K
      · refine px_iload dX10_bestNow_38 rfl ?_
        refine px_goto (tgt := 44) dX10_bestNow_40 (by decide) ?_
        refine px_istore_n dX10_bestNow_44 (by decide) ?_
        refine px_iload dX10_bestNow_45 rfl ?_
        refine px_iload_n dX10_bestNow_47 rfl ?_
        refine px_icmp_leN (tgt := 56) dX10_bestNow_48 (by decide) (by omega) (by omega) (fun h0 => absurd h0 (by omega)) (fun _ => ?_)
        refine px_iload dX10_bestNow_51 rfl ?_
        refine px_goto (tgt := 57) dX10_bestNow_53 (by decide) ?_
        refine px_istore_n dX10_bestNow_57 (by decide) ?_
        refine px_iincN (c := 1) (by decide) dX10_bestNow_58 rfl (by decide) ?_
        refine px_goto (tgt := 7) dX10_bestNow_61 (by decide) ?_
        refine px_keep [0, 1, 2, 3, 4] ?_
        rw [show pt_bestN T k (i + 1) = (some i, pt_now T k i) from if_pos h5] at K
        exact K
  refine px_iconst (v := -1) dX10_bestNow_0 (by decide) ?_
  refine px_istore_n dX10_bestNow_1 (by decide) ?_
  refine px_iconst (v := nI 0) dX10_bestNow_2 (by decide) ?_
  refine px_istore_n dX10_bestNow_3 (by decide) ?_
  refine px_iconst (v := nI 0) dX10_bestNow_4 (by decide) ?_
  refine px_istore dX10_bestNow_5 (by decide) ?_
  exact key 0 (by omega) 
theorem c_X10_bestNow {z : pv_Z} {E : pv_E} {d bc bs : Nat} {J : pv_JT} {I : pv_IT} {mi : pv_MI} {pc idx : Nat} {lv : pv_LV} {st : List Value} {T : pv_T} {L : List pv_Lot} {k : Nat} (hd : decode mi.2.1 pc = .ok (.invokevirtual idx, 3)) (hlk : Cond.methodLink mi.1.cls idx mX10_bestNow.1 ∈ pv_W) (hD : 1+1 ≤ d) (hM : MR (I 366) T L) (hb : tb T) (h1 : k < 8) (hcat : (st.map fun v => v.category).sum ≤ 8) (K : pv_X z E d bc bs mi (pc + 3) lv ((.int (oI (pt_best T k))) :: st) pv_K0 pv_P0 (I) (J)) : pv_X z E d bc bs mi pc lv (.int (nI (k)) :: .ref (365) :: st) pv_K0 pv_P0 I J := by
  obtain ⟨d, rfl⟩ : ∃ d0, d = d0 + 1 := ⟨d - 1, by omega⟩
  have key := px_callV (bc := bc) (bs := bs) (bc1 := 0) (bs1 := 0) (as := [.int (nI (k))]) (E := E) (z := z) (lv := lv) hd mvX10_bestNow hlk pv_s_model (by decide) rfl pv_k_model rfl rfl hcat (by exact Nat.le_of_ble_eq_true rfl) (s_X10_bestNow (by omega) hM hb h1 K)
  rw [Nat.zero_add, Nat.zero_add] at key
  exact key
set_option maxRecDepth 100000 in
set_option maxHeartbeats 4000000 in
theorem s_X10_firstShort {Q : pv_Q} {E : pv_E} {d bc bs : Nat} {J : pv_JT} {I : pv_IT} {T : pv_T} {L : List pv_Lot} {k n : Nat} (hD : 5 ≤ d) (hM : MR (I 366) T L) (hdy : dy (T, L)) (hk8 : k < 8) (h4 : T 404 + n < 2147483648) (h5 : T (28 + 5 * k) + 3600 * n < 2147483648) (h : ∀ I' : pv_IT, (∀ i, i < 413 → I' 366 i = I 367 i) → (∀ k0 : Nat, k0 ≠ 366 → k0 ≠ 370 → I' k0 = I k0) → Q (.inl (some (.int (oI (pt_short (T, L) k n))))) pv_K0 pv_P0 (I') (J)) : pv_X (pv_ZQ E Q) E d bc bs mX10_firstShort 0 [(0, .ref (365)), (1, .int (nI (k))), (2, .int (nI (n)))] [] pv_K0 pv_P0 I J := by
  refine px_aload_n dX10_firstShort_0 rfl ?_
  refine px_getR dX10_firstShort_1 flX10_7 pv_s_model (by decide) (by decide) rfl pv_k_model pv_p_365_1 ?_
  refine px_bipush (v := nI 24) dX10_firstShort_4 (by decide) ?_
  refine px_iconst (v := nI 5) dX10_firstShort_6 (by decide) ?_
  refine px_iload_n dX10_firstShort_7 rfl ?_
  refine px_imulN dX10_firstShort_8 ?_
  refine px_iaddN dX10_firstShort_9 ?_
  refine px_iconst (v := nI 4) dX10_firstShort_10 (by decide) ?_
  refine px_iaddN dX10_firstShort_11 ?_
  refine px_iald (j := ((24 + (5 * k)) + 4)) dX10_firstShort_12 pv_a_z.1 rfl (by omega) pv_a_z.2.2 pv_a_z.2.1 ?_
  refine px_iv (y := nI (T (28 + 5 * k))) ((hM.1 (((24 + (5 * k)) + 4)) (by omega) (by omega) (by omega)).trans (congrArg nI (congrArg T (by omega)))) ?_
  have out : ∀ (o : Option Nat) (x : Nat) (I1 : pv_IT), o = pt_short (T, L) k n → (∀ k0 : Nat, k0 ≠ 366 → k0 ≠ 370 → I1 k0 = I k0) → pv_X (pv_ZQ E Q) E d bc bs mX10_firstShort 67 [(0, .ref 365), (1, .int (nI k)), (2, .int (nI n)), (3, .int (nI (T (28 + 5 * k)))), (4, .int (oI o)), (5, .int (nI x))] [] pv_K0 pv_P0 I1 J := by
    intro o x I1 ho hF1
    refine px_aload_n dX10_firstShort_67 rfl ?_
    refine px_getR dX10_firstShort_68 flX10_13 pv_s_model (by decide) (by decide) rfl pv_k_model pv_p_365_2 ?_
    refine px_iconst (v := nI 0) dX10_firstShort_71 (by decide) ?_
    refine px_aload_n dX10_firstShort_72 rfl ?_
    refine px_getR dX10_firstShort_73 flX10_7 pv_s_model (by decide) (by decide) rfl pv_k_model pv_p_365_1 ?_
    refine px_iconst (v := nI 0) dX10_firstShort_76 (by decide) ?_
    refine c_X10_copy dX10_firstShort_77 mlX10_42 (by omega) pv_a_aside pv_a_z (by omega) (by omega) (by omega) (Nat.le_of_ble_eq_true rfl) (fun I2 h2 hF2 => ?_)
    refine px_iload dX10_firstShort_80 rfl ?_
    have q1 : ∀ i, i < 413 → I2 366 i = I 367 i := fun i hi => by
      have e := h2 i hi
      rw [Nat.zero_add, hF1 367 (by omega) (by omega)] at e
      exact e
    have q2 : ∀ k0 : Nat, k0 ≠ 366 → k0 ≠ 370 → I2 k0 = I k0 := fun k0 a b => by
      rw [show I2 k0 = I1 k0 from funext fun j => hF2 k0 j (fun z => a z.1)]
      exact hF1 k0 a b
    exact px_iret dX10_firstShort_82 rfl (Or.inl rfl) (by rw [ho]; exact h I2 q1 q2)
  have key : ∀ i : Nat, i ≤ n → ∀ I1 : pv_IT, MR (I1 366) (pd_days (T, L) (i)).1 (pd_days (T, L) (i)).2 → (∀ k0 : Nat, k0 ≠ 366 → k0 ≠ 370 → I1 k0 = I k0) → (∀ j, j < i → (pd_days (T, L) (j + 1)).1 (28 + 5 * k) = T (28 + 5 * k)) → pv_X (pv_ZQ E Q) E d bc bs mX10_firstShort 20 [(0, .ref 365), (1, .int (nI k)), (2, .int (nI n)), (3, .int (nI (T (28 + 5 * k)))), (4, .int (-1)), (5, .int (nI (i)))] [] pv_K0 pv_P0 (I1) (J) := by
    refine pv_up (n) ?_ ?_
    · intro I1 hM1 hF1 hA
      refine px_iload dX10_firstShort_20 rfl ?_
      refine px_iload_n dX10_firstShort_22 rfl ?_
      refine px_icmp_geN (tgt := 67) dX10_firstShort_23 (by decide) (by omega) (by omega) (fun _ => ?_) (fun h0 => absurd h0 (by omega))
      exact out none n I1 (by unfold pt_short; exact (pf_none (fun j hj => by rw [pb_t (hA j hj)]; rfl)).symm) hF1
    · intro i hi K I1 hM1 hF1 hA
      have hok := pd_days_ok hdy i
      have h9 : (pd_days (T, L) i).1 404 = T 404 + i := hok.2.1
      have hok2 := (pd_days_ok hdy (i + 1)).2.2 k hk8
      have hok4 : T (28 + 5 * k) ≤ (pd_days (T, L) (i + 1)).1 (28 + 5 * k) := hok2.1
      have hok3 : (pd_days (T, L) (i + 1)).1 (28 + 5 * k) ≤ T (28 + 5 * k) + 3600 * (i + 1) := hok2.2
      refine px_iload dX10_firstShort_20 rfl ?_
      refine px_iload_n dX10_firstShort_22 rfl ?_
      refine px_icmp_geN (tgt := 67) dX10_firstShort_23 (by decide) (by omega) (by omega) (fun h0 => absurd h0 (by omega)) (fun _ => ?_)
      refine px_iload dX10_firstShort_26 rfl ?_
      refine px_iconst (v := -1) dX10_firstShort_28 (by decide) ?_
      refine px_icmp_ne (tgt := 67) dX10_firstShort_29 (by decide) (fun h0 => absurd rfl h0) (fun _ => ?_)
      refine px_aload_n dX10_firstShort_32 rfl ?_
      refine c_X10_passDay dX10_firstShort_33 mlX10_122 (by omega) hM1 hok.1 (by omega) (Nat.le_of_ble_eq_true rfl) (fun I2 hM2 hF2 => ?_)
      replace hM2 : MR (I2 366) (pd_days (T, L) (i + 1)).1 (pd_days (T, L) (i + 1)).2 := hM2
      refine px_aload_n dX10_firstShort_36 rfl ?_
      refine px_getR dX10_firstShort_37 flX10_7 pv_s_model (by decide) (by decide) rfl pv_k_model pv_p_365_1 ?_
      refine px_bipush (v := nI 24) dX10_firstShort_40 (by decide) ?_
      refine px_iconst (v := nI 5) dX10_firstShort_42 (by decide) ?_
      refine px_iload_n dX10_firstShort_43 rfl ?_
      refine px_imulN dX10_firstShort_44 ?_
      refine px_iaddN dX10_firstShort_45 ?_
      refine px_iconst (v := nI 4) dX10_firstShort_46 (by decide) ?_
      refine px_iaddN dX10_firstShort_47 ?_
      refine px_iald (j := ((24 + (5 * k)) + 4)) dX10_firstShort_48 pv_a_z.1 rfl (by omega) pv_a_z.2.2 pv_a_z.2.1 ?_
      refine px_iv (y := nI ((pd_days (T, L) (i + 1)).1 (28 + 5 * k))) ((hM2.1 (24 + 5 * k + 4) (by omega) (by omega) (by omega)).trans (congrArg nI (congrArg _ (by omega)))) ?_
      refine px_iload_n dX10_firstShort_49 rfl ?_
      refine px_icmp_leN (tgt := 58) dX10_firstShort_50 (by decide) (by omega) (by omega) (fun h6 => ?_) (fun h6 => ?_)
      · refine px_iconst (v := -1) dX10_firstShort_58 (by decide) ?_
        refine px_istore dX10_firstShort_59 (by decide) ?_
        refine px_iincN (c := 1) (by decide) dX10_firstShort_61 rfl (by decide) ?_
        refine px_goto (tgt := 20) dX10_firstShort_64 (by decide) ?_
        refine px_keep [0, 1, 2, 3, 4, 5] ?_
        refine K I2 hM2 (fun k0 a b => (hF2 k0 a b).trans (hF1 k0 a b)) (fun j hj => ?_)
        by_cases e : j = i
        · subst e; omega
        · exact hA j (by omega)
      · refine px_iload dX10_firstShort_53 rfl ?_
        refine px_goto (tgt := 59) dX10_firstShort_55 (by decide) ?_
        refine px_istore dX10_firstShort_59 (by decide) ?_
        refine px_iincN (c := 1) (by decide) dX10_firstShort_61 rfl (by decide) ?_
        refine px_goto (tgt := 20) dX10_firstShort_64 (by decide) ?_
        refine px_keep [0, 1, 2, 3, 4, 5] ?_
        have hs : some i = pt_short (T, L) k n := by
          unfold pt_short
          exact (pf_some hi (fun j hj => by rw [pb_t (hA j hj)]; rfl) (by rw [pb_f (show ¬ (pd_days (T, L) (i + 1)).1 (28 + 5 * k) = T (28 + 5 * k) by omega)]; rfl)).symm
        have hF12 : ∀ k0 : Nat, k0 ≠ 366 → k0 ≠ 370 → I2 k0 = I k0 := fun k0 a b => (hF2 k0 a b).trans (hF1 k0 a b)
        refine px_iload dX10_firstShort_20 rfl ?_
        refine px_iload_n dX10_firstShort_22 rfl ?_
        refine px_icmp_geN (tgt := 67) dX10_firstShort_23 (by decide) (by omega) (by omega) (fun h7 => ?_) (fun h7 => ?_)
        · exact out (some i) (i + 1) I2 hs hF12
        · refine px_iload dX10_firstShort_26 rfl ?_
          refine px_iconst (v := -1) dX10_firstShort_28 (by decide) ?_
          refine px_icmp_ne (tgt := 67) dX10_firstShort_29 (by decide) (fun _ => ?_) (fun h0 => absurd h0 (pn_m1 (by omega)))
          exact out (some i) (i + 1) I2 hs hF12
  refine px_istore_n dX10_firstShort_13 (by decide) ?_
  refine px_iconst (v := -1) dX10_firstShort_14 (by decide) ?_
  refine px_istore dX10_firstShort_15 (by decide) ?_
  refine px_iconst (v := nI 0) dX10_firstShort_17 (by decide) ?_
  refine px_istore dX10_firstShort_18 (by decide) ?_
  exact key 0 (by omega) I hM (fun _ _ _ => rfl) (fun j hj => absurd hj (Nat.not_lt_zero _))
theorem c_X10_firstShort {z : pv_Z} {E : pv_E} {d bc bs : Nat} {J : pv_JT} {I : pv_IT} {mi : pv_MI} {pc idx : Nat} {lv : pv_LV} {st : List Value} {T : pv_T} {L : List pv_Lot} {k n : Nat} (hd : decode mi.2.1 pc = .ok (.invokevirtual idx, 3)) (hlk : Cond.methodLink mi.1.cls idx mX10_firstShort.1 ∈ pv_W) (hD : 5+1 ≤ d) (hM : MR (I 366) T L) (hdy : dy (T, L)) (hk8 : k < 8) (h4 : T 404 + n < 2147483648) (h5 : T (28 + 5 * k) + 3600 * n < 2147483648) (hcat : (st.map fun v => v.category).sum ≤ 8) (K : ∀ I' : pv_IT, (∀ i, i < 413 → I' 366 i = I 367 i) → (∀ k0 : Nat, k0 ≠ 366 → k0 ≠ 370 → I' k0 = I k0) → pv_X z E d bc bs mi (pc + 3) lv ((.int (oI (pt_short (T, L) k n))) :: st) pv_K0 pv_P0 (I') (J)) : pv_X z E d bc bs mi pc lv (.int (nI (n)) :: .int (nI (k)) :: .ref (365) :: st) pv_K0 pv_P0 I J := by
  obtain ⟨d, rfl⟩ : ∃ d0, d = d0 + 1 := ⟨d - 1, by omega⟩
  have key := px_callV (bc := bc) (bs := bs) (bc1 := 0) (bs1 := 0) (as := [.int (nI (k)), .int (nI (n))]) (E := E) (z := z) (lv := lv) hd mvX10_firstShort hlk pv_s_model (by decide) rfl pv_k_model rfl rfl hcat (by exact Nat.le_of_ble_eq_true rfl) (s_X10_firstShort (by omega) hM hdy hk8 h4 h5 K)
  rw [Nat.zero_add, Nat.zero_add] at key
  exact key
set_option maxRecDepth 100000 in
set_option maxHeartbeats 4000000 in
theorem s_X10_shortNow {Q : pv_Q} {E : pv_E} {d bc bs : Nat} {J : pv_JT} {I : pv_IT} {T : pv_T} {L : List pv_Lot} {k : Nat} (hD : 6 ≤ d) (hM : MR (I 366) T L) (hdy : dy (T, L)) (hk8 : k < 8) (h4 : T 404 + 60 < 2147483648) (h5 : T (28 + 5 * k) + 3600 * 60 < 2147483648) (h : ∀ I' : pv_IT, (∀ i, i < 413 → I' 366 i = I 366 i) → (∀ k0 : Nat, k0 ≠ 366 → k0 ≠ 367 → k0 ≠ 370 → I' k0 = I k0) → Q (.inl (some (.int (oI (pt_short (T, L) k 60))))) pv_K0 pv_P0 (I') (J)) : pv_X (pv_ZQ E Q) E d bc bs mX10_shortNow 0 [(0, .ref (365)), (1, .int (nI (k)))] [] pv_K0 pv_P0 I J := by
  refine px_aload_n dX10_shortNow_0 rfl ?_
  refine px_getR dX10_shortNow_1 flX10_7 pv_s_model (by decide) (by decide) rfl pv_k_model pv_p_365_1 ?_
  refine px_iconst (v := nI 0) dX10_shortNow_4 (by decide) ?_
  refine px_aload_n dX10_shortNow_5 rfl ?_
  refine px_getR dX10_shortNow_6 flX10_13 pv_s_model (by decide) (by decide) rfl pv_k_model pv_p_365_2 ?_
  refine px_iconst (v := nI 0) dX10_shortNow_9 (by decide) ?_
  refine c_X10_copy dX10_shortNow_10 mlX10_42 (by omega) pv_a_z pv_a_aside (by omega) (by omega) (by omega) (Nat.le_of_ble_eq_true rfl) (fun I1 h1 hF1 => ?_)
  have hz : I1 366 = I 366 := funext fun j => hF1 366 j (by omega)
  have hM1 : MR (I1 366) T L := by rw [hz]; exact hM
  refine px_aload_n dX10_shortNow_13 rfl ?_
  refine px_iload_n dX10_shortNow_14 rfl ?_
  refine px_bipush (v := nI 60) dX10_shortNow_15 (by decide) ?_
  refine c_X10_firstShort dX10_shortNow_17 mlX10_189 (by omega) hM1 hdy hk8 h4 h5 (Nat.le_of_ble_eq_true rfl) (fun I2 h2 hF2 => ?_)
  exact px_iret dX10_shortNow_20 rfl (Or.inl rfl) (h I2 (fun i hi => by
      have e := h1 i hi
      rw [Nat.zero_add] at e
      exact (h2 i hi).trans e) (fun k0 a b c => (hF2 k0 a c).trans (funext fun j => hF1 k0 j (fun z => b z.1))))
theorem c_X10_shortNow {z : pv_Z} {E : pv_E} {d bc bs : Nat} {J : pv_JT} {I : pv_IT} {mi : pv_MI} {pc idx : Nat} {lv : pv_LV} {st : List Value} {T : pv_T} {L : List pv_Lot} {k : Nat} (hd : decode mi.2.1 pc = .ok (.invokevirtual idx, 3)) (hlk : Cond.methodLink mi.1.cls idx mX10_shortNow.1 ∈ pv_W) (hD : 6+1 ≤ d) (hM : MR (I 366) T L) (hdy : dy (T, L)) (hk8 : k < 8) (h4 : T 404 + 60 < 2147483648) (h5 : T (28 + 5 * k) + 3600 * 60 < 2147483648) (hcat : (st.map fun v => v.category).sum ≤ 8) (K : ∀ I' : pv_IT, (∀ i, i < 413 → I' 366 i = I 366 i) → (∀ k0 : Nat, k0 ≠ 366 → k0 ≠ 367 → k0 ≠ 370 → I' k0 = I k0) → pv_X z E d bc bs mi (pc + 3) lv ((.int (oI (pt_short (T, L) k 60))) :: st) pv_K0 pv_P0 (I') (J)) : pv_X z E d bc bs mi pc lv (.int (nI (k)) :: .ref (365) :: st) pv_K0 pv_P0 I J := by
  obtain ⟨d, rfl⟩ : ∃ d0, d = d0 + 1 := ⟨d - 1, by omega⟩
  have key := px_callV (bc := bc) (bs := bs) (bc1 := 0) (bs1 := 0) (as := [.int (nI (k))]) (E := E) (z := z) (lv := lv) hd mvX10_shortNow hlk pv_s_model (by decide) rfl pv_k_model rfl rfl hcat (by exact Nat.le_of_ble_eq_true rfl) (s_X10_shortNow (by omega) hM hdy hk8 h4 h5 K)
  rw [Nat.zero_add, Nat.zero_add] at key
  exact key
set_option maxRecDepth 100000 in
set_option maxHeartbeats 4000000 in
theorem s_X10_ahead {Q : pv_Q} {E : pv_E} {d bc bs : Nat} {J : pv_JT} {I : pv_IT} {T : pv_T} {L : List pv_Lot} {n w : Nat} (hD : 6 ≤ d) (hM : MR (I 366) T L) (hdy : dy (T, L)) (hk : wk (T, L)) (h4 : T 404 + n < 2147483648) (hw : w ≤ 4) (h : ∀ I' : pv_IT, (∀ i, i < 413 → I' 366 i = I 366 i) → (∀ k0 : Nat, k0 ≠ 366 → k0 ≠ 367 → k0 ≠ 370 → I' k0 = I k0) → Q (.inl (some (.int (pt_ahead (T, L) n w)))) pv_K0 pv_P0 (I') (J)) : pv_X (pv_ZQ E Q) E d bc bs mX10_ahead 0 [(0, .ref (365)), (1, .int (nI (n))), (2, .int (nI (w)))] [] pv_K0 pv_P0 I J := by
  have hn8 : T 405 ≤ 8 := hdy.1.2.2.1
  have hn8b : (pd_days (T, L) n).1 405 ≤ 8 := (pd_days_ok hdy n).1.1.2.2.1
  have hk2 := (wk_days hdy hk n).1
  have h5e : (pd_days (T, L) n).1 405 = T 405 := (wk_days hdy hk n).2 405 (by omega) (by omega) (by omega) (by omega)
  refine px_aload_n dX10_ahead_0 rfl ?_
  refine px_getR dX10_ahead_1 flX10_7 pv_s_model (by decide) (by decide) rfl pv_k_model pv_p_365_1 ?_
  refine px_iconst (v := nI 0) dX10_ahead_4 (by decide) ?_
  refine px_aload_n dX10_ahead_5 rfl ?_
  refine px_getR dX10_ahead_6 flX10_13 pv_s_model (by decide) (by decide) rfl pv_k_model pv_p_365_2 ?_
  refine px_iconst (v := nI 0) dX10_ahead_9 (by decide) ?_
  refine c_X10_copy dX10_ahead_10 mlX10_42 (by omega) pv_a_z pv_a_aside (by omega) (by omega) (by omega) (Nat.le_of_ble_eq_true rfl) (fun I1 h1 hF1 => ?_)
  have hz : I1 366 = I 366 := funext fun j => hF1 366 j (by omega)
  have hM1 : MR (I1 366) T L := by rw [hz]; exact hM
  refine px_aload_n dX10_ahead_13 rfl ?_
  refine px_iconst (v := nI 1) dX10_ahead_14 (by decide) ?_
  refine c_X10_all dX10_ahead_15 mlX10_125 (by omega) hM1 hn8 (by omega) (Nat.le_of_ble_eq_true rfl) ?_
  rw [← show pt_sum T 1 8 = pt_sum T 1 (T 405) from pt_sum_all (s := (T, L)) hk hn8 (by omega)]
  refine px_istore_n dX10_ahead_18 (by decide) ?_
  refine px_aload_n dX10_ahead_19 rfl ?_
  refine px_iconst (v := nI 2) dX10_ahead_20 (by decide) ?_
  refine c_X10_all dX10_ahead_21 mlX10_125 (by omega) hM1 hn8 (by omega) (Nat.le_of_ble_eq_true rfl) ?_
  rw [← show pt_sum T 2 8 = pt_sum T 2 (T 405) from pt_sum_all (s := (T, L)) hk hn8 (by omega)]
  refine px_istore dX10_ahead_24 (by decide) ?_
  refine px_aload_n dX10_ahead_26 rfl ?_
  refine px_iconst (v := nI 4) dX10_ahead_27 (by decide) ?_
  refine c_X10_all dX10_ahead_28 mlX10_125 (by omega) hM1 hn8 (by omega) (Nat.le_of_ble_eq_true rfl) ?_
  rw [← show pt_sum T 4 8 = pt_sum T 4 (T 405) from pt_sum_all (s := (T, L)) hk hn8 (by omega)]
  refine px_istore dX10_ahead_31 (by decide) ?_
  refine px_aload_n dX10_ahead_33 rfl ?_
  refine px_getR dX10_ahead_34 flX10_7 pv_s_model (by decide) (by decide) rfl pv_k_model pv_p_365_1 ?_
  refine px_sipush (v := nI 412) dX10_ahead_37 (by decide) ?_
  refine px_iald (j := 412) dX10_ahead_40 pv_a_z.1 rfl (by omega) pv_a_z.2.2 pv_a_z.2.1 ?_
  refine px_iv (y := nI (T (412))) (hM1.1 (412) (by omega) (by omega) (by omega)) ?_
  refine px_istore dX10_ahead_41 (by decide) ?_
  refine px_aload_n dX10_ahead_43 rfl ?_
  refine px_iload_n dX10_ahead_44 rfl ?_
  refine c_X10_passDays dX10_ahead_45 mlX10_128 (by omega) hM1 hdy h4 (Nat.le_of_ble_eq_true rfl) (fun I2 hM2 hF2 => ?_)
  have main : ∀ x : Int32, x = pt_ahead (T, L) n w → pv_X (pv_ZQ E Q) E d bc bs mX10_ahead 117 [(0, .ref 365), (1, .int (nI n)), (2, .int (nI w)), (3, .int (nI (pt_sum T 1 8))), (4, .int (nI (pt_sum T 2 8))), (5, .int (nI (pt_sum T 4 8))), (6, .int (nI (T 412)))] [.int x] pv_K0 pv_P0 I2 J := by
    intro x hx
    refine px_istore dX10_ahead_117 (by decide) ?_
    refine px_aload_n dX10_ahead_119 rfl ?_
    refine px_getR dX10_ahead_120 flX10_13 pv_s_model (by decide) (by decide) rfl pv_k_model pv_p_365_2 ?_
    refine px_iconst (v := nI 0) dX10_ahead_123 (by decide) ?_
    refine px_aload_n dX10_ahead_124 rfl ?_
    refine px_getR dX10_ahead_125 flX10_7 pv_s_model (by decide) (by decide) rfl pv_k_model pv_p_365_1 ?_
    refine px_iconst (v := nI 0) dX10_ahead_128 (by decide) ?_
    refine c_X10_copy dX10_ahead_129 mlX10_42 (by omega) pv_a_aside pv_a_z (by omega) (by omega) (by omega) (Nat.le_of_ble_eq_true rfl) (fun I3 h3 hF3 => ?_)
    refine px_iload dX10_ahead_132 rfl ?_
    have q1 : ∀ i, i < 413 → I3 366 i = I 366 i := fun i hi => by
      have e := h3 i hi
      have e1 := h1 i hi
      rw [Nat.zero_add] at e e1
      rw [hF2 367 (by omega) (by omega)] at e
      exact e.trans e1
    have q2 : ∀ k0 : Nat, k0 ≠ 366 → k0 ≠ 367 → k0 ≠ 370 → I3 k0 = I k0 := fun k0 a b c => by
      rw [show I3 k0 = I2 k0 from funext fun j => hF3 k0 j (fun z => a z.1), hF2 k0 a c]
      exact funext fun j => hF1 k0 j (fun z => b z.1)
    exact px_iret dX10_ahead_134 rfl (Or.inl rfl) (by rw [hx]; exact h I3 q1 q2)
  refine px_iload_n dX10_ahead_48 rfl ?_
  refine px_if_neN (tgt := 62) dX10_ahead_49 (by decide) (by omega) (fun e0 => ?_) (fun e0 => ?_)
  · refine px_iload_n dX10_ahead_62 rfl ?_
    refine px_iconst (v := nI 1) dX10_ahead_63 (by decide) ?_
    refine px_icmp_neN (tgt := 78) dX10_ahead_64 (by decide) (by omega) (by omega) (fun e1 => ?_) (fun e1 => ?_)
    · refine px_iload_n dX10_ahead_78 rfl ?_
      refine px_iconst (v := nI 2) dX10_ahead_79 (by decide) ?_
      refine px_icmp_neN (tgt := 94) dX10_ahead_80 (by decide) (by omega) (by omega) (fun e2 => ?_) (fun e2 => ?_)
      · refine px_iload_n dX10_ahead_94 rfl ?_
        refine px_iconst (v := nI 3) dX10_ahead_95 (by decide) ?_
        refine px_icmp_neN (tgt := 113) dX10_ahead_96 (by decide) (by omega) (by omega) (fun e3 => ?_) (fun e3 => ?_)
        · refine px_aload_n dX10_ahead_113 rfl ?_
          refine c_X10_rations dX10_ahead_114 mlX10_102 (by omega) hM2 (Nat.le_of_ble_eq_true rfl) ?_
          exact main _ (by rw [show w = 4 by omega]; rfl)
        · refine px_aload_n dX10_ahead_99 rfl ?_
          refine px_getR dX10_ahead_100 flX10_7 pv_s_model (by decide) (by decide) rfl pv_k_model pv_p_365_1 ?_
          refine px_sipush (v := nI 412) dX10_ahead_103 (by decide) ?_
          refine px_iald (j := 412) dX10_ahead_106 pv_a_z.1 rfl (by omega) pv_a_z.2.2 pv_a_z.2.1 ?_
          refine px_iv (y := nI ((pd_days (T, L) n).1 412)) (hM2.1 412 (by omega) (by omega) (by omega)) ?_
          refine px_iload dX10_ahead_107 rfl ?_
          refine px_isub dX10_ahead_109 ?_
          refine px_goto (tgt := 117) dX10_ahead_110 (by decide) ?_
          exact main _ (by subst e3; rfl)
      · refine px_aload_n dX10_ahead_83 rfl ?_
        refine px_iconst (v := nI 4) dX10_ahead_84 (by decide) ?_
        refine c_X10_all dX10_ahead_85 mlX10_125 (by omega) hM2 hn8b (by omega) (Nat.le_of_ble_eq_true rfl) ?_
        rw [← show pt_sum (pd_days (T, L) n).1 4 8 = pt_sum (pd_days (T, L) n).1 4 ((pd_days (T, L) n).1 405) from pt_sum_all hk2 hn8b (by omega)]
        refine px_iload dX10_ahead_88 rfl ?_
        refine px_isub dX10_ahead_90 ?_
        refine px_goto (tgt := 117) dX10_ahead_91 (by decide) ?_
        exact main _ (by subst e2; rfl)
    · refine px_aload_n dX10_ahead_67 rfl ?_
      refine px_iconst (v := nI 2) dX10_ahead_68 (by decide) ?_
      refine c_X10_all dX10_ahead_69 mlX10_125 (by omega) hM2 hn8b (by omega) (Nat.le_of_ble_eq_true rfl) ?_
      rw [← show pt_sum (pd_days (T, L) n).1 2 8 = pt_sum (pd_days (T, L) n).1 2 ((pd_days (T, L) n).1 405) from pt_sum_all hk2 hn8b (by omega)]
      refine px_iload dX10_ahead_72 rfl ?_
      refine px_isub dX10_ahead_74 ?_
      refine px_goto (tgt := 117) dX10_ahead_75 (by decide) ?_
      exact main _ (by subst e1; rfl)
  · refine px_aload_n dX10_ahead_52 rfl ?_
    refine px_iconst (v := nI 1) dX10_ahead_53 (by decide) ?_
    refine c_X10_all dX10_ahead_54 mlX10_125 (by omega) hM2 hn8b (by omega) (Nat.le_of_ble_eq_true rfl) ?_
    rw [← show pt_sum (pd_days (T, L) n).1 1 8 = pt_sum (pd_days (T, L) n).1 1 ((pd_days (T, L) n).1 405) from pt_sum_all hk2 hn8b (by omega)]
    refine px_iload_n dX10_ahead_57 rfl ?_
    refine px_isub dX10_ahead_58 ?_
    refine px_goto (tgt := 117) dX10_ahead_59 (by decide) ?_
    exact main _ (by subst e0; rfl)
theorem c_X10_ahead {z : pv_Z} {E : pv_E} {d bc bs : Nat} {J : pv_JT} {I : pv_IT} {mi : pv_MI} {pc idx : Nat} {lv : pv_LV} {st : List Value} {T : pv_T} {L : List pv_Lot} {n w : Nat} (hd : decode mi.2.1 pc = .ok (.invokevirtual idx, 3)) (hlk : Cond.methodLink mi.1.cls idx mX10_ahead.1 ∈ pv_W) (hD : 6+1 ≤ d) (hM : MR (I 366) T L) (hdy : dy (T, L)) (hk : wk (T, L)) (h4 : T 404 + n < 2147483648) (hw : w ≤ 4) (hcat : (st.map fun v => v.category).sum ≤ 8) (K : ∀ I' : pv_IT, (∀ i, i < 413 → I' 366 i = I 366 i) → (∀ k0 : Nat, k0 ≠ 366 → k0 ≠ 367 → k0 ≠ 370 → I' k0 = I k0) → pv_X z E d bc bs mi (pc + 3) lv ((.int (pt_ahead (T, L) n w)) :: st) pv_K0 pv_P0 (I') (J)) : pv_X z E d bc bs mi pc lv (.int (nI (w)) :: .int (nI (n)) :: .ref (365) :: st) pv_K0 pv_P0 I J := by
  obtain ⟨d, rfl⟩ : ∃ d0, d = d0 + 1 := ⟨d - 1, by omega⟩
  have key := px_callV (bc := bc) (bs := bs) (bc1 := 0) (bs1 := 0) (as := [.int (nI (n)), .int (nI (w))]) (E := E) (z := z) (lv := lv) hd mvX10_ahead hlk pv_s_model (by decide) rfl pv_k_model rfl rfl hcat (by exact Nat.le_of_ble_eq_true rfl) (s_X10_ahead (by omega) hM hdy hk h4 hw K)
  rw [Nat.zero_add, Nat.zero_add] at key
  exact key
set_option maxRecDepth 100000 in
set_option maxHeartbeats 4000000 in
theorem s_X10_save {Q : pv_Q} {E : pv_E} {d bc bs : Nat} {J : pv_JT} {I : pv_IT} {T : pv_T} {L : List pv_Lot} {H : List pv_S} (hD : 1 ≤ d) (hM : MR (I 366) T L) (hS : MSV I H) (h : ∀ I' : pv_IT, MSV I' (h_push H (T, L)) → (∀ k0 : Nat, k0 ≠ 365 → k0 ≠ 368 → I' k0 = I k0) → (∀ j, j ≠ 3 → I' 365 j = I 365 j) → Q (.inl none) pv_K0 pv_P0 (I') (J)) : pv_X (pv_ZQ E Q) E d bc bs mX10_save 0 [(0, .ref (365))] [] pv_K0 pv_P0 I J := by
  obtain ⟨s1, s2, s3⟩ := hS
  refine px_aload_n dX10_save_0 rfl ?_
  refine px_getI dX10_save_1 flX10_39 pv_s_model (by decide) (by decide) rfl pv_k_model ?_
  refine px_iv (y := nI (H.length)) (s1) ?_
  refine px_bipush (v := nI 6) dX10_save_4 (by decide) ?_
  refine px_icmp_neN (tgt := 54) dX10_save_6 (by decide) (by omega) (by omega) (fun h7 => ?_) (fun h7 => ?_)
  · refine px_aload_n dX10_save_54 rfl ?_
    refine px_getR dX10_save_55 flX10_7 pv_s_model (by decide) (by decide) rfl pv_k_model pv_p_365_1 ?_
    refine px_iconst (v := nI 0) dX10_save_58 (by decide) ?_
    refine px_aload_n dX10_save_59 rfl ?_
    refine px_getR dX10_save_60 flX10_16 pv_s_model (by decide) (by decide) rfl pv_k_model pv_p_365_4 ?_
    refine px_sipush (v := nI 413) dX10_save_63 (by decide) ?_
    refine px_aload_n dX10_save_66 rfl ?_
    refine px_getI dX10_save_67 flX10_39 pv_s_model (by decide) (by decide) rfl pv_k_model ?_
    refine px_iv (y := nI (H.length)) (s1) ?_
    refine px_imulN dX10_save_70 ?_
    refine c_X10_copy dX10_save_71 mlX10_42 (by omega) pv_a_z pv_a_saved (by omega) (by omega) (by omega) (Nat.le_of_ble_eq_true rfl) (fun I3 h3 hF3 => ?_)
    refine px_aload_n dX10_save_74 rfl ?_
    refine px_dup dX10_save_75 rfl ?_
    refine px_getI dX10_save_76 flX10_39 pv_s_model (by decide) (by decide) rfl pv_k_model ?_
    refine px_iv (y := nI (H.length)) ((hF3 365 3 (by omega)).trans (s1)) ?_
    refine px_iconst (v := nI 1) dX10_save_79 (by decide) ?_
    refine px_iaddN dX10_save_80 ?_
    refine px_putI dX10_save_81 fwX10_39 pv_s_model (by decide) (by decide) rfl pv_k_model ?_
    refine px_vret dX10_save_84 rfl (Or.inl rfl) (h _ ⟨?_, ?_, fun j hj => ?_⟩ (fun k0 a b => ?_) (fun j hj => ?_))
    · rw [pv_uI_self, pk_us, h_push_len s2, if_neg (by omega)]
    · rw [h_push_len s2, if_neg (by omega)]; omega
    · rw [h_push_len s2, if_neg (by omega)] at hj
      have e : hg (h_push H (T, L)) j = if j < H.length then hg H j else if j = H.length then (T, L) else (fun _ => 0, []) := by
        unfold h_push
        rw [if_neg (by omega), hg_push]
      rw [pv_uI_ne (by omega)]
      by_cases e2 : j < H.length
      · rw [e, if_pos e2]
        exact MR_of (s3 j e2) fun i hi => hF3 368 _ (by omega)
      · have e3 : j = H.length := by omega
        rw [e, if_neg e2, if_pos e3, e3]
        refine MR_of hM fun i hi => ?_
        have e4 := h3 i hi
        rw [Nat.zero_add] at e4
        exact e4
    · rw [pv_uI_ne a]
      exact funext fun j => hF3 k0 j (fun z => b z.1)
    · simp only [pv_uI_at, true_and]
      rw [if_neg hj]
      exact hF3 365 j (by omega)
  · have h6 : H.length = 6 := by omega
    refine px_sipush (v := nI 413) dX10_save_9 (by decide) ?_
    refine px_istore_n dX10_save_12 (by decide) ?_
    have key : ∀ i : Nat, i ≤ 2065 → ∀ I1 : pv_IT, (∀ j, j < i → I1 368 j = I 368 (j + 413)) → (∀ j, i ≤ j → I1 368 j = I 368 j) → (∀ k0, k0 ≠ 368 → I1 k0 = I k0) → pv_X (pv_ZQ E Q) E d bc bs mX10_save 13 [(0, .ref 365), (1, .int (nI (413 + i)))] [] pv_K0 pv_P0 I1 J := by
      refine pv_up 2065 ?_ ?_
      · intro I1 hA hB hF1
        refine px_iload_n dX10_save_13 rfl ?_
        refine px_sipush (v := nI 2478) dX10_save_14 (by decide) ?_
        refine px_icmp_geN (tgt := 44) dX10_save_17 (by decide) (by omega) (by omega) (fun _ => ?_) (fun h0 => absurd h0 (by omega))
        refine px_aload_n dX10_save_44 rfl ?_
        refine px_dup dX10_save_45 rfl ?_
        refine px_getI dX10_save_46 flX10_39 pv_s_model (by decide) (by decide) rfl pv_k_model ?_
        refine px_iv (y := nI (6)) ((congrFun (hF1 365 (by omega)) 3).trans (s1.trans (congrArg nI h6))) ?_
        refine px_iconst (v := nI 1) dX10_save_49 (by decide) ?_
        refine px_isubN (by omega) dX10_save_50 ?_
        refine px_putI dX10_save_51 fwX10_39 pv_s_model (by decide) (by decide) rfl pv_k_model ?_
        generalize hI2 : pv_uI I1 365 3 (nI (6 - 1)) = I2
        have k1 : I2 365 3 = nI 5 := by rw [← hI2, pv_uI_self, pk_us]
        have k2 : ∀ k0, k0 ≠ 365 → k0 ≠ 368 → I2 k0 = I k0 := fun k0 a b => by rw [← hI2, pv_uI_ne a]; exact hF1 k0 b
        have k3 : I2 368 = I1 368 := by rw [← hI2, pv_uI_ne (by omega)]
        have k4 : ∀ j, j ≠ 3 → I2 365 j = I 365 j := fun j hj => by rw [← hI2, pv_uI_self, pk_un hj]; exact congrFun (hF1 365 (by omega)) j
        refine px_aload_n dX10_save_54 rfl ?_
        refine px_getR dX10_save_55 flX10_7 pv_s_model (by decide) (by decide) rfl pv_k_model pv_p_365_1 ?_
        refine px_iconst (v := nI 0) dX10_save_58 (by decide) ?_
        refine px_aload_n dX10_save_59 rfl ?_
        refine px_getR dX10_save_60 flX10_16 pv_s_model (by decide) (by decide) rfl pv_k_model pv_p_365_4 ?_
        refine px_sipush (v := nI 413) dX10_save_63 (by decide) ?_
        refine px_aload_n dX10_save_66 rfl ?_
        refine px_getI dX10_save_67 flX10_39 pv_s_model (by decide) (by decide) rfl pv_k_model ?_
        refine px_iv (y := nI (5)) (Eq.trans (by simp only [pv_uI_at]; repeat' (first | rfl | omega | split)) (k1)) ?_
        refine px_imulN dX10_save_70 ?_
        refine c_X10_copy dX10_save_71 mlX10_42 (by omega) pv_a_z pv_a_saved (by omega) (by omega) (by omega) (Nat.le_of_ble_eq_true rfl) (fun I3 h3 hF3 => ?_)
        refine px_aload_n dX10_save_74 rfl ?_
        refine px_dup dX10_save_75 rfl ?_
        refine px_getI dX10_save_76 flX10_39 pv_s_model (by decide) (by decide) rfl pv_k_model ?_
        refine px_iv (y := nI (5)) (Eq.trans (by simp only [pv_uI_at]; repeat' (first | rfl | omega | split)) ((hF3 365 3 (by omega)).trans (k1))) ?_
        refine px_iconst (v := nI 1) dX10_save_79 (by decide) ?_
        refine px_iaddN dX10_save_80 ?_
        refine px_putI dX10_save_81 fwX10_39 pv_s_model (by decide) (by decide) rfl pv_k_model ?_
        refine px_vret dX10_save_84 rfl (Or.inl rfl) (h _ ⟨?_, ?_, fun j hj => ?_⟩ (fun k0 a b => ?_) (fun j hj => ?_))
        · rw [pv_uI_self, pk_us, h_push_len s2, if_pos (by omega)]
        · rw [h_push_len s2, if_pos (by omega)]; omega
        · rw [h_push_len s2, if_pos (by omega)] at hj
          have e : hg (h_push H (T, L)) j = if j < 5 then hg H (j + 1) else if j = 5 then (T, L) else (fun _ => 0, []) := by
            unfold h_push
            rw [if_pos (by omega), hg_push, hg_drop, List.length_drop, h6]
          rw [pv_uI_ne (by omega)]
          by_cases e2 : j < 5
          · rw [e, if_pos e2]
            refine MR_of (s3 (j + 1) (by omega)) fun i hi => ?_
            rw [hF3 368 _ (by omega), k3, hA (413 * j + i) (by omega)]
            exact congrArg _ (by omega)
          · have e3 : j = 5 := by omega
            rw [e, if_neg e2, if_pos e3, e3]
            refine MR_of hM fun i hi => ?_
            have e4 := h3 i hi
            rw [Nat.zero_add, k2 366 (by omega) (by omega)] at e4
            exact e4
        · rw [pv_uI_ne a, show I3 k0 = I2 k0 from funext fun j => hF3 k0 j (fun z => b z.1)]
          exact k2 k0 a b
        · simp only [pv_uI_at, true_and]
          rw [if_neg hj, hF3 365 j (by omega)]
          exact k4 j hj
      · intro i hi K I1 hA hB hF1
        refine px_iload_n dX10_save_13 rfl ?_
        refine px_sipush (v := nI 2478) dX10_save_14 (by decide) ?_
        refine px_icmp_geN (tgt := 44) dX10_save_17 (by decide) (by omega) (by omega) (fun h0 => absurd h0 (by omega)) (fun _ => ?_)
        refine px_aload_n dX10_save_20 rfl ?_
        refine px_getR dX10_save_21 flX10_16 pv_s_model (by decide) (by decide) rfl pv_k_model pv_p_365_4 ?_
        refine px_iload_n dX10_save_24 rfl ?_
        refine px_sipush (v := nI 412) dX10_save_25 (by decide) ?_
        refine px_isubN (by omega) dX10_save_28 ?_
        refine px_iconst (v := nI 1) dX10_save_29 (by decide) ?_
        refine px_isubN (by omega) dX10_save_30 ?_
        refine px_aload_n dX10_save_31 rfl ?_
        refine px_getR dX10_save_32 flX10_16 pv_s_model (by decide) (by decide) rfl pv_k_model pv_p_365_4 ?_
        refine px_iload_n dX10_save_35 rfl ?_
        refine px_iald (j := (413 + i)) dX10_save_36 pv_a_saved.1 rfl (by omega) pv_a_saved.2.2 pv_a_saved.2.1 ?_
        refine px_iast (j := (((413 + i) - 412) - 1)) dX10_save_37 pv_a_saved.1 rfl (by omega) pv_a_saved.2.2 pv_a_saved.2.1 ?_
        refine px_iincN (c := 1) (by decide) dX10_save_38 rfl (by decide) ?_
        refine px_goto (tgt := 13) dX10_save_41 (by decide) ?_
        refine px_keep [0, 1] ?_
        rw [show 413 + (i + 1) = 413 + i + 1 by omega] at K
        refine K _ (fun j hj => ?_) (fun j hj => ?_) (fun k0 hk => (pv_uI_ne hk).trans (hF1 k0 hk))
        · simp only [pv_uI_at, true_and]
          by_cases e : j = 413 + i - 412 - 1
          · rw [if_pos e, hB (413 + i) (by omega), e]
            exact congrArg _ (by omega)
          · rw [if_neg e]
            exact hA j (by omega)
        · simp only [pv_uI_at, true_and]
          rw [if_neg (by omega)]
          exact hB j (by omega)
    exact key 0 (by omega) I (fun j hj => absurd hj (Nat.not_lt_zero _)) (fun _ _ => rfl) (fun _ _ => rfl)
theorem c_X10_save {z : pv_Z} {E : pv_E} {d bc bs : Nat} {J : pv_JT} {I : pv_IT} {mi : pv_MI} {pc idx : Nat} {lv : pv_LV} {st : List Value} {T : pv_T} {L : List pv_Lot} {H : List pv_S} (hd : decode mi.2.1 pc = .ok (.invokevirtual idx, 3)) (hlk : Cond.methodLink mi.1.cls idx mX10_save.1 ∈ pv_W) (hD : 1+1 ≤ d) (hM : MR (I 366) T L) (hS : MSV I H) (hcat : (st.map fun v => v.category).sum ≤ 8) (K : ∀ I' : pv_IT, MSV I' (h_push H (T, L)) → (∀ k0 : Nat, k0 ≠ 365 → k0 ≠ 368 → I' k0 = I k0) → (∀ j, j ≠ 3 → I' 365 j = I 365 j) → pv_X z E d bc bs mi (pc + 3) lv (st) pv_K0 pv_P0 (I') (J)) : pv_X z E d bc bs mi pc lv (.ref (365) :: st) pv_K0 pv_P0 I J := by
  obtain ⟨d, rfl⟩ : ∃ d0, d = d0 + 1 := ⟨d - 1, by omega⟩
  have key := px_callV (bc := bc) (bs := bs) (bc1 := 0) (bs1 := 0) (as := []) (E := E) (z := z) (lv := lv) hd mvX10_save hlk pv_s_model (by decide) rfl pv_k_model rfl rfl hcat (by exact Nat.le_of_ble_eq_true rfl) (s_X10_save (by omega) hM hS K)
  rw [Nat.zero_add, Nat.zero_add] at key
  exact key
