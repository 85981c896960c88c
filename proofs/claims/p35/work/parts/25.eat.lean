/-! The class: the ship, what is eaten. -/
set_option maxRecDepth 100000 in
set_option maxHeartbeats 4000000 in
theorem s_X7_daysLeftOf {Q : pv_Q} {E : pv_E} {d bc bs : Nat} {J : pv_JT} {I : pv_IT} {q : Nat} {T : pv_T} {L : List pv_Lot} {l : Nat} (hD : 2 ≤ d) (hq : pv_ship q) (hC : CR I q T L) (hb : tb T) (h1 : l < L.length) (h2 : (pl_g L l).2.2.2 ≤ 1000) (h : Q (.inl (some (.int (nI (pt_left T (pl_g L l)))))) pv_K0 pv_P0 (I) (J)) : pv_X (pv_ZQ E Q) E d bc bs mX7_daysLeftOf 0 [(0, .ref (q)), (1, .int (nI (l)))] [] pv_K0 pv_P0 I J := by
  have hx := hC.2.2.2.1.2.1.2 l h1
  unfold lb at hx
  have h31 := hC.2.2.2.1.2.1.1
  have hw := (hb.2.1 _ hx.2.1).2
  have g1 := pt_life_le hb hx.1 (s := 0) (by omega)
  have g2 := pt_life_le hb hx.1 hx.2.1
  have s1 := pt_step_ge g1
  have s2 := pt_step_ge g2
  have s3 := @pt_step_le (pt_life T (pl_g L l).1 0)
  have s4 := @pt_step_le (pt_life T (pl_g L l).1 (pl_g L l).2.1)
  have hm := Nat.mul_le_mul hw s3
  have t1 := @pt_steps_le (1000 - (pl_g L l).2.2.2) _ (by omega) s1 s3
  have t2 := @pt_steps_le (1000 - (pl_g L l).2.2.2 - T (67 + (pl_g L l).2.1) * pt_step (pt_life T (pl_g L l).1 0)) _ (by omega) s2 s4
  unfold pt_left at h
  refine px_aload_n dX7_daysLeftOf_0 rfl ?_
  refine px_getR dX7_daysLeftOf_1 flX7_35 hq.1 (by decide) (by decide) rfl hq.2.1 hq.2.2.2.2.1.1 ?_
  refine px_getR dX7_daysLeftOf_4 flX7_124 hq.2.2.2.2.1.2.1 (by decide) (by decide) rfl hq.2.2.2.2.1.2.2.1 hq.2.2.2.2.1.2.2.2.1.1 ?_
  refine px_iload_n dX7_daysLeftOf_7 rfl ?_
  refine c_X6_at dX7_daysLeftOf_8 mlX7_65 (by omega) (j := l) hq.2.2.2.2.1.2.2.2.1.2 (by omega) (Nat.le_of_ble_eq_true rfl) ?_
  refine px_iv (y := nI ((pl_g L (l)).1)) ((hC.2.2.2.1.2.2 (l) (by omega)).1) ?_
  refine px_istore_n dX7_daysLeftOf_11 (by decide) ?_
  refine px_aload_n dX7_daysLeftOf_12 rfl ?_
  refine px_getR dX7_daysLeftOf_13 flX7_35 hq.1 (by decide) (by decide) rfl hq.2.1 hq.2.2.2.2.1.1 ?_
  refine px_getR dX7_daysLeftOf_16 flX7_127 hq.2.2.2.2.1.2.1 (by decide) (by decide) rfl hq.2.2.2.2.1.2.2.1 hq.2.2.2.2.1.2.2.2.2.1.1 ?_
  refine px_iload_n dX7_daysLeftOf_19 rfl ?_
  refine c_X6_at dX7_daysLeftOf_20 mlX7_65 (by omega) (j := l) hq.2.2.2.2.1.2.2.2.2.1.2 (by omega) (Nat.le_of_ble_eq_true rfl) ?_
  refine px_iv (y := nI ((pl_g L (l)).2.1)) ((hC.2.2.2.1.2.2 (l) (by omega)).2.1) ?_
  refine px_istore_n dX7_daysLeftOf_23 (by decide) ?_
  refine px_sipush (v := nI 1000) dX7_daysLeftOf_24 (by decide) ?_
  refine px_aload_n dX7_daysLeftOf_27 rfl ?_
  refine px_getR dX7_daysLeftOf_28 flX7_35 hq.1 (by decide) (by decide) rfl hq.2.1 hq.2.2.2.2.1.1 ?_
  refine px_getR dX7_daysLeftOf_31 flX7_130 hq.2.2.2.2.1.2.1 (by decide) (by decide) rfl hq.2.2.2.2.1.2.2.1 hq.2.2.2.2.1.2.2.2.2.2.2.1 ?_
  refine px_iload_n dX7_daysLeftOf_34 rfl ?_
  refine c_X6_at dX7_daysLeftOf_35 mlX7_65 (by omega) (j := l) hq.2.2.2.2.1.2.2.2.2.2.2.2 (by omega) (Nat.le_of_ble_eq_true rfl) ?_
  refine px_iv (y := nI ((pl_g L (l)).2.2.2)) ((hC.2.2.2.1.2.2 (l) (by omega)).2.2.2) ?_
  refine px_isubN (by omega) dX7_daysLeftOf_38 ?_
  refine px_istore dX7_daysLeftOf_39 (by decide) ?_
  refine px_aload_n dX7_daysLeftOf_41 rfl ?_
  refine px_getR dX7_daysLeftOf_42 flX7_28 hq.1 (by decide) (by decide) rfl hq.2.1 hq.2.2.2.1.1 ?_
  refine px_getR dX7_daysLeftOf_45 flX7_62 hq.2.2.2.1.2.1 (by decide) (by decide) rfl hq.2.2.2.1.2.2.1 hq.2.2.2.1.2.2.2.2.1 ?_
  refine px_iload_n dX7_daysLeftOf_48 rfl ?_
  refine c_X6_at dX7_daysLeftOf_49 mlX7_65 (by omega) (j := ((pl_g L (l)).2.1)) hq.2.2.2.1.2.2.2.2.2 (by omega) (Nat.le_of_ble_eq_true rfl) ?_
  refine px_iv (y := nI (T (67 + ((pl_g L (l)).2.1)))) ((hC.2.2.1 (((pl_g L (l)).2.1)) (by omega)).2) ?_
  refine px_istore dX7_daysLeftOf_52 (by decide) ?_
  refine px_aload_n dX7_daysLeftOf_54 rfl ?_
  refine px_getR dX7_daysLeftOf_55 flX7_21 hq.1 (by decide) (by decide) rfl hq.2.1 hq.2.2.1.1 ?_
  refine px_iload_n dX7_daysLeftOf_58 rfl ?_
  refine px_iconst (v := nI 0) dX7_daysLeftOf_59 (by decide) ?_
  refine c_X1_lifeIn dX7_daysLeftOf_60 mlX7_69 (by omega) hq.2.2.1.2 hC.2.1 hx.1 (by omega) (Nat.le_of_ble_eq_true rfl) ?_
  refine c_X7_stepFor dX7_daysLeftOf_63 mlX7_133 (by omega) (by omega) (Nat.le_of_ble_eq_true rfl) ?_
  refine px_istore dX7_daysLeftOf_66 (by decide) ?_
  refine px_iload dX7_daysLeftOf_68 rfl ?_
  refine px_iload dX7_daysLeftOf_70 rfl ?_
  refine px_iload dX7_daysLeftOf_72 rfl ?_
  refine px_imulN dX7_daysLeftOf_74 ?_
  refine px_icmp_gtN (tgt := 86) dX7_daysLeftOf_75 (by decide) (by omega) (by omega) (fun h0 => ?_) (fun h0 => ?_)
  · refine px_iload dX7_daysLeftOf_86 rfl ?_
    refine px_iload dX7_daysLeftOf_88 rfl ?_
    refine px_iload dX7_daysLeftOf_90 rfl ?_
    refine px_iload dX7_daysLeftOf_92 rfl ?_
    refine px_imulN dX7_daysLeftOf_94 ?_
    refine px_isubN (by omega) dX7_daysLeftOf_95 ?_
    refine px_aload_n dX7_daysLeftOf_96 rfl ?_
    refine px_getR dX7_daysLeftOf_97 flX7_21 hq.1 (by decide) (by decide) rfl hq.2.1 hq.2.2.1.1 ?_
    refine px_iload_n dX7_daysLeftOf_100 rfl ?_
    refine px_iload_n dX7_daysLeftOf_101 rfl ?_
    refine c_X1_lifeIn dX7_daysLeftOf_102 mlX7_69 (by omega) hq.2.2.1.2 hC.2.1 hx.1 hx.2.1 (Nat.le_of_ble_eq_true rfl) ?_
    refine c_X7_stepFor dX7_daysLeftOf_105 mlX7_133 (by omega) (by omega) (Nat.le_of_ble_eq_true rfl) ?_
    refine c_X7_stepsTo dX7_daysLeftOf_108 mlX7_136 (by omega) (by omega) (by omega) (by omega) (Nat.le_of_ble_eq_true rfl) ?_
    refine px_iaddN dX7_daysLeftOf_111 ?_
    exact px_iret dX7_daysLeftOf_112 rfl (Or.inl rfl) (by rw [if_neg (by omega)] at h; exact h)
  · refine px_iload dX7_daysLeftOf_78 rfl ?_
    refine px_iload dX7_daysLeftOf_80 rfl ?_
    refine c_X7_stepsTo dX7_daysLeftOf_82 mlX7_136 (by omega) (by omega) (by omega) (by omega) (Nat.le_of_ble_eq_true rfl) ?_
    exact px_iret dX7_daysLeftOf_85 rfl (Or.inl rfl) (by rw [if_pos (by omega)] at h; exact h)
theorem c_X7_daysLeftOf {z : pv_Z} {E : pv_E} {d bc bs : Nat} {J : pv_JT} {I : pv_IT} {mi : pv_MI} {pc idx : Nat} {lv : pv_LV} {st : List Value} {q : Nat} {T : pv_T} {L : List pv_Lot} {l : Nat} (hd : decode mi.2.1 pc = .ok (.invokevirtual idx, 3)) (hlk : Cond.methodLink mi.1.cls idx mX7_daysLeftOf.1 ∈ pv_W) (hD : 2+1 ≤ d) (hq : pv_ship q) (hC : CR I q T L) (hb : tb T) (h1 : l < L.length) (h2 : (pl_g L l).2.2.2 ≤ 1000) (hcat : (st.map fun v => v.category).sum ≤ 8) (K : pv_X z E d bc bs mi (pc + 3) lv ((.int (nI (pt_left T (pl_g L l)))) :: st) pv_K0 pv_P0 (I) (J)) : pv_X z E d bc bs mi pc lv (.int (nI (l)) :: .ref (q) :: st) pv_K0 pv_P0 I J := by
  obtain ⟨d, rfl⟩ : ∃ d0, d = d0 + 1 := ⟨d - 1, by omega⟩
  have key := px_callV (bc := bc) (bs := bs) (bc1 := 0) (bs1 := 0) (as := [.int (nI (l))]) (E := E) (z := z) (lv := lv) hd mvX7_daysLeftOf hlk hq.1 (by decide) rfl hq.2.1 rfl rfl hcat (by exact Nat.le_of_ble_eq_true rfl) (s_X7_daysLeftOf (by omega) hq hC hb h1 h2 K)
  rw [Nat.zero_add, Nat.zero_add] at key
  exact key
set_option maxRecDepth 100000 in
set_option maxHeartbeats 4000000 in
theorem s_X7_eatingPlaceOf {Q : pv_Q} {E : pv_E} {d bc bs : Nat} {J : pv_JT} {I : pv_IT} {q : Nat} {T : pv_T} {L : List pv_Lot} {l : Nat} (hD : 3 ≤ d) (hq : pv_ship q) (hC : CR I q T L) (hb : tb T) (ho : lo_ok L) (h1 : l < L.length) (h : Q (.inl (some (.int (nI (pt_eatp T L l))))) pv_K0 pv_P0 (I) (J)) : pv_X (pv_ZQ E Q) E d bc bs mX7_eatingPlaceOf 0 [(0, .ref (q)), (1, .int (nI (l)))] [] pv_K0 pv_P0 I J := by
  have h31 := hC.2.2.2.1.2.1.1
  have hol := ho l h1
  unfold lv_ok at hol
  have hlb := hC.2.2.2.1.2.1.2 l h1
  have hle := pt_left_le hb hlb
  unfold lb at hlb
  refine px_aload_n dX7_eatingPlaceOf_0 rfl ?_
  refine px_iload_n dX7_eatingPlaceOf_1 rfl ?_
  refine c_X7_daysLeftOf dX7_eatingPlaceOf_2 mlX7_139 (by omega) hq hC hb h1 (by omega) (Nat.le_of_ble_eq_true rfl) ?_
  have key : ∀ i : Nat, i ≤ L.length → pv_X (pv_ZQ E Q) E d bc bs mX7_eatingPlaceOf 11 [(0, .ref q), (1, .int (nI l)), (2, .int (nI (pt_left T (pl_g L l)))), (3, .int (nI (pn_sum (pt_place1 T L l) (i)))), (4, .int (nI (i)))] [] pv_K0 pv_P0 (I) (J) := by
    refine pv_up (L.length) ?_ ?_
    · refine px_iload dX7_eatingPlaceOf_11 rfl ?_
      refine px_aload_n dX7_eatingPlaceOf_13 rfl ?_
      refine px_getR dX7_eatingPlaceOf_14 flX7_35 hq.1 (by decide) (by decide) rfl hq.2.1 hq.2.2.2.2.1.1 ?_
      refine px_getI dX7_eatingPlaceOf_17 flX7_94 hq.2.2.2.2.1.2.1 (by decide) (by decide) rfl hq.2.2.2.2.1.2.2.1 ?_
      refine px_iv (y := nI (L.length)) (hC.2.2.2.1.1) ?_
      refine px_icmp_geN (tgt := 89) dX7_eatingPlaceOf_20 (by decide) (by omega) (by omega) (fun _ => ?_) (fun h0 => absurd h0 (by omega))
      refine px_iload_n dX7_eatingPlaceOf_89 rfl ?_
      exact px_iret dX7_eatingPlaceOf_90 rfl (Or.inl rfl) (h)
    · intro i hi K 
      have hoi := ho i hi
      unfold lv_ok at hoi
      have hib := hC.2.2.2.1.2.1.2 i hi
      have hie := pt_left_le hb hib
      unfold lb at hib
      have h9 := pn_sum_le (f := pt_place1 T L l) (c := 1) (n := i) (fun j _ => by unfold pt_place1; split <;> (try split) <;> omega)
      refine px_iload dX7_eatingPlaceOf_11 rfl ?_
      refine px_aload_n dX7_eatingPlaceOf_13 rfl ?_
      refine px_getR dX7_eatingPlaceOf_14 flX7_35 hq.1 (by decide) (by decide) rfl hq.2.1 hq.2.2.2.2.1.1 ?_
      refine px_getI dX7_eatingPlaceOf_17 flX7_94 hq.2.2.2.2.1.2.1 (by decide) (by decide) rfl hq.2.2.2.2.1.2.2.1 ?_
      refine px_iv (y := nI (L.length)) (hC.2.2.2.1.1) ?_
      refine px_icmp_geN (tgt := 89) dX7_eatingPlaceOf_20 (by decide) (by omega) (by omega) (fun h0 => absurd h0 (by omega)) (fun _ => ?_)
      refine px_aload_n dX7_eatingPlaceOf_23 rfl ?_
      refine px_getR dX7_eatingPlaceOf_24 flX7_35 hq.1 (by decide) (by decide) rfl hq.2.1 hq.2.2.2.2.1.1 ?_
      refine px_getR dX7_eatingPlaceOf_27 flX7_124 hq.2.2.2.2.1.2.1 (by decide) (by decide) rfl hq.2.2.2.2.1.2.2.1 hq.2.2.2.2.1.2.2.2.1.1 ?_
      refine px_iload dX7_eatingPlaceOf_30 rfl ?_
      refine c_X6_at dX7_eatingPlaceOf_32 mlX7_65 (by omega) (j := i) hq.2.2.2.2.1.2.2.2.1.2 (by omega) (Nat.le_of_ble_eq_true rfl) ?_
      refine px_iv (y := nI ((pl_g L (i)).1)) ((hC.2.2.2.1.2.2 (i) (by omega)).1) ?_
      refine px_aload_n dX7_eatingPlaceOf_35 rfl ?_
      refine px_getR dX7_eatingPlaceOf_36 flX7_35 hq.1 (by decide) (by decide) rfl hq.2.1 hq.2.2.2.2.1.1 ?_
      refine px_getR dX7_eatingPlaceOf_39 flX7_124 hq.2.2.2.2.1.2.1 (by decide) (by decide) rfl hq.2.2.2.2.1.2.2.1 hq.2.2.2.2.1.2.2.2.1.1 ?_
      refine px_iload_n dX7_eatingPlaceOf_42 rfl ?_
      refine c_X6_at dX7_eatingPlaceOf_43 mlX7_65 (by omega) (j := l) hq.2.2.2.2.1.2.2.2.1.2 (by omega) (Nat.le_of_ble_eq_true rfl) ?_
      refine px_iv (y := nI ((pl_g L (l)).1)) ((hC.2.2.2.1.2.2 (l) (by omega)).1) ?_
      refine px_icmp_neN (tgt := 83) dX7_eatingPlaceOf_46 (by decide) (by omega) (by omega) (fun h0 => ?_) (fun h0 => ?_)
      · refine px_iincN (c := 1) (by decide) dX7_eatingPlaceOf_83 rfl (by decide) ?_
        refine px_goto (tgt := 11) dX7_eatingPlaceOf_86 (by decide) ?_
        refine px_keep [0, 1, 2, 3, 4] ?_
        have e : pn_sum (pt_place1 T L l) (i + 1) = pn_sum (pt_place1 T L l) i := by show pn_sum (pt_place1 T L l) i + pt_place1 T L l i = _; rw [show pt_place1 T L l i = 0 from if_neg h0]; rfl
        rw [e] at K
        exact K
      · refine px_aload_n dX7_eatingPlaceOf_49 rfl ?_
        refine px_iload dX7_eatingPlaceOf_50 rfl ?_
        refine c_X7_daysLeftOf dX7_eatingPlaceOf_52 mlX7_139 (by omega) hq hC hb hi (by omega) (Nat.le_of_ble_eq_true rfl) ?_
        refine px_istore dX7_eatingPlaceOf_55 (by decide) ?_
        refine px_iload_n dX7_eatingPlaceOf_57 rfl ?_
        refine px_iload dX7_eatingPlaceOf_58 rfl ?_
        refine px_iload_n dX7_eatingPlaceOf_60 rfl ?_
        refine px_icmp_ltN (tgt := 76) dX7_eatingPlaceOf_61 (by decide) (by omega) (by omega) (fun h5 => ?_) (fun h5 => ?_)
        · refine px_iconst (v := nI 1) dX7_eatingPlaceOf_76 (by decide) ?_
          refine px_goto (tgt := 81) dX7_eatingPlaceOf_77 (by decide) ?_
          refine px_iaddN dX7_eatingPlaceOf_81 ?_
          refine px_istore_n dX7_eatingPlaceOf_82 (by decide) ?_
          refine px_iincN (c := 1) (by decide) dX7_eatingPlaceOf_83 rfl (by decide) ?_
          refine px_goto (tgt := 11) dX7_eatingPlaceOf_86 (by decide) ?_
          refine px_keep [0, 1, 2, 3, 4] ?_
          have e : pn_sum (pt_place1 T L l) (i + 1) = pn_sum (pt_place1 T L l) i + 1 := by show pn_sum (pt_place1 T L l) i + pt_place1 T L l i = _; rw [show pt_place1 T L l i = 1 by unfold pt_place1; rw [if_pos h0, if_pos (by omega)]]
          rw [e] at K
          exact K
        · refine px_iload dX7_eatingPlaceOf_64 rfl ?_
          refine px_iload_n dX7_eatingPlaceOf_66 rfl ?_
          refine px_icmp_neN (tgt := 80) dX7_eatingPlaceOf_67 (by decide) (by omega) (by omega) (fun h6 => ?_) (fun h6 => ?_)
          · refine px_iconst (v := nI 0) dX7_eatingPlaceOf_80 (by decide) ?_
            refine px_iaddN dX7_eatingPlaceOf_81 ?_
            refine px_istore_n dX7_eatingPlaceOf_82 (by decide) ?_
            refine px_iincN (c := 1) (by decide) dX7_eatingPlaceOf_83 rfl (by decide) ?_
            refine px_goto (tgt := 11) dX7_eatingPlaceOf_86 (by decide) ?_
            refine px_keep [0, 1, 2, 3, 4] ?_
            have e : pn_sum (pt_place1 T L l) (i + 1) = pn_sum (pt_place1 T L l) i + 0 := by show pn_sum (pt_place1 T L l) i + pt_place1 T L l i = _; rw [show pt_place1 T L l i = 0 by unfold pt_place1; rw [if_pos h0, if_neg (by omega)]]
            rw [e] at K
            exact K
          · refine px_iload dX7_eatingPlaceOf_70 rfl ?_
            refine px_iload_n dX7_eatingPlaceOf_72 rfl ?_
            refine px_icmp_geN (tgt := 80) dX7_eatingPlaceOf_73 (by decide) (by omega) (by omega) (fun h7 => ?_) (fun h7 => ?_)
            · refine px_iconst (v := nI 0) dX7_eatingPlaceOf_80 (by decide) ?_
              refine px_iaddN dX7_eatingPlaceOf_81 ?_
              refine px_istore_n dX7_eatingPlaceOf_82 (by decide) ?_
              refine px_iincN (c := 1) (by decide) dX7_eatingPlaceOf_83 rfl (by decide) ?_
              refine px_goto (tgt := 11) dX7_eatingPlaceOf_86 (by decide) ?_
              refine px_keep [0, 1, 2, 3, 4] ?_
              have e : pn_sum (pt_place1 T L l) (i + 1) = pn_sum (pt_place1 T L l) i + 0 := by show pn_sum (pt_place1 T L l) i + pt_place1 T L l i = _; rw [show pt_place1 T L l i = 0 by unfold pt_place1; rw [if_pos h0, if_neg (by omega)]]
              rw [e] at K
              exact K
            · refine px_iconst (v := nI 1) dX7_eatingPlaceOf_76 (by decide) ?_
              refine px_goto (tgt := 81) dX7_eatingPlaceOf_77 (by decide) ?_
              refine px_iaddN dX7_eatingPlaceOf_81 ?_
              refine px_istore_n dX7_eatingPlaceOf_82 (by decide) ?_
              refine px_iincN (c := 1) (by decide) dX7_eatingPlaceOf_83 rfl (by decide) ?_
              refine px_goto (tgt := 11) dX7_eatingPlaceOf_86 (by decide) ?_
              refine px_keep [0, 1, 2, 3, 4] ?_
              have e : pn_sum (pt_place1 T L l) (i + 1) = pn_sum (pt_place1 T L l) i + 1 := by show pn_sum (pt_place1 T L l) i + pt_place1 T L l i = _; rw [show pt_place1 T L l i = 1 by unfold pt_place1; rw [if_pos h0, if_pos (by omega)]]
              rw [e] at K
              exact K
  refine px_istore_n dX7_eatingPlaceOf_5 (by decide) ?_
  refine px_iconst (v := nI 0) dX7_eatingPlaceOf_6 (by decide) ?_
  refine px_istore_n dX7_eatingPlaceOf_7 (by decide) ?_
  refine px_iconst (v := nI 0) dX7_eatingPlaceOf_8 (by decide) ?_
  refine px_istore dX7_eatingPlaceOf_9 (by decide) ?_
  exact key 0 (by omega)
theorem c_X7_eatingPlaceOf {z : pv_Z} {E : pv_E} {d bc bs : Nat} {J : pv_JT} {I : pv_IT} {mi : pv_MI} {pc idx : Nat} {lv : pv_LV} {st : List Value} {q : Nat} {T : pv_T} {L : List pv_Lot} {l : Nat} (hd : decode mi.2.1 pc = .ok (.invokevirtual idx, 3)) (hlk : Cond.methodLink mi.1.cls idx mX7_eatingPlaceOf.1 ∈ pv_W) (hD : 3+1 ≤ d) (hq : pv_ship q) (hC : CR I q T L) (hb : tb T) (ho : lo_ok L) (h1 : l < L.length) (hcat : (st.map fun v => v.category).sum ≤ 8) (K : pv_X z E d bc bs mi (pc + 3) lv ((.int (nI (pt_eatp T L l))) :: st) pv_K0 pv_P0 (I) (J)) : pv_X z E d bc bs mi pc lv (.int (nI (l)) :: .ref (q) :: st) pv_K0 pv_P0 I J := by
  obtain ⟨d, rfl⟩ : ∃ d0, d = d0 + 1 := ⟨d - 1, by omega⟩
  have key := px_callV (bc := bc) (bs := bs) (bc1 := 0) (bs1 := 0) (as := [.int (nI (l))]) (E := E) (z := z) (lv := lv) hd mvX7_eatingPlaceOf hlk hq.1 (by decide) rfl hq.2.1 rfl rfl hcat (by exact Nat.le_of_ble_eq_true rfl) (s_X7_eatingPlaceOf (by omega) hq hC hb ho h1 K)
  rw [Nat.zero_add, Nat.zero_add] at key
  exact key
set_option maxRecDepth 100000 in
set_option maxHeartbeats 4000000 in
theorem s_X7_nextToEat {Q : pv_Q} {E : pv_E} {d bc bs : Nat} {J : pv_JT} {I : pv_IT} {q : Nat} {T : pv_T} {L : List pv_Lot} {Dm : Nat → Nat} {k : Nat} (hD : 1 ≤ d) (hq : pv_ship q) (hC : CR I q T L) (hM : ∀ l, l < L.length → I (q + 43) l = nI (Dm l) ∧ Dm l ≤ 2100) (hk8 : k < 8) (h : Q (.inl (some (.int (oI (pe_next Dm k L L.length))))) pv_K0 pv_P0 (I) (J)) : pv_X (pv_ZQ E Q) E d bc bs mX7_nextToEat 0 [(0, .ref (q)), (1, .int (nI (k)))] [] pv_K0 pv_P0 I J := by
  have h31 := hC.2.2.2.1.2.1.1
  have key : ∀ i : Nat, i ≤ L.length → pv_X (pv_ZQ E Q) E d bc bs mX7_nextToEat 4 [(0, .ref q), (1, .int (nI k)), (2, .int (oI (pe_next Dm k L (i)))), (3, .int (nI (i)))] [] pv_K0 pv_P0 (I) (J) := by
    refine pv_up (L.length) ?_ ?_
    · refine px_iload_n dX7_nextToEat_4 rfl ?_
      refine px_aload_n dX7_nextToEat_5 rfl ?_
      refine px_getR dX7_nextToEat_6 flX7_35 hq.1 (by decide) (by decide) rfl hq.2.1 hq.2.2.2.2.1.1 ?_
      refine px_getI dX7_nextToEat_9 flX7_94 hq.2.2.2.2.1.2.1 (by decide) (by decide) rfl hq.2.2.2.2.1.2.2.1 ?_
      refine px_iv (y := nI (L.length)) (hC.2.2.2.1.1) ?_
      refine px_icmp_geN (tgt := 76) dX7_nextToEat_12 (by decide) (by omega) (by omega) (fun _ => ?_) (fun h0 => absurd h0 (by omega))
      refine px_iload_n dX7_nextToEat_76 rfl ?_
      exact px_iret dX7_nextToEat_77 rfl (Or.inl rfl) (h)
    · intro i hi K 
      have hib := hC.2.2.2.1.2.1.2 i hi
      unfold lb at hib
      have hmi := (hM i hi).2
      refine px_iload_n dX7_nextToEat_4 rfl ?_
      refine px_aload_n dX7_nextToEat_5 rfl ?_
      refine px_getR dX7_nextToEat_6 flX7_35 hq.1 (by decide) (by decide) rfl hq.2.1 hq.2.2.2.2.1.1 ?_
      refine px_getI dX7_nextToEat_9 flX7_94 hq.2.2.2.2.1.2.1 (by decide) (by decide) rfl hq.2.2.2.2.1.2.2.1 ?_
      refine px_iv (y := nI (L.length)) (hC.2.2.2.1.1) ?_
      refine px_icmp_geN (tgt := 76) dX7_nextToEat_12 (by decide) (by omega) (by omega) (fun h0 => absurd h0 (by omega)) (fun _ => ?_)
      refine px_aload_n dX7_nextToEat_15 rfl ?_
      refine px_getR dX7_nextToEat_16 flX7_35 hq.1 (by decide) (by decide) rfl hq.2.1 hq.2.2.2.2.1.1 ?_
      refine px_getR dX7_nextToEat_19 flX7_124 hq.2.2.2.2.1.2.1 (by decide) (by decide) rfl hq.2.2.2.2.1.2.2.1 hq.2.2.2.2.1.2.2.2.1.1 ?_
      refine px_iload_n dX7_nextToEat_22 rfl ?_
      refine c_X6_at dX7_nextToEat_23 mlX7_65 (by omega) (j := i) hq.2.2.2.2.1.2.2.2.1.2 (by omega) (Nat.le_of_ble_eq_true rfl) ?_
      refine px_iv (y := nI ((pl_g L (i)).1)) ((hC.2.2.2.1.2.2 (i) (by omega)).1) ?_
      refine px_iload_n dX7_nextToEat_26 rfl ?_
      refine px_icmp_neN (tgt := 70) dX7_nextToEat_27 (by decide) (by omega) (by omega) (fun h0 => ?_) (fun h0 => ?_)
      · refine px_iincN (c := 1) (by decide) dX7_nextToEat_70 rfl (by decide) ?_
        refine px_goto (tgt := 4) dX7_nextToEat_73 (by decide) ?_
        refine px_keep [0, 1, 2, 3] ?_
        have e : pe_next Dm k L (i + 1) = pe_next Dm k L i := by rw [pe_next, if_neg (by omega)]
        rw [e] at K
        exact K
      · refine px_aload_n dX7_nextToEat_30 rfl ?_
        refine px_getR dX7_nextToEat_31 flX7_35 hq.1 (by decide) (by decide) rfl hq.2.1 hq.2.2.2.2.1.1 ?_
        refine px_getR dX7_nextToEat_34 flX7_186 hq.2.2.2.2.1.2.1 (by decide) (by decide) rfl hq.2.2.2.2.1.2.2.1 hq.2.2.2.2.1.2.2.2.2.2.1.1 ?_
        refine px_iload_n dX7_nextToEat_37 rfl ?_
        refine c_X6_at dX7_nextToEat_38 mlX7_65 (by omega) (j := i) hq.2.2.2.2.1.2.2.2.2.2.1.2 (by omega) (Nat.le_of_ble_eq_true rfl) ?_
        refine px_iv (y := nI ((pl_g L (i)).2.2.1)) ((hC.2.2.2.1.2.2 (i) (by omega)).2.2.1) ?_
        refine px_if_leN (tgt := 70) dX7_nextToEat_41 (by decide) (by omega) (fun h5 => ?_) (fun h5 => ?_)
        · refine px_iincN (c := 1) (by decide) dX7_nextToEat_70 rfl (by decide) ?_
          refine px_goto (tgt := 4) dX7_nextToEat_73 (by decide) ?_
          refine px_keep [0, 1, 2, 3] ?_
          have e : pe_next Dm k L (i + 1) = pe_next Dm k L i := by rw [pe_next, if_neg (by omega)]
          rw [e] at K
          exact K
        · refine px_iload_n dX7_nextToEat_44 rfl ?_
          refine px_iconst (v := -1) dX7_nextToEat_45 (by decide) ?_
          cases e : pe_next Dm k L i with
          | none =>
            have e1 : pe_next Dm k L (i + 1) = some i := by rw [pe_next, if_pos ⟨h0, h5⟩, e]
            rw [e1] at K
            refine px_icmp_eq (tgt := 68) dX7_nextToEat_46 (by decide) (fun _ => ?_) (fun h9 => absurd rfl h9)
            refine px_iload_n dX7_nextToEat_68 rfl ?_
            refine px_istore_n dX7_nextToEat_69 (by decide) ?_
            refine px_iincN (c := 1) (by decide) dX7_nextToEat_70 rfl (by decide) ?_
            refine px_goto (tgt := 4) dX7_nextToEat_73 (by decide) ?_
            refine px_keep [0, 1, 2, 3] ?_
            exact K
          | some b =>
            have e1 : pe_next Dm k L (i + 1) = if Dm i < Dm b then some i else some b := by rw [pe_next, if_pos ⟨h0, h5⟩, e]
            have hbi := (pe_next_is e).1
            have hmb := (hM b (by omega)).2
            refine px_icmp_eq (tgt := 68) dX7_nextToEat_46 (by decide) (fun h9 => absurd h9 (pn_m1 (by omega))) (fun _ => ?_)
            refine px_aload_n dX7_nextToEat_49 rfl ?_
            refine px_getR dX7_nextToEat_50 flX7_58 hq.1 (by decide) (by decide) rfl hq.2.1 hq.2.2.2.2.2.2.2.1 ?_
            refine px_iload_n dX7_nextToEat_53 rfl ?_
            refine c_X6_at dX7_nextToEat_54 mlX7_65 (by omega) (j := i) hq.2.2.2.2.2.2.2.2 (by omega) (Nat.le_of_ble_eq_true rfl) ?_
            refine px_iv (y := nI (Dm (i))) ((hM (i) (by omega)).1) ?_
            refine px_aload_n dX7_nextToEat_57 rfl ?_
            refine px_getR dX7_nextToEat_58 flX7_58 hq.1 (by decide) (by decide) rfl hq.2.1 hq.2.2.2.2.2.2.2.1 ?_
            refine px_iload_n dX7_nextToEat_61 rfl ?_
            refine c_X6_at dX7_nextToEat_62 mlX7_65 (by omega) (j := b) hq.2.2.2.2.2.2.2.2 (by omega) (Nat.le_of_ble_eq_true rfl) ?_
            refine px_iv (y := nI (Dm (b))) ((hM (b) (by omega)).1) ?_
            refine px_icmp_geN (tgt := 70) dX7_nextToEat_65 (by decide) (by omega) (by omega) (fun h6 => ?_) (fun h6 => ?_)
            · refine px_iincN (c := 1) (by decide) dX7_nextToEat_70 rfl (by decide) ?_
              refine px_goto (tgt := 4) dX7_nextToEat_73 (by decide) ?_
              refine px_keep [0, 1, 2, 3] ?_
              rw [if_neg (by omega)] at e1
              rw [e1] at K
              exact K
            · refine px_iload_n dX7_nextToEat_68 rfl ?_
              refine px_istore_n dX7_nextToEat_69 (by decide) ?_
              refine px_iincN (c := 1) (by decide) dX7_nextToEat_70 rfl (by decide) ?_
              refine px_goto (tgt := 4) dX7_nextToEat_73 (by decide) ?_
              refine px_keep [0, 1, 2, 3] ?_
              rw [if_pos h6] at e1
              rw [e1] at K
              exact K
  refine px_iconst (v := -1) dX7_nextToEat_0 (by decide) ?_
  refine px_istore_n dX7_nextToEat_1 (by decide) ?_
  refine px_iconst (v := nI 0) dX7_nextToEat_2 (by decide) ?_
  refine px_istore_n dX7_nextToEat_3 (by decide) ?_
  exact key 0 (by omega) 
theorem c_X7_nextToEat {z : pv_Z} {E : pv_E} {d bc bs : Nat} {J : pv_JT} {I : pv_IT} {mi : pv_MI} {pc idx : Nat} {lv : pv_LV} {st : List Value} {q : Nat} {T : pv_T} {L : List pv_Lot} {Dm : Nat → Nat} {k : Nat} (hd : decode mi.2.1 pc = .ok (.invokevirtual idx, 3)) (hlk : Cond.methodLink mi.1.cls idx mX7_nextToEat.1 ∈ pv_W) (hD : 1+1 ≤ d) (hq : pv_ship q) (hC : CR I q T L) (hM : ∀ l, l < L.length → I (q + 43) l = nI (Dm l) ∧ Dm l ≤ 2100) (hk8 : k < 8) (hcat : (st.map fun v => v.category).sum ≤ 8) (K : pv_X z E d bc bs mi (pc + 3) lv ((.int (oI (pe_next Dm k L L.length))) :: st) pv_K0 pv_P0 (I) (J)) : pv_X z E d bc bs mi pc lv (.int (nI (k)) :: .ref (q) :: st) pv_K0 pv_P0 I J := by
  obtain ⟨d, rfl⟩ : ∃ d0, d = d0 + 1 := ⟨d - 1, by omega⟩
  have key := px_callV (bc := bc) (bs := bs) (bc1 := 0) (bs1 := 0) (as := [.int (nI (k))]) (E := E) (z := z) (lv := lv) hd mvX7_nextToEat hlk hq.1 (by decide) rfl hq.2.1 rfl rfl hcat (by exact Nat.le_of_ble_eq_true rfl) (s_X7_nextToEat (by omega) hq hC hM hk8 K)
  rw [Nat.zero_add, Nat.zero_add] at key
  exact key
theorem tb_of {T T' : pv_T} (h : tb T) (hT : ∀ i, ¬ (24 ≤ i ∧ i < 64) → i ≠ 404 → i ≠ 411 → i ≠ 412 → i ≠ 406 → T' i = T i) : tb T' := by
  obtain ⟨h1, h2, h3, h4, h5, ⟨p1, p2, p3⟩, m1, m2, m3⟩ := h
  refine ⟨fun i hi => ?_, fun s hs => ?_, ?_, ?_, ?_, ⟨?_, fun p hp => ?_, fun a b hab hbn => ?_⟩, ?_, ?_, fun m hm => ?_⟩
  · rw [hT i (by omega) (by omega) (by omega) (by omega) (by omega)]; exact h1 i hi
  · rw [hT (64 + s) (by omega) (by omega) (by omega) (by omega) (by omega), hT (67 + s) (by omega) (by omega) (by omega) (by omega) (by omega)]; exact h2 s hs
  · rw [hT 405 (by omega) (by omega) (by omega) (by omega) (by omega)]; exact h3
  · rw [hT 409 (by omega) (by omega) (by omega) (by omega) (by omega)]; exact h4
  · rw [hT 410 (by omega) (by omega) (by omega) (by omega) (by omega)]; exact h5
  · rw [hT 407 (by omega) (by omega) (by omega) (by omega) (by omega)]; exact p1
  · rw [hT 407 (by omega) (by omega) (by omega) (by omega) (by omega)] at hp
    have h9 := p2 p hp
    rw [hT (324 + 10 * p) (by omega) (by omega) (by omega) (by omega) (by omega), hT (325 + 10 * p) (by omega) (by omega) (by omega) (by omega) (by omega)]
    refine ⟨h9.1, h9.2.1, fun k hk => ?_⟩
    rw [hT (326 + 10 * p + k) (by omega) (by omega) (by omega) (by omega) (by omega)]
    exact h9.2.2 k hk
  · rw [hT 407 (by omega) (by omega) (by omega) (by omega) (by omega)] at hbn
    rw [hT (324 + 10 * a) (by omega) (by omega) (by omega) (by omega) (by omega), hT (324 + 10 * b) (by omega) (by omega) (by omega) (by omega) (by omega)]
    exact p3 a b hab hbn
  · rw [hT 408 (by omega) (by omega) (by omega) (by omega) (by omega)]; exact m1
  · rw [hT 408 (by omega) (by omega) (by omega) (by omega) (by omega)]; exact m2
  · rw [hT 408 (by omega) (by omega) (by omega) (by omega) (by omega)] at hm
    have h9 := m3 m hm
    rw [hT (314 + m) (by omega) (by omega) (by omega) (by omega) (by omega)]
    refine ⟨h9.1, fun i hi => ?_⟩
    rw [hT (194 + 12 * m + 3 * i) (by omega) (by omega) (by omega) (by omega) (by omega), hT (195 + 12 * m + 3 * i) (by omega) (by omega) (by omega) (by omega) (by omega), hT (196 + 12 * m + 3 * i) (by omega) (by omega) (by omega) (by omega) (by omega)]
    exact h9.2 i hi
set_option maxRecDepth 100000 in
set_option maxHeartbeats 4000000 in
theorem s_X7_eatOf {Q : pv_Q} {E : pv_E} {d bc bs : Nat} {J : pv_JT} {I : pv_IT} {q : Nat} {T : pv_T} {L : List pv_Lot} {Dm : Nat → Nat} {k need : Nat} (hD : 2 ≤ d) (hq : pv_ship q) (hC : CR I q T L) (hM : ∀ l, l < L.length → I (q + 43) l = nI (Dm l) ∧ Dm l ≤ 2100) (hk8 : k < 8) (hnd : need < 2147483648) (h : ∀ I' : pv_IT, CR I' q (pd_eat Dm k need (T, L)).2.1 (pd_eat Dm k need (T, L)).2.2 → (∀ k0 : Nat, k0 < q ∨ q + 42 ≤ k0 → I' k0 = I k0) → Q (.inl (some (.int (nI (pd_eat Dm k need (T, L)).1)))) pv_K0 pv_P0 (I') (J)) : pv_X (pv_ZQ E Q) E d bc bs mX7_eatOf 0 [(0, .ref (q)), (1, .int (nI (k))), (2, .int (nI (need)))] [] pv_K0 pv_P0 I J := by
  have h31 := hC.2.2.2.1.2.1.1
  have hlen := hC.2.2.2.1.2.1
  have key : ∀ i : Nat, i ≤ L.length → ∀ (a : Nat) (L1 : List pv_Lot) (I1 : pv_IT), CR I1 q (pt_up T (25 + 5 * k) (T (25 + 5 * k) + (need - a))) L1 → L1.length = L.length → a ≤ need → pe_eat Dm k (L.length - (i)) a L1 = pe_eat Dm k L.length need L → (∀ k0 : Nat, k0 < q ∨ q + 42 ≤ k0 → I1 k0 = I k0) → pv_X (pv_ZQ E Q) E d bc bs mX7_eatOf 5 [(0, .ref q), (1, .int (nI k)), (2, .int (nI need)), (3, .int (nI a)), (4, .int (nI (i)))] [] pv_K0 pv_P0 (I1) (J) := by
    refine pv_up (L.length) ?_ ?_
    · intro a L1 I1 hC1 hn hle hE hF
      refine px_iload dX7_eatOf_5 rfl ?_
      refine px_aload_n dX7_eatOf_7 rfl ?_
      refine px_getR dX7_eatOf_8 flX7_35 hq.1 (by decide) (by decide) rfl hq.2.1 hq.2.2.2.2.1.1 ?_
      refine px_getI dX7_eatOf_11 flX7_94 hq.2.2.2.2.1.2.1 (by decide) (by decide) rfl hq.2.2.2.2.1.2.2.1 ?_
      refine px_iv (y := nI (L1.length)) (hC1.2.2.2.1.1) ?_
      skip
      refine px_icmp_geN (tgt := 93) dX7_eatOf_14 (by decide) (by omega) (by omega) (fun _ => ?_) (fun h0 => absurd h0 (by omega))
      refine px_iload_n dX7_eatOf_93 rfl ?_
      have hr : pe_eat Dm k L.length need L = (a, L1) := by rw [← hE, Nat.sub_self]; rfl
      unfold pd_eat at h
      rw [hr] at h
      exact px_iret dX7_eatOf_94 rfl (Or.inl rfl) (h I1 hC1 hF)
    · intro i hi K a L1 I1 hC1 hn hle hE hF
      have hM1 : ∀ l, l < L1.length → I1 (q + 43) l = nI (Dm l) ∧ Dm l ≤ 2100 := fun l hl => by
        rw [hF _ (by omega)]
        exact hM l (by omega)
      refine px_iload dX7_eatOf_5 rfl ?_
      refine px_aload_n dX7_eatOf_7 rfl ?_
      refine px_getR dX7_eatOf_8 flX7_35 hq.1 (by decide) (by decide) rfl hq.2.1 hq.2.2.2.2.1.1 ?_
      refine px_getI dX7_eatOf_11 flX7_94 hq.2.2.2.2.1.2.1 (by decide) (by decide) rfl hq.2.2.2.2.1.2.2.1 ?_
      refine px_iv (y := nI (L1.length)) (hC1.2.2.2.1.1) ?_
      refine px_icmp_geN (tgt := 93) dX7_eatOf_14 (by decide) (by omega) (by omega) (fun h0 => absurd h0 (by omega)) (fun _ => ?_)
      refine px_iload_n dX7_eatOf_17 rfl ?_
      refine px_if_leN (tgt := 93) dX7_eatOf_18 (by decide) (by omega) (fun h0 => ?_) (fun h0 => ?_)
      · refine px_iload_n dX7_eatOf_93 rfl ?_
        have hr : pe_eat Dm k L.length need L = (a, L1) := by rw [← hE, h0, pe_eat0]
        unfold pd_eat at h
        rw [hr] at h
        exact px_iret dX7_eatOf_94 rfl (Or.inl rfl) (h I1 hC1 hF)
      · refine px_aload_n dX7_eatOf_21 rfl ?_
        refine px_iload_n dX7_eatOf_22 rfl ?_
        refine c_X7_nextToEat dX7_eatOf_23 mlX7_183 (by omega) hq hC1 hM1 hk8 (Nat.le_of_ble_eq_true rfl) ?_
        refine px_istore dX7_eatOf_26 (by decide) ?_
        refine px_iload dX7_eatOf_28 rfl ?_
        refine px_iconst (v := -1) dX7_eatOf_30 (by decide) ?_
        cases e : pe_next Dm k L1 L1.length with
        | none =>
          refine px_icmp_ne (tgt := 36) dX7_eatOf_31 (by decide) (fun h9 => absurd rfl h9) (fun _ => ?_)
          refine px_iload_n dX7_eatOf_34 rfl ?_
          have hr : pe_eat Dm k L.length need L = (a, L1) := by rw [← hE, pe_eat_none e]
          unfold pd_eat at h
          rw [hr] at h
          exact px_iret dX7_eatOf_35 rfl (Or.inl rfl) (h I1 hC1 hF)
        | some b =>
          have hbi := pe_next_is e
          have hb8 := hC1.2.2.2.1.2.1.2 b hbi.1
          unfold lb at hb8
          refine px_icmp_ne (tgt := 36) dX7_eatOf_31 (by decide) (fun _ => ?_) (fun h9 => absurd h9 (pn_m1 (by omega)))
          refine px_iload_n dX7_eatOf_36 rfl ?_
          refine px_aload_n dX7_eatOf_37 rfl ?_
          refine px_getR dX7_eatOf_38 flX7_35 hq.1 (by decide) (by decide) rfl hq.2.1 hq.2.2.2.2.1.1 ?_
          refine px_getR dX7_eatOf_41 flX7_186 hq.2.2.2.2.1.2.1 (by decide) (by decide) rfl hq.2.2.2.2.1.2.2.1 hq.2.2.2.2.1.2.2.2.2.2.1.1 ?_
          refine px_iload dX7_eatOf_44 rfl ?_
          refine c_X6_at dX7_eatOf_46 mlX7_65 (by omega) (j := b) hq.2.2.2.2.1.2.2.2.2.2.1.2 (by omega) (Nat.le_of_ble_eq_true rfl) ?_
          refine px_iv (y := nI ((pl_g L1 (b)).2.2.1)) ((hC1.2.2.2.1.2.2 (b) (by omega)).2.2.1) ?_
          refine c_J9_min_7cf53 dX7_eatOf_49 mlX7_119 (by omega) (by omega) (by omega) (Nat.le_of_ble_eq_true rfl) ?_
          refine px_istore dX7_eatOf_52 (by decide) ?_
          refine px_aload_n dX7_eatOf_54 rfl ?_
          refine px_getR dX7_eatOf_55 flX7_35 hq.1 (by decide) (by decide) rfl hq.2.1 hq.2.2.2.2.1.1 ?_
          refine px_getR dX7_eatOf_58 flX7_186 hq.2.2.2.2.1.2.1 (by decide) (by decide) rfl hq.2.2.2.2.1.2.2.1 hq.2.2.2.2.1.2.2.2.2.2.1.1 ?_
          refine px_iload dX7_eatOf_61 rfl ?_
          refine px_iload dX7_eatOf_63 rfl ?_
          refine px_ineg dX7_eatOf_65 ?_
          refine c_X6_add dX7_eatOf_66 mlX7_103 (by omega) (j := b) hq.2.2.2.2.1.2.2.2.2.2.1.2 (by omega) (Nat.le_of_ble_eq_true rfl) ?_
          have e1 : I1 (q + 25) b + -nI (min a (pl_g L1 b).2.2.1) = nI ((pl_g L1 b).2.2.1 - min a (pl_g L1 b).2.2.1) := by
            rw [show I1 (q + 25) b = nI (pl_g L1 b).2.2.1 from (hC1.2.2.2.1.2.2 b hbi.1).2.2.1, ← pk_sub (by omega), Int32.sub_eq_add_neg]
          refine px_mem (I' := pv_uI I1 (q + 25) b (nI ((pl_g L1 b).2.2.1 - min a (pl_g L1 b).2.2.1))) (congrArg (pv_uI I1 (q + 25) b) e1) ?_
          have hC2 := CR_amt hC1 hbi.1 (v := (pl_g L1 b).2.2.1 - min a (pl_g L1 b).2.2.1) (by omega)
          refine px_aload_n dX7_eatOf_69 rfl ?_
          refine px_getR dX7_eatOf_70 flX7_21 hq.1 (by decide) (by decide) rfl hq.2.1 hq.2.2.1.1 ?_
          refine px_getR dX7_eatOf_73 flX7_187 hq.2.2.1.2.1 (by decide) (by decide) rfl hq.2.2.1.2.2.1 hq.2.2.1.2.2.2.2.2.1.1 ?_
          refine px_iload_n dX7_eatOf_76 rfl ?_
          refine px_iload dX7_eatOf_77 rfl ?_
          refine c_X6_add dX7_eatOf_79 mlX7_103 (by omega) (j := k) hq.2.2.1.2.2.2.2.2.1.2 (by omega) (Nat.le_of_ble_eq_true rfl) ?_
          have hC3 := CR_eaten hC2 hk8 (x := min a (pl_g L1 b).2.2.1)
          refine px_iload_n dX7_eatOf_82 rfl ?_
          refine px_iload dX7_eatOf_83 rfl ?_
          refine px_isubN (by omega) dX7_eatOf_85 ?_
          refine px_istore_n dX7_eatOf_86 (by decide) ?_
          refine px_iincN (c := 1) (by decide) dX7_eatOf_87 rfl (by decide) ?_
          refine px_goto (tgt := 5) dX7_eatOf_90 (by decide) ?_
          refine px_keep [0, 1, 2, 3, 4] ?_
          refine K (a - min a (pl_g L1 b).2.2.1) (pl_amt L1 b ((pl_g L1 b).2.2.1 - min a (pl_g L1 b).2.2.1)) _ ?_ (pl_amt_len.trans hn) (by omega) ?_ (fun k0 hk => ?_)
          · have e2 : pt_up (pt_up T (25 + 5 * k) (T (25 + 5 * k) + (need - a))) (25 + 5 * k) (pt_up T (25 + 5 * k) (T (25 + 5 * k) + (need - a)) (25 + 5 * k) + min a (pl_g L1 b).2.2.1) = pt_up T (25 + 5 * k) (T (25 + 5 * k) + (need - (a - min a (pl_g L1 b).2.2.1))) := by
              funext j
              unfold pt_up
              by_cases e3 : j = 25 + 5 * k
              · rw [if_pos e3, if_pos e3, if_pos rfl]; omega
              · rw [if_neg e3, if_neg e3, if_neg e3]
            rw [← e2]
            exact hC3
          · rw [← hE, show L.length - i = (L.length - (i + 1)) + 1 by omega, pe_eat_some e h0]
          · rw [pv_uI_ne (by omega), pv_uI_ne (by omega)]
            exact hF k0 hk
  refine px_iload_n dX7_eatOf_0 rfl ?_
  refine px_istore_n dX7_eatOf_1 (by decide) ?_
  refine px_iconst (v := nI 0) dX7_eatOf_2 (by decide) ?_
  refine px_istore dX7_eatOf_3 (by decide) ?_
  refine key 0 (by omega) need L I ?_ rfl (Nat.le_refl _) rfl (fun _ _ => rfl)
  have e2 : pt_up T (25 + 5 * k) (T (25 + 5 * k) + (need - need)) = T := by
    funext j
    unfold pt_up
    by_cases e3 : j = 25 + 5 * k
    · rw [if_pos e3, e3]; omega
    · rw [if_neg e3]
  rw [e2]
  exact hC
theorem c_X7_eatOf {z : pv_Z} {E : pv_E} {d bc bs : Nat} {J : pv_JT} {I : pv_IT} {mi : pv_MI} {pc idx : Nat} {lv : pv_LV} {st : List Value} {q : Nat} {T : pv_T} {L : List pv_Lot} {Dm : Nat → Nat} {k need : Nat} (hd : decode mi.2.1 pc = .ok (.invokevirtual idx, 3)) (hlk : Cond.methodLink mi.1.cls idx mX7_eatOf.1 ∈ pv_W) (hD : 2+1 ≤ d) (hq : pv_ship q) (hC : CR I q T L) (hM : ∀ l, l < L.length → I (q + 43) l = nI (Dm l) ∧ Dm l ≤ 2100) (hk8 : k < 8) (hnd : need < 2147483648) (hcat : (st.map fun v => v.category).sum ≤ 8) (K : ∀ I' : pv_IT, CR I' q (pd_eat Dm k need (T, L)).2.1 (pd_eat Dm k need (T, L)).2.2 → (∀ k0 : Nat, k0 < q ∨ q + 42 ≤ k0 → I' k0 = I k0) → pv_X z E d bc bs mi (pc + 3) lv ((.int (nI (pd_eat Dm k need (T, L)).1)) :: st) pv_K0 pv_P0 (I') (J)) : pv_X z E d bc bs mi pc lv (.int (nI (need)) :: .int (nI (k)) :: .ref (q) :: st) pv_K0 pv_P0 I J := by
  obtain ⟨d, rfl⟩ : ∃ d0, d = d0 + 1 := ⟨d - 1, by omega⟩
  have key := px_callV (bc := bc) (bs := bs) (bc1 := 0) (bs1 := 0) (as := [.int (nI (k)), .int (nI (need))]) (E := E) (z := z) (lv := lv) hd mvX7_eatOf hlk hq.1 (by decide) rfl hq.2.1 rfl rfl hcat (by exact Nat.le_of_ble_eq_true rfl) (s_X7_eatOf (by omega) hq hC hM hk8 hnd K)
  rw [Nat.zero_add, Nat.zero_add] at key
  exact key
