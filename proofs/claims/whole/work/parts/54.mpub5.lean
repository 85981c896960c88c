/-! The reference: its calls that ask, the rest. -/
set_option maxRecDepth 100000 in
set_option maxHeartbeats 4000000 in
theorem s_X10_port {Q : pv_Q} {E : pv_E} {d bc bs : Nat} {J : pv_JT} {I : pv_IT} {T : pv_T} {L : List pv_Lot} {H : List pv_S} {B : List Nat} {n : Nat} {l0 w0 : Int32} (hD : 8 ≤ d) (hMA : MA I ((T, L), H, B)) (hw : wx n ((T, L), H, B)) (hn : n ≤ 600) (h : pm_ok Q I J (po_port ((T, L), H, B) l0 w0)) : pv_X (pv_ZQ E Q) E d bc bs mX10_port 0 [(0, .ref (365)), (1, .int (l0)), (2, .int (w0))] [] pv_K0 pv_P0 I J := by
  obtain ⟨hM, hS, hB⟩ := id hMA
  replace hM : MR (I 366) T L := hM
  replace hS : MSV I H := hS
  replace hB : MB I B := hB
  have hdy : dy (T, L) := hw.1.1
  have htb : tb T := hdy.1
  have hlb : lbs L := hdy.2.1
  have h31 : L.length ≤ 31 := hlb.1
  have h30 : L.length ≤ 30 := hw.1.2.1
  have h404 : T 404 ≤ 60 * n := hw.1.2.2.1
  have hn8 : T 405 ≤ 8 := htb.2.2.1
  have hp8 : T 407 ≤ 8 := htb.2.2.2.2.2.1.1
  have h10 : T 408 ≤ 10 := htb.2.2.2.2.2.2.2.1
  have hwk : wk (T, L) := ⟨hw.1.2.2.2.2.1, hw.1.2.2.2.2.2.1, hw.1.2.2.2.2.2.2⟩
  have hcw : (nI 10 ≤ w0 ∧ w0 ≤ nI (9 + T 405)) ↔ (nI 10 ≤ w0 ∧ w0 < nI (10 + T 405)) := by
    rw [Int32.le_iff_toInt_le (y := nI (9 + T 405)), nI_toInt (by omega), Int32.lt_iff_toInt_lt (y := nI (10 + T 405)), nI_toInt (by omega)]
    exact ⟨fun h => ⟨h.1, by have := h.2; omega⟩, fun h => ⟨h.1, by have := h.2; omega⟩⟩
  refine px_aload_n dX10_port_0 rfl ?_
  refine px_aload_n dX10_port_1 rfl ?_
  refine px_iload_n dX10_port_2 rfl ?_
  refine c_X10_isPort dX10_port_3 mlX10_69 (by omega) hM (by omega) (Nat.le_of_ble_eq_true rfl) ?_
  refine px_if_neB (tgt := 13) dX10_port_6 (by decide) (fun ha => ?_) (fun ha => ?_)
  · have ha0 := ha
    obtain ⟨l, l1, rfl, l3⟩ := pu_has_nI ha (by omega)
    refine px_iload_n dX10_port_13 rfl ?_
    refine px_iconst (v := nI 0) dX10_port_14 (by decide) ?_
    refine px_iconst (v := nI 1) dX10_port_15 (by decide) ?_
    refine c_X10_within dX10_port_16 mlX10_35 (by omega)  (Nat.le_of_ble_eq_true rfl) ?_
    refine px_if_neB (tgt := 42) dX10_port_19 (by decide) (fun hm => ?_) (fun hm => ?_)
    · have hm0 : pu_in w0 0 1 ∨ (nI 10 ≤ w0 ∧ w0 < nI (10 + T 405)) := Or.inl hm
      obtain ⟨w, w1, w2, rfl, w3⟩ := pu_in_nI hm (by omega) (by omega)
      refine px_iconst (v := nI 0) dX10_port_42 (by decide) ?_
      refine px_goto (tgt := 47) dX10_port_43 (by decide) ?_
      refine px_putI dX10_port_47 fwX10_31 pv_s_model (by decide) (by decide) rfl pv_k_model ?_
      refine px_aload_n dX10_port_50 rfl ?_
      refine px_getI dX10_port_51 flX10_31 pv_s_model (by decide) (by decide) rfl pv_k_model ?_
      refine px_iv (y := nI (0)) (by simp [pv_uI_at]) ?_
      refine px_if_leN (tgt := 61) dX10_port_54 (by decide) (by omega) (fun _ => ?_) (fun h0 => absurd h0 (by omega))
      obtain ⟨I0, hI0⟩ : ∃ I0, I0 = pv_uI I 365 0 (nI 0) := ⟨_, rfl⟩
      rw [← hI0]
      obtain ⟨hM0, hS0, hB0, hT0, hK0, hF0, hG0⟩ := pm_zero hM hS hB hI0
      refine px_aload_n dX10_port_61 rfl ?_
      refine px_getR dX10_port_62 flX10_7 pv_s_model (by decide) (by decide) rfl pv_k_model pv_p_365_1 ?_
      refine px_sipush (v := nI 324) dX10_port_65 (by decide) ?_
      refine px_bipush (v := nI 10) dX10_port_68 (by decide) ?_
      refine px_iload_n dX10_port_70 rfl ?_
      refine px_imulN dX10_port_71 ?_
      refine px_iaddN dX10_port_72 ?_
      refine px_iload_n dX10_port_73 rfl ?_
      refine px_iconst (v := nI 2) dX10_port_74 (by decide) ?_
      refine px_icmp_geN (tgt := 82) dX10_port_75 (by decide) (by omega) (by omega) (fun h2 => ?_) (fun h2 => ?_)
      · refine px_iload_n dX10_port_82 rfl ?_
        refine px_bipush (v := nI 8) dX10_port_83 (by decide) ?_
        refine px_isubN (by omega) dX10_port_85 ?_
        refine px_iaddN dX10_port_86 ?_
        refine px_iald (j := ((324 + (10 * l)) + (w - 8))) dX10_port_87 pv_a_z.1 rfl (by omega) pv_a_z.2.2 pv_a_z.2.1 ?_
        refine px_iv (y := nI (T (324 + 10 * l + (w - 8)))) (hM0.1 (324 + 10 * l + (w - 8)) (by omega) (by omega) (by omega)) ?_
        have h9 := (by unfold po_port at h; simp only [tn, l3, w3] at h; rw [if_pos ha0] at h; rw [if_pos hm0] at h; exact h)
        have ev : pt_port (T, L) l w = T (324 + 10 * l + (w - 8)) := by
          unfold pt_port
          rw [if_neg (by omega)]
        replace h9 : pm_ok Q I J (0, nI (pt_port (T, L) l w), ((T, L), H, B)) := h9
        rw [ev] at h9
        exact px_iret dX10_port_88 rfl (Or.inl rfl) (pm_same h9 hM0 hS0 hB0 hT0 hK0)
      · refine px_iload_n dX10_port_78 rfl ?_
        refine px_goto (tgt := 86) dX10_port_79 (by decide) ?_
        refine px_iaddN dX10_port_86 ?_
        refine px_iald (j := ((324 + (10 * l)) + w)) dX10_port_87 pv_a_z.1 rfl (by omega) pv_a_z.2.2 pv_a_z.2.1 ?_
        refine px_iv (y := nI (T (324 + 10 * l + w))) (hM0.1 (324 + 10 * l + w) (by omega) (by omega) (by omega)) ?_
        have h9 := (by unfold po_port at h; simp only [tn, l3, w3] at h; rw [if_pos ha0] at h; rw [if_pos hm0] at h; exact h)
        have ev : pt_port (T, L) l w = T (324 + 10 * l + w) := by
          unfold pt_port
          rw [if_pos (by omega)]
        replace h9 : pm_ok Q I J (0, nI (pt_port (T, L) l w), ((T, L), H, B)) := h9
        rw [ev] at h9
        exact px_iret dX10_port_88 rfl (Or.inl rfl) (pm_same h9 hM0 hS0 hB0 hT0 hK0)
    · refine px_iload_n dX10_port_22 rfl ?_
      refine px_bipush (v := nI 10) dX10_port_23 (by decide) ?_
      refine px_bipush (v := nI 9) dX10_port_25 (by decide) ?_
      refine px_aload_n dX10_port_27 rfl ?_
      refine px_getR dX10_port_28 flX10_7 pv_s_model (by decide) (by decide) rfl pv_k_model pv_p_365_1 ?_
      refine px_sipush (v := nI 405) dX10_port_31 (by decide) ?_
      refine px_iald (j := 405) dX10_port_34 pv_a_z.1 rfl (by omega) pv_a_z.2.2 pv_a_z.2.1 ?_
      refine px_iv (y := nI (T (405))) (hM.1 (405) (by omega) (by omega) (by omega)) ?_
      refine px_iaddN dX10_port_35 ?_
      refine c_X10_within dX10_port_36 mlX10_35 (by omega)  (Nat.le_of_ble_eq_true rfl) ?_
      refine px_if_eqB (tgt := 46) dX10_port_39 (by decide) (fun hn2 => ?_) (fun hn2 => ?_)
      · refine px_iconst (v := nI 2) dX10_port_46 (by decide) ?_
        refine px_putI dX10_port_47 fwX10_31 pv_s_model (by decide) (by decide) rfl pv_k_model ?_
        refine px_aload_n dX10_port_50 rfl ?_
        refine px_getI dX10_port_51 flX10_31 pv_s_model (by decide) (by decide) rfl pv_k_model ?_
        refine px_iv (y := nI (2)) (by simp [pv_uI_at]) ?_
        refine px_if_leN (tgt := 61) dX10_port_54 (by decide) (by omega) (fun h0 => absurd h0 (by omega)) (fun _ => ?_)
        refine px_iconst (v := nI 0) dX10_port_57 (by decide) ?_
        refine px_goto (tgt := 88) dX10_port_58 (by decide) ?_
        exact px_iret dX10_port_88 rfl (Or.inl rfl) (pm_exc (by unfold po_port at h; simp only [tn, l3] at h; rw [if_pos ha0] at h; rw [if_neg (fun z => z.elim (fun y => hm y) (fun y => hn2 (hcw.mpr y)))] at h; exact h) hMA)
      · have hm0 : pu_in w0 0 1 ∨ (nI 10 ≤ w0 ∧ w0 < nI (10 + T 405)) := Or.inr (hcw.mp hn2)
        replace hn2 : pu_in w0 10 (9 + T 405) := hn2
        have hk1 : 1 ≤ T 405 := by
          rcases Nat.eq_zero_or_pos (T 405) with e | e
          · exfalso
            have := Int32.le_trans hn2.1 hn2.2
            rw [e] at this
            exact absurd this (by decide)
          · exact e
        obtain ⟨w, w1, w2, rfl, w3⟩ := pu_in_nI hn2 (by omega) (by omega)
        refine px_iconst (v := nI 0) dX10_port_42 (by decide) ?_
        refine px_goto (tgt := 47) dX10_port_43 (by decide) ?_
        refine px_putI dX10_port_47 fwX10_31 pv_s_model (by decide) (by decide) rfl pv_k_model ?_
        refine px_aload_n dX10_port_50 rfl ?_
        refine px_getI dX10_port_51 flX10_31 pv_s_model (by decide) (by decide) rfl pv_k_model ?_
        refine px_iv (y := nI (0)) (by simp [pv_uI_at]) ?_
        refine px_if_leN (tgt := 61) dX10_port_54 (by decide) (by omega) (fun _ => ?_) (fun h0 => absurd h0 (by omega))
        obtain ⟨I0, hI0⟩ : ∃ I0, I0 = pv_uI I 365 0 (nI 0) := ⟨_, rfl⟩
        rw [← hI0]
        obtain ⟨hM0, hS0, hB0, hT0, hK0, hF0, hG0⟩ := pm_zero hM hS hB hI0
        refine px_aload_n dX10_port_61 rfl ?_
        refine px_getR dX10_port_62 flX10_7 pv_s_model (by decide) (by decide) rfl pv_k_model pv_p_365_1 ?_
        refine px_sipush (v := nI 324) dX10_port_65 (by decide) ?_
        refine px_bipush (v := nI 10) dX10_port_68 (by decide) ?_
        refine px_iload_n dX10_port_70 rfl ?_
        refine px_imulN dX10_port_71 ?_
        refine px_iaddN dX10_port_72 ?_
        refine px_iload_n dX10_port_73 rfl ?_
        refine px_iconst (v := nI 2) dX10_port_74 (by decide) ?_
        refine px_icmp_geN (tgt := 82) dX10_port_75 (by decide) (by omega) (by omega) (fun h2 => ?_) (fun h2 => ?_)
        · refine px_iload_n dX10_port_82 rfl ?_
          refine px_bipush (v := nI 8) dX10_port_83 (by decide) ?_
          refine px_isubN (by omega) dX10_port_85 ?_
          refine px_iaddN dX10_port_86 ?_
          refine px_iald (j := ((324 + (10 * l)) + (w - 8))) dX10_port_87 pv_a_z.1 rfl (by omega) pv_a_z.2.2 pv_a_z.2.1 ?_
          refine px_iv (y := nI (T (324 + 10 * l + (w - 8)))) (hM0.1 (324 + 10 * l + (w - 8)) (by omega) (by omega) (by omega)) ?_
          have h9 := (by unfold po_port at h; simp only [tn, l3, w3] at h; rw [if_pos ha0] at h; rw [if_pos hm0] at h; exact h)
          have ev : pt_port (T, L) l w = T (324 + 10 * l + (w - 8)) := by
            unfold pt_port
            rw [if_neg (by omega)]
          replace h9 : pm_ok Q I J (0, nI (pt_port (T, L) l w), ((T, L), H, B)) := h9
          rw [ev] at h9
          exact px_iret dX10_port_88 rfl (Or.inl rfl) (pm_same h9 hM0 hS0 hB0 hT0 hK0)
        · refine px_iload_n dX10_port_78 rfl ?_
          refine px_goto (tgt := 86) dX10_port_79 (by decide) ?_
          refine px_iaddN dX10_port_86 ?_
          refine px_iald (j := ((324 + (10 * l)) + w)) dX10_port_87 pv_a_z.1 rfl (by omega) pv_a_z.2.2 pv_a_z.2.1 ?_
          refine px_iv (y := nI (T (324 + 10 * l + w))) (hM0.1 (324 + 10 * l + w) (by omega) (by omega) (by omega)) ?_
          have h9 := (by unfold po_port at h; simp only [tn, l3, w3] at h; rw [if_pos ha0] at h; rw [if_pos hm0] at h; exact h)
          have ev : pt_port (T, L) l w = T (324 + 10 * l + w) := by
            unfold pt_port
            rw [if_pos (by omega)]
          replace h9 : pm_ok Q I J (0, nI (pt_port (T, L) l w), ((T, L), H, B)) := h9
          rw [ev] at h9
          exact px_iret dX10_port_88 rfl (Or.inl rfl) (pm_same h9 hM0 hS0 hB0 hT0 hK0)
  · refine px_iconst (v := nI 1) dX10_port_9 (by decide) ?_
    refine px_goto (tgt := 47) dX10_port_10 (by decide) ?_
    refine px_putI dX10_port_47 fwX10_31 pv_s_model (by decide) (by decide) rfl pv_k_model ?_
    refine px_aload_n dX10_port_50 rfl ?_
    refine px_getI dX10_port_51 flX10_31 pv_s_model (by decide) (by decide) rfl pv_k_model ?_
    refine px_iv (y := nI (1)) (by simp [pv_uI_at]) ?_
    refine px_if_leN (tgt := 61) dX10_port_54 (by decide) (by omega) (fun h0 => absurd h0 (by omega)) (fun _ => ?_)
    refine px_iconst (v := nI 0) dX10_port_57 (by decide) ?_
    refine px_goto (tgt := 88) dX10_port_58 (by decide) ?_
    exact px_iret dX10_port_88 rfl (Or.inl rfl) (pm_exc (by unfold po_port at h; rw [if_neg ha] at h; exact h) hMA)
theorem c_X10_port {z : pv_Z} {E : pv_E} {d bc bs : Nat} {J : pv_JT} {I : pv_IT} {mi : pv_MI} {pc idx : Nat} {lv : pv_LV} {st : List Value} {T : pv_T} {L : List pv_Lot} {H : List pv_S} {B : List Nat} {n : Nat} {l0 w0 : Int32} (hd : decode mi.2.1 pc = .ok (.invokevirtual idx, 3)) (hlk : Cond.methodLink mi.1.cls idx mX10_port.1 ∈ pv_W) (hD : 8+1 ≤ d) (hMA : MA I ((T, L), H, B)) (hw : wx n ((T, L), H, B)) (hn : n ≤ 600) (hcat : (st.map fun v => v.category).sum ≤ 8) (K : pm_ok (pv_K z E d bc bs mi pc lv st) I J (po_port ((T, L), H, B) l0 w0)) : pv_X z E d bc bs mi pc lv (.int (w0) :: .int (l0) :: .ref (365) :: st) pv_K0 pv_P0 I J := by
  obtain ⟨d, rfl⟩ : ∃ d0, d = d0 + 1 := ⟨d - 1, by omega⟩
  have key := px_callV (bc := bc) (bs := bs) (bc1 := 0) (bs1 := 0) (as := [.int (l0), .int (w0)]) (E := E) (z := z) (lv := lv) hd mvX10_port hlk pv_s_model (by decide) rfl pv_k_model rfl rfl hcat (by exact Nat.le_of_ble_eq_true rfl) (s_X10_port (by omega) hMA hw hn K)
  rw [Nat.zero_add, Nat.zero_add] at key
  exact key
set_option maxRecDepth 100000 in
set_option maxHeartbeats 4000000 in
theorem s_X10_menu {Q : pv_Q} {E : pv_E} {d bc bs : Nat} {J : pv_JT} {I : pv_IT} {T : pv_T} {L : List pv_Lot} {H : List pv_S} {B : List Nat} {n : Nat} {m0 i0 w0 : Int32} (hD : 8 ≤ d) (hMA : MA I ((T, L), H, B)) (hw : wx n ((T, L), H, B)) (hn : n ≤ 600) (h : pm_ok Q I J (po_menu ((T, L), H, B) m0 i0 w0)) : pv_X (pv_ZQ E Q) E d bc bs mX10_menu 0 [(0, .ref (365)), (1, .int (m0)), (2, .int (i0)), (3, .int (w0))] [] pv_K0 pv_P0 I J := by
  obtain ⟨hM, hS, hB⟩ := id hMA
  replace hM : MR (I 366) T L := hM
  replace hS : MSV I H := hS
  replace hB : MB I B := hB
  have hdy : dy (T, L) := hw.1.1
  have htb : tb T := hdy.1
  have hlb : lbs L := hdy.2.1
  have h31 : L.length ≤ 31 := hlb.1
  have h30 : L.length ≤ 30 := hw.1.2.1
  have h404 : T 404 ≤ 60 * n := hw.1.2.2.1
  have hn8 : T 405 ≤ 8 := htb.2.2.1
  have hp8 : T 407 ≤ 8 := htb.2.2.2.2.2.1.1
  have h10 : T 408 ≤ 10 := htb.2.2.2.2.2.2.2.1
  have hwk : wk (T, L) := ⟨hw.1.2.2.2.2.1, hw.1.2.2.2.2.2.1, hw.1.2.2.2.2.2.2⟩
  refine px_aload_n dX10_menu_0 rfl ?_
  refine px_iload_n dX10_menu_1 rfl ?_
  refine px_iconst (v := nI 0) dX10_menu_2 (by decide) ?_
  refine px_aload_n dX10_menu_3 rfl ?_
  refine px_getR dX10_menu_4 flX10_7 pv_s_model (by decide) (by decide) rfl pv_k_model pv_p_365_1 ?_
  refine px_sipush (v := nI 408) dX10_menu_7 (by decide) ?_
  refine px_iald (j := 408) dX10_menu_10 pv_a_z.1 rfl (by omega) pv_a_z.2.2 pv_a_z.2.1 ?_
  refine px_iv (y := nI (T (408))) (hM.1 (408) (by omega) (by omega) (by omega)) ?_
  refine px_iconst (v := nI 1) dX10_menu_11 (by decide) ?_
  refine px_isub dX10_menu_12 ?_
  refine c_X10_within dX10_menu_13 mlX10_35 (by omega)  (Nat.le_of_ble_eq_true rfl) ?_
  refine px_if_eqB (tgt := 28) dX10_menu_16 (by decide) (fun hw1 => ?_) (fun hw1 => ?_)
  · refine px_iconst (v := nI 1) dX10_menu_28 (by decide) ?_
    refine px_goto (tgt := 46) dX10_menu_29 (by decide) ?_
    refine px_putI dX10_menu_46 fwX10_31 pv_s_model (by decide) (by decide) rfl pv_k_model ?_
    refine px_aload_n dX10_menu_49 rfl ?_
    refine px_getI dX10_menu_50 flX10_31 pv_s_model (by decide) (by decide) rfl pv_k_model ?_
    refine px_iv (y := nI (1)) (by simp [pv_uI_at]) ?_
    refine px_if_leN (tgt := 60) dX10_menu_53 (by decide) (by omega) (fun h0 => absurd h0 (by omega)) (fun _ => ?_)
    refine px_iconst (v := nI 0) dX10_menu_56 (by decide) ?_
    refine px_goto (tgt := 67) dX10_menu_57 (by decide) ?_
    exact px_iret dX10_menu_67 rfl (Or.inl rfl) (pm_exc (by unfold po_menu at h; rw [if_neg (fun z => hw1 ((pu_has_le (by omega)).mpr z.1))] at h; exact h) hMA)
  · refine px_iload_n dX10_menu_19 rfl ?_
    refine px_iconst (v := nI 0) dX10_menu_20 (by decide) ?_
    refine px_iconst (v := nI 3) dX10_menu_21 (by decide) ?_
    refine c_X10_within dX10_menu_22 mlX10_35 (by omega)  (Nat.le_of_ble_eq_true rfl) ?_
    refine px_if_neB (tgt := 32) dX10_menu_25 (by decide) (fun hw2 => ?_) (fun hw2 => ?_)
    · have hab : pu_has m0 (T 408) ∧ pu_has i0 4 := ⟨(pu_has_le (by omega)).mp hw1, (pu_has_in (by decide)).mp hw2⟩
      have ha := hab.1
      have hb := hab.2
      obtain ⟨m, m1, rfl, m3⟩ := pu_has_nI ha (by omega)
      obtain ⟨i, i1, rfl, i3⟩ := pu_has_nI hb (by omega)
      refine px_iload_n dX10_menu_32 rfl ?_
      refine px_iconst (v := nI 0) dX10_menu_33 (by decide) ?_
      refine px_iconst (v := nI 2) dX10_menu_34 (by decide) ?_
      refine c_X10_within dX10_menu_35 mlX10_35 (by omega)  (Nat.le_of_ble_eq_true rfl) ?_
      refine px_if_eqB (tgt := 45) dX10_menu_38 (by decide) (fun hm => ?_) (fun hm => ?_)
      · refine px_iconst (v := nI 2) dX10_menu_45 (by decide) ?_
        refine px_putI dX10_menu_46 fwX10_31 pv_s_model (by decide) (by decide) rfl pv_k_model ?_
        refine px_aload_n dX10_menu_49 rfl ?_
        refine px_getI dX10_menu_50 flX10_31 pv_s_model (by decide) (by decide) rfl pv_k_model ?_
        refine px_iv (y := nI (2)) (by simp [pv_uI_at]) ?_
        refine px_if_leN (tgt := 60) dX10_menu_53 (by decide) (by omega) (fun h0 => absurd h0 (by omega)) (fun _ => ?_)
        refine px_iconst (v := nI 0) dX10_menu_56 (by decide) ?_
        refine px_goto (tgt := 67) dX10_menu_57 (by decide) ?_
        exact px_iret dX10_menu_67 rfl (Or.inl rfl) (pm_exc (by unfold po_menu at h; simp only [tn, m3, i3] at h; rw [if_pos hab] at h; rw [if_neg hm] at h; exact h) hMA)
      · have hm0 := hm
        obtain ⟨w, w1, w2, rfl, w3⟩ := pu_in_nI hm (by omega) (by omega)
        refine px_iconst (v := nI 0) dX10_menu_41 (by decide) ?_
        refine px_goto (tgt := 46) dX10_menu_42 (by decide) ?_
        refine px_putI dX10_menu_46 fwX10_31 pv_s_model (by decide) (by decide) rfl pv_k_model ?_
        refine px_aload_n dX10_menu_49 rfl ?_
        refine px_getI dX10_menu_50 flX10_31 pv_s_model (by decide) (by decide) rfl pv_k_model ?_
        refine px_iv (y := nI (0)) (by simp [pv_uI_at]) ?_
        refine px_if_leN (tgt := 60) dX10_menu_53 (by decide) (by omega) (fun _ => ?_) (fun h0 => absurd h0 (by omega))
        obtain ⟨I0, hI0⟩ : ∃ I0, I0 = pv_uI I 365 0 (nI 0) := ⟨_, rfl⟩
        rw [← hI0]
        obtain ⟨hM0, hS0, hB0, hT0, hK0, hF0, hG0⟩ := pm_zero hM hS hB hI0
        refine px_aload_n dX10_menu_60 rfl ?_
        refine px_iload_n dX10_menu_61 rfl ?_
        refine px_iload_n dX10_menu_62 rfl ?_
        refine px_iload_n dX10_menu_63 rfl ?_
        refine c_X10_menuNow dX10_menu_64 mlX10_174 (by omega) hM0 htb (by omega) (by omega) (by omega) (Nat.le_of_ble_eq_true rfl) ?_
        exact px_iret dX10_menu_67 rfl (Or.inl rfl) (pm_same (by unfold po_menu at h; simp only [tn, m3, i3, w3] at h; rw [if_pos hab] at h; rw [if_pos hm0] at h; exact h) hM0 hS0 hB0 hT0 hK0)
    · refine px_iconst (v := nI 1) dX10_menu_28 (by decide) ?_
      refine px_goto (tgt := 46) dX10_menu_29 (by decide) ?_
      refine px_putI dX10_menu_46 fwX10_31 pv_s_model (by decide) (by decide) rfl pv_k_model ?_
      refine px_aload_n dX10_menu_49 rfl ?_
      refine px_getI dX10_menu_50 flX10_31 pv_s_model (by decide) (by decide) rfl pv_k_model ?_
      refine px_iv (y := nI (1)) (by simp [pv_uI_at]) ?_
      refine px_if_leN (tgt := 60) dX10_menu_53 (by decide) (by omega) (fun h0 => absurd h0 (by omega)) (fun _ => ?_)
      refine px_iconst (v := nI 0) dX10_menu_56 (by decide) ?_
      refine px_goto (tgt := 67) dX10_menu_57 (by decide) ?_
      exact px_iret dX10_menu_67 rfl (Or.inl rfl) (pm_exc (by unfold po_menu at h; rw [if_neg (fun z => hw2 ((pu_has_in (by decide)).mpr z.2))] at h; exact h) hMA)
theorem c_X10_menu {z : pv_Z} {E : pv_E} {d bc bs : Nat} {J : pv_JT} {I : pv_IT} {mi : pv_MI} {pc idx : Nat} {lv : pv_LV} {st : List Value} {T : pv_T} {L : List pv_Lot} {H : List pv_S} {B : List Nat} {n : Nat} {m0 i0 w0 : Int32} (hd : decode mi.2.1 pc = .ok (.invokevirtual idx, 3)) (hlk : Cond.methodLink mi.1.cls idx mX10_menu.1 ∈ pv_W) (hD : 8+1 ≤ d) (hMA : MA I ((T, L), H, B)) (hw : wx n ((T, L), H, B)) (hn : n ≤ 600) (hcat : (st.map fun v => v.category).sum ≤ 8) (K : pm_ok (pv_K z E d bc bs mi pc lv st) I J (po_menu ((T, L), H, B) m0 i0 w0)) : pv_X z E d bc bs mi pc lv (.int (w0) :: .int (i0) :: .int (m0) :: .ref (365) :: st) pv_K0 pv_P0 I J := by
  obtain ⟨d, rfl⟩ : ∃ d0, d = d0 + 1 := ⟨d - 1, by omega⟩
  have key := px_callV (bc := bc) (bs := bs) (bc1 := 0) (bs1 := 0) (as := [.int (m0), .int (i0), .int (w0)]) (E := E) (z := z) (lv := lv) hd mvX10_menu hlk pv_s_model (by decide) rfl pv_k_model rfl rfl hcat (by exact Nat.le_of_ble_eq_true rfl) (s_X10_menu (by omega) hMA hw hn K)
  rw [Nat.zero_add, Nat.zero_add] at key
  exact key
set_option maxRecDepth 100000 in
set_option maxHeartbeats 4000000 in
theorem s_X10_cheapest {Q : pv_Q} {E : pv_E} {d bc bs : Nat} {J : pv_JT} {I : pv_IT} {T : pv_T} {L : List pv_Lot} {H : List pv_S} {B : List Nat} {n : Nat} {k0 : Int32} (hD : 8 ≤ d) (hMA : MA I ((T, L), H, B)) (hw : wx n ((T, L), H, B)) (hn : n ≤ 600) (h : pm_ok Q I J (po_cheap ((T, L), H, B) k0)) : pv_X (pv_ZQ E Q) E d bc bs mX10_cheapest 0 [(0, .ref (365)), (1, .int (k0))] [] pv_K0 pv_P0 I J := by
  obtain ⟨hM, hS, hB⟩ := id hMA
  replace hM : MR (I 366) T L := hM
  replace hS : MSV I H := hS
  replace hB : MB I B := hB
  have hdy : dy (T, L) := hw.1.1
  have htb : tb T := hdy.1
  have hlb : lbs L := hdy.2.1
  have h31 : L.length ≤ 31 := hlb.1
  have h30 : L.length ≤ 30 := hw.1.2.1
  have h404 : T 404 ≤ 60 * n := hw.1.2.2.1
  have hn8 : T 405 ≤ 8 := htb.2.2.1
  have hp8 : T 407 ≤ 8 := htb.2.2.2.2.2.1.1
  have h10 : T 408 ≤ 10 := htb.2.2.2.2.2.2.2.1
  have hwk : wk (T, L) := ⟨hw.1.2.2.2.2.1, hw.1.2.2.2.2.2.1, hw.1.2.2.2.2.2.2⟩
  refine px_aload_n dX10_cheapest_0 rfl ?_
  refine px_aload_n dX10_cheapest_1 rfl ?_
  refine px_iload_n dX10_cheapest_2 rfl ?_
  refine c_X10_isKind dX10_cheapest_3 mlX10_72 (by omega) hM (by omega) (Nat.le_of_ble_eq_true rfl) ?_
  refine px_if_eqB (tgt := 13) dX10_cheapest_6 (by decide) (fun ha => ?_) (fun ha => ?_)
  · refine px_iconst (v := nI 1) dX10_cheapest_13 (by decide) ?_
    refine px_putI dX10_cheapest_14 fwX10_31 pv_s_model (by decide) (by decide) rfl pv_k_model ?_
    refine px_aload_n dX10_cheapest_17 rfl ?_
    refine px_getI dX10_cheapest_18 flX10_31 pv_s_model (by decide) (by decide) rfl pv_k_model ?_
    refine px_iv (y := nI (1)) (by simp [pv_uI_at]) ?_
    refine px_if_leN (tgt := 26) dX10_cheapest_21 (by decide) (by omega) (fun h0 => absurd h0 (by omega)) (fun _ => ?_)
    refine px_iconst (v := nI 0) dX10_cheapest_24 (by decide) ?_
    exact px_iret dX10_cheapest_25 rfl (Or.inl rfl) (pm_exc (by unfold po_cheap at h; rw [if_neg ha] at h; exact h) hMA)
  · have ha0 := ha
    obtain ⟨k, k1, rfl, k3⟩ := pu_has_nI ha (by omega)
    refine px_iconst (v := nI 0) dX10_cheapest_9 (by decide) ?_
    refine px_goto (tgt := 14) dX10_cheapest_10 (by decide) ?_
    refine px_putI dX10_cheapest_14 fwX10_31 pv_s_model (by decide) (by decide) rfl pv_k_model ?_
    refine px_aload_n dX10_cheapest_17 rfl ?_
    refine px_getI dX10_cheapest_18 flX10_31 pv_s_model (by decide) (by decide) rfl pv_k_model ?_
    refine px_iv (y := nI (0)) (by simp [pv_uI_at]) ?_
    refine px_if_leN (tgt := 26) dX10_cheapest_21 (by decide) (by omega) (fun _ => ?_) (fun h0 => absurd h0 (by omega))
    obtain ⟨I0, hI0⟩ : ∃ I0, I0 = pv_uI I 365 0 (nI 0) := ⟨_, rfl⟩
    rw [← hI0]
    obtain ⟨hM0, hS0, hB0, hT0, hK0, hF0, hG0⟩ := pm_zero hM hS hB hI0
    refine px_iconst (v := -1) dX10_cheapest_26 (by decide) ?_
    refine px_istore_n dX10_cheapest_27 (by decide) ?_
    refine px_iconst (v := nI 0) dX10_cheapest_28 (by decide) ?_
    refine px_istore_n dX10_cheapest_29 (by decide) ?_
    have h9 := (by unfold po_cheap at h; simp only [tn, k3] at h; rw [if_pos ha0] at h; exact h)
    replace h9 : pm_ok Q I J (0, oI (pt_cheapN T k (T 407)), ((T, L), H, B)) := h9
    have hpb := htb.2.2.2.2.2.1.2.1
    have key : ∀ i : Nat, i ≤ T 407 → pv_X (pv_ZQ E Q) E d bc bs mX10_cheapest 30 [(0, .ref 365), (1, .int (nI k)), (2, .int (oI (pt_cheapN T k (i)))), (3, .int (nI (i)))] [] pv_K0 pv_P0 (I0) (J) := by
      refine pv_up (T 407) ?_ ?_
      · refine px_iload_n dX10_cheapest_30 rfl ?_
        refine px_aload_n dX10_cheapest_31 rfl ?_
        refine px_getR dX10_cheapest_32 flX10_7 pv_s_model (by decide) (by decide) rfl pv_k_model pv_p_365_1 ?_
        refine px_sipush (v := nI 407) dX10_cheapest_35 (by decide) ?_
        refine px_iald (j := 407) dX10_cheapest_38 pv_a_z.1 rfl (by omega) pv_a_z.2.2 pv_a_z.2.1 ?_
        refine px_iv (y := nI (T (407))) (hM0.1 (407) (by omega) (by omega) (by omega)) ?_
        refine px_icmp_geN (tgt := 141) dX10_cheapest_39 (by decide) (by omega) (by omega) (fun _ => ?_) (fun h0 => absurd h0 (by omega))
        refine px_iload_n dX10_cheapest_141 rfl ?_
        exact px_iret dX10_cheapest_142 rfl (Or.inl rfl) (pm_same h9 hM0 hS0 hB0 hT0 hK0)
      · intro i hi K 
        have hpr : pt_price T i k ≤ 100 := (hpb i hi).2.2 k (by omega)
        have hdd := (hpb i hi).1
        refine px_iload_n dX10_cheapest_30 rfl ?_
        refine px_aload_n dX10_cheapest_31 rfl ?_
        refine px_getR dX10_cheapest_32 flX10_7 pv_s_model (by decide) (by decide) rfl pv_k_model pv_p_365_1 ?_
        refine px_sipush (v := nI 407) dX10_cheapest_35 (by decide) ?_
        refine px_iald (j := 407) dX10_cheapest_38 pv_a_z.1 rfl (by omega) pv_a_z.2.2 pv_a_z.2.1 ?_
        refine px_iv (y := nI (T (407))) (hM0.1 (407) (by omega) (by omega) (by omega)) ?_
        refine px_icmp_geN (tgt := 141) dX10_cheapest_39 (by decide) (by omega) (by omega) (fun h0 => absurd h0 (by omega)) (fun _ => ?_)
        refine px_aload_n dX10_cheapest_42 rfl ?_
        refine px_getR dX10_cheapest_43 flX10_7 pv_s_model (by decide) (by decide) rfl pv_k_model pv_p_365_1 ?_
        refine px_sipush (v := nI 324) dX10_cheapest_46 (by decide) ?_
        refine px_bipush (v := nI 10) dX10_cheapest_49 (by decide) ?_
        refine px_iload_n dX10_cheapest_51 rfl ?_
        refine px_imulN dX10_cheapest_52 ?_
        refine px_iaddN dX10_cheapest_53 ?_
        refine px_iconst (v := nI 2) dX10_cheapest_54 (by decide) ?_
        refine px_iaddN dX10_cheapest_55 ?_
        refine px_iload_n dX10_cheapest_56 rfl ?_
        refine px_iaddN dX10_cheapest_57 ?_
        refine px_iald (j := (((324 + (10 * i)) + 2) + k)) dX10_cheapest_58 pv_a_z.1 rfl (by omega) pv_a_z.2.2 pv_a_z.2.1 ?_
        refine px_iv (y := nI (T (326 + 10 * i + k))) ((hM0.1 ((((324 + (10 * i)) + 2) + k)) (by omega) (by omega) (by omega)).trans (congrArg nI (congrArg T (by omega)))) ?_
        rw [show T (326 + 10 * i + k) = pt_price T i k from rfl]
        refine px_istore dX10_cheapest_59 (by decide) ?_
        refine px_iload dX10_cheapest_61 rfl ?_
        refine px_if_leN (tgt := 94) dX10_cheapest_63 (by decide) (by omega) (fun h5 => ?_) (fun h5 => ?_)
        · refine px_iconst (v := nI 0) dX10_cheapest_94 (by decide) ?_
          refine px_istore dX10_cheapest_95 (by decide) ?_
          refine px_iload dX10_cheapest_97 rfl ?_
          refine px_if_eqN (tgt := 133) dX10_cheapest_99 (by decide) (by omega) (fun _ => ?_) (fun h0 => absurd h0 (by omega))
          refine px_iload_n dX10_cheapest_133 rfl ?_
          refine px_istore_n dX10_cheapest_134 (by decide) ?_
          refine px_iincN (c := 1) (by decide) dX10_cheapest_135 rfl (by decide) ?_
          refine px_goto (tgt := 30) dX10_cheapest_138 (by decide) ?_
          refine px_keep [0, 1, 2, 3] ?_
          rw [show pt_cheapN T k (i + 1) = pt_cheapN T k i by rw [pt_cheapN, if_neg (by omega)]] at K
          exact K
        · refine px_aload_n dX10_cheapest_66 rfl ?_
          refine px_getR dX10_cheapest_67 flX10_7 pv_s_model (by decide) (by decide) rfl pv_k_model pv_p_365_1 ?_
          refine px_sipush (v := nI 324) dX10_cheapest_70 (by decide) ?_
          refine px_bipush (v := nI 10) dX10_cheapest_73 (by decide) ?_
          refine px_iload_n dX10_cheapest_75 rfl ?_
          refine px_imulN dX10_cheapest_76 ?_
          refine px_iaddN dX10_cheapest_77 ?_
          refine px_iald (j := (324 + (10 * i))) dX10_cheapest_78 pv_a_z.1 rfl (by omega) pv_a_z.2.2 pv_a_z.2.1 ?_
          refine px_iv (y := nI (T ((324 + (10 * i))))) (hM0.1 ((324 + (10 * i))) (by omega) (by omega) (by omega)) ?_
          refine px_aload_n dX10_cheapest_79 rfl ?_
          refine px_getR dX10_cheapest_80 flX10_7 pv_s_model (by decide) (by decide) rfl pv_k_model pv_p_365_1 ?_
          refine px_sipush (v := nI 404) dX10_cheapest_83 (by decide) ?_
          refine px_iald (j := 404) dX10_cheapest_86 pv_a_z.1 rfl (by omega) pv_a_z.2.2 pv_a_z.2.1 ?_
          refine px_iv (y := nI (T (404))) (hM0.1 (404) (by omega) (by omega) (by omega)) ?_
          refine px_icmp_ltN (tgt := 94) dX10_cheapest_87 (by decide) (by omega) (by omega) (fun h6 => ?_) (fun h6 => ?_)
          · refine px_iconst (v := nI 0) dX10_cheapest_94 (by decide) ?_
            refine px_istore dX10_cheapest_95 (by decide) ?_
            refine px_iload dX10_cheapest_97 rfl ?_
            refine px_if_eqN (tgt := 133) dX10_cheapest_99 (by decide) (by omega) (fun _ => ?_) (fun h0 => absurd h0 (by omega))
            refine px_iload_n dX10_cheapest_133 rfl ?_
            refine px_istore_n dX10_cheapest_134 (by decide) ?_
            refine px_iincN (c := 1) (by decide) dX10_cheapest_135 rfl (by decide) ?_
            refine px_goto (tgt := 30) dX10_cheapest_138 (by decide) ?_
            refine px_keep [0, 1, 2, 3] ?_
            rw [show pt_cheapN T k (i + 1) = pt_cheapN T k i by rw [pt_cheapN, if_neg (by omega)]] at K
            exact K
          · refine px_iconst (v := nI 1) dX10_cheapest_90 (by decide) ?_
            refine px_goto (tgt := 95) dX10_cheapest_91 (by decide) ?_
            refine px_istore dX10_cheapest_95 (by decide) ?_
            refine px_iload dX10_cheapest_97 rfl ?_
            refine px_if_eqN (tgt := 133) dX10_cheapest_99 (by decide) (by omega) (fun h0 => absurd h0 (by omega)) (fun _ => ?_)
            refine px_iload_n dX10_cheapest_102 rfl ?_
            refine px_iconst (v := -1) dX10_cheapest_103 (by decide) ?_
            cases e : pt_cheapN T k i with
            | none =>
              have e1 : pt_cheapN T k (i + 1) = some i := by rw [pt_cheapN, if_pos ⟨by omega, by omega⟩, e]
              rw [e1] at K
              refine px_icmp_eq (tgt := 129) dX10_cheapest_104 (by decide) (fun _ => ?_) (fun h8 => absurd rfl h8)
              refine px_iload_n dX10_cheapest_129 rfl ?_
              refine px_goto (tgt := 134) dX10_cheapest_130 (by decide) ?_
              refine px_istore_n dX10_cheapest_134 (by decide) ?_
              refine px_iincN (c := 1) (by decide) dX10_cheapest_135 rfl (by decide) ?_
              refine px_goto (tgt := 30) dX10_cheapest_138 (by decide) ?_
              refine px_keep [0, 1, 2, 3] ?_
              exact K
            | some b =>
              have e1 : pt_cheapN T k (i + 1) = if pt_price T i k < pt_price T b k then some i else some b := by rw [pt_cheapN, if_pos ⟨by omega, by omega⟩, e]
              have hbi := pt_cheapN_lt e
              have hprb : pt_price T b k ≤ 100 := (hpb b (by omega)).2.2 k (by omega)
              refine px_icmp_eq (tgt := 129) dX10_cheapest_104 (by decide) (fun h8 => absurd h8 (pn_m1 (by omega))) (fun _ => ?_)
              refine px_iload dX10_cheapest_107 rfl ?_
              refine px_aload_n dX10_cheapest_109 rfl ?_
              refine px_getR dX10_cheapest_110 flX10_7 pv_s_model (by decide) (by decide) rfl pv_k_model pv_p_365_1 ?_
              refine px_sipush (v := nI 324) dX10_cheapest_113 (by decide) ?_
              refine px_bipush (v := nI 10) dX10_cheapest_116 (by decide) ?_
              refine px_iload_n dX10_cheapest_118 rfl ?_
              refine px_imulN dX10_cheapest_119 ?_
              refine px_iaddN dX10_cheapest_120 ?_
              refine px_iconst (v := nI 2) dX10_cheapest_121 (by decide) ?_
              refine px_iaddN dX10_cheapest_122 ?_
              refine px_iload_n dX10_cheapest_123 rfl ?_
              refine px_iaddN dX10_cheapest_124 ?_
              refine px_iald (j := (((324 + (10 * b)) + 2) + k)) dX10_cheapest_125 pv_a_z.1 rfl (by omega) pv_a_z.2.2 pv_a_z.2.1 ?_
              refine px_iv (y := nI (T (326 + 10 * b + k))) ((hM0.1 ((((324 + (10 * b)) + 2) + k)) (by omega) (by omega) (by omega)).trans (congrArg nI (congrArg T (by omega)))) ?_
              rw [show T (326 + 10 * b + k) = pt_price T b k from rfl]
              refine px_icmp_geN (tgt := 133) dX10_cheapest_126 (by decide) (by omega) (by omega) (fun h8 => ?_) (fun h8 => ?_)
              · refine px_iload_n dX10_cheapest_133 rfl ?_
                refine px_istore_n dX10_cheapest_134 (by decide) ?_
                refine px_iincN (c := 1) (by decide) dX10_cheapest_135 rfl (by decide) ?_
                refine px_goto (tgt := 30) dX10_cheapest_138 (by decide) ?_
                refine px_keep [0, 1, 2, 3] ?_
                rw [e1, if_neg (by omega)] at K
                exact K
              · refine px_iload_n dX10_cheapest_129 rfl ?_
                refine px_goto (tgt := 134) dX10_cheapest_130 (by decide) ?_
                refine px_istore_n dX10_cheapest_134 (by decide) ?_
                refine px_iincN (c := 1) (by decide) dX10_cheapest_135 rfl (by decide) ?_
                refine px_goto (tgt := 30) dX10_cheapest_138 (by decide) ?_
                refine px_keep [0, 1, 2, 3] ?_
                rw [e1, if_pos h8] at K
                exact K
    exact key 0 (by omega)
theorem c_X10_cheapest {z : pv_Z} {E : pv_E} {d bc bs : Nat} {J : pv_JT} {I : pv_IT} {mi : pv_MI} {pc idx : Nat} {lv : pv_LV} {st : List Value} {T : pv_T} {L : List pv_Lot} {H : List pv_S} {B : List Nat} {n : Nat} {k0 : Int32} (hd : decode mi.2.1 pc = .ok (.invokevirtual idx, 3)) (hlk : Cond.methodLink mi.1.cls idx mX10_cheapest.1 ∈ pv_W) (hD : 8+1 ≤ d) (hMA : MA I ((T, L), H, B)) (hw : wx n ((T, L), H, B)) (hn : n ≤ 600) (hcat : (st.map fun v => v.category).sum ≤ 8) (K : pm_ok (pv_K z E d bc bs mi pc lv st) I J (po_cheap ((T, L), H, B) k0)) : pv_X z E d bc bs mi pc lv (.int (k0) :: .ref (365) :: st) pv_K0 pv_P0 I J := by
  obtain ⟨d, rfl⟩ : ∃ d0, d = d0 + 1 := ⟨d - 1, by omega⟩
  have key := px_callV (bc := bc) (bs := bs) (bc1 := 0) (bs1 := 0) (as := [.int (k0)]) (E := E) (z := z) (lv := lv) hd mvX10_cheapest hlk pv_s_model (by decide) rfl pv_k_model rfl rfl hcat (by exact Nat.le_of_ble_eq_true rfl) (s_X10_cheapest (by omega) hMA hw hn K)
  rw [Nat.zero_add, Nat.zero_add] at key
  exact key
set_option maxRecDepth 100000 in
set_option maxHeartbeats 4000000 in
theorem s_X10_leastPurchase {Q : pv_Q} {E : pv_E} {d bc bs : Nat} {J : pv_JT} {I : pv_IT} {T : pv_T} {L : List pv_Lot} {H : List pv_S} {B : List Nat} {n : Nat} {k0 s0 : Int32} (hD : 8 ≤ d) (hMA : MA I ((T, L), H, B)) (hw : wx n ((T, L), H, B)) (hn : n ≤ 600) (h : pm_ok Q I J (po_least ((T, L), H, B) k0 s0)) : pv_X (pv_ZQ E Q) E d bc bs mX10_leastPurchase 0 [(0, .ref (365)), (1, .int (k0)), (2, .int (s0))] [] pv_K0 pv_P0 I J := by
  obtain ⟨hM, hS, hB⟩ := id hMA
  replace hM : MR (I 366) T L := hM
  replace hS : MSV I H := hS
  replace hB : MB I B := hB
  have hdy : dy (T, L) := hw.1.1
  have htb : tb T := hdy.1
  have hlb : lbs L := hdy.2.1
  have h31 : L.length ≤ 31 := hlb.1
  have h30 : L.length ≤ 30 := hw.1.2.1
  have h404 : T 404 ≤ 60 * n := hw.1.2.2.1
  have hn8 : T 405 ≤ 8 := htb.2.2.1
  have hp8 : T 407 ≤ 8 := htb.2.2.2.2.2.1.1
  have h10 : T 408 ≤ 10 := htb.2.2.2.2.2.2.2.1
  have hwk : wk (T, L) := ⟨hw.1.2.2.2.2.1, hw.1.2.2.2.2.2.1, hw.1.2.2.2.2.2.2⟩
  refine px_aload_n dX10_leastPurchase_0 rfl ?_
  refine px_aload_n dX10_leastPurchase_1 rfl ?_
  refine px_iload_n dX10_leastPurchase_2 rfl ?_
  refine c_X10_isKind dX10_leastPurchase_3 mlX10_72 (by omega) hM (by omega) (Nat.le_of_ble_eq_true rfl) ?_
  refine px_if_eqB (tgt := 20) dX10_leastPurchase_6 (by decide) (fun ha => ?_) (fun ha => ?_)
  · refine px_iconst (v := nI 1) dX10_leastPurchase_20 (by decide) ?_
    refine px_putI dX10_leastPurchase_21 fwX10_31 pv_s_model (by decide) (by decide) rfl pv_k_model ?_
    refine px_aload_n dX10_leastPurchase_24 rfl ?_
    refine px_getI dX10_leastPurchase_25 flX10_31 pv_s_model (by decide) (by decide) rfl pv_k_model ?_
    refine px_iv (y := nI (1)) (by simp [pv_uI_at]) ?_
    refine px_if_leN (tgt := 33) dX10_leastPurchase_28 (by decide) (by omega) (fun h0 => absurd h0 (by omega)) (fun _ => ?_)
    refine px_iconst (v := nI 0) dX10_leastPurchase_31 (by decide) ?_
    exact px_iret dX10_leastPurchase_32 rfl (Or.inl rfl) (pm_exc (by unfold po_least at h; rw [if_neg (fun z => ha z.1)] at h; exact h) hMA)
  · refine px_iload_n dX10_leastPurchase_9 rfl ?_
    refine c_X10_isStore dX10_leastPurchase_10 mlX10_57 (by omega)  (Nat.le_of_ble_eq_true rfl) ?_
    refine px_if_eqB (tgt := 20) dX10_leastPurchase_13 (by decide) (fun hs => ?_) (fun hs => ?_)
    · refine px_iconst (v := nI 1) dX10_leastPurchase_20 (by decide) ?_
      refine px_putI dX10_leastPurchase_21 fwX10_31 pv_s_model (by decide) (by decide) rfl pv_k_model ?_
      refine px_aload_n dX10_leastPurchase_24 rfl ?_
      refine px_getI dX10_leastPurchase_25 flX10_31 pv_s_model (by decide) (by decide) rfl pv_k_model ?_
      refine px_iv (y := nI (1)) (by simp [pv_uI_at]) ?_
      refine px_if_leN (tgt := 33) dX10_leastPurchase_28 (by decide) (by omega) (fun h0 => absurd h0 (by omega)) (fun _ => ?_)
      refine px_iconst (v := nI 0) dX10_leastPurchase_31 (by decide) ?_
      exact px_iret dX10_leastPurchase_32 rfl (Or.inl rfl) (pm_exc (by unfold po_least at h; rw [if_neg (fun z => hs z.2)] at h; exact h) hMA)
    · have hab := And.intro ha hs
      obtain ⟨k, k1, rfl, k3⟩ := pu_has_nI ha (by omega)
      obtain ⟨s, s1, rfl, s3⟩ := pu_has_nI hs (by omega)
      refine px_iconst (v := nI 0) dX10_leastPurchase_16 (by decide) ?_
      refine px_goto (tgt := 21) dX10_leastPurchase_17 (by decide) ?_
      refine px_putI dX10_leastPurchase_21 fwX10_31 pv_s_model (by decide) (by decide) rfl pv_k_model ?_
      refine px_aload_n dX10_leastPurchase_24 rfl ?_
      refine px_getI dX10_leastPurchase_25 flX10_31 pv_s_model (by decide) (by decide) rfl pv_k_model ?_
      refine px_iv (y := nI (0)) (by simp [pv_uI_at]) ?_
      refine px_if_leN (tgt := 33) dX10_leastPurchase_28 (by decide) (by omega) (fun _ => ?_) (fun h0 => absurd h0 (by omega))
      obtain ⟨I0, hI0⟩ : ∃ I0, I0 = pv_uI I 365 0 (nI 0) := ⟨_, rfl⟩
      rw [← hI0]
      obtain ⟨hM0, hS0, hB0, hT0, hK0, hF0, hG0⟩ := pm_zero hM hS hB hI0
      have h9 := (by unfold po_least at h; simp only [tn, k3, s3] at h; rw [if_pos hab] at h; exact h)
      replace h9 : pm_ok Q I J (0, oI10 (pt_least (T, L) k s), ((T, L), H, B)) := h9
      have hsh : T (28 + 5 * k) ≤ 216000 * n := hw.1.2.2.2.1 k (by omega)
      have hwt := @pt_wait_le T
      have hpb := htb.2.2.2.2.2.1.2.1
      have mainL : ∀ o : Int32, pv_X (pv_ZQ E Q) E d bc bs mX10_leastPurchase 97 [(0, .ref 365), (1, .int (nI k)), (2, .int (nI s)), (3, .int o)] [.int (nI (pt_wait T))] pv_K0 pv_P0 I0 J := by
        intro o
        refine px_istore dX10_leastPurchase_97 (by decide) ?_
        refine px_aload_n dX10_leastPurchase_99 rfl ?_
        refine px_getR dX10_leastPurchase_100 flX10_7 pv_s_model (by decide) (by decide) rfl pv_k_model pv_p_365_1 ?_
        refine px_iconst (v := nI 0) dX10_leastPurchase_103 (by decide) ?_
        refine px_aload_n dX10_leastPurchase_104 rfl ?_
        refine px_getR dX10_leastPurchase_105 flX10_13 pv_s_model (by decide) (by decide) rfl pv_k_model pv_p_365_2 ?_
        refine px_iconst (v := nI 0) dX10_leastPurchase_108 (by decide) ?_
        refine c_X10_copy dX10_leastPurchase_109 mlX10_42 (by omega) pv_a_z pv_a_aside (by omega) (by omega) (by omega) (Nat.le_of_ble_eq_true rfl) (fun I1 h1 hF1 => ?_)
        have hM1 : MR (I1 366) T L := MR_of hM0 fun i hi => hF1 366 i (by omega)
        have hA1 : ∀ i, i < 413 → I1 367 i = I0 366 i := fun i hi => by
          have e := h1 i hi
          rw [Nat.zero_add] at e
          exact e
        have hK1 : ∀ k0, k0 ≠ 366 → k0 ≠ 367 → k0 ≠ 370 → I1 k0 = I0 k0 := fun k0 a b c => funext fun j => hF1 k0 j (by omega)
        have key : ∀ i : Nat, i ≤ 101 → ∀ I2 : pv_IT, MR (I2 366) T L → (∀ x, x < 413 → I2 366 x = I0 366 x) → (∀ x, x < 413 → I2 367 x = I0 366 x) → (∀ k0, k0 ≠ 366 → k0 ≠ 367 → k0 ≠ 370 → I2 k0 = I0 k0) → (∀ j, j < i → (fun j => (pt_short (pt_tried (T, L) k s j) k (pt_wait T)).isNone) j = false) → pv_X (pv_ZQ E Q) E d bc bs mX10_leastPurchase 115 [(0, .ref 365), (1, .int (nI k)), (2, .int (nI s)), (3, .int o), (4, .int (nI (pt_wait T))), (5, .int (nI (10 * (i))))] [] pv_K0 pv_P0 (I2) (J) := by
          refine pv_up (101) ?_ ?_
          · intro I2 hM2 hZ2 hA2 hK2 hA
            refine px_iload dX10_leastPurchase_115 rfl ?_
            refine px_sipush (v := nI 1000) dX10_leastPurchase_117 (by decide) ?_
            refine px_icmp_gtN (tgt := 157) dX10_leastPurchase_120 (by decide) (by omega) (by omega) (fun _ => ?_) (fun h0 => absurd h0 (by omega))
            refine px_iconst (v := -1) dX10_leastPurchase_157 (by decide) ?_
            exact px_iret dX10_leastPurchase_158 rfl (Or.inl rfl) (pm_back (v := -1) (by unfold pt_least at h9; rw [pf_none (n := 101) hA] at h9; exact h9) hM0 hS0 hB0 hT0 hK0 hZ2 hK2)
          · intro i hi K I2 hM2 hZ2 hA2 hK2 hA
            refine px_iload dX10_leastPurchase_115 rfl ?_
            refine px_sipush (v := nI 1000) dX10_leastPurchase_117 (by decide) ?_
            refine px_icmp_gtN (tgt := 157) dX10_leastPurchase_120 (by decide) (by omega) (by omega) (fun h0 => absurd h0 (by omega)) (fun _ => ?_)
            refine px_iload dX10_leastPurchase_123 rfl ?_
            refine px_if_leN (tgt := 137) dX10_leastPurchase_125 (by decide) (by omega) (fun h5 => ?_) (fun h5 => ?_)
            · have hst : pt_tried (T, L) k s i = (T, L) := by unfold pt_tried; rw [if_neg (by omega)]
              have hdt : dy (T, L) := hdy
              refine px_aload_n dX10_leastPurchase_137 rfl ?_
              refine px_iload_n dX10_leastPurchase_138 rfl ?_
              refine px_iload dX10_leastPurchase_139 rfl ?_
              refine c_X10_firstShort dX10_leastPurchase_141 mlX10_189 (by omega) hM2 hdt (by omega) (by omega) (by omega) (Nat.le_of_ble_eq_true rfl) (fun I4 h4 hF4 => ?_)
              refine px_iconst (v := -1) dX10_leastPurchase_144 (by decide) ?_
              have hZ4 : ∀ x, x < 413 → I4 366 x = I0 366 x := fun x hx => (h4 x hx).trans (hA2 x hx)
              have hA4 : ∀ x, x < 413 → I4 367 x = I0 366 x := fun x hx => (congrFun (hF4 367 (by omega) (by omega)) x).trans (hA2 x hx)
              have hK4 : ∀ k0, k0 ≠ 366 → k0 ≠ 367 → k0 ≠ 370 → I4 k0 = I0 k0 := fun k0 a b c => (hF4 k0 a c).trans (hK2 k0 a b c)
              cases e : pt_short (T, L) k (pt_wait T) with
              | none =>
                refine px_icmp_ne (tgt := 151) dX10_leastPurchase_145 (by decide) (fun h8 => absurd rfl h8) (fun _ => ?_)
                refine px_iload dX10_leastPurchase_148 rfl ?_
                exact px_iret dX10_leastPurchase_150 rfl (Or.inl rfl) (pm_back (v := nI (10 * i)) (by unfold pt_least at h9; rw [pf_some (n := 101) hi hA (show (pt_short (pt_tried (T, L) k s i) k (pt_wait T)).isNone = true by rw [hst, e]; rfl)] at h9; exact h9) hM0 hS0 hB0 hT0 hK0 hZ4 hK4)
              | some b =>
                have hb := (pf_is e).1
                refine px_icmp_ne (tgt := 151) dX10_leastPurchase_145 (by decide) (fun _ => ?_) (fun h8 => absurd h8 (pn_m1 (by omega)))
                refine px_iincN (c := 10) (by decide) dX10_leastPurchase_151 rfl (by decide) ?_
                refine px_goto (tgt := 115) dX10_leastPurchase_154 (by decide) ?_
                refine px_keep [0, 1, 2, 3, 4, 5] ?_
                rw [show 10 * (i + 1) = 10 * i + 10 by omega] at K
                refine K I4 (MR_of hM0 hZ4) hZ4 hA4 hK4 (fun j hj => ?_)
                by_cases e9 : j = i
                · subst e9
                  show (pt_short (pt_tried (T, L) k s j) k (pt_wait T)).isNone = false
                  rw [hst, e]
                  rfl
                · exact hA j (by omega)
            · refine px_aload_n dX10_leastPurchase_128 rfl ?_
              refine px_iload_n dX10_leastPurchase_129 rfl ?_
              refine px_iload_n dX10_leastPurchase_130 rfl ?_
              refine px_iload dX10_leastPurchase_131 rfl ?_
              refine px_iconst (v := nI 0) dX10_leastPurchase_133 (by decide) ?_
              refine c_X10_putLot dX10_leastPurchase_134 mlX10_92 (by omega) hM2 (by omega) (show k < 8 ∧ s < 3 ∧ 10 * i ≤ 2000 ∧ 0 ≤ 2000 from ⟨by omega, by omega, by omega, by omega⟩) (Nat.le_of_ble_eq_true rfl) (fun I3 hM3 hF3 => ?_)
              have hst : pt_tried (T, L) k s i = (T, L ++ [(k, s, 10 * i, 0)]) := by unfold pt_tried; rw [if_pos (by omega)]
              have hdt : dy (T, L ++ [(k, s, 10 * i, 0)]) := by
                refine ⟨htb, hM3.2.2.1, fun l hl => ?_⟩
                rw [pl_g_push]
                replace hl : l < (L ++ [(k, s, 10 * i, 0)]).length := hl
                rw [List.length_append] at hl
                replace hl : l < L.length + 1 := hl
                by_cases e3 : l < L.length
                · rw [if_pos e3]; exact hdy.2.2 l e3
                · rw [if_neg e3, if_pos (by omega)]
                  exact ⟨by show 1 ≤ 10 * i; omega, by show 0 < 1000; omega⟩
              refine px_aload_n dX10_leastPurchase_137 rfl ?_
              refine px_iload_n dX10_leastPurchase_138 rfl ?_
              refine px_iload dX10_leastPurchase_139 rfl ?_
              refine c_X10_firstShort dX10_leastPurchase_141 mlX10_189 (by omega) hM3 hdt (by omega) (by omega) (by omega) (Nat.le_of_ble_eq_true rfl) (fun I4 h4 hF4 => ?_)
              refine px_iconst (v := -1) dX10_leastPurchase_144 (by decide) ?_
              have hZ4 : ∀ x, x < 413 → I4 366 x = I0 366 x := fun x hx => (h4 x hx).trans ((congrFun (hF3 367 (by omega)) x).trans (hA2 x hx))
              have hA4 : ∀ x, x < 413 → I4 367 x = I0 366 x := fun x hx => (congrFun (hF4 367 (by omega) (by omega)) x).trans ((congrFun (hF3 367 (by omega)) x).trans (hA2 x hx))
              have hK4 : ∀ k0, k0 ≠ 366 → k0 ≠ 367 → k0 ≠ 370 → I4 k0 = I0 k0 := fun k0 a b c => (hF4 k0 a c).trans ((hF3 k0 a).trans (hK2 k0 a b c))
              cases e : pt_short (T, L ++ [(k, s, 10 * i, 0)]) k (pt_wait T) with
              | none =>
                refine px_icmp_ne (tgt := 151) dX10_leastPurchase_145 (by decide) (fun h8 => absurd rfl h8) (fun _ => ?_)
                refine px_iload dX10_leastPurchase_148 rfl ?_
                exact px_iret dX10_leastPurchase_150 rfl (Or.inl rfl) (pm_back (v := nI (10 * i)) (by unfold pt_least at h9; rw [pf_some (n := 101) hi hA (show (pt_short (pt_tried (T, L) k s i) k (pt_wait T)).isNone = true by rw [hst, e]; rfl)] at h9; exact h9) hM0 hS0 hB0 hT0 hK0 hZ4 hK4)
              | some b =>
                have hb := (pf_is e).1
                refine px_icmp_ne (tgt := 151) dX10_leastPurchase_145 (by decide) (fun _ => ?_) (fun h8 => absurd h8 (pn_m1 (by omega)))
                refine px_iincN (c := 10) (by decide) dX10_leastPurchase_151 rfl (by decide) ?_
                refine px_goto (tgt := 115) dX10_leastPurchase_154 (by decide) ?_
                refine px_keep [0, 1, 2, 3, 4, 5] ?_
                rw [show 10 * (i + 1) = 10 * i + 10 by omega] at K
                refine K I4 (MR_of hM0 hZ4) hZ4 hA4 hK4 (fun j hj => ?_)
                by_cases e9 : j = i
                · subst e9
                  show (pt_short (pt_tried (T, L) k s j) k (pt_wait T)).isNone = false
                  rw [hst, e]
                  rfl
                · exact hA j (by omega)
        refine px_iconst (v := nI 0) dX10_leastPurchase_112 (by decide) ?_
        refine px_istore dX10_leastPurchase_113 (by decide) ?_
        exact key 0 (by omega) I1 hM1 (fun x hx => hF1 366 x (by omega)) hA1 hK1 (fun j hj => absurd hj (Nat.not_lt_zero _))
      refine px_aload_n dX10_leastPurchase_33 rfl ?_
      refine c_X10_nextPort dX10_leastPurchase_34 mlX10_177 (by omega) hM0 htb.2.2.2.2.2.1 (by omega) (Nat.le_of_ble_eq_true rfl) ?_
      refine px_istore_n dX10_leastPurchase_37 (by decide) ?_
      refine px_iload_n dX10_leastPurchase_38 rfl ?_
      refine px_iconst (v := -1) dX10_leastPurchase_39 (by decide) ?_
      cases e : pt_aft T (T 404) with
      | none =>
        refine px_icmp_eq (tgt := 70) dX10_leastPurchase_40 (by decide) (fun _ => ?_) (fun h8 => absurd rfl h8)
        refine px_bipush (v := nI 60) dX10_leastPurchase_70 (by decide) ?_
        refine px_goto (tgt := 97) dX10_leastPurchase_72 (by decide) ?_
        have ew : pt_wait T = 60 := by unfold pt_wait; rw [e]
        rw [← ew]
        exact mainL _
      | some b =>
        have hb := pt_aft_lt e
        have hb5 := (hpb b hb.1).1
        have ew : pt_wait T = min (T (324 + 10 * b) - T 404) 60 := by unfold pt_wait; rw [e]
        refine px_icmp_eq (tgt := 70) dX10_leastPurchase_40 (by decide) (fun h8 => absurd h8 (pn_m1 (by omega))) (fun _ => ?_)
        refine px_aload_n dX10_leastPurchase_43 rfl ?_
        refine px_getR dX10_leastPurchase_44 flX10_7 pv_s_model (by decide) (by decide) rfl pv_k_model pv_p_365_1 ?_
        refine px_sipush (v := nI 324) dX10_leastPurchase_47 (by decide) ?_
        refine px_bipush (v := nI 10) dX10_leastPurchase_50 (by decide) ?_
        refine px_iload_n dX10_leastPurchase_52 rfl ?_
        refine px_imulN dX10_leastPurchase_53 ?_
        refine px_iaddN dX10_leastPurchase_54 ?_
        refine px_iald (j := (324 + (10 * b))) dX10_leastPurchase_55 pv_a_z.1 rfl (by omega) pv_a_z.2.2 pv_a_z.2.1 ?_
        refine px_iv (y := nI (T ((324 + (10 * b))))) (hM0.1 ((324 + (10 * b))) (by omega) (by omega) (by omega)) ?_
        refine px_aload_n dX10_leastPurchase_56 rfl ?_
        refine px_getR dX10_leastPurchase_57 flX10_7 pv_s_model (by decide) (by decide) rfl pv_k_model pv_p_365_1 ?_
        refine px_sipush (v := nI 404) dX10_leastPurchase_60 (by decide) ?_
        refine px_iald (j := 404) dX10_leastPurchase_63 pv_a_z.1 rfl (by omega) pv_a_z.2.2 pv_a_z.2.1 ?_
        refine px_iv (y := nI (T (404))) (hM0.1 (404) (by omega) (by omega) (by omega)) ?_
        refine px_isubN (by omega) dX10_leastPurchase_64 ?_
        refine px_bipush (v := nI 60) dX10_leastPurchase_65 (by decide) ?_
        refine px_icmp_leN (tgt := 75) dX10_leastPurchase_67 (by decide) (by omega) (by omega) (fun h5 => ?_) (fun h5 => ?_)
        · refine px_aload_n dX10_leastPurchase_75 rfl ?_
          refine px_getR dX10_leastPurchase_76 flX10_7 pv_s_model (by decide) (by decide) rfl pv_k_model pv_p_365_1 ?_
          refine px_sipush (v := nI 324) dX10_leastPurchase_79 (by decide) ?_
          refine px_bipush (v := nI 10) dX10_leastPurchase_82 (by decide) ?_
          refine px_iload_n dX10_leastPurchase_84 rfl ?_
          refine px_imulN dX10_leastPurchase_85 ?_
          refine px_iaddN dX10_leastPurchase_86 ?_
          refine px_iald (j := (324 + (10 * b))) dX10_leastPurchase_87 pv_a_z.1 rfl (by omega) pv_a_z.2.2 pv_a_z.2.1 ?_
          refine px_iv (y := nI (T ((324 + (10 * b))))) (hM0.1 ((324 + (10 * b))) (by omega) (by omega) (by omega)) ?_
          refine px_aload_n dX10_leastPurchase_88 rfl ?_
          refine px_getR dX10_leastPurchase_89 flX10_7 pv_s_model (by decide) (by decide) rfl pv_k_model pv_p_365_1 ?_
          refine px_sipush (v := nI 404) dX10_leastPurchase_92 (by decide) ?_
          refine px_iald (j := 404) dX10_leastPurchase_95 pv_a_z.1 rfl (by omega) pv_a_z.2.2 pv_a_z.2.1 ?_
          refine px_iv (y := nI (T (404))) (hM0.1 (404) (by omega) (by omega) (by omega)) ?_
          refine px_isubN (by omega) dX10_leastPurchase_96 ?_
          rw [show T (324 + 10 * b) - T 404 = pt_wait T by omega]
          exact mainL _
        · refine px_bipush (v := nI 60) dX10_leastPurchase_70 (by decide) ?_
          refine px_goto (tgt := 97) dX10_leastPurchase_72 (by decide) ?_
          rw [show 60 = pt_wait T by omega]
          exact mainL _
theorem c_X10_leastPurchase {z : pv_Z} {E : pv_E} {d bc bs : Nat} {J : pv_JT} {I : pv_IT} {mi : pv_MI} {pc idx : Nat} {lv : pv_LV} {st : List Value} {T : pv_T} {L : List pv_Lot} {H : List pv_S} {B : List Nat} {n : Nat} {k0 s0 : Int32} (hd : decode mi.2.1 pc = .ok (.invokevirtual idx, 3)) (hlk : Cond.methodLink mi.1.cls idx mX10_leastPurchase.1 ∈ pv_W) (hD : 8+1 ≤ d) (hMA : MA I ((T, L), H, B)) (hw : wx n ((T, L), H, B)) (hn : n ≤ 600) (hcat : (st.map fun v => v.category).sum ≤ 8) (K : pm_ok (pv_K z E d bc bs mi pc lv st) I J (po_least ((T, L), H, B) k0 s0)) : pv_X z E d bc bs mi pc lv (.int (s0) :: .int (k0) :: .ref (365) :: st) pv_K0 pv_P0 I J := by
  obtain ⟨d, rfl⟩ : ∃ d0, d = d0 + 1 := ⟨d - 1, by omega⟩
  have key := px_callV (bc := bc) (bs := bs) (bc1 := 0) (bs1 := 0) (as := [.int (k0), .int (s0)]) (E := E) (z := z) (lv := lv) hd mvX10_leastPurchase hlk pv_s_model (by decide) rfl pv_k_model rfl rfl hcat (by exact Nat.le_of_ble_eq_true rfl) (s_X10_leastPurchase (by omega) hMA hw hn K)
  rw [Nat.zero_add, Nat.zero_add] at key
  exact key
