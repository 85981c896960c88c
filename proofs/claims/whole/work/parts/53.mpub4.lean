/-! The reference: its calls that ask. -/
section
variable {Q : pv_Q} {I I0 I1 I2 : pv_IT} {J : pv_JT} {T : pv_T} {L : List pv_Lot} {H : List pv_S} {B : List Nat}
theorem pm_same {v : Int32} (h : pm_ok Q I J (0, v, ((T, L), H, B))) (hM0 : MR (I0 366) T L) (hS0 : MSV I0 H) (hB0 : MB I0 B) (hT0 : I0 365 0 = nI 0) (hK0 : ∀ k, k < 365 → I0 k = I k) : Q (.inl (some (.int v))) pv_K0 pv_P0 I0 J :=
  h I0 v ⟨hM0, hS0, hB0⟩ hK0 hT0 (fun _ => rfl)
theorem pm_back {v : Int32} (h : pm_ok Q I J (0, v, ((T, L), H, B))) (hM0 : MR (I0 366) T L) (hS0 : MSV I0 H) (hB0 : MB I0 B) (hT0 : I0 365 0 = nI 0) (hK0 : ∀ k, k < 365 → I0 k = I k) (h2 : ∀ i, i < 413 → I2 366 i = I0 366 i) (hF2 : ∀ k, k ≠ 366 → k ≠ 367 → k ≠ 370 → I2 k = I0 k) : Q (.inl (some (.int v))) pv_K0 pv_P0 I2 J :=
  pm_fin h (MR_of hM0 h2) hS0 hB0 hT0 hK0 hF2
end
set_option maxRecDepth 100000 in
set_option maxHeartbeats 4000000 in
theorem s_X10_lot {Q : pv_Q} {E : pv_E} {d bc bs : Nat} {J : pv_JT} {I : pv_IT} {T : pv_T} {L : List pv_Lot} {H : List pv_S} {B : List Nat} {n : Nat} {l0 w0 : Int32} (hD : 8 ≤ d) (hMA : MA I ((T, L), H, B)) (hw : wx n ((T, L), H, B)) (hn : n ≤ 600) (h : pm_ok Q I J (po_lot ((T, L), H, B) l0 w0)) : pv_X (pv_ZQ E Q) E d bc bs mX10_lot 0 [(0, .ref (365)), (1, .int (l0)), (2, .int (w0))] [] pv_K0 pv_P0 I J := by
  obtain ⟨hM, hS, hB⟩ := id hMA
  replace hM : MR (I 366) T L := hM
  replace hS : MSV I H := hS
  replace hB : MB I B := hB
  have hdy : dy (T, L) := hw.1.1
  have htb : tb T := hdy.1
  have hlb : lbs L := hdy.2.1
  have h31 : L.length ≤ 31 := hlb.1
  have h30 : L.length ≤ 30 := hw.1.2.1
  have h404 : T 404 ≤ 60 * n := hw.1.2.2.1
  have hn8 : T 405 ≤ 8 := htb.2.2.1
  have hp8 : T 407 ≤ 8 := htb.2.2.2.2.2.1.1
  have h10 : T 408 ≤ 10 := htb.2.2.2.2.2.2.2.1
  have hwk : wk (T, L) := ⟨hw.1.2.2.2.2.1, hw.1.2.2.2.2.2.1, hw.1.2.2.2.2.2.2⟩
  refine px_aload_n dX10_lot_0 rfl ?_
  refine px_aload_n dX10_lot_1 rfl ?_
  refine px_iload_n dX10_lot_2 rfl ?_
  refine c_X10_isLot dX10_lot_3 mlX10_96 (by omega) hM (Nat.le_of_ble_eq_true rfl) ?_
  refine px_if_neB (tgt := 13) dX10_lot_6 (by decide) (fun ha => ?_) (fun ha => ?_)
  · have ha0 := ha
    obtain ⟨l, l1, rfl, l3⟩ := pu_has_nI ha (by omega)
    refine px_iload_n dX10_lot_13 rfl ?_
    refine px_iconst (v := nI 0) dX10_lot_14 (by decide) ?_
    refine px_iconst (v := nI 5) dX10_lot_15 (by decide) ?_
    refine c_X10_within dX10_lot_16 mlX10_35 (by omega)  (Nat.le_of_ble_eq_true rfl) ?_
    refine px_if_eqB (tgt := 26) dX10_lot_19 (by decide) (fun hm => ?_) (fun hm => ?_)
    · refine px_iconst (v := nI 2) dX10_lot_26 (by decide) ?_
      refine px_putI dX10_lot_27 fwX10_31 pv_s_model (by decide) (by decide) rfl pv_k_model ?_
      refine px_aload_n dX10_lot_30 rfl ?_
      refine px_getI dX10_lot_31 flX10_31 pv_s_model (by decide) (by decide) rfl pv_k_model ?_
      refine px_iv (y := nI (2)) (by simp [pv_uI_at]) ?_
      refine px_if_leN (tgt := 41) dX10_lot_34 (by decide) (by omega) (fun h0 => absurd h0 (by omega)) (fun _ => ?_)
      refine px_iconst (v := nI 0) dX10_lot_37 (by decide) ?_
      refine px_goto (tgt := 47) dX10_lot_38 (by decide) ?_
      exact px_iret dX10_lot_47 rfl (Or.inl rfl) (pm_exc (by unfold po_lot at h; simp only [tn, l3] at h; rw [if_pos ha0] at h; rw [if_neg hm] at h; exact h) hMA)
    · have hm0 := hm
      obtain ⟨w, w1, w2, rfl, w3⟩ := pu_in_nI hm (by omega) (by omega)
      refine px_iconst (v := nI 0) dX10_lot_22 (by decide) ?_
      refine px_goto (tgt := 27) dX10_lot_23 (by decide) ?_
      refine px_putI dX10_lot_27 fwX10_31 pv_s_model (by decide) (by decide) rfl pv_k_model ?_
      refine px_aload_n dX10_lot_30 rfl ?_
      refine px_getI dX10_lot_31 flX10_31 pv_s_model (by decide) (by decide) rfl pv_k_model ?_
      refine px_iv (y := nI (0)) (by simp [pv_uI_at]) ?_
      refine px_if_leN (tgt := 41) dX10_lot_34 (by decide) (by omega) (fun _ => ?_) (fun h0 => absurd h0 (by omega))
      obtain ⟨I0, hI0⟩ : ∃ I0, I0 = pv_uI I 365 0 (nI 0) := ⟨_, rfl⟩
      rw [← hI0]
      obtain ⟨hM0, hS0, hB0, hT0, hK0, hF0, hG0⟩ := pm_zero hM hS hB hI0
      refine px_aload_n dX10_lot_41 rfl ?_
      refine px_iload_n dX10_lot_42 rfl ?_
      refine px_iload_n dX10_lot_43 rfl ?_
      refine c_X10_lotNow dX10_lot_44 mlX10_159 (by omega) hM0 htb hdy.2.2 l1 (by omega) (Nat.le_of_ble_eq_true rfl) ?_
      exact px_iret dX10_lot_47 rfl (Or.inl rfl) (pm_same (by unfold po_lot at h; simp only [tn, l3, w3] at h; rw [if_pos ha0] at h; rw [if_pos hm0] at h; exact h) hM0 hS0 hB0 hT0 hK0)
  · refine px_iconst (v := nI 1) dX10_lot_9 (by decide) ?_
    refine px_goto (tgt := 27) dX10_lot_10 (by decide) ?_
    refine px_putI dX10_lot_27 fwX10_31 pv_s_model (by decide) (by decide) rfl pv_k_model ?_
    refine px_aload_n dX10_lot_30 rfl ?_
    refine px_getI dX10_lot_31 flX10_31 pv_s_model (by decide) (by decide) rfl pv_k_model ?_
    refine px_iv (y := nI (1)) (by simp [pv_uI_at]) ?_
    refine px_if_leN (tgt := 41) dX10_lot_34 (by decide) (by omega) (fun h0 => absurd h0 (by omega)) (fun _ => ?_)
    refine px_iconst (v := nI 0) dX10_lot_37 (by decide) ?_
    refine px_goto (tgt := 47) dX10_lot_38 (by decide) ?_
    exact px_iret dX10_lot_47 rfl (Or.inl rfl) (pm_exc (by unfold po_lot at h; rw [if_neg ha] at h; exact h) hMA)
theorem c_X10_lot {z : pv_Z} {E : pv_E} {d bc bs : Nat} {J : pv_JT} {I : pv_IT} {mi : pv_MI} {pc idx : Nat} {lv : pv_LV} {st : List Value} {T : pv_T} {L : List pv_Lot} {H : List pv_S} {B : List Nat} {n : Nat} {l0 w0 : Int32} (hd : decode mi.2.1 pc = .ok (.invokevirtual idx, 3)) (hlk : Cond.methodLink mi.1.cls idx mX10_lot.1 ∈ pv_W) (hD : 8+1 ≤ d) (hMA : MA I ((T, L), H, B)) (hw : wx n ((T, L), H, B)) (hn : n ≤ 600) (hcat : (st.map fun v => v.category).sum ≤ 8) (K : pm_ok (pv_K z E d bc bs mi pc lv st) I J (po_lot ((T, L), H, B) l0 w0)) : pv_X z E d bc bs mi pc lv (.int (w0) :: .int (l0) :: .ref (365) :: st) pv_K0 pv_P0 I J := by
  obtain ⟨d, rfl⟩ : ∃ d0, d = d0 + 1 := ⟨d - 1, by omega⟩
  have key := px_callV (bc := bc) (bs := bs) (bc1 := 0) (bs1 := 0) (as := [.int (l0), .int (w0)]) (E := E) (z := z) (lv := lv) hd mvX10_lot hlk pv_s_model (by decide) rfl pv_k_model rfl rfl hcat (by exact Nat.le_of_ble_eq_true rfl) (s_X10_lot (by omega) hMA hw hn K)
  rw [Nat.zero_add, Nat.zero_add] at key
  exact key
set_option maxRecDepth 100000 in
set_option maxHeartbeats 4000000 in
theorem s_X10_store {Q : pv_Q} {E : pv_E} {d bc bs : Nat} {J : pv_JT} {I : pv_IT} {T : pv_T} {L : List pv_Lot} {H : List pv_S} {B : List Nat} {n : Nat} {l0 w0 : Int32} (hD : 8 ≤ d) (hMA : MA I ((T, L), H, B)) (hw : wx n ((T, L), H, B)) (hn : n ≤ 600) (h : pm_ok Q I J (po_store ((T, L), H, B) l0 w0)) : pv_X (pv_ZQ E Q) E d bc bs mX10_store 0 [(0, .ref (365)), (1, .int (l0)), (2, .int (w0))] [] pv_K0 pv_P0 I J := by
  obtain ⟨hM, hS, hB⟩ := id hMA
  replace hM : MR (I 366) T L := hM
  replace hS : MSV I H := hS
  replace hB : MB I B := hB
  have hdy : dy (T, L) := hw.1.1
  have htb : tb T := hdy.1
  have hlb : lbs L := hdy.2.1
  have h31 : L.length ≤ 31 := hlb.1
  have h30 : L.length ≤ 30 := hw.1.2.1
  have h404 : T 404 ≤ 60 * n := hw.1.2.2.1
  have hn8 : T 405 ≤ 8 := htb.2.2.1
  have hp8 : T 407 ≤ 8 := htb.2.2.2.2.2.1.1
  have h10 : T 408 ≤ 10 := htb.2.2.2.2.2.2.2.1
  have hwk : wk (T, L) := ⟨hw.1.2.2.2.2.1, hw.1.2.2.2.2.2.1, hw.1.2.2.2.2.2.2⟩
  refine px_aload_n dX10_store_0 rfl ?_
  refine px_iload_n dX10_store_1 rfl ?_
  refine c_X10_isStore dX10_store_2 mlX10_57 (by omega)  (Nat.le_of_ble_eq_true rfl) ?_
  refine px_if_neB (tgt := 12) dX10_store_5 (by decide) (fun ha => ?_) (fun ha => ?_)
  · have ha0 := ha
    obtain ⟨l, l1, rfl, l3⟩ := pu_has_nI ha (by omega)
    refine px_iload_n dX10_store_12 rfl ?_
    refine px_iconst (v := nI 0) dX10_store_13 (by decide) ?_
    refine px_iconst (v := nI 3) dX10_store_14 (by decide) ?_
    refine c_X10_within dX10_store_15 mlX10_35 (by omega)  (Nat.le_of_ble_eq_true rfl) ?_
    refine px_if_eqB (tgt := 25) dX10_store_18 (by decide) (fun hm => ?_) (fun hm => ?_)
    · refine px_iconst (v := nI 2) dX10_store_25 (by decide) ?_
      refine px_putI dX10_store_26 fwX10_31 pv_s_model (by decide) (by decide) rfl pv_k_model ?_
      refine px_aload_n dX10_store_29 rfl ?_
      refine px_getI dX10_store_30 flX10_31 pv_s_model (by decide) (by decide) rfl pv_k_model ?_
      refine px_iv (y := nI (2)) (by simp [pv_uI_at]) ?_
      refine px_if_leN (tgt := 40) dX10_store_33 (by decide) (by omega) (fun h0 => absurd h0 (by omega)) (fun _ => ?_)
      refine px_iconst (v := nI 0) dX10_store_36 (by decide) ?_
      refine px_goto (tgt := 46) dX10_store_37 (by decide) ?_
      exact px_iret dX10_store_46 rfl (Or.inl rfl) (pm_exc (by unfold po_store at h; simp only [tn, l3] at h; rw [if_pos ha0] at h; rw [if_neg hm] at h; exact h) hMA)
    · have hm0 := hm
      obtain ⟨w, w1, w2, rfl, w3⟩ := pu_in_nI hm (by omega) (by omega)
      refine px_iconst (v := nI 0) dX10_store_21 (by decide) ?_
      refine px_goto (tgt := 26) dX10_store_22 (by decide) ?_
      refine px_putI dX10_store_26 fwX10_31 pv_s_model (by decide) (by decide) rfl pv_k_model ?_
      refine px_aload_n dX10_store_29 rfl ?_
      refine px_getI dX10_store_30 flX10_31 pv_s_model (by decide) (by decide) rfl pv_k_model ?_
      refine px_iv (y := nI (0)) (by simp [pv_uI_at]) ?_
      refine px_if_leN (tgt := 40) dX10_store_33 (by decide) (by omega) (fun _ => ?_) (fun h0 => absurd h0 (by omega))
      obtain ⟨I0, hI0⟩ : ∃ I0, I0 = pv_uI I 365 0 (nI 0) := ⟨_, rfl⟩
      rw [← hI0]
      obtain ⟨hM0, hS0, hB0, hT0, hK0, hF0, hG0⟩ := pm_zero hM hS hB hI0
      refine px_aload_n dX10_store_40 rfl ?_
      refine px_iload_n dX10_store_41 rfl ?_
      refine px_iload_n dX10_store_42 rfl ?_
      refine c_X10_storeNow dX10_store_43 mlX10_165 (by omega) hM0 (by omega) (by omega) (Nat.le_of_ble_eq_true rfl) ?_
      exact px_iret dX10_store_46 rfl (Or.inl rfl) (pm_same (by unfold po_store at h; simp only [tn, l3, w3] at h; rw [if_pos ha0] at h; rw [if_pos hm0] at h; exact h) hM0 hS0 hB0 hT0 hK0)
  · refine px_iconst (v := nI 1) dX10_store_8 (by decide) ?_
    refine px_goto (tgt := 26) dX10_store_9 (by decide) ?_
    refine px_putI dX10_store_26 fwX10_31 pv_s_model (by decide) (by decide) rfl pv_k_model ?_
    refine px_aload_n dX10_store_29 rfl ?_
    refine px_getI dX10_store_30 flX10_31 pv_s_model (by decide) (by decide) rfl pv_k_model ?_
    refine px_iv (y := nI (1)) (by simp [pv_uI_at]) ?_
    refine px_if_leN (tgt := 40) dX10_store_33 (by decide) (by omega) (fun h0 => absurd h0 (by omega)) (fun _ => ?_)
    refine px_iconst (v := nI 0) dX10_store_36 (by decide) ?_
    refine px_goto (tgt := 46) dX10_store_37 (by decide) ?_
    exact px_iret dX10_store_46 rfl (Or.inl rfl) (pm_exc (by unfold po_store at h; rw [if_neg ha] at h; exact h) hMA)
theorem c_X10_store {z : pv_Z} {E : pv_E} {d bc bs : Nat} {J : pv_JT} {I : pv_IT} {mi : pv_MI} {pc idx : Nat} {lv : pv_LV} {st : List Value} {T : pv_T} {L : List pv_Lot} {H : List pv_S} {B : List Nat} {n : Nat} {l0 w0 : Int32} (hd : decode mi.2.1 pc = .ok (.invokevirtual idx, 3)) (hlk : Cond.methodLink mi.1.cls idx mX10_store.1 ∈ pv_W) (hD : 8+1 ≤ d) (hMA : MA I ((T, L), H, B)) (hw : wx n ((T, L), H, B)) (hn : n ≤ 600) (hcat : (st.map fun v => v.category).sum ≤ 8) (K : pm_ok (pv_K z E d bc bs mi pc lv st) I J (po_store ((T, L), H, B) l0 w0)) : pv_X z E d bc bs mi pc lv (.int (w0) :: .int (l0) :: .ref (365) :: st) pv_K0 pv_P0 I J := by
  obtain ⟨d, rfl⟩ : ∃ d0, d = d0 + 1 := ⟨d - 1, by omega⟩
  have key := px_callV (bc := bc) (bs := bs) (bc1 := 0) (bs1 := 0) (as := [.int (l0), .int (w0)]) (E := E) (z := z) (lv := lv) hd mvX10_store hlk pv_s_model (by decide) rfl pv_k_model rfl rfl hcat (by exact Nat.le_of_ble_eq_true rfl) (s_X10_store (by omega) hMA hw hn K)
  rw [Nat.zero_add, Nat.zero_add] at key
  exact key
set_option maxRecDepth 100000 in
set_option maxHeartbeats 4000000 in
theorem s_X10_kind {Q : pv_Q} {E : pv_E} {d bc bs : Nat} {J : pv_JT} {I : pv_IT} {T : pv_T} {L : List pv_Lot} {H : List pv_S} {B : List Nat} {n : Nat} {l0 w0 : Int32} (hD : 8 ≤ d) (hMA : MA I ((T, L), H, B)) (hw : wx n ((T, L), H, B)) (hn : n ≤ 600) (h : pm_ok Q I J (po_kind ((T, L), H, B) l0 w0)) : pv_X (pv_ZQ E Q) E d bc bs mX10_kind 0 [(0, .ref (365)), (1, .int (l0)), (2, .int (w0))] [] pv_K0 pv_P0 I J := by
  obtain ⟨hM, hS, hB⟩ := id hMA
  replace hM : MR (I 366) T L := hM
  replace hS : MSV I H := hS
  replace hB : MB I B := hB
  have hdy : dy (T, L) := hw.1.1
  have htb : tb T := hdy.1
  have hlb : lbs L := hdy.2.1
  have h31 : L.length ≤ 31 := hlb.1
  have h30 : L.length ≤ 30 := hw.1.2.1
  have h404 : T 404 ≤ 60 * n := hw.1.2.2.1
  have hn8 : T 405 ≤ 8 := htb.2.2.1
  have hp8 : T 407 ≤ 8 := htb.2.2.2.2.2.1.1
  have h10 : T 408 ≤ 10 := htb.2.2.2.2.2.2.2.1
  have hwk : wk (T, L) := ⟨hw.1.2.2.2.2.1, hw.1.2.2.2.2.2.1, hw.1.2.2.2.2.2.2⟩
  refine px_aload_n dX10_kind_0 rfl ?_
  refine px_aload_n dX10_kind_1 rfl ?_
  refine px_iload_n dX10_kind_2 rfl ?_
  refine c_X10_isKind dX10_kind_3 mlX10_72 (by omega) hM (by omega) (Nat.le_of_ble_eq_true rfl) ?_
  refine px_if_neB (tgt := 13) dX10_kind_6 (by decide) (fun ha => ?_) (fun ha => ?_)
  · have ha0 := ha
    obtain ⟨l, l1, rfl, l3⟩ := pu_has_nI ha (by omega)
    refine px_iload_n dX10_kind_13 rfl ?_
    refine px_iconst (v := nI 0) dX10_kind_14 (by decide) ?_
    refine px_bipush (v := nI 9) dX10_kind_15 (by decide) ?_
    refine c_X10_within dX10_kind_17 mlX10_35 (by omega)  (Nat.le_of_ble_eq_true rfl) ?_
    refine px_if_eqB (tgt := 27) dX10_kind_20 (by decide) (fun hm => ?_) (fun hm => ?_)
    · refine px_iconst (v := nI 2) dX10_kind_27 (by decide) ?_
      refine px_putI dX10_kind_28 fwX10_31 pv_s_model (by decide) (by decide) rfl pv_k_model ?_
      refine px_aload_n dX10_kind_31 rfl ?_
      refine px_getI dX10_kind_32 flX10_31 pv_s_model (by decide) (by decide) rfl pv_k_model ?_
      refine px_iv (y := nI (2)) (by simp [pv_uI_at]) ?_
      refine px_if_leN (tgt := 42) dX10_kind_35 (by decide) (by omega) (fun h0 => absurd h0 (by omega)) (fun _ => ?_)
      refine px_iconst (v := nI 0) dX10_kind_38 (by decide) ?_
      refine px_goto (tgt := 48) dX10_kind_39 (by decide) ?_
      exact px_iret dX10_kind_48 rfl (Or.inl rfl) (pm_exc (by unfold po_kind at h; simp only [tn, l3] at h; rw [if_pos ha0] at h; rw [if_neg hm] at h; exact h) hMA)
    · have hm0 := hm
      obtain ⟨w, w1, w2, rfl, w3⟩ := pu_in_nI hm (by omega) (by omega)
      refine px_iconst (v := nI 0) dX10_kind_23 (by decide) ?_
      refine px_goto (tgt := 28) dX10_kind_24 (by decide) ?_
      refine px_putI dX10_kind_28 fwX10_31 pv_s_model (by decide) (by decide) rfl pv_k_model ?_
      refine px_aload_n dX10_kind_31 rfl ?_
      refine px_getI dX10_kind_32 flX10_31 pv_s_model (by decide) (by decide) rfl pv_k_model ?_
      refine px_iv (y := nI (0)) (by simp [pv_uI_at]) ?_
      refine px_if_leN (tgt := 42) dX10_kind_35 (by decide) (by omega) (fun _ => ?_) (fun h0 => absurd h0 (by omega))
      obtain ⟨I0, hI0⟩ : ∃ I0, I0 = pv_uI I 365 0 (nI 0) := ⟨_, rfl⟩
      rw [← hI0]
      obtain ⟨hM0, hS0, hB0, hT0, hK0, hF0, hG0⟩ := pm_zero hM hS hB hI0
      refine px_aload_n dX10_kind_42 rfl ?_
      refine px_iload_n dX10_kind_43 rfl ?_
      refine px_iload_n dX10_kind_44 rfl ?_
      refine c_X10_kindNow dX10_kind_45 mlX10_171 (by omega) hM0 (by omega) (by omega) (Nat.le_of_ble_eq_true rfl) ?_
      exact px_iret dX10_kind_48 rfl (Or.inl rfl) (pm_same (by unfold po_kind at h; simp only [tn, l3, w3] at h; rw [if_pos ha0] at h; rw [if_pos hm0] at h; exact h) hM0 hS0 hB0 hT0 hK0)
  · refine px_iconst (v := nI 1) dX10_kind_9 (by decide) ?_
    refine px_goto (tgt := 28) dX10_kind_10 (by decide) ?_
    refine px_putI dX10_kind_28 fwX10_31 pv_s_model (by decide) (by decide) rfl pv_k_model ?_
    refine px_aload_n dX10_kind_31 rfl ?_
    refine px_getI dX10_kind_32 flX10_31 pv_s_model (by decide) (by decide) rfl pv_k_model ?_
    refine px_iv (y := nI (1)) (by simp [pv_uI_at]) ?_
    refine px_if_leN (tgt := 42) dX10_kind_35 (by decide) (by omega) (fun h0 => absurd h0 (by omega)) (fun _ => ?_)
    refine px_iconst (v := nI 0) dX10_kind_38 (by decide) ?_
    refine px_goto (tgt := 48) dX10_kind_39 (by decide) ?_
    exact px_iret dX10_kind_48 rfl (Or.inl rfl) (pm_exc (by unfold po_kind at h; rw [if_neg ha] at h; exact h) hMA)
theorem c_X10_kind {z : pv_Z} {E : pv_E} {d bc bs : Nat} {J : pv_JT} {I : pv_IT} {mi : pv_MI} {pc idx : Nat} {lv : pv_LV} {st : List Value} {T : pv_T} {L : List pv_Lot} {H : List pv_S} {B : List Nat} {n : Nat} {l0 w0 : Int32} (hd : decode mi.2.1 pc = .ok (.invokevirtual idx, 3)) (hlk : Cond.methodLink mi.1.cls idx mX10_kind.1 ∈ pv_W) (hD : 8+1 ≤ d) (hMA : MA I ((T, L), H, B)) (hw : wx n ((T, L), H, B)) (hn : n ≤ 600) (hcat : (st.map fun v => v.category).sum ≤ 8) (K : pm_ok (pv_K z E d bc bs mi pc lv st) I J (po_kind ((T, L), H, B) l0 w0)) : pv_X z E d bc bs mi pc lv (.int (w0) :: .int (l0) :: .ref (365) :: st) pv_K0 pv_P0 I J := by
  obtain ⟨d, rfl⟩ : ∃ d0, d = d0 + 1 := ⟨d - 1, by omega⟩
  have key := px_callV (bc := bc) (bs := bs) (bc1 := 0) (bs1 := 0) (as := [.int (l0), .int (w0)]) (E := E) (z := z) (lv := lv) hd mvX10_kind hlk pv_s_model (by decide) rfl pv_k_model rfl rfl hcat (by exact Nat.le_of_ble_eq_true rfl) (s_X10_kind (by omega) hMA hw hn K)
  rw [Nat.zero_add, Nat.zero_add] at key
  exact key
set_option maxRecDepth 100000 in
set_option maxHeartbeats 4000000 in
theorem s_X10_count {Q : pv_Q} {E : pv_E} {d bc bs : Nat} {J : pv_JT} {I : pv_IT} {T : pv_T} {L : List pv_Lot} {H : List pv_S} {B : List Nat} {n : Nat} {w0 : Int32} (hD : 8 ≤ d) (hMA : MA I ((T, L), H, B)) (hw : wx n ((T, L), H, B)) (hn : n ≤ 600) (h : pm_ok Q I J (po_count ((T, L), H, B) w0)) : pv_X (pv_ZQ E Q) E d bc bs mX10_count 0 [(0, .ref (365)), (1, .int (w0))] [] pv_K0 pv_P0 I J := by
  obtain ⟨hM, hS, hB⟩ := id hMA
  replace hM : MR (I 366) T L := hM
  replace hS : MSV I H := hS
  replace hB : MB I B := hB
  have hdy : dy (T, L) := hw.1.1
  have htb : tb T := hdy.1
  have hlb : lbs L := hdy.2.1
  have h31 : L.length ≤ 31 := hlb.1
  have h30 : L.length ≤ 30 := hw.1.2.1
  have h404 : T 404 ≤ 60 * n := hw.1.2.2.1
  have hn8 : T 405 ≤ 8 := htb.2.2.1
  have hp8 : T 407 ≤ 8 := htb.2.2.2.2.2.1.1
  have h10 : T 408 ≤ 10 := htb.2.2.2.2.2.2.2.1
  have hwk : wk (T, L) := ⟨hw.1.2.2.2.2.1, hw.1.2.2.2.2.2.1, hw.1.2.2.2.2.2.2⟩
  refine px_aload_n dX10_count_0 rfl ?_
  refine px_iload_n dX10_count_1 rfl ?_
  refine px_iconst (v := nI 0) dX10_count_2 (by decide) ?_
  refine px_bipush (v := nI 12) dX10_count_3 (by decide) ?_
  refine c_X10_within dX10_count_5 mlX10_35 (by omega)  (Nat.le_of_ble_eq_true rfl) ?_
  refine px_if_eqB (tgt := 15) dX10_count_8 (by decide) (fun hm => ?_) (fun hm => ?_)
  · refine px_iconst (v := nI 1) dX10_count_15 (by decide) ?_
    refine px_putI dX10_count_16 fwX10_31 pv_s_model (by decide) (by decide) rfl pv_k_model ?_
    refine px_aload_n dX10_count_19 rfl ?_
    refine px_getI dX10_count_20 flX10_31 pv_s_model (by decide) (by decide) rfl pv_k_model ?_
    refine px_iv (y := nI (1)) (by simp [pv_uI_at]) ?_
    refine px_if_leN (tgt := 30) dX10_count_23 (by decide) (by omega) (fun h0 => absurd h0 (by omega)) (fun _ => ?_)
    refine px_iconst (v := nI 0) dX10_count_26 (by decide) ?_
    refine px_goto (tgt := 35) dX10_count_27 (by decide) ?_
    exact px_iret dX10_count_35 rfl (Or.inl rfl) (pm_exc (by unfold po_count at h; rw [if_neg hm] at h; exact h) hMA)
  · have hm0 := hm
    obtain ⟨w, w1, w2, rfl, w3⟩ := pu_in_nI hm (by omega) (by omega)
    refine px_iconst (v := nI 0) dX10_count_11 (by decide) ?_
    refine px_goto (tgt := 16) dX10_count_12 (by decide) ?_
    refine px_putI dX10_count_16 fwX10_31 pv_s_model (by decide) (by decide) rfl pv_k_model ?_
    refine px_aload_n dX10_count_19 rfl ?_
    refine px_getI dX10_count_20 flX10_31 pv_s_model (by decide) (by decide) rfl pv_k_model ?_
    refine px_iv (y := nI (0)) (by simp [pv_uI_at]) ?_
    refine px_if_leN (tgt := 30) dX10_count_23 (by decide) (by omega) (fun _ => ?_) (fun h0 => absurd h0 (by omega))
    obtain ⟨I0, hI0⟩ : ∃ I0, I0 = pv_uI I 365 0 (nI 0) := ⟨_, rfl⟩
    rw [← hI0]
    obtain ⟨hM0, hS0, hB0, hT0, hK0, hF0, hG0⟩ := pm_zero hM hS hB hI0
    refine px_aload_n dX10_count_30 rfl ?_
    refine px_iload_n dX10_count_31 rfl ?_
    refine c_X10_counted dX10_count_32 mlX10_180 (by omega) (B := B) hM0 hS0 htb (by omega) (by omega) (Nat.le_of_ble_eq_true rfl) ?_
    exact px_iret dX10_count_35 rfl (Or.inl rfl) (pm_same (by unfold po_count at h; simp only [tn, w3] at h; rw [if_pos hm0] at h; exact h) hM0 hS0 hB0 hT0 hK0)
theorem c_X10_count {z : pv_Z} {E : pv_E} {d bc bs : Nat} {J : pv_JT} {I : pv_IT} {mi : pv_MI} {pc idx : Nat} {lv : pv_LV} {st : List Value} {T : pv_T} {L : List pv_Lot} {H : List pv_S} {B : List Nat} {n : Nat} {w0 : Int32} (hd : decode mi.2.1 pc = .ok (.invokevirtual idx, 3)) (hlk : Cond.methodLink mi.1.cls idx mX10_count.1 ∈ pv_W) (hD : 8+1 ≤ d) (hMA : MA I ((T, L), H, B)) (hw : wx n ((T, L), H, B)) (hn : n ≤ 600) (hcat : (st.map fun v => v.category).sum ≤ 8) (K : pm_ok (pv_K z E d bc bs mi pc lv st) I J (po_count ((T, L), H, B) w0)) : pv_X z E d bc bs mi pc lv (.int (w0) :: .ref (365) :: st) pv_K0 pv_P0 I J := by
  obtain ⟨d, rfl⟩ : ∃ d0, d = d0 + 1 := ⟨d - 1, by omega⟩
  have key := px_callV (bc := bc) (bs := bs) (bc1 := 0) (bs1 := 0) (as := [.int (w0)]) (E := E) (z := z) (lv := lv) hd mvX10_count hlk pv_s_model (by decide) rfl pv_k_model rfl rfl hcat (by exact Nat.le_of_ble_eq_true rfl) (s_X10_count (by omega) hMA hw hn K)
  rw [Nat.zero_add, Nat.zero_add] at key
  exact key
set_option maxRecDepth 100000 in
set_option maxHeartbeats 4000000 in
theorem s_X10_why {Q : pv_Q} {E : pv_E} {d bc bs : Nat} {J : pv_JT} {I : pv_IT} {T : pv_T} {L : List pv_Lot} {H : List pv_S} {B : List Nat} {n : Nat} {k0 a0 s0 : Int32} (hD : 8 ≤ d) (hMA : MA I ((T, L), H, B)) (hw : wx n ((T, L), H, B)) (hn : n ≤ 600) (h : pm_ok Q I J (po_why ((T, L), H, B) k0 a0 s0)) : pv_X (pv_ZQ E Q) E d bc bs mX10_why 0 [(0, .ref (365)), (1, .int (k0)), (2, .int (a0)), (3, .int (s0))] [] pv_K0 pv_P0 I J := by
  obtain ⟨hM, hS, hB⟩ := id hMA
  replace hM : MR (I 366) T L := hM
  replace hS : MSV I H := hS
  replace hB : MB I B := hB
  have hdy : dy (T, L) := hw.1.1
  have htb : tb T := hdy.1
  have hlb : lbs L := hdy.2.1
  have h31 : L.length ≤ 31 := hlb.1
  have h30 : L.length ≤ 30 := hw.1.2.1
  have h404 : T 404 ≤ 60 * n := hw.1.2.2.1
  have hn8 : T 405 ≤ 8 := htb.2.2.1
  have hp8 : T 407 ≤ 8 := htb.2.2.2.2.2.1.1
  have h10 : T 408 ≤ 10 := htb.2.2.2.2.2.2.2.1
  have hwk : wk (T, L) := ⟨hw.1.2.2.2.2.1, hw.1.2.2.2.2.2.1, hw.1.2.2.2.2.2.2⟩
  refine px_aload_n dX10_why_0 rfl ?_
  refine px_aload_n dX10_why_1 rfl ?_
  refine px_iload_n dX10_why_2 rfl ?_
  refine c_X10_isKind dX10_why_3 mlX10_72 (by omega) hM (by omega) (Nat.le_of_ble_eq_true rfl) ?_
  refine px_if_eqB (tgt := 16) dX10_why_6 (by decide) (fun ha => ?_) (fun ha => ?_)
  · refine px_iconst (v := nI 1) dX10_why_16 (by decide) ?_
    refine px_goto (tgt := 32) dX10_why_17 (by decide) ?_
    refine px_putI dX10_why_32 fwX10_31 pv_s_model (by decide) (by decide) rfl pv_k_model ?_
    refine px_aload_n dX10_why_35 rfl ?_
    refine px_getI dX10_why_36 flX10_31 pv_s_model (by decide) (by decide) rfl pv_k_model ?_
    refine px_iv (y := nI (1)) (by simp [pv_uI_at]) ?_
    refine px_if_leN (tgt := 46) dX10_why_39 (by decide) (by omega) (fun h0 => absurd h0 (by omega)) (fun _ => ?_)
    refine px_iconst (v := nI 0) dX10_why_42 (by decide) ?_
    refine px_goto (tgt := 53) dX10_why_43 (by decide) ?_
    exact px_iret dX10_why_53 rfl (Or.inl rfl) (pm_exc (by unfold po_why at h; rw [if_neg (fun z => ha z.1)] at h; exact h) hMA)
  · refine px_iload_n dX10_why_9 rfl ?_
    refine c_X10_isStore dX10_why_10 mlX10_57 (by omega)  (Nat.le_of_ble_eq_true rfl) ?_
    refine px_if_neB (tgt := 20) dX10_why_13 (by decide) (fun hs => ?_) (fun hs => ?_)
    · have hab := And.intro ha hs
      obtain ⟨k, k1, rfl, k3⟩ := pu_has_nI ha (by omega)
      obtain ⟨s, s1, rfl, s3⟩ := pu_has_nI hs (by omega)
      refine px_iload_n dX10_why_20 rfl ?_
      refine c_X10_isAmount dX10_why_21 mlX10_82 (by omega)  (Nat.le_of_ble_eq_true rfl) ?_
      refine px_if_eqB (tgt := 31) dX10_why_24 (by decide) (fun hm => ?_) (fun hm => ?_)
      · refine px_iconst (v := nI 2) dX10_why_31 (by decide) ?_
        refine px_putI dX10_why_32 fwX10_31 pv_s_model (by decide) (by decide) rfl pv_k_model ?_
        refine px_aload_n dX10_why_35 rfl ?_
        refine px_getI dX10_why_36 flX10_31 pv_s_model (by decide) (by decide) rfl pv_k_model ?_
        refine px_iv (y := nI (2)) (by simp [pv_uI_at]) ?_
        refine px_if_leN (tgt := 46) dX10_why_39 (by decide) (by omega) (fun h0 => absurd h0 (by omega)) (fun _ => ?_)
        refine px_iconst (v := nI 0) dX10_why_42 (by decide) ?_
        refine px_goto (tgt := 53) dX10_why_43 (by decide) ?_
        exact px_iret dX10_why_53 rfl (Or.inl rfl) (pm_exc (by unfold po_why at h; simp only [tn, k3, s3] at h; rw [if_pos hab] at h; rw [if_neg hm] at h; exact h) hMA)
      · have hm0 := hm
        obtain ⟨a, a1, a2, rfl, a3⟩ := pu_in_nI hm (by omega) (by omega)
        refine px_iconst (v := nI 0) dX10_why_27 (by decide) ?_
        refine px_goto (tgt := 32) dX10_why_28 (by decide) ?_
        refine px_putI dX10_why_32 fwX10_31 pv_s_model (by decide) (by decide) rfl pv_k_model ?_
        refine px_aload_n dX10_why_35 rfl ?_
        refine px_getI dX10_why_36 flX10_31 pv_s_model (by decide) (by decide) rfl pv_k_model ?_
        refine px_iv (y := nI (0)) (by simp [pv_uI_at]) ?_
        refine px_if_leN (tgt := 46) dX10_why_39 (by decide) (by omega) (fun _ => ?_) (fun h0 => absurd h0 (by omega))
        obtain ⟨I0, hI0⟩ : ∃ I0, I0 = pv_uI I 365 0 (nI 0) := ⟨_, rfl⟩
        rw [← hI0]
        obtain ⟨hM0, hS0, hB0, hT0, hK0, hF0, hG0⟩ := pm_zero hM hS hB hI0
        refine px_aload_n dX10_why_46 rfl ?_
        refine px_iload_n dX10_why_47 rfl ?_
        refine px_iload_n dX10_why_48 rfl ?_
        refine px_iload_n dX10_why_49 rfl ?_
        refine c_X10_refusal dX10_why_50 mlX10_85 (by omega) hM0 htb (by omega) (by omega) (by omega) (by omega) h30 (Nat.le_of_ble_eq_true rfl) ?_
        exact px_iret dX10_why_53 rfl (Or.inl rfl) (pm_same (by unfold po_why at h; simp only [tn, k3, s3, a3] at h; rw [if_pos hab] at h; rw [if_pos hm0] at h; exact h) hM0 hS0 hB0 hT0 hK0)
    · refine px_iconst (v := nI 1) dX10_why_16 (by decide) ?_
      refine px_goto (tgt := 32) dX10_why_17 (by decide) ?_
      refine px_putI dX10_why_32 fwX10_31 pv_s_model (by decide) (by decide) rfl pv_k_model ?_
      refine px_aload_n dX10_why_35 rfl ?_
      refine px_getI dX10_why_36 flX10_31 pv_s_model (by decide) (by decide) rfl pv_k_model ?_
      refine px_iv (y := nI (1)) (by simp [pv_uI_at]) ?_
      refine px_if_leN (tgt := 46) dX10_why_39 (by decide) (by omega) (fun h0 => absurd h0 (by omega)) (fun _ => ?_)
      refine px_iconst (v := nI 0) dX10_why_42 (by decide) ?_
      refine px_goto (tgt := 53) dX10_why_43 (by decide) ?_
      exact px_iret dX10_why_53 rfl (Or.inl rfl) (pm_exc (by unfold po_why at h; rw [if_neg (fun z => hs z.2)] at h; exact h) hMA)
theorem c_X10_why {z : pv_Z} {E : pv_E} {d bc bs : Nat} {J : pv_JT} {I : pv_IT} {mi : pv_MI} {pc idx : Nat} {lv : pv_LV} {st : List Value} {T : pv_T} {L : List pv_Lot} {H : List pv_S} {B : List Nat} {n : Nat} {k0 a0 s0 : Int32} (hd : decode mi.2.1 pc = .ok (.invokevirtual idx, 3)) (hlk : Cond.methodLink mi.1.cls idx mX10_why.1 ∈ pv_W) (hD : 8+1 ≤ d) (hMA : MA I ((T, L), H, B)) (hw : wx n ((T, L), H, B)) (hn : n ≤ 600) (hcat : (st.map fun v => v.category).sum ≤ 8) (K : pm_ok (pv_K z E d bc bs mi pc lv st) I J (po_why ((T, L), H, B) k0 a0 s0)) : pv_X z E d bc bs mi pc lv (.int (s0) :: .int (a0) :: .int (k0) :: .ref (365) :: st) pv_K0 pv_P0 I J := by
  obtain ⟨d, rfl⟩ : ∃ d0, d = d0 + 1 := ⟨d - 1, by omega⟩
  have key := px_callV (bc := bc) (bs := bs) (bc1 := 0) (bs1 := 0) (as := [.int (k0), .int (a0), .int (s0)]) (E := E) (z := z) (lv := lv) hd mvX10_why hlk pv_s_model (by decide) rfl pv_k_model rfl rfl hcat (by exact Nat.le_of_ble_eq_true rfl) (s_X10_why (by omega) hMA hw hn K)
  rw [Nat.zero_add, Nat.zero_add] at key
  exact key
set_option maxRecDepth 100000 in
set_option maxHeartbeats 4000000 in
theorem s_X10_ifPass {Q : pv_Q} {E : pv_E} {d bc bs : Nat} {J : pv_JT} {I : pv_IT} {T : pv_T} {L : List pv_Lot} {H : List pv_S} {B : List Nat} {n : Nat} {a0 w0 : Int32} (hD : 8 ≤ d) (hMA : MA I ((T, L), H, B)) (hw : wx n ((T, L), H, B)) (hn : n ≤ 600) (h : pm_ok Q I J (po_ifPass ((T, L), H, B) a0 w0)) : pv_X (pv_ZQ E Q) E d bc bs mX10_ifPass 0 [(0, .ref (365)), (1, .int (a0)), (2, .int (w0))] [] pv_K0 pv_P0 I J := by
  obtain ⟨hM, hS, hB⟩ := id hMA
  replace hM : MR (I 366) T L := hM
  replace hS : MSV I H := hS
  replace hB : MB I B := hB
  have hdy : dy (T, L) := hw.1.1
  have htb : tb T := hdy.1
  have hlb : lbs L := hdy.2.1
  have h31 : L.length ≤ 31 := hlb.1
  have h30 : L.length ≤ 30 := hw.1.2.1
  have h404 : T 404 ≤ 60 * n := hw.1.2.2.1
  have hn8 : T 405 ≤ 8 := htb.2.2.1
  have hp8 : T 407 ≤ 8 := htb.2.2.2.2.2.1.1
  have h10 : T 408 ≤ 10 := htb.2.2.2.2.2.2.2.1
  have hwk : wk (T, L) := ⟨hw.1.2.2.2.2.1, hw.1.2.2.2.2.2.1, hw.1.2.2.2.2.2.2⟩
  refine px_aload_n dX10_ifPass_0 rfl ?_
  refine px_iload_n dX10_ifPass_1 rfl ?_
  refine c_X10_isDays dX10_ifPass_2 mlX10_183 (by omega)  (Nat.le_of_ble_eq_true rfl) ?_
  refine px_if_eqB (tgt := 21) dX10_ifPass_5 (by decide) (fun ha => ?_) (fun ha => ?_)
  · refine px_iconst (v := nI 1) dX10_ifPass_21 (by decide) ?_
    refine px_putI dX10_ifPass_22 fwX10_31 pv_s_model (by decide) (by decide) rfl pv_k_model ?_
    refine px_aload_n dX10_ifPass_25 rfl ?_
    refine px_getI dX10_ifPass_26 flX10_31 pv_s_model (by decide) (by decide) rfl pv_k_model ?_
    refine px_iv (y := nI (1)) (by simp [pv_uI_at]) ?_
    refine px_if_leN (tgt := 36) dX10_ifPass_29 (by decide) (by omega) (fun h0 => absurd h0 (by omega)) (fun _ => ?_)
    refine px_iconst (v := nI 0) dX10_ifPass_32 (by decide) ?_
    refine px_goto (tgt := 42) dX10_ifPass_33 (by decide) ?_
    exact px_iret dX10_ifPass_42 rfl (Or.inl rfl) (pm_exc (by unfold po_ifPass at h; rw [if_neg (fun z => ha z.1)] at h; exact h) hMA)
  · refine px_iload_n dX10_ifPass_8 rfl ?_
    refine px_iconst (v := nI 0) dX10_ifPass_9 (by decide) ?_
    refine px_iconst (v := nI 4) dX10_ifPass_10 (by decide) ?_
    refine c_X10_within dX10_ifPass_11 mlX10_35 (by omega)  (Nat.le_of_ble_eq_true rfl) ?_
    refine px_if_eqB (tgt := 21) dX10_ifPass_14 (by decide) (fun hm => ?_) (fun hm => ?_)
    · refine px_iconst (v := nI 1) dX10_ifPass_21 (by decide) ?_
      refine px_putI dX10_ifPass_22 fwX10_31 pv_s_model (by decide) (by decide) rfl pv_k_model ?_
      refine px_aload_n dX10_ifPass_25 rfl ?_
      refine px_getI dX10_ifPass_26 flX10_31 pv_s_model (by decide) (by decide) rfl pv_k_model ?_
      refine px_iv (y := nI (1)) (by simp [pv_uI_at]) ?_
      refine px_if_leN (tgt := 36) dX10_ifPass_29 (by decide) (by omega) (fun h0 => absurd h0 (by omega)) (fun _ => ?_)
      refine px_iconst (v := nI 0) dX10_ifPass_32 (by decide) ?_
      refine px_goto (tgt := 42) dX10_ifPass_33 (by decide) ?_
      exact px_iret dX10_ifPass_42 rfl (Or.inl rfl) (pm_exc (by unfold po_ifPass at h; rw [if_neg (fun z => hm z.2)] at h; exact h) hMA)
    · have hab := And.intro ha hm
      obtain ⟨a, a1, a2, rfl, a3⟩ := pu_in_nI ha (by omega) (by omega)
      obtain ⟨w, w1, w2, rfl, w3⟩ := pu_in_nI hm (by omega) (by omega)
      refine px_iconst (v := nI 0) dX10_ifPass_17 (by decide) ?_
      refine px_goto (tgt := 22) dX10_ifPass_18 (by decide) ?_
      refine px_putI dX10_ifPass_22 fwX10_31 pv_s_model (by decide) (by decide) rfl pv_k_model ?_
      refine px_aload_n dX10_ifPass_25 rfl ?_
      refine px_getI dX10_ifPass_26 flX10_31 pv_s_model (by decide) (by decide) rfl pv_k_model ?_
      refine px_iv (y := nI (0)) (by simp [pv_uI_at]) ?_
      refine px_if_leN (tgt := 36) dX10_ifPass_29 (by decide) (by omega) (fun _ => ?_) (fun h0 => absurd h0 (by omega))
      obtain ⟨I0, hI0⟩ : ∃ I0, I0 = pv_uI I 365 0 (nI 0) := ⟨_, rfl⟩
      rw [← hI0]
      obtain ⟨hM0, hS0, hB0, hT0, hK0, hF0, hG0⟩ := pm_zero hM hS hB hI0
      refine px_aload_n dX10_ifPass_36 rfl ?_
      refine px_iload_n dX10_ifPass_37 rfl ?_
      refine px_iload_n dX10_ifPass_38 rfl ?_
      refine c_X10_ahead dX10_ifPass_39 mlX10_186 (by omega) hM0 hdy hwk (by omega) (by omega) (Nat.le_of_ble_eq_true rfl) (fun I2 h2 hF2 => ?_)
      exact px_iret dX10_ifPass_42 rfl (Or.inl rfl) (pm_back (by unfold po_ifPass at h; simp only [tn, a3, w3] at h; rw [if_pos hab] at h; exact h) hM0 hS0 hB0 hT0 hK0 h2 hF2)
theorem c_X10_ifPass {z : pv_Z} {E : pv_E} {d bc bs : Nat} {J : pv_JT} {I : pv_IT} {mi : pv_MI} {pc idx : Nat} {lv : pv_LV} {st : List Value} {T : pv_T} {L : List pv_Lot} {H : List pv_S} {B : List Nat} {n : Nat} {a0 w0 : Int32} (hd : decode mi.2.1 pc = .ok (.invokevirtual idx, 3)) (hlk : Cond.methodLink mi.1.cls idx mX10_ifPass.1 ∈ pv_W) (hD : 8+1 ≤ d) (hMA : MA I ((T, L), H, B)) (hw : wx n ((T, L), H, B)) (hn : n ≤ 600) (hcat : (st.map fun v => v.category).sum ≤ 8) (K : pm_ok (pv_K z E d bc bs mi pc lv st) I J (po_ifPass ((T, L), H, B) a0 w0)) : pv_X z E d bc bs mi pc lv (.int (w0) :: .int (a0) :: .ref (365) :: st) pv_K0 pv_P0 I J := by
  obtain ⟨d, rfl⟩ : ∃ d0, d = d0 + 1 := ⟨d - 1, by omega⟩
  have key := px_callV (bc := bc) (bs := bs) (bc1 := 0) (bs1 := 0) (as := [.int (a0), .int (w0)]) (E := E) (z := z) (lv := lv) hd mvX10_ifPass hlk pv_s_model (by decide) rfl pv_k_model rfl rfl hcat (by exact Nat.le_of_ble_eq_true rfl) (s_X10_ifPass (by omega) hMA hw hn K)
  rw [Nat.zero_add, Nat.zero_add] at key
  exact key
set_option maxRecDepth 100000 in
set_option maxHeartbeats 4000000 in
theorem s_X10_shortIn {Q : pv_Q} {E : pv_E} {d bc bs : Nat} {J : pv_JT} {I : pv_IT} {T : pv_T} {L : List pv_Lot} {H : List pv_S} {B : List Nat} {n : Nat} {k0 : Int32} (hD : 8 ≤ d) (hMA : MA I ((T, L), H, B)) (hw : wx n ((T, L), H, B)) (hn : n ≤ 600) (h : pm_ok Q I J (po_shortIn ((T, L), H, B) k0)) : pv_X (pv_ZQ E Q) E d bc bs mX10_shortIn 0 [(0, .ref (365)), (1, .int (k0))] [] pv_K0 pv_P0 I J := by
  obtain ⟨hM, hS, hB⟩ := id hMA
  replace hM : MR (I 366) T L := hM
  replace hS : MSV I H := hS
  replace hB : MB I B := hB
  have hdy : dy (T, L) := hw.1.1
  have htb : tb T := hdy.1
  have hlb : lbs L := hdy.2.1
  have h31 : L.length ≤ 31 := hlb.1
  have h30 : L.length ≤ 30 := hw.1.2.1
  have h404 : T 404 ≤ 60 * n := hw.1.2.2.1
  have hn8 : T 405 ≤ 8 := htb.2.2.1
  have hp8 : T 407 ≤ 8 := htb.2.2.2.2.2.1.1
  have h10 : T 408 ≤ 10 := htb.2.2.2.2.2.2.2.1
  have hwk : wk (T, L) := ⟨hw.1.2.2.2.2.1, hw.1.2.2.2.2.2.1, hw.1.2.2.2.2.2.2⟩
  refine px_aload_n dX10_shortIn_0 rfl ?_
  refine px_aload_n dX10_shortIn_1 rfl ?_
  refine px_iload_n dX10_shortIn_2 rfl ?_
  refine c_X10_isKind dX10_shortIn_3 mlX10_72 (by omega) hM (by omega) (Nat.le_of_ble_eq_true rfl) ?_
  refine px_if_eqB (tgt := 13) dX10_shortIn_6 (by decide) (fun ha => ?_) (fun ha => ?_)
  · refine px_iconst (v := nI 1) dX10_shortIn_13 (by decide) ?_
    refine px_putI dX10_shortIn_14 fwX10_31 pv_s_model (by decide) (by decide) rfl pv_k_model ?_
    refine px_aload_n dX10_shortIn_17 rfl ?_
    refine px_getI dX10_shortIn_18 flX10_31 pv_s_model (by decide) (by decide) rfl pv_k_model ?_
    refine px_iv (y := nI (1)) (by simp [pv_uI_at]) ?_
    refine px_if_leN (tgt := 28) dX10_shortIn_21 (by decide) (by omega) (fun h0 => absurd h0 (by omega)) (fun _ => ?_)
    refine px_iconst (v := nI 0) dX10_shortIn_24 (by decide) ?_
    refine px_goto (tgt := 33) dX10_shortIn_25 (by decide) ?_
    exact px_iret dX10_shortIn_33 rfl (Or.inl rfl) (pm_exc (by unfold po_shortIn at h; rw [if_neg ha] at h; exact h) hMA)
  · have ha0 := ha
    obtain ⟨k, k1, rfl, k3⟩ := pu_has_nI ha (by omega)
    have hlk : T (28 + 5 * k) ≤ 216000 * n := hw.1.2.2.2.1 k (by omega)
    refine px_iconst (v := nI 0) dX10_shortIn_9 (by decide) ?_
    refine px_goto (tgt := 14) dX10_shortIn_10 (by decide) ?_
    refine px_putI dX10_shortIn_14 fwX10_31 pv_s_model (by decide) (by decide) rfl pv_k_model ?_
    refine px_aload_n dX10_shortIn_17 rfl ?_
    refine px_getI dX10_shortIn_18 flX10_31 pv_s_model (by decide) (by decide) rfl pv_k_model ?_
    refine px_iv (y := nI (0)) (by simp [pv_uI_at]) ?_
    refine px_if_leN (tgt := 28) dX10_shortIn_21 (by decide) (by omega) (fun _ => ?_) (fun h0 => absurd h0 (by omega))
    obtain ⟨I0, hI0⟩ : ∃ I0, I0 = pv_uI I 365 0 (nI 0) := ⟨_, rfl⟩
    rw [← hI0]
    obtain ⟨hM0, hS0, hB0, hT0, hK0, hF0, hG0⟩ := pm_zero hM hS hB hI0
    refine px_aload_n dX10_shortIn_28 rfl ?_
    refine px_iload_n dX10_shortIn_29 rfl ?_
    refine c_X10_shortNow dX10_shortIn_30 mlX10_192 (by omega) hM0 hdy (by omega) (by omega) (by omega) (Nat.le_of_ble_eq_true rfl) (fun I2 h2 hF2 => ?_)
    exact px_iret dX10_shortIn_33 rfl (Or.inl rfl) (pm_back (by unfold po_shortIn at h; simp only [tn, k3] at h; rw [if_pos ha0] at h; exact h) hM0 hS0 hB0 hT0 hK0 h2 hF2)
theorem c_X10_shortIn {z : pv_Z} {E : pv_E} {d bc bs : Nat} {J : pv_JT} {I : pv_IT} {mi : pv_MI} {pc idx : Nat} {lv : pv_LV} {st : List Value} {T : pv_T} {L : List pv_Lot} {H : List pv_S} {B : List Nat} {n : Nat} {k0 : Int32} (hd : decode mi.2.1 pc = .ok (.invokevirtual idx, 3)) (hlk : Cond.methodLink mi.1.cls idx mX10_shortIn.1 ∈ pv_W) (hD : 8+1 ≤ d) (hMA : MA I ((T, L), H, B)) (hw : wx n ((T, L), H, B)) (hn : n ≤ 600) (hcat : (st.map fun v => v.category).sum ≤ 8) (K : pm_ok (pv_K z E d bc bs mi pc lv st) I J (po_shortIn ((T, L), H, B) k0)) : pv_X z E d bc bs mi pc lv (.int (k0) :: .ref (365) :: st) pv_K0 pv_P0 I J := by
  obtain ⟨d, rfl⟩ : ∃ d0, d = d0 + 1 := ⟨d - 1, by omega⟩
  have key := px_callV (bc := bc) (bs := bs) (bc1 := 0) (bs1 := 0) (as := [.int (k0)]) (E := E) (z := z) (lv := lv) hd mvX10_shortIn hlk pv_s_model (by decide) rfl pv_k_model rfl rfl hcat (by exact Nat.le_of_ble_eq_true rfl) (s_X10_shortIn (by omega) hMA hw hn K)
  rw [Nat.zero_add, Nat.zero_add] at key
  exact key
set_option maxRecDepth 100000 in
set_option maxHeartbeats 4000000 in
theorem s_X10_bestStore {Q : pv_Q} {E : pv_E} {d bc bs : Nat} {J : pv_JT} {I : pv_IT} {T : pv_T} {L : List pv_Lot} {H : List pv_S} {B : List Nat} {n : Nat} {k0 : Int32} (hD : 8 ≤ d) (hMA : MA I ((T, L), H, B)) (hw : wx n ((T, L), H, B)) (hn : n ≤ 600) (h : pm_ok Q I J (po_best ((T, L), H, B) k0)) : pv_X (pv_ZQ E Q) E d bc bs mX10_bestStore 0 [(0, .ref (365)), (1, .int (k0))] [] pv_K0 pv_P0 I J := by
  obtain ⟨hM, hS, hB⟩ := id hMA
  replace hM : MR (I 366) T L := hM
  replace hS : MSV I H := hS
  replace hB : MB I B := hB
  have hdy : dy (T, L) := hw.1.1
  have htb : tb T := hdy.1
  have hlb : lbs L := hdy.2.1
  have h31 : L.length ≤ 31 := hlb.1
  have h30 : L.length ≤ 30 := hw.1.2.1
  have h404 : T 404 ≤ 60 * n := hw.1.2.2.1
  have hn8 : T 405 ≤ 8 := htb.2.2.1
  have hp8 : T 407 ≤ 8 := htb.2.2.2.2.2.1.1
  have h10 : T 408 ≤ 10 := htb.2.2.2.2.2.2.2.1
  have hwk : wk (T, L) := ⟨hw.1.2.2.2.2.1, hw.1.2.2.2.2.2.1, hw.1.2.2.2.2.2.2⟩
  refine px_aload_n dX10_bestStore_0 rfl ?_
  refine px_aload_n dX10_bestStore_1 rfl ?_
  refine px_iload_n dX10_bestStore_2 rfl ?_
  refine c_X10_isKind dX10_bestStore_3 mlX10_72 (by omega) hM (by omega) (Nat.le_of_ble_eq_true rfl) ?_
  refine px_if_eqB (tgt := 13) dX10_bestStore_6 (by decide) (fun ha => ?_) (fun ha => ?_)
  · refine px_iconst (v := nI 1) dX10_bestStore_13 (by decide) ?_
    refine px_putI dX10_bestStore_14 fwX10_31 pv_s_model (by decide) (by decide) rfl pv_k_model ?_
    refine px_aload_n dX10_bestStore_17 rfl ?_
    refine px_getI dX10_bestStore_18 flX10_31 pv_s_model (by decide) (by decide) rfl pv_k_model ?_
    refine px_iv (y := nI (1)) (by simp [pv_uI_at]) ?_
    refine px_if_leN (tgt := 28) dX10_bestStore_21 (by decide) (by omega) (fun h0 => absurd h0 (by omega)) (fun _ => ?_)
    refine px_iconst (v := nI 0) dX10_bestStore_24 (by decide) ?_
    refine px_goto (tgt := 33) dX10_bestStore_25 (by decide) ?_
    exact px_iret dX10_bestStore_33 rfl (Or.inl rfl) (pm_exc (by unfold po_best at h; rw [if_neg ha] at h; exact h) hMA)
  · have ha0 := ha
    obtain ⟨k, k1, rfl, k3⟩ := pu_has_nI ha (by omega)
    refine px_iconst (v := nI 0) dX10_bestStore_9 (by decide) ?_
    refine px_goto (tgt := 14) dX10_bestStore_10 (by decide) ?_
    refine px_putI dX10_bestStore_14 fwX10_31 pv_s_model (by decide) (by decide) rfl pv_k_model ?_
    refine px_aload_n dX10_bestStore_17 rfl ?_
    refine px_getI dX10_bestStore_18 flX10_31 pv_s_model (by decide) (by decide) rfl pv_k_model ?_
    refine px_iv (y := nI (0)) (by simp [pv_uI_at]) ?_
    refine px_if_leN (tgt := 28) dX10_bestStore_21 (by decide) (by omega) (fun _ => ?_) (fun h0 => absurd h0 (by omega))
    obtain ⟨I0, hI0⟩ : ∃ I0, I0 = pv_uI I 365 0 (nI 0) := ⟨_, rfl⟩
    rw [← hI0]
    obtain ⟨hM0, hS0, hB0, hT0, hK0, hF0, hG0⟩ := pm_zero hM hS hB hI0
    refine px_aload_n dX10_bestStore_28 rfl ?_
    refine px_iload_n dX10_bestStore_29 rfl ?_
    refine c_X10_bestNow dX10_bestStore_30 mlX10_195 (by omega) hM0 htb (by omega) (Nat.le_of_ble_eq_true rfl) ?_
    exact px_iret dX10_bestStore_33 rfl (Or.inl rfl) (pm_same (by unfold po_best at h; simp only [tn, k3] at h; rw [if_pos ha0] at h; exact h) hM0 hS0 hB0 hT0 hK0)
theorem c_X10_bestStore {z : pv_Z} {E : pv_E} {d bc bs : Nat} {J : pv_JT} {I : pv_IT} {mi : pv_MI} {pc idx : Nat} {lv : pv_LV} {st : List Value} {T : pv_T} {L : List pv_Lot} {H : List pv_S} {B : List Nat} {n : Nat} {k0 : Int32} (hd : decode mi.2.1 pc = .ok (.invokevirtual idx, 3)) (hlk : Cond.methodLink mi.1.cls idx mX10_bestStore.1 ∈ pv_W) (hD : 8+1 ≤ d) (hMA : MA I ((T, L), H, B)) (hw : wx n ((T, L), H, B)) (hn : n ≤ 600) (hcat : (st.map fun v => v.category).sum ≤ 8) (K : pm_ok (pv_K z E d bc bs mi pc lv st) I J (po_best ((T, L), H, B) k0)) : pv_X z E d bc bs mi pc lv (.int (k0) :: .ref (365) :: st) pv_K0 pv_P0 I J := by
  obtain ⟨d, rfl⟩ : ∃ d0, d = d0 + 1 := ⟨d - 1, by omega⟩
  have key := px_callV (bc := bc) (bs := bs) (bc1 := 0) (bs1 := 0) (as := [.int (k0)]) (E := E) (z := z) (lv := lv) hd mvX10_bestStore hlk pv_s_model (by decide) rfl pv_k_model rfl rfl hcat (by exact Nat.le_of_ble_eq_true rfl) (s_X10_bestStore (by omega) hMA hw hn K)
  rw [Nat.zero_add, Nat.zero_add] at key
  exact key
set_option maxRecDepth 100000 in
set_option maxHeartbeats 4000000 in
theorem s_X10_spoils {Q : pv_Q} {E : pv_E} {d bc bs : Nat} {J : pv_JT} {I : pv_IT} {T : pv_T} {L : List pv_Lot} {H : List pv_S} {B : List Nat} {n : Nat} {k0 a0 : Int32} (hD : 8 ≤ d) (hMA : MA I ((T, L), H, B)) (hw : wx n ((T, L), H, B)) (hn : n ≤ 600) (h : pm_ok Q I J (po_spoils ((T, L), H, B) k0 a0)) : pv_X (pv_ZQ E Q) E d bc bs mX10_spoils 0 [(0, .ref (365)), (1, .int (k0)), (2, .int (a0))] [] pv_K0 pv_P0 I J := by
  obtain ⟨hM, hS, hB⟩ := id hMA
  replace hM : MR (I 366) T L := hM
  replace hS : MSV I H := hS
  replace hB : MB I B := hB
  have hdy : dy (T, L) := hw.1.1
  have htb : tb T := hdy.1
  have hlb : lbs L := hdy.2.1
  have h31 : L.length ≤ 31 := hlb.1
  have h30 : L.length ≤ 30 := hw.1.2.1
  have h404 : T 404 ≤ 60 * n := hw.1.2.2.1
  have hn8 : T 405 ≤ 8 := htb.2.2.1
  have hp8 : T 407 ≤ 8 := htb.2.2.2.2.2.1.1
  have h10 : T 408 ≤ 10 := htb.2.2.2.2.2.2.2.1
  have hwk : wk (T, L) := ⟨hw.1.2.2.2.2.1, hw.1.2.2.2.2.2.1, hw.1.2.2.2.2.2.2⟩
  refine px_aload_n dX10_spoils_0 rfl ?_
  refine px_aload_n dX10_spoils_1 rfl ?_
  refine px_iload_n dX10_spoils_2 rfl ?_
  refine c_X10_isKind dX10_spoils_3 mlX10_72 (by omega) hM (by omega) (Nat.le_of_ble_eq_true rfl) ?_
  refine px_if_neB (tgt := 13) dX10_spoils_6 (by decide) (fun ha => ?_) (fun ha => ?_)
  · have ha0 := ha
    obtain ⟨k, k1, rfl, k3⟩ := pu_has_nI ha (by omega)
    refine px_iload_n dX10_spoils_13 rfl ?_
    refine c_X10_isDays dX10_spoils_14 mlX10_183 (by omega)  (Nat.le_of_ble_eq_true rfl) ?_
    refine px_if_eqB (tgt := 24) dX10_spoils_17 (by decide) (fun hm => ?_) (fun hm => ?_)
    · refine px_iconst (v := nI 2) dX10_spoils_24 (by decide) ?_
      refine px_putI dX10_spoils_25 fwX10_31 pv_s_model (by decide) (by decide) rfl pv_k_model ?_
      refine px_aload_n dX10_spoils_28 rfl ?_
      refine px_getI dX10_spoils_29 flX10_31 pv_s_model (by decide) (by decide) rfl pv_k_model ?_
      refine px_iv (y := nI (2)) (by simp [pv_uI_at]) ?_
      refine px_if_leN (tgt := 37) dX10_spoils_32 (by decide) (by omega) (fun h0 => absurd h0 (by omega)) (fun _ => ?_)
      refine px_iconst (v := nI 0) dX10_spoils_35 (by decide) ?_
      exact px_iret dX10_spoils_36 rfl (Or.inl rfl) (pm_exc (by unfold po_spoils at h; simp only [tn, k3] at h; rw [if_pos ha0] at h; rw [if_neg hm] at h; exact h) hMA)
    · have hm0 := hm
      obtain ⟨a, a1, a2, rfl, a3⟩ := pu_in_nI hm (by omega) (by omega)
      refine px_iconst (v := nI 0) dX10_spoils_20 (by decide) ?_
      refine px_goto (tgt := 25) dX10_spoils_21 (by decide) ?_
      refine px_putI dX10_spoils_25 fwX10_31 pv_s_model (by decide) (by decide) rfl pv_k_model ?_
      refine px_aload_n dX10_spoils_28 rfl ?_
      refine px_getI dX10_spoils_29 flX10_31 pv_s_model (by decide) (by decide) rfl pv_k_model ?_
      refine px_iv (y := nI (0)) (by simp [pv_uI_at]) ?_
      refine px_if_leN (tgt := 37) dX10_spoils_32 (by decide) (by omega) (fun _ => ?_) (fun h0 => absurd h0 (by omega))
      obtain ⟨I0, hI0⟩ : ∃ I0, I0 = pv_uI I 365 0 (nI 0) := ⟨_, rfl⟩
      rw [← hI0]
      obtain ⟨hM0, hS0, hB0, hT0, hK0, hF0, hG0⟩ := pm_zero hM hS hB hI0
      refine px_aload_n dX10_spoils_37 rfl ?_
      refine px_getR dX10_spoils_38 flX10_7 pv_s_model (by decide) (by decide) rfl pv_k_model pv_p_365_1 ?_
      refine px_iconst (v := nI 0) dX10_spoils_41 (by decide) ?_
      refine px_aload_n dX10_spoils_42 rfl ?_
      refine px_getR dX10_spoils_43 flX10_13 pv_s_model (by decide) (by decide) rfl pv_k_model pv_p_365_2 ?_
      refine px_iconst (v := nI 0) dX10_spoils_46 (by decide) ?_
      refine c_X10_copy dX10_spoils_47 mlX10_42 (by omega) pv_a_z pv_a_aside (by omega) (by omega) (by omega) (Nat.le_of_ble_eq_true rfl) (fun I1 h1 hF1 => ?_)
      have hM1 : MR (I1 366) T L := MR_of hM0 fun i hi => hF1 366 i (by omega)
      have hA1 : ∀ i, i < 413 → I1 367 i = I0 366 i := fun i hi => by
        have e := h1 i hi
        rw [Nat.zero_add] at e
        exact e
      refine px_aload_n dX10_spoils_50 rfl ?_
      refine px_getR dX10_spoils_51 flX10_7 pv_s_model (by decide) (by decide) rfl pv_k_model pv_p_365_1 ?_
      refine px_bipush (v := nI 24) dX10_spoils_54 (by decide) ?_
      refine px_iconst (v := nI 5) dX10_spoils_56 (by decide) ?_
      refine px_iload_n dX10_spoils_57 rfl ?_
      refine px_imulN dX10_spoils_58 ?_
      refine px_iaddN dX10_spoils_59 ?_
      refine px_iconst (v := nI 2) dX10_spoils_60 (by decide) ?_
      refine px_iaddN dX10_spoils_61 ?_
      refine px_iald (j := ((24 + (5 * k)) + 2)) dX10_spoils_62 pv_a_z.1 rfl (by omega) pv_a_z.2.2 pv_a_z.2.1 ?_
      refine px_iv (y := nI (T (26 + 5 * k))) ((hM1.1 (((24 + (5 * k)) + 2)) (by omega) (by omega) (by omega)).trans (congrArg nI (congrArg T (by omega)))) ?_
      refine px_istore_n dX10_spoils_63 (by decide) ?_
      refine px_aload_n dX10_spoils_64 rfl ?_
      refine px_iload_n dX10_spoils_65 rfl ?_
      refine c_X10_passDays dX10_spoils_66 mlX10_128 (by omega) hM1 hdy (by omega) (Nat.le_of_ble_eq_true rfl) (fun I2 hM2 hF2 => ?_)
      refine px_aload_n dX10_spoils_69 rfl ?_
      refine px_getR dX10_spoils_70 flX10_7 pv_s_model (by decide) (by decide) rfl pv_k_model pv_p_365_1 ?_
      refine px_bipush (v := nI 24) dX10_spoils_73 (by decide) ?_
      refine px_iconst (v := nI 5) dX10_spoils_75 (by decide) ?_
      refine px_iload_n dX10_spoils_76 rfl ?_
      refine px_imulN dX10_spoils_77 ?_
      refine px_iaddN dX10_spoils_78 ?_
      refine px_iconst (v := nI 2) dX10_spoils_79 (by decide) ?_
      refine px_iaddN dX10_spoils_80 ?_
      refine px_iald (j := ((24 + (5 * k)) + 2)) dX10_spoils_81 pv_a_z.1 rfl (by omega) pv_a_z.2.2 pv_a_z.2.1 ?_
      refine px_iv (y := nI ((pd_days (T, L) a).1 (26 + 5 * k))) ((hM2.1 (((24 + (5 * k)) + 2)) (by omega) (by omega) (by omega)).trans (congrArg nI (congrArg (pd_days (T, L) a).1 (by omega)))) ?_
      refine px_iload_n dX10_spoils_82 rfl ?_
      refine px_isub dX10_spoils_83 ?_
      refine px_istore dX10_spoils_84 (by decide) ?_
      refine px_aload_n dX10_spoils_86 rfl ?_
      refine px_getR dX10_spoils_87 flX10_13 pv_s_model (by decide) (by decide) rfl pv_k_model pv_p_365_2 ?_
      refine px_iconst (v := nI 0) dX10_spoils_90 (by decide) ?_
      refine px_aload_n dX10_spoils_91 rfl ?_
      refine px_getR dX10_spoils_92 flX10_7 pv_s_model (by decide) (by decide) rfl pv_k_model pv_p_365_1 ?_
      refine px_iconst (v := nI 0) dX10_spoils_95 (by decide) ?_
      refine c_X10_copy dX10_spoils_96 mlX10_42 (by omega) pv_a_aside pv_a_z (by omega) (by omega) (by omega) (Nat.le_of_ble_eq_true rfl) (fun I3 h3 hF3 => ?_)
      refine px_iload dX10_spoils_99 rfl ?_
      exact px_iret dX10_spoils_101 rfl (Or.inl rfl) (pm_back (by unfold po_spoils at h; simp only [tn, k3, a3] at h; rw [if_pos ha0] at h; rw [if_pos hm0] at h; exact h) hM0 hS0 hB0 hT0 hK0 (fun i hi => by
          have e := h3 i hi
          rw [Nat.zero_add, congrFun (hF2 367 (by omega) (by omega)) i, hA1 i hi] at e
          exact e) (fun k0 a b c => (funext fun j => hF3 k0 j (by omega)).trans ((hF2 k0 a c).trans (funext fun j => hF1 k0 j (by omega)))))
  · refine px_iconst (v := nI 1) dX10_spoils_9 (by decide) ?_
    refine px_goto (tgt := 25) dX10_spoils_10 (by decide) ?_
    refine px_putI dX10_spoils_25 fwX10_31 pv_s_model (by decide) (by decide) rfl pv_k_model ?_
    refine px_aload_n dX10_spoils_28 rfl ?_
    refine px_getI dX10_spoils_29 flX10_31 pv_s_model (by decide) (by decide) rfl pv_k_model ?_
    refine px_iv (y := nI (1)) (by simp [pv_uI_at]) ?_
    refine px_if_leN (tgt := 37) dX10_spoils_32 (by decide) (by omega) (fun h0 => absurd h0 (by omega)) (fun _ => ?_)
    refine px_iconst (v := nI 0) dX10_spoils_35 (by decide) ?_
    exact px_iret dX10_spoils_36 rfl (Or.inl rfl) (pm_exc (by unfold po_spoils at h; rw [if_neg ha] at h; exact h) hMA)
theorem c_X10_spoils {z : pv_Z} {E : pv_E} {d bc bs : Nat} {J : pv_JT} {I : pv_IT} {mi : pv_MI} {pc idx : Nat} {lv : pv_LV} {st : List Value} {T : pv_T} {L : List pv_Lot} {H : List pv_S} {B : List Nat} {n : Nat} {k0 a0 : Int32} (hd : decode mi.2.1 pc = .ok (.invokevirtual idx, 3)) (hlk : Cond.methodLink mi.1.cls idx mX10_spoils.1 ∈ pv_W) (hD : 8+1 ≤ d) (hMA : MA I ((T, L), H, B)) (hw : wx n ((T, L), H, B)) (hn : n ≤ 600) (hcat : (st.map fun v => v.category).sum ≤ 8) (K : pm_ok (pv_K z E d bc bs mi pc lv st) I J (po_spoils ((T, L), H, B) k0 a0)) : pv_X z E d bc bs mi pc lv (.int (a0) :: .int (k0) :: .ref (365) :: st) pv_K0 pv_P0 I J := by
  obtain ⟨d, rfl⟩ : ∃ d0, d = d0 + 1 := ⟨d - 1, by omega⟩
  have key := px_callV (bc := bc) (bs := bs) (bc1 := 0) (bs1 := 0) (as := [.int (k0), .int (a0)]) (E := E) (z := z) (lv := lv) hd mvX10_spoils hlk pv_s_model (by decide) rfl pv_k_model rfl rfl hcat (by exact Nat.le_of_ble_eq_true rfl) (s_X10_spoils (by omega) hMA hw hn K)
  rw [Nat.zero_add, Nat.zero_add] at key
  exact key
