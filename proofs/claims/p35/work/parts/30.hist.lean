/-! The class: the saved states. -/
/-- the saved states, the oldest first -/
def hg (H : List pv_S) (j : Nat) : pv_S := H.getD j (fun _ => 0, [])
def HRo (I : pv_IT) (o : Nat) (H : List pv_S) : Prop := I 89 0 = nI H.length ∧ I 89 1 = nI o ∧ o < 6 ∧ H.length ≤ 6 ∧ ∀ j, j < H.length → CR I (91 + 44 * ((o + j) % 6)) (hg H j).1 (hg H j).2
def HR (I : pv_IT) (H : List pv_S) : Prop := ∃ o, HRo I o H
def h_push (H : List pv_S) (s : pv_S) : List pv_S := (if 6 ≤ H.length then H.drop 1 else H) ++ [s]
theorem hg_push {H : List pv_S} {s : pv_S} {j : Nat} : hg (H ++ [s]) j = if j < H.length then hg H j else if j = H.length then s else (fun _ => 0, []) := by
  unfold hg
  rw [List.getD_eq_getElem?_getD, List.getD_eq_getElem?_getD]
  by_cases h : j < H.length
  · rw [if_pos h, List.getElem?_append_left h]
  · rw [if_neg h, List.getElem?_append_right (by omega)]
    by_cases e : j = H.length
    · subst e; simp
    · rw [if_neg e, List.getElem?_eq_none (by simp; omega)]; rfl
theorem hg_drop {H : List pv_S} {j : Nat} : hg (H.drop 1) j = hg H (j + 1) := by
  unfold hg
  rw [List.getD_eq_getElem?_getD, List.getD_eq_getElem?_getD, List.getElem?_drop, Nat.add_comm]
theorem hg_last {H : List pv_S} {j : Nat} (h : j < H.length - 1) : hg H.dropLast j = hg H j := by
  unfold hg
  rw [List.getD_eq_getElem?_getD, List.getD_eq_getElem?_getD, List.getElem?_dropLast, if_pos h]
theorem h_push_len {H : List pv_S} {s : pv_S} (h : H.length ≤ 6) : (h_push H s).length = if 6 ≤ H.length then 6 else H.length + 1 := by
  unfold h_push
  rw [List.length_append]
  split
  · rw [List.length_drop]; simp; omega
  · simp
theorem HR_of {I I' : pv_IT} {H : List pv_S} (h : HR I H) (hF : ∀ k, 89 ≤ k → k < 355 → I' k = I k) : HR I' H := by
  obtain ⟨o, h1, h2, h3, h4, h5⟩ := h
  exact ⟨o, (congrFun (hF 89 (by omega) (by omega)) 0).trans h1, (congrFun (hF 89 (by omega) (by omega)) 1).trans h2, h3, h4, fun j hj => CR_of (h5 j hj) fun k h6 h7 => hF k (by omega) (by omega)⟩
set_option maxRecDepth 100000 in
set_option maxHeartbeats 4000000 in
theorem s_X0_stateAt {Q : pv_Q} {E : pv_E} {d bc bs : Nat} {J : pv_JT} {I : pv_IT} {o j : Nat} (hD : 0 ≤ d) (ho : I 89 1 = nI o) (ho6 : o < 6) (hj : j < 6) (h : Q (.inl (some (.ref (91 + 44 * ((o + j) % 6))))) pv_K0 pv_P0 (I) (J)) : pv_X (pv_ZQ E Q) E d bc bs mX0_stateAt 0 [(0, .ref (89)), (1, .int (nI (j)))] [] pv_K0 pv_P0 I J := by
  have hps := pv_ship_i (i := (o + j) % 6) (Nat.mod_lt _ (by decide))
  refine px_aload_n dX0_stateAt_0 rfl ?_
  refine px_getI dX0_stateAt_1 flX0_22 pv_s_hist (by decide) (by decide) rfl pv_k_hist ?_
  refine px_iv (y := nI (o)) (ho) ?_
  refine px_iload_n dX0_stateAt_4 rfl ?_
  refine px_iaddN dX0_stateAt_5 ?_
  refine px_bipush (v := nI 6) dX0_stateAt_6 (by decide) ?_
  refine px_iremN (by omega) (by omega) (by omega) dX0_stateAt_8 ?_
  refine px_istore_n dX0_stateAt_9 (by decide) ?_
  refine px_iload_n dX0_stateAt_10 rfl ?_
  refine px_if_ltN (tgt := 23) dX0_stateAt_11 (by decide) (by omega) ?_
  refine px_iload_n dX0_stateAt_14 rfl ?_
  refine px_aload_n dX0_stateAt_15 rfl ?_
  refine px_getR dX0_stateAt_16 flX0_11 pv_s_hist (by decide) (by decide) rfl pv_k_hist pv_p_89_2 ?_
  refine px_alenR dX0_stateAt_19 pv_s_states pv_k_states ?_
  refine px_icmp_ltN (tgt := 27) dX0_stateAt_20 (by decide) (by omega) (by omega) (fun _ => ?_) (fun h0 => absurd h0 (by omega))
  refine px_aload_n dX0_stateAt_27 rfl ?_
  refine px_getR dX0_stateAt_28 flX0_11 pv_s_hist (by decide) (by decide) rfl pv_k_hist pv_p_89_2 ?_
  refine px_iload_n dX0_stateAt_31 rfl ?_
  refine px_aald (j := (o + j) % 6) dX0_stateAt_32 pv_s_states rfl (by omega) (by decide) pv_k_states (pv_p_states (by omega)) ?_
  exact px_aret dX0_stateAt_33 rfl (Or.inl rfl) (h)
theorem c_X0_stateAt {z : pv_Z} {E : pv_E} {d bc bs : Nat} {J : pv_JT} {I : pv_IT} {mi : pv_MI} {pc idx : Nat} {lv : pv_LV} {st : List Value} {o j : Nat} (hd : decode mi.2.1 pc = .ok (.invokevirtual idx, 3)) (hlk : Cond.methodLink mi.1.cls idx mX0_stateAt.1 ∈ pv_W) (hD : 0+1 ≤ d) (ho : I 89 1 = nI o) (ho6 : o < 6) (hj : j < 6) (hcat : (st.map fun v => v.category).sum ≤ 8) (K : pv_X z E d bc bs mi (pc + 3) lv ((.ref (91 + 44 * ((o + j) % 6))) :: st) pv_K0 pv_P0 (I) (J)) : pv_X z E d bc bs mi pc lv (.int (nI (j)) :: .ref (89) :: st) pv_K0 pv_P0 I J := by
  obtain ⟨d, rfl⟩ : ∃ d0, d = d0 + 1 := ⟨d - 1, by omega⟩
  have key := px_callV (bc := bc) (bs := bs) (bc1 := 0) (bs1 := 0) (as := [.int (nI (j))]) (E := E) (z := z) (lv := lv) hd mvX0_stateAt hlk pv_s_hist (by decide) rfl pv_k_hist rfl rfl hcat (by exact Nat.le_of_ble_eq_true rfl) (s_X0_stateAt (by omega) ho ho6 hj K)
  rw [Nat.zero_add, Nat.zero_add] at key
  exact key
set_option maxRecDepth 100000 in
set_option maxHeartbeats 4000000 in
theorem s_X0_save {Q : pv_Q} {E : pv_E} {d bc bs : Nat} {J : pv_JT} {I : pv_IT} {T : pv_T} {L : List pv_Lot} {H : List pv_S} (hD : 4 ≤ d) (hH : HR I H) (hC : CR I 1 T L) (h : ∀ I' : pv_IT, HR I' (h_push H (T, L)) → (∀ k, k < 89 ∨ 355 ≤ k → I' k = I k) → Q (.inl none) pv_K0 pv_P0 (I') (J)) : pv_X (pv_ZQ E Q) E d bc bs mX0_save 0 [(0, .ref (89)), (1, .ref (1))] [] pv_K0 pv_P0 I J := by
  obtain ⟨o, h1, h2, h3, h4, h5⟩ := hH
  refine px_aload_n dX0_save_0 rfl ?_
  refine px_getI dX0_save_1 flX0_18 pv_s_hist (by decide) (by decide) rfl pv_k_hist ?_
  refine px_iv (y := nI (H.length)) (h1) ?_
  refine px_bipush (v := nI 6) dX0_save_4 (by decide) ?_
  refine px_icmp_ltN (tgt := 32) dX0_save_6 (by decide) (by omega) (by omega) (fun h6 => ?_) (fun h6 => ?_)
  · have hps := pv_ship_i (i := (o + H.length) % 6) (Nat.mod_lt _ (by decide))
    refine px_aload_n dX0_save_32 rfl ?_
    refine px_aload_n dX0_save_33 rfl ?_
    refine px_getI dX0_save_34 flX0_18 pv_s_hist (by decide) (by decide) rfl pv_k_hist ?_
    refine px_iv (y := nI (H.length)) (h1) ?_
    refine c_X0_stateAt dX0_save_37 mlX0_25 (by omega) h2 (by omega) (by omega) (Nat.le_of_ble_eq_true rfl) ?_
    refine px_astore_n dX0_save_40 (by decide) ?_
    refine px_aload_n dX0_save_41 rfl ?_
    refine px_ifnull dX0_save_42 ?_
    refine px_aload_n dX0_save_45 rfl ?_
    refine px_aload_n dX0_save_46 rfl ?_
    refine c_X7_become dX0_save_47 mlX0_29 (by omega) hps pv_ship_1 hC (by omega) (Nat.le_of_ble_eq_true rfl) (fun I3 hC3 hF3 => ?_)
    refine px_aload_n dX0_save_50 rfl ?_
    refine px_dup dX0_save_51 rfl ?_
    refine px_getI dX0_save_52 flX0_18 pv_s_hist (by decide) (by decide) rfl pv_k_hist ?_
    refine px_iv (y := nI (H.length)) ((congrFun (hF3 89 (by omega)) 0).trans (h1)) ?_
    refine px_iconst (v := nI 1) dX0_save_55 (by decide) ?_
    refine px_iaddN dX0_save_56 ?_
    refine px_putI dX0_save_57 fwX0_18 pv_s_hist (by decide) (by decide) rfl pv_k_hist ?_
    refine px_vret dX0_save_60 rfl (Or.inl rfl) (h _ ⟨o, ?_, ?_, h3, ?_, fun j hj => ?_⟩ (fun k hk => ?_))
    · rw [pv_uI_self, pk_us, h_push_len h4, if_neg (by omega)]
    · simp only [pv_uI_at]; rw [if_neg (by omega), hF3 89 (by omega)]; exact h2
    · rw [h_push_len h4, if_neg (by omega)]; omega
    · rw [h_push_len h4, if_neg (by omega)] at hj
      have e : hg (h_push H (T, L)) j = if j < H.length then hg H j else if j = H.length then (T, L) else (fun _ => 0, []) := by
        unfold h_push
        rw [if_neg (by omega), hg_push]
      refine CR_of (I := I3) ?_ fun k h1 h2 => pv_uI_ne (by omega)
      by_cases e2 : j < H.length
      · rw [e, if_pos e2]
        exact CR_of (h5 j e2) fun k h1 h2 => hF3 k (by omega)
      · have e3 : j = H.length := by omega
        rw [e, if_neg e2, if_pos e3, e3]
        exact hC3
    · rw [pv_uI_ne (by omega)]
      exact hF3 k (by omega)
  · have h6 : H.length = 6 := by omega
    refine px_aload_n dX0_save_9 rfl ?_
    refine px_aload_n dX0_save_10 rfl ?_
    refine px_getI dX0_save_11 flX0_22 pv_s_hist (by decide) (by decide) rfl pv_k_hist ?_
    refine px_iv (y := nI (o)) (h2) ?_
    refine px_iconst (v := nI 1) dX0_save_14 (by decide) ?_
    refine px_iaddN dX0_save_15 ?_
    refine px_bipush (v := nI 6) dX0_save_16 (by decide) ?_
    refine px_iremN (by omega) (by omega) (by omega) dX0_save_18 ?_
    refine px_putI dX0_save_19 fwX0_22 pv_s_hist (by decide) (by decide) rfl pv_k_hist ?_
    generalize hI1 : pv_uI I 89 1 (nI ((o + 1) % 6)) = I1
    have g1 : I1 89 0 = nI 6 := by rw [← hI1, ← h6]; simp only [pv_uI_at]; rw [if_neg (by omega)]; exact h1
    have g2 : I1 89 1 = nI ((o + 1) % 6) := by rw [← hI1, pv_uI_self, pk_us]
    have gF : ∀ k, k ≠ 89 → I1 k = I k := fun k hk => by rw [← hI1]; exact pv_uI_ne hk
    refine px_aload_n dX0_save_22 rfl ?_
    refine px_dup dX0_save_23 rfl ?_
    refine px_getI dX0_save_24 flX0_18 pv_s_hist (by decide) (by decide) rfl pv_k_hist ?_
    refine px_iv (y := nI (6)) (Eq.trans (by simp only [pv_uI_at]; repeat' (first | rfl | omega | split)) (g1)) ?_
    refine px_iconst (v := nI 1) dX0_save_27 (by decide) ?_
    refine px_isubN (by omega) dX0_save_28 ?_
    refine px_putI dX0_save_29 fwX0_18 pv_s_hist (by decide) (by decide) rfl pv_k_hist ?_
    generalize hI2 : pv_uI I1 89 0 (nI (6 - 1)) = I2
    have k1 : I2 89 0 = nI 5 := by rw [← hI2, pv_uI_self, pk_us]
    have k2 : I2 89 1 = nI ((o + 1) % 6) := by rw [← hI2]; simp only [pv_uI_at]; rw [if_neg (by omega)]; exact g2
    have kF : ∀ k, k ≠ 89 → I2 k = I k := fun k hk => by rw [← hI2, pv_uI_ne hk]; exact gF k hk
    have hC2 : CR I2 1 T L := CR_of hC fun k h1 h2 => kF k (by omega)
    have hps := pv_ship_i (i := ((o + 1) % 6 + 5) % 6) (Nat.mod_lt _ (by decide))
    refine px_aload_n dX0_save_32 rfl ?_
    refine px_aload_n dX0_save_33 rfl ?_
    refine px_getI dX0_save_34 flX0_18 pv_s_hist (by decide) (by decide) rfl pv_k_hist ?_
    refine px_iv (y := nI (5)) (k1) ?_
    refine c_X0_stateAt dX0_save_37 mlX0_25 (by omega) k2 (by omega) (by omega) (Nat.le_of_ble_eq_true rfl) ?_
    refine px_astore_n dX0_save_40 (by decide) ?_
    refine px_aload_n dX0_save_41 rfl ?_
    refine px_ifnull dX0_save_42 ?_
    refine px_aload_n dX0_save_45 rfl ?_
    refine px_aload_n dX0_save_46 rfl ?_
    refine c_X7_become dX0_save_47 mlX0_29 (by omega) hps pv_ship_1 hC2 (by omega) (Nat.le_of_ble_eq_true rfl) (fun I3 hC3 hF3 => ?_)
    refine px_aload_n dX0_save_50 rfl ?_
    refine px_dup dX0_save_51 rfl ?_
    refine px_getI dX0_save_52 flX0_18 pv_s_hist (by decide) (by decide) rfl pv_k_hist ?_
    refine px_iv (y := nI (5)) ((congrFun (hF3 89 (by omega)) 0).trans (k1)) ?_
    refine px_iconst (v := nI 1) dX0_save_55 (by decide) ?_
    refine px_iaddN dX0_save_56 ?_
    refine px_putI dX0_save_57 fwX0_18 pv_s_hist (by decide) (by decide) rfl pv_k_hist ?_
    refine px_vret dX0_save_60 rfl (Or.inl rfl) (h _ ⟨(o + 1) % 6, ?_, ?_, by omega, ?_, fun j hj => ?_⟩ (fun k hk => ?_))
    · rw [pv_uI_self, pk_us, h_push_len h4, if_pos (by omega)]
    · simp only [pv_uI_at]; rw [if_neg (by omega), hF3 89 (by omega)]; exact k2
    · rw [h_push_len h4, if_pos (by omega)]; omega
    · rw [h_push_len h4, if_pos (by omega)] at hj
      have e : hg (h_push H (T, L)) j = if j < 5 then hg H (j + 1) else if j = 5 then (T, L) else (fun _ => 0, []) := by
        unfold h_push
        rw [if_pos (by omega), hg_push, hg_drop, List.length_drop, h6]
      refine CR_of (I := I3) ?_ fun k h1 h2 => pv_uI_ne (by omega)
      by_cases e2 : j < 5
      · rw [e, if_pos e2, show ((o + 1) % 6 + j) % 6 = (o + (j + 1)) % 6 by omega]
        exact CR_of (h5 (j + 1) (by omega)) fun k h1 h2 => (hF3 k (by omega)).trans (kF k (by omega))
      · have e3 : j = 5 := by omega
        rw [e, if_neg e2, if_pos e3, e3]
        exact hC3
    · rw [pv_uI_ne (by omega), hF3 k (by omega)]
      exact kF k (by omega)
theorem c_X0_save {z : pv_Z} {E : pv_E} {d bc bs : Nat} {J : pv_JT} {I : pv_IT} {mi : pv_MI} {pc idx : Nat} {lv : pv_LV} {st : List Value} {T : pv_T} {L : List pv_Lot} {H : List pv_S} (hd : decode mi.2.1 pc = .ok (.invokevirtual idx, 3)) (hlk : Cond.methodLink mi.1.cls idx mX0_save.1 ∈ pv_W) (hD : 4+1 ≤ d) (hH : HR I H) (hC : CR I 1 T L) (hcat : (st.map fun v => v.category).sum ≤ 8) (K : ∀ I' : pv_IT, HR I' (h_push H (T, L)) → (∀ k, k < 89 ∨ 355 ≤ k → I' k = I k) → pv_X z E d bc bs mi (pc + 3) lv (st) pv_K0 pv_P0 (I') (J)) : pv_X z E d bc bs mi pc lv (.ref (1) :: .ref (89) :: st) pv_K0 pv_P0 I J := by
  obtain ⟨d, rfl⟩ : ∃ d0, d = d0 + 1 := ⟨d - 1, by omega⟩
  have key := px_callV (bc := bc) (bs := bs) (bc1 := 0) (bs1 := 0) (as := [.ref (1)]) (E := E) (z := z) (lv := lv) hd mvX0_save hlk pv_s_hist (by decide) rfl pv_k_hist rfl rfl hcat (by exact Nat.le_of_ble_eq_true rfl) (s_X0_save (by omega) hH hC K)
  rw [Nat.zero_add, Nat.zero_add] at key
  exact key
