/-! The class: the ship, meals and ageing. -/
set_option maxRecDepth 100000 in
set_option maxHeartbeats 4000000 in
theorem s_X7_serveItem {Q : pv_Q} {E : pv_E} {d bc bs : Nat} {J : pv_JT} {I : pv_IT} {q : Nat} {T : pv_T} {L : List pv_Lot} {Dm : Nat → Nat} {m i : Nat} (hD : 3 ≤ d) (hq : pv_ship q) (hC : CR I q T L) (hb : tb T) (hM : ∀ l, l < L.length → I (q + 43) l = nI (Dm l) ∧ Dm l ≤ 2100) (hm : m < T 408) (hi : i < 4) (h : ∀ I' : pv_IT, CR I' q (pd_item Dm m i (T, L)).2.1 (pd_item Dm m i (T, L)).2.2 → (∀ k0 : Nat, k0 < q ∨ q + 42 ≤ k0 → I' k0 = I k0) → Q (.inl (some (.int (nI (pd_item Dm m i (T, L)).1)))) pv_K0 pv_P0 (I') (J)) : pv_X (pv_ZQ E Q) E d bc bs mX7_serveItem 0 [(0, .ref (q)), (1, .int (nI ((m * 4 + i))))] [] pv_K0 pv_P0 I J := by
  have h31 := hC.2.2.2.1.2.1.1
  have hmx := hC.2.2.2.2.2.2.2 m hm i hi
  have hmb := hb.2.2.2.2.2.2
  have hhd := hb.2.2.2.1
  have h10 := hmb.2.1
  unfold pd_item at h
  by_cases e : i < T (314 + m)
  · rw [if_pos e] at h
    have hx := (hmb.2.2 m hm).2 i e
    have hcell := hmx.1 e
    refine px_aload_n dX7_serveItem_0 rfl ?_
    refine px_getR dX7_serveItem_1 flX7_49 hq.1 (by decide) (by decide) rfl hq.2.1 hq.2.2.2.2.2.2.1.1 ?_
    refine px_iload_n dX7_serveItem_4 rfl ?_
    refine c_X4_has dX7_serveItem_5 mlX7_169 (by omega) (x := T (195 + 12 * m + 3 * i)) hq.2.2.2.2.2.2.1.2 (by omega) hcell.2.1 (by omega) (Nat.le_of_ble_eq_true rfl) ?_
    refine px_if_neB (tgt := 13) dX7_serveItem_8 (by decide) (fun _ => ?_) (fun h0 => absurd (show 0 < T (195 + 12 * m + 3 * i) by omega) h0)
    refine px_aload_n dX7_serveItem_13 rfl ?_
    refine px_getR dX7_serveItem_14 flX7_49 hq.1 (by decide) (by decide) rfl hq.2.1 hq.2.2.2.2.2.2.1.1 ?_
    refine px_getR dX7_serveItem_17 flX7_173 hq.2.2.2.2.2.2.1.2.1 (by decide) (by decide) rfl hq.2.2.2.2.2.2.1.2.2.1 hq.2.2.2.2.2.2.1.2.2.2.1.1 ?_
    refine px_iload_n dX7_serveItem_20 rfl ?_
    refine c_X6_at dX7_serveItem_21 mlX7_65 (by omega) (j := (m * 4 + i)) hq.2.2.2.2.2.2.1.2.2.2.1.2 (by omega) (Nat.le_of_ble_eq_true rfl) ?_
    refine px_iv (y := nI (T (194 + 12 * m + 3 * i))) (hcell.1) ?_
    refine px_istore_n dX7_serveItem_24 (by decide) ?_
    refine px_aload_n dX7_serveItem_25 rfl ?_
    refine px_getR dX7_serveItem_26 flX7_49 hq.1 (by decide) (by decide) rfl hq.2.1 hq.2.2.2.2.2.2.1.1 ?_
    refine px_getR dX7_serveItem_29 flX7_174 hq.2.2.2.2.2.2.1.2.1 (by decide) (by decide) rfl hq.2.2.2.2.2.2.1.2.2.1 hq.2.2.2.2.2.2.1.2.2.2.2.2.1 ?_
    refine px_iload_n dX7_serveItem_32 rfl ?_
    refine c_X6_at dX7_serveItem_33 mlX7_65 (by omega) (j := (m * 4 + i)) hq.2.2.2.2.2.2.1.2.2.2.2.2.2 (by omega) (Nat.le_of_ble_eq_true rfl) ?_
    refine px_iv (y := nI (T (196 + 12 * m + 3 * i))) (hcell.2.2) ?_
    refine px_istore_n dX7_serveItem_36 (by decide) ?_
    refine px_aload_n dX7_serveItem_37 rfl ?_
    refine px_iload_n dX7_serveItem_38 rfl ?_
    refine px_aload_n dX7_serveItem_39 rfl ?_
    refine px_getR dX7_serveItem_40 flX7_49 hq.1 (by decide) (by decide) rfl hq.2.1 hq.2.2.2.2.2.2.1.1 ?_
    refine px_getR dX7_serveItem_43 flX7_177 hq.2.2.2.2.2.2.1.2.1 (by decide) (by decide) rfl hq.2.2.2.2.2.2.1.2.2.1 hq.2.2.2.2.2.2.1.2.2.2.2.1.1 ?_
    refine px_iload_n dX7_serveItem_46 rfl ?_
    refine c_X6_at dX7_serveItem_47 mlX7_65 (by omega) (j := (m * 4 + i)) hq.2.2.2.2.2.2.1.2.2.2.2.1.2 (by omega) (Nat.le_of_ble_eq_true rfl) ?_
    refine px_iv (y := nI (T (195 + 12 * m + 3 * i))) (hcell.2.1) ?_
    refine px_aload_n dX7_serveItem_50 rfl ?_
    refine px_getI dX7_serveItem_51 flX7_9 hq.1 (by decide) (by decide) rfl hq.2.1 ?_
    refine px_iv (y := nI (T 409)) (hC.1.2.1) ?_
    refine px_imulN dX7_serveItem_54 ?_
    have hnd := Nat.mul_le_mul hx.2.2.1 hhd.2
    refine c_X7_eatOf dX7_serveItem_55 mlX7_180 (by omega) (Dm := Dm) hq hC hM hx.1 (by omega) (Nat.le_of_ble_eq_true rfl) (fun I1 hC1 hF1 => ?_)
    have hl1 := pd_eat_like (D := Dm) (k := T (194 + 12 * m + 3 * i)) (a := T (195 + 12 * m + 3 * i) * T 409) (s := (T, L)) hx.1 hC.2.2.2.1.2.1
    have hM1 : ∀ l, l < (pd_eat Dm (T (194 + 12 * m + 3 * i)) (T (195 + 12 * m + 3 * i) * T 409) (T, L)).2.2.length → I1 (q + 43) l = nI (Dm l) ∧ Dm l ≤ 2100 := fun l hl => by
      rw [hF1 _ (by omega)]
      exact hM l (by rw [← hl1.1.2.1]; exact hl)
    have hnl := hl1.2.2
    refine px_istore dX7_serveItem_58 (by decide) ?_
    refine px_iload_n dX7_serveItem_60 rfl ?_
    refine px_iconst (v := -1) dX7_serveItem_61 (by decide) ?_
    rcases hx.2.2.2 with hs | hs
    · have em : pd_meal Dm (T (194 + 12 * m + 3 * i)) (T (195 + 12 * m + 3 * i) * T 409) (T (196 + 12 * m + 3 * i)) (T, L) = pd_eat Dm (T (194 + 12 * m + 3 * i)) (T (195 + 12 * m + 3 * i) * T 409) (T, L) := if_pos hs
      refine px_icmp_eq (tgt := 74) dX7_serveItem_62 (by decide) (fun _ => ?_) (fun h9 => absurd (by rw [hs]; decide) h9)
      refine px_aload_n dX7_serveItem_74 rfl ?_
      refine px_getR dX7_serveItem_75 flX7_21 hq.1 (by decide) (by decide) rfl hq.2.1 hq.2.2.1.1 ?_
      refine px_getR dX7_serveItem_78 flX7_142 hq.2.2.1.2.1 (by decide) (by decide) rfl hq.2.2.1.2.2.1 hq.2.2.1.2.2.2.2.2.2.2.2.1 ?_
      refine px_iload_n dX7_serveItem_81 rfl ?_
      refine px_iload dX7_serveItem_82 rfl ?_
      refine c_X6_add dX7_serveItem_84 mlX7_103 (by omega) (j := T (194 + 12 * m + 3 * i)) hq.2.2.1.2.2.2.2.2.2.2.2.2 hx.1 (Nat.le_of_ble_eq_true rfl) ?_
      refine px_iload dX7_serveItem_87 rfl ?_
      have hC9 := CR_lacking hC1 hx.1 (x := (pd_eat Dm (T (194 + 12 * m + 3 * i)) (T (195 + 12 * m + 3 * i) * T 409) (T, L)).1)
      rw [em] at h
      exact px_iret dX7_serveItem_89 rfl (Or.inl rfl) (h _ hC9 (fun k0 hk => (pv_uI_ne (by omega)).trans (hF1 k0 hk)))
    · have em : pd_meal Dm (T (194 + 12 * m + 3 * i)) (T (195 + 12 * m + 3 * i) * T 409) (T (196 + 12 * m + 3 * i)) (T, L) = pd_eat Dm (T (196 + 12 * m + 3 * i)) (pd_eat Dm (T (194 + 12 * m + 3 * i)) (T (195 + 12 * m + 3 * i) * T 409) (T, L)).1 (pd_eat Dm (T (194 + 12 * m + 3 * i)) (T (195 + 12 * m + 3 * i) * T 409) (T, L)).2 := if_neg (by omega)
      refine px_icmp_eq (tgt := 74) dX7_serveItem_62 (by decide) (fun h9 => absurd h9 (pn_m1 (by omega))) (fun _ => ?_)
      refine px_aload_n dX7_serveItem_65 rfl ?_
      refine px_iload_n dX7_serveItem_66 rfl ?_
      refine px_iload dX7_serveItem_67 rfl ?_
      refine c_X7_eatOf dX7_serveItem_69 mlX7_180 (by omega) (Dm := Dm) hq hC1 hM1 hs (by omega) (Nat.le_of_ble_eq_true rfl) (fun I2 hC2 hF2 => ?_)
      refine px_istore dX7_serveItem_72 (by decide) ?_
      refine px_aload_n dX7_serveItem_74 rfl ?_
      refine px_getR dX7_serveItem_75 flX7_21 hq.1 (by decide) (by decide) rfl hq.2.1 hq.2.2.1.1 ?_
      refine px_getR dX7_serveItem_78 flX7_142 hq.2.2.1.2.1 (by decide) (by decide) rfl hq.2.2.1.2.2.1 hq.2.2.1.2.2.2.2.2.2.2.2.1 ?_
      refine px_iload_n dX7_serveItem_81 rfl ?_
      refine px_iload dX7_serveItem_82 rfl ?_
      refine c_X6_add dX7_serveItem_84 mlX7_103 (by omega) (j := T (194 + 12 * m + 3 * i)) hq.2.2.1.2.2.2.2.2.2.2.2.2 hx.1 (Nat.le_of_ble_eq_true rfl) ?_
      refine px_iload dX7_serveItem_87 rfl ?_
      have hC9 := CR_lacking hC2 hx.1 (x := (pd_eat Dm (T (196 + 12 * m + 3 * i)) (pd_eat Dm (T (194 + 12 * m + 3 * i)) (T (195 + 12 * m + 3 * i) * T 409) (T, L)).1 (pd_eat Dm (T (194 + 12 * m + 3 * i)) (T (195 + 12 * m + 3 * i) * T 409) (T, L)).2).1)
      rw [em] at h
      exact px_iret dX7_serveItem_89 rfl (Or.inl rfl) (h _ hC9 (fun k0 hk => (pv_uI_ne (by omega)).trans ((hF2 k0 hk).trans (hF1 k0 hk))))
  · rw [if_neg e] at h
    refine px_aload_n dX7_serveItem_0 rfl ?_
    refine px_getR dX7_serveItem_1 flX7_49 hq.1 (by decide) (by decide) rfl hq.2.1 hq.2.2.2.2.2.2.1.1 ?_
    refine px_iload_n dX7_serveItem_4 rfl ?_
    refine c_X4_has dX7_serveItem_5 mlX7_169 (by omega) (x := 0) hq.2.2.2.2.2.2.1.2 (by omega) (hmx.2 (by omega)) (by omega) (Nat.le_of_ble_eq_true rfl) ?_
    refine px_if_neB (tgt := 13) dX7_serveItem_8 (by decide) (fun h0 => absurd h0 (Nat.lt_irrefl 0)) (fun _ => ?_)
    refine px_iconst (v := nI 0) dX7_serveItem_11 (by decide) ?_
    exact px_iret dX7_serveItem_12 rfl (Or.inl rfl) (h I hC (fun _ _ => rfl))
theorem c_X7_serveItem {z : pv_Z} {E : pv_E} {d bc bs : Nat} {J : pv_JT} {I : pv_IT} {mi : pv_MI} {pc idx : Nat} {lv : pv_LV} {st : List Value} {q : Nat} {T : pv_T} {L : List pv_Lot} {Dm : Nat → Nat} {m i : Nat} (hd : decode mi.2.1 pc = .ok (.invokevirtual idx, 3)) (hlk : Cond.methodLink mi.1.cls idx mX7_serveItem.1 ∈ pv_W) (hD : 3+1 ≤ d) (hq : pv_ship q) (hC : CR I q T L) (hb : tb T) (hM : ∀ l, l < L.length → I (q + 43) l = nI (Dm l) ∧ Dm l ≤ 2100) (hm : m < T 408) (hi : i < 4) (hcat : (st.map fun v => v.category).sum ≤ 8) (K : ∀ I' : pv_IT, CR I' q (pd_item Dm m i (T, L)).2.1 (pd_item Dm m i (T, L)).2.2 → (∀ k0 : Nat, k0 < q ∨ q + 42 ≤ k0 → I' k0 = I k0) → pv_X z E d bc bs mi (pc + 3) lv ((.int (nI (pd_item Dm m i (T, L)).1)) :: st) pv_K0 pv_P0 (I') (J)) : pv_X z E d bc bs mi pc lv (.int (nI ((m * 4 + i))) :: .ref (q) :: st) pv_K0 pv_P0 I J := by
  obtain ⟨d, rfl⟩ : ∃ d0, d = d0 + 1 := ⟨d - 1, by omega⟩
  have key := px_callV (bc := bc) (bs := bs) (bc1 := 0) (bs1 := 0) (as := [.int (nI ((m * 4 + i)))]) (E := E) (z := z) (lv := lv) hd mvX7_serveItem hlk hq.1 (by decide) rfl hq.2.1 rfl rfl hcat (by exact Nat.le_of_ble_eq_true rfl) (s_X7_serveItem (by omega) hq hC hb hM hm hi K)
  rw [Nat.zero_add, Nat.zero_add] at key
  exact key
set_option maxRecDepth 100000 in
set_option maxHeartbeats 4000000 in
theorem s_X7_ageLots {Q : pv_Q} {E : pv_E} {d bc bs : Nat} {J : pv_JT} {I : pv_IT} {q : Nat} {T : pv_T} {L : List pv_Lot} (hD : 4 ≤ d) (hq : pv_ship q) (hC : CR I q T L) (hb : tb T) (hag : ∀ l, l < L.length → (pl_g L l).2.2.2 < 1000) (h : ∀ I' : pv_IT, CR I' q (pd_age (T, L)).1 (pd_age (T, L)).2 → (∀ k0 : Nat, k0 < q ∨ q + 42 ≤ k0 → I' k0 = I k0) → Q (.inl none) pv_K0 pv_P0 (I') (J)) : pv_X (pv_ZQ E Q) E d bc bs mX7_ageLots 0 [(0, .ref (q))] [] pv_K0 pv_P0 I J := by
  have hL := hC.2.2.2.1.2.1
  have h31 := hL.1
  have key : ∀ i : Nat, i ≤ L.length → ∀ (I1 : pv_IT) (A : pv_T) (M : List pv_Lot), A = pd_foldT T L (i) → M = pd_mix T L (i) → CR I1 q A M → (∀ k0 : Nat, k0 < q ∨ q + 42 ≤ k0 → I1 k0 = I k0) → pv_X (pv_ZQ E Q) E d bc bs mX7_ageLots 2 [(0, .ref q), (1, .int (nI (i)))] [] pv_K0 pv_P0 (I1) (J) := by
    refine pv_up (L.length) ?_ ?_
    · intro I1 A M hA hM0 hC1 hF
      have hlen : M.length = L.length := by rw [hM0]; exact pd_mix_len (Nat.le_refl _)
      refine px_iload_n dX7_ageLots_2 rfl ?_
      refine px_aload_n dX7_ageLots_3 rfl ?_
      refine px_getR dX7_ageLots_4 flX7_35 hq.1 (by decide) (by decide) rfl hq.2.1 hq.2.2.2.2.1.1 ?_
      refine px_getI dX7_ageLots_7 flX7_94 hq.2.2.2.2.1.2.1 (by decide) (by decide) rfl hq.2.2.2.2.1.2.2.1 ?_
      refine px_iv (y := nI (M.length)) (hC1.2.2.2.1.1) ?_
      refine px_icmp_geN (tgt := 112) dX7_ageLots_10 (by decide) (by omega) (by omega) (fun _ => ?_) (fun h0 => absurd h0 (by omega))
      refine px_aload_n dX7_ageLots_112 rfl ?_
      refine px_getR dX7_ageLots_113 flX7_35 hq.1 (by decide) (by decide) rfl hq.2.1 hq.2.2.2.2.1.1 ?_
      refine c_X2_dropEmpty dX7_ageLots_116 mlX7_193 (by omega) hq.2.2.2.2.1.2 hC1.2.2.2.1 (Nat.le_of_ble_eq_true rfl) (fun I2 hl2 hF2 => ?_)
      have hC2 := CR_lt hC1 hl2 (fun k h1 h2 h3 => hF2 k (by omega))
      have ea : A = (pd_age (T, L)).1 := by
        rw [hA]
        show (L.take L.length).foldl (pd_spoil T) T = L.foldl (pd_spoil T) T
        rw [List.take_length]
      have eb : pl_drop M = (pd_age (T, L)).2 := by
        rw [hM0, pd_mixN]
        rfl
      rw [ea, eb] at hC2
      exact px_vret dX7_ageLots_119 rfl (Or.inl rfl) (h I2 hC2 (fun k0 hk => (hF2 k0 (by omega)).trans (hF k0 hk)))
    · intro i hi K I1 A M hA hM0 hC1 hF
      have hlen : M.length = L.length := by rw [hM0]; exact pd_mix_len (by omega)
      have hi1 : i < M.length := by omega
      have hout : ∀ j, ¬ (24 ≤ j ∧ j < 64) → A j = T j := fun j hj => by rw [hA]; exact pd_foldT_out hL hj
      have hbA : tb A := tb_of hb fun j hj _ _ _ _ => hout j hj
      have hgi : pl_g M i = pl_g L i := by rw [hM0, pd_mix_g (by omega) hi, if_neg (Nat.lt_irrefl i)]
      have hx := hL.2 i hi
      unfold lb at hx
      have hxa := hag i hi
      have hnw : pt_now A (pl_g L i).1 (pl_g L i).2.1 = pt_now T (pl_g L i).1 (pl_g L i).2.1 := pt_now_of hout hx.1 hx.2.1
      have hnl := pt_now_le hb hx.1 hx.2.1
      have hst := @pt_step_le (pt_now T (pl_g L i).1 (pl_g L i).2.1)
      rw [← hgi] at hx hxa
      refine px_iload_n dX7_ageLots_2 rfl ?_
      refine px_aload_n dX7_ageLots_3 rfl ?_
      refine px_getR dX7_ageLots_4 flX7_35 hq.1 (by decide) (by decide) rfl hq.2.1 hq.2.2.2.2.1.1 ?_
      refine px_getI dX7_ageLots_7 flX7_94 hq.2.2.2.2.1.2.1 (by decide) (by decide) rfl hq.2.2.2.2.1.2.2.1 ?_
      refine px_iv (y := nI (M.length)) (hC1.2.2.2.1.1) ?_
      refine px_icmp_geN (tgt := 112) dX7_ageLots_10 (by decide) (by omega) (by omega) (fun h0 => absurd h0 (by omega)) (fun _ => ?_)
      refine px_aload_n dX7_ageLots_13 rfl ?_
      refine px_getR dX7_ageLots_14 flX7_35 hq.1 (by decide) (by decide) rfl hq.2.1 hq.2.2.2.2.1.1 ?_
      refine px_getR dX7_ageLots_17 flX7_124 hq.2.2.2.2.1.2.1 (by decide) (by decide) rfl hq.2.2.2.2.1.2.2.1 hq.2.2.2.2.1.2.2.2.1.1 ?_
      refine px_iload_n dX7_ageLots_20 rfl ?_
      refine c_X6_at dX7_ageLots_21 mlX7_65 (by omega) (j := i) hq.2.2.2.2.1.2.2.2.1.2 (by omega) (Nat.le_of_ble_eq_true rfl) ?_
      refine px_iv (y := nI ((pl_g M (i)).1)) ((hC1.2.2.2.1.2.2 (i) (by omega)).1) ?_
      refine px_istore_n dX7_ageLots_24 (by decide) ?_
      refine px_aload_n dX7_ageLots_25 rfl ?_
      refine px_getR dX7_ageLots_26 flX7_35 hq.1 (by decide) (by decide) rfl hq.2.1 hq.2.2.2.2.1.1 ?_
      refine px_getR dX7_ageLots_29 flX7_130 hq.2.2.2.2.1.2.1 (by decide) (by decide) rfl hq.2.2.2.2.1.2.2.1 hq.2.2.2.2.1.2.2.2.2.2.2.1 ?_
      refine px_iload_n dX7_ageLots_32 rfl ?_
      refine px_aload_n dX7_ageLots_33 rfl ?_
      refine px_iload_n dX7_ageLots_34 rfl ?_
      refine px_aload_n dX7_ageLots_35 rfl ?_
      refine px_getR dX7_ageLots_36 flX7_35 hq.1 (by decide) (by decide) rfl hq.2.1 hq.2.2.2.2.1.1 ?_
      refine px_getR dX7_ageLots_39 flX7_127 hq.2.2.2.2.1.2.1 (by decide) (by decide) rfl hq.2.2.2.2.1.2.2.1 hq.2.2.2.2.1.2.2.2.2.1.1 ?_
      refine px_iload_n dX7_ageLots_42 rfl ?_
      refine c_X6_at dX7_ageLots_43 mlX7_65 (by omega) (j := i) hq.2.2.2.2.1.2.2.2.2.1.2 (by omega) (Nat.le_of_ble_eq_true rfl) ?_
      refine px_iv (y := nI ((pl_g M (i)).2.1)) ((hC1.2.2.2.1.2.2 (i) (by omega)).2.1) ?_
      refine c_X7_lifeNow dX7_ageLots_46 mlX7_88 (by omega) hq hC1 hbA hx.1 hx.2.1 (Nat.le_of_ble_eq_true rfl) ?_
      refine px_iv (y := nI (pt_now T (pl_g L i).1 (pl_g L i).2.1)) (congrArg nI (by rw [hgi]; exact hnw)) ?_
      refine c_X7_stepFor dX7_ageLots_49 mlX7_133 (by omega) hnl (Nat.le_of_ble_eq_true rfl) ?_
      refine c_X6_add dX7_ageLots_52 mlX7_103 (by omega) (j := i) hq.2.2.2.2.1.2.2.2.2.2.2.2 (by omega) (Nat.le_of_ble_eq_true rfl) ?_
      have e1 : I1 (q + 27) i + nI (pt_step (pt_now T (pl_g L i).1 (pl_g L i).2.1)) = nI (pd_grown T (pl_g L i)) := by
        rw [show I1 (q + 27) i = nI (pl_g M i).2.2.2 from (hC1.2.2.2.1.2.2 i hi1).2.2.2, nI_add, hgi]
        rfl
      refine px_mem (I' := pv_uI I1 (q + 27) i (nI (pd_grown T (pl_g L i)))) (congrArg (pv_uI I1 (q + 27) i) e1) ?_
      have hgr : pd_grown T (pl_g L i) ≤ 2000 := by unfold pd_grown; rw [← hgi]; rw [hgi] at hxa ⊢; omega
      have hC2 := CR_age hC1 hi1 hgr
      generalize hM2 : M.set i ((pl_g M i).1, (pl_g M i).2.1, (pl_g M i).2.2.1, pd_grown T (pl_g L i)) = M2 at hC2
      have hg2 : pl_g M2 i = ((pl_g M i).1, (pl_g M i).2.1, (pl_g M i).2.2.1, pd_grown T (pl_g L i)) := by rw [← hM2, pl_g_set hi1, if_pos rfl]
      have hl2 : M2.length = M.length := by rw [← hM2]; exact List.length_set
      have hF2 : ∀ k0 : Nat, k0 < q ∨ q + 42 ≤ k0 → (pv_uI I1 (q + 27) i (nI (pd_grown T (pl_g L i)))) k0 = I k0 := fun k0 hk => (pv_uI_ne (by omega)).trans (hF k0 hk)
      generalize pv_uI I1 (q + 27) i (nI (pd_grown T (pl_g L i))) = I2 at hC2 hF2 ⊢
      refine px_aload_n dX7_ageLots_55 rfl ?_
      refine px_getR dX7_ageLots_56 flX7_35 hq.1 (by decide) (by decide) rfl hq.2.1 hq.2.2.2.2.1.1 ?_
      refine px_getR dX7_ageLots_59 flX7_130 hq.2.2.2.2.1.2.1 (by decide) (by decide) rfl hq.2.2.2.2.1.2.2.1 hq.2.2.2.2.1.2.2.2.2.2.2.1 ?_
      refine px_iload_n dX7_ageLots_62 rfl ?_
      refine c_X6_at dX7_ageLots_63 mlX7_65 (by omega) (j := i) hq.2.2.2.2.1.2.2.2.2.2.2.2 (by omega) (Nat.le_of_ble_eq_true rfl) ?_
      refine px_iv (y := nI (pd_grown T (pl_g L i))) (((hC2.2.2.2.1.2.2 i (by omega)).2.2.2).trans (congrArg nI (by rw [hg2]))) ?_
      refine px_sipush (v := nI 1000) dX7_ageLots_66 (by decide) ?_
      refine px_icmp_ltN (tgt := 106) dX7_ageLots_69 (by decide) (by omega) (by omega) (fun h0 => ?_) (fun h0 => ?_)
      · refine px_iincN (c := 1) (by decide) dX7_ageLots_106 rfl (by decide) ?_
        refine px_goto (tgt := 2) dX7_ageLots_109 (by decide) ?_
        refine px_keep [0, 1] ?_
        have eM : M2 = pd_mix T L (i + 1) := by
          refine pl_ext (by rw [pd_mix_len (by omega)]; rw [hl2]; exact hlen) fun l hl => ?_
          have hlL : l < L.length := by rw [hl2, hlen] at hl; omega
          rw [pd_mix_g (by omega) hlL]
          by_cases e3 : l = i
          · subst e3
            rw [if_pos (Nat.lt_succ_self l)]
            rw [hg2, hgi]
            unfold pd_old
            rw [if_neg (by omega)]
          · rw [← hM2, pl_g_set hi1]
            rw [if_neg e3, hM0, pd_mix_g (by omega) hlL]
            by_cases e4 : l < i
            · rw [if_pos e4, if_pos (by omega)]
            · rw [if_neg e4, if_neg (by omega)]
        have eA : A = pd_foldT T L (i + 1) := by
          rw [pd_foldT1 hi, ← hA]
          unfold pd_spoil
          rw [if_neg (by omega)]
        exact K I2 A M2 eA eM hC2 hF2
      · refine px_aload_n dX7_ageLots_72 rfl ?_
        refine px_getR dX7_ageLots_73 flX7_21 hq.1 (by decide) (by decide) rfl hq.2.1 hq.2.2.1.1 ?_
        refine px_getR dX7_ageLots_76 flX7_190 hq.2.2.1.2.1 (by decide) (by decide) rfl hq.2.2.1.2.2.1 hq.2.2.1.2.2.2.2.2.2.1.1 ?_
        refine px_iload_n dX7_ageLots_79 rfl ?_
        refine px_aload_n dX7_ageLots_80 rfl ?_
        refine px_getR dX7_ageLots_81 flX7_35 hq.1 (by decide) (by decide) rfl hq.2.1 hq.2.2.2.2.1.1 ?_
        refine px_getR dX7_ageLots_84 flX7_186 hq.2.2.2.2.1.2.1 (by decide) (by decide) rfl hq.2.2.2.2.1.2.2.1 hq.2.2.2.2.1.2.2.2.2.2.1.1 ?_
        refine px_iload_n dX7_ageLots_87 rfl ?_
        refine c_X6_at dX7_ageLots_88 mlX7_65 (by omega) (j := i) hq.2.2.2.2.1.2.2.2.2.2.1.2 (by omega) (Nat.le_of_ble_eq_true rfl) ?_
        refine px_iv (y := nI ((pl_g M i).2.2.1)) (((hC2.2.2.2.1.2.2 i (by omega)).2.2.1).trans (congrArg nI (by rw [hg2]))) ?_
        refine c_X6_add dX7_ageLots_91 mlX7_103 (by omega) (j := (pl_g M i).1) hq.2.2.1.2.2.2.2.2.2.1.2 hx.1 (Nat.le_of_ble_eq_true rfl) ?_
        have hC3 := CR_spoiled hC2 hx.1 (x := (pl_g M i).2.2.1)
        refine px_aload_n dX7_ageLots_94 rfl ?_
        refine px_getR dX7_ageLots_95 flX7_35 hq.1 (by decide) (by decide) rfl hq.2.1 hq.2.2.2.2.1.1 ?_
        refine px_getR dX7_ageLots_98 flX7_186 hq.2.2.2.2.1.2.1 (by decide) (by decide) rfl hq.2.2.2.2.1.2.2.1 hq.2.2.2.2.1.2.2.2.2.2.1.1 ?_
        refine px_iload_n dX7_ageLots_101 rfl ?_
        refine px_iconst (v := nI 0) dX7_ageLots_102 (by decide) ?_
        refine c_X6_put dX7_ageLots_103 mlX7_148 (by omega) (j := i) hq.2.2.2.2.1.2.2.2.2.2.1.2 (by omega) (Nat.le_of_ble_eq_true rfl) ?_
        have hC4 := CR_amt hC3 (l := i) (v := 0) (by omega) (by omega)
        rw [hg2] at hC4
        refine px_iincN (c := 1) (by decide) dX7_ageLots_106 rfl (by decide) ?_
        refine px_goto (tgt := 2) dX7_ageLots_109 (by decide) ?_
        refine px_keep [0, 1] ?_
        have eM : M2.set i ((pl_g M i).1, (pl_g M i).2.1, 0, pd_grown T (pl_g L i)) = pd_mix T L (i + 1) := by
          refine pl_ext (by rw [pd_mix_len (by omega)]; rw [List.length_set, hl2]; exact hlen) fun l hl => ?_
          have hlL : l < L.length := by rw [List.length_set, hl2, hlen] at hl; omega
          rw [pd_mix_g (by omega) hlL]
          by_cases e3 : l = i
          · subst e3
            rw [if_pos (Nat.lt_succ_self l)]
            rw [pl_g_set (by omega), if_pos rfl, hgi]
            unfold pd_old
            rw [if_pos (by omega)]
          · rw [pl_g_set (by omega), if_neg e3, ← hM2, pl_g_set hi1]
            rw [if_neg e3, hM0, pd_mix_g (by omega) hlL]
            by_cases e4 : l < i
            · rw [if_pos e4, if_pos (by omega)]
            · rw [if_neg e4, if_neg (by omega)]
        have eA : pt_up A (26 + 5 * (pl_g M i).1) (A (26 + 5 * (pl_g M i).1) + (pl_g M i).2.2.1) = pd_foldT T L (i + 1) := by
          rw [pd_foldT1 hi, ← hA, hgi]
          unfold pd_spoil
          rw [if_pos (by omega)]
        refine K _ _ _ eA eM hC4 (fun k0 hk => ?_)
        rw [pv_uI_ne (by omega), pv_uI_ne (by omega)]
        exact hF2 k0 hk
  refine px_iconst (v := nI 0) dX7_ageLots_0 (by decide) ?_
  refine px_istore_n dX7_ageLots_1 (by decide) ?_
  exact key 0 (by omega) I T L rfl pd_mix0.symm hC (fun _ _ => rfl)
theorem c_X7_ageLots {z : pv_Z} {E : pv_E} {d bc bs : Nat} {J : pv_JT} {I : pv_IT} {mi : pv_MI} {pc idx : Nat} {lv : pv_LV} {st : List Value} {q : Nat} {T : pv_T} {L : List pv_Lot} (hd : decode mi.2.1 pc = .ok (.invokevirtual idx, 3)) (hlk : Cond.methodLink mi.1.cls idx mX7_ageLots.1 ∈ pv_W) (hD : 4+1 ≤ d) (hq : pv_ship q) (hC : CR I q T L) (hb : tb T) (hag : ∀ l, l < L.length → (pl_g L l).2.2.2 < 1000) (hcat : (st.map fun v => v.category).sum ≤ 8) (K : ∀ I' : pv_IT, CR I' q (pd_age (T, L)).1 (pd_age (T, L)).2 → (∀ k0 : Nat, k0 < q ∨ q + 42 ≤ k0 → I' k0 = I k0) → pv_X z E d bc bs mi (pc + 3) lv (st) pv_K0 pv_P0 (I') (J)) : pv_X z E d bc bs mi pc lv (.ref (q) :: st) pv_K0 pv_P0 I J := by
  obtain ⟨d, rfl⟩ : ∃ d0, d = d0 + 1 := ⟨d - 1, by omega⟩
  have key := px_callV (bc := bc) (bs := bs) (bc1 := 0) (bs1 := 0) (as := []) (E := E) (z := z) (lv := lv) hd mvX7_ageLots hlk hq.1 (by decide) rfl hq.2.1 rfl rfl hcat (by exact Nat.le_of_ble_eq_true rfl) (s_X7_ageLots (by omega) hq hC hb hag K)
  rw [Nat.zero_add, Nat.zero_add] at key
  exact key
