/-! The class: a ship that becomes another. -/
set_option maxRecDepth 100000 in
set_option maxHeartbeats 4000000 in
theorem s_B_become {Q : pv_Q} {E : pv_E} {d bc bs : Nat} {J : pv_JT} {I : pv_IT} {r o n : Nat} (hD : 1 ≤ d) (hr : pv_row r n) (ho : pv_row o n) (h : ∀ I' : pv_IT, (∀ j, j < n → I' (r + 1) j = I (o + 1) j) → (∀ k, k ≠ r + 1 → I' k = I k) → Q (.inl none) pv_K0 pv_P0 (I') (J)) : pv_X (pv_ZQ E Q) E d bc bs mX6_become 0 [(0, .ref (r)), (1, .ref (o))] [] pv_K0 pv_P0 I J := by
  exact s_X6_become hD hr ho (h _ (fun j hj => by rw [pv_uA_self]; exact pv_cpy0 hj) (fun k hk => pv_uA_ne hk))
theorem c_B_become {z : pv_Z} {E : pv_E} {d bc bs : Nat} {J : pv_JT} {I : pv_IT} {mi : pv_MI} {pc idx : Nat} {lv : pv_LV} {st : List Value} {r o n : Nat} (hd : decode mi.2.1 pc = .ok (.invokevirtual idx, 3)) (hlk : Cond.methodLink mi.1.cls idx mX6_become.1 ∈ pv_W) (hD : 1+1 ≤ d) (hr : pv_row r n) (ho : pv_row o n) (hcat : (st.map fun v => v.category).sum ≤ 8) (K : ∀ I' : pv_IT, (∀ j, j < n → I' (r + 1) j = I (o + 1) j) → (∀ k, k ≠ r + 1 → I' k = I k) → pv_X z E d bc bs mi (pc + 3) lv (st) pv_K0 pv_P0 (I') (J)) : pv_X z E d bc bs mi pc lv (.ref (o) :: .ref (r) :: st) pv_K0 pv_P0 I J := by
  obtain ⟨d, rfl⟩ : ∃ d0, d = d0 + 1 := ⟨d - 1, by omega⟩
  have key := px_callV (bc := bc) (bs := bs) (bc1 := 0) (bs1 := 0) (as := [.ref (o)]) (E := E) (z := z) (lv := lv) hd mvX6_become hlk hr.1 (by decide) rfl (pv_rl hr) rfl rfl hcat (by exact Nat.le_of_ble_eq_true rfl) (s_B_become (by omega) hr ho K)
  rw [Nat.zero_add, Nat.zero_add] at key
  exact key
set_option maxRecDepth 100000 in
set_option maxHeartbeats 4000000 in
theorem s_X2_become {Q : pv_Q} {E : pv_E} {d bc bs : Nat} {J : pv_JT} {I : pv_IT} {q o : Nat} {L : List pv_Lot} (hD : 2 ≤ d) (hq : pv_lots q) (ho : pv_lots o) (hl : lt_c I o L) (hdis : q + 9 ≤ o ∨ o + 9 ≤ q) (h : ∀ I' : pv_IT, lt_c I' q L → (∀ k0 : Nat, k0 < q ∨ q + 9 ≤ k0 → I' k0 = I k0) → Q (.inl none) pv_K0 pv_P0 (I') (J)) : pv_X (pv_ZQ E Q) E d bc bs mX2_become 0 [(0, .ref (q)), (1, .ref (o))] [] pv_K0 pv_P0 I J := by
  refine px_aload_n dX2_become_0 rfl ?_
  refine px_ifnonnull (tgt := 5) dX2_become_1 (by decide) ?_
  refine px_aload_n dX2_become_5 rfl ?_
  refine px_aload_n dX2_become_6 rfl ?_
  refine px_getI dX2_become_7 flX2_29 ho.1 (by decide) (by decide) rfl ho.2.1 ?_
  refine px_putI dX2_become_10 fwX2_29 hq.1 (by decide) (by decide) rfl hq.2.1 ?_
  refine px_aload_n dX2_become_13 rfl ?_
  refine px_getR dX2_become_14 flX2_14 hq.1 (by decide) (by decide) rfl hq.2.1 hq.2.2.1.1 ?_
  refine px_aload_n dX2_become_17 rfl ?_
  refine px_getR dX2_become_18 flX2_14 ho.1 (by decide) (by decide) rfl ho.2.1 ho.2.2.1.1 ?_
  generalize hI0 : pv_uI I q 0 (I o 0) = I0
  have hA0 : I0 q 0 = I o 0 := by rw [← hI0, pv_uI_self]; exact pk_us
  have hF0 : ∀ k, k ≠ q → I0 k = I k := fun k hk => by rw [← hI0]; exact pv_uI_ne hk
  refine c_B_become dX2_become_21 mlX2_51 (by omega) hq.2.2.1.2 ho.2.2.1.2 (Nat.le_of_ble_eq_true rfl) (fun I1 hA1 hF1 => ?_)
  refine px_aload_n dX2_become_24 rfl ?_
  refine px_getR dX2_become_25 flX2_20 hq.1 (by decide) (by decide) rfl hq.2.1 hq.2.2.2.1.1 ?_
  refine px_aload_n dX2_become_28 rfl ?_
  refine px_getR dX2_become_29 flX2_20 ho.1 (by decide) (by decide) rfl ho.2.1 ho.2.2.2.1.1 ?_
  refine c_B_become dX2_become_32 mlX2_51 (by omega) hq.2.2.2.1.2 ho.2.2.2.1.2 (Nat.le_of_ble_eq_true rfl) (fun I2 hA2 hF2 => ?_)
  refine px_aload_n dX2_become_35 rfl ?_
  refine px_getR dX2_become_36 flX2_23 hq.1 (by decide) (by decide) rfl hq.2.1 hq.2.2.2.2.1.1 ?_
  refine px_aload_n dX2_become_39 rfl ?_
  refine px_getR dX2_become_40 flX2_23 ho.1 (by decide) (by decide) rfl ho.2.1 ho.2.2.2.2.1.1 ?_
  refine c_B_become dX2_become_43 mlX2_51 (by omega) hq.2.2.2.2.1.2 ho.2.2.2.2.1.2 (Nat.le_of_ble_eq_true rfl) (fun I3 hA3 hF3 => ?_)
  refine px_aload_n dX2_become_46 rfl ?_
  refine px_getR dX2_become_47 flX2_26 hq.1 (by decide) (by decide) rfl hq.2.1 hq.2.2.2.2.2.1 ?_
  refine px_aload_n dX2_become_50 rfl ?_
  refine px_getR dX2_become_51 flX2_26 ho.1 (by decide) (by decide) rfl ho.2.1 ho.2.2.2.2.2.1 ?_
  refine c_B_become dX2_become_54 mlX2_51 (by omega) hq.2.2.2.2.2.2 ho.2.2.2.2.2.2 (Nat.le_of_ble_eq_true rfl) (fun I4 hA4 hF4 => ?_)
  refine px_vret dX2_become_57 rfl (Or.inl rfl) (h I4 ?_ (fun k hk => by rw [hF4 _ (by omega), hF3 _ (by omega), hF2 _ (by omega), hF1 _ (by omega), hF0 _ (by omega)]))
  refine ⟨?_, hl.2.1, fun l hl2 => ?_⟩
  · rw [hF4 _ (by omega), hF3 _ (by omega), hF2 _ (by omega), hF1 _ (by omega), hA0]; exact hl.1
  · have h31 := hl.2.1.1
    have h3 := hl.2.2 l hl2
    refine ⟨?_, ?_, ?_, ?_⟩
    · rw [hF4 _ (by omega), hF3 _ (by omega), hF2 _ (by omega), hA1 l (by omega), hF0 _ (by omega)]; exact h3.1
    · rw [hF4 _ (by omega), hF3 _ (by omega), hA2 l (by omega), hF1 _ (by omega), hF0 _ (by omega)]; exact h3.2.1
    · rw [hF4 _ (by omega), hA3 l (by omega), hF2 _ (by omega), hF1 _ (by omega), hF0 _ (by omega)]; exact h3.2.2.1
    · rw [hA4 l (by omega), hF3 _ (by omega), hF2 _ (by omega), hF1 _ (by omega), hF0 _ (by omega)]; exact h3.2.2.2
theorem c_X2_become {z : pv_Z} {E : pv_E} {d bc bs : Nat} {J : pv_JT} {I : pv_IT} {mi : pv_MI} {pc idx : Nat} {lv : pv_LV} {st : List Value} {q o : Nat} {L : List pv_Lot} (hd : decode mi.2.1 pc = .ok (.invokevirtual idx, 3)) (hlk : Cond.methodLink mi.1.cls idx mX2_become.1 ∈ pv_W) (hD : 2+1 ≤ d) (hq : pv_lots q) (ho : pv_lots o) (hl : lt_c I o L) (hdis : q + 9 ≤ o ∨ o + 9 ≤ q) (hcat : (st.map fun v => v.category).sum ≤ 8) (K : ∀ I' : pv_IT, lt_c I' q L → (∀ k0 : Nat, k0 < q ∨ q + 9 ≤ k0 → I' k0 = I k0) → pv_X z E d bc bs mi (pc + 3) lv (st) pv_K0 pv_P0 (I') (J)) : pv_X z E d bc bs mi pc lv (.ref (o) :: .ref (q) :: st) pv_K0 pv_P0 I J := by
  obtain ⟨d, rfl⟩ : ∃ d0, d = d0 + 1 := ⟨d - 1, by omega⟩
  have key := px_callV (bc := bc) (bs := bs) (bc1 := 0) (bs1 := 0) (as := [.ref (o)]) (E := E) (z := z) (lv := lv) hd mvX2_become hlk hq.1 (by decide) rfl hq.2.1 rfl rfl hcat (by exact Nat.le_of_ble_eq_true rfl) (s_X2_become (by omega) hq ho hl hdis K)
  rw [Nat.zero_add, Nat.zero_add] at key
  exact key
set_option maxRecDepth 100000 in
set_option maxHeartbeats 4000000 in
theorem s_X1_become {Q : pv_Q} {E : pv_E} {d bc bs : Nat} {J : pv_JT} {I : pv_IT} {q o : Nat} {T : pv_T} (hD : 2 ≤ d) (hq : pv_kinds q) (ho : pv_kinds o) (hl : ck I o T) (hdis : q + 13 ≤ o ∨ o + 13 ≤ q) (h : ∀ I' : pv_IT, ck I' q T → (∀ k0 : Nat, k0 < q ∨ q + 13 ≤ k0 → I' k0 = I k0) → Q (.inl none) pv_K0 pv_P0 (I') (J)) : pv_X (pv_ZQ E Q) E d bc bs mX1_become 0 [(0, .ref (q)), (1, .ref (o))] [] pv_K0 pv_P0 I J := by
  refine px_aload_n dX1_become_0 rfl ?_
  refine px_ifnonnull (tgt := 5) dX1_become_1 (by decide) ?_
  refine px_aload_n dX1_become_5 rfl ?_
  refine px_aload_n dX1_become_6 rfl ?_
  refine px_getI dX1_become_7 flX1_35 ho.1 (by decide) (by decide) rfl ho.2.1 ?_
  refine px_putI dX1_become_10 fwX1_35 hq.1 (by decide) (by decide) rfl hq.2.1 ?_
  refine px_aload_n dX1_become_13 rfl ?_
  refine px_getR dX1_become_14 flX1_14 hq.1 (by decide) (by decide) rfl hq.2.1 hq.2.2.1.1 ?_
  refine px_aload_n dX1_become_17 rfl ?_
  refine px_getR dX1_become_18 flX1_14 ho.1 (by decide) (by decide) rfl ho.2.1 ho.2.2.1.1 ?_
  generalize hI0 : pv_uI I q 0 (I o 0) = I0
  have hA0 : I0 q 0 = I o 0 := by rw [← hI0, pv_uI_self]; exact pk_us
  have hF0 : ∀ k, k ≠ q → I0 k = I k := fun k hk => by rw [← hI0]; exact pv_uI_ne hk
  refine c_B_become dX1_become_21 mlX1_47 (by omega) hq.2.2.1.2 ho.2.2.1.2 (Nat.le_of_ble_eq_true rfl) (fun I1 hA1 hF1 => ?_)
  refine px_aload_n dX1_become_24 rfl ?_
  refine px_getR dX1_become_25 flX1_20 hq.1 (by decide) (by decide) rfl hq.2.1 hq.2.2.2.1.1 ?_
  refine px_aload_n dX1_become_28 rfl ?_
  refine px_getR dX1_become_29 flX1_20 ho.1 (by decide) (by decide) rfl ho.2.1 ho.2.2.2.1.1 ?_
  refine c_B_become dX1_become_32 mlX1_47 (by omega) hq.2.2.2.1.2 ho.2.2.2.1.2 (Nat.le_of_ble_eq_true rfl) (fun I2 hA2 hF2 => ?_)
  refine px_aload_n dX1_become_35 rfl ?_
  refine px_getR dX1_become_36 flX1_23 hq.1 (by decide) (by decide) rfl hq.2.1 hq.2.2.2.2.1.1 ?_
  refine px_aload_n dX1_become_39 rfl ?_
  refine px_getR dX1_become_40 flX1_23 ho.1 (by decide) (by decide) rfl ho.2.1 ho.2.2.2.2.1.1 ?_
  refine c_B_become dX1_become_43 mlX1_47 (by omega) hq.2.2.2.2.1.2 ho.2.2.2.2.1.2 (Nat.le_of_ble_eq_true rfl) (fun I3 hA3 hF3 => ?_)
  refine px_aload_n dX1_become_46 rfl ?_
  refine px_getR dX1_become_47 flX1_26 hq.1 (by decide) (by decide) rfl hq.2.1 hq.2.2.2.2.2.1.1 ?_
  refine px_aload_n dX1_become_50 rfl ?_
  refine px_getR dX1_become_51 flX1_26 ho.1 (by decide) (by decide) rfl ho.2.1 ho.2.2.2.2.2.1.1 ?_
  refine c_B_become dX1_become_54 mlX1_47 (by omega) hq.2.2.2.2.2.1.2 ho.2.2.2.2.2.1.2 (Nat.le_of_ble_eq_true rfl) (fun I4 hA4 hF4 => ?_)
  refine px_aload_n dX1_become_57 rfl ?_
  refine px_getR dX1_become_58 flX1_29 hq.1 (by decide) (by decide) rfl hq.2.1 hq.2.2.2.2.2.2.1.1 ?_
  refine px_aload_n dX1_become_61 rfl ?_
  refine px_getR dX1_become_62 flX1_29 ho.1 (by decide) (by decide) rfl ho.2.1 ho.2.2.2.2.2.2.1.1 ?_
  refine c_B_become dX1_become_65 mlX1_47 (by omega) hq.2.2.2.2.2.2.1.2 ho.2.2.2.2.2.2.1.2 (Nat.le_of_ble_eq_true rfl) (fun I5 hA5 hF5 => ?_)
  refine px_aload_n dX1_become_68 rfl ?_
  refine px_getR dX1_become_69 flX1_32 hq.1 (by decide) (by decide) rfl hq.2.1 hq.2.2.2.2.2.2.2.1 ?_
  refine px_aload_n dX1_become_72 rfl ?_
  refine px_getR dX1_become_73 flX1_32 ho.1 (by decide) (by decide) rfl ho.2.1 ho.2.2.2.2.2.2.2.1 ?_
  refine c_B_become dX1_become_76 mlX1_47 (by omega) hq.2.2.2.2.2.2.2.2 ho.2.2.2.2.2.2.2.2 (Nat.le_of_ble_eq_true rfl) (fun I6 hA6 hF6 => ?_)
  refine px_vret dX1_become_79 rfl (Or.inl rfl) (h I6 ?_ (fun k hk => by rw [hF6 _ (by omega), hF5 _ (by omega), hF4 _ (by omega), hF3 _ (by omega), hF2 _ (by omega), hF1 _ (by omega), hF0 _ (by omega)]))
  refine ⟨?_, fun i hi => ?_, fun k hk => ?_⟩
  · rw [hF6 _ (by omega), hF5 _ (by omega), hF4 _ (by omega), hF3 _ (by omega), hF2 _ (by omega), hF1 _ (by omega), hA0]; exact hl.1
  · rw [hF6 _ (by omega), hF5 _ (by omega), hF4 _ (by omega), hF3 _ (by omega), hF2 _ (by omega), hA1 i (by omega), hF0 _ (by omega)]; exact hl.2.1 i hi
  · have h3 := hl.2.2 k hk
    refine ⟨?_, ?_, ?_, ?_, ?_⟩
    · rw [hF6 _ (by omega), hF5 _ (by omega), hF4 _ (by omega), hF3 _ (by omega), hA2 k (by omega), hF1 _ (by omega), hF0 _ (by omega)]; exact h3.1
    · rw [hF6 _ (by omega), hF5 _ (by omega), hF4 _ (by omega), hA3 k (by omega), hF2 _ (by omega), hF1 _ (by omega), hF0 _ (by omega)]; exact h3.2.1
    · rw [hF6 _ (by omega), hF5 _ (by omega), hA4 k (by omega), hF3 _ (by omega), hF2 _ (by omega), hF1 _ (by omega), hF0 _ (by omega)]; exact h3.2.2.1
    · rw [hF6 _ (by omega), hA5 k (by omega), hF4 _ (by omega), hF3 _ (by omega), hF2 _ (by omega), hF1 _ (by omega), hF0 _ (by omega)]; exact h3.2.2.2.1
    · rw [hA6 k (by omega), hF5 _ (by omega), hF4 _ (by omega), hF3 _ (by omega), hF2 _ (by omega), hF1 _ (by omega), hF0 _ (by omega)]; exact h3.2.2.2.2
theorem c_X1_become {z : pv_Z} {E : pv_E} {d bc bs : Nat} {J : pv_JT} {I : pv_IT} {mi : pv_MI} {pc idx : Nat} {lv : pv_LV} {st : List Value} {q o : Nat} {T : pv_T} (hd : decode mi.2.1 pc = .ok (.invokevirtual idx, 3)) (hlk : Cond.methodLink mi.1.cls idx mX1_become.1 ∈ pv_W) (hD : 2+1 ≤ d) (hq : pv_kinds q) (ho : pv_kinds o) (hl : ck I o T) (hdis : q + 13 ≤ o ∨ o + 13 ≤ q) (hcat : (st.map fun v => v.category).sum ≤ 8) (K : ∀ I' : pv_IT, ck I' q T → (∀ k0 : Nat, k0 < q ∨ q + 13 ≤ k0 → I' k0 = I k0) → pv_X z E d bc bs mi (pc + 3) lv (st) pv_K0 pv_P0 (I') (J)) : pv_X z E d bc bs mi pc lv (.ref (o) :: .ref (q) :: st) pv_K0 pv_P0 I J := by
  obtain ⟨d, rfl⟩ : ∃ d0, d = d0 + 1 := ⟨d - 1, by omega⟩
  have key := px_callV (bc := bc) (bs := bs) (bc1 := 0) (bs1 := 0) (as := [.ref (o)]) (E := E) (z := z) (lv := lv) hd mvX1_become hlk hq.1 (by decide) rfl hq.2.1 rfl rfl hcat (by exact Nat.le_of_ble_eq_true rfl) (s_X1_become (by omega) hq ho hl hdis K)
  rw [Nat.zero_add, Nat.zero_add] at key
  exact key
set_option maxRecDepth 100000 in
set_option maxHeartbeats 4000000 in
theorem s_X8_become {Q : pv_Q} {E : pv_E} {d bc bs : Nat} {J : pv_JT} {I : pv_IT} {q o : Nat} {T : pv_T} (hD : 2 ≤ d) (hq : pv_stores q) (ho : pv_stores o) (hl : cs I o T) (hdis : q + 5 ≤ o ∨ o + 5 ≤ q) (h : ∀ I' : pv_IT, cs I' q T → (∀ k0 : Nat, k0 < q ∨ q + 5 ≤ k0 → I' k0 = I k0) → Q (.inl none) pv_K0 pv_P0 (I') (J)) : pv_X (pv_ZQ E Q) E d bc bs mX8_become 0 [(0, .ref (q)), (1, .ref (o))] [] pv_K0 pv_P0 I J := by
  refine px_aload_n dX8_become_0 rfl ?_
  refine px_ifnonnull (tgt := 5) dX8_become_1 (by decide) ?_
  refine px_aload_n dX8_become_5 rfl ?_
  refine px_getR dX8_become_6 flX8_14 hq.1 (by decide) (by decide) rfl hq.2.1 hq.2.2.1.1 ?_
  refine px_aload_n dX8_become_9 rfl ?_
  refine px_getR dX8_become_10 flX8_14 ho.1 (by decide) (by decide) rfl ho.2.1 ho.2.2.1.1 ?_
  refine c_B_become dX8_become_13 mlX8_34 (by omega) hq.2.2.1.2 ho.2.2.1.2 (Nat.le_of_ble_eq_true rfl) (fun I1 hA1 hF1 => ?_)
  refine px_aload_n dX8_become_16 rfl ?_
  refine px_getR dX8_become_17 flX8_20 hq.1 (by decide) (by decide) rfl hq.2.1 hq.2.2.2.1 ?_
  refine px_aload_n dX8_become_20 rfl ?_
  refine px_getR dX8_become_21 flX8_20 ho.1 (by decide) (by decide) rfl ho.2.1 ho.2.2.2.1 ?_
  refine c_B_become dX8_become_24 mlX8_34 (by omega) hq.2.2.2.2 ho.2.2.2.2 (Nat.le_of_ble_eq_true rfl) (fun I2 hA2 hF2 => ?_)
  refine px_vret dX8_become_27 rfl (Or.inl rfl) (h I2 ?_ (fun k hk => by rw [hF2 _ (by omega), hF1 _ (by omega)]))
  intro s hs
  refine ⟨?_, ?_⟩
  · rw [hF2 _ (by omega), hA1 s (by omega)]; exact (hl s hs).1
  · rw [hA2 s (by omega), hF1 _ (by omega)]; exact (hl s hs).2
theorem c_X8_become {z : pv_Z} {E : pv_E} {d bc bs : Nat} {J : pv_JT} {I : pv_IT} {mi : pv_MI} {pc idx : Nat} {lv : pv_LV} {st : List Value} {q o : Nat} {T : pv_T} (hd : decode mi.2.1 pc = .ok (.invokevirtual idx, 3)) (hlk : Cond.methodLink mi.1.cls idx mX8_become.1 ∈ pv_W) (hD : 2+1 ≤ d) (hq : pv_stores q) (ho : pv_stores o) (hl : cs I o T) (hdis : q + 5 ≤ o ∨ o + 5 ≤ q) (hcat : (st.map fun v => v.category).sum ≤ 8) (K : ∀ I' : pv_IT, cs I' q T → (∀ k0 : Nat, k0 < q ∨ q + 5 ≤ k0 → I' k0 = I k0) → pv_X z E d bc bs mi (pc + 3) lv (st) pv_K0 pv_P0 (I') (J)) : pv_X z E d bc bs mi pc lv (.ref (o) :: .ref (q) :: st) pv_K0 pv_P0 I J := by
  obtain ⟨d, rfl⟩ : ∃ d0, d = d0 + 1 := ⟨d - 1, by omega⟩
  have key := px_callV (bc := bc) (bs := bs) (bc1 := 0) (bs1 := 0) (as := [.ref (o)]) (E := E) (z := z) (lv := lv) hd mvX8_become hlk hq.1 (by decide) rfl hq.2.1 rfl rfl hcat (by exact Nat.le_of_ble_eq_true rfl) (s_X8_become (by omega) hq ho hl hdis K)
  rw [Nat.zero_add, Nat.zero_add] at key
  exact key
set_option maxRecDepth 100000 in
set_option maxHeartbeats 4000000 in
theorem s_X5_become {Q : pv_Q} {E : pv_E} {d bc bs : Nat} {J : pv_JT} {I : pv_IT} {q o : Nat} {T : pv_T} (hD : 2 ≤ d) (hq : pv_ports q) (ho : pv_ports o) (hl : cp I o T) (hdis : q + 7 ≤ o ∨ o + 7 ≤ q) (h : ∀ I' : pv_IT, cp I' q T → (∀ k0 : Nat, k0 < q ∨ q + 7 ≤ k0 → I' k0 = I k0) → Q (.inl none) pv_K0 pv_P0 (I') (J)) : pv_X (pv_ZQ E Q) E d bc bs mX5_become 0 [(0, .ref (q)), (1, .ref (o))] [] pv_K0 pv_P0 I J := by
  refine px_aload_n dX5_become_0 rfl ?_
  refine px_ifnonnull (tgt := 5) dX5_become_1 (by decide) ?_
  refine px_aload_n dX5_become_5 rfl ?_
  refine px_aload_n dX5_become_6 rfl ?_
  refine px_getI dX5_become_7 flX5_26 ho.1 (by decide) (by decide) rfl ho.2.1 ?_
  refine px_putI dX5_become_10 fwX5_26 hq.1 (by decide) (by decide) rfl hq.2.1 ?_
  refine px_aload_n dX5_become_13 rfl ?_
  refine px_getR dX5_become_14 flX5_14 hq.1 (by decide) (by decide) rfl hq.2.1 hq.2.2.1.1 ?_
  refine px_aload_n dX5_become_17 rfl ?_
  refine px_getR dX5_become_18 flX5_14 ho.1 (by decide) (by decide) rfl ho.2.1 ho.2.2.1.1 ?_
  generalize hI0 : pv_uI I q 0 (I o 0) = I0
  have hA0 : I0 q 0 = I o 0 := by rw [← hI0, pv_uI_self]; exact pk_us
  have hF0 : ∀ k, k ≠ q → I0 k = I k := fun k hk => by rw [← hI0]; exact pv_uI_ne hk
  refine c_B_become dX5_become_21 mlX5_52 (by omega) hq.2.2.1.2 ho.2.2.1.2 (Nat.le_of_ble_eq_true rfl) (fun I1 hA1 hF1 => ?_)
  refine px_aload_n dX5_become_24 rfl ?_
  refine px_getR dX5_become_25 flX5_20 hq.1 (by decide) (by decide) rfl hq.2.1 hq.2.2.2.1.1 ?_
  refine px_aload_n dX5_become_28 rfl ?_
  refine px_getR dX5_become_29 flX5_20 ho.1 (by decide) (by decide) rfl ho.2.1 ho.2.2.2.1.1 ?_
  refine c_B_become dX5_become_32 mlX5_52 (by omega) hq.2.2.2.1.2 ho.2.2.2.1.2 (Nat.le_of_ble_eq_true rfl) (fun I2 hA2 hF2 => ?_)
  refine px_aload_n dX5_become_35 rfl ?_
  refine px_getR dX5_become_36 flX5_23 hq.1 (by decide) (by decide) rfl hq.2.1 hq.2.2.2.2.1 ?_
  refine px_aload_n dX5_become_39 rfl ?_
  refine px_getR dX5_become_40 flX5_23 ho.1 (by decide) (by decide) rfl ho.2.1 ho.2.2.2.2.1 ?_
  refine c_B_become dX5_become_43 mlX5_52 (by omega) hq.2.2.2.2.2 ho.2.2.2.2.2 (Nat.le_of_ble_eq_true rfl) (fun I3 hA3 hF3 => ?_)
  refine px_vret dX5_become_46 rfl (Or.inl rfl) (h I3 ?_ (fun k hk => by rw [hF3 _ (by omega), hF2 _ (by omega), hF1 _ (by omega), hF0 _ (by omega)]))
  refine ⟨?_, fun p hp => ?_⟩
  · rw [hF3 _ (by omega), hF2 _ (by omega), hF1 _ (by omega), hA0]; exact hl.1
  · have h3 := hl.2 p hp
    refine ⟨?_, ?_, fun k hk => ?_⟩
    · rw [hF3 _ (by omega), hF2 _ (by omega), hA1 p (by omega), hF0 _ (by omega)]; exact h3.1
    · rw [hF3 _ (by omega), hA2 p (by omega), hF1 _ (by omega), hF0 _ (by omega)]; exact h3.2.1
    · rw [hA3 (p * 8 + k) (by omega), hF2 _ (by omega), hF1 _ (by omega), hF0 _ (by omega)]; exact h3.2.2 k hk
theorem c_X5_become {z : pv_Z} {E : pv_E} {d bc bs : Nat} {J : pv_JT} {I : pv_IT} {mi : pv_MI} {pc idx : Nat} {lv : pv_LV} {st : List Value} {q o : Nat} {T : pv_T} (hd : decode mi.2.1 pc = .ok (.invokevirtual idx, 3)) (hlk : Cond.methodLink mi.1.cls idx mX5_become.1 ∈ pv_W) (hD : 2+1 ≤ d) (hq : pv_ports q) (ho : pv_ports o) (hl : cp I o T) (hdis : q + 7 ≤ o ∨ o + 7 ≤ q) (hcat : (st.map fun v => v.category).sum ≤ 8) (K : ∀ I' : pv_IT, cp I' q T → (∀ k0 : Nat, k0 < q ∨ q + 7 ≤ k0 → I' k0 = I k0) → pv_X z E d bc bs mi (pc + 3) lv (st) pv_K0 pv_P0 (I') (J)) : pv_X z E d bc bs mi pc lv (.ref (o) :: .ref (q) :: st) pv_K0 pv_P0 I J := by
  obtain ⟨d, rfl⟩ : ∃ d0, d = d0 + 1 := ⟨d - 1, by omega⟩
  have key := px_callV (bc := bc) (bs := bs) (bc1 := 0) (bs1 := 0) (as := [.ref (o)]) (E := E) (z := z) (lv := lv) hd mvX5_become hlk hq.1 (by decide) rfl hq.2.1 rfl rfl hcat (by exact Nat.le_of_ble_eq_true rfl) (s_X5_become (by omega) hq ho hl hdis K)
  rw [Nat.zero_add, Nat.zero_add] at key
  exact key
set_option maxRecDepth 100000 in
set_option maxHeartbeats 4000000 in
theorem s_X4_become {Q : pv_Q} {E : pv_E} {d bc bs : Nat} {J : pv_JT} {I : pv_IT} {q o : Nat} {T : pv_T} (hD : 2 ≤ d) (hq : pv_menus q) (ho : pv_menus o) (hl : cm I o T) (hdis : q + 7 ≤ o ∨ o + 7 ≤ q) (h : ∀ I' : pv_IT, cm I' q T → (∀ k0 : Nat, k0 < q ∨ q + 7 ≤ k0 → I' k0 = I k0) → Q (.inl none) pv_K0 pv_P0 (I') (J)) : pv_X (pv_ZQ E Q) E d bc bs mX4_become 0 [(0, .ref (q)), (1, .ref (o))] [] pv_K0 pv_P0 I J := by
  refine px_aload_n dX4_become_0 rfl ?_
  refine px_ifnonnull (tgt := 5) dX4_become_1 (by decide) ?_
  refine px_aload_n dX4_become_5 rfl ?_
  refine px_aload_n dX4_become_6 rfl ?_
  refine px_getI dX4_become_7 flX4_9 ho.1 (by decide) (by decide) rfl ho.2.1 ?_
  refine px_putI dX4_become_10 fwX4_9 hq.1 (by decide) (by decide) rfl hq.2.1 ?_
  refine px_aload_n dX4_become_13 rfl ?_
  refine px_getR dX4_become_14 flX4_20 hq.1 (by decide) (by decide) rfl hq.2.1 hq.2.2.1.1 ?_
  refine px_aload_n dX4_become_17 rfl ?_
  refine px_getR dX4_become_18 flX4_20 ho.1 (by decide) (by decide) rfl ho.2.1 ho.2.2.1.1 ?_
  generalize hI0 : pv_uI I q 0 (I o 0) = I0
  have hA0 : I0 q 0 = I o 0 := by rw [← hI0, pv_uI_self]; exact pk_us
  have hF0 : ∀ k, k ≠ q → I0 k = I k := fun k hk => by rw [← hI0]; exact pv_uI_ne hk
  refine c_B_become dX4_become_21 mlX4_43 (by omega) hq.2.2.1.2 ho.2.2.1.2 (Nat.le_of_ble_eq_true rfl) (fun I1 hA1 hF1 => ?_)
  refine px_aload_n dX4_become_24 rfl ?_
  refine px_getR dX4_become_25 flX4_24 hq.1 (by decide) (by decide) rfl hq.2.1 hq.2.2.2.1.1 ?_
  refine px_aload_n dX4_become_28 rfl ?_
  refine px_getR dX4_become_29 flX4_24 ho.1 (by decide) (by decide) rfl ho.2.1 ho.2.2.2.1.1 ?_
  refine c_B_become dX4_become_32 mlX4_43 (by omega) hq.2.2.2.1.2 ho.2.2.2.1.2 (Nat.le_of_ble_eq_true rfl) (fun I2 hA2 hF2 => ?_)
  refine px_aload_n dX4_become_35 rfl ?_
  refine px_getR dX4_become_36 flX4_27 hq.1 (by decide) (by decide) rfl hq.2.1 hq.2.2.2.2.1 ?_
  refine px_aload_n dX4_become_39 rfl ?_
  refine px_getR dX4_become_40 flX4_27 ho.1 (by decide) (by decide) rfl ho.2.1 ho.2.2.2.2.1 ?_
  refine c_B_become dX4_become_43 mlX4_43 (by omega) hq.2.2.2.2.2 ho.2.2.2.2.2 (Nat.le_of_ble_eq_true rfl) (fun I3 hA3 hF3 => ?_)
  refine px_vret dX4_become_46 rfl (Or.inl rfl) (h I3 ?_ (fun k hk => by rw [hF3 _ (by omega), hF2 _ (by omega), hF1 _ (by omega), hF0 _ (by omega)]))
  refine ⟨?_, hl.2.1, fun m hm i hi => ?_⟩
  · rw [hF3 _ (by omega), hF2 _ (by omega), hF1 _ (by omega), hA0]; exact hl.1
  · have h10 := hl.2.1
    have h3 := hl.2.2 m hm i hi
    unfold mic at h3 ⊢
    have e1 : I3 (q + 2) (m * 4 + i) = I (o + 2) (m * 4 + i) := by rw [hF3 _ (by omega), hF2 _ (by omega), hA1 (m * 4 + i) (by omega), hF0 _ (by omega)]
    have e2 : I3 (q + 4) (m * 4 + i) = I (o + 4) (m * 4 + i) := by rw [hF3 _ (by omega), hA2 (m * 4 + i) (by omega), hF1 _ (by omega), hF0 _ (by omega)]
    have e3 : I3 (q + 6) (m * 4 + i) = I (o + 6) (m * 4 + i) := by rw [hA3 (m * 4 + i) (by omega), hF2 _ (by omega), hF1 _ (by omega), hF0 _ (by omega)]
    rw [e1, e2, e3]
    exact h3
theorem c_X4_become {z : pv_Z} {E : pv_E} {d bc bs : Nat} {J : pv_JT} {I : pv_IT} {mi : pv_MI} {pc idx : Nat} {lv : pv_LV} {st : List Value} {q o : Nat} {T : pv_T} (hd : decode mi.2.1 pc = .ok (.invokevirtual idx, 3)) (hlk : Cond.methodLink mi.1.cls idx mX4_become.1 ∈ pv_W) (hD : 2+1 ≤ d) (hq : pv_menus q) (ho : pv_menus o) (hl : cm I o T) (hdis : q + 7 ≤ o ∨ o + 7 ≤ q) (hcat : (st.map fun v => v.category).sum ≤ 8) (K : ∀ I' : pv_IT, cm I' q T → (∀ k0 : Nat, k0 < q ∨ q + 7 ≤ k0 → I' k0 = I k0) → pv_X z E d bc bs mi (pc + 3) lv (st) pv_K0 pv_P0 (I') (J)) : pv_X z E d bc bs mi pc lv (.ref (o) :: .ref (q) :: st) pv_K0 pv_P0 I J := by
  obtain ⟨d, rfl⟩ : ∃ d0, d = d0 + 1 := ⟨d - 1, by omega⟩
  have key := px_callV (bc := bc) (bs := bs) (bc1 := 0) (bs1 := 0) (as := [.ref (o)]) (E := E) (z := z) (lv := lv) hd mvX4_become hlk hq.1 (by decide) rfl hq.2.1 rfl rfl hcat (by exact Nat.le_of_ble_eq_true rfl) (s_X4_become (by omega) hq ho hl hdis K)
  rw [Nat.zero_add, Nat.zero_add] at key
  exact key
-- the whole ship
def sc (I : pv_IT) (q : Nat) (T : pv_T) : Prop := I q 0 = nI (T 404) ∧ I q 1 = nI (T 409) ∧ I q 2 = nI (T 410) ∧ I q 3 = nI (T 411) ∧ I q 4 = nI (T 412)
def CR (I : pv_IT) (q : Nat) (T : pv_T) (L : List pv_Lot) : Prop := sc I q T ∧ ck I (q + 1) T ∧ cs I (q + 14) T ∧ lt_c I (q + 19) L ∧ cp I (q + 28) T ∧ cm I (q + 35) T
theorem sc_of {I I' : pv_IT} {q : Nat} {T : pv_T} (h : sc I q T) (hF : I' q = I q) : sc I' q T := by unfold sc; rw [hF]; exact h
theorem sc_T {I : pv_IT} {q : Nat} {T T' : pv_T} (h : sc I q T) (hT : ∀ i, i = 404 ∨ (409 ≤ i ∧ i ≤ 412) → T' i = T i) : sc I q T' := by
  unfold sc
  rw [hT 404 (by omega), hT 409 (by omega), hT 410 (by omega), hT 411 (by omega), hT 412 (by omega)]
  exact h
theorem CR_of {I I' : pv_IT} {q : Nat} {T : pv_T} {L : List pv_Lot} (h : CR I q T L) (hF : ∀ k, q ≤ k → k < q + 42 → I' k = I k) : CR I' q T L :=
  ⟨sc_of h.1 (hF q (by omega) (by omega)), ck_of h.2.1 fun k h1 h2 => hF k (by omega) (by omega), cs_of h.2.2.1 fun k h1 h2 => hF k (by omega) (by omega), lt_of h.2.2.2.1 fun k h1 h2 => hF k (by omega) (by omega), cp_of h.2.2.2.2.1 fun k h1 h2 => hF k (by omega) (by omega), cm_of h.2.2.2.2.2 fun k h1 h2 => hF k (by omega) (by omega)⟩
set_option maxRecDepth 100000 in
set_option maxHeartbeats 4000000 in
theorem s_X7_become {Q : pv_Q} {E : pv_E} {d bc bs : Nat} {J : pv_JT} {I : pv_IT} {q o : Nat} {T : pv_T} {L : List pv_Lot} (hD : 3 ≤ d) (hq : pv_ship q) (ho : pv_ship o) (hl : CR I o T L) (hdis : q + 44 ≤ o ∨ o + 44 ≤ q) (h : ∀ I' : pv_IT, CR I' q T L → (∀ k0 : Nat, k0 < q ∨ q + 42 ≤ k0 → I' k0 = I k0) → Q (.inl none) pv_K0 pv_P0 (I') (J)) : pv_X (pv_ZQ E Q) E d bc bs mX7_become 0 [(0, .ref (q)), (1, .ref (o))] [] pv_K0 pv_P0 I J := by
  refine px_aload_n dX7_become_0 rfl ?_
  refine px_ifnonnull (tgt := 5) dX7_become_1 (by decide) ?_
  refine px_aload_n dX7_become_5 rfl ?_
  refine px_aload_n dX7_become_6 rfl ?_
  refine px_getI dX7_become_7 flX7_79 ho.1 (by decide) (by decide) rfl ho.2.1 ?_
  refine px_putI dX7_become_10 fwX7_79 hq.1 (by decide) (by decide) rfl hq.2.1 ?_
  refine px_aload_n dX7_become_13 rfl ?_
  refine px_aload_n dX7_become_14 rfl ?_
  refine px_getI dX7_become_15 flX7_9 ho.1 (by decide) (by decide) rfl ho.2.1 ?_
  refine px_putI dX7_become_18 fwX7_9 hq.1 (by decide) (by decide) rfl hq.2.1 ?_
  refine px_aload_n dX7_become_21 rfl ?_
  refine px_aload_n dX7_become_22 rfl ?_
  refine px_getI dX7_become_23 flX7_15 ho.1 (by decide) (by decide) rfl ho.2.1 ?_
  refine px_putI dX7_become_26 fwX7_15 hq.1 (by decide) (by decide) rfl hq.2.1 ?_
  refine px_aload_n dX7_become_29 rfl ?_
  refine px_aload_n dX7_become_30 rfl ?_
  refine px_getI dX7_become_31 flX7_97 ho.1 (by decide) (by decide) rfl ho.2.1 ?_
  refine px_putI dX7_become_34 fwX7_97 hq.1 (by decide) (by decide) rfl hq.2.1 ?_
  refine px_aload_n dX7_become_37 rfl ?_
  refine px_aload_n dX7_become_38 rfl ?_
  refine px_getI dX7_become_39 flX7_160 ho.1 (by decide) (by decide) rfl ho.2.1 ?_
  refine px_putI dX7_become_42 fwX7_160 hq.1 (by decide) (by decide) rfl hq.2.1 ?_
  refine px_aload_n dX7_become_45 rfl ?_
  refine px_getR dX7_become_46 flX7_21 hq.1 (by decide) (by decide) rfl hq.2.1 hq.2.2.1.1 ?_
  refine px_aload_n dX7_become_49 rfl ?_
  refine px_getR dX7_become_50 flX7_21 ho.1 (by decide) (by decide) rfl ho.2.1 ho.2.2.1.1 ?_
  generalize hI0 : pv_uI (pv_uI (pv_uI (pv_uI (pv_uI I q 0 _) q 1 _) q 2 _) q 3 _) q 4 _ = I0
  have hA0 : I0 q 0 = I o 0 ∧ I0 q 1 = I o 1 ∧ I0 q 2 = I o 2 ∧ I0 q 3 = I o 3 ∧ I0 q 4 = I o 4 := by
    rw [← hI0]
    have hne : o ≠ q := by omega
    refine ⟨?_, ?_, ?_, ?_, ?_⟩ <;> simp [pv_uI_at, hne]
  have hF0 : ∀ k, k ≠ q → I0 k = I k := fun k hk => by rw [← hI0, pv_uI_ne hk, pv_uI_ne hk, pv_uI_ne hk, pv_uI_ne hk, pv_uI_ne hk]
  refine c_X1_become dX7_become_53 mlX7_196 (by omega) hq.2.2.1.2 ho.2.2.1.2 (ck_of hl.2.1 fun k h1 h2 => by rw [hF0 _ (by omega)]) (by omega) (Nat.le_of_ble_eq_true rfl) (fun I1 hA1 hF1 => ?_)
  refine px_aload_n dX7_become_56 rfl ?_
  refine px_getR dX7_become_57 flX7_28 hq.1 (by decide) (by decide) rfl hq.2.1 hq.2.2.2.1.1 ?_
  refine px_aload_n dX7_become_60 rfl ?_
  refine px_getR dX7_become_61 flX7_28 ho.1 (by decide) (by decide) rfl ho.2.1 ho.2.2.2.1.1 ?_
  refine c_X8_become dX7_become_64 mlX7_200 (by omega) hq.2.2.2.1.2 ho.2.2.2.1.2 (cs_of hl.2.2.1 fun k h1 h2 => by rw [hF1 _ (by omega), hF0 _ (by omega)]) (by omega) (Nat.le_of_ble_eq_true rfl) (fun I2 hA2 hF2 => ?_)
  refine px_aload_n dX7_become_67 rfl ?_
  refine px_getR dX7_become_68 flX7_35 hq.1 (by decide) (by decide) rfl hq.2.1 hq.2.2.2.2.1.1 ?_
  refine px_aload_n dX7_become_71 rfl ?_
  refine px_getR dX7_become_72 flX7_35 ho.1 (by decide) (by decide) rfl ho.2.1 ho.2.2.2.2.1.1 ?_
  refine c_X2_become dX7_become_75 mlX7_203 (by omega) hq.2.2.2.2.1.2 ho.2.2.2.2.1.2 (lt_of hl.2.2.2.1 fun k h1 h2 => by rw [hF2 _ (by omega), hF1 _ (by omega), hF0 _ (by omega)]) (by omega) (Nat.le_of_ble_eq_true rfl) (fun I3 hA3 hF3 => ?_)
  refine px_aload_n dX7_become_78 rfl ?_
  refine px_getR dX7_become_79 flX7_42 hq.1 (by decide) (by decide) rfl hq.2.1 hq.2.2.2.2.2.1.1 ?_
  refine px_aload_n dX7_become_82 rfl ?_
  refine px_getR dX7_become_83 flX7_42 ho.1 (by decide) (by decide) rfl ho.2.1 ho.2.2.2.2.2.1.1 ?_
  refine c_X5_become dX7_become_86 mlX7_206 (by omega) hq.2.2.2.2.2.1.2 ho.2.2.2.2.2.1.2 (cp_of hl.2.2.2.2.1 fun k h1 h2 => by rw [hF3 _ (by omega), hF2 _ (by omega), hF1 _ (by omega), hF0 _ (by omega)]) (by omega) (Nat.le_of_ble_eq_true rfl) (fun I4 hA4 hF4 => ?_)
  refine px_aload_n dX7_become_89 rfl ?_
  refine px_getR dX7_become_90 flX7_49 hq.1 (by decide) (by decide) rfl hq.2.1 hq.2.2.2.2.2.2.1.1 ?_
  refine px_aload_n dX7_become_93 rfl ?_
  refine px_getR dX7_become_94 flX7_49 ho.1 (by decide) (by decide) rfl ho.2.1 ho.2.2.2.2.2.2.1.1 ?_
  refine c_X4_become dX7_become_97 mlX7_209 (by omega) hq.2.2.2.2.2.2.1.2 ho.2.2.2.2.2.2.1.2 (cm_of hl.2.2.2.2.2 fun k h1 h2 => by rw [hF4 _ (by omega), hF3 _ (by omega), hF2 _ (by omega), hF1 _ (by omega), hF0 _ (by omega)]) (by omega) (Nat.le_of_ble_eq_true rfl) (fun I5 hA5 hF5 => ?_)
  refine px_vret dX7_become_100 rfl (Or.inl rfl) (h I5 ⟨?_, ck_of hA1 (fun k h1 h2 => by rw [hF5 _ (by omega), hF4 _ (by omega), hF3 _ (by omega), hF2 _ (by omega)]), cs_of hA2 (fun k h1 h2 => by rw [hF5 _ (by omega), hF4 _ (by omega), hF3 _ (by omega)]), lt_of hA3 (fun k h1 h2 => by rw [hF5 _ (by omega), hF4 _ (by omega)]), cp_of hA4 (fun k h1 h2 => by rw [hF5 _ (by omega)]), hA5⟩ (fun k hk => by rw [hF5 _ (by omega), hF4 _ (by omega), hF3 _ (by omega), hF2 _ (by omega), hF1 _ (by omega), hF0 _ (by omega)]))
  have h1 := hl.1
  unfold sc at h1 ⊢
  rw [hF5 _ (by omega), hF4 _ (by omega), hF3 _ (by omega), hF2 _ (by omega), hF1 _ (by omega), hA0.1, hA0.2.1, hA0.2.2.1, hA0.2.2.2.1, hA0.2.2.2.2]
  exact h1
theorem c_X7_become {z : pv_Z} {E : pv_E} {d bc bs : Nat} {J : pv_JT} {I : pv_IT} {mi : pv_MI} {pc idx : Nat} {lv : pv_LV} {st : List Value} {q o : Nat} {T : pv_T} {L : List pv_Lot} (hd : decode mi.2.1 pc = .ok (.invokevirtual idx, 3)) (hlk : Cond.methodLink mi.1.cls idx mX7_become.1 ∈ pv_W) (hD : 3+1 ≤ d) (hq : pv_ship q) (ho : pv_ship o) (hl : CR I o T L) (hdis : q + 44 ≤ o ∨ o + 44 ≤ q) (hcat : (st.map fun v => v.category).sum ≤ 8) (K : ∀ I' : pv_IT, CR I' q T L → (∀ k0 : Nat, k0 < q ∨ q + 42 ≤ k0 → I' k0 = I k0) → pv_X z E d bc bs mi (pc + 3) lv (st) pv_K0 pv_P0 (I') (J)) : pv_X z E d bc bs mi pc lv (.ref (o) :: .ref (q) :: st) pv_K0 pv_P0 I J := by
  obtain ⟨d, rfl⟩ : ∃ d0, d = d0 + 1 := ⟨d - 1, by omega⟩
  have key := px_callV (bc := bc) (bs := bs) (bc1 := 0) (bs1 := 0) (as := [.ref (o)]) (E := E) (z := z) (lv := lv) hd mvX7_become hlk hq.1 (by decide) rfl hq.2.1 rfl rfl hcat (by exact Nat.le_of_ble_eq_true rfl) (s_X7_become (by omega) hq ho hl hdis K)
  rw [Nat.zero_add, Nat.zero_add] at key
  exact key
