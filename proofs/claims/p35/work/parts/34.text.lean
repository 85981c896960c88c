/-! The class: the reader of menus. -/
theorem cN_isWithin {z : pv_Z} {E : pv_E} {d bc bs : Nat} {J : pv_JT} {I : pv_IT} {mi : pv_MI} {pc idx : Nat} {lv : pv_LV} {st : List Value} {x a b : Int32} (hd : decode mi.2.1 pc = .ok (.invokestatic idx, 3)) (hlk : (mi.1.cls, idx, mX9_isWithin.1) ∈ pv_nest) (hD : 0+1 ≤ d)  (hcat : (st.map fun v => v.category).sum ≤ 8) (K : pv_X z E d bc bs mi (pc + 3) lv ((.int (nI (pv_bl (a ≤ x ∧ x ≤ b)))) :: st) pv_K0 pv_P0 (I) (J)) : pv_X z E d bc bs mi pc lv (.int (b) :: .int (a) :: .int (x) :: st) pv_K0 pv_P0 I J := by
  obtain ⟨d, rfl⟩ : ∃ d0, d = d0 + 1 := ⟨d - 1, by omega⟩
  have key := px_callSN (bc := bc) (bs := bs) (bc1 := 0) (bs1 := 0) (as := [.int (x), .int (a), .int (b)]) (E := E) (z := z) (lv := lv) hd msX9_isWithin hlk rfl rfl hcat (by exact Nat.le_of_ble_eq_true rfl) (s_X9_isWithin (by omega)  K)
  rw [Nat.zero_add, Nat.zero_add] at key
  exact key
set_option maxRecDepth 100000 in
set_option maxHeartbeats 4000000 in
theorem s_I_max {Q : pv_Q} {E : pv_E} {d bc bs : Nat} {J : pv_JT} {I : pv_IT} {x y : Int32} (hD : 0 ≤ d)  (h : Q (.inl (some (.int (if x < y then y else x)))) pv_K0 pv_P0 (I) (J)) : pv_X (pv_ZQ E Q) E d bc bs mJ9_max_7cf53 0 [(0, .int (x)), (1, .int (y))] [] pv_K0 pv_P0 I J := by
  refine px_iload_n dJ9_max_7cf53_0 rfl ?_
  refine px_iload_n dJ9_max_7cf53_1 rfl ?_
  refine px_icmp_lt (tgt := 9) dJ9_max_7cf53_2 (by decide) (fun h0 => ?_) (fun h0 => ?_)
  · refine px_iload_n dJ9_max_7cf53_9 rfl ?_
    exact px_iret dJ9_max_7cf53_10 rfl (Or.inl rfl) (by rw [if_pos h0] at h; exact h)
  · refine px_iload_n dJ9_max_7cf53_5 rfl ?_
    refine px_goto (tgt := 10) dJ9_max_7cf53_6 (by decide) ?_
    exact px_iret dJ9_max_7cf53_10 rfl (Or.inl rfl) (by rw [if_neg h0] at h; exact h)
theorem c_I_max {z : pv_Z} {E : pv_E} {d bc bs : Nat} {J : pv_JT} {I : pv_IT} {mi : pv_MI} {pc idx : Nat} {lv : pv_LV} {st : List Value} {x y : Int32} (hd : decode mi.2.1 pc = .ok (.invokestatic idx, 3)) (hlk : Cond.methodLink mi.1.cls idx mJ9_max_7cf53.1 ∈ pv_W) (hD : 0+1 ≤ d)  (hcat : (st.map fun v => v.category).sum ≤ 8) (K : pv_X z E d bc bs mi (pc + 3) lv ((.int (if x < y then y else x)) :: st) pv_K0 pv_P0 (I) (J)) : pv_X z E d bc bs mi pc lv (.int (y) :: .int (x) :: st) pv_K0 pv_P0 I J := by
  obtain ⟨d, rfl⟩ : ∃ d0, d = d0 + 1 := ⟨d - 1, by omega⟩
  have key := px_callS (bc := bc) (bs := bs) (bc1 := 0) (bs1 := 0) (as := [.int (x), .int (y)]) (E := E) (z := z) (lv := lv) hd msJ9_max_7cf53 hlk rfl rfl hcat (by exact Nat.le_of_ble_eq_true rfl) (s_I_max (by omega)  K)
  rw [Nat.zero_add, Nat.zero_add] at key
  exact key
set_option maxRecDepth 100000 in
set_option maxHeartbeats 4000000 in
theorem s_X3_comesTo {Q : pv_Q} {E : pv_E} {d bc bs : Nat} {J : pv_JT} {I : pv_IT} {p : Nat} (hD : 0 ≤ d)  (h : Q (.inl (some (.int (nI 1)))) pv_K0 pv_P0 (pv_uI I 355 4 (nI p)) (J)) : pv_X (pv_ZQ E Q) E d bc bs mX3_comesTo 0 [(0, .ref (355)), (1, .int (nI (p)))] [] pv_K0 pv_P0 I J := by
  refine px_aload_n dX3_comesTo_0 rfl ?_
  refine px_iload_n dX3_comesTo_1 rfl ?_
  refine px_putI dX3_comesTo_2 fwX3_34 pv_s_text (by decide) (by decide) rfl pv_k_text ?_
  refine px_iconst (v := nI 1) dX3_comesTo_5 (by decide) ?_
  exact px_zret dX3_comesTo_6 rfl rfl (Or.inl rfl) (h)
theorem c_X3_comesTo {z : pv_Z} {E : pv_E} {d bc bs : Nat} {J : pv_JT} {I : pv_IT} {mi : pv_MI} {pc idx : Nat} {lv : pv_LV} {st : List Value} {p : Nat} (hd : decode mi.2.1 pc = .ok (.invokevirtual idx, 3)) (hlk : Cond.methodLink mi.1.cls idx mX3_comesTo.1 ∈ pv_W) (hD : 0+1 ≤ d)  (hcat : (st.map fun v => v.category).sum ≤ 8) (K : pv_X z E d bc bs mi (pc + 3) lv ((.int (nI 1)) :: st) pv_K0 pv_P0 (pv_uI I 355 4 (nI p)) (J)) : pv_X z E d bc bs mi pc lv (.int (nI (p)) :: .ref (355) :: st) pv_K0 pv_P0 I J := by
  obtain ⟨d, rfl⟩ : ∃ d0, d = d0 + 1 := ⟨d - 1, by omega⟩
  have key := px_callV (bc := bc) (bs := bs) (bc1 := 0) (bs1 := 0) (as := [.int (nI (p))]) (E := E) (z := z) (lv := lv) hd mvX3_comesTo hlk pv_s_text (by decide) rfl pv_k_text rfl rfl hcat (by exact Nat.le_of_ble_eq_true rfl) (s_X3_comesTo (by omega)  K)
  rw [Nat.zero_add, Nat.zero_add] at key
  exact key
set_option maxRecDepth 100000 in
set_option maxHeartbeats 4000000 in
theorem s_X3_slot {Q : pv_Q} {E : pv_E} {d bc bs : Nat} {J : pv_JT} {I : pv_IT} {m t : Nat} (hD : 1 ≤ d) (h1 : I 358 0 = nI (m + 1)) (h2 : I 355 5 = nI t) (hm : m ≤ 9) (h : Q (.inl (some (.int (nI (m * 4 + t))))) pv_K0 pv_P0 (I) (J)) : pv_X (pv_ZQ E Q) E d bc bs mX3_slot 0 [(0, .ref (355))] [] pv_K0 pv_P0 I J := by
  have hm9 := hm
  refine px_aload_n dX3_slot_0 rfl ?_
  refine px_getR dX3_slot_1 flX3_23 pv_s_text (by decide) (by decide) rfl pv_k_text pv_p_355_2 ?_
  refine px_aload_n dX3_slot_4 rfl ?_
  refine px_getR dX3_slot_5 flX3_23 pv_s_text (by decide) (by decide) rfl pv_k_text pv_p_355_2 ?_
  refine px_getI dX3_slot_8 flX3_97 pv_menus_358.1 (by decide) (by decide) rfl pv_menus_358.2.1 ?_
  refine px_iv (y := nI ((m + 1))) (h1) ?_
  refine px_iconst (v := nI 1) dX3_slot_11 (by decide) ?_
  refine px_isubN (by omega) dX3_slot_12 ?_
  refine px_aload_n dX3_slot_13 rfl ?_
  refine px_getI dX3_slot_14 flX3_37 pv_s_text (by decide) (by decide) rfl pv_k_text ?_
  refine px_iv (y := nI (t)) (h2) ?_
  refine c_X4_slot dX3_slot_17 mlX3_100 (by omega) pv_menus_358 (Nat.le_of_ble_eq_true rfl) ?_
  rw [show m + 1 - 1 = m by omega]
  exact px_iret dX3_slot_20 rfl (Or.inl rfl) (h)
theorem c_X3_slot {z : pv_Z} {E : pv_E} {d bc bs : Nat} {J : pv_JT} {I : pv_IT} {mi : pv_MI} {pc idx : Nat} {lv : pv_LV} {st : List Value} {m t : Nat} (hd : decode mi.2.1 pc = .ok (.invokevirtual idx, 3)) (hlk : Cond.methodLink mi.1.cls idx mX3_slot.1 ∈ pv_W) (hD : 1+1 ≤ d) (h1 : I 358 0 = nI (m + 1)) (h2 : I 355 5 = nI t) (hm : m ≤ 9) (hcat : (st.map fun v => v.category).sum ≤ 8) (K : pv_X z E d bc bs mi (pc + 3) lv ((.int (nI (m * 4 + t))) :: st) pv_K0 pv_P0 (I) (J)) : pv_X z E d bc bs mi pc lv (.ref (355) :: st) pv_K0 pv_P0 I J := by
  obtain ⟨d, rfl⟩ : ∃ d0, d = d0 + 1 := ⟨d - 1, by omega⟩
  have key := px_callV (bc := bc) (bs := bs) (bc1 := 0) (bs1 := 0) (as := []) (E := E) (z := z) (lv := lv) hd mvX3_slot hlk pv_s_text (by decide) rfl pv_k_text rfl rfl hcat (by exact Nat.le_of_ble_eq_true rfl) (s_X3_slot (by omega) h1 h2 hm K)
  rw [Nat.zero_add, Nat.zero_add] at key
  exact key
theorem pu_c {c a b : Nat} (hc : c < 2147483648) (ha : a < 2147483648) (hb : b < 2147483648) : (nI a ≤ nI c ∧ nI c ≤ nI b) ↔ (a ≤ c ∧ c ≤ b) := by
  rw [nI_leI ha hc, nI_leI hc hb]
set_option maxRecDepth 100000 in
set_option maxHeartbeats 4000000 in
theorem s_X3_acceptsKind {Q : pv_Q} {E : pv_E} {d bc bs : Nat} {J : pv_JT} {I : pv_IT} {Z : pv_Zp} {c : Nat} (hD : 2 ≤ d) (hP : PC I Z) (hz : PZ Z) (hc9 : c < 200) (hp : Z.1 = 0 ∨ Z.1 = 2) (h : (∀ Z', pz_item Z c = some Z' → ∀ I' : pv_IT, PC I' Z' → FT I I' → Q (.inl (some (.int (nI 1)))) pv_K0 pv_P0 (I') (J)) ∧ (pz_item Z c = none → Q (.inl (some (.int (nI 0)))) pv_K0 pv_P0 (I) (J))) : pv_X (pv_ZQ E Q) E d bc bs mX3_acceptsKind 0 [(0, .ref (355)), (1, .int (nI (c)))] [] pv_K0 pv_P0 I J := by
  have z3 := hz.2.2.1
  have z2 := hz.2.1
  have z4 := hz.2.2.2.1
  refine px_iload_n dX3_acceptsKind_0 rfl ?_
  refine px_bipush (v := nI 48) dX3_acceptsKind_1 (by decide) ?_
  refine px_bipush (v := nI 55) dX3_acceptsKind_3 (by decide) ?_
  refine cN_isWithin dX3_acceptsKind_5 (by decide) (by omega)  (Nat.le_of_ble_eq_true rfl) ?_
  by_cases hc : 48 ≤ c ∧ c ≤ 55
  · rw [pv_bl1 ((pu_c (by omega) (by omega) (by omega)).mpr hc)]
    refine px_if_neN (tgt := 13) dX3_acceptsKind_8 (by decide) (by omega) (fun _ => ?_) (fun h0 => absurd h0 (by omega))
    refine px_aload_n dX3_acceptsKind_13 rfl ?_
    refine px_getR dX3_acceptsKind_14 flX3_23 pv_s_text (by decide) (by decide) rfl pv_k_text pv_p_355_2 ?_
    refine px_getR dX3_acceptsKind_17 flX3_74 pv_menus_358.1 (by decide) (by decide) rfl pv_menus_358.2.1 pv_menus_358.2.2.1.1 ?_
    refine px_aload_n dX3_acceptsKind_20 rfl ?_
    refine c_X3_slot dX3_acceptsKind_21 mlX3_77 (by omega) (m := Z.2.1) (t := Z.2.2.1) hP.2.2.2.1 hP.2.2.1 hz.2.1 (Nat.le_of_ble_eq_true rfl) ?_
    refine px_iload_n dX3_acceptsKind_24 rfl ?_
    refine px_bipush (v := nI 48) dX3_acceptsKind_25 (by decide) ?_
    refine px_isubN (by omega) dX3_acceptsKind_27 ?_
    refine c_X6_put dX3_acceptsKind_28 mlX3_81 (by omega) (j := (Z.2.1 * 4 + Z.2.2.1)) pv_menus_358.2.2.1.2 (by omega) (Nat.le_of_ble_eq_true rfl) ?_
    refine px_aload_n dX3_acceptsKind_31 rfl ?_
    refine px_getR dX3_acceptsKind_32 flX3_23 pv_s_text (by decide) (by decide) rfl pv_k_text pv_p_355_2 ?_
    refine px_getR dX3_acceptsKind_35 flX3_85 pv_menus_358.1 (by decide) (by decide) rfl pv_menus_358.2.1 pv_menus_358.2.2.2.2.1 ?_
    refine px_aload_n dX3_acceptsKind_38 rfl ?_
    refine c_X3_slot dX3_acceptsKind_39 mlX3_77 (by omega) (m := Z.2.1) (t := Z.2.2.1) (Eq.trans (by simp only [pv_uI_at]; repeat' (first | rfl | omega | split)) (hP.2.2.2.1)) (Eq.trans (by simp only [pv_uI_at]; repeat' (first | rfl | omega | split)) (hP.2.2.1)) hz.2.1 (Nat.le_of_ble_eq_true rfl) ?_
    refine px_iconst (v := -1) dX3_acceptsKind_42 (by decide) ?_
    refine c_X6_put dX3_acceptsKind_43 mlX3_81 (by omega) (j := (Z.2.1 * 4 + Z.2.2.1)) pv_menus_358.2.2.2.2.2 (by omega) (Nat.le_of_ble_eq_true rfl) ?_
    refine px_aload_n dX3_acceptsKind_46 rfl ?_
    refine px_aload_n dX3_acceptsKind_47 rfl ?_
    refine px_getI dX3_acceptsKind_48 flX3_30 pv_s_text (by decide) (by decide) rfl pv_k_text ?_
    refine px_iv (y := nI Z.2.2.2.1 - nI 1) (Eq.trans (by simp only [pv_uI_at]; repeat' (first | rfl | omega | split)) hP.1) ?_
    refine px_iload_n dX3_acceptsKind_51 rfl ?_
    refine px_bipush (v := nI 48) dX3_acceptsKind_52 (by decide) ?_
    refine px_isubN (by omega) dX3_acceptsKind_54 ?_
    refine c_I_max dX3_acceptsKind_55 mlX3_88 (by omega)  (Nat.le_of_ble_eq_true rfl) ?_
    rw [pn_max z4 (by omega)]
    refine px_putI dX3_acceptsKind_58 fwX3_30 pv_s_text (by decide) (by decide) rfl pv_k_text ?_
    refine px_aload_n dX3_acceptsKind_61 rfl ?_
    refine px_iconst (v := nI 3) dX3_acceptsKind_62 (by decide) ?_
    refine c_X3_comesTo dX3_acceptsKind_63 mlX3_51 (by omega)  (Nat.le_of_ble_eq_true rfl) ?_
    exact px_zret dX3_acceptsKind_66 rfl rfl (Or.inl rfl) (h.1 _ (if_pos hc) _ (PC_item hP hz hp hc) (FT_u (FT_u (FT_u (FT_u (FT_r I) (by omega)) (by omega)) (by omega)) (by omega)))
  · rw [pv_bl0 (fun z => hc ((pu_c (by omega) (by omega) (by omega)).mp z))]
    refine px_if_neN (tgt := 13) dX3_acceptsKind_8 (by decide) (by omega) (fun h0 => absurd h0 (by omega)) (fun _ => ?_)
    refine px_iconst (v := nI 0) dX3_acceptsKind_11 (by decide) ?_
    exact px_zret dX3_acceptsKind_12 rfl rfl (Or.inl rfl) (h.2 (if_neg hc))
theorem c_X3_acceptsKind {z : pv_Z} {E : pv_E} {d bc bs : Nat} {J : pv_JT} {I : pv_IT} {mi : pv_MI} {pc idx : Nat} {lv : pv_LV} {st : List Value} {Z : pv_Zp} {c : Nat} (hd : decode mi.2.1 pc = .ok (.invokevirtual idx, 3)) (hlk : Cond.methodLink mi.1.cls idx mX3_acceptsKind.1 ∈ pv_W) (hD : 2+1 ≤ d) (hP : PC I Z) (hz : PZ Z) (hc9 : c < 200) (hp : Z.1 = 0 ∨ Z.1 = 2) (hcat : (st.map fun v => v.category).sum ≤ 8) (K : (∀ Z', pz_item Z c = some Z' → ∀ I' : pv_IT, PC I' Z' → FT I I' → pv_X z E d bc bs mi (pc + 3) lv ((.int (nI 1)) :: st) pv_K0 pv_P0 (I') (J)) ∧ (pz_item Z c = none → pv_X z E d bc bs mi (pc + 3) lv ((.int (nI 0)) :: st) pv_K0 pv_P0 (I) (J))) : pv_X z E d bc bs mi pc lv (.int (nI (c)) :: .ref (355) :: st) pv_K0 pv_P0 I J := by
  obtain ⟨d, rfl⟩ : ∃ d0, d = d0 + 1 := ⟨d - 1, by omega⟩
  have key := px_callV (bc := bc) (bs := bs) (bc1 := 0) (bs1 := 0) (as := [.int (nI (c))]) (E := E) (z := z) (lv := lv) hd mvX3_acceptsKind hlk pv_s_text (by decide) rfl pv_k_text rfl rfl hcat (by exact Nat.le_of_ble_eq_true rfl) (s_X3_acceptsKind (by omega) hP hz hc9 hp K)
  rw [Nat.zero_add, Nat.zero_add] at key
  exact key
set_option maxRecDepth 100000 in
set_option maxHeartbeats 4000000 in
theorem s_X3_acceptsAmount {Q : pv_Q} {E : pv_E} {d bc bs : Nat} {J : pv_JT} {I : pv_IT} {Z : pv_Zp} {c : Nat} (hD : 2 ≤ d) (hP : PC I Z) (hz : PZ Z) (hc9 : c < 200) (hp : Z.1 = 4) (h : (∀ Z', pz_amt Z c = some Z' → ∀ I' : pv_IT, PC I' Z' → FT I I' → Q (.inl (some (.int (nI 1)))) pv_K0 pv_P0 (I') (J)) ∧ (pz_amt Z c = none → Q (.inl (some (.int (nI 0)))) pv_K0 pv_P0 (I) (J))) : pv_X (pv_ZQ E Q) E d bc bs mX3_acceptsAmount 0 [(0, .ref (355)), (1, .int (nI (c)))] [] pv_K0 pv_P0 I J := by
  have z3 := hz.2.2.1
  have z2 := hz.2.1
  refine px_iload_n dX3_acceptsAmount_0 rfl ?_
  refine px_bipush (v := nI 49) dX3_acceptsAmount_1 (by decide) ?_
  refine px_bipush (v := nI 57) dX3_acceptsAmount_3 (by decide) ?_
  refine cN_isWithin dX3_acceptsAmount_5 (by decide) (by omega)  (Nat.le_of_ble_eq_true rfl) ?_
  by_cases hc : 49 ≤ c ∧ c ≤ 57
  · rw [pv_bl1 ((pu_c (by omega) (by omega) (by omega)).mpr hc)]
    refine px_if_neN (tgt := 13) dX3_acceptsAmount_8 (by decide) (by omega) (fun _ => ?_) (fun h0 => absurd h0 (by omega))
    refine px_aload_n dX3_acceptsAmount_13 rfl ?_
    refine px_getR dX3_acceptsAmount_14 flX3_23 pv_s_text (by decide) (by decide) rfl pv_k_text pv_p_355_2 ?_
    refine px_getR dX3_acceptsAmount_17 flX3_94 pv_menus_358.1 (by decide) (by decide) rfl pv_menus_358.2.1 pv_menus_358.2.2.2.1.1 ?_
    refine px_aload_n dX3_acceptsAmount_20 rfl ?_
    refine c_X3_slot dX3_acceptsAmount_21 mlX3_77 (by omega) (m := Z.2.1) (t := Z.2.2.1) hP.2.2.2.1 hP.2.2.1 hz.2.1 (Nat.le_of_ble_eq_true rfl) ?_
    refine px_iload_n dX3_acceptsAmount_24 rfl ?_
    refine px_bipush (v := nI 48) dX3_acceptsAmount_25 (by decide) ?_
    refine px_isubN (by omega) dX3_acceptsAmount_27 ?_
    refine c_X6_put dX3_acceptsAmount_28 mlX3_81 (by omega) (j := (Z.2.1 * 4 + Z.2.2.1)) pv_menus_358.2.2.2.1.2 (by omega) (Nat.le_of_ble_eq_true rfl) ?_
    refine px_aload_n dX3_acceptsAmount_31 rfl ?_
    refine px_iconst (v := nI 5) dX3_acceptsAmount_32 (by decide) ?_
    refine c_X3_comesTo dX3_acceptsAmount_33 mlX3_51 (by omega)  (Nat.le_of_ble_eq_true rfl) ?_
    exact px_zret dX3_acceptsAmount_36 rfl rfl (Or.inl rfl) (h.1 _ (if_pos hc) _ (PC_amt hP hz hp hc) (FT_u (FT_u (FT_r I) (by omega)) (by omega)))
  · rw [pv_bl0 (fun z => hc ((pu_c (by omega) (by omega) (by omega)).mp z))]
    refine px_if_neN (tgt := 13) dX3_acceptsAmount_8 (by decide) (by omega) (fun h0 => absurd h0 (by omega)) (fun _ => ?_)
    refine px_iconst (v := nI 0) dX3_acceptsAmount_11 (by decide) ?_
    exact px_zret dX3_acceptsAmount_12 rfl rfl (Or.inl rfl) (h.2 (if_neg hc))
theorem c_X3_acceptsAmount {z : pv_Z} {E : pv_E} {d bc bs : Nat} {J : pv_JT} {I : pv_IT} {mi : pv_MI} {pc idx : Nat} {lv : pv_LV} {st : List Value} {Z : pv_Zp} {c : Nat} (hd : decode mi.2.1 pc = .ok (.invokevirtual idx, 3)) (hlk : Cond.methodLink mi.1.cls idx mX3_acceptsAmount.1 ∈ pv_W) (hD : 2+1 ≤ d) (hP : PC I Z) (hz : PZ Z) (hc9 : c < 200) (hp : Z.1 = 4) (hcat : (st.map fun v => v.category).sum ≤ 8) (K : (∀ Z', pz_amt Z c = some Z' → ∀ I' : pv_IT, PC I' Z' → FT I I' → pv_X z E d bc bs mi (pc + 3) lv ((.int (nI 1)) :: st) pv_K0 pv_P0 (I') (J)) ∧ (pz_amt Z c = none → pv_X z E d bc bs mi (pc + 3) lv ((.int (nI 0)) :: st) pv_K0 pv_P0 (I) (J))) : pv_X z E d bc bs mi pc lv (.int (nI (c)) :: .ref (355) :: st) pv_K0 pv_P0 I J := by
  obtain ⟨d, rfl⟩ : ∃ d0, d = d0 + 1 := ⟨d - 1, by omega⟩
  have key := px_callV (bc := bc) (bs := bs) (bc1 := 0) (bs1 := 0) (as := [.int (nI (c))]) (E := E) (z := z) (lv := lv) hd mvX3_acceptsAmount hlk pv_s_text (by decide) rfl pv_k_text rfl rfl hcat (by exact Nat.le_of_ble_eq_true rfl) (s_X3_acceptsAmount (by omega) hP hz hc9 hp K)
  rw [Nat.zero_add, Nat.zero_add] at key
  exact key
set_option maxRecDepth 100000 in
set_option maxHeartbeats 4000000 in
theorem s_X3_acceptsSubstitute {Q : pv_Q} {E : pv_E} {d bc bs : Nat} {J : pv_JT} {I : pv_IT} {Z : pv_Zp} {c : Nat} (hD : 2 ≤ d) (hP : PC I Z) (hz : PZ Z) (hc9 : c < 200) (hp : Z.1 = 6) (h : (∀ Z', pz_sub Z c = some Z' → ∀ I' : pv_IT, PC I' Z' → FT I I' → Q (.inl (some (.int (nI 1)))) pv_K0 pv_P0 (I') (J)) ∧ (pz_sub Z c = none → Q (.inl (some (.int (nI 0)))) pv_K0 pv_P0 (I) (J))) : pv_X (pv_ZQ E Q) E d bc bs mX3_acceptsSubstitute 0 [(0, .ref (355)), (1, .int (nI (c)))] [] pv_K0 pv_P0 I J := by
  have z3 := hz.2.2.1
  have z2 := hz.2.1
  have z4 := hz.2.2.2.1
  have z5 : Z.2.2.2.2 (120 + Z.2.1) = Z.2.2.1 + 1 := by rw [hz.2.2.2.2.1, if_pos (by omega)]
  have hin := (hz.2.2.2.2.2.2.1 Z.2.1 (Nat.le_refl _)).2 Z.2.2.1 (by omega)
  have hcell := (hP.2.2.2.2.1 Z.2.1 (Nat.le_refl _) Z.2.2.1 (by omega)).1 (by omega)
  unfold pz_in at hin
  refine px_iload_n dX3_acceptsSubstitute_0 rfl ?_
  refine px_bipush (v := nI 48) dX3_acceptsSubstitute_1 (by decide) ?_
  refine px_bipush (v := nI 55) dX3_acceptsSubstitute_3 (by decide) ?_
  refine cN_isWithin dX3_acceptsSubstitute_5 (by decide) (by omega)  (Nat.le_of_ble_eq_true rfl) ?_
  by_cases hc : 48 ≤ c ∧ c ≤ 55
  · rw [pv_bl1 ((pu_c (by omega) (by omega) (by omega)).mpr hc)]
    refine px_if_eqN (tgt := 32) dX3_acceptsSubstitute_8 (by decide) (by omega) (fun h0 => absurd h0 (by omega)) (fun _ => ?_)
    refine px_iload_n dX3_acceptsSubstitute_11 rfl ?_
    refine px_bipush (v := nI 48) dX3_acceptsSubstitute_12 (by decide) ?_
    refine px_isubN (by omega) dX3_acceptsSubstitute_14 ?_
    refine px_aload_n dX3_acceptsSubstitute_15 rfl ?_
    refine px_getR dX3_acceptsSubstitute_16 flX3_23 pv_s_text (by decide) (by decide) rfl pv_k_text pv_p_355_2 ?_
    refine px_getR dX3_acceptsSubstitute_19 flX3_74 pv_menus_358.1 (by decide) (by decide) rfl pv_menus_358.2.1 pv_menus_358.2.2.1.1 ?_
    refine px_aload_n dX3_acceptsSubstitute_22 rfl ?_
    refine c_X3_slot dX3_acceptsSubstitute_23 mlX3_77 (by omega) (m := Z.2.1) (t := Z.2.2.1) hP.2.2.2.1 hP.2.2.1 hz.2.1 (Nat.le_of_ble_eq_true rfl) ?_
    refine c_X6_at dX3_acceptsSubstitute_26 mlX3_43 (by omega) (j := (Z.2.1 * 4 + Z.2.2.1)) pv_menus_358.2.2.1.2 (by omega) (Nat.le_of_ble_eq_true rfl) ?_
    refine px_iv (y := nI (Z.2.2.2.2 (12 * Z.2.1 + 3 * Z.2.2.1))) (hcell.1) ?_
    refine px_icmp_neN (tgt := 34) dX3_acceptsSubstitute_29 (by decide) (by omega) (by omega) (fun h5 => ?_) (fun h5 => ?_)
    · refine px_aload_n dX3_acceptsSubstitute_34 rfl ?_
      refine px_getR dX3_acceptsSubstitute_35 flX3_23 pv_s_text (by decide) (by decide) rfl pv_k_text pv_p_355_2 ?_
      refine px_getR dX3_acceptsSubstitute_38 flX3_85 pv_menus_358.1 (by decide) (by decide) rfl pv_menus_358.2.1 pv_menus_358.2.2.2.2.1 ?_
      refine px_aload_n dX3_acceptsSubstitute_41 rfl ?_
      refine c_X3_slot dX3_acceptsSubstitute_42 mlX3_77 (by omega) (m := Z.2.1) (t := Z.2.2.1) hP.2.2.2.1 hP.2.2.1 hz.2.1 (Nat.le_of_ble_eq_true rfl) ?_
      refine px_iload_n dX3_acceptsSubstitute_45 rfl ?_
      refine px_bipush (v := nI 48) dX3_acceptsSubstitute_46 (by decide) ?_
      refine px_isubN (by omega) dX3_acceptsSubstitute_48 ?_
      refine c_X6_put dX3_acceptsSubstitute_49 mlX3_81 (by omega) (j := (Z.2.1 * 4 + Z.2.2.1)) pv_menus_358.2.2.2.2.2 (by omega) (Nat.le_of_ble_eq_true rfl) ?_
      refine px_aload_n dX3_acceptsSubstitute_52 rfl ?_
      refine px_aload_n dX3_acceptsSubstitute_53 rfl ?_
      refine px_getI dX3_acceptsSubstitute_54 flX3_30 pv_s_text (by decide) (by decide) rfl pv_k_text ?_
      refine px_iv (y := nI Z.2.2.2.1 - nI 1) (Eq.trans (by simp only [pv_uI_at]; repeat' (first | rfl | omega | split)) hP.1) ?_
      refine px_iload_n dX3_acceptsSubstitute_57 rfl ?_
      refine px_bipush (v := nI 48) dX3_acceptsSubstitute_58 (by decide) ?_
      refine px_isubN (by omega) dX3_acceptsSubstitute_60 ?_
      refine c_I_max dX3_acceptsSubstitute_61 mlX3_88 (by omega)  (Nat.le_of_ble_eq_true rfl) ?_
      rw [pn_max z4 (by omega)]
      refine px_putI dX3_acceptsSubstitute_64 fwX3_30 pv_s_text (by decide) (by decide) rfl pv_k_text ?_
      refine px_aload_n dX3_acceptsSubstitute_67 rfl ?_
      refine px_bipush (v := nI 7) dX3_acceptsSubstitute_68 (by decide) ?_
      refine c_X3_comesTo dX3_acceptsSubstitute_70 mlX3_51 (by omega)  (Nat.le_of_ble_eq_true rfl) ?_
      exact px_zret dX3_acceptsSubstitute_73 rfl rfl (Or.inl rfl) (h.1 _ (if_pos ⟨hc, h5⟩) _ (PC_sub hP hz hp hc) (FT_u (FT_u (FT_u (FT_r I) (by omega)) (by omega)) (by omega)))
    · refine px_iconst (v := nI 0) dX3_acceptsSubstitute_32 (by decide) ?_
      exact px_zret dX3_acceptsSubstitute_33 rfl rfl (Or.inl rfl) (h.2 (if_neg (fun z => z.2 h5)))
  · rw [pv_bl0 (fun z => hc ((pu_c (by omega) (by omega) (by omega)).mp z))]
    refine px_if_eqN (tgt := 32) dX3_acceptsSubstitute_8 (by decide) (by omega) (fun _ => ?_) (fun h0 => absurd h0 (by omega))
    refine px_iconst (v := nI 0) dX3_acceptsSubstitute_32 (by decide) ?_
    exact px_zret dX3_acceptsSubstitute_33 rfl rfl (Or.inl rfl) (h.2 (if_neg (fun z => hc z.1)))
theorem c_X3_acceptsSubstitute {z : pv_Z} {E : pv_E} {d bc bs : Nat} {J : pv_JT} {I : pv_IT} {mi : pv_MI} {pc idx : Nat} {lv : pv_LV} {st : List Value} {Z : pv_Zp} {c : Nat} (hd : decode mi.2.1 pc = .ok (.invokevirtual idx, 3)) (hlk : Cond.methodLink mi.1.cls idx mX3_acceptsSubstitute.1 ∈ pv_W) (hD : 2+1 ≤ d) (hP : PC I Z) (hz : PZ Z) (hc9 : c < 200) (hp : Z.1 = 6) (hcat : (st.map fun v => v.category).sum ≤ 8) (K : (∀ Z', pz_sub Z c = some Z' → ∀ I' : pv_IT, PC I' Z' → FT I I' → pv_X z E d bc bs mi (pc + 3) lv ((.int (nI 1)) :: st) pv_K0 pv_P0 (I') (J)) ∧ (pz_sub Z c = none → pv_X z E d bc bs mi (pc + 3) lv ((.int (nI 0)) :: st) pv_K0 pv_P0 (I) (J))) : pv_X z E d bc bs mi pc lv (.int (nI (c)) :: .ref (355) :: st) pv_K0 pv_P0 I J := by
  obtain ⟨d, rfl⟩ : ∃ d0, d = d0 + 1 := ⟨d - 1, by omega⟩
  have key := px_callV (bc := bc) (bs := bs) (bc1 := 0) (bs1 := 0) (as := [.int (nI (c))]) (E := E) (z := z) (lv := lv) hd mvX3_acceptsSubstitute hlk pv_s_text (by decide) rfl pv_k_text rfl rfl hcat (by exact Nat.le_of_ble_eq_true rfl) (s_X3_acceptsSubstitute (by omega) hP hz hc9 hp K)
  rw [Nat.zero_add, Nat.zero_add] at key
  exact key
set_option maxRecDepth 100000 in
set_option maxHeartbeats 4000000 in
theorem s_X3_beginsMenu {Q : pv_Q} {E : pv_E} {d bc bs : Nat} {J : pv_JT} {I : pv_IT} {Z : pv_Zp} (hD : 1 ≤ d) (hP : PC I Z) (hz : PZ Z) (hp : Z.1 = 1 ∨ 5 ≤ Z.1) (h : (∀ Z', pz_menu Z = some Z' → ∀ I' : pv_IT, PC I' Z' → FT I I' → Q (.inl (some (.int (nI 1)))) pv_K0 pv_P0 (I') (J)) ∧ (pz_menu Z = none → Q (.inl (some (.int (nI 0)))) pv_K0 pv_P0 (I) (J))) : pv_X (pv_ZQ E Q) E d bc bs mX3_beginsMenu 0 [(0, .ref (355))] [] pv_K0 pv_P0 I J := by
  have z2 := hz.2.1
  refine px_aload_n dX3_beginsMenu_0 rfl ?_
  refine px_getR dX3_beginsMenu_1 flX3_23 pv_s_text (by decide) (by decide) rfl pv_k_text pv_p_355_2 ?_
  refine px_getI dX3_beginsMenu_4 flX3_97 pv_menus_358.1 (by decide) (by decide) rfl pv_menus_358.2.1 ?_
  refine px_iv (y := nI ((Z.2.1 + 1))) (hP.2.2.2.1) ?_
  refine px_bipush (v := nI 10) dX3_beginsMenu_7 (by decide) ?_
  refine px_icmp_ltN (tgt := 14) dX3_beginsMenu_9 (by decide) (by omega) (by omega) (fun h5 => ?_) (fun h5 => ?_)
  · refine px_aload_n dX3_beginsMenu_14 rfl ?_
    refine px_getR dX3_beginsMenu_15 flX3_23 pv_s_text (by decide) (by decide) rfl pv_k_text pv_p_355_2 ?_
    refine px_dup dX3_beginsMenu_18 rfl ?_
    refine px_getI dX3_beginsMenu_19 flX3_97 pv_menus_358.1 (by decide) (by decide) rfl pv_menus_358.2.1 ?_
    refine px_iv (y := nI ((Z.2.1 + 1))) (hP.2.2.2.1) ?_
    refine px_iconst (v := nI 1) dX3_beginsMenu_22 (by decide) ?_
    refine px_iaddN dX3_beginsMenu_23 ?_
    refine px_putI dX3_beginsMenu_24 fwX3_97 pv_menus_358.1 (by decide) (by decide) rfl pv_menus_358.2.1 ?_
    refine px_aload_n dX3_beginsMenu_27 rfl ?_
    refine px_iconst (v := nI 0) dX3_beginsMenu_28 (by decide) ?_
    refine px_putI dX3_beginsMenu_29 fwX3_37 pv_s_text (by decide) (by decide) rfl pv_k_text ?_
    refine px_aload_n dX3_beginsMenu_32 rfl ?_
    refine px_iconst (v := nI 0) dX3_beginsMenu_33 (by decide) ?_
    refine c_X3_comesTo dX3_beginsMenu_34 mlX3_51 (by omega)  (Nat.le_of_ble_eq_true rfl) ?_
    exact px_zret dX3_beginsMenu_37 rfl rfl (Or.inl rfl) (h.1 _ (if_pos (by omega)) _ (PC_menu hP hz (by omega) hp) (FT_u (FT_u (FT_u (FT_r I) (by omega)) (by omega)) (by omega)))
  · refine px_iconst (v := nI 0) dX3_beginsMenu_12 (by decide) ?_
    exact px_zret dX3_beginsMenu_13 rfl rfl (Or.inl rfl) (h.2 (if_neg (by omega)))
theorem c_X3_beginsMenu {z : pv_Z} {E : pv_E} {d bc bs : Nat} {J : pv_JT} {I : pv_IT} {mi : pv_MI} {pc idx : Nat} {lv : pv_LV} {st : List Value} {Z : pv_Zp} (hd : decode mi.2.1 pc = .ok (.invokevirtual idx, 3)) (hlk : Cond.methodLink mi.1.cls idx mX3_beginsMenu.1 ∈ pv_W) (hD : 1+1 ≤ d) (hP : PC I Z) (hz : PZ Z) (hp : Z.1 = 1 ∨ 5 ≤ Z.1) (hcat : (st.map fun v => v.category).sum ≤ 8) (K : (∀ Z', pz_menu Z = some Z' → ∀ I' : pv_IT, PC I' Z' → FT I I' → pv_X z E d bc bs mi (pc + 3) lv ((.int (nI 1)) :: st) pv_K0 pv_P0 (I') (J)) ∧ (pz_menu Z = none → pv_X z E d bc bs mi (pc + 3) lv ((.int (nI 0)) :: st) pv_K0 pv_P0 (I) (J))) : pv_X z E d bc bs mi pc lv (.ref (355) :: st) pv_K0 pv_P0 I J := by
  obtain ⟨d, rfl⟩ : ∃ d0, d = d0 + 1 := ⟨d - 1, by omega⟩
  have key := px_callV (bc := bc) (bs := bs) (bc1 := 0) (bs1 := 0) (as := []) (E := E) (z := z) (lv := lv) hd mvX3_beginsMenu hlk pv_s_text (by decide) rfl pv_k_text rfl rfl hcat (by exact Nat.le_of_ble_eq_true rfl) (s_X3_beginsMenu (by omega) hP hz hp K)
  rw [Nat.zero_add, Nat.zero_add] at key
  exact key
set_option maxRecDepth 100000 in
set_option maxHeartbeats 4000000 in
theorem s_X3_acceptsSeparator {Q : pv_Q} {E : pv_E} {d bc bs : Nat} {J : pv_JT} {I : pv_IT} {Z : pv_Zp} {c : Nat} (hD : 2 ≤ d) (hP : PC I Z) (hz : PZ Z) (hc9 : c < 200) (hp : 5 ≤ Z.1) (h : (∀ Z', pz_sep Z c = some Z' → ∀ I' : pv_IT, PC I' Z' → FT I I' → Q (.inl (some (.int (nI 1)))) pv_K0 pv_P0 (I') (J)) ∧ (pz_sep Z c = none → Q (.inl (some (.int (nI 0)))) pv_K0 pv_P0 (I) (J))) : pv_X (pv_ZQ E Q) E d bc bs mX3_acceptsSeparator 0 [(0, .ref (355)), (1, .int (nI (c)))] [] pv_K0 pv_P0 I J := by
  have z3 := hz.2.2.1
  refine px_iload_n dX3_acceptsSeparator_0 rfl ?_
  refine px_bipush (v := nI 59) dX3_acceptsSeparator_1 (by decide) ?_
  refine px_icmp_neN (tgt := 11) dX3_acceptsSeparator_3 (by decide) (by omega) (by omega) (fun h5 => ?_) (fun h5 => ?_)
  · refine px_iload_n dX3_acceptsSeparator_11 rfl ?_
    refine px_bipush (v := nI 44) dX3_acceptsSeparator_12 (by decide) ?_
    refine px_icmp_neN (tgt := 25) dX3_acceptsSeparator_14 (by decide) (by omega) (by omega) (fun h6 => ?_) (fun h6 => ?_)
    · refine px_iconst (v := nI 0) dX3_acceptsSeparator_25 (by decide) ?_
      exact px_zret dX3_acceptsSeparator_26 rfl rfl (Or.inl rfl) (h.2 ((if_neg h5).trans (if_neg (by omega))))
    · refine px_aload_n dX3_acceptsSeparator_17 rfl ?_
      refine px_getI dX3_acceptsSeparator_18 flX3_37 pv_s_text (by decide) (by decide) rfl pv_k_text ?_
      refine px_iv (y := nI (Z.2.2.1)) (hP.2.2.1) ?_
      refine px_iconst (v := nI 3) dX3_acceptsSeparator_21 (by decide) ?_
      refine px_icmp_ltN (tgt := 27) dX3_acceptsSeparator_22 (by decide) (by omega) (by omega) (fun h7 => ?_) (fun h7 => ?_)
      · refine px_aload_n dX3_acceptsSeparator_27 rfl ?_
        refine px_dup dX3_acceptsSeparator_28 rfl ?_
        refine px_getI dX3_acceptsSeparator_29 flX3_37 pv_s_text (by decide) (by decide) rfl pv_k_text ?_
        refine px_iv (y := nI (Z.2.2.1)) (hP.2.2.1) ?_
        refine px_iconst (v := nI 1) dX3_acceptsSeparator_32 (by decide) ?_
        refine px_iaddN dX3_acceptsSeparator_33 ?_
        refine px_putI dX3_acceptsSeparator_34 fwX3_37 pv_s_text (by decide) (by decide) rfl pv_k_text ?_
        refine px_aload_n dX3_acceptsSeparator_37 rfl ?_
        refine px_iconst (v := nI 2) dX3_acceptsSeparator_38 (by decide) ?_
        refine c_X3_comesTo dX3_acceptsSeparator_39 mlX3_51 (by omega)  (Nat.le_of_ble_eq_true rfl) ?_
        exact px_zret dX3_acceptsSeparator_42 rfl rfl (Or.inl rfl) (h.1 _ ((if_neg h5).trans (if_pos ⟨h6, h7⟩)) _ (PC_next hP hp) (FT_u (FT_u (FT_r I) (by omega)) (by omega)))
      · refine px_iconst (v := nI 0) dX3_acceptsSeparator_25 (by decide) ?_
        exact px_zret dX3_acceptsSeparator_26 rfl rfl (Or.inl rfl) (h.2 ((if_neg h5).trans (if_neg (by omega))))
  · refine px_aload_n dX3_acceptsSeparator_6 rfl ?_
    refine c_X3_beginsMenu dX3_acceptsSeparator_7 mlX3_57 (by omega) hP hz (Or.inr hp) (Nat.le_of_ble_eq_true rfl) ⟨fun Z1 hZ1 I1 hP1 hF1 => ?_, fun hZ1 => ?_⟩
    exact px_zret dX3_acceptsSeparator_10 rfl rfl (Or.inl rfl) (h.1 Z1 ((if_pos h5).trans hZ1) I1 hP1 hF1)
    exact px_zret dX3_acceptsSeparator_10 rfl rfl (Or.inl rfl) (h.2 ((if_pos h5).trans hZ1))
theorem c_X3_acceptsSeparator {z : pv_Z} {E : pv_E} {d bc bs : Nat} {J : pv_JT} {I : pv_IT} {mi : pv_MI} {pc idx : Nat} {lv : pv_LV} {st : List Value} {Z : pv_Zp} {c : Nat} (hd : decode mi.2.1 pc = .ok (.invokevirtual idx, 3)) (hlk : Cond.methodLink mi.1.cls idx mX3_acceptsSeparator.1 ∈ pv_W) (hD : 2+1 ≤ d) (hP : PC I Z) (hz : PZ Z) (hc9 : c < 200) (hp : 5 ≤ Z.1) (hcat : (st.map fun v => v.category).sum ≤ 8) (K : (∀ Z', pz_sep Z c = some Z' → ∀ I' : pv_IT, PC I' Z' → FT I I' → pv_X z E d bc bs mi (pc + 3) lv ((.int (nI 1)) :: st) pv_K0 pv_P0 (I') (J)) ∧ (pz_sep Z c = none → pv_X z E d bc bs mi (pc + 3) lv ((.int (nI 0)) :: st) pv_K0 pv_P0 (I) (J))) : pv_X z E d bc bs mi pc lv (.int (nI (c)) :: .ref (355) :: st) pv_K0 pv_P0 I J := by
  obtain ⟨d, rfl⟩ : ∃ d0, d = d0 + 1 := ⟨d - 1, by omega⟩
  have key := px_callV (bc := bc) (bs := bs) (bc1 := 0) (bs1 := 0) (as := [.int (nI (c))]) (E := E) (z := z) (lv := lv) hd mvX3_acceptsSeparator hlk pv_s_text (by decide) rfl pv_k_text rfl rfl hcat (by exact Nat.le_of_ble_eq_true rfl) (s_X3_acceptsSeparator (by omega) hP hz hc9 hp K)
  rw [Nat.zero_add, Nat.zero_add] at key
  exact key
set_option maxRecDepth 100000 in
set_option maxHeartbeats 4000000 in
theorem s_X3_accepts {Q : pv_Q} {E : pv_E} {d bc bs : Nat} {J : pv_JT} {I : pv_IT} {Z : pv_Zp} {c : Nat} (hD : 3 ≤ d) (hP : PC I Z) (hz : PZ Z) (hc9 : c < 200) (h : (∀ Z', pz_step Z c = some Z' → ∀ I' : pv_IT, PC I' Z' → FT I I' → Q (.inl (some (.int (nI 1)))) pv_K0 pv_P0 (I') (J)) ∧ (pz_step Z c = none → Q (.inl (some (.int (nI 0)))) pv_K0 pv_P0 (I) (J))) : pv_X (pv_ZQ E Q) E d bc bs mX3_accepts 0 [(0, .ref (355)), (1, .int (nI (c)))] [] pv_K0 pv_P0 I J := by
  have z1 := hz.1
  refine px_aload_n dX3_accepts_0 rfl ?_
  refine px_getI dX3_accepts_1 flX3_34 pv_s_text (by decide) (by decide) rfl pv_k_text ?_
  refine px_iv (y := nI (Z.1)) (hP.2.1) ?_
  rcases (by omega : Z.1 = 0 ∨ Z.1 = 1 ∨ Z.1 = 2 ∨ Z.1 = 3 ∨ Z.1 = 4 ∨ Z.1 = 5 ∨ Z.1 = 6 ∨ Z.1 = 7) with e | e | e | e | e | e | e | e
  · rw [e]
    refine px_tableIn (tgt := 48) dX3_accepts_4 (by decide) (by decide) rfl (by decide) ?_
    have es : pz_step Z c = if c = 45 then some (pz_to Z 1) else pz_item Z c := by unfold pz_step; rw [if_pos e]
    refine px_iload_n dX3_accepts_48 rfl ?_
    refine px_bipush (v := nI 45) dX3_accepts_49 (by decide) ?_
    refine px_icmp_neN (tgt := 62) dX3_accepts_51 (by decide) (by omega) (by omega) (fun h5 => ?_) (fun h5 => ?_)
    · refine px_aload_n dX3_accepts_62 rfl ?_
      refine px_iload_n dX3_accepts_63 rfl ?_
      refine c_X3_acceptsKind dX3_accepts_64 mlX3_54 (by omega) hP hz hc9 (Or.inl e) (Nat.le_of_ble_eq_true rfl) ⟨fun Z1 hZ1 I1 hP1 hF1 => ?_, fun hZ1 => ?_⟩
      exact px_zret dX3_accepts_67 rfl rfl (Or.inl rfl) (h.1 Z1 ((es.trans (if_neg h5)).trans hZ1) I1 hP1 hF1)
      exact px_zret dX3_accepts_67 rfl rfl (Or.inl rfl) (h.2 ((es.trans (if_neg h5)).trans hZ1))
    · refine px_aload_n dX3_accepts_54 rfl ?_
      refine px_iconst (v := nI 1) dX3_accepts_55 (by decide) ?_
      refine c_X3_comesTo dX3_accepts_56 mlX3_51 (by omega)  (Nat.le_of_ble_eq_true rfl) ?_
      refine px_goto (tgt := 67) dX3_accepts_59 (by decide) ?_
      exact px_zret dX3_accepts_67 rfl rfl (Or.inl rfl) (h.1 _ (es.trans (if_pos h5)) _ (PC_to hP (Or.inl ⟨e, rfl⟩)) (FT_u (FT_r I) (by omega)))
  · rw [e]
    refine px_tableIn (tgt := 68) dX3_accepts_4 (by decide) (by decide) rfl (by decide) ?_
    have es : pz_step Z c = if c = 59 then pz_menu Z else none := by unfold pz_step; rw [if_neg (by omega)]; rw [if_pos e]
    refine px_iload_n dX3_accepts_68 rfl ?_
    refine px_bipush (v := nI 59) dX3_accepts_69 (by decide) ?_
    refine px_icmp_neN (tgt := 85) dX3_accepts_71 (by decide) (by omega) (by omega) (fun h5 => ?_) (fun h5 => ?_)
    · refine px_iconst (v := nI 0) dX3_accepts_85 (by decide) ?_
      exact px_zret dX3_accepts_86 rfl rfl (Or.inl rfl) (h.2 (es.trans (if_neg h5)))
    · refine px_aload_n dX3_accepts_74 rfl ?_
      refine c_X3_beginsMenu dX3_accepts_75 mlX3_57 (by omega) hP hz (Or.inl e) (Nat.le_of_ble_eq_true rfl) ⟨fun Z1 hZ1 I1 hP1 hF1 => ?_, fun hZ1 => ?_⟩
      refine px_if_eqN (tgt := 85) dX3_accepts_78 (by decide) (by omega) (fun h0 => absurd h0 (by omega)) (fun _ => ?_)
      refine px_iconst (v := nI 1) dX3_accepts_81 (by decide) ?_
      refine px_goto (tgt := 86) dX3_accepts_82 (by decide) ?_
      exact px_zret dX3_accepts_86 rfl rfl (Or.inl rfl) (h.1 Z1 ((es.trans (if_pos h5)).trans hZ1) I1 hP1 hF1)
      refine px_if_eqN (tgt := 85) dX3_accepts_78 (by decide) (by omega) (fun _ => ?_) (fun h0 => absurd h0 (by omega))
      refine px_iconst (v := nI 0) dX3_accepts_85 (by decide) ?_
      exact px_zret dX3_accepts_86 rfl rfl (Or.inl rfl) (h.2 ((es.trans (if_pos h5)).trans hZ1))
  · rw [e]
    refine px_tableIn (tgt := 87) dX3_accepts_4 (by decide) (by decide) rfl (by decide) ?_
    have es : pz_step Z c = pz_item Z c := by unfold pz_step; rw [if_neg (by omega)]; rw [if_neg (by omega)]; rw [if_pos e]
    refine px_aload_n dX3_accepts_87 rfl ?_
    refine px_iload_n dX3_accepts_88 rfl ?_
    refine c_X3_acceptsKind dX3_accepts_89 mlX3_54 (by omega) hP hz hc9 (Or.inr e) (Nat.le_of_ble_eq_true rfl) ⟨fun Z1 hZ1 I1 hP1 hF1 => ?_, fun hZ1 => ?_⟩
    exact px_zret dX3_accepts_92 rfl rfl (Or.inl rfl) (h.1 Z1 ((es).trans hZ1) I1 hP1 hF1)
    exact px_zret dX3_accepts_92 rfl rfl (Or.inl rfl) (h.2 ((es).trans hZ1))
  · rw [e]
    refine px_tableIn (tgt := 93) dX3_accepts_4 (by decide) (by decide) rfl (by decide) ?_
    have es : pz_step Z c = if c = 42 then some (pz_to Z 4) else none := by unfold pz_step; rw [if_neg (by omega)]; rw [if_neg (by omega)]; rw [if_neg (by omega)]; rw [if_pos e]
    refine px_iload_n dX3_accepts_93 rfl ?_
    refine px_bipush (v := nI 42) dX3_accepts_94 (by decide) ?_
    refine px_icmp_neN (tgt := 111) dX3_accepts_96 (by decide) (by omega) (by omega) (fun h5 => ?_) (fun h5 => ?_)
    · refine px_iconst (v := nI 0) dX3_accepts_111 (by decide) ?_
      exact px_zret dX3_accepts_112 rfl rfl (Or.inl rfl) (h.2 (es.trans (if_neg h5)))
    · refine px_aload_n dX3_accepts_99 rfl ?_
      refine px_iconst (v := nI 4) dX3_accepts_100 (by decide) ?_
      refine c_X3_comesTo dX3_accepts_101 mlX3_51 (by omega)  (Nat.le_of_ble_eq_true rfl) ?_
      refine px_if_eqN (tgt := 111) dX3_accepts_104 (by decide) (by omega) (fun h0 => absurd h0 (by omega)) (fun _ => ?_)
      refine px_iconst (v := nI 1) dX3_accepts_107 (by decide) ?_
      refine px_goto (tgt := 112) dX3_accepts_108 (by decide) ?_
      exact px_zret dX3_accepts_112 rfl rfl (Or.inl rfl) (h.1 _ (es.trans (if_pos h5)) _ (PC_to hP (Or.inr (Or.inl ⟨e, rfl⟩))) (FT_u (FT_r I) (by omega)))
  · rw [e]
    refine px_tableIn (tgt := 113) dX3_accepts_4 (by decide) (by decide) rfl (by decide) ?_
    have es : pz_step Z c = pz_amt Z c := by unfold pz_step; rw [if_neg (by omega)]; rw [if_neg (by omega)]; rw [if_neg (by omega)]; rw [if_neg (by omega)]; rw [if_pos e]
    refine px_aload_n dX3_accepts_113 rfl ?_
    refine px_iload_n dX3_accepts_114 rfl ?_
    refine c_X3_acceptsAmount dX3_accepts_115 mlX3_61 (by omega) hP hz hc9 e (Nat.le_of_ble_eq_true rfl) ⟨fun Z1 hZ1 I1 hP1 hF1 => ?_, fun hZ1 => ?_⟩
    exact px_zret dX3_accepts_118 rfl rfl (Or.inl rfl) (h.1 Z1 ((es).trans hZ1) I1 hP1 hF1)
    exact px_zret dX3_accepts_118 rfl rfl (Or.inl rfl) (h.2 ((es).trans hZ1))
  · rw [e]
    refine px_tableIn (tgt := 119) dX3_accepts_4 (by decide) (by decide) rfl (by decide) ?_
    have es : pz_step Z c = if c = 47 then some (pz_to Z 6) else pz_sep Z c := by unfold pz_step; rw [if_neg (by omega)]; rw [if_neg (by omega)]; rw [if_neg (by omega)]; rw [if_neg (by omega)]; rw [if_neg (by omega)]; rw [if_pos e]
    refine px_iload_n dX3_accepts_119 rfl ?_
    refine px_bipush (v := nI 47) dX3_accepts_120 (by decide) ?_
    refine px_icmp_neN (tgt := 134) dX3_accepts_122 (by decide) (by omega) (by omega) (fun h5 => ?_) (fun h5 => ?_)
    · refine px_aload_n dX3_accepts_134 rfl ?_
      refine px_iload_n dX3_accepts_135 rfl ?_
      refine c_X3_acceptsSeparator dX3_accepts_136 mlX3_64 (by omega) hP hz hc9 (by omega) (Nat.le_of_ble_eq_true rfl) ⟨fun Z1 hZ1 I1 hP1 hF1 => ?_, fun hZ1 => ?_⟩
      exact px_zret dX3_accepts_139 rfl rfl (Or.inl rfl) (h.1 Z1 ((es.trans (if_neg h5)).trans hZ1) I1 hP1 hF1)
      exact px_zret dX3_accepts_139 rfl rfl (Or.inl rfl) (h.2 ((es.trans (if_neg h5)).trans hZ1))
    · refine px_aload_n dX3_accepts_125 rfl ?_
      refine px_bipush (v := nI 6) dX3_accepts_126 (by decide) ?_
      refine c_X3_comesTo dX3_accepts_128 mlX3_51 (by omega)  (Nat.le_of_ble_eq_true rfl) ?_
      refine px_goto (tgt := 139) dX3_accepts_131 (by decide) ?_
      exact px_zret dX3_accepts_139 rfl rfl (Or.inl rfl) (h.1 _ (es.trans (if_pos h5)) _ (PC_to hP (Or.inr (Or.inr ⟨e, rfl⟩))) (FT_u (FT_r I) (by omega)))
  · rw [e]
    refine px_tableIn (tgt := 140) dX3_accepts_4 (by decide) (by decide) rfl (by decide) ?_
    have es : pz_step Z c = pz_sub Z c := by unfold pz_step; rw [if_neg (by omega)]; rw [if_neg (by omega)]; rw [if_neg (by omega)]; rw [if_neg (by omega)]; rw [if_neg (by omega)]; rw [if_neg (by omega)]; rw [if_pos e]
    refine px_aload_n dX3_accepts_140 rfl ?_
    refine px_iload_n dX3_accepts_141 rfl ?_
    refine c_X3_acceptsSubstitute dX3_accepts_142 mlX3_67 (by omega) hP hz hc9 e (Nat.le_of_ble_eq_true rfl) ⟨fun Z1 hZ1 I1 hP1 hF1 => ?_, fun hZ1 => ?_⟩
    exact px_zret dX3_accepts_145 rfl rfl (Or.inl rfl) (h.1 Z1 ((es).trans hZ1) I1 hP1 hF1)
    exact px_zret dX3_accepts_145 rfl rfl (Or.inl rfl) (h.2 ((es).trans hZ1))
  · rw [e]
    refine px_tableOut (tgt := 146) dX3_accepts_4 (by decide) (by decide) ?_
    have es : pz_step Z c = pz_sep Z c := by unfold pz_step; rw [if_neg (by omega)]; rw [if_neg (by omega)]; rw [if_neg (by omega)]; rw [if_neg (by omega)]; rw [if_neg (by omega)]; rw [if_neg (by omega)]; rw [if_neg (by omega)]
    refine px_aload_n dX3_accepts_146 rfl ?_
    refine px_iload_n dX3_accepts_147 rfl ?_
    refine c_X3_acceptsSeparator dX3_accepts_148 mlX3_64 (by omega) hP hz hc9 (by omega) (Nat.le_of_ble_eq_true rfl) ⟨fun Z1 hZ1 I1 hP1 hF1 => ?_, fun hZ1 => ?_⟩
    exact px_zret dX3_accepts_151 rfl rfl (Or.inl rfl) (h.1 Z1 ((es).trans hZ1) I1 hP1 hF1)
    exact px_zret dX3_accepts_151 rfl rfl (Or.inl rfl) (h.2 ((es).trans hZ1))
theorem c_X3_accepts {z : pv_Z} {E : pv_E} {d bc bs : Nat} {J : pv_JT} {I : pv_IT} {mi : pv_MI} {pc idx : Nat} {lv : pv_LV} {st : List Value} {Z : pv_Zp} {c : Nat} (hd : decode mi.2.1 pc = .ok (.invokevirtual idx, 3)) (hlk : Cond.methodLink mi.1.cls idx mX3_accepts.1 ∈ pv_W) (hD : 3+1 ≤ d) (hP : PC I Z) (hz : PZ Z) (hc9 : c < 200) (hcat : (st.map fun v => v.category).sum ≤ 8) (K : (∀ Z', pz_step Z c = some Z' → ∀ I' : pv_IT, PC I' Z' → FT I I' → pv_X z E d bc bs mi (pc + 3) lv ((.int (nI 1)) :: st) pv_K0 pv_P0 (I') (J)) ∧ (pz_step Z c = none → pv_X z E d bc bs mi (pc + 3) lv ((.int (nI 0)) :: st) pv_K0 pv_P0 (I) (J))) : pv_X z E d bc bs mi pc lv (.int (nI (c)) :: .ref (355) :: st) pv_K0 pv_P0 I J := by
  obtain ⟨d, rfl⟩ : ∃ d0, d = d0 + 1 := ⟨d - 1, by omega⟩
  have key := px_callV (bc := bc) (bs := bs) (bc1 := 0) (bs1 := 0) (as := [.int (nI (c))]) (E := E) (z := z) (lv := lv) hd mvX3_accepts hlk pv_s_text (by decide) rfl pv_k_text rfl rfl hcat (by exact Nat.le_of_ble_eq_true rfl) (s_X3_accepts (by omega) hP hz hc9 K)
  rw [Nat.zero_add, Nat.zero_add] at key
  exact key
set_option maxRecDepth 100000 in
set_option maxHeartbeats 4000000 in
theorem s_X4_forget {Q : pv_Q} {E : pv_E} {d bc bs : Nat} {J : pv_JT} {I : pv_IT}  (hD : 1 ≤ d)  (h : ∀ I' : pv_IT, I' 358 0 = nI 1 → (∀ j, j < 40 → I' 362 j = 0) → (∀ k, k ≠ 358 → k ≠ 362 → I' k = I k) → Q (.inl none) pv_K0 pv_P0 (I') (J)) : pv_X (pv_ZQ E Q) E d bc bs mX4_forget 0 [(0, .ref (358))] [] pv_K0 pv_P0 I J := by
  refine px_aload_n dX4_forget_0 rfl ?_
  refine px_iconst (v := nI 1) dX4_forget_1 (by decide) ?_
  refine px_putI dX4_forget_2 fwX4_9 pv_menus_358.1 (by decide) (by decide) rfl pv_menus_358.2.1 ?_
  refine px_aload_n dX4_forget_5 rfl ?_
  refine px_getR dX4_forget_6 flX4_24 pv_menus_358.1 (by decide) (by decide) rfl pv_menus_358.2.1 pv_menus_358.2.2.2.1.1 ?_
  refine px_iconst (v := nI 0) dX4_forget_9 (by decide) ?_
  refine c_X6_fill dX4_forget_10 mlX4_40 (by omega) pv_menus_358.2.2.2.1.2 (Nat.le_of_ble_eq_true rfl) (fun I1 hA hF => ?_)
  exact px_vret dX4_forget_13 rfl (Or.inl rfl) (h I1 ((congrFun (hF 358 (by omega)) 0).trans (by rw [pv_uI_self, pk_us])) (fun j hj => (hA j hj).trans rfl) (fun k h1 h2 => (hF k h2).trans (pv_uI_ne h1)))
theorem c_X4_forget {z : pv_Z} {E : pv_E} {d bc bs : Nat} {J : pv_JT} {I : pv_IT} {mi : pv_MI} {pc idx : Nat} {lv : pv_LV} {st : List Value}  (hd : decode mi.2.1 pc = .ok (.invokevirtual idx, 3)) (hlk : Cond.methodLink mi.1.cls idx mX4_forget.1 ∈ pv_W) (hD : 1+1 ≤ d)  (hcat : (st.map fun v => v.category).sum ≤ 8) (K : ∀ I' : pv_IT, I' 358 0 = nI 1 → (∀ j, j < 40 → I' 362 j = 0) → (∀ k, k ≠ 358 → k ≠ 362 → I' k = I k) → pv_X z E d bc bs mi (pc + 3) lv (st) pv_K0 pv_P0 (I') (J)) : pv_X z E d bc bs mi pc lv (.ref (358) :: st) pv_K0 pv_P0 I J := by
  obtain ⟨d, rfl⟩ : ∃ d0, d = d0 + 1 := ⟨d - 1, by omega⟩
  have key := px_callV (bc := bc) (bs := bs) (bc1 := 0) (bs1 := 0) (as := []) (E := E) (z := z) (lv := lv) hd mvX4_forget hlk pv_menus_358.1 (by decide) rfl pv_menus_358.2.1 rfl rfl hcat (by exact Nat.le_of_ble_eq_true rfl) (s_X4_forget (by omega)  K)
  rw [Nat.zero_add, Nat.zero_add] at key
  exact key
def bf (B : List Nat) : Nat → Nat := fun j => B.getD j 0
set_option maxRecDepth 100000 in
set_option maxHeartbeats 4000000 in
theorem s_X3_readMenus {Q : pv_Q} {E : pv_E} {d bc bs : Nat} {J : pv_JT} {I : pv_IT} {B : List Nat} (hD : 4 ≤ d) (hB : TXc I B) (hB9 : ∀ j, j < B.length → bf B j < 200) (h : ∀ I' : pv_IT, (∀ Z, pz_run (bf B) B.length = some Z → PC I' Z) → FT I I' → Q (.inl (some (.int (nI (pz_err (bf B) B.length))))) pv_K0 pv_P0 (I') (J)) : pv_X (pv_ZQ E Q) E d bc bs mX3_readMenus 0 [(0, .ref (355))] [] pv_K0 pv_P0 I J := by
  have h60 := hB.2.1
  refine px_aload_n dX3_readMenus_0 rfl ?_
  refine px_getR dX3_readMenus_1 flX3_23 pv_s_text (by decide) (by decide) rfl pv_k_text pv_p_355_2 ?_
  refine c_X4_forget dX3_readMenus_4 mlX3_27 (by omega)  (Nat.le_of_ble_eq_true rfl) (fun I1 h1 hA hF => ?_)
  refine px_aload_n dX3_readMenus_7 rfl ?_
  refine px_iconst (v := -1) dX3_readMenus_8 (by decide) ?_
  refine px_putI dX3_readMenus_9 fwX3_30 pv_s_text (by decide) (by decide) rfl pv_k_text ?_
  refine px_aload_n dX3_readMenus_12 rfl ?_
  refine px_iconst (v := nI 0) dX3_readMenus_13 (by decide) ?_
  refine px_putI dX3_readMenus_14 fwX3_34 pv_s_text (by decide) (by decide) rfl pv_k_text ?_
  refine px_aload_n dX3_readMenus_17 rfl ?_
  refine px_iconst (v := nI 0) dX3_readMenus_18 (by decide) ?_
  refine px_putI dX3_readMenus_19 fwX3_37 pv_s_text (by decide) (by decide) rfl pv_k_text ?_
  generalize hI2 : pv_uI (pv_uI (pv_uI I1 355 3 (-1)) 355 4 (nI 0)) 355 5 (nI 0) = I2
  have hF2 : FT I I2 := by
    rw [← hI2]
    exact FT_u (FT_u (FT_u ⟨fun k a b c d e => hF k b d, congrFun (hF 355 (by omega) (by omega)) 0⟩ (by omega)) (by omega)) (by omega)
  have hP2 : PC I2 pz_0 := by
    have e : ∀ k j, k ≠ 355 → I2 k j = I1 k j := fun k j hk => by rw [← hI2, pv_uI_ne hk, pv_uI_ne hk, pv_uI_ne hk]
    refine ⟨?_, ?_, ?_, (e _ _ (by omega)).trans h1, fun m hm i hi => ?_, fun m hm hm2 i hi => (e _ _ (by omega)).trans (hA _ (by omega)), fun hx => absurd hx (by decide), fun hx => absurd hx (by decide)⟩
    · rw [← hI2]; simp only [pv_uI_at]; rw [if_neg (by omega), if_neg (by omega), if_pos (by simp)]; decide
    · rw [← hI2]; simp only [pv_uI_at]; rw [if_neg (by omega), if_pos (by simp)]; rfl
    · rw [← hI2]; simp only [pv_uI_at]; rw [if_pos (by simp)]; rfl
    · replace hm : m ≤ 0 := hm
      exact ⟨fun hx => absurd hx (Nat.not_lt_zero _), fun _ => (e _ _ (by omega)).trans (hA _ (by omega))⟩
  have key : ∀ i : Nat, i ≤ B.length → ∀ (I3 : pv_IT) (Z : pv_Zp), pz_run (bf B) (i) = some Z → PC I3 Z → FT I I3 → pv_X (pv_ZQ E Q) E d bc bs mX3_readMenus 24 [(0, .ref 355), (1, .int (nI (i)))] [] pv_K0 pv_P0 (I3) (J) := by
    refine pv_up (B.length) ?_ ?_
    · intro I3 Z hZ hP3 hF3
      refine px_iload_n dX3_readMenus_24 rfl ?_
      refine px_aload_n dX3_readMenus_25 rfl ?_
      refine px_getI dX3_readMenus_26 flX3_40 pv_s_text (by decide) (by decide) rfl pv_k_text ?_
      refine px_iv (y := nI (B.length)) (hF3.2.trans hB.1) ?_
      refine px_icmp_geN (tgt := 55) dX3_readMenus_29 (by decide) (by omega) (by omega) (fun _ => ?_) (fun h0 => absurd h0 (by omega))
      refine px_aload_n dX3_readMenus_55 rfl ?_
      refine px_getI dX3_readMenus_56 flX3_40 pv_s_text (by decide) (by decide) rfl pv_k_text ?_
      refine px_iv (y := nI (B.length)) (hF3.2.trans hB.1) ?_
      have hall : ∀ j, j < B.length → (fun j => (pz_run (bf B) (j + 1)).isNone) j = false := fun j hj => by
        cases e : pz_run (bf B) (j + 1) with
        | some x => show (pz_run (bf B) (j + 1)).isNone = false; rw [e]; rfl
        | none =>
          have := pz_run_none e (B.length - (j + 1))
          rw [show j + 1 + (B.length - (j + 1)) = B.length by omega, hZ] at this
          cases this
      have herr : pz_err (bf B) B.length = B.length := by unfold pz_err; rw [pf_none hall]
      rw [herr] at h
      exact px_iret dX3_readMenus_59 rfl (Or.inl rfl) (h I3 (fun Z0 h0 => by rw [hZ] at h0; rw [← Option.some.inj h0]; exact hP3) hF3)
    · intro i hi K I3 Z hZ hP3 hF3
      have hc9 := hB9 i hi
      have hg := pz_run_ok hZ
      refine px_iload_n dX3_readMenus_24 rfl ?_
      refine px_aload_n dX3_readMenus_25 rfl ?_
      refine px_getI dX3_readMenus_26 flX3_40 pv_s_text (by decide) (by decide) rfl pv_k_text ?_
      refine px_iv (y := nI (B.length)) (hF3.2.trans hB.1) ?_
      refine px_icmp_geN (tgt := 55) dX3_readMenus_29 (by decide) (by omega) (by omega) (fun h0 => absurd h0 (by omega)) (fun _ => ?_)
      refine px_aload_n dX3_readMenus_32 rfl ?_
      refine px_aload_n dX3_readMenus_33 rfl ?_
      refine px_getR dX3_readMenus_34 flX3_14 pv_s_text (by decide) (by decide) rfl pv_k_text pv_p_355_1 ?_
      refine px_iload_n dX3_readMenus_37 rfl ?_
      refine c_X6_at dX3_readMenus_38 mlX3_43 (by omega) (j := i) pv_row_356 (by omega) (Nat.le_of_ble_eq_true rfl) ?_
      refine px_iv (y := nI (bf B i)) ((congrFun (hF3.1 357 (by omega) (by omega) (by omega) (by omega) (by omega)) i).trans (hB.2.2 i hi)) ?_
      refine c_X3_accepts dX3_readMenus_41 mlX3_47 (by omega) hP3 hg.1 hc9 (Nat.le_of_ble_eq_true rfl) ⟨fun Z1 hZ1 I4 hP4 hF4 => ?_, fun hZ1 => ?_⟩
      · refine px_if_neN (tgt := 49) dX3_readMenus_44 (by decide) (by omega) (fun _ => ?_) (fun h0 => absurd h0 (by omega))
        refine px_iincN (c := 1) (by decide) dX3_readMenus_49 rfl (by decide) ?_
        refine px_goto (tgt := 24) dX3_readMenus_52 (by decide) ?_
        refine px_keep [0, 1] ?_
        exact K I4 Z1 ((pz_run1 hZ).trans hZ1) hP4 (FT_t hF3 hF4)
      · refine px_if_neN (tgt := 49) dX3_readMenus_44 (by decide) (by omega) (fun h0 => absurd h0 (by omega)) (fun _ => ?_)
        refine px_iload_n dX3_readMenus_47 rfl ?_
        have hn : pz_run (bf B) (i + 1) = none := (pz_run1 hZ).trans hZ1
        have hlo : ∀ j, j < i → (fun j => (pz_run (bf B) (j + 1)).isNone) j = false := fun j hj => by
          cases e : pz_run (bf B) (j + 1) with
          | some x => show (pz_run (bf B) (j + 1)).isNone = false; rw [e]; rfl
          | none =>
            have := pz_run_none e (i - (j + 1))
            rw [show j + 1 + (i - (j + 1)) = i by omega, hZ] at this
            cases this
        have herr : pz_err (bf B) B.length = i := by
          unfold pz_err
          rw [pf_some hi hlo (by show (pz_run (bf B) (i + 1)).isNone = true; rw [hn]; rfl)]
        rw [herr] at h
        exact px_iret dX3_readMenus_48 rfl (Or.inl rfl) (h I3 (fun Z0 h0 => by
            have := pz_run_none hn (B.length - (i + 1))
            rw [show i + 1 + (B.length - (i + 1)) = B.length by omega, h0] at this
            cases this) hF3)
  refine px_iconst (v := nI 0) dX3_readMenus_22 (by decide) ?_
  refine px_istore_n dX3_readMenus_23 (by decide) ?_
  exact key 0 (by omega) I2 pz_0 rfl hP2 hF2
theorem c_X3_readMenus {z : pv_Z} {E : pv_E} {d bc bs : Nat} {J : pv_JT} {I : pv_IT} {mi : pv_MI} {pc idx : Nat} {lv : pv_LV} {st : List Value} {B : List Nat} (hd : decode mi.2.1 pc = .ok (.invokevirtual idx, 3)) (hlk : Cond.methodLink mi.1.cls idx mX3_readMenus.1 ∈ pv_W) (hD : 4+1 ≤ d) (hB : TXc I B) (hB9 : ∀ j, j < B.length → bf B j < 200) (hcat : (st.map fun v => v.category).sum ≤ 8) (K : ∀ I' : pv_IT, (∀ Z, pz_run (bf B) B.length = some Z → PC I' Z) → FT I I' → pv_X z E d bc bs mi (pc + 3) lv ((.int (nI (pz_err (bf B) B.length))) :: st) pv_K0 pv_P0 (I') (J)) : pv_X z E d bc bs mi pc lv (.ref (355) :: st) pv_K0 pv_P0 I J := by
  obtain ⟨d, rfl⟩ : ∃ d0, d = d0 + 1 := ⟨d - 1, by omega⟩
  have key := px_callV (bc := bc) (bs := bs) (bc1 := 0) (bs1 := 0) (as := []) (E := E) (z := z) (lv := lv) hd mvX3_readMenus hlk pv_s_text (by decide) rfl pv_k_text rfl rfl hcat (by exact Nat.le_of_ble_eq_true rfl) (s_X3_readMenus (by omega) hB hB9 K)
  rw [Nat.zero_add, Nat.zero_add] at key
  exact key
set_option maxRecDepth 100000 in
set_option maxHeartbeats 4000000 in
theorem s_X3_isComplete {Q : pv_Q} {E : pv_E} {d bc bs : Nat} {J : pv_JT} {I : pv_IT} {Z : pv_Zp} (hD : 0 ≤ d) (hP : PC I Z) (hz : PZ Z) (h : Q (.inl (some (.int (nI (pv_bl (Z.1 = 1 ∨ Z.1 = 5 ∨ Z.1 = 7)))))) pv_K0 pv_P0 (I) (J)) : pv_X (pv_ZQ E Q) E d bc bs mX3_isComplete 0 [(0, .ref (355))] [] pv_K0 pv_P0 I J := by
  have z1 := hz.1
  refine px_aload_n dX3_isComplete_0 rfl ?_
  refine px_getI dX3_isComplete_1 flX3_34 pv_s_text (by decide) (by decide) rfl pv_k_text ?_
  refine px_iv (y := nI (Z.1)) (hP.2.1) ?_
  refine px_iconst (v := nI 1) dX3_isComplete_4 (by decide) ?_
  refine px_icmp_eqN (tgt := 25) dX3_isComplete_5 (by decide) (by omega) (by omega) (fun h5 => ?_) (fun h5 => ?_)
  · refine px_iconst (v := nI 1) dX3_isComplete_25 (by decide) ?_
    refine px_goto (tgt := 30) dX3_isComplete_26 (by decide) ?_
    exact px_zret dX3_isComplete_30 rfl rfl (Or.inl rfl) (by rw [pv_bl1 (by omega)] at h; exact h)
  · refine px_aload_n dX3_isComplete_8 rfl ?_
    refine px_getI dX3_isComplete_9 flX3_34 pv_s_text (by decide) (by decide) rfl pv_k_text ?_
    refine px_iv (y := nI (Z.1)) (hP.2.1) ?_
    refine px_iconst (v := nI 5) dX3_isComplete_12 (by decide) ?_
    refine px_icmp_eqN (tgt := 25) dX3_isComplete_13 (by decide) (by omega) (by omega) (fun h6 => ?_) (fun h6 => ?_)
    · refine px_iconst (v := nI 1) dX3_isComplete_25 (by decide) ?_
      refine px_goto (tgt := 30) dX3_isComplete_26 (by decide) ?_
      exact px_zret dX3_isComplete_30 rfl rfl (Or.inl rfl) (by rw [pv_bl1 (by omega)] at h; exact h)
    · refine px_aload_n dX3_isComplete_16 rfl ?_
      refine px_getI dX3_isComplete_17 flX3_34 pv_s_text (by decide) (by decide) rfl pv_k_text ?_
      refine px_iv (y := nI (Z.1)) (hP.2.1) ?_
      refine px_bipush (v := nI 7) dX3_isComplete_20 (by decide) ?_
      refine px_icmp_neN (tgt := 29) dX3_isComplete_22 (by decide) (by omega) (by omega) (fun h7 => ?_) (fun h7 => ?_)
      · refine px_iconst (v := nI 0) dX3_isComplete_29 (by decide) ?_
        exact px_zret dX3_isComplete_30 rfl rfl (Or.inl rfl) (by rw [pv_bl0 (by omega)] at h; exact h)
      · refine px_iconst (v := nI 1) dX3_isComplete_25 (by decide) ?_
        refine px_goto (tgt := 30) dX3_isComplete_26 (by decide) ?_
        exact px_zret dX3_isComplete_30 rfl rfl (Or.inl rfl) (by rw [pv_bl1 (by omega)] at h; exact h)
theorem c_X3_isComplete {z : pv_Z} {E : pv_E} {d bc bs : Nat} {J : pv_JT} {I : pv_IT} {mi : pv_MI} {pc idx : Nat} {lv : pv_LV} {st : List Value} {Z : pv_Zp} (hd : decode mi.2.1 pc = .ok (.invokevirtual idx, 3)) (hlk : Cond.methodLink mi.1.cls idx mX3_isComplete.1 ∈ pv_W) (hD : 0+1 ≤ d) (hP : PC I Z) (hz : PZ Z) (hcat : (st.map fun v => v.category).sum ≤ 8) (K : pv_X z E d bc bs mi (pc + 3) lv ((.int (nI (pv_bl (Z.1 = 1 ∨ Z.1 = 5 ∨ Z.1 = 7)))) :: st) pv_K0 pv_P0 (I) (J)) : pv_X z E d bc bs mi pc lv (.ref (355) :: st) pv_K0 pv_P0 I J := by
  obtain ⟨d, rfl⟩ : ∃ d0, d = d0 + 1 := ⟨d - 1, by omega⟩
  have key := px_callV (bc := bc) (bs := bs) (bc1 := 0) (bs1 := 0) (as := []) (E := E) (z := z) (lv := lv) hd mvX3_isComplete hlk pv_s_text (by decide) rfl pv_k_text rfl rfl hcat (by exact Nat.le_of_ble_eq_true rfl) (s_X3_isComplete (by omega) hP hz K)
  rw [Nat.zero_add, Nat.zero_add] at key
  exact key
