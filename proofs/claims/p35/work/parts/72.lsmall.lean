/-! The law: its small methods. -/
set_option maxRecDepth 100000 in
set_option maxHeartbeats 4000000 in
theorem s_L_cell {Q : pv_Q} {E : pv_E} {d bc bs : Nat} {J : pv_JT} {I : pv_IT} {k : Nat} (hDep : 0 ≤ d) (hk : k < 1000) (h : ∀ x : Int32, Q (.inl (some (.int x))) pv_K0 pv_P0 (I) (J)) : pv_X (pv_ZQ E Q) E d bc bs mL_cell 0 [(0, .retAddr 0), (1, .int (nI (k)))] [] pv_K0 pv_P0 I J := by
  refine px_iload_n dL_cell_0 rfl ?_
  refine px_aloadS_n dL_cell_1 rfl ?_
  refine px_slenE dL_cell_2 (fun L hL hLe => ?_)
  refine px_icmp_geN (tgt := 12) dL_cell_3 (by decide) (by omega) (by omega) (fun h0 => ?_) (fun h0 => ?_)
  · refine px_ldc dL_cell_12 q_ldc7 ?_
    refine px_iload_n dL_cell_14 rfl ?_
    refine px_bipush (v := nI 103) dL_cell_15 (by decide) ?_
    refine px_iaddN dL_cell_17 ?_
    refine px_imul dL_cell_18 ?_
    exact px_iret dL_cell_19 rfl (Or.inl rfl) (h _)
  · refine px_aloadS_n dL_cell_6 rfl ?_
    refine px_iload_n dL_cell_7 rfl ?_
    refine px_sldE (j := k) dL_cell_8 (by rw [← hLe]; omega) (fun y => ?_)
    refine px_goto (tgt := 19) dL_cell_9 (by decide) ?_
    exact px_iret dL_cell_19 rfl (Or.inl rfl) (h y)
theorem c_L_cell {z : pv_Z} {E : pv_E} {d bc bs : Nat} {J : pv_JT} {I : pv_IT} {mi : pv_MI} {pc idx : Nat} {lv : pv_LV} {st : List Value} {k : Nat} (hd : decode mi.2.1 pc = .ok (.invokestatic idx, 3)) (hlk : Cond.methodLink mi.1.cls idx mL_cell.1 ∈ pv_W) (hDep : 0+1 ≤ d) (hk : k < 1000) (hcat : (st.map fun v => v.category).sum ≤ 8) (K : ∀ x : Int32, pv_X z E d bc bs mi (pc + 3) lv ((.int x) :: st) pv_K0 pv_P0 (I) (J)) : pv_X z E d bc bs mi pc lv (.int (nI (k)) :: .retAddr 0 :: st) pv_K0 pv_P0 I J := by
  obtain ⟨d, rfl⟩ : ∃ d0, d = d0 + 1 := ⟨d - 1, by omega⟩
  have key := px_callS (bc := bc) (bs := bs) (bc1 := 0) (bs1 := 0) (as := [.retAddr 0, .int (nI (k))]) (E := E) (z := z) (lv := lv) hd msL_cell hlk rfl rfl hcat (by exact Nat.le_of_ble_eq_true rfl) (s_L_cell (by omega) hk K)
  rw [Nat.zero_add, Nat.zero_add] at key
  exact key
set_option maxRecDepth 100000 in
set_option maxHeartbeats 4000000 in
theorem s_L_at {Q : pv_Q} {E : pv_E} {d bc bs : Nat} {J : pv_JT} {I : pv_IT} {x : Int32} {n : Nat} (hDep : 0 ≤ d) (h0 : 0 < n) (hn : n < 2147483648) (h : ∀ j : Nat, j < n → Q (.inl (some (.int (nI j)))) pv_K0 pv_P0 (I) (J)) : pv_X (pv_ZQ E Q) E d bc bs mL_at 0 [(0, .int (x)), (1, .int (nI (n)))] [] pv_K0 pv_P0 I J := by
  refine px_iload_n dL_at_0 rfl ?_
  refine px_iconst (v := nI 1) dL_at_1 (by decide) ?_
  obtain ⟨a, ha, e⟩ := q_ushr x
  refine px_iushr dL_at_2 e ?_
  refine px_iload_n dL_at_3 rfl ?_
  refine px_iremN ha h0 hn dL_at_4 ?_
  exact px_iret dL_at_5 rfl (Or.inl rfl) (h _ (Nat.mod_lt _ h0))
theorem c_L_at {z : pv_Z} {E : pv_E} {d bc bs : Nat} {J : pv_JT} {I : pv_IT} {mi : pv_MI} {pc idx : Nat} {lv : pv_LV} {st : List Value} {x : Int32} {n : Nat} (hd : decode mi.2.1 pc = .ok (.invokestatic idx, 3)) (hlk : Cond.methodLink mi.1.cls idx mL_at.1 ∈ pv_W) (hDep : 0+1 ≤ d) (h0 : 0 < n) (hn : n < 2147483648) (hcat : (st.map fun v => v.category).sum ≤ 8) (K : ∀ j : Nat, j < n → pv_X z E d bc bs mi (pc + 3) lv ((.int (nI j)) :: st) pv_K0 pv_P0 (I) (J)) : pv_X z E d bc bs mi pc lv (.int (nI (n)) :: .int (x) :: st) pv_K0 pv_P0 I J := by
  obtain ⟨d, rfl⟩ : ∃ d0, d = d0 + 1 := ⟨d - 1, by omega⟩
  have key := px_callS (bc := bc) (bs := bs) (bc1 := 0) (bs1 := 0) (as := [.int (x), .int (nI (n))]) (E := E) (z := z) (lv := lv) hd msL_at hlk rfl rfl hcat (by exact Nat.le_of_ble_eq_true rfl) (s_L_at (by omega) h0 hn K)
  rw [Nat.zero_add, Nat.zero_add] at key
  exact key
theorem q_step1 {x : Nat} (h : x ≤ 1) : pt_step x = 1000 := by
  unfold pt_step
  by_cases e : x < 1
  · rw [if_pos e]
  · rw [if_neg e, show x = 1 by omega]
set_option maxRecDepth 100000 in
set_option maxHeartbeats 4000000 in
theorem s_L_step {Q : pv_Q} {E : pv_E} {d bc bs : Nat} {J : pv_JT} {I : pv_IT} {T : pv_T} {k s w : Nat} (hDep : 0 ≤ d) (hK : qK I T) (h4 : T 405 ≤ 4) (hk : k < T 405) (hs : s < 3) (hw9 : w ≤ 1) (hl : ∀ i, i < 24 → T i ≤ 200) (h : Q (.inl (some (.int (nI (pt_step (T (3 * k + (if 0 < w then 0 else s)))))))) pv_K0 pv_P0 (I) (J)) : pv_X (pv_ZQ E Q) E d bc bs mL_step 0 [(0, .int (nI (k))), (1, .int (nI (s))), (2, .int (nI (w))), (3, .ref (366))] [] pv_K0 pv_P0 I J := by
  have hs9 : T 405 ≤ 4 := h4
  refine px_aload_n dL_step_0 rfl ?_
  refine px_bipush (v := nI 8) dL_step_1 (by decide) ?_
  refine px_iload_n dL_step_3 rfl ?_
  refine px_imulN dL_step_4 ?_
  refine px_iload_n dL_step_5 rfl ?_
  refine px_if_eqN (tgt := 13) dL_step_6 (by decide) (by omega) (fun hw => ?_) (fun hw => ?_)
  · refine px_iload_n dL_step_13 rfl ?_
    refine px_iaddN dL_step_14 ?_
    refine px_iald (j := ((8 * k) + s)) dL_step_15 pv_a_ki.1 rfl (by omega) pv_a_ki.2.2 pv_a_ki.2.1 ?_
    refine px_iv (y := nI (T (3 * k + s))) (qK_l hK hk (by omega)) ?_
    have hl1 := hl (3 * k + s) (by omega)
    refine px_istore dL_step_16 (by decide) ?_
    refine px_iload dL_step_18 rfl ?_
    refine px_iconst (v := nI 1) dL_step_20 (by decide) ?_
    refine px_icmp_leN (tgt := 33) dL_step_21 (by decide) (by omega) (by omega) (fun h5 => ?_) (fun h5 => ?_)
    · refine px_sipush (v := nI 1000) dL_step_33 (by decide) ?_
      exact px_iret dL_step_36 rfl (Or.inl rfl) (by rw [if_neg (by omega), q_step1 h5] at h; exact h)
    · refine px_sipush (v := nI 1000) dL_step_24 (by decide) ?_
      refine px_iload dL_step_27 rfl ?_
      refine px_idivN (by omega) (by omega) (by omega) dL_step_29 ?_
      refine px_goto (tgt := 36) dL_step_30 (by decide) ?_
      exact px_iret dL_step_36 rfl (Or.inl rfl) (by rw [if_neg (by omega)] at h; unfold pt_step at h; rw [if_neg (by omega)] at h; exact h)
  · refine px_iconst (v := nI 0) dL_step_9 (by decide) ?_
    refine px_goto (tgt := 14) dL_step_10 (by decide) ?_
    refine px_iaddN dL_step_14 ?_
    refine px_iald (j := ((8 * k) + 0)) dL_step_15 pv_a_ki.1 rfl (by omega) pv_a_ki.2.2 pv_a_ki.2.1 ?_
    refine px_iv (y := nI (T (3 * k + 0))) (qK_l hK hk (by omega)) ?_
    have hl1 := hl (3 * k + 0) (by omega)
    refine px_istore dL_step_16 (by decide) ?_
    refine px_iload dL_step_18 rfl ?_
    refine px_iconst (v := nI 1) dL_step_20 (by decide) ?_
    refine px_icmp_leN (tgt := 33) dL_step_21 (by decide) (by omega) (by omega) (fun h5 => ?_) (fun h5 => ?_)
    · refine px_sipush (v := nI 1000) dL_step_33 (by decide) ?_
      exact px_iret dL_step_36 rfl (Or.inl rfl) (by rw [if_pos (by omega), q_step1 h5] at h; exact h)
    · refine px_sipush (v := nI 1000) dL_step_24 (by decide) ?_
      refine px_iload dL_step_27 rfl ?_
      refine px_idivN (by omega) (by omega) (by omega) dL_step_29 ?_
      refine px_goto (tgt := 36) dL_step_30 (by decide) ?_
      exact px_iret dL_step_36 rfl (Or.inl rfl) (by rw [if_pos (by omega)] at h; unfold pt_step at h; rw [if_neg (by omega)] at h; exact h)
theorem c_L_step {z : pv_Z} {E : pv_E} {d bc bs : Nat} {J : pv_JT} {I : pv_IT} {mi : pv_MI} {pc idx : Nat} {lv : pv_LV} {st : List Value} {T : pv_T} {k s w : Nat} (hd : decode mi.2.1 pc = .ok (.invokestatic idx, 3)) (hlk : Cond.methodLink mi.1.cls idx mL_step.1 ∈ pv_W) (hDep : 0+1 ≤ d) (hK : qK I T) (h4 : T 405 ≤ 4) (hk : k < T 405) (hs : s < 3) (hw9 : w ≤ 1) (hl : ∀ i, i < 24 → T i ≤ 200) (hcat : (st.map fun v => v.category).sum ≤ 8) (K : pv_X z E d bc bs mi (pc + 3) lv ((.int (nI (pt_step (T (3 * k + (if 0 < w then 0 else s)))))) :: st) pv_K0 pv_P0 (I) (J)) : pv_X z E d bc bs mi pc lv (.ref (366) :: .int (nI (w)) :: .int (nI (s)) :: .int (nI (k)) :: st) pv_K0 pv_P0 I J := by
  obtain ⟨d, rfl⟩ : ∃ d0, d = d0 + 1 := ⟨d - 1, by omega⟩
  have key := px_callS (bc := bc) (bs := bs) (bc1 := 0) (bs1 := 0) (as := [.int (nI (k)), .int (nI (s)), .int (nI (w)), .ref (366)]) (E := E) (z := z) (lv := lv) hd msL_step hlk rfl rfl hcat (by exact Nat.le_of_ble_eq_true rfl) (s_L_step (by omega) hK h4 hk hs hw9 hl K)
  rw [Nat.zero_add, Nat.zero_add] at key
  exact key
set_option maxRecDepth 100000 in
set_option maxHeartbeats 4000000 in
theorem s_L_left {Q : pv_Q} {E : pv_E} {d bc bs : Nat} {J : pv_JT} {I : pv_IT} {T : pv_T} {L : List pv_Lot} {n l : Nat} (hDep : 1 ≤ d) (hD : qD I T n) (hK : qK I T) (hL : qL I L) (h4 : T 405 ≤ 4) (hb : tb T) (hl : l < L.length) (h11 : L.length ≤ 12) (hx : lb (pl_g L l)) (hxk : (pl_g L l).1 < T 405) (hxa : (pl_g L l).2.2.2 ≤ 1000) (h : Q (.inl (some (.int (nI (pt_left T (pl_g L l)))))) pv_K0 pv_P0 (I) (J)) : pv_X (pv_ZQ E Q) E d bc bs mL_left 0 [(0, .int (nI (l))), (1, .ref (365)), (2, .ref (366)), (3, .ref (367))] [] pv_K0 pv_P0 I J := by
  have hr := hL l hl
  unfold lb at hx
  have hw := (hb.2.1 _ hx.2.1).2
  have g1 := pt_life_le hb hx.1 (s := 0) (by omega)
  have g2 := pt_life_le hb hx.1 hx.2.1
  have s1 := pt_step_ge g1
  have s2 := pt_step_ge g2
  have s3 := @pt_step_le (pt_life T (pl_g L l).1 0)
  have s4 := @pt_step_le (pt_life T (pl_g L l).1 (pl_g L l).2.1)
  have hm := Nat.mul_le_mul hw s3
  have hcm : pt_step (pt_life T (pl_g L l).1 0) * T (67 + (pl_g L l).2.1) = T (67 + (pl_g L l).2.1) * pt_step (pt_life T (pl_g L l).1 0) := Nat.mul_comm _ _
  unfold pt_left at h
  unfold pt_steps at h
  refine px_iconst (v := nI 4) dL_left_0 (by decide) ?_
  refine px_iload_n dL_left_1 rfl ?_
  refine px_imulN dL_left_2 ?_
  refine px_istore dL_left_3 (by decide) ?_
  refine px_aload_n dL_left_5 rfl ?_
  refine px_iload dL_left_6 rfl ?_
  refine px_iconst (v := nI 1) dL_left_8 (by decide) ?_
  refine px_iaddN dL_left_9 ?_
  refine px_iald (j := ((4 * l) + 1)) dL_left_10 pv_a_lo.1 rfl (by omega) pv_a_lo.2.2 pv_a_lo.2.1 ?_
  refine px_iv (y := nI ((pl_g L l).2.1)) (hr.2.1) ?_
  refine px_istore dL_left_11 (by decide) ?_
  refine px_sipush (v := nI 1000) dL_left_13 (by decide) ?_
  refine px_aload_n dL_left_16 rfl ?_
  refine px_iload dL_left_17 rfl ?_
  refine px_iconst (v := nI 3) dL_left_19 (by decide) ?_
  refine px_iaddN dL_left_20 ?_
  refine px_iald (j := ((4 * l) + 3)) dL_left_21 pv_a_lo.1 rfl (by omega) pv_a_lo.2.2 pv_a_lo.2.1 ?_
  refine px_iv (y := nI ((pl_g L l).2.2.2)) (hr.2.2.2) ?_
  refine px_isubN (by omega) dL_left_22 ?_
  refine px_istore dL_left_23 (by decide) ?_
  refine px_aload_n dL_left_25 rfl ?_
  refine px_bipush (v := nI 11) dL_left_26 (by decide) ?_
  refine px_iload dL_left_28 rfl ?_
  refine px_iaddN dL_left_30 ?_
  refine px_iald (j := (11 + ((pl_g L l).2.1))) dL_left_31 pv_a_d.1 rfl (by omega) pv_a_d.2.2 pv_a_d.2.1 ?_
  refine px_iv (y := nI (T (67 + (pl_g L l).2.1))) (qD_11 hD hx.2.1) ?_
  refine px_istore dL_left_32 (by decide) ?_
  refine px_aload_n dL_left_34 rfl ?_
  refine px_iload dL_left_35 rfl ?_
  refine px_iald (j := (4 * l)) dL_left_37 pv_a_lo.1 rfl (by omega) pv_a_lo.2.2 pv_a_lo.2.1 ?_
  refine px_iv (y := nI ((pl_g L l).1)) (hr.1) ?_
  refine px_iload dL_left_38 rfl ?_
  refine px_iconst (v := nI 1) dL_left_40 (by decide) ?_
  refine px_aload_n dL_left_41 rfl ?_
  refine c_L_step dL_left_42 mlL_8 (by omega) hK h4 hxk hx.2.1 (by omega) hb.1 (Nat.le_of_ble_eq_true rfl) ?_
  refine px_iv (y := nI (pt_step (pt_life T (pl_g L l).1 0))) (congrArg nI (congrArg pt_step q_life0)) ?_
  refine px_istore dL_left_45 (by decide) ?_
  refine px_aload_n dL_left_47 rfl ?_
  refine px_iload dL_left_48 rfl ?_
  refine px_iald (j := (4 * l)) dL_left_50 pv_a_lo.1 rfl (by omega) pv_a_lo.2.2 pv_a_lo.2.1 ?_
  refine px_iv (y := nI ((pl_g L l).1)) (hr.1) ?_
  refine px_iload dL_left_51 rfl ?_
  refine px_iconst (v := nI 0) dL_left_53 (by decide) ?_
  refine px_aload_n dL_left_54 rfl ?_
  refine c_L_step dL_left_55 mlL_8 (by omega) hK h4 hxk hx.2.1 (by omega) hb.1 (Nat.le_of_ble_eq_true rfl) ?_
  refine px_iv (y := nI (pt_step (pt_life T (pl_g L l).1 (pl_g L l).2.1))) (congrArg nI (congrArg pt_step q_life1)) ?_
  refine px_istore dL_left_58 (by decide) ?_
  refine px_iload dL_left_60 rfl ?_
  refine px_iload dL_left_62 rfl ?_
  refine px_imulN dL_left_64 ?_
  refine px_iload dL_left_65 rfl ?_
  refine px_icmp_ltN (tgt := 81) dL_left_67 (by decide) (by omega) (by omega) (fun h0 => ?_) (fun h0 => ?_)
  · refine px_iload dL_left_81 rfl ?_
    refine px_iload dL_left_83 rfl ?_
    refine px_iload dL_left_85 rfl ?_
    refine px_iload dL_left_87 rfl ?_
    refine px_imulN dL_left_89 ?_
    refine px_isubN (by omega) dL_left_90 ?_
    refine px_iload dL_left_91 rfl ?_
    refine px_iaddN dL_left_93 ?_
    refine px_iconst (v := nI 1) dL_left_94 (by decide) ?_
    refine px_isubN (by omega) dL_left_95 ?_
    refine px_iload dL_left_96 rfl ?_
    refine px_idivN (by omega) (by omega) (by omega) dL_left_98 ?_
    refine px_iaddN dL_left_99 ?_
    exact px_iret dL_left_100 rfl (Or.inl rfl) (by rw [if_neg (by omega), ← hcm] at h; exact h)
  · refine px_iload dL_left_70 rfl ?_
    refine px_iload dL_left_72 rfl ?_
    refine px_iaddN dL_left_74 ?_
    refine px_iconst (v := nI 1) dL_left_75 (by decide) ?_
    refine px_isubN (by omega) dL_left_76 ?_
    refine px_iload dL_left_77 rfl ?_
    refine px_idivN (by omega) (by omega) (by omega) dL_left_79 ?_
    exact px_iret dL_left_80 rfl (Or.inl rfl) (by rw [if_pos (by omega)] at h; exact h)
theorem c_L_left {z : pv_Z} {E : pv_E} {d bc bs : Nat} {J : pv_JT} {I : pv_IT} {mi : pv_MI} {pc idx : Nat} {lv : pv_LV} {st : List Value} {T : pv_T} {L : List pv_Lot} {n l : Nat} (hd : decode mi.2.1 pc = .ok (.invokestatic idx, 3)) (hlk : Cond.methodLink mi.1.cls idx mL_left.1 ∈ pv_W) (hDep : 1+1 ≤ d) (hD : qD I T n) (hK : qK I T) (hL : qL I L) (h4 : T 405 ≤ 4) (hb : tb T) (hl : l < L.length) (h11 : L.length ≤ 12) (hx : lb (pl_g L l)) (hxk : (pl_g L l).1 < T 405) (hxa : (pl_g L l).2.2.2 ≤ 1000) (hcat : (st.map fun v => v.category).sum ≤ 8) (K : pv_X z E d bc bs mi (pc + 3) lv ((.int (nI (pt_left T (pl_g L l)))) :: st) pv_K0 pv_P0 (I) (J)) : pv_X z E d bc bs mi pc lv (.ref (367) :: .ref (366) :: .ref (365) :: .int (nI (l)) :: st) pv_K0 pv_P0 I J := by
  obtain ⟨d, rfl⟩ : ∃ d0, d = d0 + 1 := ⟨d - 1, by omega⟩
  have key := px_callS (bc := bc) (bs := bs) (bc1 := 0) (bs1 := 0) (as := [.int (nI (l)), .ref (365), .ref (366), .ref (367)]) (E := E) (z := z) (lv := lv) hd msL_left hlk rfl rfl hcat (by exact Nat.le_of_ble_eq_true rfl) (s_L_left (by omega) hD hK hL h4 hb hl h11 hx hxk hxa K)
  rw [Nat.zero_add, Nat.zero_add] at key
  exact key
set_option maxRecDepth 100000 in
set_option maxHeartbeats 4000000 in
theorem s_L_held_all {Q : pv_Q} {E : pv_E} {d bc bs : Nat} {J : pv_JT} {I : pv_IT} {L : List pv_Lot} {T : pv_T} (hDep : 0 ≤ d) (hD : qD I T L.length) (hL : qL I L) (h11 : L.length ≤ 12) (hlb : lbs L) (h : Q (.inl (some (.int (nI (ps_all L))))) pv_K0 pv_P0 (I) (J)) : pv_X (pv_ZQ E Q) E d bc bs mL_held 0 [(0, .int (-1)), (1, .int (nI (0))), (2, .ref (365)), (3, .ref (367))] [] pv_K0 pv_P0 I J := by
  have key : ∀ i : Nat, i ≤ L.length → pv_X (pv_ZQ E Q) E d bc bs mL_held 6 [(0, .int (-1)), (1, .int (nI 0)), (2, .ref 365), (3, .ref 367), (4, .int (nI (pn_sum (fun l => (pl_g L l).2.2.1) (i)))), (5, .int (nI (i)))] [] pv_K0 pv_P0 (I) (J) := by
    refine pv_up (L.length) ?_ ?_
    · have hlb9 := hlb
      refine px_iload dL_held_6 rfl ?_
      refine px_aload_n dL_held_8 rfl ?_
      refine px_iconst (v := nI 1) dL_held_9 (by decide) ?_
      refine px_iald (j := 1) dL_held_10 pv_a_d.1 rfl (by omega) pv_a_d.2.2 pv_a_d.2.1 ?_
      refine px_iv (y := nI (L.length)) (hD.1) ?_
      refine px_icmp_geN (tgt := 49) dL_held_11 (by decide) (by omega) (by omega) (fun _ => ?_) (fun h0 => absurd h0 (by omega))
      refine px_iload dL_held_49 rfl ?_
      exact px_iret dL_held_51 rfl (Or.inl rfl) (h)
    · intro i hi K 
      have hr := hL i hi
      have hx := hlb.2 i hi
      unfold lb at hx
      refine px_iload dL_held_6 rfl ?_
      refine px_aload_n dL_held_8 rfl ?_
      refine px_iconst (v := nI 1) dL_held_9 (by decide) ?_
      refine px_iald (j := 1) dL_held_10 pv_a_d.1 rfl (by omega) pv_a_d.2.2 pv_a_d.2.1 ?_
      refine px_iv (y := nI (L.length)) (hD.1) ?_
      refine px_icmp_geN (tgt := 49) dL_held_11 (by decide) (by omega) (by omega) (fun h0 => absurd h0 (by omega)) (fun _ => ?_)
      refine px_iload_n dL_held_14 rfl ?_
      refine px_if_lt (tgt := 30) dL_held_15 (by decide) (fun _ => ?_) (fun h9 => absurd (by decide) h9)
      refine px_iload dL_held_30 rfl ?_
      refine px_aload_n dL_held_32 rfl ?_
      refine px_iconst (v := nI 4) dL_held_33 (by decide) ?_
      refine px_iload dL_held_34 rfl ?_
      refine px_imulN dL_held_36 ?_
      refine px_iconst (v := nI 2) dL_held_37 (by decide) ?_
      refine px_iaddN dL_held_38 ?_
      refine px_iald (j := ((4 * i) + 2)) dL_held_39 pv_a_lo.1 rfl (by omega) pv_a_lo.2.2 pv_a_lo.2.1 ?_
      refine px_iv (y := nI ((pl_g L i).2.2.1)) (hr.2.2.1) ?_
      refine px_iaddN dL_held_40 ?_
      refine px_istore dL_held_41 (by decide) ?_
      refine px_iincN (c := 1) (by decide) dL_held_43 rfl (by decide) ?_
      refine px_goto (tgt := 6) dL_held_46 (by decide) ?_
      refine px_keep [0, 1, 2, 3, 4, 5] ?_
      exact K
  refine px_iconst (v := nI 0) dL_held_0 (by decide) ?_
  refine px_istore dL_held_1 (by decide) ?_
  refine px_iconst (v := nI 0) dL_held_3 (by decide) ?_
  refine px_istore dL_held_4 (by decide) ?_
  exact key 0 (by omega)
theorem c_L_held_all {z : pv_Z} {E : pv_E} {d bc bs : Nat} {J : pv_JT} {I : pv_IT} {mi : pv_MI} {pc idx : Nat} {lv : pv_LV} {st : List Value} {L : List pv_Lot} {T : pv_T} (hd : decode mi.2.1 pc = .ok (.invokestatic idx, 3)) (hlk : Cond.methodLink mi.1.cls idx mL_held.1 ∈ pv_W) (hDep : 0+1 ≤ d) (hD : qD I T L.length) (hL : qL I L) (h11 : L.length ≤ 12) (hlb : lbs L) (hcat : (st.map fun v => v.category).sum ≤ 8) (K : pv_X z E d bc bs mi (pc + 3) lv ((.int (nI (ps_all L))) :: st) pv_K0 pv_P0 (I) (J)) : pv_X z E d bc bs mi pc lv (.ref (367) :: .ref (365) :: .int (nI (0)) :: .int (-1) :: st) pv_K0 pv_P0 I J := by
  obtain ⟨d, rfl⟩ : ∃ d0, d = d0 + 1 := ⟨d - 1, by omega⟩
  have key := px_callS (bc := bc) (bs := bs) (bc1 := 0) (bs1 := 0) (as := [.int (-1), .int (nI (0)), .ref (365), .ref (367)]) (E := E) (z := z) (lv := lv) hd msL_held hlk rfl rfl hcat (by exact Nat.le_of_ble_eq_true rfl) (s_L_held_all (by omega) hD hL h11 hlb K)
  rw [Nat.zero_add, Nat.zero_add] at key
  exact key
set_option maxRecDepth 100000 in
set_option maxHeartbeats 4000000 in
theorem s_L_held_in {Q : pv_Q} {E : pv_E} {d bc bs : Nat} {J : pv_JT} {I : pv_IT} {L : List pv_Lot} {T : pv_T} {s : Nat} (hDep : 0 ≤ d) (hD : qD I T L.length) (hL : qL I L) (h11 : L.length ≤ 12) (hlb : lbs L) (hs : s < 100) (h : Q (.inl (some (.int (nI (ps_in L s))))) pv_K0 pv_P0 (I) (J)) : pv_X (pv_ZQ E Q) E d bc bs mL_held 0 [(0, .int (nI (1))), (1, .int (nI (s))), (2, .ref (365)), (3, .ref (367))] [] pv_K0 pv_P0 I J := by
  have key : ∀ i : Nat, i ≤ L.length → pv_X (pv_ZQ E Q) E d bc bs mL_held 6 [(0, .int (nI 1)), (1, .int (nI s)), (2, .ref 365), (3, .ref 367), (4, .int (nI (pn_sum (fun l => if (pl_g L l).2.1 = s then (pl_g L l).2.2.1 else 0) (i)))), (5, .int (nI (i)))] [] pv_K0 pv_P0 (I) (J) := by
    refine pv_up (L.length) ?_ ?_
    · have hlb9 := hlb
      refine px_iload dL_held_6 rfl ?_
      refine px_aload_n dL_held_8 rfl ?_
      refine px_iconst (v := nI 1) dL_held_9 (by decide) ?_
      refine px_iald (j := 1) dL_held_10 pv_a_d.1 rfl (by omega) pv_a_d.2.2 pv_a_d.2.1 ?_
      refine px_iv (y := nI (L.length)) (hD.1) ?_
      refine px_icmp_geN (tgt := 49) dL_held_11 (by decide) (by omega) (by omega) (fun _ => ?_) (fun h0 => absurd h0 (by omega))
      refine px_iload dL_held_49 rfl ?_
      exact px_iret dL_held_51 rfl (Or.inl rfl) (h)
    · intro i hi K 
      have hr := hL i hi
      have hx := hlb.2 i hi
      unfold lb at hx
      refine px_iload dL_held_6 rfl ?_
      refine px_aload_n dL_held_8 rfl ?_
      refine px_iconst (v := nI 1) dL_held_9 (by decide) ?_
      refine px_iald (j := 1) dL_held_10 pv_a_d.1 rfl (by omega) pv_a_d.2.2 pv_a_d.2.1 ?_
      refine px_iv (y := nI (L.length)) (hD.1) ?_
      refine px_icmp_geN (tgt := 49) dL_held_11 (by decide) (by omega) (by omega) (fun h0 => absurd h0 (by omega)) (fun _ => ?_)
      refine px_iload_n dL_held_14 rfl ?_
      refine px_if_ltN (tgt := 30) dL_held_15 (by decide) (by omega) ?_
      refine px_aload_n dL_held_18 rfl ?_
      refine px_iconst (v := nI 4) dL_held_19 (by decide) ?_
      refine px_iload dL_held_20 rfl ?_
      refine px_imulN dL_held_22 ?_
      refine px_iload_n dL_held_23 rfl ?_
      refine px_iaddN dL_held_24 ?_
      refine px_iald (j := ((4 * i) + 1)) dL_held_25 pv_a_lo.1 rfl (by omega) pv_a_lo.2.2 pv_a_lo.2.1 ?_
      refine px_iv (y := nI ((pl_g L i).2.1)) (hr.2.1) ?_
      refine px_iload_n dL_held_26 rfl ?_
      refine px_icmp_neN (tgt := 43) dL_held_27 (by decide) (by omega) (by omega) (fun h0 => ?_) (fun h0 => ?_)
      · refine px_iincN (c := 1) (by decide) dL_held_43 rfl (by decide) ?_
        refine px_goto (tgt := 6) dL_held_46 (by decide) ?_
        refine px_keep [0, 1, 2, 3, 4, 5] ?_
        unfold pn_sum at K; rw [if_neg h0] at K; exact K
      · refine px_iload dL_held_30 rfl ?_
        refine px_aload_n dL_held_32 rfl ?_
        refine px_iconst (v := nI 4) dL_held_33 (by decide) ?_
        refine px_iload dL_held_34 rfl ?_
        refine px_imulN dL_held_36 ?_
        refine px_iconst (v := nI 2) dL_held_37 (by decide) ?_
        refine px_iaddN dL_held_38 ?_
        refine px_iald (j := ((4 * i) + 2)) dL_held_39 pv_a_lo.1 rfl (by omega) pv_a_lo.2.2 pv_a_lo.2.1 ?_
        refine px_iv (y := nI ((pl_g L i).2.2.1)) (hr.2.2.1) ?_
        refine px_iaddN dL_held_40 ?_
        refine px_istore dL_held_41 (by decide) ?_
        refine px_iincN (c := 1) (by decide) dL_held_43 rfl (by decide) ?_
        refine px_goto (tgt := 6) dL_held_46 (by decide) ?_
        refine px_keep [0, 1, 2, 3, 4, 5] ?_
        unfold pn_sum at K; rw [if_pos h0] at K; exact K
  refine px_iconst (v := nI 0) dL_held_0 (by decide) ?_
  refine px_istore dL_held_1 (by decide) ?_
  refine px_iconst (v := nI 0) dL_held_3 (by decide) ?_
  refine px_istore dL_held_4 (by decide) ?_
  exact key 0 (by omega)
theorem c_L_held_in {z : pv_Z} {E : pv_E} {d bc bs : Nat} {J : pv_JT} {I : pv_IT} {mi : pv_MI} {pc idx : Nat} {lv : pv_LV} {st : List Value} {L : List pv_Lot} {T : pv_T} {s : Nat} (hd : decode mi.2.1 pc = .ok (.invokestatic idx, 3)) (hlk : Cond.methodLink mi.1.cls idx mL_held.1 ∈ pv_W) (hDep : 0+1 ≤ d) (hD : qD I T L.length) (hL : qL I L) (h11 : L.length ≤ 12) (hlb : lbs L) (hs : s < 100) (hcat : (st.map fun v => v.category).sum ≤ 8) (K : pv_X z E d bc bs mi (pc + 3) lv ((.int (nI (ps_in L s))) :: st) pv_K0 pv_P0 (I) (J)) : pv_X z E d bc bs mi pc lv (.ref (367) :: .ref (365) :: .int (nI (s)) :: .int (nI (1)) :: st) pv_K0 pv_P0 I J := by
  obtain ⟨d, rfl⟩ : ∃ d0, d = d0 + 1 := ⟨d - 1, by omega⟩
  have key := px_callS (bc := bc) (bs := bs) (bc1 := 0) (bs1 := 0) (as := [.int (nI (1)), .int (nI (s)), .ref (365), .ref (367)]) (E := E) (z := z) (lv := lv) hd msL_held hlk rfl rfl hcat (by exact Nat.le_of_ble_eq_true rfl) (s_L_held_in (by omega) hD hL h11 hlb hs K)
  rw [Nat.zero_add, Nat.zero_add] at key
  exact key
set_option maxRecDepth 100000 in
set_option maxHeartbeats 4000000 in
theorem s_L_held_of {Q : pv_Q} {E : pv_E} {d bc bs : Nat} {J : pv_JT} {I : pv_IT} {L : List pv_Lot} {T : pv_T} {s : Nat} (hDep : 0 ≤ d) (hD : qD I T L.length) (hL : qL I L) (h11 : L.length ≤ 12) (hlb : lbs L) (hs : s < 100) (h : Q (.inl (some (.int (nI (ps_of L s))))) pv_K0 pv_P0 (I) (J)) : pv_X (pv_ZQ E Q) E d bc bs mL_held 0 [(0, .int (nI (0))), (1, .int (nI (s))), (2, .ref (365)), (3, .ref (367))] [] pv_K0 pv_P0 I J := by
  have key : ∀ i : Nat, i ≤ L.length → pv_X (pv_ZQ E Q) E d bc bs mL_held 6 [(0, .int (nI 0)), (1, .int (nI s)), (2, .ref 365), (3, .ref 367), (4, .int (nI (pn_sum (fun l => if (pl_g L l).1 = s then (pl_g L l).2.2.1 else 0) (i)))), (5, .int (nI (i)))] [] pv_K0 pv_P0 (I) (J) := by
    refine pv_up (L.length) ?_ ?_
    · have hlb9 := hlb
      refine px_iload dL_held_6 rfl ?_
      refine px_aload_n dL_held_8 rfl ?_
      refine px_iconst (v := nI 1) dL_held_9 (by decide) ?_
      refine px_iald (j := 1) dL_held_10 pv_a_d.1 rfl (by omega) pv_a_d.2.2 pv_a_d.2.1 ?_
      refine px_iv (y := nI (L.length)) (hD.1) ?_
      refine px_icmp_geN (tgt := 49) dL_held_11 (by decide) (by omega) (by omega) (fun _ => ?_) (fun h0 => absurd h0 (by omega))
      refine px_iload dL_held_49 rfl ?_
      exact px_iret dL_held_51 rfl (Or.inl rfl) (h)
    · intro i hi K 
      have hr := hL i hi
      have hx := hlb.2 i hi
      unfold lb at hx
      refine px_iload dL_held_6 rfl ?_
      refine px_aload_n dL_held_8 rfl ?_
      refine px_iconst (v := nI 1) dL_held_9 (by decide) ?_
      refine px_iald (j := 1) dL_held_10 pv_a_d.1 rfl (by omega) pv_a_d.2.2 pv_a_d.2.1 ?_
      refine px_iv (y := nI (L.length)) (hD.1) ?_
      refine px_icmp_geN (tgt := 49) dL_held_11 (by decide) (by omega) (by omega) (fun h0 => absurd h0 (by omega)) (fun _ => ?_)
      refine px_iload_n dL_held_14 rfl ?_
      refine px_if_ltN (tgt := 30) dL_held_15 (by decide) (by omega) ?_
      refine px_aload_n dL_held_18 rfl ?_
      refine px_iconst (v := nI 4) dL_held_19 (by decide) ?_
      refine px_iload dL_held_20 rfl ?_
      refine px_imulN dL_held_22 ?_
      refine px_iload_n dL_held_23 rfl ?_
      refine px_iaddN dL_held_24 ?_
      refine px_iald (j := ((4 * i) + 0)) dL_held_25 pv_a_lo.1 rfl (by omega) pv_a_lo.2.2 pv_a_lo.2.1 ?_
      refine px_iv (y := nI ((pl_g L i).1)) (hr.1) ?_
      refine px_iload_n dL_held_26 rfl ?_
      refine px_icmp_neN (tgt := 43) dL_held_27 (by decide) (by omega) (by omega) (fun h0 => ?_) (fun h0 => ?_)
      · refine px_iincN (c := 1) (by decide) dL_held_43 rfl (by decide) ?_
        refine px_goto (tgt := 6) dL_held_46 (by decide) ?_
        refine px_keep [0, 1, 2, 3, 4, 5] ?_
        unfold pn_sum at K; rw [if_neg h0] at K; exact K
      · refine px_iload dL_held_30 rfl ?_
        refine px_aload_n dL_held_32 rfl ?_
        refine px_iconst (v := nI 4) dL_held_33 (by decide) ?_
        refine px_iload dL_held_34 rfl ?_
        refine px_imulN dL_held_36 ?_
        refine px_iconst (v := nI 2) dL_held_37 (by decide) ?_
        refine px_iaddN dL_held_38 ?_
        refine px_iald (j := ((4 * i) + 2)) dL_held_39 pv_a_lo.1 rfl (by omega) pv_a_lo.2.2 pv_a_lo.2.1 ?_
        refine px_iv (y := nI ((pl_g L i).2.2.1)) (hr.2.2.1) ?_
        refine px_iaddN dL_held_40 ?_
        refine px_istore dL_held_41 (by decide) ?_
        refine px_iincN (c := 1) (by decide) dL_held_43 rfl (by decide) ?_
        refine px_goto (tgt := 6) dL_held_46 (by decide) ?_
        refine px_keep [0, 1, 2, 3, 4, 5] ?_
        unfold pn_sum at K; rw [if_pos h0] at K; exact K
  refine px_iconst (v := nI 0) dL_held_0 (by decide) ?_
  refine px_istore dL_held_1 (by decide) ?_
  refine px_iconst (v := nI 0) dL_held_3 (by decide) ?_
  refine px_istore dL_held_4 (by decide) ?_
  exact key 0 (by omega)
theorem c_L_held_of {z : pv_Z} {E : pv_E} {d bc bs : Nat} {J : pv_JT} {I : pv_IT} {mi : pv_MI} {pc idx : Nat} {lv : pv_LV} {st : List Value} {L : List pv_Lot} {T : pv_T} {s : Nat} (hd : decode mi.2.1 pc = .ok (.invokestatic idx, 3)) (hlk : Cond.methodLink mi.1.cls idx mL_held.1 ∈ pv_W) (hDep : 0+1 ≤ d) (hD : qD I T L.length) (hL : qL I L) (h11 : L.length ≤ 12) (hlb : lbs L) (hs : s < 100) (hcat : (st.map fun v => v.category).sum ≤ 8) (K : pv_X z E d bc bs mi (pc + 3) lv ((.int (nI (ps_of L s))) :: st) pv_K0 pv_P0 (I) (J)) : pv_X z E d bc bs mi pc lv (.ref (367) :: .ref (365) :: .int (nI (s)) :: .int (nI (0)) :: st) pv_K0 pv_P0 I J := by
  obtain ⟨d, rfl⟩ : ∃ d0, d = d0 + 1 := ⟨d - 1, by omega⟩
  have key := px_callS (bc := bc) (bs := bs) (bc1 := 0) (bs1 := 0) (as := [.int (nI (0)), .int (nI (s)), .ref (365), .ref (367)]) (E := E) (z := z) (lv := lv) hd msL_held hlk rfl rfl hcat (by exact Nat.le_of_ble_eq_true rfl) (s_L_held_of (by omega) hD hL h11 hlb hs K)
  rw [Nat.zero_add, Nat.zero_add] at key
  exact key
set_option maxRecDepth 100000 in
set_option maxHeartbeats 4000000 in
theorem s_L_ahead {Q : pv_Q} {E : pv_E} {d bc bs : Nat} {J : pv_JT} {I : pv_IT} {Dm : Nat → Nat} {a b N : Nat} (hDep : 0 ≤ d) (hM : ∀ l, l < N → I 370 l = nI (Dm l) ∧ Dm l ≤ 2100) (hN : N ≤ 12) (ha : a < N) (hb : b < N) (h : Q (.inl (some (.int (nI (pv_bl (Dm a < Dm b ∨ (Dm a = Dm b ∧ a < b))))))) pv_K0 pv_P0 (I) (J)) : pv_X (pv_ZQ E Q) E d bc bs mL_ahead 0 [(0, .int (nI (a))), (1, .int (nI (b))), (2, .ref (370))] [] pv_K0 pv_P0 I J := by
  refine px_aload_n dL_ahead_0 rfl ?_
  refine px_iload_n dL_ahead_1 rfl ?_
  refine px_iald (j := a) dL_ahead_2 pv_a_days.1 rfl (by omega) pv_a_days.2.2 pv_a_days.2.1 ?_
  refine px_iv (y := nI (Dm a)) ((hM a ha).1) ?_
  refine px_aload_n dL_ahead_3 rfl ?_
  refine px_iload_n dL_ahead_4 rfl ?_
  refine px_iald (j := b) dL_ahead_5 pv_a_days.1 rfl (by omega) pv_a_days.2.2 pv_a_days.2.1 ?_
  refine px_iv (y := nI (Dm b)) ((hM b hb).1) ?_
  have h1 := (hM a ha).2
  have h2 := (hM b hb).2
  refine px_icmp_ltN (tgt := 23) dL_ahead_6 (by decide) (by omega) (by omega) (fun h5 => ?_) (fun h5 => ?_)
  · refine px_iconst (v := nI 1) dL_ahead_23 (by decide) ?_
    refine px_goto (tgt := 28) dL_ahead_24 (by decide) ?_
    exact px_zret dL_ahead_28 rfl rfl (Or.inl rfl) (pq_i h (by rw [pv_bl1 (by omega)]))
  · refine px_aload_n dL_ahead_9 rfl ?_
    refine px_iload_n dL_ahead_10 rfl ?_
    refine px_iald (j := a) dL_ahead_11 pv_a_days.1 rfl (by omega) pv_a_days.2.2 pv_a_days.2.1 ?_
    refine px_iv (y := nI (Dm a)) ((hM a ha).1) ?_
    refine px_aload_n dL_ahead_12 rfl ?_
    refine px_iload_n dL_ahead_13 rfl ?_
    refine px_iald (j := b) dL_ahead_14 pv_a_days.1 rfl (by omega) pv_a_days.2.2 pv_a_days.2.1 ?_
    refine px_iv (y := nI (Dm b)) ((hM b hb).1) ?_
    refine px_icmp_neN (tgt := 27) dL_ahead_15 (by decide) (by omega) (by omega) (fun h6 => ?_) (fun h6 => ?_)
    · refine px_iconst (v := nI 0) dL_ahead_27 (by decide) ?_
      exact px_zret dL_ahead_28 rfl rfl (Or.inl rfl) (pq_i h (by rw [pv_bl0 (by omega)]))
    · refine px_iload_n dL_ahead_18 rfl ?_
      refine px_iload_n dL_ahead_19 rfl ?_
      refine px_icmp_geN (tgt := 27) dL_ahead_20 (by decide) (by omega) (by omega) (fun h7 => ?_) (fun h7 => ?_)
      · refine px_iconst (v := nI 0) dL_ahead_27 (by decide) ?_
        exact px_zret dL_ahead_28 rfl rfl (Or.inl rfl) (pq_i h (by rw [pv_bl0 (by omega)]))
      · refine px_iconst (v := nI 1) dL_ahead_23 (by decide) ?_
        refine px_goto (tgt := 28) dL_ahead_24 (by decide) ?_
        exact px_zret dL_ahead_28 rfl rfl (Or.inl rfl) (pq_i h (by rw [pv_bl1 (by omega)]))
theorem c_L_ahead {z : pv_Z} {E : pv_E} {d bc bs : Nat} {J : pv_JT} {I : pv_IT} {mi : pv_MI} {pc idx : Nat} {lv : pv_LV} {st : List Value} {Dm : Nat → Nat} {a b N : Nat} (hd : decode mi.2.1 pc = .ok (.invokestatic idx, 3)) (hlk : Cond.methodLink mi.1.cls idx mL_ahead.1 ∈ pv_W) (hDep : 0+1 ≤ d) (hM : ∀ l, l < N → I 370 l = nI (Dm l) ∧ Dm l ≤ 2100) (hN : N ≤ 12) (ha : a < N) (hb : b < N) (hcat : (st.map fun v => v.category).sum ≤ 8) (K : pv_X z E d bc bs mi (pc + 3) lv ((.int (nI (pv_bl (Dm a < Dm b ∨ (Dm a = Dm b ∧ a < b))))) :: st) pv_K0 pv_P0 (I) (J)) : pv_X z E d bc bs mi pc lv (.ref (370) :: .int (nI (b)) :: .int (nI (a)) :: st) pv_K0 pv_P0 I J := by
  obtain ⟨d, rfl⟩ : ∃ d0, d = d0 + 1 := ⟨d - 1, by omega⟩
  have key := px_callS (bc := bc) (bs := bs) (bc1 := 0) (bs1 := 0) (as := [.int (nI (a)), .int (nI (b)), .ref (370)]) (E := E) (z := z) (lv := lv) hd msL_ahead hlk rfl rfl hcat (by exact Nat.le_of_ble_eq_true rfl) (s_L_ahead (by omega) hM hN ha hb K)
  rw [Nat.zero_add, Nat.zero_add] at key
  exact key
set_option maxRecDepth 100000 in
set_option maxHeartbeats 4000000 in
theorem s_L_sum {Q : pv_Q} {E : pv_E} {d bc bs : Nat} {J : pv_JT} {I : pv_IT} {T : pv_T} {n : Nat} (hDep : 0 ≤ d) (hD : qD I T n) (hK : qK I T) (h4 : T 405 ≤ 4) (h : Q (.inl (some (.int (nI (pn_sum (fun k => T (26 + 5 * k)) (T 405)))))) pv_K0 pv_P0 (I) (J)) : pv_X (pv_ZQ E Q) E d bc bs mL_sum 0 [(0, .int (nI (5))), (1, .ref (365)), (2, .ref (366))] [] pv_K0 pv_P0 I J := by
  have hn8 := h4
  have key : ∀ i : Nat, i ≤ T 405 → pv_X (pv_ZQ E Q) E d bc bs mL_sum 5 [(0, .int (nI 5)), (1, .ref 365), (2, .ref 366), (3, .int (nI (pn_sum (fun k => T (26 + 5 * k)) (i)))), (4, .int (nI (i)))] [] pv_K0 pv_P0 (I) (J) := by
    refine pv_up (T 405) ?_ ?_
    · refine px_iload dL_sum_5 rfl ?_
      refine px_aload_n dL_sum_7 rfl ?_
      refine px_iconst (v := nI 0) dL_sum_8 (by decide) ?_
      refine px_iald (j := 0) dL_sum_9 pv_a_d.1 rfl (by omega) pv_a_d.2.2 pv_a_d.2.1 ?_
      refine px_iv (y := nI (T 405)) (qD_0 hD) ?_
      refine px_icmp_geN (tgt := 31) dL_sum_10 (by decide) (by omega) (by omega) (fun _ => ?_) (fun h0 => absurd h0 (by omega))
      refine px_iload_n dL_sum_31 rfl ?_
      exact px_iret dL_sum_32 rfl (Or.inl rfl) (h)
    · intro i hi K 
      refine px_iload dL_sum_5 rfl ?_
      refine px_aload_n dL_sum_7 rfl ?_
      refine px_iconst (v := nI 0) dL_sum_8 (by decide) ?_
      refine px_iald (j := 0) dL_sum_9 pv_a_d.1 rfl (by omega) pv_a_d.2.2 pv_a_d.2.1 ?_
      refine px_iv (y := nI (T 405)) (qD_0 hD) ?_
      refine px_icmp_geN (tgt := 31) dL_sum_10 (by decide) (by omega) (by omega) (fun h0 => absurd h0 (by omega)) (fun _ => ?_)
      refine px_iload_n dL_sum_13 rfl ?_
      refine px_aload_n dL_sum_14 rfl ?_
      refine px_bipush (v := nI 8) dL_sum_15 (by decide) ?_
      refine px_iload dL_sum_17 rfl ?_
      refine px_imulN dL_sum_19 ?_
      refine px_iload_n dL_sum_20 rfl ?_
      refine px_iaddN dL_sum_21 ?_
      refine px_iald (j := ((8 * i) + 5)) dL_sum_22 pv_a_ki.1 rfl (by omega) pv_a_ki.2.2 pv_a_ki.2.1 ?_
      refine px_iv (y := nI (T (26 + 5 * i))) ((qK_c hK hi (by omega) (by omega)).trans (congrArg nI (congrArg T (by omega)))) ?_
      refine px_iaddN dL_sum_23 ?_
      refine px_istore_n dL_sum_24 (by decide) ?_
      refine px_iincN (c := 1) (by decide) dL_sum_25 rfl (by decide) ?_
      refine px_goto (tgt := 5) dL_sum_28 (by decide) ?_
      refine px_keep [0, 1, 2, 3, 4] ?_
      exact K
  refine px_iconst (v := nI 0) dL_sum_0 (by decide) ?_
  refine px_istore_n dL_sum_1 (by decide) ?_
  refine px_iconst (v := nI 0) dL_sum_2 (by decide) ?_
  refine px_istore dL_sum_3 (by decide) ?_
  exact key 0 (by omega)
theorem c_L_sum {z : pv_Z} {E : pv_E} {d bc bs : Nat} {J : pv_JT} {I : pv_IT} {mi : pv_MI} {pc idx : Nat} {lv : pv_LV} {st : List Value} {T : pv_T} {n : Nat} (hd : decode mi.2.1 pc = .ok (.invokestatic idx, 3)) (hlk : Cond.methodLink mi.1.cls idx mL_sum.1 ∈ pv_W) (hDep : 0+1 ≤ d) (hD : qD I T n) (hK : qK I T) (h4 : T 405 ≤ 4) (hcat : (st.map fun v => v.category).sum ≤ 8) (K : pv_X z E d bc bs mi (pc + 3) lv ((.int (nI (pn_sum (fun k => T (26 + 5 * k)) (T 405)))) :: st) pv_K0 pv_P0 (I) (J)) : pv_X z E d bc bs mi pc lv (.ref (366) :: .ref (365) :: .int (nI (5)) :: st) pv_K0 pv_P0 I J := by
  obtain ⟨d, rfl⟩ : ∃ d0, d = d0 + 1 := ⟨d - 1, by omega⟩
  have key := px_callS (bc := bc) (bs := bs) (bc1 := 0) (bs1 := 0) (as := [.int (nI (5)), .ref (365), .ref (366)]) (E := E) (z := z) (lv := lv) hd msL_sum hlk rfl rfl hcat (by exact Nat.le_of_ble_eq_true rfl) (s_L_sum (by omega) hD hK h4 K)
  rw [Nat.zero_add, Nat.zero_add] at key
  exact key
