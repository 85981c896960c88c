/-! The reference: what it reckons. -/
theorem ps_all_in {L : List pv_Lot} (h : lbs L) : ps_in L 0 + ps_in L 1 + ps_in L 2 = ps_all L := by
  unfold ps_in ps_all
  rw [← pn_sum_add, ← pn_sum_add]
  refine pn_sum_congr fun i hi => ?_
  have hb := (h.2 i hi).2.1
  show (if (pl_g L i).2.1 = 0 then (pl_g L i).2.2.1 else 0) + (if (pl_g L i).2.1 = 1 then (pl_g L i).2.2.1 else 0) + (if (pl_g L i).2.1 = 2 then (pl_g L i).2.2.1 else 0) = (pl_g L i).2.2.1
  rcases (by omega : (pl_g L i).2.1 = 0 ∨ (pl_g L i).2.1 = 1 ∨ (pl_g L i).2.1 = 2) with e | e | e <;> rw [e] <;> simp
def pm_life (T : pv_T) (k s w : Nat) : Nat := if 0 < w then T (k * 3 + 0) else T (k * 3 + s)
theorem pm_now {T : pv_T} {k s : Nat} : pm_life T k s (T (67 + s)) = pt_now T k s := rfl
/-- the days that are left of an age a, warm days w; ws and s: the steps -/
def pm_rem (ws s a w : Nat) : Nat := if 1000 ≤ a then 0 else if 1000 - a ≤ w * ws then pt_steps (1000 - a) ws else w + pt_steps (1000 - a - w * ws) s
theorem pt_steps_one {m s : Nat} (h0 : 0 < m) (h : m ≤ s) : pt_steps m s = 1 := by
  unfold pt_steps
  have h1 : m + s - 1 = (m - 1) + s := by omega
  rw [h1, Nat.add_div_right _ (by omega), Nat.div_eq_of_lt (by omega)]
theorem pt_steps_more {m s : Nat} (hs : 0 < s) (h : s < m) : pt_steps m s = pt_steps (m - s) s + 1 := by
  unfold pt_steps
  have h1 : m + s - 1 = (m - s + s - 1) + s := by omega
  rw [h1, Nat.add_div_right _ hs]
theorem pm_rem1 {ws s a w : Nat} (hws : 0 < ws) (hs : 0 < s) (ha : a < 1000) : pm_rem ws s a w = pm_rem ws s (a + (if 0 < w then ws else s)) (w - 1) + 1 := by
  unfold pm_rem
  rw [if_neg (by omega)]
  rcases Nat.eq_zero_or_pos w with hw | hw
  · subst hw
    rw [if_neg (show ¬ 0 < 0 by omega), Nat.zero_mul, if_neg (show ¬ 1000 - a ≤ 0 by omega)]
    by_cases h1 : 1000 ≤ a + s
    · rw [if_pos h1, pt_steps_one (by omega) (by omega)]
    · rw [if_neg h1, if_neg (by omega), pt_steps_more hs (by omega)]
      rw [show 1000 - a - 0 - s = 1000 - (a + s) - 0 by omega]
      omega
  · rw [if_pos hw]
    obtain ⟨v, rfl⟩ : ∃ v, w = v + 1 := ⟨w - 1, by omega⟩
    rw [show v + 1 - 1 = v by omega, Nat.succ_mul]
    generalize v * ws = q
    by_cases h2 : 1000 - a ≤ q + ws
    · rw [if_pos h2]
      by_cases h1 : 1000 ≤ a + ws
      · rw [if_pos h1, pt_steps_one (by omega) (by omega)]
      · rw [if_neg h1, if_pos (by omega), pt_steps_more hws (by omega), show 1000 - a - ws = 1000 - (a + ws) by omega]
    · rw [if_neg h2, if_neg (by omega), if_neg (by omega), show 1000 - (a + ws) - q = 1000 - a - (q + ws) by omega]
      omega
theorem pm_left {T : pv_T} {x : pv_Lot} (hx : x.2.2.2 < 1000) : pm_rem (pt_step (pt_life T x.1 0)) (pt_step (pt_life T x.1 x.2.1)) x.2.2.2 (T (67 + x.2.1)) = pt_left T x := by
  unfold pm_rem pt_left
  rw [if_neg (by omega)]
set_option maxRecDepth 100000 in
set_option maxHeartbeats 4000000 in
theorem s_X10_rations {Q : pv_Q} {E : pv_E} {d bc bs : Nat} {J : pv_JT} {I : pv_IT} {T : pv_T} {L : List pv_Lot} (hD : 2 ≤ d) (hM : MR (I 366) T L) (h : Q (.inl (some (.int (nI (ps_all L))))) pv_K0 pv_P0 (I) (J)) : pv_X (pv_ZQ E Q) E d bc bs mX10_rations 0 [(0, .ref (365))] [] pv_K0 pv_P0 I J := by
  refine px_aload_n dX10_rations_0 rfl ?_
  refine px_iconst (v := nI 0) dX10_rations_1 (by decide) ?_
  refine c_X10_inStore dX10_rations_2 mlX10_60 (by omega) hM (by omega) (Nat.le_of_ble_eq_true rfl) ?_
  refine px_aload_n dX10_rations_5 rfl ?_
  refine px_iconst (v := nI 1) dX10_rations_6 (by decide) ?_
  refine c_X10_inStore dX10_rations_7 mlX10_60 (by omega) hM (by omega) (Nat.le_of_ble_eq_true rfl) ?_
  refine px_iaddN dX10_rations_10 ?_
  refine px_aload_n dX10_rations_11 rfl ?_
  refine px_iconst (v := nI 2) dX10_rations_12 (by decide) ?_
  refine c_X10_inStore dX10_rations_13 mlX10_60 (by omega) hM (by omega) (Nat.le_of_ble_eq_true rfl) ?_
  refine px_iaddN dX10_rations_16 ?_
  exact px_iret dX10_rations_17 rfl (Or.inl rfl) (by rw [← ps_all_in hM.2.2.1] at h; exact h)
theorem c_X10_rations {z : pv_Z} {E : pv_E} {d bc bs : Nat} {J : pv_JT} {I : pv_IT} {mi : pv_MI} {pc idx : Nat} {lv : pv_LV} {st : List Value} {T : pv_T} {L : List pv_Lot} (hd : decode mi.2.1 pc = .ok (.invokevirtual idx, 3)) (hlk : Cond.methodLink mi.1.cls idx mX10_rations.1 ∈ pv_W) (hD : 2+1 ≤ d) (hM : MR (I 366) T L) (hcat : (st.map fun v => v.category).sum ≤ 8) (K : pv_X z E d bc bs mi (pc + 3) lv ((.int (nI (ps_all L))) :: st) pv_K0 pv_P0 (I) (J)) : pv_X z E d bc bs mi pc lv (.ref (365) :: st) pv_K0 pv_P0 I J := by
  obtain ⟨d, rfl⟩ : ∃ d0, d = d0 + 1 := ⟨d - 1, by omega⟩
  have key := px_callV (bc := bc) (bs := bs) (bc1 := 0) (bs1 := 0) (as := []) (E := E) (z := z) (lv := lv) hd mvX10_rations hlk pv_s_model (by decide) rfl pv_k_model rfl rfl hcat (by exact Nat.le_of_ble_eq_true rfl) (s_X10_rations (by omega) hM K)
  rw [Nat.zero_add, Nat.zero_add] at key
  exact key
set_option maxRecDepth 100000 in
set_option maxHeartbeats 4000000 in
theorem s_X10_nextPort {Q : pv_Q} {E : pv_E} {d bc bs : Nat} {J : pv_JT} {I : pv_IT} {T : pv_T} {L : List pv_Lot} (hD : 0 ≤ d) (hM : MR (I 366) T L) (hw : pw T) (h4 : T 404 < 2147483648) (h : Q (.inl (some (.int (oI (pt_aft T (T 404)))))) pv_K0 pv_P0 (I) (J)) : pv_X (pv_ZQ E Q) E d bc bs mX10_nextPort 0 [(0, .ref (365))] [] pv_K0 pv_P0 I J := by
  have hn := hw.1
  have key : ∀ i : Nat, i ≤ T 407 → (∀ j, j < i → T (324 + 10 * j) ≤ T 404) → pv_X (pv_ZQ E Q) E d bc bs mX10_nextPort 2 [(0, .ref 365), (1, .int (nI (i)))] [] pv_K0 pv_P0 (I) (J) := by
    refine pv_up (T 407) ?_ ?_
    · intro hA
      refine px_iload_n dX10_nextPort_2 rfl ?_
      refine px_aload_n dX10_nextPort_3 rfl ?_
      refine px_getR dX10_nextPort_4 flX10_7 pv_s_model (by decide) (by decide) rfl pv_k_model pv_p_365_1 ?_
      refine px_sipush (v := nI 407) dX10_nextPort_7 (by decide) ?_
      refine px_iald (j := 407) dX10_nextPort_10 pv_a_z.1 rfl (by omega) pv_a_z.2.2 pv_a_z.2.1 ?_
      refine px_iv (y := nI (T (407))) (hM.1 (407) (by omega) (by omega) (by omega)) ?_
      refine px_icmp_geN (tgt := 44) dX10_nextPort_11 (by decide) (by omega) (by omega) (fun _ => ?_) (fun h0 => absurd h0 (by omega))
      refine px_iload_n dX10_nextPort_44 rfl ?_
      refine px_aload_n dX10_nextPort_45 rfl ?_
      refine px_getR dX10_nextPort_46 flX10_7 pv_s_model (by decide) (by decide) rfl pv_k_model pv_p_365_1 ?_
      refine px_sipush (v := nI 407) dX10_nextPort_49 (by decide) ?_
      refine px_iald (j := 407) dX10_nextPort_52 pv_a_z.1 rfl (by omega) pv_a_z.2.2 pv_a_z.2.1 ?_
      refine px_iv (y := nI (T (407))) (hM.1 (407) (by omega) (by omega) (by omega)) ?_
      refine px_icmp_neN (tgt := 60) dX10_nextPort_53 (by decide) (by omega) (by omega) (fun h0 => absurd h0 (by omega)) (fun _ => ?_)
      refine px_iconst (v := -1) dX10_nextPort_56 (by decide) ?_
      refine px_goto (tgt := 61) dX10_nextPort_57 (by decide) ?_
      exact px_iret dX10_nextPort_61 rfl (Or.inl rfl) (by unfold pt_aft at h; rw [pf_none (fun j hj => pl_f (hA j hj))] at h; exact h)
    · intro i hi K hA
      have hb := (hw.2.1 i hi).1
      refine px_iload_n dX10_nextPort_2 rfl ?_
      refine px_aload_n dX10_nextPort_3 rfl ?_
      refine px_getR dX10_nextPort_4 flX10_7 pv_s_model (by decide) (by decide) rfl pv_k_model pv_p_365_1 ?_
      refine px_sipush (v := nI 407) dX10_nextPort_7 (by decide) ?_
      refine px_iald (j := 407) dX10_nextPort_10 pv_a_z.1 rfl (by omega) pv_a_z.2.2 pv_a_z.2.1 ?_
      refine px_iv (y := nI (T (407))) (hM.1 (407) (by omega) (by omega) (by omega)) ?_
      refine px_icmp_geN (tgt := 44) dX10_nextPort_11 (by decide) (by omega) (by omega) (fun h0 => absurd h0 (by omega)) (fun _ => ?_)
      refine px_aload_n dX10_nextPort_14 rfl ?_
      refine px_getR dX10_nextPort_15 flX10_7 pv_s_model (by decide) (by decide) rfl pv_k_model pv_p_365_1 ?_
      refine px_sipush (v := nI 324) dX10_nextPort_18 (by decide) ?_
      refine px_bipush (v := nI 10) dX10_nextPort_21 (by decide) ?_
      refine px_iload_n dX10_nextPort_23 rfl ?_
      refine px_imulN dX10_nextPort_24 ?_
      refine px_iaddN dX10_nextPort_25 ?_
      refine px_iald (j := (324 + (10 * i))) dX10_nextPort_26 pv_a_z.1 rfl (by omega) pv_a_z.2.2 pv_a_z.2.1 ?_
      refine px_iv (y := nI (T (324 + 10 * i))) ((hM.1 ((324 + (10 * i))) (by omega) (by omega) (by omega)).trans (congrArg nI (congrArg T (by omega)))) ?_
      refine px_aload_n dX10_nextPort_27 rfl ?_
      refine px_getR dX10_nextPort_28 flX10_7 pv_s_model (by decide) (by decide) rfl pv_k_model pv_p_365_1 ?_
      refine px_sipush (v := nI 404) dX10_nextPort_31 (by decide) ?_
      refine px_iald (j := 404) dX10_nextPort_34 pv_a_z.1 rfl (by omega) pv_a_z.2.2 pv_a_z.2.1 ?_
      refine px_iv (y := nI (T (404))) (hM.1 (404) (by omega) (by omega) (by omega)) ?_
      refine px_icmp_gtN (tgt := 44) dX10_nextPort_35 (by decide) (by omega) (by omega) (fun h0 => ?_) (fun h0 => ?_)
      · refine px_iload_n dX10_nextPort_44 rfl ?_
        refine px_aload_n dX10_nextPort_45 rfl ?_
        refine px_getR dX10_nextPort_46 flX10_7 pv_s_model (by decide) (by decide) rfl pv_k_model pv_p_365_1 ?_
        refine px_sipush (v := nI 407) dX10_nextPort_49 (by decide) ?_
        refine px_iald (j := 407) dX10_nextPort_52 pv_a_z.1 rfl (by omega) pv_a_z.2.2 pv_a_z.2.1 ?_
        refine px_iv (y := nI (T (407))) (hM.1 (407) (by omega) (by omega) (by omega)) ?_
        refine px_icmp_neN (tgt := 60) dX10_nextPort_53 (by decide) (by omega) (by omega) (fun _ => ?_) (fun h0 => absurd h0 (by omega))
        refine px_iload_n dX10_nextPort_60 rfl ?_
        exact px_iret dX10_nextPort_61 rfl (Or.inl rfl) (by unfold pt_aft at h; rw [pf_some hi (fun j hj => pl_f (hA j hj)) (pl_t h0)] at h; exact h)
      · refine px_iincN (c := 1) (by decide) dX10_nextPort_38 rfl (by decide) ?_
        refine px_goto (tgt := 2) dX10_nextPort_41 (by decide) ?_
        refine px_keep [0, 1] ?_
        refine K (fun j hj => ?_)
        by_cases e : j = i
        · subst e; exact h0
        · exact hA j (by omega)
  refine px_iconst (v := nI 0) dX10_nextPort_0 (by decide) ?_
  refine px_istore_n dX10_nextPort_1 (by decide) ?_
  exact key 0 (by omega) (fun j hj => absurd hj (Nat.not_lt_zero _))
theorem c_X10_nextPort {z : pv_Z} {E : pv_E} {d bc bs : Nat} {J : pv_JT} {I : pv_IT} {mi : pv_MI} {pc idx : Nat} {lv : pv_LV} {st : List Value} {T : pv_T} {L : List pv_Lot} (hd : decode mi.2.1 pc = .ok (.invokevirtual idx, 3)) (hlk : Cond.methodLink mi.1.cls idx mX10_nextPort.1 ∈ pv_W) (hD : 0+1 ≤ d) (hM : MR (I 366) T L) (hw : pw T) (h4 : T 404 < 2147483648) (hcat : (st.map fun v => v.category).sum ≤ 8) (K : pv_X z E d bc bs mi (pc + 3) lv ((.int (oI (pt_aft T (T 404)))) :: st) pv_K0 pv_P0 (I) (J)) : pv_X z E d bc bs mi pc lv (.ref (365) :: st) pv_K0 pv_P0 I J := by
  obtain ⟨d, rfl⟩ : ∃ d0, d = d0 + 1 := ⟨d - 1, by omega⟩
  have key := px_callV (bc := bc) (bs := bs) (bc1 := 0) (bs1 := 0) (as := []) (E := E) (z := z) (lv := lv) hd mvX10_nextPort hlk pv_s_model (by decide) rfl pv_k_model rfl rfl hcat (by exact Nat.le_of_ble_eq_true rfl) (s_X10_nextPort (by omega) hM hw h4 K)
  rw [Nat.zero_add, Nat.zero_add] at key
  exact key
set_option maxRecDepth 100000 in
set_option maxHeartbeats 4000000 in
theorem s_X10_lifeIn {Q : pv_Q} {E : pv_E} {d bc bs : Nat} {J : pv_JT} {I : pv_IT} {T : pv_T} {L : List pv_Lot} {k s x : Nat} (hD : 0 ≤ d) (hM : MR (I 366) T L) (h1 : k < 8) (h2 : s < 3) (hx : x < 2147483648) (h : Q (.inl (some (.int (nI (pm_life T k s x))))) pv_K0 pv_P0 (I) (J)) : pv_X (pv_ZQ E Q) E d bc bs mX10_lifeIn 0 [(0, .ref (365)), (1, .int (nI (k))), (2, .int (nI (s))), (3, .int (nI (x)))] [] pv_K0 pv_P0 I J := by
  refine px_aload_n dX10_lifeIn_0 rfl ?_
  refine px_getR dX10_lifeIn_1 flX10_7 pv_s_model (by decide) (by decide) rfl pv_k_model pv_p_365_1 ?_
  refine px_iconst (v := nI 3) dX10_lifeIn_4 (by decide) ?_
  refine px_iload_n dX10_lifeIn_5 rfl ?_
  refine px_imulN dX10_lifeIn_6 ?_
  refine px_iload_n dX10_lifeIn_7 rfl ?_
  refine px_if_leN (tgt := 15) dX10_lifeIn_8 (by decide) (by omega) (fun h0 => ?_) (fun h0 => ?_)
  · refine px_iload_n dX10_lifeIn_15 rfl ?_
    refine px_iaddN dX10_lifeIn_16 ?_
    refine px_iald (j := ((3 * k) + s)) dX10_lifeIn_17 pv_a_z.1 rfl (by omega) pv_a_z.2.2 pv_a_z.2.1 ?_
    refine px_iv (y := nI (T (k * 3 + s))) ((hM.1 (((3 * k) + s)) (by omega) (by omega) (by omega)).trans (congrArg nI (congrArg T (by omega)))) ?_
    exact px_iret dX10_lifeIn_18 rfl (Or.inl rfl) (by unfold pm_life at h; rw [if_neg (by omega)] at h; exact h)
  · refine px_iconst (v := nI 0) dX10_lifeIn_11 (by decide) ?_
    refine px_goto (tgt := 16) dX10_lifeIn_12 (by decide) ?_
    refine px_iaddN dX10_lifeIn_16 ?_
    refine px_iald (j := ((3 * k) + 0)) dX10_lifeIn_17 pv_a_z.1 rfl (by omega) pv_a_z.2.2 pv_a_z.2.1 ?_
    refine px_iv (y := nI (T (k * 3 + 0))) ((hM.1 (((3 * k) + 0)) (by omega) (by omega) (by omega)).trans (congrArg nI (congrArg T (by omega)))) ?_
    exact px_iret dX10_lifeIn_18 rfl (Or.inl rfl) (by unfold pm_life at h; rw [if_pos h0] at h; exact h)
theorem c_X10_lifeIn {z : pv_Z} {E : pv_E} {d bc bs : Nat} {J : pv_JT} {I : pv_IT} {mi : pv_MI} {pc idx : Nat} {lv : pv_LV} {st : List Value} {T : pv_T} {L : List pv_Lot} {k s x : Nat} (hd : decode mi.2.1 pc = .ok (.invokevirtual idx, 3)) (hlk : Cond.methodLink mi.1.cls idx mX10_lifeIn.1 ∈ pv_W) (hD : 0+1 ≤ d) (hM : MR (I 366) T L) (h1 : k < 8) (h2 : s < 3) (hx : x < 2147483648) (hcat : (st.map fun v => v.category).sum ≤ 8) (K : pv_X z E d bc bs mi (pc + 3) lv ((.int (nI (pm_life T k s x))) :: st) pv_K0 pv_P0 (I) (J)) : pv_X z E d bc bs mi pc lv (.int (nI (x)) :: .int (nI (s)) :: .int (nI (k)) :: .ref (365) :: st) pv_K0 pv_P0 I J := by
  obtain ⟨d, rfl⟩ : ∃ d0, d = d0 + 1 := ⟨d - 1, by omega⟩
  have key := px_callV (bc := bc) (bs := bs) (bc1 := 0) (bs1 := 0) (as := [.int (nI (k)), .int (nI (s)), .int (nI (x))]) (E := E) (z := z) (lv := lv) hd mvX10_lifeIn hlk pv_s_model (by decide) rfl pv_k_model rfl rfl hcat (by exact Nat.le_of_ble_eq_true rfl) (s_X10_lifeIn (by omega) hM h1 h2 hx K)
  rw [Nat.zero_add, Nat.zero_add] at key
  exact key
set_option maxRecDepth 100000 in
set_option maxHeartbeats 4000000 in
theorem s_X10_ages {Q : pv_Q} {E : pv_E} {d bc bs : Nat} {J : pv_JT} {I : pv_IT} {T : pv_T} {L : List pv_Lot} {k s x : Nat} (hD : 1 ≤ d) (hM : MR (I 366) T L) (hl : ∀ i, i < 24 → T i ≤ 200) (h1 : k < 8) (h2 : s < 3) (hx : x < 2147483648) (h : Q (.inl (some (.int (nI (pt_step (pm_life T k s x)))))) pv_K0 pv_P0 (I) (J)) : pv_X (pv_ZQ E Q) E d bc bs mX10_ages 0 [(0, .ref (365)), (1, .int (nI (k))), (2, .int (nI (s))), (3, .int (nI (x)))] [] pv_K0 pv_P0 I J := by
  have hll : pm_life T k s x ≤ 200 := by
    unfold pm_life
    split
    · exact hl _ (by omega)
    · exact hl _ (by omega)
  refine px_aload_n dX10_ages_0 rfl ?_
  refine px_iload_n dX10_ages_1 rfl ?_
  refine px_iload_n dX10_ages_2 rfl ?_
  refine px_iload_n dX10_ages_3 rfl ?_
  refine c_X10_lifeIn dX10_ages_4 mlX10_75 (by omega) hM h1 h2 hx (Nat.le_of_ble_eq_true rfl) ?_
  refine px_istore dX10_ages_7 (by decide) ?_
  refine px_sipush (v := nI 1000) dX10_ages_9 (by decide) ?_
  refine px_iload dX10_ages_12 rfl ?_
  refine px_if_neN (tgt := 21) dX10_ages_14 (by decide) (by omega) (fun h0 => ?_) (fun h0 => ?_)
  · refine px_iload dX10_ages_21 rfl ?_
    refine px_idivN (by omega) (by omega) (by omega) dX10_ages_23 ?_
    exact px_iret dX10_ages_24 rfl (Or.inl rfl) (by unfold pt_step at h; rw [if_neg (by omega)] at h; exact h)
  · refine px_iconst (v := nI 1) dX10_ages_17 (by decide) ?_
    refine px_goto (tgt := 23) dX10_ages_18 (by decide) ?_
    refine px_idivN (by omega) (by omega) (by omega) dX10_ages_23 ?_
    exact px_iret dX10_ages_24 rfl (Or.inl rfl) (pq_i h (congrArg nI (by unfold pt_step; rw [if_pos (by omega)])))
theorem c_X10_ages {z : pv_Z} {E : pv_E} {d bc bs : Nat} {J : pv_JT} {I : pv_IT} {mi : pv_MI} {pc idx : Nat} {lv : pv_LV} {st : List Value} {T : pv_T} {L : List pv_Lot} {k s x : Nat} (hd : decode mi.2.1 pc = .ok (.invokevirtual idx, 3)) (hlk : Cond.methodLink mi.1.cls idx mX10_ages.1 ∈ pv_W) (hD : 1+1 ≤ d) (hM : MR (I 366) T L) (hl : ∀ i, i < 24 → T i ≤ 200) (h1 : k < 8) (h2 : s < 3) (hx : x < 2147483648) (hcat : (st.map fun v => v.category).sum ≤ 8) (K : pv_X z E d bc bs mi (pc + 3) lv ((.int (nI (pt_step (pm_life T k s x)))) :: st) pv_K0 pv_P0 (I) (J)) : pv_X z E d bc bs mi pc lv (.int (nI (x)) :: .int (nI (s)) :: .int (nI (k)) :: .ref (365) :: st) pv_K0 pv_P0 I J := by
  obtain ⟨d, rfl⟩ : ∃ d0, d = d0 + 1 := ⟨d - 1, by omega⟩
  have key := px_callV (bc := bc) (bs := bs) (bc1 := 0) (bs1 := 0) (as := [.int (nI (k)), .int (nI (s)), .int (nI (x))]) (E := E) (z := z) (lv := lv) hd mvX10_ages hlk pv_s_model (by decide) rfl pv_k_model rfl rfl hcat (by exact Nat.le_of_ble_eq_true rfl) (s_X10_ages (by omega) hM hl h1 h2 hx K)
  rw [Nat.zero_add, Nat.zero_add] at key
  exact key
set_option maxRecDepth 100000 in
set_option maxHeartbeats 4000000 in
theorem s_X10_daysLeft {Q : pv_Q} {E : pv_E} {d bc bs : Nat} {J : pv_JT} {I : pv_IT} {T : pv_T} {L : List pv_Lot} {l : Nat} (hD : 2 ≤ d) (hM : MR (I 366) T L) (hb : tb T) (h1 : l < L.length) (h2 : (pl_g L l).2.2.2 < 1000) (h : Q (.inl (some (.int (nI (pt_left T (pl_g L l)))))) pv_K0 pv_P0 (I) (J)) : pv_X (pv_ZQ E Q) E d bc bs mX10_daysLeft 0 [(0, .ref (365)), (1, .int (nI (l)))] [] pv_K0 pv_P0 I J := by
  have h31 := hM.2.2.1.1
  have hx := hM.2.2.1.2 l h1
  unfold lb at hx
  have hw := (hb.2.1 _ hx.2.1).2
  have s1 := pt_step_ge (pt_life_le hb hx.1 (s := 0) (by omega))
  have s2 := pt_step_ge (pt_life_le hb hx.1 hx.2.1)
  have s3 := @pt_step_le (pt_life T (pl_g L l).1 0)
  have s4 := @pt_step_le (pt_life T (pl_g L l).1 (pl_g L l).2.1)
  have key : ∀ f a x c : Nat, 1000 - a ≤ f → a ≤ 2000 → x ≤ 30 → c + f ≤ 1000 → c + pm_rem (pt_step (pt_life T (pl_g L l).1 0)) (pt_step (pt_life T (pl_g L l).1 (pl_g L l).2.1)) a x = pt_left T (pl_g L l) → pv_X (pv_ZQ E Q) E d bc bs mX10_daysLeft 28 [(0, .ref 365), (1, .int (nI l)), (2, .int (nI (pl_g L l).2.1)), (3, .int (nI x)), (4, .int (nI a)), (5, .int (nI c))] [] pv_K0 pv_P0 I J := by
    intro f
    induction f with
    | zero =>
      intro a x c h3 h4 h5 h6 h7
      refine px_iload dX10_daysLeft_28 rfl ?_
      refine px_sipush (v := nI 1000) dX10_daysLeft_30 (by decide) ?_
      refine px_icmp_geN (tgt := 71) dX10_daysLeft_33 (by decide) (by omega) (by omega) (fun _ => ?_) (fun h0 => absurd h0 (by omega))
      refine px_iload dX10_daysLeft_71 rfl ?_
      exact px_iret dX10_daysLeft_73 rfl (Or.inl rfl) (pq_i h (congrArg nI (by unfold pm_rem at h7; rw [if_pos (by omega)] at h7; omega)))
    | succ f ih =>
      intro a x c h3 h4 h5 h6 h7
      refine px_iload dX10_daysLeft_28 rfl ?_
      refine px_sipush (v := nI 1000) dX10_daysLeft_30 (by decide) ?_
      refine px_icmp_geN (tgt := 71) dX10_daysLeft_33 (by decide) (by omega) (by omega) (fun h11 => ?_) (fun h11 => ?_)
      · refine px_iload dX10_daysLeft_71 rfl ?_
        exact px_iret dX10_daysLeft_73 rfl (Or.inl rfl) (pq_i h (congrArg nI (by unfold pm_rem at h7; rw [if_pos (by omega)] at h7; omega)))
      · rw [pm_rem1 (by omega) (by omega) (by omega)] at h7
        refine px_iload dX10_daysLeft_36 rfl ?_
        refine px_aload_n dX10_daysLeft_38 rfl ?_
        refine px_aload_n dX10_daysLeft_39 rfl ?_
        refine px_iload_n dX10_daysLeft_40 rfl ?_
        refine px_iconst (v := nI 0) dX10_daysLeft_41 (by decide) ?_
        refine c_X10_of dX10_daysLeft_42 mlX10_53 (by omega) (by omega) (by omega) (Nat.le_of_ble_eq_true rfl) ?_
        refine px_iv (y := nI ((pl_g L (l)).1)) ((mr_l hM (by omega)).1) ?_
        refine px_iload_n dX10_daysLeft_45 rfl ?_
        refine px_iload_n dX10_daysLeft_46 rfl ?_
        refine c_X10_ages dX10_daysLeft_47 mlX10_79 (by omega) hM hb.1 hx.1 hx.2.1 (by omega) (Nat.le_of_ble_eq_true rfl) ?_
        have h8 : pt_step (pm_life T (pl_g L l).1 (pl_g L l).2.1 x) = if 0 < x then pt_step (pt_life T (pl_g L l).1 0) else pt_step (pt_life T (pl_g L l).1 (pl_g L l).2.1) := by
          unfold pm_life
          by_cases e9 : 0 < x
          · rw [if_pos e9, if_pos e9]; rfl
          · rw [if_neg e9, if_neg e9]; rfl
        rw [h8]
        have h10 : (if 0 < x then pt_step (pt_life T (pl_g L l).1 0) else pt_step (pt_life T (pl_g L l).1 (pl_g L l).2.1)) ≤ 1000 ∧ 5 ≤ (if 0 < x then pt_step (pt_life T (pl_g L l).1 0) else pt_step (pt_life T (pl_g L l).1 (pl_g L l).2.1)) := by
          split <;> omega
        generalize (if 0 < x then pt_step (pt_life T (pl_g L l).1 0) else pt_step (pt_life T (pl_g L l).1 (pl_g L l).2.1)) = g at h10 h7 ⊢
        refine px_iaddN dX10_daysLeft_50 ?_
        refine px_istore dX10_daysLeft_51 (by decide) ?_
        refine px_iload_n dX10_daysLeft_53 rfl ?_
        refine px_iload_n dX10_daysLeft_54 rfl ?_
        refine px_if_leN (tgt := 62) dX10_daysLeft_55 (by decide) (by omega) (fun h9 => ?_) (fun h9 => ?_)
        · refine px_iconst (v := nI 0) dX10_daysLeft_62 (by decide) ?_
          refine px_isubN (by omega) dX10_daysLeft_63 ?_
          refine px_istore_n dX10_daysLeft_64 (by decide) ?_
          refine px_iincN (c := 1) (by decide) dX10_daysLeft_65 rfl (by decide) ?_
          refine px_goto (tgt := 28) dX10_daysLeft_68 (by decide) ?_
          refine px_keep [0, 1, 2, 3, 4, 5] ?_
          rw [show x - 1 = x - 0 by omega] at h7
          exact ih (a + g) (x - 0) (c + 1) (by omega) (by omega) (by omega) (by omega) (by omega)
        · refine px_iconst (v := nI 1) dX10_daysLeft_58 (by decide) ?_
          refine px_goto (tgt := 63) dX10_daysLeft_59 (by decide) ?_
          refine px_isubN (by omega) dX10_daysLeft_63 ?_
          refine px_istore_n dX10_daysLeft_64 (by decide) ?_
          refine px_iincN (c := 1) (by decide) dX10_daysLeft_65 rfl (by decide) ?_
          refine px_goto (tgt := 28) dX10_daysLeft_68 (by decide) ?_
          refine px_keep [0, 1, 2, 3, 4, 5] ?_
          exact ih (a + g) (x - 1) (c + 1) (by omega) (by omega) (by omega) (by omega) (by omega)
  refine px_aload_n dX10_daysLeft_0 rfl ?_
  refine px_iload_n dX10_daysLeft_1 rfl ?_
  refine px_iconst (v := nI 1) dX10_daysLeft_2 (by decide) ?_
  refine c_X10_of dX10_daysLeft_3 mlX10_53 (by omega) (by omega) (by omega) (Nat.le_of_ble_eq_true rfl) ?_
  refine px_iv (y := nI ((pl_g L (l)).2.1)) ((mr_l hM (by omega)).2.1) ?_
  refine px_istore_n dX10_daysLeft_6 (by decide) ?_
  refine px_aload_n dX10_daysLeft_7 rfl ?_
  refine px_getR dX10_daysLeft_8 flX10_7 pv_s_model (by decide) (by decide) rfl pv_k_model pv_p_365_1 ?_
  refine px_bipush (v := nI 67) dX10_daysLeft_11 (by decide) ?_
  refine px_iload_n dX10_daysLeft_13 rfl ?_
  refine px_iaddN dX10_daysLeft_14 ?_
  refine px_iald (j := (67 + ((pl_g L (l)).2.1))) dX10_daysLeft_15 pv_a_z.1 rfl (by omega) pv_a_z.2.2 pv_a_z.2.1 ?_
  refine px_iv (y := nI (T ((67 + ((pl_g L (l)).2.1))))) (hM.1 ((67 + ((pl_g L (l)).2.1))) (by omega) (by omega) (by omega)) ?_
  refine px_istore_n dX10_daysLeft_16 (by decide) ?_
  refine px_aload_n dX10_daysLeft_17 rfl ?_
  refine px_iload_n dX10_daysLeft_18 rfl ?_
  refine px_iconst (v := nI 3) dX10_daysLeft_19 (by decide) ?_
  refine c_X10_of dX10_daysLeft_20 mlX10_53 (by omega) (by omega) (by omega) (Nat.le_of_ble_eq_true rfl) ?_
  refine px_iv (y := nI ((pl_g L (l)).2.2.2)) ((mr_l hM (by omega)).2.2.2) ?_
  refine px_istore dX10_daysLeft_23 (by decide) ?_
  refine px_iconst (v := nI 0) dX10_daysLeft_25 (by decide) ?_
  refine px_istore dX10_daysLeft_26 (by decide) ?_
  exact key 1000 _ _ 0 (by omega) (by omega) hw (by omega) (by rw [Nat.zero_add]; exact pm_left h2)
theorem c_X10_daysLeft {z : pv_Z} {E : pv_E} {d bc bs : Nat} {J : pv_JT} {I : pv_IT} {mi : pv_MI} {pc idx : Nat} {lv : pv_LV} {st : List Value} {T : pv_T} {L : List pv_Lot} {l : Nat} (hd : decode mi.2.1 pc = .ok (.invokevirtual idx, 3)) (hlk : Cond.methodLink mi.1.cls idx mX10_daysLeft.1 ∈ pv_W) (hD : 2+1 ≤ d) (hM : MR (I 366) T L) (hb : tb T) (h1 : l < L.length) (h2 : (pl_g L l).2.2.2 < 1000) (hcat : (st.map fun v => v.category).sum ≤ 8) (K : pv_X z E d bc bs mi (pc + 3) lv ((.int (nI (pt_left T (pl_g L l)))) :: st) pv_K0 pv_P0 (I) (J)) : pv_X z E d bc bs mi pc lv (.int (nI (l)) :: .ref (365) :: st) pv_K0 pv_P0 I J := by
  obtain ⟨d, rfl⟩ : ∃ d0, d = d0 + 1 := ⟨d - 1, by omega⟩
  have key := px_callV (bc := bc) (bs := bs) (bc1 := 0) (bs1 := 0) (as := [.int (nI (l))]) (E := E) (z := z) (lv := lv) hd mvX10_daysLeft hlk pv_s_model (by decide) rfl pv_k_model rfl rfl hcat (by exact Nat.le_of_ble_eq_true rfl) (s_X10_daysLeft (by omega) hM hb h1 h2 K)
  rw [Nat.zero_add, Nat.zero_add] at key
  exact key
set_option maxRecDepth 100000 in
set_option maxHeartbeats 4000000 in
theorem s_X10_refusal {Q : pv_Q} {E : pv_E} {d bc bs : Nat} {J : pv_JT} {I : pv_IT} {T : pv_T} {L : List pv_Lot} {k a s : Nat} (hD : 2 ≤ d) (hM : MR (I 366) T L) (hb : tb T) (h1 : k < 8) (h2 : s < 3) (h3 : a ≤ 2000) (h4 : T 404 < 2147483648) (h30 : L.length ≤ 30) (h : Q (.inl (some (.int (nI (pt_refuse T L k a s))))) pv_K0 pv_P0 (I) (J)) : pv_X (pv_ZQ E Q) E d bc bs mX10_refusal 0 [(0, .ref (365)), (1, .int (nI (k))), (2, .int (nI (a))), (3, .int (nI (s)))] [] pv_K0 pv_P0 I J := by
  have hn := hb.2.2.2.2.2.1.1
  have hL := hM.2.2.1
  have h31 := hL.1
  have h410 := hb.2.2.2.2.1
  have hwm := (hb.2.1 s h2).2
  refine px_aload_n dX10_refusal_0 rfl ?_
  refine px_aload_n dX10_refusal_1 rfl ?_
  refine px_getR dX10_refusal_2 flX10_7 pv_s_model (by decide) (by decide) rfl pv_k_model pv_p_365_1 ?_
  refine px_sipush (v := nI 404) dX10_refusal_5 (by decide) ?_
  refine px_iald (j := 404) dX10_refusal_8 pv_a_z.1 rfl (by omega) pv_a_z.2.2 pv_a_z.2.1 ?_
  refine px_iv (y := nI (T (404))) (hM.1 (404) (by omega) (by omega) (by omega)) ?_
  refine c_X10_portOf dX10_refusal_9 mlX10_66 (by omega) hM hb.2.2.2.2.2.1 (by omega) (Nat.le_of_ble_eq_true rfl) ?_
  refine px_istore dX10_refusal_12 (by decide) ?_
  refine px_iload dX10_refusal_14 rfl ?_
  refine px_iconst (v := -1) dX10_refusal_16 (by decide) ?_
  unfold pt_refuse at h
  cases e : pt_on T (T 404) with
  | none =>
    rw [e] at h
    refine px_icmp_ne (tgt := 22) dX10_refusal_17 (by decide) (fun h0 => absurd rfl h0) (fun _ => ?_)
    refine px_iconst (v := nI 1) dX10_refusal_20 (by decide) ?_
    exact px_iret dX10_refusal_21 rfl (Or.inl rfl) (h)
  | some p =>
    rw [e] at h
    replace h : Q (.inl (some (.int (nI (if pt_price T p k = 0 then 2 else if pt_now T k s = 0 then 3 else if T (64 + s) < ps_in L s + a then 4 else if T 410 < pt_price T p k * a then 5 else if 30 ≤ L.length then 6 else 0))))) pv_K0 pv_P0 I J := h
    have hp8 := pt_on_lt e
    have hpr : pt_price T p k ≤ 100 := (hb.2.2.2.2.2.1.2.1 p hp8).2.2 k h1
    have hnw := pt_now_le hb h1 h2
    have hrm := (hb.2.1 s h2).1
    have hin := ps_in_le (s := s) hL
    have hpa : pt_price T p k * a ≤ 100 * 2000 := Nat.mul_le_mul hpr h3
    refine px_icmp_ne (tgt := 22) dX10_refusal_17 (by decide) (fun _ => ?_) (fun h0 => absurd h0 (pn_m1 (by omega)))
    refine px_aload_n dX10_refusal_22 rfl ?_
    refine px_getR dX10_refusal_23 flX10_7 pv_s_model (by decide) (by decide) rfl pv_k_model pv_p_365_1 ?_
    refine px_sipush (v := nI 324) dX10_refusal_26 (by decide) ?_
    refine px_bipush (v := nI 10) dX10_refusal_29 (by decide) ?_
    refine px_iload dX10_refusal_31 rfl ?_
    refine px_imulN dX10_refusal_33 ?_
    refine px_iaddN dX10_refusal_34 ?_
    refine px_iconst (v := nI 2) dX10_refusal_35 (by decide) ?_
    refine px_iaddN dX10_refusal_36 ?_
    refine px_iload_n dX10_refusal_37 rfl ?_
    refine px_iaddN dX10_refusal_38 ?_
    refine px_iald (j := (((324 + (10 * p)) + 2) + k)) dX10_refusal_39 pv_a_z.1 rfl (by omega) pv_a_z.2.2 pv_a_z.2.1 ?_
    refine px_iv (y := nI (pt_price T p k)) ((hM.1 ((((324 + (10 * p)) + 2) + k)) (by omega) (by omega) (by omega)).trans (congrArg nI (congrArg T (by omega)))) ?_
    refine px_istore dX10_refusal_40 (by decide) ?_
    refine px_iload dX10_refusal_42 rfl ?_
    refine px_if_neN (tgt := 49) dX10_refusal_44 (by decide) (by omega) (fun h2p => ?_) (fun h2p => ?_)
    · refine px_aload_n dX10_refusal_49 rfl ?_
      refine px_iload_n dX10_refusal_50 rfl ?_
      refine px_iload_n dX10_refusal_51 rfl ?_
      refine px_aload_n dX10_refusal_52 rfl ?_
      refine px_getR dX10_refusal_53 flX10_7 pv_s_model (by decide) (by decide) rfl pv_k_model pv_p_365_1 ?_
      refine px_bipush (v := nI 67) dX10_refusal_56 (by decide) ?_
      refine px_iload_n dX10_refusal_58 rfl ?_
      refine px_iaddN dX10_refusal_59 ?_
      refine px_iald (j := (67 + s)) dX10_refusal_60 pv_a_z.1 rfl (by omega) pv_a_z.2.2 pv_a_z.2.1 ?_
      refine px_iv (y := nI (T ((67 + s)))) (hM.1 ((67 + s)) (by omega) (by omega) (by omega)) ?_
      refine c_X10_lifeIn dX10_refusal_61 mlX10_75 (by omega) hM h1 h2 (by omega) (Nat.le_of_ble_eq_true rfl) ?_
      rw [pm_now]
      refine px_if_neN (tgt := 69) dX10_refusal_64 (by decide) (by omega) (fun h3p => ?_) (fun h3p => ?_)
      · refine px_aload_n dX10_refusal_69 rfl ?_
        refine px_iload_n dX10_refusal_70 rfl ?_
        refine c_X10_inStore dX10_refusal_71 mlX10_60 (by omega) hM (by omega) (Nat.le_of_ble_eq_true rfl) ?_
        refine px_iload_n dX10_refusal_74 rfl ?_
        refine px_iaddN dX10_refusal_75 ?_
        refine px_aload_n dX10_refusal_76 rfl ?_
        refine px_getR dX10_refusal_77 flX10_7 pv_s_model (by decide) (by decide) rfl pv_k_model pv_p_365_1 ?_
        refine px_bipush (v := nI 64) dX10_refusal_80 (by decide) ?_
        refine px_iload_n dX10_refusal_82 rfl ?_
        refine px_iaddN dX10_refusal_83 ?_
        refine px_iald (j := (64 + s)) dX10_refusal_84 pv_a_z.1 rfl (by omega) pv_a_z.2.2 pv_a_z.2.1 ?_
        refine px_iv (y := nI (T ((64 + s)))) (hM.1 ((64 + s)) (by omega) (by omega) (by omega)) ?_
        refine px_icmp_leN (tgt := 90) dX10_refusal_85 (by decide) (by omega) (by omega) (fun h4p => ?_) (fun h4p => ?_)
        · refine px_iload dX10_refusal_90 rfl ?_
          refine px_iload_n dX10_refusal_92 rfl ?_
          refine px_imulN dX10_refusal_93 ?_
          refine px_aload_n dX10_refusal_94 rfl ?_
          refine px_getR dX10_refusal_95 flX10_7 pv_s_model (by decide) (by decide) rfl pv_k_model pv_p_365_1 ?_
          refine px_sipush (v := nI 410) dX10_refusal_98 (by decide) ?_
          refine px_iald (j := 410) dX10_refusal_101 pv_a_z.1 rfl (by omega) pv_a_z.2.2 pv_a_z.2.1 ?_
          refine px_iv (y := nI (T (410))) (hM.1 (410) (by omega) (by omega) (by omega)) ?_
          refine px_icmp_leN (tgt := 109) dX10_refusal_102 (by decide) (by omega) (by omega) (fun h5p => ?_) (fun h5p => ?_)
          · refine px_aload_n dX10_refusal_109 rfl ?_
            refine px_getR dX10_refusal_110 flX10_7 pv_s_model (by decide) (by decide) rfl pv_k_model pv_p_365_1 ?_
            refine px_sipush (v := nI 406) dX10_refusal_113 (by decide) ?_
            refine px_iald (j := 406) dX10_refusal_116 pv_a_z.1 rfl (by omega) pv_a_z.2.2 pv_a_z.2.1 ?_
            refine px_iv (y := nI (L.length)) (hM.2.1) ?_
            refine px_bipush (v := nI 30) dX10_refusal_117 (by decide) ?_
            refine px_icmp_neN (tgt := 127) dX10_refusal_119 (by decide) (by omega) (by omega) (fun h6p => ?_) (fun h6p => ?_)
            · refine px_iconst (v := nI 0) dX10_refusal_127 (by decide) ?_
              exact px_iret dX10_refusal_128 rfl (Or.inl rfl) (by rw [if_neg (by omega), if_neg (by omega), if_neg (by omega), if_neg (by omega), if_neg (by omega)] at h; exact h)
            · refine px_bipush (v := nI 6) dX10_refusal_122 (by decide) ?_
              refine px_goto (tgt := 128) dX10_refusal_124 (by decide) ?_
              exact px_iret dX10_refusal_128 rfl (Or.inl rfl) (by rw [if_neg (by omega), if_neg (by omega), if_neg (by omega), if_neg (by omega), if_pos (by omega)] at h; exact h)
          · refine px_iconst (v := nI 5) dX10_refusal_105 (by decide) ?_
            refine px_goto (tgt := 128) dX10_refusal_106 (by decide) ?_
            exact px_iret dX10_refusal_128 rfl (Or.inl rfl) (by rw [if_neg (by omega), if_neg (by omega), if_neg (by omega), if_pos h5p] at h; exact h)
        · refine px_iconst (v := nI 4) dX10_refusal_88 (by decide) ?_
          exact px_iret dX10_refusal_89 rfl (Or.inl rfl) (by rw [if_neg (by omega), if_neg (by omega), if_pos (by omega)] at h; exact h)
      · refine px_iconst (v := nI 3) dX10_refusal_67 (by decide) ?_
        exact px_iret dX10_refusal_68 rfl (Or.inl rfl) (by rw [if_neg (by omega), if_pos h3p] at h; exact h)
    · refine px_iconst (v := nI 2) dX10_refusal_47 (by decide) ?_
      exact px_iret dX10_refusal_48 rfl (Or.inl rfl) (by rw [if_pos h2p] at h; exact h)
theorem c_X10_refusal {z : pv_Z} {E : pv_E} {d bc bs : Nat} {J : pv_JT} {I : pv_IT} {mi : pv_MI} {pc idx : Nat} {lv : pv_LV} {st : List Value} {T : pv_T} {L : List pv_Lot} {k a s : Nat} (hd : decode mi.2.1 pc = .ok (.invokevirtual idx, 3)) (hlk : Cond.methodLink mi.1.cls idx mX10_refusal.1 ∈ pv_W) (hD : 2+1 ≤ d) (hM : MR (I 366) T L) (hb : tb T) (h1 : k < 8) (h2 : s < 3) (h3 : a ≤ 2000) (h4 : T 404 < 2147483648) (h30 : L.length ≤ 30) (hcat : (st.map fun v => v.category).sum ≤ 8) (K : pv_X z E d bc bs mi (pc + 3) lv ((.int (nI (pt_refuse T L k a s))) :: st) pv_K0 pv_P0 (I) (J)) : pv_X z E d bc bs mi pc lv (.int (nI (s)) :: .int (nI (a)) :: .int (nI (k)) :: .ref (365) :: st) pv_K0 pv_P0 I J := by
  obtain ⟨d, rfl⟩ : ∃ d0, d = d0 + 1 := ⟨d - 1, by omega⟩
  have key := px_callV (bc := bc) (bs := bs) (bc1 := 0) (bs1 := 0) (as := [.int (nI (k)), .int (nI (a)), .int (nI (s))]) (E := E) (z := z) (lv := lv) hd mvX10_refusal hlk pv_s_model (by decide) rfl pv_k_model rfl rfl hcat (by exact Nat.le_of_ble_eq_true rfl) (s_X10_refusal (by omega) hM hb h1 h2 h3 h4 h30 K)
  rw [Nat.zero_add, Nat.zero_add] at key
  exact key
