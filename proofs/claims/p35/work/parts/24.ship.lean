/-! The class: the ship, what it tells. -/
theorem nx_xor (a b : Nat) : nI a ^^^ nI b = nI (a ^^^ b) := by
  apply Int32.toBitVec_inj.1
  show BitVec.ofNat 32 a ^^^ BitVec.ofNat 32 b = BitVec.ofNat 32 (a ^^^ b)
  apply BitVec.eq_of_getLsbD_eq
  intro i hi
  simp [hi]
set_option maxRecDepth 100000 in
set_option maxHeartbeats 4000000 in
theorem s_X7_stepFor {Q : pv_Q} {E : pv_E} {d bc bs : Nat} {J : pv_JT} {I : pv_IT} {x : Nat} (hD : 0 ≤ d) (hx : x ≤ 200) (h : Q (.inl (some (.int (nI (pt_step x))))) pv_K0 pv_P0 (I) (J)) : pv_X (pv_ZQ E Q) E d bc bs mX7_stepFor 0 [(0, .int (nI (x)))] [] pv_K0 pv_P0 I J := by
  refine px_iload_n dX7_stepFor_0 rfl ?_
  refine px_iconst (v := nI 1) dX7_stepFor_1 (by decide) ?_
  refine px_icmp_geN (tgt := 11) dX7_stepFor_2 (by decide) (by omega) (by omega) (fun h0 => ?_) (fun h0 => ?_)
  · refine px_sipush (v := nI 1000) dX7_stepFor_11 (by decide) ?_
    refine px_iload_n dX7_stepFor_14 rfl ?_
    refine px_idivN (by omega) h0 (by omega) dX7_stepFor_15 ?_
    exact px_iret dX7_stepFor_16 rfl (Or.inl rfl) (by unfold pt_step at h; rw [if_neg (by omega)] at h; exact h)
  · refine px_sipush (v := nI 1000) dX7_stepFor_5 (by decide) ?_
    refine px_goto (tgt := 16) dX7_stepFor_8 (by decide) ?_
    exact px_iret dX7_stepFor_16 rfl (Or.inl rfl) (by unfold pt_step at h; rw [if_pos (by omega)] at h; exact h)
theorem c_X7_stepFor {z : pv_Z} {E : pv_E} {d bc bs : Nat} {J : pv_JT} {I : pv_IT} {mi : pv_MI} {pc idx : Nat} {lv : pv_LV} {st : List Value} {x : Nat} (hd : decode mi.2.1 pc = .ok (.invokestatic idx, 3)) (hlk : Cond.methodLink mi.1.cls idx mX7_stepFor.1 ∈ pv_W) (hD : 0+1 ≤ d) (hx : x ≤ 200) (hcat : (st.map fun v => v.category).sum ≤ 8) (K : pv_X z E d bc bs mi (pc + 3) lv ((.int (nI (pt_step x))) :: st) pv_K0 pv_P0 (I) (J)) : pv_X z E d bc bs mi pc lv (.int (nI (x)) :: st) pv_K0 pv_P0 I J := by
  obtain ⟨d, rfl⟩ : ∃ d0, d = d0 + 1 := ⟨d - 1, by omega⟩
  have key := px_callS (bc := bc) (bs := bs) (bc1 := 0) (bs1 := 0) (as := [.int (nI (x))]) (E := E) (z := z) (lv := lv) hd msX7_stepFor hlk rfl rfl hcat (by exact Nat.le_of_ble_eq_true rfl) (s_X7_stepFor (by omega) hx K)
  rw [Nat.zero_add, Nat.zero_add] at key
  exact key
set_option maxRecDepth 100000 in
set_option maxHeartbeats 4000000 in
theorem s_X7_stepsTo {Q : pv_Q} {E : pv_E} {d bc bs : Nat} {J : pv_JT} {I : pv_IT} {x y : Nat} (hD : 0 ≤ d) (hx : x ≤ 100000) (hy : y ≤ 1000) (hy1 : 1 ≤ y) (h : Q (.inl (some (.int (nI (pt_steps x y))))) pv_K0 pv_P0 (I) (J)) : pv_X (pv_ZQ E Q) E d bc bs mX7_stepsTo 0 [(0, .int (nI (x))), (1, .int (nI (y)))] [] pv_K0 pv_P0 I J := by
  refine px_iload_n dX7_stepsTo_0 rfl ?_
  refine px_iconst (v := nI 1) dX7_stepsTo_1 (by decide) ?_
  refine px_icmp_geN (tgt := 9) dX7_stepsTo_2 (by decide) (by omega) (by omega) (fun _ => ?_) (fun h0 => absurd h0 (by omega))
  refine px_iload_n dX7_stepsTo_9 rfl ?_
  refine px_iload_n dX7_stepsTo_10 rfl ?_
  refine px_iaddN dX7_stepsTo_11 ?_
  refine px_iconst (v := nI 1) dX7_stepsTo_12 (by decide) ?_
  refine px_isubN (by omega) dX7_stepsTo_13 ?_
  refine px_iload_n dX7_stepsTo_14 rfl ?_
  refine px_idivN (by omega) (by omega) (by omega) dX7_stepsTo_15 ?_
  exact px_iret dX7_stepsTo_16 rfl (Or.inl rfl) (h)
theorem c_X7_stepsTo {z : pv_Z} {E : pv_E} {d bc bs : Nat} {J : pv_JT} {I : pv_IT} {mi : pv_MI} {pc idx : Nat} {lv : pv_LV} {st : List Value} {x y : Nat} (hd : decode mi.2.1 pc = .ok (.invokestatic idx, 3)) (hlk : Cond.methodLink mi.1.cls idx mX7_stepsTo.1 ∈ pv_W) (hD : 0+1 ≤ d) (hx : x ≤ 100000) (hy : y ≤ 1000) (hy1 : 1 ≤ y) (hcat : (st.map fun v => v.category).sum ≤ 8) (K : pv_X z E d bc bs mi (pc + 3) lv ((.int (nI (pt_steps x y))) :: st) pv_K0 pv_P0 (I) (J)) : pv_X z E d bc bs mi pc lv (.int (nI (y)) :: .int (nI (x)) :: st) pv_K0 pv_P0 I J := by
  obtain ⟨d, rfl⟩ : ∃ d0, d = d0 + 1 := ⟨d - 1, by omega⟩
  have key := px_callS (bc := bc) (bs := bs) (bc1 := 0) (bs1 := 0) (as := [.int (nI (x)), .int (nI (y))]) (E := E) (z := z) (lv := lv) hd msX7_stepsTo hlk rfl rfl hcat (by exact Nat.le_of_ble_eq_true rfl) (s_X7_stepsTo (by omega) hx hy hy1 K)
  rw [Nat.zero_add, Nat.zero_add] at key
  exact key
set_option maxRecDepth 100000 in
set_option maxHeartbeats 4000000 in
theorem s_J9_min_7cf53 {Q : pv_Q} {E : pv_E} {d bc bs : Nat} {J : pv_JT} {I : pv_IT} {x y : Nat} (hD : 0 ≤ d) (hx : x < 2147483648) (hy : y < 2147483648) (h : Q (.inl (some (.int (nI (min x y))))) pv_K0 pv_P0 (I) (J)) : pv_X (pv_ZQ E Q) E d bc bs mJ9_min_7cf53 0 [(0, .int (nI (x))), (1, .int (nI (y)))] [] pv_K0 pv_P0 I J := by
  refine px_iload_n dJ9_min_7cf53_0 rfl ?_
  refine px_iload_n dJ9_min_7cf53_1 rfl ?_
  refine px_icmp_gtN (tgt := 9) dJ9_min_7cf53_2 (by decide) (by omega) (by omega) (fun h0 => ?_) (fun h0 => ?_)
  · refine px_iload_n dJ9_min_7cf53_9 rfl ?_
    exact px_iret dJ9_min_7cf53_10 rfl (Or.inl rfl) (pq_i h (congrArg nI (by omega)))
  · refine px_iload_n dJ9_min_7cf53_5 rfl ?_
    refine px_goto (tgt := 10) dJ9_min_7cf53_6 (by decide) ?_
    exact px_iret dJ9_min_7cf53_10 rfl (Or.inl rfl) (pq_i h (congrArg nI (by omega)))
theorem c_J9_min_7cf53 {z : pv_Z} {E : pv_E} {d bc bs : Nat} {J : pv_JT} {I : pv_IT} {mi : pv_MI} {pc idx : Nat} {lv : pv_LV} {st : List Value} {x y : Nat} (hd : decode mi.2.1 pc = .ok (.invokestatic idx, 3)) (hlk : Cond.methodLink mi.1.cls idx mJ9_min_7cf53.1 ∈ pv_W) (hD : 0+1 ≤ d) (hx : x < 2147483648) (hy : y < 2147483648) (hcat : (st.map fun v => v.category).sum ≤ 8) (K : pv_X z E d bc bs mi (pc + 3) lv ((.int (nI (min x y))) :: st) pv_K0 pv_P0 (I) (J)) : pv_X z E d bc bs mi pc lv (.int (nI (y)) :: .int (nI (x)) :: st) pv_K0 pv_P0 I J := by
  obtain ⟨d, rfl⟩ : ∃ d0, d = d0 + 1 := ⟨d - 1, by omega⟩
  have key := px_callS (bc := bc) (bs := bs) (bc1 := 0) (bs1 := 0) (as := [.int (nI (x)), .int (nI (y))]) (E := E) (z := z) (lv := lv) hd msJ9_min_7cf53 hlk rfl rfl hcat (by exact Nat.le_of_ble_eq_true rfl) (s_J9_min_7cf53 (by omega) hx hy K)
  rw [Nat.zero_add, Nat.zero_add] at key
  exact key
set_option maxRecDepth 100000 in
set_option maxHeartbeats 4000000 in
theorem s_J9_max_7cf53 {Q : pv_Q} {E : pv_E} {d bc bs : Nat} {J : pv_JT} {I : pv_IT} {x y : Nat} (hD : 0 ≤ d) (hx : x < 2147483648) (hy : y < 2147483648) (h : Q (.inl (some (.int (nI (max x y))))) pv_K0 pv_P0 (I) (J)) : pv_X (pv_ZQ E Q) E d bc bs mJ9_max_7cf53 0 [(0, .int (nI (x))), (1, .int (nI (y)))] [] pv_K0 pv_P0 I J := by
  refine px_iload_n dJ9_max_7cf53_0 rfl ?_
  refine px_iload_n dJ9_max_7cf53_1 rfl ?_
  refine px_icmp_ltN (tgt := 9) dJ9_max_7cf53_2 (by decide) (by omega) (by omega) (fun h0 => ?_) (fun h0 => ?_)
  · refine px_iload_n dJ9_max_7cf53_9 rfl ?_
    exact px_iret dJ9_max_7cf53_10 rfl (Or.inl rfl) (pq_i h (congrArg nI (by omega)))
  · refine px_iload_n dJ9_max_7cf53_5 rfl ?_
    refine px_goto (tgt := 10) dJ9_max_7cf53_6 (by decide) ?_
    exact px_iret dJ9_max_7cf53_10 rfl (Or.inl rfl) (pq_i h (congrArg nI (by omega)))
theorem c_J9_max_7cf53 {z : pv_Z} {E : pv_E} {d bc bs : Nat} {J : pv_JT} {I : pv_IT} {mi : pv_MI} {pc idx : Nat} {lv : pv_LV} {st : List Value} {x y : Nat} (hd : decode mi.2.1 pc = .ok (.invokestatic idx, 3)) (hlk : Cond.methodLink mi.1.cls idx mJ9_max_7cf53.1 ∈ pv_W) (hD : 0+1 ≤ d) (hx : x < 2147483648) (hy : y < 2147483648) (hcat : (st.map fun v => v.category).sum ≤ 8) (K : pv_X z E d bc bs mi (pc + 3) lv ((.int (nI (max x y))) :: st) pv_K0 pv_P0 (I) (J)) : pv_X z E d bc bs mi pc lv (.int (nI (y)) :: .int (nI (x)) :: st) pv_K0 pv_P0 I J := by
  obtain ⟨d, rfl⟩ : ∃ d0, d = d0 + 1 := ⟨d - 1, by omega⟩
  have key := px_callS (bc := bc) (bs := bs) (bc1 := 0) (bs1 := 0) (as := [.int (nI (x)), .int (nI (y))]) (E := E) (z := z) (lv := lv) hd msJ9_max_7cf53 hlk rfl rfl hcat (by exact Nat.le_of_ble_eq_true rfl) (s_J9_max_7cf53 (by omega) hx hy K)
  rw [Nat.zero_add, Nat.zero_add] at key
  exact key
set_option maxRecDepth 100000 in
set_option maxHeartbeats 4000000 in
theorem s_J9_floorMod_7cf53 {Q : pv_Q} {E : pv_E} {d bc bs : Nat} {J : pv_JT} {I : pv_IT} {x y : Nat} (hD : 0 ≤ d) (hx : x < 2147483648) (hy1 : 0 < y) (hy : y < 2147483648) (h : Q (.inl (some (.int (nI (x % y))))) pv_K0 pv_P0 (I) (J)) : pv_X (pv_ZQ E Q) E d bc bs mJ9_floorMod_7cf53 0 [(0, .int (nI (x))), (1, .int (nI (y)))] [] pv_K0 pv_P0 I J := by
  refine px_iload_n dJ9_floorMod_7cf53_0 rfl ?_
  refine px_iload_n dJ9_floorMod_7cf53_1 rfl ?_
  refine px_iremN hx hy1 hy dJ9_floorMod_7cf53_2 ?_
  refine px_istore_n dJ9_floorMod_7cf53_3 (by decide) ?_
  refine px_iload_n dJ9_floorMod_7cf53_4 rfl ?_
  refine px_iload_n dJ9_floorMod_7cf53_5 rfl ?_
  refine px_ixor dJ9_floorMod_7cf53_6 ?_
  have h1 : x ^^^ y < 2 ^ 31 := Nat.xor_lt_two_pow (by omega) (by omega)
  rw [nx_xor]
  refine px_if_geN (tgt := 18) dJ9_floorMod_7cf53_7 (by decide) (by omega) ?_
  refine px_iload_n dJ9_floorMod_7cf53_18 rfl ?_
  exact px_iret dJ9_floorMod_7cf53_19 rfl (Or.inl rfl) (h)
theorem c_J9_floorMod_7cf53 {z : pv_Z} {E : pv_E} {d bc bs : Nat} {J : pv_JT} {I : pv_IT} {mi : pv_MI} {pc idx : Nat} {lv : pv_LV} {st : List Value} {x y : Nat} (hd : decode mi.2.1 pc = .ok (.invokestatic idx, 3)) (hlk : Cond.methodLink mi.1.cls idx mJ9_floorMod_7cf53.1 ∈ pv_W) (hD : 0+1 ≤ d) (hx : x < 2147483648) (hy1 : 0 < y) (hy : y < 2147483648) (hcat : (st.map fun v => v.category).sum ≤ 8) (K : pv_X z E d bc bs mi (pc + 3) lv ((.int (nI (x % y))) :: st) pv_K0 pv_P0 (I) (J)) : pv_X z E d bc bs mi pc lv (.int (nI (y)) :: .int (nI (x)) :: st) pv_K0 pv_P0 I J := by
  obtain ⟨d, rfl⟩ : ∃ d0, d = d0 + 1 := ⟨d - 1, by omega⟩
  have key := px_callS (bc := bc) (bs := bs) (bc1 := 0) (bs1 := 0) (as := [.int (nI (x)), .int (nI (y))]) (E := E) (z := z) (lv := lv) hd msJ9_floorMod_7cf53 hlk rfl rfl hcat (by exact Nat.le_of_ble_eq_true rfl) (s_J9_floorMod_7cf53 (by omega) hx hy1 hy K)
  rw [Nat.zero_add, Nat.zero_add] at key
  exact key
set_option maxRecDepth 100000 in
set_option maxHeartbeats 4000000 in
theorem s_X4_slot {Q : pv_Q} {E : pv_E} {d bc bs : Nat} {J : pv_JT} {I : pv_IT} {q m i : Nat} (hD : 0 ≤ d) (hq : pv_menus q) (h : Q (.inl (some (.int (nI (m * 4 + i))))) pv_K0 pv_P0 (I) (J)) : pv_X (pv_ZQ E Q) E d bc bs mX4_slot 0 [(0, .ref (q)), (1, .int (nI (m))), (2, .int (nI (i)))] [] pv_K0 pv_P0 I J := by
  refine px_iload_n dX4_slot_0 rfl ?_
  refine px_iconst (v := nI 4) dX4_slot_1 (by decide) ?_
  refine px_imulN dX4_slot_2 ?_
  refine px_iload_n dX4_slot_3 rfl ?_
  refine px_iaddN dX4_slot_4 ?_
  exact px_iret dX4_slot_5 rfl (Or.inl rfl) (h)
theorem c_X4_slot {z : pv_Z} {E : pv_E} {d bc bs : Nat} {J : pv_JT} {I : pv_IT} {mi : pv_MI} {pc idx : Nat} {lv : pv_LV} {st : List Value} {q m i : Nat} (hd : decode mi.2.1 pc = .ok (.invokevirtual idx, 3)) (hlk : Cond.methodLink mi.1.cls idx mX4_slot.1 ∈ pv_W) (hD : 0+1 ≤ d) (hq : pv_menus q) (hcat : (st.map fun v => v.category).sum ≤ 8) (K : pv_X z E d bc bs mi (pc + 3) lv ((.int (nI (m * 4 + i))) :: st) pv_K0 pv_P0 (I) (J)) : pv_X z E d bc bs mi pc lv (.int (nI (i)) :: .int (nI (m)) :: .ref (q) :: st) pv_K0 pv_P0 I J := by
  obtain ⟨d, rfl⟩ : ∃ d0, d = d0 + 1 := ⟨d - 1, by omega⟩
  have key := px_callV (bc := bc) (bs := bs) (bc1 := 0) (bs1 := 0) (as := [.int (nI (m)), .int (nI (i))]) (E := E) (z := z) (lv := lv) hd mvX4_slot hlk hq.1 (by decide) rfl hq.2.1 rfl rfl hcat (by exact Nat.le_of_ble_eq_true rfl) (s_X4_slot (by omega) hq K)
  rw [Nat.zero_add, Nat.zero_add] at key
  exact key
set_option maxRecDepth 100000 in
set_option maxHeartbeats 4000000 in
theorem s_X4_ofDay {Q : pv_Q} {E : pv_E} {d bc bs : Nat} {J : pv_JT} {I : pv_IT} {q x : Nat} {T : pv_T} (hD : 1 ≤ d) (hq : pv_menus q) (hm : cm I q T) (h1 : 1 ≤ T 408) (hx : x < 2147483648) (h : Q (.inl (some (.int (nI (x % T 408))))) pv_K0 pv_P0 (I) (J)) : pv_X (pv_ZQ E Q) E d bc bs mX4_ofDay 0 [(0, .ref (q)), (1, .int (nI (x)))] [] pv_K0 pv_P0 I J := by
  have h10 := hm.2.1
  refine px_aload_n dX4_ofDay_0 rfl ?_
  refine px_getI dX4_ofDay_1 flX4_9 hq.1 (by decide) (by decide) rfl hq.2.1 ?_
  refine px_iv (y := nI (T 408)) (hm.1) ?_
  refine px_iconst (v := nI 1) dX4_ofDay_4 (by decide) ?_
  refine px_icmp_geN (tgt := 12) dX4_ofDay_5 (by decide) (by omega) (by omega) (fun _ => ?_) (fun h0 => absurd h0 (by omega))
  refine px_iload_n dX4_ofDay_12 rfl ?_
  refine px_aload_n dX4_ofDay_13 rfl ?_
  refine px_getI dX4_ofDay_14 flX4_9 hq.1 (by decide) (by decide) rfl hq.2.1 ?_
  refine px_iv (y := nI (T 408)) (hm.1) ?_
  refine c_J9_floorMod_7cf53 dX4_ofDay_17 mlX4_34 (by omega) hx (by omega) (by omega) (Nat.le_of_ble_eq_true rfl) ?_
  exact px_iret dX4_ofDay_20 rfl (Or.inl rfl) (h)
theorem c_X4_ofDay {z : pv_Z} {E : pv_E} {d bc bs : Nat} {J : pv_JT} {I : pv_IT} {mi : pv_MI} {pc idx : Nat} {lv : pv_LV} {st : List Value} {q x : Nat} {T : pv_T} (hd : decode mi.2.1 pc = .ok (.invokevirtual idx, 3)) (hlk : Cond.methodLink mi.1.cls idx mX4_ofDay.1 ∈ pv_W) (hD : 1+1 ≤ d) (hq : pv_menus q) (hm : cm I q T) (h1 : 1 ≤ T 408) (hx : x < 2147483648) (hcat : (st.map fun v => v.category).sum ≤ 8) (K : pv_X z E d bc bs mi (pc + 3) lv ((.int (nI (x % T 408))) :: st) pv_K0 pv_P0 (I) (J)) : pv_X z E d bc bs mi pc lv (.int (nI (x)) :: .ref (q) :: st) pv_K0 pv_P0 I J := by
  obtain ⟨d, rfl⟩ : ∃ d0, d = d0 + 1 := ⟨d - 1, by omega⟩
  have key := px_callV (bc := bc) (bs := bs) (bc1 := 0) (bs1 := 0) (as := [.int (nI (x))]) (E := E) (z := z) (lv := lv) hd mvX4_ofDay hlk hq.1 (by decide) rfl hq.2.1 rfl rfl hcat (by exact Nat.le_of_ble_eq_true rfl) (s_X4_ofDay (by omega) hq hm h1 hx K)
  rw [Nat.zero_add, Nat.zero_add] at key
  exact key
set_option maxRecDepth 100000 in
set_option maxHeartbeats 4000000 in
theorem s_X4_has {Q : pv_Q} {E : pv_E} {d bc bs : Nat} {J : pv_JT} {I : pv_IT} {q j x : Nat} (hD : 1 ≤ d) (hq : pv_menus q) (hj : j < 40) (hI : I (q + 4) j = nI x) (hx : x < 2147483648) (h : Q (.inl (some (.int (nI (pv_bl (0 < x)))))) pv_K0 pv_P0 (I) (J)) : pv_X (pv_ZQ E Q) E d bc bs mX4_has 0 [(0, .ref (q)), (1, .int (nI (j)))] [] pv_K0 pv_P0 I J := by
  refine px_aload_n dX4_has_0 rfl ?_
  refine px_getR dX4_has_1 flX4_24 hq.1 (by decide) (by decide) rfl hq.2.1 hq.2.2.2.1.1 ?_
  refine px_iload_n dX4_has_4 rfl ?_
  refine c_X6_at dX4_has_5 mlX4_30 (by omega) (j := j) hq.2.2.2.1.2 (by omega) (Nat.le_of_ble_eq_true rfl) ?_
  refine px_iv (y := nI (x)) (hI) ?_
  by_cases e : 0 < x
  · rw [pv_bl1 e] at h
    refine px_if_leN (a := x) (tgt := 15) dX4_has_8 (by decide) hx (fun h0 => absurd h0 (by omega)) (fun _ => ?_)
    refine px_iconst (v := nI 1) dX4_has_11 (by decide) ?_
    refine px_goto (tgt := 16) dX4_has_12 (by decide) ?_
    exact px_zret dX4_has_16 rfl rfl (Or.inl rfl) (h)
  · rw [pv_bl0 e] at h
    refine px_if_leN (a := x) (tgt := 15) dX4_has_8 (by decide) hx (fun _ => ?_) (fun h0 => absurd h0 e)
    refine px_iconst (v := nI 0) dX4_has_15 (by decide) ?_
    exact px_zret dX4_has_16 rfl rfl (Or.inl rfl) (h)
theorem c_X4_has {z : pv_Z} {E : pv_E} {d bc bs : Nat} {J : pv_JT} {I : pv_IT} {mi : pv_MI} {pc idx : Nat} {lv : pv_LV} {st : List Value} {q j x : Nat} (hd : decode mi.2.1 pc = .ok (.invokevirtual idx, 3)) (hlk : Cond.methodLink mi.1.cls idx mX4_has.1 ∈ pv_W) (hD : 1+1 ≤ d) (hq : pv_menus q) (hj : j < 40) (hI : I (q + 4) j = nI x) (hx : x < 2147483648) (hcat : (st.map fun v => v.category).sum ≤ 8) (K : pv_X z E d bc bs mi (pc + 3) lv ((.int (nI (pv_bl (0 < x)))) :: st) pv_K0 pv_P0 (I) (J)) : pv_X z E d bc bs mi pc lv (.int (nI (j)) :: .ref (q) :: st) pv_K0 pv_P0 I J := by
  obtain ⟨d, rfl⟩ : ∃ d0, d = d0 + 1 := ⟨d - 1, by omega⟩
  have key := px_callV (bc := bc) (bs := bs) (bc1 := 0) (bs1 := 0) (as := [.int (nI (j))]) (E := E) (z := z) (lv := lv) hd mvX4_has hlk hq.1 (by decide) rfl hq.2.1 rfl rfl hcat (by exact Nat.le_of_ble_eq_true rfl) (s_X4_has (by omega) hq hj hI hx K)
  rw [Nat.zero_add, Nat.zero_add] at key
  exact key
set_option maxRecDepth 100000 in
set_option maxHeartbeats 4000000 in
theorem s_X7_lifeNow {Q : pv_Q} {E : pv_E} {d bc bs : Nat} {J : pv_JT} {I : pv_IT} {q : Nat} {T : pv_T} {L : List pv_Lot} {k s : Nat} (hD : 2 ≤ d) (hq : pv_ship q) (hC : CR I q T L) (hb : tb T) (h1 : k < 8) (h2 : s < 3) (h : Q (.inl (some (.int (nI (pt_now T k s))))) pv_K0 pv_P0 (I) (J)) : pv_X (pv_ZQ E Q) E d bc bs mX7_lifeNow 0 [(0, .ref (q)), (1, .int (nI (k))), (2, .int (nI (s)))] [] pv_K0 pv_P0 I J := by
  have hw := (hb.2.1 s h2).2
  refine px_aload_n dX7_lifeNow_0 rfl ?_
  refine px_getR dX7_lifeNow_1 flX7_21 hq.1 (by decide) (by decide) rfl hq.2.1 hq.2.2.1.1 ?_
  refine px_iload_n dX7_lifeNow_4 rfl ?_
  refine px_aload_n dX7_lifeNow_5 rfl ?_
  refine px_getR dX7_lifeNow_6 flX7_28 hq.1 (by decide) (by decide) rfl hq.2.1 hq.2.2.2.1.1 ?_
  refine px_getR dX7_lifeNow_9 flX7_62 hq.2.2.2.1.2.1 (by decide) (by decide) rfl hq.2.2.2.1.2.2.1 hq.2.2.2.1.2.2.2.2.1 ?_
  refine px_iload_n dX7_lifeNow_12 rfl ?_
  refine c_X6_at dX7_lifeNow_13 mlX7_65 (by omega) (j := s) hq.2.2.2.1.2.2.2.2.2 (by omega) (Nat.le_of_ble_eq_true rfl) ?_
  refine px_iv (y := nI (T (67 + s))) ((hC.2.2.1 (s) (by omega)).2) ?_
  refine px_if_leN (tgt := 23) dX7_lifeNow_16 (by decide) (by omega) (fun h0 => ?_) (fun h0 => ?_)
  · refine px_iload_n dX7_lifeNow_23 rfl ?_
    refine c_X1_lifeIn dX7_lifeNow_24 mlX7_69 (by omega) hq.2.2.1.2 hC.2.1 h1 h2 (Nat.le_of_ble_eq_true rfl) ?_
    exact px_iret dX7_lifeNow_27 rfl (Or.inl rfl) (by unfold pt_now at h; rw [if_neg (by omega)] at h; exact h)
  · refine px_iconst (v := nI 0) dX7_lifeNow_19 (by decide) ?_
    refine px_goto (tgt := 24) dX7_lifeNow_20 (by decide) ?_
    refine c_X1_lifeIn dX7_lifeNow_24 mlX7_69 (by omega) hq.2.2.1.2 hC.2.1 h1 (by omega) (Nat.le_of_ble_eq_true rfl) ?_
    exact px_iret dX7_lifeNow_27 rfl (Or.inl rfl) (by unfold pt_now at h; rw [if_pos h0] at h; exact h)
theorem c_X7_lifeNow {z : pv_Z} {E : pv_E} {d bc bs : Nat} {J : pv_JT} {I : pv_IT} {mi : pv_MI} {pc idx : Nat} {lv : pv_LV} {st : List Value} {q : Nat} {T : pv_T} {L : List pv_Lot} {k s : Nat} (hd : decode mi.2.1 pc = .ok (.invokevirtual idx, 3)) (hlk : Cond.methodLink mi.1.cls idx mX7_lifeNow.1 ∈ pv_W) (hD : 2+1 ≤ d) (hq : pv_ship q) (hC : CR I q T L) (hb : tb T) (h1 : k < 8) (h2 : s < 3) (hcat : (st.map fun v => v.category).sum ≤ 8) (K : pv_X z E d bc bs mi (pc + 3) lv ((.int (nI (pt_now T k s))) :: st) pv_K0 pv_P0 (I) (J)) : pv_X z E d bc bs mi pc lv (.int (nI (s)) :: .int (nI (k)) :: .ref (q) :: st) pv_K0 pv_P0 I J := by
  obtain ⟨d, rfl⟩ : ∃ d0, d = d0 + 1 := ⟨d - 1, by omega⟩
  have key := px_callV (bc := bc) (bs := bs) (bc1 := 0) (bs1 := 0) (as := [.int (nI (k)), .int (nI (s))]) (E := E) (z := z) (lv := lv) hd mvX7_lifeNow hlk hq.1 (by decide) rfl hq.2.1 rfl rfl hcat (by exact Nat.le_of_ble_eq_true rfl) (s_X7_lifeNow (by omega) hq hC hb h1 h2 K)
  rw [Nat.zero_add, Nat.zero_add] at key
  exact key
set_option maxRecDepth 100000 in
set_option maxHeartbeats 4000000 in
theorem s_X7_roomLeft {Q : pv_Q} {E : pv_E} {d bc bs : Nat} {J : pv_JT} {I : pv_IT} {q : Nat} {T : pv_T} {L : List pv_Lot} {s : Nat} (hD : 2 ≤ d) (hq : pv_ship q) (hC : CR I q T L) (hb : tb T) (h2 : s < 3) (h : Q (.inl (some (.int (nI (T (64 + s)) - nI (ps_in L s))))) pv_K0 pv_P0 (I) (J)) : pv_X (pv_ZQ E Q) E d bc bs mX7_roomLeft 0 [(0, .ref (q)), (1, .int (nI (s)))] [] pv_K0 pv_P0 I J := by
  refine px_aload_n dX7_roomLeft_0 rfl ?_
  refine px_getR dX7_roomLeft_1 flX7_28 hq.1 (by decide) (by decide) rfl hq.2.1 hq.2.2.2.1.1 ?_
  refine px_getR dX7_roomLeft_4 flX7_73 hq.2.2.2.1.2.1 (by decide) (by decide) rfl hq.2.2.2.1.2.2.1 hq.2.2.2.1.2.2.2.1.1 ?_
  refine px_iload_n dX7_roomLeft_7 rfl ?_
  refine c_X6_at dX7_roomLeft_8 mlX7_65 (by omega) (j := s) hq.2.2.2.1.2.2.2.1.2 (by omega) (Nat.le_of_ble_eq_true rfl) ?_
  refine px_iv (y := nI (T (64 + s))) ((hC.2.2.1 (s) (by omega)).1) ?_
  refine px_aload_n dX7_roomLeft_11 rfl ?_
  refine px_getR dX7_roomLeft_12 flX7_35 hq.1 (by decide) (by decide) rfl hq.2.1 hq.2.2.2.2.1.1 ?_
  refine px_iload_n dX7_roomLeft_15 rfl ?_
  refine c_X2_rationsIn dX7_roomLeft_16 mlX7_76 (by omega) hq.2.2.2.2.1.2 hC.2.2.2.1 (by omega) (Nat.le_of_ble_eq_true rfl) ?_
  refine px_isub dX7_roomLeft_19 ?_
  exact px_iret dX7_roomLeft_20 rfl (Or.inl rfl) (h)
theorem c_X7_roomLeft {z : pv_Z} {E : pv_E} {d bc bs : Nat} {J : pv_JT} {I : pv_IT} {mi : pv_MI} {pc idx : Nat} {lv : pv_LV} {st : List Value} {q : Nat} {T : pv_T} {L : List pv_Lot} {s : Nat} (hd : decode mi.2.1 pc = .ok (.invokevirtual idx, 3)) (hlk : Cond.methodLink mi.1.cls idx mX7_roomLeft.1 ∈ pv_W) (hD : 2+1 ≤ d) (hq : pv_ship q) (hC : CR I q T L) (hb : tb T) (h2 : s < 3) (hcat : (st.map fun v => v.category).sum ≤ 8) (K : pv_X z E d bc bs mi (pc + 3) lv ((.int (nI (T (64 + s)) - nI (ps_in L s))) :: st) pv_K0 pv_P0 (I) (J)) : pv_X z E d bc bs mi pc lv (.int (nI (s)) :: .ref (q) :: st) pv_K0 pv_P0 I J := by
  obtain ⟨d, rfl⟩ : ∃ d0, d = d0 + 1 := ⟨d - 1, by omega⟩
  have key := px_callV (bc := bc) (bs := bs) (bc1 := 0) (bs1 := 0) (as := [.int (nI (s))]) (E := E) (z := z) (lv := lv) hd mvX7_roomLeft hlk hq.1 (by decide) rfl hq.2.1 rfl rfl hcat (by exact Nat.le_of_ble_eq_true rfl) (s_X7_roomLeft (by omega) hq hC hb h2 K)
  rw [Nat.zero_add, Nat.zero_add] at key
  exact key
theorem pn_room {r i a : Nat} (hr : r ≤ 100000) (hi : i ≤ 100000) (ha : a ≤ 100000) : nI a ≤ nI r - nI i ↔ i + a ≤ r := by
  rw [Int32.le_iff_toInt_le, pk_sub_toInt (by omega) (by omega), nI_toInt (by omega)]
  omega
def pt_refuse (T : pv_T) (L : List pv_Lot) (k a s : Nat) : Nat := match pt_on T (T 404) with
  | none => 1
  | some p => if pt_price T p k = 0 then 2 else if pt_now T k s = 0 then 3 else if T (64 + s) < ps_in L s + a then 4 else if T 410 < pt_price T p k * a then 5 else if 30 ≤ L.length then 6 else 0
theorem pt_on_lt {T : pv_T} {d p : Nat} (h : pt_on T d = some p) : p < T 407 := (pf_is h).1
theorem pt_aft_lt {T : pv_T} {d p : Nat} (h : pt_aft T d = some p) : p < T 407 ∧ d < T (324 + 10 * p) := ⟨(pf_is h).1, Nat.blt_eq.mp (pf_is h).2.1⟩
set_option maxRecDepth 100000 in
set_option maxHeartbeats 4000000 in
theorem s_X7_refusal {Q : pv_Q} {E : pv_E} {d bc bs : Nat} {J : pv_JT} {I : pv_IT} {q : Nat} {T : pv_T} {L : List pv_Lot} {k a s : Nat} (hD : 3 ≤ d) (hq : pv_ship q) (hC : CR I q T L) (hb : tb T) (h1 : k < 8) (h2 : s < 3) (h3 : a ≤ 2000) (h4 : T 404 < 2147483648) (h : Q (.inl (some (.int (nI (pt_refuse T L k a s))))) pv_K0 pv_P0 (I) (J)) : pv_X (pv_ZQ E Q) E d bc bs mX7_refusal 0 [(0, .ref (q)), (1, .int (nI (k))), (2, .int (nI (a))), (3, .int (nI (s)))] [] pv_K0 pv_P0 I J := by
  have hn := hb.2.2.2.2.2.1.1
  have hL := hC.2.2.2.1.2.1
  have h31 := hL.1
  have h410 := hb.2.2.2.2.1
  refine px_aload_n dX7_refusal_0 rfl ?_
  refine px_getR dX7_refusal_1 flX7_42 hq.1 (by decide) (by decide) rfl hq.2.1 hq.2.2.2.2.2.1.1 ?_
  refine px_aload_n dX7_refusal_4 rfl ?_
  refine px_getI dX7_refusal_5 flX7_79 hq.1 (by decide) (by decide) rfl hq.2.1 ?_
  refine px_iv (y := nI (T 404)) (hC.1.1) ?_
  refine c_X5_onDay dX7_refusal_8 mlX7_82 (by omega) hq.2.2.2.2.2.1.2 hC.2.2.2.2.1 hb.2.2.2.2.2.1 (by omega) (Nat.le_of_ble_eq_true rfl) ?_
  refine px_istore dX7_refusal_11 (by decide) ?_
  refine px_iload dX7_refusal_13 rfl ?_
  refine px_iconst (v := -1) dX7_refusal_15 (by decide) ?_
  unfold pt_refuse at h
  cases e : pt_on T (T 404) with
  | none =>
    rw [e] at h
    refine px_icmp_ne (tgt := 21) dX7_refusal_16 (by decide) (fun h0 => absurd rfl h0) (fun _ => ?_)
    refine px_iconst (v := nI 1) dX7_refusal_19 (by decide) ?_
    exact px_iret dX7_refusal_20 rfl (Or.inl rfl) (h)
  | some p =>
    rw [e] at h
    replace h : Q (.inl (some (.int (nI (if pt_price T p k = 0 then 2 else if pt_now T k s = 0 then 3 else if T (64 + s) < ps_in L s + a then 4 else if T 410 < pt_price T p k * a then 5 else if 30 ≤ L.length then 6 else 0))))) pv_K0 pv_P0 I J := h
    have hp8 := pt_on_lt e
    have hpr := (hb.2.2.2.2.2.1.2.1 p hp8).2.2 k h1
    have hnw := pt_now_le hb h1 h2
    have hrm := (hb.2.1 s h2).1
    have hin := ps_in_le (s := s) hL
    have hpa : pt_price T p k * a ≤ 100 * 2000 := Nat.mul_le_mul hpr h3
    refine px_icmp_ne (tgt := 21) dX7_refusal_16 (by decide) (fun _ => ?_) (fun h0 => absurd h0 (pn_m1 (by omega)))
    skip
    refine px_aload_n dX7_refusal_21 rfl ?_
    refine px_getR dX7_refusal_22 flX7_42 hq.1 (by decide) (by decide) rfl hq.2.1 hq.2.2.2.2.2.1.1 ?_
    refine px_iload dX7_refusal_25 rfl ?_
    refine px_iload_n dX7_refusal_27 rfl ?_
    refine c_X5_priceOf dX7_refusal_28 mlX7_85 (by omega) hq.2.2.2.2.2.1.2 hC.2.2.2.2.1 (by omega) h1 (Nat.le_of_ble_eq_true rfl) ?_
    refine px_istore dX7_refusal_31 (by decide) ?_
    refine px_iload dX7_refusal_33 rfl ?_
    have hpr2 : pt_price T p k < 2147483648 := by unfold pt_price; omega
    refine px_if_neN (tgt := 40) dX7_refusal_35 (by decide) (by omega) (fun h2p => ?_) (fun h2p => ?_)
    · refine px_aload_n dX7_refusal_40 rfl ?_
      refine px_iload_n dX7_refusal_41 rfl ?_
      refine px_iload_n dX7_refusal_42 rfl ?_
      refine c_X7_lifeNow dX7_refusal_43 mlX7_88 (by omega) hq hC hb h1 h2 (Nat.le_of_ble_eq_true rfl) ?_
      refine px_if_neN (tgt := 51) dX7_refusal_46 (by decide) (by omega) (fun h3p => ?_) (fun h3p => ?_)
      · refine px_aload_n dX7_refusal_51 rfl ?_
        refine px_iload_n dX7_refusal_52 rfl ?_
        refine c_X7_roomLeft dX7_refusal_53 mlX7_91 (by omega) hq hC hb h2 (Nat.le_of_ble_eq_true rfl) ?_
        refine px_iload_n dX7_refusal_56 rfl ?_
        refine px_icmp_ge (tgt := 62) dX7_refusal_57 (by decide) (fun h4p => ?_) (fun h4p => ?_)
        · have h4q := (pn_room (by omega) (by omega) (by omega)).mp h4p
          refine px_iload dX7_refusal_62 rfl ?_
          refine px_iload_n dX7_refusal_64 rfl ?_
          refine px_imulN dX7_refusal_65 ?_
          refine px_aload_n dX7_refusal_66 rfl ?_
          refine px_getI dX7_refusal_67 flX7_15 hq.1 (by decide) (by decide) rfl hq.2.1 ?_
          refine px_iv (y := nI (T 410)) (hC.1.2.2.1) ?_
          refine px_icmp_leN (tgt := 75) dX7_refusal_70 (by decide) (by omega) (by omega) (fun h5p => ?_) (fun h5p => ?_)
          · refine px_aload_n dX7_refusal_75 rfl ?_
            refine px_getR dX7_refusal_76 flX7_35 hq.1 (by decide) (by decide) rfl hq.2.1 hq.2.2.2.2.1.1 ?_
            refine px_getI dX7_refusal_79 flX7_94 hq.2.2.2.2.1.2.1 (by decide) (by decide) rfl hq.2.2.2.2.1.2.2.1 ?_
            refine px_iv (y := nI (L.length)) (hC.2.2.2.1.1) ?_
            refine px_bipush (v := nI 30) dX7_refusal_82 (by decide) ?_
            refine px_icmp_ltN (tgt := 92) dX7_refusal_84 (by decide) (by omega) (by omega) (fun h6p => ?_) (fun h6p => ?_)
            · refine px_iconst (v := nI 0) dX7_refusal_92 (by decide) ?_
              exact px_iret dX7_refusal_93 rfl (Or.inl rfl) (by rw [if_neg (by omega), if_neg (by omega), if_neg (by omega), if_neg (by omega), if_neg (by omega)] at h; exact h)
            · refine px_bipush (v := nI 6) dX7_refusal_87 (by decide) ?_
              refine px_goto (tgt := 93) dX7_refusal_89 (by decide) ?_
              exact px_iret dX7_refusal_93 rfl (Or.inl rfl) (by rw [if_neg (by omega), if_neg (by omega), if_neg (by omega), if_neg (by omega), if_pos (by omega)] at h; exact h)
          · refine px_iconst (v := nI 5) dX7_refusal_73 (by decide) ?_
            exact px_iret dX7_refusal_74 rfl (Or.inl rfl) (by rw [if_neg (by omega), if_neg (by omega), if_neg (by omega), if_pos h5p] at h; exact h)
        · have h4q : ¬ (ps_in L s + a ≤ T (64 + s)) := fun z => h4p ((pn_room (by omega) (by omega) (by omega)).mpr z)
          refine px_iconst (v := nI 4) dX7_refusal_60 (by decide) ?_
          exact px_iret dX7_refusal_61 rfl (Or.inl rfl) (by rw [if_neg (by omega), if_neg (by omega), if_pos (by omega)] at h; exact h)
      · refine px_iconst (v := nI 3) dX7_refusal_49 (by decide) ?_
        exact px_iret dX7_refusal_50 rfl (Or.inl rfl) (by rw [if_neg (by omega), if_pos h3p] at h; exact h)
    · refine px_iconst (v := nI 2) dX7_refusal_38 (by decide) ?_
      exact px_iret dX7_refusal_39 rfl (Or.inl rfl) (by rw [if_pos h2p] at h; exact h)
theorem c_X7_refusal {z : pv_Z} {E : pv_E} {d bc bs : Nat} {J : pv_JT} {I : pv_IT} {mi : pv_MI} {pc idx : Nat} {lv : pv_LV} {st : List Value} {q : Nat} {T : pv_T} {L : List pv_Lot} {k a s : Nat} (hd : decode mi.2.1 pc = .ok (.invokevirtual idx, 3)) (hlk : Cond.methodLink mi.1.cls idx mX7_refusal.1 ∈ pv_W) (hD : 3+1 ≤ d) (hq : pv_ship q) (hC : CR I q T L) (hb : tb T) (h1 : k < 8) (h2 : s < 3) (h3 : a ≤ 2000) (h4 : T 404 < 2147483648) (hcat : (st.map fun v => v.category).sum ≤ 8) (K : pv_X z E d bc bs mi (pc + 3) lv ((.int (nI (pt_refuse T L k a s))) :: st) pv_K0 pv_P0 (I) (J)) : pv_X z E d bc bs mi pc lv (.int (nI (s)) :: .int (nI (a)) :: .int (nI (k)) :: .ref (q) :: st) pv_K0 pv_P0 I J := by
  obtain ⟨d, rfl⟩ : ∃ d0, d = d0 + 1 := ⟨d - 1, by omega⟩
  have key := px_callV (bc := bc) (bs := bs) (bc1 := 0) (bs1 := 0) (as := [.int (nI (k)), .int (nI (a)), .int (nI (s))]) (E := E) (z := z) (lv := lv) hd mvX7_refusal hlk hq.1 (by decide) rfl hq.2.1 rfl rfl hcat (by exact Nat.le_of_ble_eq_true rfl) (s_X7_refusal (by omega) hq hC hb h1 h2 h3 h4 K)
  rw [Nat.zero_add, Nat.zero_add] at key
  exact key
def pt_wait (T : pv_T) : Nat := match pt_aft T (T 404) with
  | none => 60
  | some p => min (T (324 + 10 * p) - T 404) 60
