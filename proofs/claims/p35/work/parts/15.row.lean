/-! Rows. -/
set_option maxRecDepth 100000 in
set_option maxHeartbeats 4000000 in
theorem s_X6_at {Q : pv_Q} {E : pv_E} {d bc bs : Nat} {J : pv_JT} {I : pv_IT} {r n j : Nat} (hD : 0 ≤ d) (hr : pv_row r n) (hj : j < n) (h : Q (.inl (some (.int (I (r + 1) j)))) pv_K0 pv_P0 (I) (J)) : pv_X (pv_ZQ E Q) E d bc bs mX6_at 0 [(0, .ref (r)), (1, .int (nI (j)))] [] pv_K0 pv_P0 I J := by
  have hn := hr.2.2.2.2
  refine px_iload_n dX6_at_0 rfl ?_
  refine px_if_ltN (tgt := 13) dX6_at_1 (by decide) (by omega) ?_
  refine px_iload_n dX6_at_4 rfl ?_
  refine px_aload_n dX6_at_5 rfl ?_
  refine px_getR dX6_at_6 flX6_7 hr.1 (by decide) (by decide) rfl (pv_rl hr) hr.2.2.1 ?_
  refine px_alen dX6_at_9 hr.2.1 hr.2.2.2.1 ?_
  refine px_icmp_ltN (tgt := 17) dX6_at_10 (by decide) (by omega) (by omega) (fun _ => ?_) (fun h0 => absurd h0 (by omega))
  refine px_aload_n dX6_at_17 rfl ?_
  refine px_getR dX6_at_18 flX6_7 hr.1 (by decide) (by decide) rfl (pv_rl hr) hr.2.2.1 ?_
  refine px_iload_n dX6_at_21 rfl ?_
  refine px_iald (j := j) dX6_at_22 hr.2.1 rfl (by omega) hr.2.2.2.2 hr.2.2.2.1 ?_
  exact px_iret dX6_at_23 rfl (Or.inl rfl) (h)
theorem c_X6_at {z : pv_Z} {E : pv_E} {d bc bs : Nat} {J : pv_JT} {I : pv_IT} {mi : pv_MI} {pc idx : Nat} {lv : pv_LV} {st : List Value} {r n j : Nat} (hd : decode mi.2.1 pc = .ok (.invokevirtual idx, 3)) (hlk : Cond.methodLink mi.1.cls idx mX6_at.1 ∈ pv_W) (hD : 0+1 ≤ d) (hr : pv_row r n) (hj : j < n) (hcat : (st.map fun v => v.category).sum ≤ 8) (K : pv_X z E d bc bs mi (pc + 3) lv ((.int (I (r + 1) j)) :: st) pv_K0 pv_P0 (I) (J)) : pv_X z E d bc bs mi pc lv (.int (nI (j)) :: .ref (r) :: st) pv_K0 pv_P0 I J := by
  obtain ⟨d, rfl⟩ : ∃ d0, d = d0 + 1 := ⟨d - 1, by omega⟩
  have key := px_callV (bc := bc) (bs := bs) (bc1 := 0) (bs1 := 0) (as := [.int (nI (j))]) (E := E) (z := z) (lv := lv) hd mvX6_at hlk hr.1 (by decide) rfl (pv_rl hr) rfl rfl hcat (by exact Nat.le_of_ble_eq_true rfl) (s_X6_at (by omega) hr hj K)
  rw [Nat.zero_add, Nat.zero_add] at key
  exact key
set_option maxRecDepth 100000 in
set_option maxHeartbeats 4000000 in
theorem s_X6_put {Q : pv_Q} {E : pv_E} {d bc bs : Nat} {J : pv_JT} {I : pv_IT} {r n j : Nat} {x : Int32} (hD : 0 ≤ d) (hr : pv_row r n) (hj : j < n) (h : Q (.inl none) pv_K0 pv_P0 (pv_uI I (r + 1) j x) (J)) : pv_X (pv_ZQ E Q) E d bc bs mX6_put 0 [(0, .ref (r)), (1, .int (nI (j))), (2, .int (x))] [] pv_K0 pv_P0 I J := by
  have hn := hr.2.2.2.2
  refine px_iload_n dX6_put_0 rfl ?_
  refine px_if_ltN (tgt := 20) dX6_put_1 (by decide) (by omega) ?_
  refine px_iload_n dX6_put_4 rfl ?_
  refine px_aload_n dX6_put_5 rfl ?_
  refine px_getR dX6_put_6 flX6_7 hr.1 (by decide) (by decide) rfl (pv_rl hr) hr.2.2.1 ?_
  refine px_alen dX6_put_9 hr.2.1 hr.2.2.2.1 ?_
  refine px_icmp_geN (tgt := 20) dX6_put_10 (by decide) (by omega) (by omega) (fun h0 => absurd h0 (by omega)) (fun _ => ?_)
  refine px_aload_n dX6_put_13 rfl ?_
  refine px_getR dX6_put_14 flX6_7 hr.1 (by decide) (by decide) rfl (pv_rl hr) hr.2.2.1 ?_
  refine px_iload_n dX6_put_17 rfl ?_
  refine px_iload_n dX6_put_18 rfl ?_
  refine px_iast (j := j) dX6_put_19 hr.2.1 rfl (by omega) hr.2.2.2.2 hr.2.2.2.1 ?_
  exact px_vret dX6_put_20 rfl (Or.inl rfl) (h)
theorem c_X6_put {z : pv_Z} {E : pv_E} {d bc bs : Nat} {J : pv_JT} {I : pv_IT} {mi : pv_MI} {pc idx : Nat} {lv : pv_LV} {st : List Value} {r n j : Nat} {x : Int32} (hd : decode mi.2.1 pc = .ok (.invokevirtual idx, 3)) (hlk : Cond.methodLink mi.1.cls idx mX6_put.1 ∈ pv_W) (hD : 0+1 ≤ d) (hr : pv_row r n) (hj : j < n) (hcat : (st.map fun v => v.category).sum ≤ 8) (K : pv_X z E d bc bs mi (pc + 3) lv (st) pv_K0 pv_P0 (pv_uI I (r + 1) j x) (J)) : pv_X z E d bc bs mi pc lv (.int (x) :: .int (nI (j)) :: .ref (r) :: st) pv_K0 pv_P0 I J := by
  obtain ⟨d, rfl⟩ : ∃ d0, d = d0 + 1 := ⟨d - 1, by omega⟩
  have key := px_callV (bc := bc) (bs := bs) (bc1 := 0) (bs1 := 0) (as := [.int (nI (j)), .int (x)]) (E := E) (z := z) (lv := lv) hd mvX6_put hlk hr.1 (by decide) rfl (pv_rl hr) rfl rfl hcat (by exact Nat.le_of_ble_eq_true rfl) (s_X6_put (by omega) hr hj K)
  rw [Nat.zero_add, Nat.zero_add] at key
  exact key
set_option maxRecDepth 100000 in
set_option maxHeartbeats 4000000 in
theorem s_X6_add {Q : pv_Q} {E : pv_E} {d bc bs : Nat} {J : pv_JT} {I : pv_IT} {r n j : Nat} {x : Int32} (hD : 1 ≤ d) (hr : pv_row r n) (hj : j < n) (h : Q (.inl none) pv_K0 pv_P0 (pv_uI I (r + 1) j (I (r + 1) j + x)) (J)) : pv_X (pv_ZQ E Q) E d bc bs mX6_add 0 [(0, .ref (r)), (1, .int (nI (j))), (2, .int (x))] [] pv_K0 pv_P0 I J := by
  refine px_aload_n dX6_add_0 rfl ?_
  refine px_iload_n dX6_add_1 rfl ?_
  refine px_aload_n dX6_add_2 rfl ?_
  refine px_iload_n dX6_add_3 rfl ?_
  refine c_X6_at dX6_add_4 mlX6_13 (by omega) (j := j) hr (by omega) (Nat.le_of_ble_eq_true rfl) ?_
  refine px_iload_n dX6_add_7 rfl ?_
  refine px_iadd dX6_add_8 ?_
  refine c_X6_put dX6_add_9 mlX6_17 (by omega) (j := j) hr (by omega) (Nat.le_of_ble_eq_true rfl) ?_
  exact px_vret dX6_add_12 rfl (Or.inl rfl) (h)
theorem c_X6_add {z : pv_Z} {E : pv_E} {d bc bs : Nat} {J : pv_JT} {I : pv_IT} {mi : pv_MI} {pc idx : Nat} {lv : pv_LV} {st : List Value} {r n j : Nat} {x : Int32} (hd : decode mi.2.1 pc = .ok (.invokevirtual idx, 3)) (hlk : Cond.methodLink mi.1.cls idx mX6_add.1 ∈ pv_W) (hD : 1+1 ≤ d) (hr : pv_row r n) (hj : j < n) (hcat : (st.map fun v => v.category).sum ≤ 8) (K : pv_X z E d bc bs mi (pc + 3) lv (st) pv_K0 pv_P0 (pv_uI I (r + 1) j (I (r + 1) j + x)) (J)) : pv_X z E d bc bs mi pc lv (.int (x) :: .int (nI (j)) :: .ref (r) :: st) pv_K0 pv_P0 I J := by
  obtain ⟨d, rfl⟩ : ∃ d0, d = d0 + 1 := ⟨d - 1, by omega⟩
  have key := px_callV (bc := bc) (bs := bs) (bc1 := 0) (bs1 := 0) (as := [.int (nI (j)), .int (x)]) (E := E) (z := z) (lv := lv) hd mvX6_add hlk hr.1 (by decide) rfl (pv_rl hr) rfl rfl hcat (by exact Nat.le_of_ble_eq_true rfl) (s_X6_add (by omega) hr hj K)
  rw [Nat.zero_add, Nat.zero_add] at key
  exact key
set_option maxRecDepth 100000 in
set_option maxHeartbeats 4000000 in
theorem s_X6_sum {Q : pv_Q} {E : pv_E} {d bc bs : Nat} {J : pv_JT} {I : pv_IT} {r n : Nat} (hD : 0 ≤ d) (hr : pv_row r n) (h : Q (.inl (some (.int (pv_sum (I (r + 1)) n)))) pv_K0 pv_P0 (I) (J)) : pv_X (pv_ZQ E Q) E d bc bs mX6_sum 0 [(0, .ref (r))] [] pv_K0 pv_P0 I J := by
  have hn := hr.2.2.2.2
  have key : ∀ i : Nat, i ≤ n → pv_X (pv_ZQ E Q) E d bc bs mX6_sum 4 [(0, .ref r), (1, .int (pv_sum (I (r + 1)) i)), (2, .int (nI (i)))] [] pv_K0 pv_P0 (I) (J) := by
    refine pv_up n ?_ ?_
    · refine px_iload_n dX6_sum_4 rfl ?_
      refine px_aload_n dX6_sum_5 rfl ?_
      refine px_getR dX6_sum_6 flX6_7 hr.1 (by decide) (by decide) rfl (pv_rl hr) hr.2.2.1 ?_
      refine px_alen dX6_sum_9 hr.2.1 hr.2.2.2.1 ?_
      refine px_icmp_geN (tgt := 28) dX6_sum_10 (by decide) (by omega) (by omega) (fun _ => ?_) (fun h0 => absurd h0 (by omega))
      refine px_iload_n dX6_sum_28 rfl ?_
      exact px_iret dX6_sum_29 rfl (Or.inl rfl) (h)
    · intro i hi K 
      refine px_iload_n dX6_sum_4 rfl ?_
      refine px_aload_n dX6_sum_5 rfl ?_
      refine px_getR dX6_sum_6 flX6_7 hr.1 (by decide) (by decide) rfl (pv_rl hr) hr.2.2.1 ?_
      refine px_alen dX6_sum_9 hr.2.1 hr.2.2.2.1 ?_
      refine px_icmp_geN (tgt := 28) dX6_sum_10 (by decide) (by omega) (by omega) (fun h0 => absurd h0 (by omega)) (fun _ => ?_)
      refine px_iload_n dX6_sum_13 rfl ?_
      refine px_aload_n dX6_sum_14 rfl ?_
      refine px_getR dX6_sum_15 flX6_7 hr.1 (by decide) (by decide) rfl (pv_rl hr) hr.2.2.1 ?_
      refine px_iload_n dX6_sum_18 rfl ?_
      refine px_iald (j := i) dX6_sum_19 hr.2.1 rfl (by omega) hr.2.2.2.2 hr.2.2.2.1 ?_
      refine px_iadd dX6_sum_20 ?_
      refine px_istore_n dX6_sum_21 (by decide) ?_
      refine px_iincN (c := 1) (by decide) dX6_sum_22 rfl (by decide) ?_
      refine px_goto (tgt := 4) dX6_sum_25 (by decide) ?_
      refine px_keep [0, 1, 2] ?_
      exact K
  refine px_iconst (v := nI 0) dX6_sum_0 (by decide) ?_
  refine px_istore_n dX6_sum_1 (by decide) ?_
  refine px_iconst (v := nI 0) dX6_sum_2 (by decide) ?_
  refine px_istore_n dX6_sum_3 (by decide) ?_
  exact key 0 (by omega) 
theorem c_X6_sum {z : pv_Z} {E : pv_E} {d bc bs : Nat} {J : pv_JT} {I : pv_IT} {mi : pv_MI} {pc idx : Nat} {lv : pv_LV} {st : List Value} {r n : Nat} (hd : decode mi.2.1 pc = .ok (.invokevirtual idx, 3)) (hlk : Cond.methodLink mi.1.cls idx mX6_sum.1 ∈ pv_W) (hD : 0+1 ≤ d) (hr : pv_row r n) (hcat : (st.map fun v => v.category).sum ≤ 8) (K : pv_X z E d bc bs mi (pc + 3) lv ((.int (pv_sum (I (r + 1)) n)) :: st) pv_K0 pv_P0 (I) (J)) : pv_X z E d bc bs mi pc lv (.ref (r) :: st) pv_K0 pv_P0 I J := by
  obtain ⟨d, rfl⟩ : ∃ d0, d = d0 + 1 := ⟨d - 1, by omega⟩
  have key := px_callV (bc := bc) (bs := bs) (bc1 := 0) (bs1 := 0) (as := []) (E := E) (z := z) (lv := lv) hd mvX6_sum hlk hr.1 (by decide) rfl (pv_rl hr) rfl rfl hcat (by exact Nat.le_of_ble_eq_true rfl) (s_X6_sum (by omega) hr K)
  rw [Nat.zero_add, Nat.zero_add] at key
  exact key
set_option maxRecDepth 100000 in
set_option maxHeartbeats 4000000 in
theorem s_X6_become {Q : pv_Q} {E : pv_E} {d bc bs : Nat} {J : pv_JT} {I : pv_IT} {r o n : Nat} (hD : 1 ≤ d) (hr : pv_row r n) (ho : pv_row o n) (h : Q (.inl none) pv_K0 pv_P0 (pv_uA I (r + 1) (va_cpy (I (o + 1)) (I (r + 1)) 0 0 n)) (J)) : pv_X (pv_ZQ E Q) E d bc bs mX6_become 0 [(0, .ref (r)), (1, .ref (o))] [] pv_K0 pv_P0 I J := by
  have hn := hr.2.2.2.2
  refine px_aload_n dX6_become_0 rfl ?_
  refine px_ifnull dX6_become_1 ?_
  refine px_aload_n dX6_become_4 rfl ?_
  refine px_getR dX6_become_5 flX6_7 ho.1 (by decide) (by decide) rfl (pv_rl ho) ho.2.2.1 ?_
  refine px_alen dX6_become_8 ho.2.1 ho.2.2.2.1 ?_
  refine px_aload_n dX6_become_9 rfl ?_
  refine px_getR dX6_become_10 flX6_7 hr.1 (by decide) (by decide) rfl (pv_rl hr) hr.2.2.1 ?_
  refine px_alen dX6_become_13 hr.2.1 hr.2.2.2.1 ?_
  refine px_icmp_neN (tgt := 35) dX6_become_14 (by decide) (by omega) (by omega) (fun h0 => absurd rfl h0) (fun _ => ?_)
  refine px_aload_n dX6_become_17 rfl ?_
  refine px_getR dX6_become_18 flX6_7 ho.1 (by decide) (by decide) rfl (pv_rl ho) ho.2.2.1 ?_
  refine px_iconst (v := nI 0) dX6_become_21 (by decide) ?_
  refine px_aload_n dX6_become_22 rfl ?_
  refine px_getR dX6_become_23 flX6_7 hr.1 (by decide) (by decide) rfl (pv_rl hr) hr.2.2.1 ?_
  refine px_iconst (v := nI 0) dX6_become_26 (by decide) ?_
  refine px_aload_n dX6_become_27 rfl ?_
  refine px_getR dX6_become_28 flX6_7 hr.1 (by decide) (by decide) rfl (pv_rl hr) hr.2.2.1 ?_
  refine px_alen dX6_become_31 hr.2.1 hr.2.2.2.1 ?_
  refine px_copy (a := 0) (c := 0) (m := n) rfl dX6_become_32 ho.2.1 hr.2.1 ho.2.2.2.1 hr.2.2.2.1 rfl rfl rfl (by omega) (by omega) hn hn (by omega) (Nat.le_of_ble_eq_true rfl) ?_
  exact px_vret dX6_become_35 rfl (Or.inl rfl) (h)
theorem c_X6_become {z : pv_Z} {E : pv_E} {d bc bs : Nat} {J : pv_JT} {I : pv_IT} {mi : pv_MI} {pc idx : Nat} {lv : pv_LV} {st : List Value} {r o n : Nat} (hd : decode mi.2.1 pc = .ok (.invokevirtual idx, 3)) (hlk : Cond.methodLink mi.1.cls idx mX6_become.1 ∈ pv_W) (hD : 1+1 ≤ d) (hr : pv_row r n) (ho : pv_row o n) (hcat : (st.map fun v => v.category).sum ≤ 8) (K : pv_X z E d bc bs mi (pc + 3) lv (st) pv_K0 pv_P0 (pv_uA I (r + 1) (va_cpy (I (o + 1)) (I (r + 1)) 0 0 n)) (J)) : pv_X z E d bc bs mi pc lv (.ref (o) :: .ref (r) :: st) pv_K0 pv_P0 I J := by
  obtain ⟨d, rfl⟩ : ∃ d0, d = d0 + 1 := ⟨d - 1, by omega⟩
  have key := px_callV (bc := bc) (bs := bs) (bc1 := 0) (bs1 := 0) (as := [.ref (o)]) (E := E) (z := z) (lv := lv) hd mvX6_become hlk hr.1 (by decide) rfl (pv_rl hr) rfl rfl hcat (by exact Nat.le_of_ble_eq_true rfl) (s_X6_become (by omega) hr ho K)
  rw [Nat.zero_add, Nat.zero_add] at key
  exact key
