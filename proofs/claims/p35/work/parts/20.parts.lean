/-! The class: methods of the ship's parts. -/
theorem pt_at {T : pv_T} {i v j : Nat} : pt_up T i v j = if j = i then v else T j := rfl
theorem pc_congr {I : pv_IT} {q p : Nat} {x y : Nat → Nat} (h : pc I q p x) (e : ∀ w, w < 10 → y w = x w) : pc I q p y :=
  ⟨h.1.trans (congrArg nI (e 0 (by omega)).symm), h.2.1.trans (congrArg nI (e 1 (by omega)).symm), fun k hk => (h.2.2 k hk).trans (congrArg nI (e (2 + k) (by omega)).symm)⟩
theorem pv_dn {p : Nat → Prop} (j : Nat) (hend : p j) (hstep : ∀ m : Nat, j < m → p (m - 1) → p m) : ∀ m : Nat, j ≤ m → p m := by
  intro m hm
  obtain ⟨k, rfl⟩ : ∃ k, m = j + k := ⟨m - j, by omega⟩
  clear hm
  induction k with
  | zero => exact hend
  | succ k ih => exact hstep (j + (k + 1)) (by omega) ih
def pt_kind (T : pv_T) (a b c : Nat) : pv_T := pt_up (pt_up (pt_up (pt_up T (T 405 * 3) a) (T 405 * 3 + 1) b) (T 405 * 3 + 2) c) 405 (T 405 + 1)
def pt_ins (T : pv_T) (j d s : Nat) : pv_T := fun i => if i = 407 then T 407 + 1 else if 324 + 10 * j ≤ i ∧ i < 334 + 10 * j then (if i = 324 + 10 * j then d else if i = 325 + 10 * j then s else 0) else if 334 + 10 * j ≤ i ∧ i < 334 + 10 * T 407 then T (i - 10) else T i
def pt_place (T : pv_T) (d : Nat) : Nat := match pt_aft T d with
  | none => T 407
  | some p => p
def pt_rem (T : pv_T) (j : Nat) : pv_T := fun i => if i = 407 then T 407 - 1 else if 324 + 10 * j ≤ i ∧ i < 314 + 10 * T 407 then T (i + 10) else T i
set_option maxRecDepth 100000 in
set_option maxHeartbeats 4000000 in
theorem s_X6_fill {Q : pv_Q} {E : pv_E} {d bc bs : Nat} {J : pv_JT} {I : pv_IT} {r n : Nat} {x : Int32} (hD : 0 ≤ d) (hr : pv_row r n) (h : ∀ I' : pv_IT, (∀ j, j < n → I' (r + 1) j = x) → (∀ k, k ≠ r + 1 → I' k = I k) → Q (.inl none) pv_K0 pv_P0 (I') (J)) : pv_X (pv_ZQ E Q) E d bc bs mX6_fill 0 [(0, .ref (r)), (1, .int (x))] [] pv_K0 pv_P0 I J := by
  have hn := hr.2.2.2.2
  have key : ∀ i : Nat, i ≤ n → ∀ I1 : pv_IT, (∀ j, j < i → I1 (r + 1) j = x) → (∀ k, k ≠ r + 1 → I1 k = I k) → pv_X (pv_ZQ E Q) E d bc bs mX6_fill 2 [(0, .ref r), (1, .int x), (2, .int (nI (i)))] [] pv_K0 pv_P0 (I1) (J) := by
    refine pv_up (n) ?_ ?_
    · intro I1 hA hF
      refine px_iload_n dX6_fill_2 rfl ?_
      refine px_aload_n dX6_fill_3 rfl ?_
      refine px_getR dX6_fill_4 flX6_7 hr.1 (by decide) (by decide) rfl (pv_rl hr) hr.2.2.1 ?_
      refine px_alen dX6_fill_7 hr.2.1 hr.2.2.2.1 ?_
      refine px_icmp_geN (tgt := 24) dX6_fill_8 (by decide) (by omega) (by omega) (fun _ => ?_) (fun h0 => absurd h0 (by omega))
      exact px_vret dX6_fill_24 rfl (Or.inl rfl) (h I1 hA hF)
    · intro i hi K I1 hA hF
      refine px_iload_n dX6_fill_2 rfl ?_
      refine px_aload_n dX6_fill_3 rfl ?_
      refine px_getR dX6_fill_4 flX6_7 hr.1 (by decide) (by decide) rfl (pv_rl hr) hr.2.2.1 ?_
      refine px_alen dX6_fill_7 hr.2.1 hr.2.2.2.1 ?_
      refine px_icmp_geN (tgt := 24) dX6_fill_8 (by decide) (by omega) (by omega) (fun h0 => absurd h0 (by omega)) (fun _ => ?_)
      refine px_aload_n dX6_fill_11 rfl ?_
      refine px_getR dX6_fill_12 flX6_7 hr.1 (by decide) (by decide) rfl (pv_rl hr) hr.2.2.1 ?_
      refine px_iload_n dX6_fill_15 rfl ?_
      refine px_iload_n dX6_fill_16 rfl ?_
      refine px_iast (j := i) dX6_fill_17 hr.2.1 rfl (by omega) hr.2.2.2.2 hr.2.2.2.1 ?_
      refine px_iincN (c := 1) (by decide) dX6_fill_18 rfl (by decide) ?_
      refine px_goto (tgt := 2) dX6_fill_21 (by decide) ?_
      refine px_keep [0, 1, 2] ?_
      refine K _ (fun j hj => ?_) (fun k hk => (pv_uI_ne hk).trans (hF k hk))
      rw [pv_uI_self]
      by_cases e : j = i
      · subst e; exact pk_us
      · exact (pk_un e).trans (hA j (by omega))
  refine px_iconst (v := nI 0) dX6_fill_0 (by decide) ?_
  refine px_istore_n dX6_fill_1 (by decide) ?_
  exact key 0 (by omega) I (fun j hj => absurd hj (Nat.not_lt_zero _)) (fun _ _ => rfl)
theorem c_X6_fill {z : pv_Z} {E : pv_E} {d bc bs : Nat} {J : pv_JT} {I : pv_IT} {mi : pv_MI} {pc idx : Nat} {lv : pv_LV} {st : List Value} {r n : Nat} {x : Int32} (hd : decode mi.2.1 pc = .ok (.invokevirtual idx, 3)) (hlk : Cond.methodLink mi.1.cls idx mX6_fill.1 ∈ pv_W) (hD : 0+1 ≤ d) (hr : pv_row r n) (hcat : (st.map fun v => v.category).sum ≤ 8) (K : ∀ I' : pv_IT, (∀ j, j < n → I' (r + 1) j = x) → (∀ k, k ≠ r + 1 → I' k = I k) → pv_X z E d bc bs mi (pc + 3) lv (st) pv_K0 pv_P0 (I') (J)) : pv_X z E d bc bs mi pc lv (.int (x) :: .ref (r) :: st) pv_K0 pv_P0 I J := by
  obtain ⟨d, rfl⟩ : ∃ d0, d = d0 + 1 := ⟨d - 1, by omega⟩
  have key := px_callV (bc := bc) (bs := bs) (bc1 := 0) (bs1 := 0) (as := [.int (x)]) (E := E) (z := z) (lv := lv) hd mvX6_fill hlk hr.1 (by decide) rfl (pv_rl hr) rfl rfl hcat (by exact Nat.le_of_ble_eq_true rfl) (s_X6_fill (by omega) hr K)
  rw [Nat.zero_add, Nat.zero_add] at key
  exact key
set_option maxRecDepth 100000 in
set_option maxHeartbeats 4000000 in
theorem s_X1_lifeIn {Q : pv_Q} {E : pv_E} {d bc bs : Nat} {J : pv_JT} {I : pv_IT} {q k s : Nat} {T : pv_T} (hD : 1 ≤ d) (hq : pv_kinds q) (hk : ck I q T) (h1 : k < 8) (h2 : s < 3) (h : Q (.inl (some (.int (nI (pt_life T k s))))) pv_K0 pv_P0 (I) (J)) : pv_X (pv_ZQ E Q) E d bc bs mX1_lifeIn 0 [(0, .ref (q)), (1, .int (nI (k))), (2, .int (nI (s)))] [] pv_K0 pv_P0 I J := by
  refine px_aload_n dX1_lifeIn_0 rfl ?_
  refine px_getR dX1_lifeIn_1 flX1_14 hq.1 (by decide) (by decide) rfl hq.2.1 hq.2.2.1.1 ?_
  refine px_iload_n dX1_lifeIn_4 rfl ?_
  refine px_iconst (v := nI 3) dX1_lifeIn_5 (by decide) ?_
  refine px_imulN dX1_lifeIn_6 ?_
  refine px_iload_n dX1_lifeIn_7 rfl ?_
  refine px_iaddN dX1_lifeIn_8 ?_
  refine c_X6_at dX1_lifeIn_9 mlX1_43 (by omega) (j := ((k * 3) + s)) hq.2.2.1.2 (by omega) (Nat.le_of_ble_eq_true rfl) ?_
  refine px_iv (y := nI (T (((k * 3) + s)))) (hk.2.1 (((k * 3) + s)) (by omega)) ?_
  exact px_iret dX1_lifeIn_12 rfl (Or.inl rfl) (h)
theorem c_X1_lifeIn {z : pv_Z} {E : pv_E} {d bc bs : Nat} {J : pv_JT} {I : pv_IT} {mi : pv_MI} {pc idx : Nat} {lv : pv_LV} {st : List Value} {q k s : Nat} {T : pv_T} (hd : decode mi.2.1 pc = .ok (.invokevirtual idx, 3)) (hlk : Cond.methodLink mi.1.cls idx mX1_lifeIn.1 ∈ pv_W) (hD : 1+1 ≤ d) (hq : pv_kinds q) (hk : ck I q T) (h1 : k < 8) (h2 : s < 3) (hcat : (st.map fun v => v.category).sum ≤ 8) (K : pv_X z E d bc bs mi (pc + 3) lv ((.int (nI (pt_life T k s))) :: st) pv_K0 pv_P0 (I) (J)) : pv_X z E d bc bs mi pc lv (.int (nI (s)) :: .int (nI (k)) :: .ref (q) :: st) pv_K0 pv_P0 I J := by
  obtain ⟨d, rfl⟩ : ∃ d0, d = d0 + 1 := ⟨d - 1, by omega⟩
  have key := px_callV (bc := bc) (bs := bs) (bc1 := 0) (bs1 := 0) (as := [.int (nI (k)), .int (nI (s))]) (E := E) (z := z) (lv := lv) hd mvX1_lifeIn hlk hq.1 (by decide) rfl hq.2.1 rfl rfl hcat (by exact Nat.le_of_ble_eq_true rfl) (s_X1_lifeIn (by omega) hq hk h1 h2 K)
  rw [Nat.zero_add, Nat.zero_add] at key
  exact key
set_option maxRecDepth 100000 in
set_option maxHeartbeats 4000000 in
theorem s_X1_addOne {Q : pv_Q} {E : pv_E} {d bc bs : Nat} {J : pv_JT} {I : pv_IT} {q a b c : Nat} {T : pv_T} (hD : 1 ≤ d) (hq : pv_kinds q) (hk : ck I q T) (h1 : T 405 < 8) (h : ∀ I' : pv_IT, ck I' q (pt_kind T a b c) → (∀ k0 : Nat, k0 < q ∨ q + 13 ≤ k0 → I' k0 = I k0) → Q (.inl (some (.int (nI (T 405))))) pv_K0 pv_P0 (I') (J)) : pv_X (pv_ZQ E Q) E d bc bs mX1_addOne 0 [(0, .ref (q)), (1, .int (nI (a))), (2, .int (nI (b))), (3, .int (nI (c)))] [] pv_K0 pv_P0 I J := by
  refine px_aload_n dX1_addOne_0 rfl ?_
  refine px_getI dX1_addOne_1 flX1_35 hq.1 (by decide) (by decide) rfl hq.2.1 ?_
  refine px_iv (y := nI (T 405)) (hk.1) ?_
  refine px_iconst (v := nI 3) dX1_addOne_4 (by decide) ?_
  refine px_imulN dX1_addOne_5 ?_
  refine px_istore dX1_addOne_6 (by decide) ?_
  refine px_aload_n dX1_addOne_8 rfl ?_
  refine px_getR dX1_addOne_9 flX1_14 hq.1 (by decide) (by decide) rfl hq.2.1 hq.2.2.1.1 ?_
  refine px_iload dX1_addOne_12 rfl ?_
  refine px_iload_n dX1_addOne_14 rfl ?_
  refine c_X6_put dX1_addOne_15 mlX1_39 (by omega) (j := ((T 405) * 3)) hq.2.2.1.2 (by omega) (Nat.le_of_ble_eq_true rfl) ?_
  refine px_aload_n dX1_addOne_18 rfl ?_
  refine px_getR dX1_addOne_19 flX1_14 hq.1 (by decide) (by decide) rfl hq.2.1 hq.2.2.1.1 ?_
  refine px_iload dX1_addOne_22 rfl ?_
  refine px_iconst (v := nI 1) dX1_addOne_24 (by decide) ?_
  refine px_iaddN dX1_addOne_25 ?_
  refine px_iload_n dX1_addOne_26 rfl ?_
  refine c_X6_put dX1_addOne_27 mlX1_39 (by omega) (j := (((T 405) * 3) + 1)) hq.2.2.1.2 (by omega) (Nat.le_of_ble_eq_true rfl) ?_
  refine px_aload_n dX1_addOne_30 rfl ?_
  refine px_getR dX1_addOne_31 flX1_14 hq.1 (by decide) (by decide) rfl hq.2.1 hq.2.2.1.1 ?_
  refine px_iload dX1_addOne_34 rfl ?_
  refine px_iconst (v := nI 2) dX1_addOne_36 (by decide) ?_
  refine px_iaddN dX1_addOne_37 ?_
  refine px_iload_n dX1_addOne_38 rfl ?_
  refine c_X6_put dX1_addOne_39 mlX1_39 (by omega) (j := (((T 405) * 3) + 2)) hq.2.2.1.2 (by omega) (Nat.le_of_ble_eq_true rfl) ?_
  refine px_aload_n dX1_addOne_42 rfl ?_
  refine px_dup dX1_addOne_43 rfl ?_
  refine px_getI dX1_addOne_44 flX1_35 hq.1 (by decide) (by decide) rfl hq.2.1 ?_
  refine px_iv (y := nI (T 405)) (Eq.trans (by simp only [pv_uI_at]; repeat' (first | rfl | omega | split)) (hk.1)) ?_
  refine px_iconst (v := nI 1) dX1_addOne_47 (by decide) ?_
  refine px_iaddN dX1_addOne_48 ?_
  refine px_putI dX1_addOne_49 fwX1_35 hq.1 (by decide) (by decide) rfl hq.2.1 ?_
  refine px_aload_n dX1_addOne_52 rfl ?_
  refine px_getI dX1_addOne_53 flX1_35 hq.1 (by decide) (by decide) rfl hq.2.1 ?_
  refine px_iv (y := nI (T 405 + 1)) (by simp [pv_uI_at]) ?_
  refine px_iconst (v := nI 1) dX1_addOne_56 (by decide) ?_
  refine px_isubN (by omega) dX1_addOne_57 ?_
  refine px_iret dX1_addOne_58 rfl (Or.inl rfl) (pq_i (h _ ⟨?_, fun i hi => ?_, fun k hk8 => ?_⟩ (fun k hk0 => ?_)) (congrArg nI (by omega)))
  · simp only [pv_uI_at, pt_kind, pt_at]; simp
  · have h3 := hk.2.1 i hi
    simp only [pv_uI_at, pt_kind, pt_at, true_and]
    repeat' (first | rfl | omega | exact h3 | split)
  · have h3 := hk.2.2 k hk8
    have e : ∀ i, 24 ≤ i → i < 64 → pt_kind T a b c i = T i := fun i h4 h5 => by
      unfold pt_kind
      rw [pt_un (by omega), pt_un (by omega), pt_un (by omega), pt_un (by omega)]
    rw [e _ (by omega) (by omega), e _ (by omega) (by omega), e _ (by omega) (by omega), e _ (by omega) (by omega), e _ (by omega) (by omega)]
    rw [pv_uI_ne (by omega), pv_uI_ne (by omega), pv_uI_ne (by omega), pv_uI_ne (by omega)]
    rw [pv_uI_ne (by omega), pv_uI_ne (by omega), pv_uI_ne (by omega), pv_uI_ne (by omega)]
    rw [pv_uI_ne (by omega), pv_uI_ne (by omega), pv_uI_ne (by omega), pv_uI_ne (by omega)]
    rw [pv_uI_ne (by omega), pv_uI_ne (by omega), pv_uI_ne (by omega), pv_uI_ne (by omega)]
    rw [pv_uI_ne (by omega), pv_uI_ne (by omega), pv_uI_ne (by omega), pv_uI_ne (by omega)]
    exact h3
  · rw [pv_uI_ne (by omega), pv_uI_ne (by omega), pv_uI_ne (by omega), pv_uI_ne (by omega)]
theorem c_X1_addOne {z : pv_Z} {E : pv_E} {d bc bs : Nat} {J : pv_JT} {I : pv_IT} {mi : pv_MI} {pc idx : Nat} {lv : pv_LV} {st : List Value} {q a b c : Nat} {T : pv_T} (hd : decode mi.2.1 pc = .ok (.invokevirtual idx, 3)) (hlk : Cond.methodLink mi.1.cls idx mX1_addOne.1 ∈ pv_W) (hD : 1+1 ≤ d) (hq : pv_kinds q) (hk : ck I q T) (h1 : T 405 < 8) (hcat : (st.map fun v => v.category).sum ≤ 8) (K : ∀ I' : pv_IT, ck I' q (pt_kind T a b c) → (∀ k0 : Nat, k0 < q ∨ q + 13 ≤ k0 → I' k0 = I k0) → pv_X z E d bc bs mi (pc + 3) lv ((.int (nI (T 405))) :: st) pv_K0 pv_P0 (I') (J)) : pv_X z E d bc bs mi pc lv (.int (nI (c)) :: .int (nI (b)) :: .int (nI (a)) :: .ref (q) :: st) pv_K0 pv_P0 I J := by
  obtain ⟨d, rfl⟩ : ∃ d0, d = d0 + 1 := ⟨d - 1, by omega⟩
  have key := px_callV (bc := bc) (bs := bs) (bc1 := 0) (bs1 := 0) (as := [.int (nI (a)), .int (nI (b)), .int (nI (c))]) (E := E) (z := z) (lv := lv) hd mvX1_addOne hlk hq.1 (by decide) rfl hq.2.1 rfl rfl hcat (by exact Nat.le_of_ble_eq_true rfl) (s_X1_addOne (by omega) hq hk h1 K)
  rw [Nat.zero_add, Nat.zero_add] at key
  exact key
set_option maxRecDepth 100000 in
set_option maxHeartbeats 4000000 in
theorem s_X8_endDay {Q : pv_Q} {E : pv_E} {d bc bs : Nat} {J : pv_JT} {I : pv_IT} {q : Nat} {T : pv_T} (hD : 2 ≤ d) (hq : pv_stores q) (hs : cs I q T) (hW : ∀ s, s < 3 → T (67 + s) ≤ 30) (h : ∀ I' : pv_IT, (∀ s, s < 3 → I' (q + 4) s = nI (T (67 + s) - 1)) → (∀ k, k ≠ q + 4 → I' k = I k) → Q (.inl none) pv_K0 pv_P0 (I') (J)) : pv_X (pv_ZQ E Q) E d bc bs mX8_endDay 0 [(0, .ref (q))] [] pv_K0 pv_P0 I J := by
  have key : ∀ i : Nat, i ≤ 3 → ∀ I1 : pv_IT, (∀ s, s < 3 → I1 (q + 4) s = nI (if s < i then T (67 + s) - 1 else T (67 + s))) → (∀ k, k ≠ q + 4 → I1 k = I k) → pv_X (pv_ZQ E Q) E d bc bs mX8_endDay 2 [(0, .ref q), (1, .int (nI (i)))] [] pv_K0 pv_P0 (I1) (J) := by
    refine pv_up (3) ?_ ?_
    · intro I1 hA hF
      refine px_iload_n dX8_endDay_2 rfl ?_
      refine px_iconst (v := nI 3) dX8_endDay_3 (by decide) ?_
      refine px_icmp_geN (tgt := 33) dX8_endDay_4 (by decide) (by omega) (by omega) (fun _ => ?_) (fun h0 => absurd h0 (by omega))
      exact px_vret dX8_endDay_33 rfl (Or.inl rfl) (h I1 (fun s hs3 => (hA s hs3).trans (congrArg nI (if_pos hs3))) hF)
    · intro i hi K I1 hA hF
      have hw := hW i hi
      refine px_iload_n dX8_endDay_2 rfl ?_
      refine px_iconst (v := nI 3) dX8_endDay_3 (by decide) ?_
      refine px_icmp_geN (tgt := 33) dX8_endDay_4 (by decide) (by omega) (by omega) (fun h0 => absurd h0 (by omega)) (fun _ => ?_)
      refine px_aload_n dX8_endDay_7 rfl ?_
      refine px_getR dX8_endDay_8 flX8_20 hq.1 (by decide) (by decide) rfl hq.2.1 hq.2.2.2.1 ?_
      refine px_iload_n dX8_endDay_11 rfl ?_
      refine c_X6_at dX8_endDay_12 mlX8_26 (by omega) (j := i) hq.2.2.2.2 (by omega) (Nat.le_of_ble_eq_true rfl) ?_
      refine px_iv (y := nI (T (67 + i))) ((hA i hi).trans (congrArg nI (if_neg (Nat.lt_irrefl i)))) ?_
      refine px_if_leN (tgt := 27) dX8_endDay_15 (by decide) (by omega) (fun h0 => ?_) (fun h0 => ?_)
      · refine px_iincN (c := 1) (by decide) dX8_endDay_27 rfl (by decide) ?_
        refine px_goto (tgt := 2) dX8_endDay_30 (by decide) ?_
        refine px_keep [0, 1] ?_
        refine K I1 (fun s hs3 => (hA s hs3).trans (congrArg nI ?_)) hF
        by_cases e : s = i
        · subst e
          rw [if_neg (Nat.lt_irrefl s), if_pos (Nat.lt_succ_self s)]
          omega
        · by_cases e3 : s < i
          · rw [if_pos e3, if_pos (by omega)]
          · rw [if_neg e3, if_neg (by omega)]
      · refine px_aload_n dX8_endDay_18 rfl ?_
        refine px_getR dX8_endDay_19 flX8_20 hq.1 (by decide) (by decide) rfl hq.2.1 hq.2.2.2.1 ?_
        refine px_iload_n dX8_endDay_22 rfl ?_
        refine px_iconst (v := -1) dX8_endDay_23 (by decide) ?_
        refine c_X6_add dX8_endDay_24 mlX8_30 (by omega) (j := i) hq.2.2.2.2 (by omega) (Nat.le_of_ble_eq_true rfl) ?_
        refine px_iincN (c := 1) (by decide) dX8_endDay_27 rfl (by decide) ?_
        refine px_goto (tgt := 2) dX8_endDay_30 (by decide) ?_
        refine px_keep [0, 1] ?_
        refine K _ (fun s hs3 => ?_) (fun k hk => (pv_uI_ne hk).trans (hF k hk))
        rw [pv_uI_self]
        by_cases e : s = i
        · subst e
          have e2 : I1 (q + 4) s = nI (T (67 + s)) := (hA s hs3).trans (congrArg nI (if_neg (Nat.lt_irrefl s)))
          rw [if_pos (Nat.lt_succ_self s)]
          refine pk_us.trans ?_
          rw [show I1 (q + 3 + 1) s = nI (T (67 + s)) from e2]
          obtain ⟨c, hc⟩ : ∃ c, T (67 + s) = c + 1 := ⟨T (67 + s) - 1, by omega⟩
          rw [hc]
          exact pk_m1 c
        · refine (pk_un e).trans ((hA s hs3).trans (congrArg nI ?_))
          by_cases e3 : s < i
          · rw [if_pos e3, if_pos (by omega)]
          · rw [if_neg e3, if_neg (by omega)]
  refine px_iconst (v := nI 0) dX8_endDay_0 (by decide) ?_
  refine px_istore_n dX8_endDay_1 (by decide) ?_
  exact key 0 (by omega) I (fun s hs3 => (hs s hs3).2) (fun _ _ => rfl)
theorem c_X8_endDay {z : pv_Z} {E : pv_E} {d bc bs : Nat} {J : pv_JT} {I : pv_IT} {mi : pv_MI} {pc idx : Nat} {lv : pv_LV} {st : List Value} {q : Nat} {T : pv_T} (hd : decode mi.2.1 pc = .ok (.invokevirtual idx, 3)) (hlk : Cond.methodLink mi.1.cls idx mX8_endDay.1 ∈ pv_W) (hD : 2+1 ≤ d) (hq : pv_stores q) (hs : cs I q T) (hW : ∀ s, s < 3 → T (67 + s) ≤ 30) (hcat : (st.map fun v => v.category).sum ≤ 8) (K : ∀ I' : pv_IT, (∀ s, s < 3 → I' (q + 4) s = nI (T (67 + s) - 1)) → (∀ k, k ≠ q + 4 → I' k = I k) → pv_X z E d bc bs mi (pc + 3) lv (st) pv_K0 pv_P0 (I') (J)) : pv_X z E d bc bs mi pc lv (.ref (q) :: st) pv_K0 pv_P0 I J := by
  obtain ⟨d, rfl⟩ : ∃ d0, d = d0 + 1 := ⟨d - 1, by omega⟩
  have key := px_callV (bc := bc) (bs := bs) (bc1 := 0) (bs1 := 0) (as := []) (E := E) (z := z) (lv := lv) hd mvX8_endDay hlk hq.1 (by decide) rfl hq.2.1 rfl rfl hcat (by exact Nat.le_of_ble_eq_true rfl) (s_X8_endDay (by omega) hq hs hW K)
  rw [Nat.zero_add, Nat.zero_add] at key
  exact key
set_option maxRecDepth 100000 in
set_option maxHeartbeats 4000000 in
theorem s_X5_onDay {Q : pv_Q} {E : pv_E} {d bc bs : Nat} {J : pv_JT} {I : pv_IT} {q d0 : Nat} {T : pv_T} (hD : 1 ≤ d) (hq : pv_ports q) (hp : cp I q T) (hw : pw T) (hd0 : d0 < 2147483648) (h : Q (.inl (some (.int (oI (pt_on T d0))))) pv_K0 pv_P0 (I) (J)) : pv_X (pv_ZQ E Q) E d bc bs mX5_onDay 0 [(0, .ref (q)), (1, .int (nI (d0)))] [] pv_K0 pv_P0 I J := by
  have hn := hw.1
  have key : ∀ i : Nat, i ≤ T 407 → (∀ j, j < i → ¬ T (324 + 10 * j) = d0) → pv_X (pv_ZQ E Q) E d bc bs mX5_onDay 2 [(0, .ref q), (1, .int (nI d0)), (2, .int (nI (i)))] [] pv_K0 pv_P0 (I) (J) := by
    refine pv_up (T 407) ?_ ?_
    · intro hA
      refine px_iload_n dX5_onDay_2 rfl ?_
      refine px_aload_n dX5_onDay_3 rfl ?_
      refine px_getI dX5_onDay_4 flX5_26 hq.1 (by decide) (by decide) rfl hq.2.1 ?_
      refine px_iv (y := nI (T 407)) (hp.1) ?_
      refine px_icmp_geN (tgt := 30) dX5_onDay_7 (by decide) (by omega) (by omega) (fun _ => ?_) (fun h0 => absurd h0 (by omega))
      refine px_iconst (v := -1) dX5_onDay_30 (by decide) ?_
      exact px_iret dX5_onDay_31 rfl (Or.inl rfl) (by unfold pt_on at h; rw [pf_none (fun j hj => pb_f (hA j hj))] at h; exact h)
    · intro i hi K hA
      have hb := (hw.2.1 i hi).1
      refine px_iload_n dX5_onDay_2 rfl ?_
      refine px_aload_n dX5_onDay_3 rfl ?_
      refine px_getI dX5_onDay_4 flX5_26 hq.1 (by decide) (by decide) rfl hq.2.1 ?_
      refine px_iv (y := nI (T 407)) (hp.1) ?_
      refine px_icmp_geN (tgt := 30) dX5_onDay_7 (by decide) (by omega) (by omega) (fun h0 => absurd h0 (by omega)) (fun _ => ?_)
      refine px_aload_n dX5_onDay_10 rfl ?_
      refine px_getR dX5_onDay_11 flX5_14 hq.1 (by decide) (by decide) rfl hq.2.1 hq.2.2.1.1 ?_
      refine px_iload_n dX5_onDay_14 rfl ?_
      refine c_X6_at dX5_onDay_15 mlX5_30 (by omega) (j := i) hq.2.2.1.2 (by omega) (Nat.le_of_ble_eq_true rfl) ?_
      refine px_iv (y := nI (T (324 + 10 * (i)))) (pc_day hp (by omega)) ?_
      refine px_iload_n dX5_onDay_18 rfl ?_
      refine px_icmp_neN (tgt := 24) dX5_onDay_19 (by decide) (by omega) (by omega) (fun h0 => ?_) (fun h0 => ?_)
      · refine px_iincN (c := 1) (by decide) dX5_onDay_24 rfl (by decide) ?_
        refine px_goto (tgt := 2) dX5_onDay_27 (by decide) ?_
        refine px_keep [0, 1, 2] ?_
        refine K (fun j hj => ?_)
        by_cases e : j = i
        · subst e; exact h0
        · exact hA j (by omega)
      · refine px_iload_n dX5_onDay_22 rfl ?_
        exact px_iret dX5_onDay_23 rfl (Or.inl rfl) (by unfold pt_on at h; rw [pf_some hi (fun j hj => pb_f (hA j hj)) (pb_t h0)] at h; exact h)
  refine px_iconst (v := nI 0) dX5_onDay_0 (by decide) ?_
  refine px_istore_n dX5_onDay_1 (by decide) ?_
  exact key 0 (by omega) (fun j hj => absurd hj (Nat.not_lt_zero _))
theorem c_X5_onDay {z : pv_Z} {E : pv_E} {d bc bs : Nat} {J : pv_JT} {I : pv_IT} {mi : pv_MI} {pc idx : Nat} {lv : pv_LV} {st : List Value} {q d0 : Nat} {T : pv_T} (hd : decode mi.2.1 pc = .ok (.invokevirtual idx, 3)) (hlk : Cond.methodLink mi.1.cls idx mX5_onDay.1 ∈ pv_W) (hD : 1+1 ≤ d) (hq : pv_ports q) (hp : cp I q T) (hw : pw T) (hd0 : d0 < 2147483648) (hcat : (st.map fun v => v.category).sum ≤ 8) (K : pv_X z E d bc bs mi (pc + 3) lv ((.int (oI (pt_on T d0))) :: st) pv_K0 pv_P0 (I) (J)) : pv_X z E d bc bs mi pc lv (.int (nI (d0)) :: .ref (q) :: st) pv_K0 pv_P0 I J := by
  obtain ⟨d, rfl⟩ : ∃ d0, d = d0 + 1 := ⟨d - 1, by omega⟩
  have key := px_callV (bc := bc) (bs := bs) (bc1 := 0) (bs1 := 0) (as := [.int (nI (d0))]) (E := E) (z := z) (lv := lv) hd mvX5_onDay hlk hq.1 (by decide) rfl hq.2.1 rfl rfl hcat (by exact Nat.le_of_ble_eq_true rfl) (s_X5_onDay (by omega) hq hp hw hd0 K)
  rw [Nat.zero_add, Nat.zero_add] at key
  exact key
set_option maxRecDepth 100000 in
set_option maxHeartbeats 4000000 in
theorem s_X5_after {Q : pv_Q} {E : pv_E} {d bc bs : Nat} {J : pv_JT} {I : pv_IT} {q d0 : Nat} {T : pv_T} (hD : 1 ≤ d) (hq : pv_ports q) (hp : cp I q T) (hw : pw T) (hd0 : d0 < 2147483648) (h : Q (.inl (some (.int (oI (pt_aft T d0))))) pv_K0 pv_P0 (I) (J)) : pv_X (pv_ZQ E Q) E d bc bs mX5_after 0 [(0, .ref (q)), (1, .int (nI (d0)))] [] pv_K0 pv_P0 I J := by
  have hn := hw.1
  have key : ∀ i : Nat, i ≤ T 407 → (∀ j, j < i → T (324 + 10 * j) ≤ d0) → pv_X (pv_ZQ E Q) E d bc bs mX5_after 2 [(0, .ref q), (1, .int (nI d0)), (2, .int (nI (i)))] [] pv_K0 pv_P0 (I) (J) := by
    refine pv_up (T 407) ?_ ?_
    · intro hA
      refine px_iload_n dX5_after_2 rfl ?_
      refine px_aload_n dX5_after_3 rfl ?_
      refine px_getI dX5_after_4 flX5_26 hq.1 (by decide) (by decide) rfl hq.2.1 ?_
      refine px_iv (y := nI (T 407)) (hp.1) ?_
      refine px_icmp_geN (tgt := 30) dX5_after_7 (by decide) (by omega) (by omega) (fun _ => ?_) (fun h0 => absurd h0 (by omega))
      refine px_iconst (v := -1) dX5_after_30 (by decide) ?_
      exact px_iret dX5_after_31 rfl (Or.inl rfl) (by unfold pt_aft at h; rw [pf_none (fun j hj => pl_f (hA j hj))] at h; exact h)
    · intro i hi K hA
      have hb := (hw.2.1 i hi).1
      refine px_iload_n dX5_after_2 rfl ?_
      refine px_aload_n dX5_after_3 rfl ?_
      refine px_getI dX5_after_4 flX5_26 hq.1 (by decide) (by decide) rfl hq.2.1 ?_
      refine px_iv (y := nI (T 407)) (hp.1) ?_
      refine px_icmp_geN (tgt := 30) dX5_after_7 (by decide) (by omega) (by omega) (fun h0 => absurd h0 (by omega)) (fun _ => ?_)
      refine px_aload_n dX5_after_10 rfl ?_
      refine px_getR dX5_after_11 flX5_14 hq.1 (by decide) (by decide) rfl hq.2.1 hq.2.2.1.1 ?_
      refine px_iload_n dX5_after_14 rfl ?_
      refine c_X6_at dX5_after_15 mlX5_30 (by omega) (j := i) hq.2.2.1.2 (by omega) (Nat.le_of_ble_eq_true rfl) ?_
      refine px_iv (y := nI (T (324 + 10 * (i)))) (pc_day hp (by omega)) ?_
      refine px_iload_n dX5_after_18 rfl ?_
      refine px_icmp_leN (tgt := 24) dX5_after_19 (by decide) (by omega) (by omega) (fun h0 => ?_) (fun h0 => ?_)
      · refine px_iincN (c := 1) (by decide) dX5_after_24 rfl (by decide) ?_
        refine px_goto (tgt := 2) dX5_after_27 (by decide) ?_
        refine px_keep [0, 1, 2] ?_
        refine K (fun j hj => ?_)
        by_cases e : j = i
        · subst e; exact h0
        · exact hA j (by omega)
      · refine px_iload_n dX5_after_22 rfl ?_
        exact px_iret dX5_after_23 rfl (Or.inl rfl) (by unfold pt_aft at h; rw [pf_some hi (fun j hj => pl_f (hA j hj)) (pl_t h0)] at h; exact h)
  refine px_iconst (v := nI 0) dX5_after_0 (by decide) ?_
  refine px_istore_n dX5_after_1 (by decide) ?_
  exact key 0 (by omega) (fun j hj => absurd hj (Nat.not_lt_zero _))
theorem c_X5_after {z : pv_Z} {E : pv_E} {d bc bs : Nat} {J : pv_JT} {I : pv_IT} {mi : pv_MI} {pc idx : Nat} {lv : pv_LV} {st : List Value} {q d0 : Nat} {T : pv_T} (hd : decode mi.2.1 pc = .ok (.invokevirtual idx, 3)) (hlk : Cond.methodLink mi.1.cls idx mX5_after.1 ∈ pv_W) (hD : 1+1 ≤ d) (hq : pv_ports q) (hp : cp I q T) (hw : pw T) (hd0 : d0 < 2147483648) (hcat : (st.map fun v => v.category).sum ≤ 8) (K : pv_X z E d bc bs mi (pc + 3) lv ((.int (oI (pt_aft T d0))) :: st) pv_K0 pv_P0 (I) (J)) : pv_X z E d bc bs mi pc lv (.int (nI (d0)) :: .ref (q) :: st) pv_K0 pv_P0 I J := by
  obtain ⟨d, rfl⟩ : ∃ d0, d = d0 + 1 := ⟨d - 1, by omega⟩
  have key := px_callV (bc := bc) (bs := bs) (bc1 := 0) (bs1 := 0) (as := [.int (nI (d0))]) (E := E) (z := z) (lv := lv) hd mvX5_after hlk hq.1 (by decide) rfl hq.2.1 rfl rfl hcat (by exact Nat.le_of_ble_eq_true rfl) (s_X5_after (by omega) hq hp hw hd0 K)
  rw [Nat.zero_add, Nat.zero_add] at key
  exact key
set_option maxRecDepth 100000 in
set_option maxHeartbeats 4000000 in
theorem s_X5_priceOf {Q : pv_Q} {E : pv_E} {d bc bs : Nat} {J : pv_JT} {I : pv_IT} {q p k : Nat} {T : pv_T} (hD : 1 ≤ d) (hq : pv_ports q) (hp : cp I q T) (h1 : p < 8) (h2 : k < 8) (h : Q (.inl (some (.int (nI (pt_price T p k))))) pv_K0 pv_P0 (I) (J)) : pv_X (pv_ZQ E Q) E d bc bs mX5_priceOf 0 [(0, .ref (q)), (1, .int (nI (p))), (2, .int (nI (k)))] [] pv_K0 pv_P0 I J := by
  refine px_aload_n dX5_priceOf_0 rfl ?_
  refine px_getR dX5_priceOf_1 flX5_23 hq.1 (by decide) (by decide) rfl hq.2.1 hq.2.2.2.2.1 ?_
  refine px_iload_n dX5_priceOf_4 rfl ?_
  refine px_bipush (v := nI 8) dX5_priceOf_5 (by decide) ?_
  refine px_imulN dX5_priceOf_7 ?_
  refine px_iload_n dX5_priceOf_8 rfl ?_
  refine px_iaddN dX5_priceOf_9 ?_
  refine c_X6_at dX5_priceOf_10 mlX5_30 (by omega) (j := ((p * 8) + k)) hq.2.2.2.2.2 (by omega) (Nat.le_of_ble_eq_true rfl) ?_
  refine px_iv (y := nI (pt_price T p k)) (pc_price hp h1 h2) ?_
  exact px_iret dX5_priceOf_13 rfl (Or.inl rfl) (h)
theorem c_X5_priceOf {z : pv_Z} {E : pv_E} {d bc bs : Nat} {J : pv_JT} {I : pv_IT} {mi : pv_MI} {pc idx : Nat} {lv : pv_LV} {st : List Value} {q p k : Nat} {T : pv_T} (hd : decode mi.2.1 pc = .ok (.invokevirtual idx, 3)) (hlk : Cond.methodLink mi.1.cls idx mX5_priceOf.1 ∈ pv_W) (hD : 1+1 ≤ d) (hq : pv_ports q) (hp : cp I q T) (h1 : p < 8) (h2 : k < 8) (hcat : (st.map fun v => v.category).sum ≤ 8) (K : pv_X z E d bc bs mi (pc + 3) lv ((.int (nI (pt_price T p k))) :: st) pv_K0 pv_P0 (I) (J)) : pv_X z E d bc bs mi pc lv (.int (nI (k)) :: .int (nI (p)) :: .ref (q) :: st) pv_K0 pv_P0 I J := by
  obtain ⟨d, rfl⟩ : ∃ d0, d = d0 + 1 := ⟨d - 1, by omega⟩
  have key := px_callV (bc := bc) (bs := bs) (bc1 := 0) (bs1 := 0) (as := [.int (nI (p)), .int (nI (k))]) (E := E) (z := z) (lv := lv) hd mvX5_priceOf hlk hq.1 (by decide) rfl hq.2.1 rfl rfl hcat (by exact Nat.le_of_ble_eq_true rfl) (s_X5_priceOf (by omega) hq hp h1 h2 K)
  rw [Nat.zero_add, Nat.zero_add] at key
  exact key
set_option maxRecDepth 100000 in
set_option maxHeartbeats 4000000 in
theorem s_X5_putPrice {Q : pv_Q} {E : pv_E} {d bc bs : Nat} {J : pv_JT} {I : pv_IT} {q p k : Nat} {x : Int32} (hD : 1 ≤ d) (hq : pv_ports q) (h1 : p < 8) (h2 : k < 8) (h : Q (.inl none) pv_K0 pv_P0 (pv_uI I (q + 6) (p * 8 + k) x) (J)) : pv_X (pv_ZQ E Q) E d bc bs mX5_putPrice 0 [(0, .ref (q)), (1, .int (nI (p))), (2, .int (nI (k))), (3, .int (x))] [] pv_K0 pv_P0 I J := by
  refine px_aload_n dX5_putPrice_0 rfl ?_
  refine px_getR dX5_putPrice_1 flX5_23 hq.1 (by decide) (by decide) rfl hq.2.1 hq.2.2.2.2.1 ?_
  refine px_iload_n dX5_putPrice_4 rfl ?_
  refine px_bipush (v := nI 8) dX5_putPrice_5 (by decide) ?_
  refine px_imulN dX5_putPrice_7 ?_
  refine px_iload_n dX5_putPrice_8 rfl ?_
  refine px_iaddN dX5_putPrice_9 ?_
  refine px_iload_n dX5_putPrice_10 rfl ?_
  refine c_X6_put dX5_putPrice_11 mlX5_34 (by omega) (j := ((p * 8) + k)) hq.2.2.2.2.2 (by omega) (Nat.le_of_ble_eq_true rfl) ?_
  exact px_vret dX5_putPrice_14 rfl (Or.inl rfl) (h)
theorem c_X5_putPrice {z : pv_Z} {E : pv_E} {d bc bs : Nat} {J : pv_JT} {I : pv_IT} {mi : pv_MI} {pc idx : Nat} {lv : pv_LV} {st : List Value} {q p k : Nat} {x : Int32} (hd : decode mi.2.1 pc = .ok (.invokevirtual idx, 3)) (hlk : Cond.methodLink mi.1.cls idx mX5_putPrice.1 ∈ pv_W) (hD : 1+1 ≤ d) (hq : pv_ports q) (h1 : p < 8) (h2 : k < 8) (hcat : (st.map fun v => v.category).sum ≤ 8) (K : pv_X z E d bc bs mi (pc + 3) lv (st) pv_K0 pv_P0 (pv_uI I (q + 6) (p * 8 + k) x) (J)) : pv_X z E d bc bs mi pc lv (.int (x) :: .int (nI (k)) :: .int (nI (p)) :: .ref (q) :: st) pv_K0 pv_P0 I J := by
  obtain ⟨d, rfl⟩ : ∃ d0, d = d0 + 1 := ⟨d - 1, by omega⟩
  have key := px_callV (bc := bc) (bs := bs) (bc1 := 0) (bs1 := 0) (as := [.int (nI (p)), .int (nI (k)), .int (x)]) (E := E) (z := z) (lv := lv) hd mvX5_putPrice hlk hq.1 (by decide) rfl hq.2.1 rfl rfl hcat (by exact Nat.le_of_ble_eq_true rfl) (s_X5_putPrice (by omega) hq h1 h2 K)
  rw [Nat.zero_add, Nat.zero_add] at key
  exact key
