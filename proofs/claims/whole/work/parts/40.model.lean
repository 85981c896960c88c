/-! The reference: its row, what it reads. -/
/-- the reference's row holds the numbers T and the lots L -/
def lotm (Z : Nat → Int32) (l : Nat) (x : pv_Lot) : Prop := Z (70 + 4 * l) = nI x.1 ∧ Z (70 + 4 * l + 1) = nI x.2.1 ∧ Z (70 + 4 * l + 2) = nI x.2.2.1 ∧ Z (70 + 4 * l + 3) = nI x.2.2.2
def MR (Z : Nat → Int32) (T : pv_T) (L : List pv_Lot) : Prop := (∀ i, i < 413 → ¬ (70 ≤ i ∧ i < 194) → i ≠ 406 → Z i = nI (T i)) ∧ Z 406 = nI L.length ∧ lbs L ∧ ∀ l, l < L.length → lotm Z l (pl_g L l)
theorem mr_l {Z : Nat → Int32} {T : pv_T} {L : List pv_Lot} {l : Nat} (h : MR Z T L) (hl : l < L.length) : lotm Z l (pl_g L l) := h.2.2.2 l hl
theorem lotm_of {Z Z' : Nat → Int32} {l : Nat} {x : pv_Lot} (h : lotm Z l x) (hF : ∀ i, 70 + 4 * l ≤ i → i < 74 + 4 * l → Z' i = Z i) : lotm Z' l x :=
  ⟨(hF _ (by omega) (by omega)).trans h.1, (hF _ (by omega) (by omega)).trans h.2.1, (hF _ (by omega) (by omega)).trans h.2.2.1, (hF _ (by omega) (by omega)).trans h.2.2.2⟩
theorem MR_of {Z Z' : Nat → Int32} {T : pv_T} {L : List pv_Lot} (h : MR Z T L) (hF : ∀ i, i < 413 → Z' i = Z i) : MR Z' T L := by
  have h31 := h.2.2.1.1
  exact ⟨fun i h1 h2 h3 => (hF i h1).trans (h.1 i h1 h2 h3), (hF _ (by omega)).trans h.2.1, h.2.2.1, fun l hl => lotm_of (h.2.2.2 l hl) fun i h1 h2 => hF i (by omega)⟩
theorem MR_up {Z Z' : Nat → Int32} {T : pv_T} {L : List pv_Lot} {i v : Nat} (h : MR Z T L) (hi : ¬ (70 ≤ i ∧ i < 194)) (hi2 : i ≠ 406) (h1 : Z' i = nI v) (hF : ∀ j, j ≠ i → Z' j = Z j) : MR Z' (pt_up T i v) L := by
  have h31 := h.2.2.1.1
  refine ⟨fun j a b c => ?_, (hF _ (by omega)).trans h.2.1, h.2.2.1, fun l hl => lotm_of (h.2.2.2 l hl) fun j h1 h2 => hF j (by omega)⟩
  unfold pt_up
  by_cases e : j = i
  · rw [if_pos e, e]; exact h1
  · rw [if_neg e, hF j e]; exact h.1 j a b c
theorem MR_T {Z : Nat → Int32} {T T' : pv_T} {L : List pv_Lot} (h : MR Z T L) (hT : ∀ i, i < 413 → ¬ (70 ≤ i ∧ i < 194) → i ≠ 406 → T' i = T i) : MR Z T' L :=
  ⟨fun j a b c => by rw [hT j a b c]; exact h.1 j a b c, h.2⟩
theorem upd_ne {f : Nat → Int32} {i j : Nat} {x : Int32} (h : j ≠ i) : upd f i x j = f j := pk_un h
theorem MR_z {I : pv_IT} {T : pv_T} {L : List pv_Lot} {i v : Nat} (h : MR (I 366) T L) (hi : ¬ (70 ≤ i ∧ i < 194)) (hi2 : i ≠ 406) : MR (pv_uI I 366 i (nI v) 366) (pt_up T i v) L :=
  MR_up h hi hi2 (by rw [pv_uI_self, pk_us]) fun j hj => by rw [pv_uI_self, pk_un hj]
theorem pv_bl_congr {p q : Prop} [Decidable p] [Decidable q] (h : p ↔ q) : pv_bl p = pv_bl q := by
  unfold pv_bl
  by_cases e : p
  · rw [if_pos e, if_pos (h.mp e)]
  · rw [if_neg e, if_neg (fun z => e (h.mpr z))]
set_option maxRecDepth 100000 in
set_option maxHeartbeats 4000000 in
theorem s_X10_thrown {Q : pv_Q} {E : pv_E} {d bc bs : Nat} {J : pv_JT} {I : pv_IT}  (hD : 0 ≤ d)  (h : Q (.inl (some (.int (I 365 0)))) pv_K0 pv_P0 (I) (J)) : pv_X (pv_ZQ E Q) E d bc bs mX10_thrown 0 [(0, .ref (365))] [] pv_K0 pv_P0 I J := by
  refine px_aload_n dX10_thrown_0 rfl ?_
  refine px_getI dX10_thrown_1 flX10_31 pv_s_model (by decide) (by decide) rfl pv_k_model ?_
  exact px_iret dX10_thrown_4 rfl (Or.inl rfl) (h)
theorem c_X10_thrown {z : pv_Z} {E : pv_E} {d bc bs : Nat} {J : pv_JT} {I : pv_IT} {mi : pv_MI} {pc idx : Nat} {lv : pv_LV} {st : List Value}  (hd : decode mi.2.1 pc = .ok (.invokevirtual idx, 3)) (hlk : Cond.methodLink mi.1.cls idx mX10_thrown.1 ∈ pv_W) (hD : 0+1 ≤ d)  (hcat : (st.map fun v => v.category).sum ≤ 8) (K : pv_X z E d bc bs mi (pc + 3) lv ((.int (I 365 0)) :: st) pv_K0 pv_P0 (I) (J)) : pv_X z E d bc bs mi pc lv (.ref (365) :: st) pv_K0 pv_P0 I J := by
  obtain ⟨d, rfl⟩ : ∃ d0, d = d0 + 1 := ⟨d - 1, by omega⟩
  have key := px_callV (bc := bc) (bs := bs) (bc1 := 0) (bs1 := 0) (as := []) (E := E) (z := z) (lv := lv) hd mvX10_thrown hlk pv_s_model (by decide) rfl pv_k_model rfl rfl hcat (by exact Nat.le_of_ble_eq_true rfl) (s_X10_thrown (by omega)  K)
  rw [Nat.zero_add, Nat.zero_add] at key
  exact key
set_option maxRecDepth 100000 in
set_option maxHeartbeats 4000000 in
theorem s_X10_within {Q : pv_Q} {E : pv_E} {d bc bs : Nat} {J : pv_JT} {I : pv_IT} {x a b : Int32} (hD : 0 ≤ d)  (h : Q (.inl (some (.int (nI (pv_bl (a ≤ x ∧ x ≤ b)))))) pv_K0 pv_P0 (I) (J)) : pv_X (pv_ZQ E Q) E d bc bs mX10_within 0 [(0, .int (x)), (1, .int (a)), (2, .int (b))] [] pv_K0 pv_P0 I J := by
  refine px_iload_n dX10_within_0 rfl ?_
  refine px_iload_n dX10_within_1 rfl ?_
  refine px_icmp_lt (tgt := 14) dX10_within_2 (by decide) (fun h0 => ?_) (fun h0 => ?_)
  · refine px_iconst (v := nI 0) dX10_within_14 (by decide) ?_
    exact px_zret dX10_within_15 rfl rfl (Or.inl rfl) (by rw [pv_bl0 (fun z => absurd z.1 (Int32.not_le.mpr h0))] at h; exact h)
  · refine px_iload_n dX10_within_5 rfl ?_
    refine px_iload_n dX10_within_6 rfl ?_
    refine px_icmp_gt (tgt := 14) dX10_within_7 (by decide) (fun h1 => ?_) (fun h1 => ?_)
    · refine px_iconst (v := nI 0) dX10_within_14 (by decide) ?_
      exact px_zret dX10_within_15 rfl rfl (Or.inl rfl) (by rw [pv_bl0 (fun z => absurd z.2 (Int32.not_le.mpr h1))] at h; exact h)
    · refine px_iconst (v := nI 1) dX10_within_10 (by decide) ?_
      refine px_goto (tgt := 15) dX10_within_11 (by decide) ?_
      exact px_zret dX10_within_15 rfl rfl (Or.inl rfl) (by rw [pv_bl1 ⟨Int32.not_lt.mp h0, Int32.not_lt.mp h1⟩] at h; exact h)
theorem c_X10_within {z : pv_Z} {E : pv_E} {d bc bs : Nat} {J : pv_JT} {I : pv_IT} {mi : pv_MI} {pc idx : Nat} {lv : pv_LV} {st : List Value} {x a b : Int32} (hd : decode mi.2.1 pc = .ok (.invokestatic idx, 3)) (hlk : Cond.methodLink mi.1.cls idx mX10_within.1 ∈ pv_W) (hD : 0+1 ≤ d)  (hcat : (st.map fun v => v.category).sum ≤ 8) (K : pv_X z E d bc bs mi (pc + 3) lv ((.int (nI (pv_bl (a ≤ x ∧ x ≤ b)))) :: st) pv_K0 pv_P0 (I) (J)) : pv_X z E d bc bs mi pc lv (.int (b) :: .int (a) :: .int (x) :: st) pv_K0 pv_P0 I J := by
  obtain ⟨d, rfl⟩ : ∃ d0, d = d0 + 1 := ⟨d - 1, by omega⟩
  have key := px_callS (bc := bc) (bs := bs) (bc1 := 0) (bs1 := 0) (as := [.int (x), .int (a), .int (b)]) (E := E) (z := z) (lv := lv) hd msX10_within hlk rfl rfl hcat (by exact Nat.le_of_ble_eq_true rfl) (s_X10_within (by omega)  K)
  rw [Nat.zero_add, Nat.zero_add] at key
  exact key
set_option maxRecDepth 100000 in
set_option maxHeartbeats 4000000 in
theorem s_X10_of {Q : pv_Q} {E : pv_E} {d bc bs : Nat} {J : pv_JT} {I : pv_IT} {l w : Nat} (hD : 0 ≤ d) (h1 : l < 31) (h2 : w < 4) (h : Q (.inl (some (.int (I 366 (70 + 4 * l + w))))) pv_K0 pv_P0 (I) (J)) : pv_X (pv_ZQ E Q) E d bc bs mX10_of 0 [(0, .ref (365)), (1, .int (nI (l))), (2, .int (nI (w)))] [] pv_K0 pv_P0 I J := by
  refine px_aload_n dX10_of_0 rfl ?_
  refine px_getR dX10_of_1 flX10_7 pv_s_model (by decide) (by decide) rfl pv_k_model pv_p_365_1 ?_
  refine px_bipush (v := nI 70) dX10_of_4 (by decide) ?_
  refine px_iconst (v := nI 4) dX10_of_6 (by decide) ?_
  refine px_iload_n dX10_of_7 rfl ?_
  refine px_imulN dX10_of_8 ?_
  refine px_iaddN dX10_of_9 ?_
  refine px_iload_n dX10_of_10 rfl ?_
  refine px_iaddN dX10_of_11 ?_
  refine px_iald (j := ((70 + (4 * l)) + w)) dX10_of_12 pv_a_z.1 rfl (by omega) pv_a_z.2.2 pv_a_z.2.1 ?_
  exact px_iret dX10_of_13 rfl (Or.inl rfl) (h)
theorem c_X10_of {z : pv_Z} {E : pv_E} {d bc bs : Nat} {J : pv_JT} {I : pv_IT} {mi : pv_MI} {pc idx : Nat} {lv : pv_LV} {st : List Value} {l w : Nat} (hd : decode mi.2.1 pc = .ok (.invokevirtual idx, 3)) (hlk : Cond.methodLink mi.1.cls idx mX10_of.1 ∈ pv_W) (hD : 0+1 ≤ d) (h1 : l < 31) (h2 : w < 4) (hcat : (st.map fun v => v.category).sum ≤ 8) (K : pv_X z E d bc bs mi (pc + 3) lv ((.int (I 366 (70 + 4 * l + w))) :: st) pv_K0 pv_P0 (I) (J)) : pv_X z E d bc bs mi pc lv (.int (nI (w)) :: .int (nI (l)) :: .ref (365) :: st) pv_K0 pv_P0 I J := by
  obtain ⟨d, rfl⟩ : ∃ d0, d = d0 + 1 := ⟨d - 1, by omega⟩
  have key := px_callV (bc := bc) (bs := bs) (bc1 := 0) (bs1 := 0) (as := [.int (nI (l)), .int (nI (w))]) (E := E) (z := z) (lv := lv) hd mvX10_of hlk pv_s_model (by decide) rfl pv_k_model rfl rfl hcat (by exact Nat.le_of_ble_eq_true rfl) (s_X10_of (by omega) h1 h2 K)
  rw [Nat.zero_add, Nat.zero_add] at key
  exact key
set_option maxRecDepth 100000 in
set_option maxHeartbeats 4000000 in
theorem s_X10_tally {Q : pv_Q} {E : pv_E} {d bc bs : Nat} {J : pv_JT} {I : pv_IT} {T : pv_T} {L : List pv_Lot} {k w x : Nat} (hD : 0 ≤ d) (hM : MR (I 366) T L) (h1 : k < 8) (h2 : w < 5) (h : Q (.inl none) pv_K0 pv_P0 (pv_uI I 366 (24 + 5 * k + w) (nI (T (24 + 5 * k + w) + x))) (J)) : pv_X (pv_ZQ E Q) E d bc bs mX10_tally 0 [(0, .ref (365)), (1, .int (nI (k))), (2, .int (nI (w))), (3, .int (nI (x)))] [] pv_K0 pv_P0 I J := by
  refine px_aload_n dX10_tally_0 rfl ?_
  refine px_getR dX10_tally_1 flX10_7 pv_s_model (by decide) (by decide) rfl pv_k_model pv_p_365_1 ?_
  refine px_bipush (v := nI 24) dX10_tally_4 (by decide) ?_
  refine px_iconst (v := nI 5) dX10_tally_6 (by decide) ?_
  refine px_iload_n dX10_tally_7 rfl ?_
  refine px_imulN dX10_tally_8 ?_
  refine px_iaddN dX10_tally_9 ?_
  refine px_iload_n dX10_tally_10 rfl ?_
  refine px_iaddN dX10_tally_11 ?_
  refine px_dup2 dX10_tally_12 rfl rfl ?_
  refine px_iald (j := ((24 + (5 * k)) + w)) dX10_tally_13 pv_a_z.1 rfl (by omega) pv_a_z.2.2 pv_a_z.2.1 ?_
  refine px_iv (y := nI (T (24 + 5 * k + w))) (hM.1 (24 + 5 * k + w) (by omega) (by omega) (by omega)) ?_
  refine px_iload_n dX10_tally_14 rfl ?_
  refine px_iaddN dX10_tally_15 ?_
  refine px_iast (j := ((24 + (5 * k)) + w)) dX10_tally_16 pv_a_z.1 rfl (by omega) pv_a_z.2.2 pv_a_z.2.1 ?_
  exact px_vret dX10_tally_17 rfl (Or.inl rfl) (h)
theorem c_X10_tally {z : pv_Z} {E : pv_E} {d bc bs : Nat} {J : pv_JT} {I : pv_IT} {mi : pv_MI} {pc idx : Nat} {lv : pv_LV} {st : List Value} {T : pv_T} {L : List pv_Lot} {k w x : Nat} (hd : decode mi.2.1 pc = .ok (.invokevirtual idx, 3)) (hlk : Cond.methodLink mi.1.cls idx mX10_tally.1 ∈ pv_W) (hD : 0+1 ≤ d) (hM : MR (I 366) T L) (h1 : k < 8) (h2 : w < 5) (hcat : (st.map fun v => v.category).sum ≤ 8) (K : pv_X z E d bc bs mi (pc + 3) lv (st) pv_K0 pv_P0 (pv_uI I 366 (24 + 5 * k + w) (nI (T (24 + 5 * k + w) + x))) (J)) : pv_X z E d bc bs mi pc lv (.int (nI (x)) :: .int (nI (w)) :: .int (nI (k)) :: .ref (365) :: st) pv_K0 pv_P0 I J := by
  obtain ⟨d, rfl⟩ : ∃ d0, d = d0 + 1 := ⟨d - 1, by omega⟩
  have key := px_callV (bc := bc) (bs := bs) (bc1 := 0) (bs1 := 0) (as := [.int (nI (k)), .int (nI (w)), .int (nI (x))]) (E := E) (z := z) (lv := lv) hd mvX10_tally hlk pv_s_model (by decide) rfl pv_k_model rfl rfl hcat (by exact Nat.le_of_ble_eq_true rfl) (s_X10_tally (by omega) hM h1 h2 K)
  rw [Nat.zero_add, Nat.zero_add] at key
  exact key
set_option maxRecDepth 100000 in
set_option maxHeartbeats 4000000 in
theorem s_X10_isKind {Q : pv_Q} {E : pv_E} {d bc bs : Nat} {J : pv_JT} {I : pv_IT} {T : pv_T} {L : List pv_Lot} {x : Int32} (hD : 1 ≤ d) (hM : MR (I 366) T L) (hn8 : T 405 ≤ 100) (h : Q (.inl (some (.int (nI (pv_bl (pu_has x (T 405))))))) pv_K0 pv_P0 (I) (J)) : pv_X (pv_ZQ E Q) E d bc bs mX10_isKind 0 [(0, .ref (365)), (1, .int (x))] [] pv_K0 pv_P0 I J := by
  refine px_iload_n dX10_isKind_0 rfl ?_
  refine px_iconst (v := nI 0) dX10_isKind_1 (by decide) ?_
  refine px_aload_n dX10_isKind_2 rfl ?_
  refine px_getR dX10_isKind_3 flX10_7 pv_s_model (by decide) (by decide) rfl pv_k_model pv_p_365_1 ?_
  refine px_sipush (v := nI 405) dX10_isKind_6 (by decide) ?_
  refine px_iald (j := 405) dX10_isKind_9 pv_a_z.1 rfl (by omega) pv_a_z.2.2 pv_a_z.2.1 ?_
  refine px_iv (y := nI (T (405))) (hM.1 (405) (by omega) (by omega) (by omega)) ?_
  refine px_iconst (v := nI 1) dX10_isKind_10 (by decide) ?_
  refine px_isub dX10_isKind_11 ?_
  refine c_X10_within dX10_isKind_12 mlX10_35 (by omega)  (Nat.le_of_ble_eq_true rfl) ?_
  skip
  rw [pv_bl_congr (pu_has_le (by omega))]
  exact px_zret dX10_isKind_15 rfl (by unfold pv_bl; split <;> rfl) (Or.inl rfl) h
theorem c_X10_isKind {z : pv_Z} {E : pv_E} {d bc bs : Nat} {J : pv_JT} {I : pv_IT} {mi : pv_MI} {pc idx : Nat} {lv : pv_LV} {st : List Value} {T : pv_T} {L : List pv_Lot} {x : Int32} (hd : decode mi.2.1 pc = .ok (.invokevirtual idx, 3)) (hlk : Cond.methodLink mi.1.cls idx mX10_isKind.1 ∈ pv_W) (hD : 1+1 ≤ d) (hM : MR (I 366) T L) (hn8 : T 405 ≤ 100) (hcat : (st.map fun v => v.category).sum ≤ 8) (K : pv_X z E d bc bs mi (pc + 3) lv ((.int (nI (pv_bl (pu_has x (T 405))))) :: st) pv_K0 pv_P0 (I) (J)) : pv_X z E d bc bs mi pc lv (.int (x) :: .ref (365) :: st) pv_K0 pv_P0 I J := by
  obtain ⟨d, rfl⟩ : ∃ d0, d = d0 + 1 := ⟨d - 1, by omega⟩
  have key := px_callV (bc := bc) (bs := bs) (bc1 := 0) (bs1 := 0) (as := [.int (x)]) (E := E) (z := z) (lv := lv) hd mvX10_isKind hlk pv_s_model (by decide) rfl pv_k_model rfl rfl hcat (by exact Nat.le_of_ble_eq_true rfl) (s_X10_isKind (by omega) hM hn8 K)
  rw [Nat.zero_add, Nat.zero_add] at key
  exact key
set_option maxRecDepth 100000 in
set_option maxHeartbeats 4000000 in
theorem s_X10_isPort {Q : pv_Q} {E : pv_E} {d bc bs : Nat} {J : pv_JT} {I : pv_IT} {T : pv_T} {L : List pv_Lot} {x : Int32} (hD : 1 ≤ d) (hM : MR (I 366) T L) (hn8 : T 407 ≤ 100) (h : Q (.inl (some (.int (nI (pv_bl (pu_has x (T 407))))))) pv_K0 pv_P0 (I) (J)) : pv_X (pv_ZQ E Q) E d bc bs mX10_isPort 0 [(0, .ref (365)), (1, .int (x))] [] pv_K0 pv_P0 I J := by
  refine px_iload_n dX10_isPort_0 rfl ?_
  refine px_iconst (v := nI 0) dX10_isPort_1 (by decide) ?_
  refine px_aload_n dX10_isPort_2 rfl ?_
  refine px_getR dX10_isPort_3 flX10_7 pv_s_model (by decide) (by decide) rfl pv_k_model pv_p_365_1 ?_
  refine px_sipush (v := nI 407) dX10_isPort_6 (by decide) ?_
  refine px_iald (j := 407) dX10_isPort_9 pv_a_z.1 rfl (by omega) pv_a_z.2.2 pv_a_z.2.1 ?_
  refine px_iv (y := nI (T (407))) (hM.1 (407) (by omega) (by omega) (by omega)) ?_
  refine px_iconst (v := nI 1) dX10_isPort_10 (by decide) ?_
  refine px_isub dX10_isPort_11 ?_
  refine c_X10_within dX10_isPort_12 mlX10_35 (by omega)  (Nat.le_of_ble_eq_true rfl) ?_
  skip
  rw [pv_bl_congr (pu_has_le (by omega))]
  exact px_zret dX10_isPort_15 rfl (by unfold pv_bl; split <;> rfl) (Or.inl rfl) h
theorem c_X10_isPort {z : pv_Z} {E : pv_E} {d bc bs : Nat} {J : pv_JT} {I : pv_IT} {mi : pv_MI} {pc idx : Nat} {lv : pv_LV} {st : List Value} {T : pv_T} {L : List pv_Lot} {x : Int32} (hd : decode mi.2.1 pc = .ok (.invokevirtual idx, 3)) (hlk : Cond.methodLink mi.1.cls idx mX10_isPort.1 ∈ pv_W) (hD : 1+1 ≤ d) (hM : MR (I 366) T L) (hn8 : T 407 ≤ 100) (hcat : (st.map fun v => v.category).sum ≤ 8) (K : pv_X z E d bc bs mi (pc + 3) lv ((.int (nI (pv_bl (pu_has x (T 407))))) :: st) pv_K0 pv_P0 (I) (J)) : pv_X z E d bc bs mi pc lv (.int (x) :: .ref (365) :: st) pv_K0 pv_P0 I J := by
  obtain ⟨d, rfl⟩ : ∃ d0, d = d0 + 1 := ⟨d - 1, by omega⟩
  have key := px_callV (bc := bc) (bs := bs) (bc1 := 0) (bs1 := 0) (as := [.int (x)]) (E := E) (z := z) (lv := lv) hd mvX10_isPort hlk pv_s_model (by decide) rfl pv_k_model rfl rfl hcat (by exact Nat.le_of_ble_eq_true rfl) (s_X10_isPort (by omega) hM hn8 K)
  rw [Nat.zero_add, Nat.zero_add] at key
  exact key
set_option maxRecDepth 100000 in
set_option maxHeartbeats 4000000 in
theorem s_X10_isLot {Q : pv_Q} {E : pv_E} {d bc bs : Nat} {J : pv_JT} {I : pv_IT} {T : pv_T} {L : List pv_Lot} {x : Int32} (hD : 1 ≤ d) (hM : MR (I 366) T L) (h : Q (.inl (some (.int (nI (pv_bl (pu_has x (L.length))))))) pv_K0 pv_P0 (I) (J)) : pv_X (pv_ZQ E Q) E d bc bs mX10_isLot 0 [(0, .ref (365)), (1, .int (x))] [] pv_K0 pv_P0 I J := by
  refine px_iload_n dX10_isLot_0 rfl ?_
  refine px_iconst (v := nI 0) dX10_isLot_1 (by decide) ?_
  refine px_aload_n dX10_isLot_2 rfl ?_
  refine px_getR dX10_isLot_3 flX10_7 pv_s_model (by decide) (by decide) rfl pv_k_model pv_p_365_1 ?_
  refine px_sipush (v := nI 406) dX10_isLot_6 (by decide) ?_
  refine px_iald (j := 406) dX10_isLot_9 pv_a_z.1 rfl (by omega) pv_a_z.2.2 pv_a_z.2.1 ?_
  refine px_iv (y := nI (L.length)) (hM.2.1) ?_
  refine px_iconst (v := nI 1) dX10_isLot_10 (by decide) ?_
  refine px_isub dX10_isLot_11 ?_
  refine c_X10_within dX10_isLot_12 mlX10_35 (by omega)  (Nat.le_of_ble_eq_true rfl) ?_
  have h31 := hM.2.2.1.1
  rw [pv_bl_congr (pu_has_le (by omega))]
  exact px_zret dX10_isLot_15 rfl (by unfold pv_bl; split <;> rfl) (Or.inl rfl) h
theorem c_X10_isLot {z : pv_Z} {E : pv_E} {d bc bs : Nat} {J : pv_JT} {I : pv_IT} {mi : pv_MI} {pc idx : Nat} {lv : pv_LV} {st : List Value} {T : pv_T} {L : List pv_Lot} {x : Int32} (hd : decode mi.2.1 pc = .ok (.invokevirtual idx, 3)) (hlk : Cond.methodLink mi.1.cls idx mX10_isLot.1 ∈ pv_W) (hD : 1+1 ≤ d) (hM : MR (I 366) T L) (hcat : (st.map fun v => v.category).sum ≤ 8) (K : pv_X z E d bc bs mi (pc + 3) lv ((.int (nI (pv_bl (pu_has x (L.length))))) :: st) pv_K0 pv_P0 (I) (J)) : pv_X z E d bc bs mi pc lv (.int (x) :: .ref (365) :: st) pv_K0 pv_P0 I J := by
  obtain ⟨d, rfl⟩ : ∃ d0, d = d0 + 1 := ⟨d - 1, by omega⟩
  have key := px_callV (bc := bc) (bs := bs) (bc1 := 0) (bs1 := 0) (as := [.int (x)]) (E := E) (z := z) (lv := lv) hd mvX10_isLot hlk pv_s_model (by decide) rfl pv_k_model rfl rfl hcat (by exact Nat.le_of_ble_eq_true rfl) (s_X10_isLot (by omega) hM K)
  rw [Nat.zero_add, Nat.zero_add] at key
  exact key
set_option maxRecDepth 100000 in
set_option maxHeartbeats 4000000 in
theorem s_X10_isStore {Q : pv_Q} {E : pv_E} {d bc bs : Nat} {J : pv_JT} {I : pv_IT} {x : Int32} (hD : 1 ≤ d)  (h : Q (.inl (some (.int (nI (pv_bl (pu_has x 3)))))) pv_K0 pv_P0 (I) (J)) : pv_X (pv_ZQ E Q) E d bc bs mX10_isStore 0 [(0, .int (x))] [] pv_K0 pv_P0 I J := by
  refine px_iload_n dX10_isStore_0 rfl ?_
  refine px_iconst (v := nI 0) dX10_isStore_1 (by decide) ?_
  refine px_iconst (v := nI 2) dX10_isStore_2 (by decide) ?_
  refine c_X10_within dX10_isStore_3 mlX10_35 (by omega)  (Nat.le_of_ble_eq_true rfl) ?_
  rw [pv_bl_congr (pu_has_in (n := 2) (by decide))]
  exact px_zret dX10_isStore_6 rfl (by unfold pv_bl; split <;> rfl) (Or.inl rfl) h
theorem c_X10_isStore {z : pv_Z} {E : pv_E} {d bc bs : Nat} {J : pv_JT} {I : pv_IT} {mi : pv_MI} {pc idx : Nat} {lv : pv_LV} {st : List Value} {x : Int32} (hd : decode mi.2.1 pc = .ok (.invokestatic idx, 3)) (hlk : Cond.methodLink mi.1.cls idx mX10_isStore.1 ∈ pv_W) (hD : 1+1 ≤ d)  (hcat : (st.map fun v => v.category).sum ≤ 8) (K : pv_X z E d bc bs mi (pc + 3) lv ((.int (nI (pv_bl (pu_has x 3)))) :: st) pv_K0 pv_P0 (I) (J)) : pv_X z E d bc bs mi pc lv (.int (x) :: st) pv_K0 pv_P0 I J := by
  obtain ⟨d, rfl⟩ : ∃ d0, d = d0 + 1 := ⟨d - 1, by omega⟩
  have key := px_callS (bc := bc) (bs := bs) (bc1 := 0) (bs1 := 0) (as := [.int (x)]) (E := E) (z := z) (lv := lv) hd msX10_isStore hlk rfl rfl hcat (by exact Nat.le_of_ble_eq_true rfl) (s_X10_isStore (by omega)  K)
  rw [Nat.zero_add, Nat.zero_add] at key
  exact key
set_option maxRecDepth 100000 in
set_option maxHeartbeats 4000000 in
theorem s_X10_isLife {Q : pv_Q} {E : pv_E} {d bc bs : Nat} {J : pv_JT} {I : pv_IT} {x : Int32} (hD : 1 ≤ d)  (h : Q (.inl (some (.int (nI (pv_bl (pu_in x 0 200)))))) pv_K0 pv_P0 (I) (J)) : pv_X (pv_ZQ E Q) E d bc bs mX10_isLife 0 [(0, .int (x))] [] pv_K0 pv_P0 I J := by
  refine px_iload_n dX10_isLife_0 rfl ?_
  refine px_iconst (v := nI 0) dX10_isLife_1 (by decide) ?_
  refine px_sipush (v := nI 200) dX10_isLife_2 (by decide) ?_
  refine c_X10_within dX10_isLife_5 mlX10_35 (by omega)  (Nat.le_of_ble_eq_true rfl) ?_
  skip
  exact px_zret dX10_isLife_8 rfl (by unfold pv_bl; split <;> rfl) (Or.inl rfl) h
theorem c_X10_isLife {z : pv_Z} {E : pv_E} {d bc bs : Nat} {J : pv_JT} {I : pv_IT} {mi : pv_MI} {pc idx : Nat} {lv : pv_LV} {st : List Value} {x : Int32} (hd : decode mi.2.1 pc = .ok (.invokestatic idx, 3)) (hlk : Cond.methodLink mi.1.cls idx mX10_isLife.1 ∈ pv_W) (hD : 1+1 ≤ d)  (hcat : (st.map fun v => v.category).sum ≤ 8) (K : pv_X z E d bc bs mi (pc + 3) lv ((.int (nI (pv_bl (pu_in x 0 200)))) :: st) pv_K0 pv_P0 (I) (J)) : pv_X z E d bc bs mi pc lv (.int (x) :: st) pv_K0 pv_P0 I J := by
  obtain ⟨d, rfl⟩ : ∃ d0, d = d0 + 1 := ⟨d - 1, by omega⟩
  have key := px_callS (bc := bc) (bs := bs) (bc1 := 0) (bs1 := 0) (as := [.int (x)]) (E := E) (z := z) (lv := lv) hd msX10_isLife hlk rfl rfl hcat (by exact Nat.le_of_ble_eq_true rfl) (s_X10_isLife (by omega)  K)
  rw [Nat.zero_add, Nat.zero_add] at key
  exact key
set_option maxRecDepth 100000 in
set_option maxHeartbeats 4000000 in
theorem s_X10_isAmount {Q : pv_Q} {E : pv_E} {d bc bs : Nat} {J : pv_JT} {I : pv_IT} {x : Int32} (hD : 1 ≤ d)  (h : Q (.inl (some (.int (nI (pv_bl (pu_in x 1 2000)))))) pv_K0 pv_P0 (I) (J)) : pv_X (pv_ZQ E Q) E d bc bs mX10_isAmount 0 [(0, .int (x))] [] pv_K0 pv_P0 I J := by
  refine px_iload_n dX10_isAmount_0 rfl ?_
  refine px_iconst (v := nI 1) dX10_isAmount_1 (by decide) ?_
  refine px_sipush (v := nI 2000) dX10_isAmount_2 (by decide) ?_
  refine c_X10_within dX10_isAmount_5 mlX10_35 (by omega)  (Nat.le_of_ble_eq_true rfl) ?_
  skip
  exact px_zret dX10_isAmount_8 rfl (by unfold pv_bl; split <;> rfl) (Or.inl rfl) h
theorem c_X10_isAmount {z : pv_Z} {E : pv_E} {d bc bs : Nat} {J : pv_JT} {I : pv_IT} {mi : pv_MI} {pc idx : Nat} {lv : pv_LV} {st : List Value} {x : Int32} (hd : decode mi.2.1 pc = .ok (.invokestatic idx, 3)) (hlk : Cond.methodLink mi.1.cls idx mX10_isAmount.1 ∈ pv_W) (hD : 1+1 ≤ d)  (hcat : (st.map fun v => v.category).sum ≤ 8) (K : pv_X z E d bc bs mi (pc + 3) lv ((.int (nI (pv_bl (pu_in x 1 2000)))) :: st) pv_K0 pv_P0 (I) (J)) : pv_X z E d bc bs mi pc lv (.int (x) :: st) pv_K0 pv_P0 I J := by
  obtain ⟨d, rfl⟩ : ∃ d0, d = d0 + 1 := ⟨d - 1, by omega⟩
  have key := px_callS (bc := bc) (bs := bs) (bc1 := 0) (bs1 := 0) (as := [.int (x)]) (E := E) (z := z) (lv := lv) hd msX10_isAmount hlk rfl rfl hcat (by exact Nat.le_of_ble_eq_true rfl) (s_X10_isAmount (by omega)  K)
  rw [Nat.zero_add, Nat.zero_add] at key
  exact key
set_option maxRecDepth 100000 in
set_option maxHeartbeats 4000000 in
theorem s_X10_isDays {Q : pv_Q} {E : pv_E} {d bc bs : Nat} {J : pv_JT} {I : pv_IT} {x : Int32} (hD : 1 ≤ d)  (h : Q (.inl (some (.int (nI (pv_bl (pu_in x 1 60)))))) pv_K0 pv_P0 (I) (J)) : pv_X (pv_ZQ E Q) E d bc bs mX10_isDays 0 [(0, .int (x))] [] pv_K0 pv_P0 I J := by
  refine px_iload_n dX10_isDays_0 rfl ?_
  refine px_iconst (v := nI 1) dX10_isDays_1 (by decide) ?_
  refine px_bipush (v := nI 60) dX10_isDays_2 (by decide) ?_
  refine c_X10_within dX10_isDays_4 mlX10_35 (by omega)  (Nat.le_of_ble_eq_true rfl) ?_
  skip
  exact px_zret dX10_isDays_7 rfl (by unfold pv_bl; split <;> rfl) (Or.inl rfl) h
theorem c_X10_isDays {z : pv_Z} {E : pv_E} {d bc bs : Nat} {J : pv_JT} {I : pv_IT} {mi : pv_MI} {pc idx : Nat} {lv : pv_LV} {st : List Value} {x : Int32} (hd : decode mi.2.1 pc = .ok (.invokestatic idx, 3)) (hlk : Cond.methodLink mi.1.cls idx mX10_isDays.1 ∈ pv_W) (hD : 1+1 ≤ d)  (hcat : (st.map fun v => v.category).sum ≤ 8) (K : pv_X z E d bc bs mi (pc + 3) lv ((.int (nI (pv_bl (pu_in x 1 60)))) :: st) pv_K0 pv_P0 (I) (J)) : pv_X z E d bc bs mi pc lv (.int (x) :: st) pv_K0 pv_P0 I J := by
  obtain ⟨d, rfl⟩ : ∃ d0, d = d0 + 1 := ⟨d - 1, by omega⟩
  have key := px_callS (bc := bc) (bs := bs) (bc1 := 0) (bs1 := 0) (as := [.int (x)]) (E := E) (z := z) (lv := lv) hd msX10_isDays hlk rfl rfl hcat (by exact Nat.le_of_ble_eq_true rfl) (s_X10_isDays (by omega)  K)
  rw [Nat.zero_add, Nat.zero_add] at key
  exact key
set_option maxRecDepth 100000 in
set_option maxHeartbeats 4000000 in
theorem s_X10_inStore {Q : pv_Q} {E : pv_E} {d bc bs : Nat} {J : pv_JT} {I : pv_IT} {T : pv_T} {L : List pv_Lot} {s : Nat} (hD : 1 ≤ d) (hM : MR (I 366) T L) (hs : s < 2147483648) (h : Q (.inl (some (.int (nI (ps_in L s))))) pv_K0 pv_P0 (I) (J)) : pv_X (pv_ZQ E Q) E d bc bs mX10_inStore 0 [(0, .ref (365)), (1, .int (nI (s)))] [] pv_K0 pv_P0 I J := by
  have h31 := hM.2.2.1.1
  have key : ∀ i : Nat, i ≤ L.length → pv_X (pv_ZQ E Q) E d bc bs mX10_inStore 4 [(0, .ref 365), (1, .int (nI s)), (2, .int (nI (pn_sum (fun l => if (pl_g L l).2.1 = s then (pl_g L l).2.2.1 else 0) (i)))), (3, .int (nI (i)))] [] pv_K0 pv_P0 (I) (J) := by
    refine pv_up (L.length) ?_ ?_
    · refine px_iload_n dX10_inStore_4 rfl ?_
      refine px_aload_n dX10_inStore_5 rfl ?_
      refine px_getR dX10_inStore_6 flX10_7 pv_s_model (by decide) (by decide) rfl pv_k_model pv_p_365_1 ?_
      refine px_sipush (v := nI 406) dX10_inStore_9 (by decide) ?_
      refine px_iald (j := 406) dX10_inStore_12 pv_a_z.1 rfl (by omega) pv_a_z.2.2 pv_a_z.2.1 ?_
      refine px_iv (y := nI (L.length)) (hM.2.1) ?_
      refine px_icmp_geN (tgt := 45) dX10_inStore_13 (by decide) (by omega) (by omega) (fun _ => ?_) (fun h0 => absurd h0 (by omega))
      refine px_iload_n dX10_inStore_45 rfl ?_
      exact px_iret dX10_inStore_46 rfl (Or.inl rfl) (h)
    · intro i hi K 
      have hb := hM.2.2.1.2 i hi
      unfold lb at hb
      refine px_iload_n dX10_inStore_4 rfl ?_
      refine px_aload_n dX10_inStore_5 rfl ?_
      refine px_getR dX10_inStore_6 flX10_7 pv_s_model (by decide) (by decide) rfl pv_k_model pv_p_365_1 ?_
      refine px_sipush (v := nI 406) dX10_inStore_9 (by decide) ?_
      refine px_iald (j := 406) dX10_inStore_12 pv_a_z.1 rfl (by omega) pv_a_z.2.2 pv_a_z.2.1 ?_
      refine px_iv (y := nI (L.length)) (hM.2.1) ?_
      refine px_icmp_geN (tgt := 45) dX10_inStore_13 (by decide) (by omega) (by omega) (fun h0 => absurd h0 (by omega)) (fun _ => ?_)
      refine px_iload_n dX10_inStore_16 rfl ?_
      refine px_aload_n dX10_inStore_17 rfl ?_
      refine px_iload_n dX10_inStore_18 rfl ?_
      refine px_iconst (v := nI 1) dX10_inStore_19 (by decide) ?_
      refine c_X10_of dX10_inStore_20 mlX10_53 (by omega) (by omega) (by omega) (Nat.le_of_ble_eq_true rfl) ?_
      refine px_iv (y := nI ((pl_g L (i)).2.1)) ((mr_l hM (by omega)).2.1) ?_
      refine px_iload_n dX10_inStore_23 rfl ?_
      refine px_icmp_neN (tgt := 36) dX10_inStore_24 (by decide) (by omega) (by omega) (fun h0 => ?_) (fun h0 => ?_)
      · refine px_iconst (v := nI 0) dX10_inStore_36 (by decide) ?_
        refine px_iaddN dX10_inStore_37 ?_
        refine px_istore_n dX10_inStore_38 (by decide) ?_
        refine px_iincN (c := 1) (by decide) dX10_inStore_39 rfl (by decide) ?_
        refine px_goto (tgt := 4) dX10_inStore_42 (by decide) ?_
        refine px_keep [0, 1, 2, 3] ?_
        unfold pn_sum at K; rw [if_neg h0] at K; exact K
      · refine px_aload_n dX10_inStore_27 rfl ?_
        refine px_iload_n dX10_inStore_28 rfl ?_
        refine px_iconst (v := nI 2) dX10_inStore_29 (by decide) ?_
        refine c_X10_of dX10_inStore_30 mlX10_53 (by omega) (by omega) (by omega) (Nat.le_of_ble_eq_true rfl) ?_
        refine px_iv (y := nI ((pl_g L (i)).2.2.1)) ((mr_l hM (by omega)).2.2.1) ?_
        refine px_goto (tgt := 37) dX10_inStore_33 (by decide) ?_
        refine px_iaddN dX10_inStore_37 ?_
        refine px_istore_n dX10_inStore_38 (by decide) ?_
        refine px_iincN (c := 1) (by decide) dX10_inStore_39 rfl (by decide) ?_
        refine px_goto (tgt := 4) dX10_inStore_42 (by decide) ?_
        refine px_keep [0, 1, 2, 3] ?_
        unfold pn_sum at K; rw [if_pos h0] at K; exact K
  refine px_iconst (v := nI 0) dX10_inStore_0 (by decide) ?_
  refine px_istore_n dX10_inStore_1 (by decide) ?_
  refine px_iconst (v := nI 0) dX10_inStore_2 (by decide) ?_
  refine px_istore_n dX10_inStore_3 (by decide) ?_
  exact key 0 (by omega) 
theorem c_X10_inStore {z : pv_Z} {E : pv_E} {d bc bs : Nat} {J : pv_JT} {I : pv_IT} {mi : pv_MI} {pc idx : Nat} {lv : pv_LV} {st : List Value} {T : pv_T} {L : List pv_Lot} {s : Nat} (hd : decode mi.2.1 pc = .ok (.invokevirtual idx, 3)) (hlk : Cond.methodLink mi.1.cls idx mX10_inStore.1 ∈ pv_W) (hD : 1+1 ≤ d) (hM : MR (I 366) T L) (hs : s < 2147483648) (hcat : (st.map fun v => v.category).sum ≤ 8) (K : pv_X z E d bc bs mi (pc + 3) lv ((.int (nI (ps_in L s))) :: st) pv_K0 pv_P0 (I) (J)) : pv_X z E d bc bs mi pc lv (.int (nI (s)) :: .ref (365) :: st) pv_K0 pv_P0 I J := by
  obtain ⟨d, rfl⟩ : ∃ d0, d = d0 + 1 := ⟨d - 1, by omega⟩
  have key := px_callV (bc := bc) (bs := bs) (bc1 := 0) (bs1 := 0) (as := [.int (nI (s))]) (E := E) (z := z) (lv := lv) hd mvX10_inStore hlk pv_s_model (by decide) rfl pv_k_model rfl rfl hcat (by exact Nat.le_of_ble_eq_true rfl) (s_X10_inStore (by omega) hM hs K)
  rw [Nat.zero_add, Nat.zero_add] at key
  exact key
set_option maxRecDepth 100000 in
set_option maxHeartbeats 4000000 in
theorem s_X10_inLots {Q : pv_Q} {E : pv_E} {d bc bs : Nat} {J : pv_JT} {I : pv_IT} {T : pv_T} {L : List pv_Lot} {s : Nat} (hD : 1 ≤ d) (hM : MR (I 366) T L) (hs : s < 2147483648) (h : Q (.inl (some (.int (nI (ps_of L s))))) pv_K0 pv_P0 (I) (J)) : pv_X (pv_ZQ E Q) E d bc bs mX10_inLots 0 [(0, .ref (365)), (1, .int (nI (s)))] [] pv_K0 pv_P0 I J := by
  have h31 := hM.2.2.1.1
  have key : ∀ i : Nat, i ≤ L.length → pv_X (pv_ZQ E Q) E d bc bs mX10_inLots 4 [(0, .ref 365), (1, .int (nI s)), (2, .int (nI (pn_sum (fun l => if (pl_g L l).1 = s then (pl_g L l).2.2.1 else 0) (i)))), (3, .int (nI (i)))] [] pv_K0 pv_P0 (I) (J) := by
    refine pv_up (L.length) ?_ ?_
    · refine px_iload_n dX10_inLots_4 rfl ?_
      refine px_aload_n dX10_inLots_5 rfl ?_
      refine px_getR dX10_inLots_6 flX10_7 pv_s_model (by decide) (by decide) rfl pv_k_model pv_p_365_1 ?_
      refine px_sipush (v := nI 406) dX10_inLots_9 (by decide) ?_
      refine px_iald (j := 406) dX10_inLots_12 pv_a_z.1 rfl (by omega) pv_a_z.2.2 pv_a_z.2.1 ?_
      refine px_iv (y := nI (L.length)) (hM.2.1) ?_
      refine px_icmp_geN (tgt := 45) dX10_inLots_13 (by decide) (by omega) (by omega) (fun _ => ?_) (fun h0 => absurd h0 (by omega))
      refine px_iload_n dX10_inLots_45 rfl ?_
      exact px_iret dX10_inLots_46 rfl (Or.inl rfl) (h)
    · intro i hi K 
      have hb := hM.2.2.1.2 i hi
      unfold lb at hb
      refine px_iload_n dX10_inLots_4 rfl ?_
      refine px_aload_n dX10_inLots_5 rfl ?_
      refine px_getR dX10_inLots_6 flX10_7 pv_s_model (by decide) (by decide) rfl pv_k_model pv_p_365_1 ?_
      refine px_sipush (v := nI 406) dX10_inLots_9 (by decide) ?_
      refine px_iald (j := 406) dX10_inLots_12 pv_a_z.1 rfl (by omega) pv_a_z.2.2 pv_a_z.2.1 ?_
      refine px_iv (y := nI (L.length)) (hM.2.1) ?_
      refine px_icmp_geN (tgt := 45) dX10_inLots_13 (by decide) (by omega) (by omega) (fun h0 => absurd h0 (by omega)) (fun _ => ?_)
      refine px_iload_n dX10_inLots_16 rfl ?_
      refine px_aload_n dX10_inLots_17 rfl ?_
      refine px_iload_n dX10_inLots_18 rfl ?_
      refine px_iconst (v := nI 0) dX10_inLots_19 (by decide) ?_
      refine c_X10_of dX10_inLots_20 mlX10_53 (by omega) (by omega) (by omega) (Nat.le_of_ble_eq_true rfl) ?_
      refine px_iv (y := nI ((pl_g L (i)).1)) ((mr_l hM (by omega)).1) ?_
      refine px_iload_n dX10_inLots_23 rfl ?_
      refine px_icmp_neN (tgt := 36) dX10_inLots_24 (by decide) (by omega) (by omega) (fun h0 => ?_) (fun h0 => ?_)
      · refine px_iconst (v := nI 0) dX10_inLots_36 (by decide) ?_
        refine px_iaddN dX10_inLots_37 ?_
        refine px_istore_n dX10_inLots_38 (by decide) ?_
        refine px_iincN (c := 1) (by decide) dX10_inLots_39 rfl (by decide) ?_
        refine px_goto (tgt := 4) dX10_inLots_42 (by decide) ?_
        refine px_keep [0, 1, 2, 3] ?_
        unfold pn_sum at K; rw [if_neg h0] at K; exact K
      · refine px_aload_n dX10_inLots_27 rfl ?_
        refine px_iload_n dX10_inLots_28 rfl ?_
        refine px_iconst (v := nI 2) dX10_inLots_29 (by decide) ?_
        refine c_X10_of dX10_inLots_30 mlX10_53 (by omega) (by omega) (by omega) (Nat.le_of_ble_eq_true rfl) ?_
        refine px_iv (y := nI ((pl_g L (i)).2.2.1)) ((mr_l hM (by omega)).2.2.1) ?_
        refine px_goto (tgt := 37) dX10_inLots_33 (by decide) ?_
        refine px_iaddN dX10_inLots_37 ?_
        refine px_istore_n dX10_inLots_38 (by decide) ?_
        refine px_iincN (c := 1) (by decide) dX10_inLots_39 rfl (by decide) ?_
        refine px_goto (tgt := 4) dX10_inLots_42 (by decide) ?_
        refine px_keep [0, 1, 2, 3] ?_
        unfold pn_sum at K; rw [if_pos h0] at K; exact K
  refine px_iconst (v := nI 0) dX10_inLots_0 (by decide) ?_
  refine px_istore_n dX10_inLots_1 (by decide) ?_
  refine px_iconst (v := nI 0) dX10_inLots_2 (by decide) ?_
  refine px_istore_n dX10_inLots_3 (by decide) ?_
  exact key 0 (by omega) 
theorem c_X10_inLots {z : pv_Z} {E : pv_E} {d bc bs : Nat} {J : pv_JT} {I : pv_IT} {mi : pv_MI} {pc idx : Nat} {lv : pv_LV} {st : List Value} {T : pv_T} {L : List pv_Lot} {s : Nat} (hd : decode mi.2.1 pc = .ok (.invokevirtual idx, 3)) (hlk : Cond.methodLink mi.1.cls idx mX10_inLots.1 ∈ pv_W) (hD : 1+1 ≤ d) (hM : MR (I 366) T L) (hs : s < 2147483648) (hcat : (st.map fun v => v.category).sum ≤ 8) (K : pv_X z E d bc bs mi (pc + 3) lv ((.int (nI (ps_of L s))) :: st) pv_K0 pv_P0 (I) (J)) : pv_X z E d bc bs mi pc lv (.int (nI (s)) :: .ref (365) :: st) pv_K0 pv_P0 I J := by
  obtain ⟨d, rfl⟩ : ∃ d0, d = d0 + 1 := ⟨d - 1, by omega⟩
  have key := px_callV (bc := bc) (bs := bs) (bc1 := 0) (bs1 := 0) (as := [.int (nI (s))]) (E := E) (z := z) (lv := lv) hd mvX10_inLots hlk pv_s_model (by decide) rfl pv_k_model rfl rfl hcat (by exact Nat.le_of_ble_eq_true rfl) (s_X10_inLots (by omega) hM hs K)
  rw [Nat.zero_add, Nat.zero_add] at key
  exact key
set_option maxRecDepth 100000 in
set_option maxHeartbeats 4000000 in
theorem s_M_lotsWithS {Q : pv_Q} {E : pv_E} {d bc bs : Nat} {J : pv_JT} {I : pv_IT} {T : pv_T} {L : List pv_Lot} {s : Nat} (hD : 1 ≤ d) (hM : MR (I 366) T L) (hs : s < 2147483648) (h : Q (.inl (some (.int (nI (ps_nin L s))))) pv_K0 pv_P0 (I) (J)) : pv_X (pv_ZQ E Q) E d bc bs mX10_lotsWith 0 [(0, .ref (365)), (1, .int (nI (1))), (2, .int (nI (s)))] [] pv_K0 pv_P0 I J := by
  have h31 := hM.2.2.1.1
  have key : ∀ i : Nat, i ≤ L.length → pv_X (pv_ZQ E Q) E d bc bs mX10_lotsWith 5 [(0, .ref 365), (1, .int (nI 1)), (2, .int (nI s)), (3, .int (nI (pn_sum (fun l => if (pl_g L l).2.1 = s then 1 else 0) (i)))), (4, .int (nI (i)))] [] pv_K0 pv_P0 (I) (J) := by
    refine pv_up (L.length) ?_ ?_
    · refine px_iload dX10_lotsWith_5 rfl ?_
      refine px_aload_n dX10_lotsWith_7 rfl ?_
      refine px_getR dX10_lotsWith_8 flX10_7 pv_s_model (by decide) (by decide) rfl pv_k_model pv_p_365_1 ?_
      refine px_sipush (v := nI 406) dX10_lotsWith_11 (by decide) ?_
      refine px_iald (j := 406) dX10_lotsWith_14 pv_a_z.1 rfl (by omega) pv_a_z.2.2 pv_a_z.2.1 ?_
      refine px_iv (y := nI (L.length)) (hM.2.1) ?_
      refine px_icmp_geN (tgt := 43) dX10_lotsWith_15 (by decide) (by omega) (by omega) (fun _ => ?_) (fun h0 => absurd h0 (by omega))
      refine px_iload_n dX10_lotsWith_43 rfl ?_
      exact px_iret dX10_lotsWith_44 rfl (Or.inl rfl) (h)
    · intro i hi K 
      have hb := hM.2.2.1.2 i hi
      unfold lb at hb
      refine px_iload dX10_lotsWith_5 rfl ?_
      refine px_aload_n dX10_lotsWith_7 rfl ?_
      refine px_getR dX10_lotsWith_8 flX10_7 pv_s_model (by decide) (by decide) rfl pv_k_model pv_p_365_1 ?_
      refine px_sipush (v := nI 406) dX10_lotsWith_11 (by decide) ?_
      refine px_iald (j := 406) dX10_lotsWith_14 pv_a_z.1 rfl (by omega) pv_a_z.2.2 pv_a_z.2.1 ?_
      refine px_iv (y := nI (L.length)) (hM.2.1) ?_
      refine px_icmp_geN (tgt := 43) dX10_lotsWith_15 (by decide) (by omega) (by omega) (fun h0 => absurd h0 (by omega)) (fun _ => ?_)
      refine px_iload_n dX10_lotsWith_18 rfl ?_
      refine px_aload_n dX10_lotsWith_19 rfl ?_
      refine px_iload dX10_lotsWith_20 rfl ?_
      refine px_iload_n dX10_lotsWith_22 rfl ?_
      refine c_X10_of dX10_lotsWith_23 mlX10_53 (by omega) (by omega) (by omega) (Nat.le_of_ble_eq_true rfl) ?_
      refine px_iv (y := nI ((pl_g L (i)).2.1)) ((mr_l hM (by omega)).2.1) ?_
      refine px_iload_n dX10_lotsWith_26 rfl ?_
      refine px_icmp_neN (tgt := 34) dX10_lotsWith_27 (by decide) (by omega) (by omega) (fun h0 => ?_) (fun h0 => ?_)
      · refine px_iconst (v := nI 0) dX10_lotsWith_34 (by decide) ?_
        refine px_iaddN dX10_lotsWith_35 ?_
        refine px_istore_n dX10_lotsWith_36 (by decide) ?_
        refine px_iincN (c := 1) (by decide) dX10_lotsWith_37 rfl (by decide) ?_
        refine px_goto (tgt := 5) dX10_lotsWith_40 (by decide) ?_
        refine px_keep [0, 1, 2, 3, 4] ?_
        unfold pn_sum at K; rw [if_neg h0] at K; exact K
      · refine px_iconst (v := nI 1) dX10_lotsWith_30 (by decide) ?_
        refine px_goto (tgt := 35) dX10_lotsWith_31 (by decide) ?_
        refine px_iaddN dX10_lotsWith_35 ?_
        refine px_istore_n dX10_lotsWith_36 (by decide) ?_
        refine px_iincN (c := 1) (by decide) dX10_lotsWith_37 rfl (by decide) ?_
        refine px_goto (tgt := 5) dX10_lotsWith_40 (by decide) ?_
        refine px_keep [0, 1, 2, 3, 4] ?_
        unfold pn_sum at K; rw [if_pos h0] at K; exact K
  refine px_iconst (v := nI 0) dX10_lotsWith_0 (by decide) ?_
  refine px_istore_n dX10_lotsWith_1 (by decide) ?_
  refine px_iconst (v := nI 0) dX10_lotsWith_2 (by decide) ?_
  refine px_istore dX10_lotsWith_3 (by decide) ?_
  exact key 0 (by omega) 
theorem c_M_lotsWithS {z : pv_Z} {E : pv_E} {d bc bs : Nat} {J : pv_JT} {I : pv_IT} {mi : pv_MI} {pc idx : Nat} {lv : pv_LV} {st : List Value} {T : pv_T} {L : List pv_Lot} {s : Nat} (hd : decode mi.2.1 pc = .ok (.invokevirtual idx, 3)) (hlk : Cond.methodLink mi.1.cls idx mX10_lotsWith.1 ∈ pv_W) (hD : 1+1 ≤ d) (hM : MR (I 366) T L) (hs : s < 2147483648) (hcat : (st.map fun v => v.category).sum ≤ 8) (K : pv_X z E d bc bs mi (pc + 3) lv ((.int (nI (ps_nin L s))) :: st) pv_K0 pv_P0 (I) (J)) : pv_X z E d bc bs mi pc lv (.int (nI (s)) :: .int (nI (1)) :: .ref (365) :: st) pv_K0 pv_P0 I J := by
  obtain ⟨d, rfl⟩ : ∃ d0, d = d0 + 1 := ⟨d - 1, by omega⟩
  have key := px_callV (bc := bc) (bs := bs) (bc1 := 0) (bs1 := 0) (as := [.int (nI (1)), .int (nI (s))]) (E := E) (z := z) (lv := lv) hd mvX10_lotsWith hlk pv_s_model (by decide) rfl pv_k_model rfl rfl hcat (by exact Nat.le_of_ble_eq_true rfl) (s_M_lotsWithS (by omega) hM hs K)
  rw [Nat.zero_add, Nat.zero_add] at key
  exact key
set_option maxRecDepth 100000 in
set_option maxHeartbeats 4000000 in
theorem s_M_lotsWithK {Q : pv_Q} {E : pv_E} {d bc bs : Nat} {J : pv_JT} {I : pv_IT} {T : pv_T} {L : List pv_Lot} {s : Nat} (hD : 1 ≤ d) (hM : MR (I 366) T L) (hs : s < 2147483648) (h : Q (.inl (some (.int (nI (ps_nof L s))))) pv_K0 pv_P0 (I) (J)) : pv_X (pv_ZQ E Q) E d bc bs mX10_lotsWith 0 [(0, .ref (365)), (1, .int (nI (0))), (2, .int (nI (s)))] [] pv_K0 pv_P0 I J := by
  have h31 := hM.2.2.1.1
  have key : ∀ i : Nat, i ≤ L.length → pv_X (pv_ZQ E Q) E d bc bs mX10_lotsWith 5 [(0, .ref 365), (1, .int (nI 0)), (2, .int (nI s)), (3, .int (nI (pn_sum (fun l => if (pl_g L l).1 = s then 1 else 0) (i)))), (4, .int (nI (i)))] [] pv_K0 pv_P0 (I) (J) := by
    refine pv_up (L.length) ?_ ?_
    · refine px_iload dX10_lotsWith_5 rfl ?_
      refine px_aload_n dX10_lotsWith_7 rfl ?_
      refine px_getR dX10_lotsWith_8 flX10_7 pv_s_model (by decide) (by decide) rfl pv_k_model pv_p_365_1 ?_
      refine px_sipush (v := nI 406) dX10_lotsWith_11 (by decide) ?_
      refine px_iald (j := 406) dX10_lotsWith_14 pv_a_z.1 rfl (by omega) pv_a_z.2.2 pv_a_z.2.1 ?_
      refine px_iv (y := nI (L.length)) (hM.2.1) ?_
      refine px_icmp_geN (tgt := 43) dX10_lotsWith_15 (by decide) (by omega) (by omega) (fun _ => ?_) (fun h0 => absurd h0 (by omega))
      refine px_iload_n dX10_lotsWith_43 rfl ?_
      exact px_iret dX10_lotsWith_44 rfl (Or.inl rfl) (h)
    · intro i hi K 
      have hb := hM.2.2.1.2 i hi
      unfold lb at hb
      refine px_iload dX10_lotsWith_5 rfl ?_
      refine px_aload_n dX10_lotsWith_7 rfl ?_
      refine px_getR dX10_lotsWith_8 flX10_7 pv_s_model (by decide) (by decide) rfl pv_k_model pv_p_365_1 ?_
      refine px_sipush (v := nI 406) dX10_lotsWith_11 (by decide) ?_
      refine px_iald (j := 406) dX10_lotsWith_14 pv_a_z.1 rfl (by omega) pv_a_z.2.2 pv_a_z.2.1 ?_
      refine px_iv (y := nI (L.length)) (hM.2.1) ?_
      refine px_icmp_geN (tgt := 43) dX10_lotsWith_15 (by decide) (by omega) (by omega) (fun h0 => absurd h0 (by omega)) (fun _ => ?_)
      refine px_iload_n dX10_lotsWith_18 rfl ?_
      refine px_aload_n dX10_lotsWith_19 rfl ?_
      refine px_iload dX10_lotsWith_20 rfl ?_
      refine px_iload_n dX10_lotsWith_22 rfl ?_
      refine c_X10_of dX10_lotsWith_23 mlX10_53 (by omega) (by omega) (by omega) (Nat.le_of_ble_eq_true rfl) ?_
      refine px_iv (y := nI ((pl_g L (i)).1)) ((mr_l hM (by omega)).1) ?_
      refine px_iload_n dX10_lotsWith_26 rfl ?_
      refine px_icmp_neN (tgt := 34) dX10_lotsWith_27 (by decide) (by omega) (by omega) (fun h0 => ?_) (fun h0 => ?_)
      · refine px_iconst (v := nI 0) dX10_lotsWith_34 (by decide) ?_
        refine px_iaddN dX10_lotsWith_35 ?_
        refine px_istore_n dX10_lotsWith_36 (by decide) ?_
        refine px_iincN (c := 1) (by decide) dX10_lotsWith_37 rfl (by decide) ?_
        refine px_goto (tgt := 5) dX10_lotsWith_40 (by decide) ?_
        refine px_keep [0, 1, 2, 3, 4] ?_
        unfold pn_sum at K; rw [if_neg h0] at K; exact K
      · refine px_iconst (v := nI 1) dX10_lotsWith_30 (by decide) ?_
        refine px_goto (tgt := 35) dX10_lotsWith_31 (by decide) ?_
        refine px_iaddN dX10_lotsWith_35 ?_
        refine px_istore_n dX10_lotsWith_36 (by decide) ?_
        refine px_iincN (c := 1) (by decide) dX10_lotsWith_37 rfl (by decide) ?_
        refine px_goto (tgt := 5) dX10_lotsWith_40 (by decide) ?_
        refine px_keep [0, 1, 2, 3, 4] ?_
        unfold pn_sum at K; rw [if_pos h0] at K; exact K
  refine px_iconst (v := nI 0) dX10_lotsWith_0 (by decide) ?_
  refine px_istore_n dX10_lotsWith_1 (by decide) ?_
  refine px_iconst (v := nI 0) dX10_lotsWith_2 (by decide) ?_
  refine px_istore dX10_lotsWith_3 (by decide) ?_
  exact key 0 (by omega) 
theorem c_M_lotsWithK {z : pv_Z} {E : pv_E} {d bc bs : Nat} {J : pv_JT} {I : pv_IT} {mi : pv_MI} {pc idx : Nat} {lv : pv_LV} {st : List Value} {T : pv_T} {L : List pv_Lot} {s : Nat} (hd : decode mi.2.1 pc = .ok (.invokevirtual idx, 3)) (hlk : Cond.methodLink mi.1.cls idx mX10_lotsWith.1 ∈ pv_W) (hD : 1+1 ≤ d) (hM : MR (I 366) T L) (hs : s < 2147483648) (hcat : (st.map fun v => v.category).sum ≤ 8) (K : pv_X z E d bc bs mi (pc + 3) lv ((.int (nI (ps_nof L s))) :: st) pv_K0 pv_P0 (I) (J)) : pv_X z E d bc bs mi pc lv (.int (nI (s)) :: .int (nI (0)) :: .ref (365) :: st) pv_K0 pv_P0 I J := by
  obtain ⟨d, rfl⟩ : ∃ d0, d = d0 + 1 := ⟨d - 1, by omega⟩
  have key := px_callV (bc := bc) (bs := bs) (bc1 := 0) (bs1 := 0) (as := [.int (nI (0)), .int (nI (s))]) (E := E) (z := z) (lv := lv) hd mvX10_lotsWith hlk pv_s_model (by decide) rfl pv_k_model rfl rfl hcat (by exact Nat.le_of_ble_eq_true rfl) (s_M_lotsWithK (by omega) hM hs K)
  rw [Nat.zero_add, Nat.zero_add] at key
  exact key
set_option maxRecDepth 100000 in
set_option maxHeartbeats 4000000 in
theorem s_X10_portOf {Q : pv_Q} {E : pv_E} {d bc bs : Nat} {J : pv_JT} {I : pv_IT} {T : pv_T} {L : List pv_Lot} {d0 : Nat} (hD : 0 ≤ d) (hM : MR (I 366) T L) (hw : pw T) (hd0 : d0 < 2147483648) (h : Q (.inl (some (.int (oI (pt_on T d0))))) pv_K0 pv_P0 (I) (J)) : pv_X (pv_ZQ E Q) E d bc bs mX10_portOf 0 [(0, .ref (365)), (1, .int (nI (d0)))] [] pv_K0 pv_P0 I J := by
  have hn := hw.1
  have key : ∀ i : Nat, i ≤ T 407 → pv_X (pv_ZQ E Q) E d bc bs mX10_portOf 4 [(0, .ref 365), (1, .int (nI d0)), (2, .int (oI (pf_first (fun p => Nat.beq (T (324 + 10 * p)) d0) (i)))), (3, .int (nI (i)))] [] pv_K0 pv_P0 (I) (J) := by
    refine pv_up (T 407) ?_ ?_
    · refine px_iload_n dX10_portOf_4 rfl ?_
      refine px_aload_n dX10_portOf_5 rfl ?_
      refine px_getR dX10_portOf_6 flX10_7 pv_s_model (by decide) (by decide) rfl pv_k_model pv_p_365_1 ?_
      refine px_sipush (v := nI 407) dX10_portOf_9 (by decide) ?_
      refine px_iald (j := 407) dX10_portOf_12 pv_a_z.1 rfl (by omega) pv_a_z.2.2 pv_a_z.2.1 ?_
      refine px_iv (y := nI (T (407))) (hM.1 (407) (by omega) (by omega) (by omega)) ?_
      refine px_icmp_geN (tgt := 45) dX10_portOf_13 (by decide) (by omega) (by omega) (fun _ => ?_) (fun h0 => absurd h0 (by omega))
      refine px_iload_n dX10_portOf_45 rfl ?_
      exact px_iret dX10_portOf_46 rfl (Or.inl rfl) (h)
    · intro i hi K 
      have hb := (hw.2.1 i hi).1
      refine px_iload_n dX10_portOf_4 rfl ?_
      refine px_aload_n dX10_portOf_5 rfl ?_
      refine px_getR dX10_portOf_6 flX10_7 pv_s_model (by decide) (by decide) rfl pv_k_model pv_p_365_1 ?_
      refine px_sipush (v := nI 407) dX10_portOf_9 (by decide) ?_
      refine px_iald (j := 407) dX10_portOf_12 pv_a_z.1 rfl (by omega) pv_a_z.2.2 pv_a_z.2.1 ?_
      refine px_iv (y := nI (T (407))) (hM.1 (407) (by omega) (by omega) (by omega)) ?_
      refine px_icmp_geN (tgt := 45) dX10_portOf_13 (by decide) (by omega) (by omega) (fun h0 => absurd h0 (by omega)) (fun _ => ?_)
      refine px_aload_n dX10_portOf_16 rfl ?_
      refine px_getR dX10_portOf_17 flX10_7 pv_s_model (by decide) (by decide) rfl pv_k_model pv_p_365_1 ?_
      refine px_sipush (v := nI 324) dX10_portOf_20 (by decide) ?_
      refine px_bipush (v := nI 10) dX10_portOf_23 (by decide) ?_
      refine px_iload_n dX10_portOf_25 rfl ?_
      refine px_imulN dX10_portOf_26 ?_
      refine px_iaddN dX10_portOf_27 ?_
      refine px_iald (j := (324 + (10 * i))) dX10_portOf_28 pv_a_z.1 rfl (by omega) pv_a_z.2.2 pv_a_z.2.1 ?_
      refine px_iv (y := nI (T (324 + 10 * i))) ((hM.1 ((324 + (10 * i))) (by omega) (by omega) (by omega)).trans (congrArg nI (congrArg T (by omega)))) ?_
      refine px_iload_n dX10_portOf_29 rfl ?_
      refine px_icmp_neN (tgt := 37) dX10_portOf_30 (by decide) (by omega) (by omega) (fun h0 => ?_) (fun h0 => ?_)
      · refine px_iload_n dX10_portOf_37 rfl ?_
        refine px_istore_n dX10_portOf_38 (by decide) ?_
        refine px_iincN (c := 1) (by decide) dX10_portOf_39 rfl (by decide) ?_
        refine px_goto (tgt := 4) dX10_portOf_42 (by decide) ?_
        refine px_keep [0, 1, 2, 3] ?_
        have e : pf_first (fun p => Nat.beq (T (324 + 10 * p)) d0) (i + 1) = pf_first (fun p => Nat.beq (T (324 + 10 * p)) d0) i := by
          rw [pf_first]
          cases e2 : pf_first (fun p => Nat.beq (T (324 + 10 * p)) d0) i with
          | some j => rfl
          | none => show (bif Nat.beq (T (324 + 10 * i)) d0 then some i else none) = none; rw [pb_f h0]; rfl
        rw [e] at K
        exact K
      · refine px_iload_n dX10_portOf_33 rfl ?_
        refine px_goto (tgt := 38) dX10_portOf_34 (by decide) ?_
        refine px_istore_n dX10_portOf_38 (by decide) ?_
        refine px_iincN (c := 1) (by decide) dX10_portOf_39 rfl (by decide) ?_
        refine px_goto (tgt := 4) dX10_portOf_42 (by decide) ?_
        refine px_keep [0, 1, 2, 3] ?_
        have e : pf_first (fun p => Nat.beq (T (324 + 10 * p)) d0) (i + 1) = some i := by
          rw [pf_first]
          cases e2 : pf_first (fun p => Nat.beq (T (324 + 10 * p)) d0) i with
          | some j =>
            have hj := pf_is e2
            have h1 := hw.2.2 j i hj.1 hi
            have h2 : T (324 + 10 * j) = d0 := Nat.eq_of_beq_eq_true hj.2.1
            omega
          | none => show (bif Nat.beq (T (324 + 10 * i)) d0 then some i else none) = some i; rw [pb_t h0]; rfl
        rw [e] at K
        exact K
  refine px_iconst (v := -1) dX10_portOf_0 (by decide) ?_
  refine px_istore_n dX10_portOf_1 (by decide) ?_
  refine px_iconst (v := nI 0) dX10_portOf_2 (by decide) ?_
  refine px_istore_n dX10_portOf_3 (by decide) ?_
  exact key 0 (by omega) 
theorem c_X10_portOf {z : pv_Z} {E : pv_E} {d bc bs : Nat} {J : pv_JT} {I : pv_IT} {mi : pv_MI} {pc idx : Nat} {lv : pv_LV} {st : List Value} {T : pv_T} {L : List pv_Lot} {d0 : Nat} (hd : decode mi.2.1 pc = .ok (.invokevirtual idx, 3)) (hlk : Cond.methodLink mi.1.cls idx mX10_portOf.1 ∈ pv_W) (hD : 0+1 ≤ d) (hM : MR (I 366) T L) (hw : pw T) (hd0 : d0 < 2147483648) (hcat : (st.map fun v => v.category).sum ≤ 8) (K : pv_X z E d bc bs mi (pc + 3) lv ((.int (oI (pt_on T d0))) :: st) pv_K0 pv_P0 (I) (J)) : pv_X z E d bc bs mi pc lv (.int (nI (d0)) :: .ref (365) :: st) pv_K0 pv_P0 I J := by
  obtain ⟨d, rfl⟩ : ∃ d0, d = d0 + 1 := ⟨d - 1, by omega⟩
  have key := px_callV (bc := bc) (bs := bs) (bc1 := 0) (bs1 := 0) (as := [.int (nI (d0))]) (E := E) (z := z) (lv := lv) hd mvX10_portOf hlk pv_s_model (by decide) rfl pv_k_model rfl rfl hcat (by exact Nat.le_of_ble_eq_true rfl) (s_X10_portOf (by omega) hM hw hd0 K)
  rw [Nat.zero_add, Nat.zero_add] at key
  exact key
