/-! The class: what is asked ahead. -/
theorem pvt_IAw : Cond.classLink RX9 117 pv_xIA ∈ pv_W ∧ Cond.initialized pv_xIA ∈ pv_W ∧ (∀ w ∈ vx_atS RX9 121 pv_xIA ["java/lang/RuntimeException", "java/lang/Exception"], w ∈ pv_W ∨ w = .castable pv_xIA pv_xIA ∨ ∃ y ∈ pv_decl, w = .declares y) := by
  have key : ∀ w ∈ vx_atS RX9 121 pv_xIA ["java/lang/RuntimeException", "java/lang/Exception"], (w ∈ lw_tbl ∧ goodWord w = true) ∨ w = .castable pv_xIA pv_xIA ∨ ∃ y ∈ pv_decl, w = .declares y := by decide +kernel
  exact ⟨pv_in (by decide +kernel) (by decide +kernel), pv_in (by decide +kernel) (by decide +kernel), fun w hw => (key w hw).imp (fun h => pv_in h.1 h.2) id⟩
theorem pvt_IA {is : Nat} {text : String} (h : (is, text) ∈ pv_strs) : pv_thr RX9 117 is 121 pv_xIA text := ⟨rfl, h, by decide, by decide +kernel, pvt_IAw⟩
theorem pvt_IOw : Cond.classLink RX9 101 pv_xIO ∈ pv_W ∧ Cond.initialized pv_xIO ∈ pv_W ∧ (∀ w ∈ vx_atS RX9 105 pv_xIO ["java/lang/RuntimeException", "java/lang/Exception"], w ∈ pv_W ∨ w = .castable pv_xIO pv_xIO ∨ ∃ y ∈ pv_decl, w = .declares y) := by
  have key : ∀ w ∈ vx_atS RX9 105 pv_xIO ["java/lang/RuntimeException", "java/lang/Exception"], (w ∈ lw_tbl ∧ goodWord w = true) ∨ w = .castable pv_xIO pv_xIO ∨ ∃ y ∈ pv_decl, w = .declares y := by decide +kernel
  exact ⟨pv_in (by decide +kernel) (by decide +kernel), pv_in (by decide +kernel) (by decide +kernel), fun w hw => (key w hw).imp (fun h => pv_in h.1 h.2) id⟩
theorem pvt_IO {is : Nat} {text : String} (h : (is, text) ∈ pv_strs) : pv_thr RX9 101 is 105 pv_xIO text := ⟨rfl, h, by decide, by decide +kernel, pvt_IOw⟩
theorem pvt_ISw : Cond.classLink RX9 47 pv_xIS ∈ pv_W ∧ Cond.initialized pv_xIS ∈ pv_W ∧ (∀ w ∈ vx_atS RX9 51 pv_xIS ["java/lang/RuntimeException", "java/lang/Exception"], w ∈ pv_W ∨ w = .castable pv_xIS pv_xIS ∨ ∃ y ∈ pv_decl, w = .declares y) := by
  have key : ∀ w ∈ vx_atS RX9 51 pv_xIS ["java/lang/RuntimeException", "java/lang/Exception"], (w ∈ lw_tbl ∧ goodWord w = true) ∨ w = .castable pv_xIS pv_xIS ∨ ∃ y ∈ pv_decl, w = .declares y := by decide +kernel
  exact ⟨pv_in (by decide +kernel) (by decide +kernel), pv_in (by decide +kernel) (by decide +kernel), fun w hw => (key w hw).imp (fun h => pv_in h.1 h.2) id⟩
theorem pvt_IS {is : Nat} {text : String} (h : (is, text) ∈ pv_strs) : pv_thr RX9 47 is 51 pv_xIS text := ⟨rfl, h, by decide, by decide +kernel, pvt_ISw⟩
abbrev pu_in (x : Int32) (a b : Nat) : Prop := nI a ≤ x ∧ x ≤ nI b
abbrev pu_has (x : Int32) (n : Nat) : Prop := nI 0 ≤ x ∧ x < nI n
theorem pu_in_nI {x : Int32} {a b : Nat} (h : pu_in x a b) (hb : b < 2147483648) (hab : a ≤ b) : ∃ j : Nat, a ≤ j ∧ j ≤ b ∧ x = nI j ∧ x.toNatClampNeg = j := by
  obtain ⟨j, h1, h2, h3⟩ := pn_of h.1 h.2 hb hab
  exact ⟨j, h1, h2, h3, by rw [h3]; exact nI_clamp (by omega)⟩
theorem pu_has_nI {x : Int32} {n : Nat} (h : pu_has x n) (hn : n < 2147483648) : ∃ j : Nat, j < n ∧ x = nI j ∧ x.toNatClampNeg = j := by
  rcases pk_ix x (n := n) hn with h1 | h1 | ⟨j, h1, h2⟩
  · exact absurd h.1 (Int32.not_le.mpr h1)
  · exact absurd h.2 (Int32.not_lt.mpr h1)
  · exact ⟨j, h1, h2, by rw [h2]; exact nI_clamp (by omega)⟩
theorem pu_has_le {x : Int32} {n : Nat} (hn : n < 1073741824) : (nI 0 ≤ x ∧ x ≤ nI n - nI 1) ↔ pu_has x n := by
  have e : (nI n - nI 1).toInt = (n : Int) - 1 := pk_sub_toInt (b := 1) (by omega) (by omega)
  unfold pu_has
  rw [Int32.le_iff_toInt_le (y := nI n - nI 1), e, Int32.lt_iff_toInt_lt (y := nI n), nI_toInt (by omega)]
  exact ⟨fun h => ⟨h.1, by have := h.2; omega⟩, fun h => ⟨h.1, by have := h.2; omega⟩⟩
theorem pu_has_in {x : Int32} {n : Nat} (hn : n < 2147483647) : pu_in x 0 n ↔ pu_has x (n + 1) := by
  unfold pu_has pu_in
  rw [Int32.le_iff_toInt_le (y := nI n), nI_toInt (by omega), Int32.lt_iff_toInt_lt (y := nI (n + 1)), nI_toInt (by omega)]
  exact ⟨fun h => ⟨h.1, by have := h.2; omega⟩, fun h => ⟨h.1, by have := h.2; omega⟩⟩
/-- the state: the ship now, the saved ones, the buffer -/
abbrev pv_XS : Type := pv_S × List pv_S × List Nat
def TXc (I : pv_IT) (B : List Nat) : Prop := I 355 0 = nI B.length ∧ B.length ≤ 60 ∧ ∀ j, j < B.length → I 357 j = nI (B.getD j 0)
def CA (I : pv_IT) (X : pv_XS) : Prop := CR I 1 X.1.1 X.1.2 ∧ HR I X.2.1 ∧ TXc I X.2.2
theorem TXc_of {I I' : pv_IT} {B : List Nat} (h : TXc I B) (h1 : I' 355 0 = I 355 0) (h2 : I' 357 = I 357) : TXc I' B := ⟨h1.trans h.1, h.2.1, fun j hj => by rw [h2]; exact h.2.2 j hj⟩
/-- an answer of a call: 0 and the number, or the place of the exception in its throws clause -/
abbrev pv_RS : Type := Nat × Int32 × pv_XS
def po_res (xs : List String) (r : pv_RS) : pv_Res := if r.1 = 0 then .inl (some (.int r.2.1)) else .inr (xs.getD (r.1 - 1) "")
def po_ok (Q : pv_Q) (I : pv_IT) (J : pv_JT) (xs : List String) (r : pv_RS) : Prop :=
  ∀ I' : pv_IT, CA I' r.2.2 → (∀ k, 365 ≤ k → I' k = I k) → Q (po_res xs r) pv_K0 pv_P0 I' J
set_option maxRecDepth 100000 in
set_option maxHeartbeats 4000000 in
theorem s_X9_isWithin {Q : pv_Q} {E : pv_E} {d bc bs : Nat} {J : pv_JT} {I : pv_IT} {x a b : Int32} (hD : 0 ≤ d)  (h : Q (.inl (some (.int (nI (pv_bl (a ≤ x ∧ x ≤ b)))))) pv_K0 pv_P0 (I) (J)) : pv_X (pv_ZQ E Q) E d bc bs mX9_isWithin 0 [(0, .int (x)), (1, .int (a)), (2, .int (b))] [] pv_K0 pv_P0 I J := by
  refine px_iload_n dX9_isWithin_0 rfl ?_
  refine px_iload_n dX9_isWithin_1 rfl ?_
  refine px_icmp_lt (tgt := 14) dX9_isWithin_2 (by decide) (fun h0 => ?_) (fun h0 => ?_)
  · refine px_iconst (v := nI 0) dX9_isWithin_14 (by decide) ?_
    exact px_zret dX9_isWithin_15 rfl rfl (Or.inl rfl) (by rw [pv_bl0 (fun z => absurd z.1 (Int32.not_le.mpr h0))] at h; exact h)
  · refine px_iload_n dX9_isWithin_5 rfl ?_
    refine px_iload_n dX9_isWithin_6 rfl ?_
    refine px_icmp_gt (tgt := 14) dX9_isWithin_7 (by decide) (fun h1 => ?_) (fun h1 => ?_)
    · refine px_iconst (v := nI 0) dX9_isWithin_14 (by decide) ?_
      exact px_zret dX9_isWithin_15 rfl rfl (Or.inl rfl) (by rw [pv_bl0 (fun z => absurd z.2 (Int32.not_le.mpr h1))] at h; exact h)
    · refine px_iconst (v := nI 1) dX9_isWithin_10 (by decide) ?_
      refine px_goto (tgt := 15) dX9_isWithin_11 (by decide) ?_
      exact px_zret dX9_isWithin_15 rfl rfl (Or.inl rfl) (by rw [pv_bl1 ⟨Int32.not_lt.mp h0, Int32.not_lt.mp h1⟩] at h; exact h)
theorem c_X9_isWithin {z : pv_Z} {E : pv_E} {d bc bs : Nat} {J : pv_JT} {I : pv_IT} {mi : pv_MI} {pc idx : Nat} {lv : pv_LV} {st : List Value} {x a b : Int32} (hd : decode mi.2.1 pc = .ok (.invokestatic idx, 3)) (hlk : Cond.methodLink mi.1.cls idx mX9_isWithin.1 ∈ pv_W) (hD : 0+1 ≤ d)  (hcat : (st.map fun v => v.category).sum ≤ 8) (K : pv_X z E d bc bs mi (pc + 3) lv ((.int (nI (pv_bl (a ≤ x ∧ x ≤ b)))) :: st) pv_K0 pv_P0 (I) (J)) : pv_X z E d bc bs mi pc lv (.int (b) :: .int (a) :: .int (x) :: st) pv_K0 pv_P0 I J := by
  obtain ⟨d, rfl⟩ : ∃ d0, d = d0 + 1 := ⟨d - 1, by omega⟩
  have key := px_callS (bc := bc) (bs := bs) (bc1 := 0) (bs1 := 0) (as := [.int (x), .int (a), .int (b)]) (E := E) (z := z) (lv := lv) hd msX9_isWithin hlk rfl rfl hcat (by exact Nat.le_of_ble_eq_true rfl) (s_X9_isWithin (by omega)  K)
  rw [Nat.zero_add, Nat.zero_add] at key
  exact key
set_option maxRecDepth 100000 in
set_option maxHeartbeats 4000000 in
theorem s_X9_requireWithin {Q : pv_Q} {E : pv_E} {d bc bs : Nat} {J : pv_JT} {I : pv_IT} {x : Int32} {a b : Nat} (hD : 6 ≤ d)  (hbc : 1 ≤ bc) (hbs : 6 ≤ bs) (h : ((pu_in x a b) → Q (.inl none) pv_K0 pv_P0 (I) (J)) ∧ (¬ (pu_in x a b) → Q (.inr pv_xIA) pv_K0 pv_P0 (I) (J))) : pv_X (pv_ZQ E Q) E d bc bs mX9_requireWithin 0 [(0, .int (x)), (1, .int (nI (a))), (2, .int (nI (b)))] [] pv_K0 pv_P0 I J := by
  refine px_iload_n dX9_requireWithin_0 rfl ?_
  refine px_iload_n dX9_requireWithin_1 rfl ?_
  refine px_iload_n dX9_requireWithin_2 rfl ?_
  refine c_X9_isWithin dX9_requireWithin_3 mlX9_97 (by omega)  (Nat.le_of_ble_eq_true rfl) ?_
  refine px_if_neB (tgt := 20) dX9_requireWithin_6 (by decide) (fun hw => ?_) (fun hw => ?_)
  · exact px_vret dX9_requireWithin_20 rfl (Or.inl rfl) (h.1 hw)
  · exact px_throwW (pvt_IA (text := "an argument is out of range") (by decide)) dX9_requireWithin_9 dX9_requireWithin_12 dX9_requireWithin_13 dX9_requireWithin_16 dX9_requireWithin_19 rfl (by omega) (by omega) (by omega) rfl (h.2 hw)
theorem c_X9_requireWithin {z : pv_Z} {E : pv_E} {d bc bs : Nat} {J : pv_JT} {I : pv_IT} {mi : pv_MI} {pc idx : Nat} {lv : pv_LV} {st : List Value} {x : Int32} {a b : Nat} (hd : decode mi.2.1 pc = .ok (.invokestatic idx, 3)) (hlk : Cond.methodLink mi.1.cls idx mX9_requireWithin.1 ∈ pv_W) (hD : 6+1 ≤ d)  (hbc : 1 ≤ bc) (hbs : 6 ≤ bs) (hcat : (st.map fun v => v.category).sum ≤ 8) (K : ((pu_in x a b) → pv_X z E d (bc - 1) (bs - 6) mi (pc + 3) lv (st) pv_K0 pv_P0 (I) (J)) ∧ (¬ (pu_in x a b) → pv_Y z E d (bc - 1) (bs - 6) mi pc lv pv_xIA pv_K0 pv_P0 (I) (J))) : pv_X z E d bc bs mi pc lv (.int (nI (b)) :: .int (nI (a)) :: .int (x) :: st) pv_K0 pv_P0 I J := by
  obtain ⟨bc, rfl⟩ : ∃ b0, bc = 1 + b0 := ⟨bc - 1, by omega⟩
  obtain ⟨bs, rfl⟩ : ∃ b0, bs = 6 + b0 := ⟨bs - 6, by omega⟩
  rw [show 1 + bc - 1 = bc by omega, show 6 + bs - 6 = bs by omega] at K
  obtain ⟨d, rfl⟩ : ∃ d0, d = d0 + 1 := ⟨d - 1, by omega⟩
  have key := px_callS (bc := bc) (bs := bs) (bc1 := 1) (bs1 := 6) (as := [.int (x), .int (nI (a)), .int (nI (b))]) (E := E) (z := z) (lv := lv) hd msX9_requireWithin hlk rfl rfl hcat (by exact Nat.le_of_ble_eq_true rfl) (s_X9_requireWithin (by omega)  (Nat.le_refl _) (Nat.le_refl _) K)
  exact key
set_option maxRecDepth 100000 in
set_option maxHeartbeats 4000000 in
theorem s_X9_requireStore {Q : pv_Q} {E : pv_E} {d bc bs : Nat} {J : pv_JT} {I : pv_IT} {x : Int32} (hD : 6 ≤ d)  (hbc : 1 ≤ bc) (hbs : 6 ≤ bs) (h : ((pu_has x 3) → Q (.inl none) pv_K0 pv_P0 (I) (J)) ∧ (¬ (pu_has x 3) → Q (.inr pv_xIO) pv_K0 pv_P0 (I) (J))) : pv_X (pv_ZQ E Q) E d bc bs mX9_requireStore 0 [(0, .int (x))] [] pv_K0 pv_P0 I J := by
  refine px_iload_n dX9_requireStore_0 rfl ?_
  refine px_iconst (v := nI 0) dX9_requireStore_1 (by decide) ?_
  refine px_iconst (v := nI 2) dX9_requireStore_2 (by decide) ?_
  refine c_X9_isWithin dX9_requireStore_3 mlX9_97 (by omega)  (Nat.le_of_ble_eq_true rfl) ?_
  refine px_if_neB (tgt := 20) dX9_requireStore_6 (by decide) (fun hw => ?_) (fun hw => ?_)
  · exact px_vret dX9_requireStore_20 rfl (Or.inl rfl) (h.1 ((pu_has_in (by decide)).mp hw))
  · exact px_throwW (pvt_IO (text := "there is no such store") (by decide)) dX9_requireStore_9 dX9_requireStore_12 dX9_requireStore_13 dX9_requireStore_16 dX9_requireStore_19 rfl (by omega) (by omega) (by omega) rfl (h.2 (fun z => hw ((pu_has_in (by decide)).mpr z)))
theorem c_X9_requireStore {z : pv_Z} {E : pv_E} {d bc bs : Nat} {J : pv_JT} {I : pv_IT} {mi : pv_MI} {pc idx : Nat} {lv : pv_LV} {st : List Value} {x : Int32} (hd : decode mi.2.1 pc = .ok (.invokestatic idx, 3)) (hlk : Cond.methodLink mi.1.cls idx mX9_requireStore.1 ∈ pv_W) (hD : 6+1 ≤ d)  (hbc : 1 ≤ bc) (hbs : 6 ≤ bs) (hcat : (st.map fun v => v.category).sum ≤ 8) (K : ((pu_has x 3) → pv_X z E d (bc - 1) (bs - 6) mi (pc + 3) lv (st) pv_K0 pv_P0 (I) (J)) ∧ (¬ (pu_has x 3) → pv_Y z E d (bc - 1) (bs - 6) mi pc lv pv_xIO pv_K0 pv_P0 (I) (J))) : pv_X z E d bc bs mi pc lv (.int (x) :: st) pv_K0 pv_P0 I J := by
  obtain ⟨bc, rfl⟩ : ∃ b0, bc = 1 + b0 := ⟨bc - 1, by omega⟩
  obtain ⟨bs, rfl⟩ : ∃ b0, bs = 6 + b0 := ⟨bs - 6, by omega⟩
  rw [show 1 + bc - 1 = bc by omega, show 6 + bs - 6 = bs by omega] at K
  obtain ⟨d, rfl⟩ : ∃ d0, d = d0 + 1 := ⟨d - 1, by omega⟩
  have key := px_callS (bc := bc) (bs := bs) (bc1 := 1) (bs1 := 6) (as := [.int (x)]) (E := E) (z := z) (lv := lv) hd msX9_requireStore hlk rfl rfl hcat (by exact Nat.le_of_ble_eq_true rfl) (s_X9_requireStore (by omega)  (Nat.le_refl _) (Nat.le_refl _) K)
  exact key
set_option maxRecDepth 100000 in
set_option maxHeartbeats 4000000 in
theorem s_X9_requireKind {Q : pv_Q} {E : pv_E} {d bc bs : Nat} {J : pv_JT} {I : pv_IT} {x : Int32} {T : pv_T} {L : List pv_Lot} (hD : 6 ≤ d) (hC : CR I 1 T L) (hn : T 405 ≤ 100) (hbc : 1 ≤ bc) (hbs : 6 ≤ bs) (h : ((pu_has x (T 405)) → Q (.inl none) pv_K0 pv_P0 (I) (J)) ∧ (¬ (pu_has x (T 405)) → Q (.inr pv_xIO) pv_K0 pv_P0 (I) (J))) : pv_X (pv_ZQ E Q) E d bc bs mX9_requireKind 0 [(0, .ref (0)), (1, .int (x))] [] pv_K0 pv_P0 I J := by
  skip
  refine px_iload_n dX9_requireKind_0 rfl ?_
  refine px_iconst (v := nI 0) dX9_requireKind_1 (by decide) ?_
  refine px_aload_n dX9_requireKind_2 rfl ?_
  refine px_getR dX9_requireKind_3 flX9_10 pv_s_main (by decide) (by decide) rfl pv_k_main pv_p_0_0 ?_
  refine px_getR dX9_requireKind_6 flX9_37 pv_ship_1.1 (by decide) (by decide) rfl pv_ship_1.2.1 pv_ship_1.2.2.1.1 ?_
  refine px_getI dX9_requireKind_9 flX9_41 pv_ship_1.2.2.1.2.1 (by decide) (by decide) rfl pv_ship_1.2.2.1.2.2.1 ?_
  refine px_iv (y := nI (T 405)) (hC.2.1.1) ?_
  refine px_iconst (v := nI 1) dX9_requireKind_12 (by decide) ?_
  refine px_isub dX9_requireKind_13 ?_
  refine c_X9_isWithin dX9_requireKind_14 mlX9_97 (by omega)  (Nat.le_of_ble_eq_true rfl) ?_
  refine px_if_neB (tgt := 31) dX9_requireKind_17 (by decide) (fun hw => ?_) (fun hw => ?_)
  · exact px_vret dX9_requireKind_31 rfl (Or.inl rfl) (h.1 ((pu_has_le (by omega)).mp hw))
  · exact px_throwW (pvt_IO (text := "there is no such kind") (by decide)) dX9_requireKind_20 dX9_requireKind_23 dX9_requireKind_24 dX9_requireKind_27 dX9_requireKind_30 rfl (by omega) (by omega) (by omega) rfl (h.2 (fun z => hw ((pu_has_le (by omega)).mpr z)))
theorem c_X9_requireKind {z : pv_Z} {E : pv_E} {d bc bs : Nat} {J : pv_JT} {I : pv_IT} {mi : pv_MI} {pc idx : Nat} {lv : pv_LV} {st : List Value} {x : Int32} {T : pv_T} {L : List pv_Lot} (hd : decode mi.2.1 pc = .ok (.invokevirtual idx, 3)) (hlk : Cond.methodLink mi.1.cls idx mX9_requireKind.1 ∈ pv_W) (hD : 6+1 ≤ d) (hC : CR I 1 T L) (hn : T 405 ≤ 100) (hbc : 1 ≤ bc) (hbs : 6 ≤ bs) (hcat : (st.map fun v => v.category).sum ≤ 8) (K : ((pu_has x (T 405)) → pv_X z E d (bc - 1) (bs - 6) mi (pc + 3) lv (st) pv_K0 pv_P0 (I) (J)) ∧ (¬ (pu_has x (T 405)) → pv_Y z E d (bc - 1) (bs - 6) mi pc lv pv_xIO pv_K0 pv_P0 (I) (J))) : pv_X z E d bc bs mi pc lv (.int (x) :: .ref (0) :: st) pv_K0 pv_P0 I J := by
  obtain ⟨bc, rfl⟩ : ∃ b0, bc = 1 + b0 := ⟨bc - 1, by omega⟩
  obtain ⟨bs, rfl⟩ : ∃ b0, bs = 6 + b0 := ⟨bs - 6, by omega⟩
  rw [show 1 + bc - 1 = bc by omega, show 6 + bs - 6 = bs by omega] at K
  obtain ⟨d, rfl⟩ : ∃ d0, d = d0 + 1 := ⟨d - 1, by omega⟩
  have key := px_callV (bc := bc) (bs := bs) (bc1 := 1) (bs1 := 6) (as := [.int (x)]) (E := E) (z := z) (lv := lv) hd mvX9_requireKind hlk pv_s_main (by decide) rfl pv_k_main rfl rfl hcat (by exact Nat.le_of_ble_eq_true rfl) (s_X9_requireKind (by omega) hC hn (Nat.le_refl _) (Nat.le_refl _) K)
  exact key
set_option maxRecDepth 100000 in
set_option maxHeartbeats 4000000 in
theorem s_X9_requireLot {Q : pv_Q} {E : pv_E} {d bc bs : Nat} {J : pv_JT} {I : pv_IT} {x : Int32} {T : pv_T} {L : List pv_Lot} (hD : 6 ≤ d) (hC : CR I 1 T L) (hbc : 1 ≤ bc) (hbs : 6 ≤ bs) (h : ((pu_has x (L.length)) → Q (.inl none) pv_K0 pv_P0 (I) (J)) ∧ (¬ (pu_has x (L.length)) → Q (.inr pv_xIO) pv_K0 pv_P0 (I) (J))) : pv_X (pv_ZQ E Q) E d bc bs mX9_requireLot 0 [(0, .ref (0)), (1, .int (x))] [] pv_K0 pv_P0 I J := by
  have hn := hC.2.2.2.1.2.1.1
  refine px_iload_n dX9_requireLot_0 rfl ?_
  refine px_iconst (v := nI 0) dX9_requireLot_1 (by decide) ?_
  refine px_aload_n dX9_requireLot_2 rfl ?_
  refine px_getR dX9_requireLot_3 flX9_10 pv_s_main (by decide) (by decide) rfl pv_k_main pv_p_0_0 ?_
  refine px_getR dX9_requireLot_6 flX9_66 pv_ship_1.1 (by decide) (by decide) rfl pv_ship_1.2.1 pv_ship_1.2.2.2.2.1.1 ?_
  refine px_getI dX9_requireLot_9 flX9_178 pv_ship_1.2.2.2.2.1.2.1 (by decide) (by decide) rfl pv_ship_1.2.2.2.2.1.2.2.1 ?_
  refine px_iv (y := nI (L.length)) (hC.2.2.2.1.1) ?_
  refine px_iconst (v := nI 1) dX9_requireLot_12 (by decide) ?_
  refine px_isub dX9_requireLot_13 ?_
  refine c_X9_isWithin dX9_requireLot_14 mlX9_97 (by omega)  (Nat.le_of_ble_eq_true rfl) ?_
  refine px_if_neB (tgt := 31) dX9_requireLot_17 (by decide) (fun hw => ?_) (fun hw => ?_)
  · exact px_vret dX9_requireLot_31 rfl (Or.inl rfl) (h.1 ((pu_has_le (by omega)).mp hw))
  · exact px_throwW (pvt_IO (text := "there is no such lot") (by decide)) dX9_requireLot_20 dX9_requireLot_23 dX9_requireLot_24 dX9_requireLot_27 dX9_requireLot_30 rfl (by omega) (by omega) (by omega) rfl (h.2 (fun z => hw ((pu_has_le (by omega)).mpr z)))
theorem c_X9_requireLot {z : pv_Z} {E : pv_E} {d bc bs : Nat} {J : pv_JT} {I : pv_IT} {mi : pv_MI} {pc idx : Nat} {lv : pv_LV} {st : List Value} {x : Int32} {T : pv_T} {L : List pv_Lot} (hd : decode mi.2.1 pc = .ok (.invokevirtual idx, 3)) (hlk : Cond.methodLink mi.1.cls idx mX9_requireLot.1 ∈ pv_W) (hD : 6+1 ≤ d) (hC : CR I 1 T L) (hbc : 1 ≤ bc) (hbs : 6 ≤ bs) (hcat : (st.map fun v => v.category).sum ≤ 8) (K : ((pu_has x (L.length)) → pv_X z E d (bc - 1) (bs - 6) mi (pc + 3) lv (st) pv_K0 pv_P0 (I) (J)) ∧ (¬ (pu_has x (L.length)) → pv_Y z E d (bc - 1) (bs - 6) mi pc lv pv_xIO pv_K0 pv_P0 (I) (J))) : pv_X z E d bc bs mi pc lv (.int (x) :: .ref (0) :: st) pv_K0 pv_P0 I J := by
  obtain ⟨bc, rfl⟩ : ∃ b0, bc = 1 + b0 := ⟨bc - 1, by omega⟩
  obtain ⟨bs, rfl⟩ : ∃ b0, bs = 6 + b0 := ⟨bs - 6, by omega⟩
  rw [show 1 + bc - 1 = bc by omega, show 6 + bs - 6 = bs by omega] at K
  obtain ⟨d, rfl⟩ : ∃ d0, d = d0 + 1 := ⟨d - 1, by omega⟩
  have key := px_callV (bc := bc) (bs := bs) (bc1 := 1) (bs1 := 6) (as := [.int (x)]) (E := E) (z := z) (lv := lv) hd mvX9_requireLot hlk pv_s_main (by decide) rfl pv_k_main rfl rfl hcat (by exact Nat.le_of_ble_eq_true rfl) (s_X9_requireLot (by omega) hC (Nat.le_refl _) (Nat.le_refl _) K)
  exact key
set_option maxRecDepth 100000 in
set_option maxHeartbeats 4000000 in
theorem s_X9_requirePort {Q : pv_Q} {E : pv_E} {d bc bs : Nat} {J : pv_JT} {I : pv_IT} {x : Int32} {T : pv_T} {L : List pv_Lot} (hD : 6 ≤ d) (hC : CR I 1 T L) (hn : T 407 ≤ 100) (hbc : 1 ≤ bc) (hbs : 6 ≤ bs) (h : ((pu_has x (T 407)) → Q (.inl none) pv_K0 pv_P0 (I) (J)) ∧ (¬ (pu_has x (T 407)) → Q (.inr pv_xIO) pv_K0 pv_P0 (I) (J))) : pv_X (pv_ZQ E Q) E d bc bs mX9_requirePort 0 [(0, .ref (0)), (1, .int (x))] [] pv_K0 pv_P0 I J := by
  skip
  refine px_iload_n dX9_requirePort_0 rfl ?_
  refine px_iconst (v := nI 0) dX9_requirePort_1 (by decide) ?_
  refine px_aload_n dX9_requirePort_2 rfl ?_
  refine px_getR dX9_requirePort_3 flX9_10 pv_s_main (by decide) (by decide) rfl pv_k_main pv_p_0_0 ?_
  refine px_getR dX9_requirePort_6 flX9_122 pv_ship_1.1 (by decide) (by decide) rfl pv_ship_1.2.1 pv_ship_1.2.2.2.2.2.1.1 ?_
  refine px_getI dX9_requirePort_9 flX9_126 pv_ship_1.2.2.2.2.2.1.2.1 (by decide) (by decide) rfl pv_ship_1.2.2.2.2.2.1.2.2.1 ?_
  refine px_iv (y := nI (T 407)) (hC.2.2.2.2.1.1) ?_
  refine px_iconst (v := nI 1) dX9_requirePort_12 (by decide) ?_
  refine px_isub dX9_requirePort_13 ?_
  refine c_X9_isWithin dX9_requirePort_14 mlX9_97 (by omega)  (Nat.le_of_ble_eq_true rfl) ?_
  refine px_if_neB (tgt := 31) dX9_requirePort_17 (by decide) (fun hw => ?_) (fun hw => ?_)
  · exact px_vret dX9_requirePort_31 rfl (Or.inl rfl) (h.1 ((pu_has_le (by omega)).mp hw))
  · exact px_throwW (pvt_IO (text := "there is no such port") (by decide)) dX9_requirePort_20 dX9_requirePort_23 dX9_requirePort_24 dX9_requirePort_27 dX9_requirePort_30 rfl (by omega) (by omega) (by omega) rfl (h.2 (fun z => hw ((pu_has_le (by omega)).mpr z)))
theorem c_X9_requirePort {z : pv_Z} {E : pv_E} {d bc bs : Nat} {J : pv_JT} {I : pv_IT} {mi : pv_MI} {pc idx : Nat} {lv : pv_LV} {st : List Value} {x : Int32} {T : pv_T} {L : List pv_Lot} (hd : decode mi.2.1 pc = .ok (.invokevirtual idx, 3)) (hlk : Cond.methodLink mi.1.cls idx mX9_requirePort.1 ∈ pv_W) (hD : 6+1 ≤ d) (hC : CR I 1 T L) (hn : T 407 ≤ 100) (hbc : 1 ≤ bc) (hbs : 6 ≤ bs) (hcat : (st.map fun v => v.category).sum ≤ 8) (K : ((pu_has x (T 407)) → pv_X z E d (bc - 1) (bs - 6) mi (pc + 3) lv (st) pv_K0 pv_P0 (I) (J)) ∧ (¬ (pu_has x (T 407)) → pv_Y z E d (bc - 1) (bs - 6) mi pc lv pv_xIO pv_K0 pv_P0 (I) (J))) : pv_X z E d bc bs mi pc lv (.int (x) :: .ref (0) :: st) pv_K0 pv_P0 I J := by
  obtain ⟨bc, rfl⟩ : ∃ b0, bc = 1 + b0 := ⟨bc - 1, by omega⟩
  obtain ⟨bs, rfl⟩ : ∃ b0, bs = 6 + b0 := ⟨bs - 6, by omega⟩
  rw [show 1 + bc - 1 = bc by omega, show 6 + bs - 6 = bs by omega] at K
  obtain ⟨d, rfl⟩ : ∃ d0, d = d0 + 1 := ⟨d - 1, by omega⟩
  have key := px_callV (bc := bc) (bs := bs) (bc1 := 1) (bs1 := 6) (as := [.int (x)]) (E := E) (z := z) (lv := lv) hd mvX9_requirePort hlk pv_s_main (by decide) rfl pv_k_main rfl rfl hcat (by exact Nat.le_of_ble_eq_true rfl) (s_X9_requirePort (by omega) hC hn (Nat.le_refl _) (Nat.le_refl _) K)
  exact key
