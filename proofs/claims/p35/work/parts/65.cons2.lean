/-! Constructors: the class and the reference. -/
theorem pnX0_9 : pv_new RX0 9 7 11 := ⟨_, _, rfl, (pv_t 246  (by decide +kernel) rfl), (pv_t 28  (by decide +kernel) rfl), (pv_t 2  (by decide +kernel) rfl), tyX7, tyX7_ok, fun j hj => by
  match j, hj with
  | 0, _ => rfl
  | 1, _ => rfl
  | 2, _ => rfl
  | 3, _ => rfl
  | 4, _ => rfl
  | 5, _ => rfl
  | 6, _ => rfl
  | 7, _ => rfl
  | 8, _ => rfl
  | 9, _ => rfl
  | 10, _ => rfl
  | j + 11, hj => exact absurd hj (by omega)⟩
theorem pnX3_9 : pv_new RX3 9 6 1 := ⟨_, _, rfl, (pv_t 266  (by decide +kernel) rfl), (pv_t 40  (by decide +kernel) rfl), (pv_t 4  (by decide +kernel) rfl), tyX6, tyX6_ok, fun j hj => by
  match j, hj with
  | 0, _ => rfl
  | j + 1, hj => exact absurd hj (by omega)⟩
theorem pnX3_20 : pv_new RX3 20 4 4 := ⟨_, _, rfl, (pv_t 268  (by decide +kernel) rfl), (pv_t 163  (by decide +kernel) rfl), (pv_t 8  (by decide +kernel) rfl), tyX4, tyX4_ok, fun j hj => by
  match j, hj with
  | 0, _ => rfl
  | 1, _ => rfl
  | 2, _ => rfl
  | 3, _ => rfl
  | j + 4, hj => exact absurd hj (by omega)⟩
theorem pnX9_7 : pv_new RX9 7 7 11 := ⟨_, _, rfl, (pv_t 27  (by decide +kernel) rfl), (pv_t 28  (by decide +kernel) rfl), (pv_t 2  (by decide +kernel) rfl), tyX7, tyX7_ok, fun j hj => by
  match j, hj with
  | 0, _ => rfl
  | 1, _ => rfl
  | 2, _ => rfl
  | 3, _ => rfl
  | 4, _ => rfl
  | 5, _ => rfl
  | 6, _ => rfl
  | 7, _ => rfl
  | 8, _ => rfl
  | 9, _ => rfl
  | 10, _ => rfl
  | j + 11, hj => exact absurd hj (by omega)⟩
theorem pnX9_19 : pv_new RX9 19 0 3 := ⟨_, _, rfl, (pv_t 240  (by decide +kernel) rfl), (pv_t 241  (by decide +kernel) rfl), (pv_t 9  (by decide +kernel) rfl), tyX0, tyX0_ok, fun j hj => by
  match j, hj with
  | 0, _ => rfl
  | 1, _ => rfl
  | 2, _ => rfl
  | j + 3, hj => exact absurd hj (by omega)⟩
theorem pnX9_26 : pv_new RX9 26 3 6 := ⟨_, _, rfl, (pv_t 260  (by decide +kernel) rfl), (pv_t 261  (by decide +kernel) rfl), (pv_t 10  (by decide +kernel) rfl), tyX3, tyX3_ok, fun j hj => by
  match j, hj with
  | 0, _ => rfl
  | 1, _ => rfl
  | 2, _ => rfl
  | 3, _ => rfl
  | 4, _ => rfl
  | 5, _ => rfl
  | j + 6, hj => exact absurd hj (by omega)⟩
theorem bI_inG {I : pv_IT} {q : Nat} {G : pv_IT} (h : I q = fun _ => 0) (hG : G 0 = fun _ => 0) : I = bI I q 1 G := by
  funext a j
  rw [bI_aj]
  by_cases e : q ≤ a ∧ a < q + 1
  · rw [if_pos e, show a = q by omega, h, Nat.sub_self, hG]
  · rw [if_neg e]
def gX : pv_IT := fun i j => if 3 ≤ i ∧ i < 10 then gM (i - 3) j else 0
def gH : pv_IT := fun i j => if i < 2 then 0 else gS ((i - 2) % 44) j
def gA : pv_IT := fun i j => if 1 ≤ i ∧ i < 45 then gS (i - 1) j else if 45 ≤ i ∧ i < 89 then gS (i - 45) j else if 89 ≤ i ∧ i < 355 then gH (i - 89) j else if 355 ≤ i ∧ i < 365 then gX (i - 355) j else 0
def pv_textQ (q : Nat) : Prop := pv_shp q = (3, 6) ∧ q < pv_K0 ∧ (pv_P0 q 1 = some (q + 1) ∧ pv_row (q + 1) 60) ∧ (pv_P0 q 2 = some (q + 3) ∧ pv_menus (q + 3))
def pv_histQ (q : Nat) : Prop := pv_shp q = (0, 3) ∧ q + 265 < pv_K0 ∧ (pv_P0 q 2 = some (q + 1) ∧ pv_shp (q + 1) = (22, 6)) ∧ ∀ i, i < 6 → pv_P0 (q + 1) i = some (q + 2 + 44 * i) ∧ pv_ship (q + 2 + 44 * i)
def pv_mainQ (q : Nat) : Prop := pv_shp q = (9, 4) ∧ q + 364 < pv_K0 ∧ (pv_P0 q 0 = some (q + 1) ∧ pv_ship (q + 1)) ∧ (pv_P0 q 1 = some (q + 45) ∧ pv_ship (q + 45)) ∧ (pv_P0 q 2 = some (q + 89) ∧ pv_histQ (q + 89)) ∧ (pv_P0 q 3 = some (q + 355) ∧ pv_textQ (q + 355))
theorem pv_textQ_355 : pv_textQ 355 := ⟨pv_s_text, pv_k_text, ⟨pv_p_355_1, pv_row_356⟩, ⟨pv_p_355_2, pv_menus_358⟩⟩
theorem pv_histQ_89 : pv_histQ 89 := ⟨pv_s_hist, by decide +kernel, ⟨pv_p_89_2, pv_s_states⟩, fun i hi => ⟨pv_p_states hi, pv_ship_i hi⟩⟩
theorem pv_mainQ_0 : pv_mainQ 0 := ⟨pv_s_main, by decide +kernel, ⟨pv_p_0_0, pv_ship_1⟩, ⟨pv_p_0_1, pv_ship_45⟩, ⟨pv_p_0_2, pv_histQ_89⟩, ⟨pv_p_0_3, pv_textQ_355⟩⟩
def hP (P : pv_PT) (q i : Nat) : pv_PT := fun a => if a = q then pv_P0 q else if a = q + 1 then (fun j => if j < i then pv_P0 (q + 1) j else none) else if q + 1 < a ∧ a < q + 2 + 44 * i then pv_P0 a else P a
theorem hP_aj {P : pv_PT} {q i a j : Nat} : hP P q i a j = if a = q then pv_P0 q j else if a = q + 1 then (if j < i then pv_P0 (q + 1) j else none) else if q + 1 < a ∧ a < q + 2 + 44 * i then pv_P0 a j else P a j := by
  unfold hP
  by_cases e : a = q
  · rw [if_pos e, if_pos e]
  · rw [if_neg e, if_neg e]
    by_cases e2 : a = q + 1
    · rw [if_pos e2, if_pos e2]
    · rw [if_neg e2, if_neg e2]
      by_cases e3 : q + 1 < a ∧ a < q + 2 + 44 * i
      · rw [if_pos e3, if_pos e3]
      · rw [if_neg e3, if_neg e3]
theorem hP_q {P : pv_PT} {q i j : Nat} : hP P q i q j = pv_P0 q j := by rw [hP_aj, if_pos rfl]
theorem hP_0 {P : pv_PT} {q : Nat} (hq : pv_histQ q) : pv_uP (pv_zP (cP P q (q + 1) 0) (q + 1)) q 2 (some (q + 1)) = hP P q 0 := by
  have hk : q + 265 < 371 := by have h9 := hq.2.1; simp only [pv_K0] at h9; exact h9
  funext a j
  rw [uP_aj, zP_aj, cP_aj, hP_aj]
  by_cases e : a = q
  · rw [if_neg (show ¬ a = q + 1 by omega), if_pos e, if_pos e, if_neg (Nat.not_lt_zero _)]
    by_cases e2 : j = 2
    · rw [if_pos ⟨e, e2⟩, e2]; exact hq.2.2.1.1.symm
    · rw [if_neg (fun h => e2 h.2)]
      by_cases e3 : j < 2
      · exact (pv_gap (by omega) hq.1 (Or.inr (Or.inl ⟨by decide, (show ∀ j, j < 2 → pv_fk 0 j ≠ 1 by decide) j e3⟩))).symm
      · exact (pv_gap (by omega) hq.1 (by omega)).symm
  · rw [if_neg (fun h => e h.1), if_neg e, if_neg e]
    by_cases e2 : a = q + 1
    · rw [if_pos e2, if_pos e2, if_neg (Nat.not_lt_zero _)]
    · rw [if_neg e2, if_neg e2, if_neg (show ¬ (q < a ∧ a < q + 1) by omega), if_neg (show ¬ (q + 1 < a ∧ a < q + 2 + 44 * 0) by omega)]
theorem hP_s {P : pv_PT} {q i : Nat} (hq : pv_histQ q) (hi : i < 6) : pv_uP (bP (pv_zP (hP P q i) (q + 2 + 44 * i)) (q + 2 + 44 * i) (q + 2 + 44 * i + 44)) (q + 1) i (some (q + 2 + 44 * i)) = hP P q (i + 1) := by
  funext a j
  rw [uP_aj, bP_aj, zP_aj, hP_aj, hP_aj]
  by_cases e : a = q + 1
  · rw [if_neg (show ¬ (q + 2 + 44 * i ≤ a ∧ a < q + 2 + 44 * i + 44) by omega), if_neg (show ¬ a = q + 2 + 44 * i by omega), if_neg (show ¬ a = q by omega), if_neg (show ¬ a = q by omega), if_pos e, if_pos e]
    by_cases e2 : j = i
    · rw [if_pos ⟨e, e2⟩, if_pos (show j < i + 1 by omega), e2, (hq.2.2.2 i hi).1]
    · rw [if_neg (fun h => e2 h.2)]
      by_cases e3 : j < i
      · rw [if_pos e3, if_pos (show j < i + 1 by omega)]
      · rw [if_neg e3, if_neg (show ¬ j < i + 1 by omega)]
  · rw [if_neg (fun h => e h.1), if_neg e, if_neg e]
    by_cases e1 : q + 2 + 44 * i ≤ a ∧ a < q + 2 + 44 * i + 44
    · rw [if_pos e1, if_neg (show ¬ a = q by omega), if_pos (show q + 1 < a ∧ a < q + 2 + 44 * (i + 1) by omega)]
    · rw [if_neg e1, if_neg (show ¬ a = q + 2 + 44 * i by omega)]
      by_cases e2 : a = q
      · rw [if_pos e2, if_pos e2]
      · rw [if_neg e2, if_neg e2]
        by_cases e3 : q + 1 < a ∧ a < q + 2 + 44 * i
        · rw [if_pos e3, if_pos (show q + 1 < a ∧ a < q + 2 + 44 * (i + 1) by omega)]
        · rw [if_neg e3, if_neg (show ¬ (q + 1 < a ∧ a < q + 2 + 44 * (i + 1)) by omega)]
theorem hP_6 {P : pv_PT} {q : Nat} (hq : pv_histQ q) : hP P q 6 = bP P q (q + 266) := by
  have hk : q + 265 < 371 := by have h9 := hq.2.1; simp only [pv_K0] at h9; exact h9
  funext a j
  rw [hP_aj, bP_aj]
  by_cases e : a = q
  · rw [if_pos e, if_pos (show q ≤ a ∧ a < q + 266 by omega), e]
  · rw [if_neg e]
    by_cases e2 : a = q + 1
    · rw [if_pos e2, if_pos (show q ≤ a ∧ a < q + 266 by omega), e2]
      by_cases e3 : j < 6
      · rw [if_pos e3]
      · rw [if_neg e3]; exact (pv_gap (by omega) hq.2.2.1.2 (by omega)).symm
    · rw [if_neg e2]
      by_cases e3 : q + 1 < a ∧ a < q + 2 + 44 * 6
      · rw [if_pos e3, if_pos (show q ≤ a ∧ a < q + 266 by omega)]
      · rw [if_neg e3, if_neg (show ¬ (q ≤ a ∧ a < q + 266) by omega)]
set_option maxRecDepth 100000 in
set_option maxHeartbeats 4000000 in
theorem s_X0_init {Q : pv_Q} {E : pv_E} {d : Nat} {P : pv_PT} {I : pv_IT} {J : pv_JT} {q : Nat} (hD : 4 ≤ d) (hq : pv_histQ q) (hP0 : P q = fun _ => none) (hI : I q = fun _ => 0) (h : ∀ J', Q (.inl none) (q + 266) (bP P q (q + 266)) (bI I q 266 gH) J') : pv_X (pv_ZQ E Q) E d 265 2868 mX0_init 0 [(0, .ref q)] [] (q + 1) P I J := by
  have hk : q + 265 < 371 := by have h9 := hq.2.1; simp only [pv_K0] at h9; exact h9
  have key : ∀ i : Nat, i ≤ 6 → ∀ J' : pv_JT, pv_X (pv_ZQ E Q) E d (44 * (6 - i)) (477 * (6 - i)) mX0_init 15 [(0, .ref q), (1, .int (nI i))] [] (q + 2 + 44 * i) (hP P q i) (bI I q (2 + 44 * i) gH) J' := by
    refine pv_up 6 ?_ ?_
    · intro J
      refine px_iload_n dX0_init_15 rfl ?_
      refine px_aload_n dX0_init_16 rfl ?_
      refine px_getR dX0_init_17 flX0_11 hq.1 (by decide) (by decide) rfl (by omega) (hP_q.trans hq.2.2.1.1) ?_
      refine px_alenR dX0_init_20 hq.2.2.1.2 (by omega) ?_
      refine px_icmp_geN (tgt := 43) dX0_init_21 (by decide) (by omega) (by omega) (fun _ => ?_) (fun h0 => absurd h0 (by omega))
      refine px_mm (P' := bP P q (q + 266)) (I' := bI I q 266 gH) (sz' := q + 266) (hP_6 hq) rfl rfl ?_
      exact px_vret dX0_init_43 rfl (Or.inr rfl) (h _)
    · intro i hi K J
      have hs := (hq.2.2.2 i hi).2
      refine px_iload_n dX0_init_15 rfl ?_
      refine px_aload_n dX0_init_16 rfl ?_
      refine px_getR dX0_init_17 flX0_11 hq.1 (by decide) (by decide) rfl (by omega) (hP_q.trans hq.2.2.1.1) ?_
      refine px_alenR dX0_init_20 hq.2.2.1.2 (by omega) ?_
      refine px_icmp_geN (tgt := 43) dX0_init_21 (by decide) (by omega) (by omega) (fun h0 => absurd h0 (by omega)) (fun _ => ?_)
      refine px_aload_n dX0_init_24 rfl ?_
      refine px_getR dX0_init_25 flX0_11 hq.1 (by decide) (by decide) rfl (by omega) (hP_q.trans hq.2.2.1.1) ?_
      refine px_iload_n dX0_init_28 rfl ?_
      refine px_bud (bc' := 1 + (43 + 44 * (6 - (i + 1)))) (bs' := 11 + (466 + 477 * (6 - (i + 1)))) (by omega) (by omega) ?_
      refine px_newS dX0_init_29 pnX0_9 hs.1 (by decide) (by show _ < 371; omega) ?_
      refine px_dup dX0_init_32 rfl ?_
      refine n_X7_init dX0_init_33 (by decide) (by omega) hs zP_at zI_at (Nat.le_of_ble_eq_true rfl) (fun J1 => ?_)
      refine px_aast (j := i) dX0_init_36 hq.2.2.1.2 hs.1 rfl hi (by decide) (by omega) (by omega) ?_
      refine px_iincN (c := 1) (by decide) dX0_init_37 rfl (by decide) ?_
      refine px_goto (tgt := 15) dX0_init_40 (by decide) ?_
      refine px_mm (P' := hP P q (i + 1)) (I' := bI I q (2 + 44 * (i + 1)) gH) (sz' := q + 2 + 44 * (i + 1)) (hP_s hq hi) ((bI_put (by omega) (by decide) (fun _ _ => rfl) (fun j hj => ?_)).trans ?_) (by omega) (K J1)
      · funext a
        unfold gH
        rw [if_neg (by omega), show (2 + 44 * i + j - 2) % 44 = j by omega]
      · exact congrArg (fun m => bI I q m gH) (by omega)
  refine px_mm (P' := cP P q (q + 1) 0) (I' := bI I q 1 gZ) (sz' := q + 1) (cP_in hP0) (bI_in hI) rfl ?_
  refine px_aload_n dX0_init_0 rfl ?_
  refine px_objInit dX0_init_1 mlX0_3 pv_oI pv_oC (by omega) ?_
  refine px_aload_n dX0_init_4 rfl ?_
  refine px_bipush (v := nI 6) dX0_init_5 (by decide) ?_
  refine px_bud (bc' := 1 + 264) (bs' := 6 + 2862) rfl rfl ?_
  refine px_newRS dX0_init_7 (pv_t 246 (by decide +kernel) rfl) hq.2.2.1.2 rfl (by decide) (by show _ < 371; omega) ?_
  refine px_putR dX0_init_10 ffX0_11 rfl rfl rfl hq.1 (by decide) (by decide) rfl (by omega) ?_
  refine px_iconst (v := nI 0) dX0_init_13 (by decide) ?_
  refine px_istore_n dX0_init_14 (by decide) ?_
  refine px_mm (P' := hP P q 0) (I' := bI I q (2 + 44 * 0) gH) (sz' := q + 2 + 44 * 0) (hP_0 hq) ?_ (by omega) (key 0 (by omega) _)
  funext a j
  rw [zI_aj, bI_aj, bI_aj]
  by_cases e : a = q + 1
  · rw [if_pos e, if_pos (show q ≤ a ∧ a < q + (2 + 44 * 0) by omega), show a - q = 1 by omega]; rfl
  · rw [if_neg e]
    by_cases e2 : q ≤ a ∧ a < q + 1
    · rw [if_pos e2, if_pos (show q ≤ a ∧ a < q + (2 + 44 * 0) by omega), show a - q = 0 by omega]; rfl
    · rw [if_neg e2, if_neg (show ¬ (q ≤ a ∧ a < q + (2 + 44 * 0)) by omega)]
theorem c_X0_init {z : pv_Z} {E : pv_E} {d bc bs : Nat} {mi : pv_MI} {pc idx : Nat} {lv : pv_LV} {st : List Value} {P : pv_PT} {I : pv_IT} {J : pv_JT} {q : Nat} (hd : decode mi.2.1 pc = .ok (.invokespecial idx, 3)) (hlk : Cond.methodLink mi.1.cls idx mX0_init.1 ∈ pv_W) (hD : 4 + 1 ≤ d) (hq : pv_histQ q) (hP : P q = fun _ => none) (hI : I q = fun _ => 0) (hcat : (st.map fun v => v.category).sum ≤ 8) (K : ∀ J', pv_X z E d bc bs mi (pc + 3) lv st (q + 266) (bP P q (q + 266)) (bI I q 266 gH) J') : pv_X z E d (265 + bc) (2868 + bs) mi pc lv (.ref q :: st) (q + 1) P I J := by
  obtain ⟨d, rfl⟩ : ∃ d0, d = d0 + 1 := ⟨d - 1, by omega⟩
  exact px_callI (bc := bc) (bs := bs) (bc1 := 265) (bs1 := 2868) (as := []) (k := q) (E := E) (z := z) (lv := lv) hd mcX0_init hlk rfl rfl hcat (by exact Nat.le_of_ble_eq_true rfl) (s_X0_init (by omega) hq hP hI K)
set_option maxRecDepth 100000 in
set_option maxHeartbeats 4000000 in
theorem s_X3_init {Q : pv_Q} {E : pv_E} {d : Nat} {P : pv_PT} {I : pv_IT} {J : pv_JT} {q : Nat} (hD : 3 ≤ d) (hq : pv_textQ q) (hP : P q = fun _ => none) (hI : I q = fun _ => 0) (h : ∀ J', Q (.inl none) (q + 10) (bP P q (q + 10)) (bI I q 10 gX) J') : pv_X (pv_ZQ E Q) E d 9 188 mX3_init 0 [(0, .ref q)] [] (q + 1) P I J := by
  have hk : q + 9 < 371 := by have h9 := hq.2.2.2.2.2.2.2.2.2.2.2.2.1; simp only [pv_K0] at h9; omega
  refine px_mm (P' := cP P q (q + 1) 0) (I' := bI I q 1 gX) (sz' := q + 1) (cP_in hP) (bI_inG hI rfl) rfl ?_
  refine px_aload_n dX3_init_0 rfl ?_
  refine px_objInit dX3_init_1 mlX3_3 pv_oI pv_oC (by omega) ?_
  refine px_aload_n dX3_init_4 rfl ?_
  refine px_bud (bc' := 1 + 8) (bs' := 1 + 187) rfl rfl ?_
  refine px_newS dX3_init_5 pnX3_9 hq.2.2.1.2.1 (by decide) (by show _ < 371; omega) ?_
  refine px_dup dX3_init_8 rfl ?_
  refine px_bipush (v := nI 60) dX3_init_9 (by decide) ?_
  refine px_bud (bc' := 1 + 7) (bs' := 60 + 127) rfl rfl ?_
  refine c_X6_init dX3_init_11 mlX3_11 (by omega) hq.2.2.1.2 (by omega) zP_at zI_at (Nat.le_of_ble_eq_true rfl) (fun J1 => ?_)
  refine px_putR dX3_init_14 ffX3_14 rfl rfl rfl hq.1 (by decide) (by decide) rfl (by omega) ?_
  refine px_mm (P' := cP P q (q + 3) 2) (I' := bI I q 3 gX) (sz' := q + 3) (cP_put (f := 0) (f' := 1) (m := 2) (by omega) (by decide) hq.2.2.1.1 (fun j h1 h2 => pv_gap (by omega) hq.1 (Or.inr (Or.inl ⟨by decide, (show ∀ j, j < 1 → 0 ≤ j → pv_fk 3 j ≠ 1 by decide) j h2 h1⟩))) (by decide)) (bI_put (m := 2) rfl (by decide) (fun i hi => rfl) (fun i hi => (by funext j; unfold gX; rw [if_neg (by omega)]; rfl))) rfl ?_
  refine px_aload_n dX3_init_17 rfl ?_
  refine px_bud (bc' := 1 + 6) (bs' := 4 + 123) rfl rfl ?_
  refine px_newS dX3_init_18 pnX3_20 hq.2.2.2.2.1 (by decide) (by show _ < 371; omega) ?_
  refine px_dup dX3_init_21 rfl ?_
  refine px_bud (bc' := 6 + 0) (bs' := 123 + 0) rfl rfl ?_
  refine n_X4_init dX3_init_22 (by decide) (by omega) hq.2.2.2.2 zP_at zI_at (Nat.le_of_ble_eq_true rfl) (fun J1 => ?_)
  refine px_putR dX3_init_25 ffX3_23 rfl rfl rfl hq.1 (by decide) (by decide) rfl (by omega) ?_
  refine px_mm (P' := cP P q (q + 10) 3) (I' := bI I q 10 gX) (sz' := q + 10) (cP_put (f := 2) (f' := 2) (m := 7) (by omega) (by decide) hq.2.2.2.1 (fun j h1 h2 => pv_gap (by omega) hq.1 (Or.inr (Or.inl ⟨by decide, (show ∀ j, j < 2 → 2 ≤ j → pv_fk 3 j ≠ 1 by decide) j h2 h1⟩))) (by decide)) (bI_put (m := 7) rfl (by decide) (fun i hi => rfl) (fun i hi => (by funext j; unfold gX; rw [if_pos (by omega), show 3 + i - 3 = i by omega]))) rfl ?_
  refine px_mm (P' := bP P q (q + 10)) (I' := bI I q 10 gX) (sz' := q + 10) (cP_out (fun j hj => by
    by_cases e : j < 6
    · exact pv_gap (by omega) hq.1 (Or.inr (Or.inl ⟨by decide, (show ∀ j, j < 6 → 3 ≤ j → pv_fk 3 j ≠ 1 by decide) j e hj⟩))
    · exact pv_gap (by omega) hq.1 (by omega)) (by omega)) rfl rfl ?_
  exact px_vret dX3_init_28 rfl (Or.inr rfl) (h _)
theorem n_X3_init {z : pv_Z} {E : pv_E} {d bc bs : Nat} {mi : pv_MI} {pc idx : Nat} {lv : pv_LV} {st : List Value} {P : pv_PT} {I : pv_IT} {J : pv_JT} {q : Nat} (hd : decode mi.2.1 pc = .ok (.invokespecial idx, 3)) (hlk : (mi.1.cls, idx, mX3_init.1) ∈ pv_nest) (hD : 3 + 1 ≤ d) (hq : pv_textQ q) (hP : P q = fun _ => none) (hI : I q = fun _ => 0) (hcat : (st.map fun v => v.category).sum ≤ 8) (K : ∀ J', pv_X z E d bc bs mi (pc + 3) lv st (q + 10) (bP P q (q + 10)) (bI I q 10 gX) J') : pv_X z E d (9 + bc) (188 + bs) mi pc lv (.ref q :: st) (q + 1) P I J := by
  obtain ⟨d, rfl⟩ : ∃ d0, d = d0 + 1 := ⟨d - 1, by omega⟩
  exact px_callIN (bc := bc) (bs := bs) (bc1 := 9) (bs1 := 188) (as := []) (k := q) (E := E) (z := z) (lv := lv) hd mcX3_init hlk rfl rfl hcat (by exact Nat.le_of_ble_eq_true rfl) (s_X3_init (by omega) hq hP hI K)
set_option maxRecDepth 100000 in
set_option maxHeartbeats 4000000 in
theorem s_X9_init {Q : pv_Q} {E : pv_E} {d : Nat} {P : pv_PT} {I : pv_IT} {J : pv_JT} {q : Nat} (hD : 5 ≤ d) (hq : pv_mainQ q) (hP : P q = fun _ => none) (hI : I q = fun _ => 0) (h : ∀ J', Q (.inl none) (q + 365) (bP P q (q + 365)) (bI I q 365 gA) J') : pv_X (pv_ZQ E Q) E d 364 4019 mX9_init 0 [(0, .ref q)] [] (q + 1) P I J := by
  have hk : q + 364 < 371 := by have h9 := hq.2.1; simp only [pv_K0] at h9; omega
  refine px_mm (P' := cP P q (q + 1) 0) (I' := bI I q 1 gA) (sz' := q + 1) (cP_in hP) (bI_inG hI rfl) rfl ?_
  refine px_aload_n dX9_init_0 rfl ?_
  refine px_objInit dX9_init_1 mlX9_1 pv_oI pv_oC (by omega) ?_
  refine px_aload_n dX9_init_4 rfl ?_
  refine px_bud (bc' := 1 + 363) (bs' := 11 + 4008) rfl rfl ?_
  refine px_newS dX9_init_5 pnX9_7 hq.2.2.1.2.1 (by decide) (by show _ < 371; omega) ?_
  refine px_dup dX9_init_8 rfl ?_
  refine px_bud (bc' := 43 + 320) (bs' := 466 + 3542) rfl rfl ?_
  refine n_X7_init dX9_init_9 (by decide) (by omega) hq.2.2.1.2 zP_at zI_at (Nat.le_of_ble_eq_true rfl) (fun J1 => ?_)
  refine px_putR dX9_init_12 ffX9_10 rfl rfl rfl hq.1 (by decide) (by decide) rfl (by omega) ?_
  refine px_mm (P' := cP P q (q + 45) 1) (I' := bI I q 45 gA) (sz' := q + 45) (cP_put (f := 0) (f' := 0) (m := 44) (by omega) (by decide) hq.2.2.1.1 (fun j h1 h2 => pv_gap (by omega) hq.1 (Or.inr (Or.inl ⟨by decide, (show ∀ j, j < 0 → 0 ≤ j → pv_fk 9 j ≠ 1 by decide) j h2 h1⟩))) (by decide)) (bI_put (m := 44) rfl (by decide) (fun i hi => rfl) (fun i hi => (by funext j; unfold gA; rw [if_pos (by omega), show 1 + i - 1 = i by omega]))) rfl ?_
  refine px_aload_n dX9_init_15 rfl ?_
  refine px_bud (bc' := 1 + 319) (bs' := 11 + 3531) rfl rfl ?_
  refine px_newS dX9_init_16 pnX9_7 hq.2.2.2.1.2.1 (by decide) (by show _ < 371; omega) ?_
  refine px_dup dX9_init_19 rfl ?_
  refine px_bud (bc' := 43 + 276) (bs' := 466 + 3065) rfl rfl ?_
  refine n_X7_init dX9_init_20 (by decide) (by omega) hq.2.2.2.1.2 zP_at zI_at (Nat.le_of_ble_eq_true rfl) (fun J1 => ?_)
  refine px_putR dX9_init_23 ffX9_16 rfl rfl rfl hq.1 (by decide) (by decide) rfl (by omega) ?_
  refine px_mm (P' := cP P q (q + 89) 2) (I' := bI I q 89 gA) (sz' := q + 89) (cP_put (f := 1) (f' := 1) (m := 44) (by omega) (by decide) hq.2.2.2.1.1 (fun j h1 h2 => pv_gap (by omega) hq.1 (Or.inr (Or.inl ⟨by decide, (show ∀ j, j < 1 → 1 ≤ j → pv_fk 9 j ≠ 1 by decide) j h2 h1⟩))) (by decide)) (bI_put (m := 44) rfl (by decide) (fun i hi => rfl) (fun i hi => (by funext j; unfold gA; rw [if_neg (by omega), if_pos (by omega), show 45 + i - 45 = i by omega]))) rfl ?_
  refine px_aload_n dX9_init_26 rfl ?_
  refine px_bud (bc' := 1 + 275) (bs' := 3 + 3062) rfl rfl ?_
  refine px_newS dX9_init_27 pnX9_19 hq.2.2.2.2.1.2.1 (by decide) (by show _ < 371; omega) ?_
  refine px_dup dX9_init_30 rfl ?_
  refine px_bud (bc' := 265 + 10) (bs' := 2868 + 194) rfl rfl ?_
  refine c_X0_init dX9_init_31 mlX9_21 (by omega) hq.2.2.2.2.1.2 zP_at zI_at (Nat.le_of_ble_eq_true rfl) (fun J1 => ?_)
  refine px_putR dX9_init_34 ffX9_22 rfl rfl rfl hq.1 (by decide) (by decide) rfl (by omega) ?_
  refine px_mm (P' := cP P q (q + 355) 3) (I' := bI I q 355 gA) (sz' := q + 355) (cP_put (f := 2) (f' := 2) (m := 266) (by omega) (by decide) hq.2.2.2.2.1.1 (fun j h1 h2 => pv_gap (by omega) hq.1 (Or.inr (Or.inl ⟨by decide, (show ∀ j, j < 2 → 2 ≤ j → pv_fk 9 j ≠ 1 by decide) j h2 h1⟩))) (by decide)) (bI_put (m := 266) rfl (by decide) (fun i hi => rfl) (fun i hi => (by funext j; unfold gA; rw [if_neg (by omega), if_neg (by omega), if_pos (by omega), show 89 + i - 89 = i by omega]))) rfl ?_
  refine px_aload_n dX9_init_37 rfl ?_
  refine px_bud (bc' := 1 + 9) (bs' := 6 + 188) rfl rfl ?_
  refine px_newS dX9_init_38 pnX9_26 hq.2.2.2.2.2.2.1 (by decide) (by show _ < 371; omega) ?_
  refine px_dup dX9_init_41 rfl ?_
  refine px_bud (bc' := 9 + 0) (bs' := 188 + 0) rfl rfl ?_
  refine n_X3_init dX9_init_42 (by decide) (by omega) hq.2.2.2.2.2.2 zP_at zI_at (Nat.le_of_ble_eq_true rfl) (fun J1 => ?_)
  refine px_putR dX9_init_45 ffX9_29 rfl rfl rfl hq.1 (by decide) (by decide) rfl (by omega) ?_
  refine px_mm (P' := cP P q (q + 365) 4) (I' := bI I q 365 gA) (sz' := q + 365) (cP_put (f := 3) (f' := 3) (m := 10) (by omega) (by decide) hq.2.2.2.2.2.1 (fun j h1 h2 => pv_gap (by omega) hq.1 (Or.inr (Or.inl ⟨by decide, (show ∀ j, j < 3 → 3 ≤ j → pv_fk 9 j ≠ 1 by decide) j h2 h1⟩))) (by decide)) (bI_put (m := 10) rfl (by decide) (fun i hi => rfl) (fun i hi => (by funext j; unfold gA; rw [if_neg (by omega), if_neg (by omega), if_neg (by omega), if_pos (by omega), show 355 + i - 355 = i by omega]))) rfl ?_
  refine px_mm (P' := bP P q (q + 365)) (I' := bI I q 365 gA) (sz' := q + 365) (cP_out (fun j hj => by
    by_cases e : j < 4
    · exact pv_gap (by omega) hq.1 (Or.inr (Or.inl ⟨by decide, (show ∀ j, j < 4 → 4 ≤ j → pv_fk 9 j ≠ 1 by decide) j e hj⟩))
    · exact pv_gap (by omega) hq.1 (by omega)) (by omega)) rfl rfl ?_
  exact px_vret dX9_init_48 rfl (Or.inr rfl) (h _)
theorem c_X9_init {z : pv_Z} {E : pv_E} {d bc bs : Nat} {mi : pv_MI} {pc idx : Nat} {lv : pv_LV} {st : List Value} {P : pv_PT} {I : pv_IT} {J : pv_JT} {q : Nat} (hd : decode mi.2.1 pc = .ok (.invokespecial idx, 3)) (hlk : Cond.methodLink mi.1.cls idx mX9_init.1 ∈ pv_W) (hD : 5 + 1 ≤ d) (hq : pv_mainQ q) (hP : P q = fun _ => none) (hI : I q = fun _ => 0) (hcat : (st.map fun v => v.category).sum ≤ 8) (K : ∀ J', pv_X z E d bc bs mi (pc + 3) lv st (q + 365) (bP P q (q + 365)) (bI I q 365 gA) J') : pv_X z E d (364 + bc) (4019 + bs) mi pc lv (.ref q :: st) (q + 1) P I J := by
  obtain ⟨d, rfl⟩ : ∃ d0, d = d0 + 1 := ⟨d - 1, by omega⟩
  exact px_callI (bc := bc) (bs := bs) (bc1 := 364) (bs1 := 4019) (as := []) (k := q) (E := E) (z := z) (lv := lv) hd mcX9_init hlk rfl rfl hcat (by exact Nat.le_of_ble_eq_true rfl) (s_X9_init (by omega) hq hP hI K)
