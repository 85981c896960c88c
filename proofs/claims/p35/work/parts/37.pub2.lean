/-! The class: its calls that change the ship, the rest. -/
theorem pv_sum_nI {f : Nat → Int32} {g : Nat → Nat} : ∀ {n : Nat}, (∀ i, i < n → f i = nI (g i)) → pv_sum f n = nI (pn_sum g n)
  | 0, _ => rfl
  | n + 1, h => by
    show pv_sum f n + f n = nI (pn_sum g n + g n)
    rw [pv_sum_nI (fun i hi => h i (by omega)), h n (by omega), nI_add]
theorem pz_menus_out {T : pv_T} {Z : pv_Zp} {i : Nat} (hz : PZ Z) (hi : ¬ ((194 ≤ i ∧ i < 324) ∨ i = 408)) : pt_menus T Z i = T i := by
  have h2 := hz.2.1
  unfold pt_menus
  rw [if_neg (by omega), if_neg (by omega), if_neg (by omega)]
theorem pz_menus_len {T : pv_T} {Z : pv_Zp} {m : Nat} (hm : m ≤ Z.2.1) (hm9 : m ≤ 9) : pt_menus T Z (314 + m) = Z.2.2.2.2 (120 + m) := by
  unfold pt_menus
  rw [if_neg (by omega), if_pos (by omega)]
  exact congrArg _ (by omega)
theorem pz_menus_in {T : pv_T} {Z : pv_Zp} {m i w : Nat} (hm : m ≤ Z.2.1) (hm9 : m ≤ 9) (hi : i < Z.2.2.2.2 (120 + m)) (hi4 : i < 4) (hw : w < 3) : pt_menus T Z (194 + 12 * m + 3 * i + w) = Z.2.2.2.2 (12 * m + 3 * i + w) := by
  have e1 : (194 + 12 * m + 3 * i + w - 194) / 12 = m := by omega
  have e2 : (194 + 12 * m + 3 * i + w - 194) % 12 / 3 = i := by omega
  unfold pt_menus
  rw [if_neg (by omega), if_neg (by omega), if_pos (by rw [e1, e2]; exact ⟨by omega, by omega, hm, hi⟩)]
  exact congrArg _ (by omega)
theorem PC_cm {I : pv_IT} {T : pv_T} {Z : pv_Zp} (h : PC I Z) (hz : PZ Z) : cm I 358 (pt_menus T Z) := by
  have h2 := hz.2.1
  have e8 : pt_menus T Z 408 = Z.2.1 + 1 := if_pos rfl
  refine ⟨by rw [e8]; exact h.2.2.2.1, by rw [e8]; omega, fun m hm i hi => ?_⟩
  rw [e8] at hm
  have g := h.2.2.2.2.1 m (by omega) i hi
  unfold pcm at g
  unfold mic
  rw [pz_menus_len (by omega) (by omega)]
  refine ⟨fun hlt => ?_, g.2⟩
  have g1 := g.1 hlt
  have a0 := pz_menus_in (T := T) (Z := Z) (m := m) (i := i) (w := 0) (by omega) (by omega) hlt hi (by omega)
  have a1 := pz_menus_in (T := T) (Z := Z) (m := m) (i := i) (w := 1) (by omega) (by omega) hlt hi (by omega)
  have a2 := pz_menus_in (T := T) (Z := Z) (m := m) (i := i) (w := 2) (by omega) (by omega) hlt hi (by omega)
  rw [show 195 + 12 * m + 3 * i = 194 + 12 * m + 3 * i + 1 by omega, show 196 + 12 * m + 3 * i = 194 + 12 * m + 3 * i + 2 by omega, a1, a2]
  rw [show 194 + 12 * m + 3 * i = 194 + 12 * m + 3 * i + 0 by omega, a0]
  exact g1
set_option maxRecDepth 100000 in
set_option maxHeartbeats 4000000 in
theorem s_X9_pass {Q : pv_Q} {E : pv_E} {d bc bs : Nat} {J : pv_JT} {I : pv_IT} {T : pv_T} {L : List pv_Lot} {H : List pv_S} {B : List Nat} {n : Nat} {a0 : Int32} (hD : 8 ≤ d) (hCA : CA I ((T, L), H, B)) (hw : wx n ((T, L), H, B)) (hn : n ≤ 600) (hbc : 6 ≤ bc) (hbs : 36 ≤ bs) (h : po_ok Q I J [pv_xIA] (po_pass ((T, L), H, B) a0)) : pv_X (pv_ZQ E Q) E d bc bs mX9_pass 0 [(0, .ref (0)), (1, .int (a0))] [] pv_K0 pv_P0 I J := by
  obtain ⟨hC, hH, hB⟩ := id hCA
  replace hC : CR I 1 T L := hC
  replace hH : HR I H := hH
  replace hB : TXc I B := hB
  have hdy : dy (T, L) := hw.1.1
  have htb : tb T := hdy.1
  have hlb : lbs L := hdy.2.1
  have h31 : L.length ≤ 31 := hlb.1
  have h30 : L.length ≤ 30 := hw.1.2.1
  have h404 : T 404 ≤ 60 * n := hw.1.2.2.1
  have hn8 : T 405 ≤ 8 := htb.2.2.1
  have hp8 : T 407 ≤ 8 := htb.2.2.2.2.2.1.1
  have h10 : T 408 ≤ 10 := htb.2.2.2.2.2.2.2.1
  refine px_iload_n dX9_pass_0 rfl ?_
  refine px_iconst (v := nI 1) dX9_pass_1 (by decide) ?_
  refine px_bipush (v := nI 60) dX9_pass_2 (by decide) ?_
  refine c_X9_requireWithin dX9_pass_4 mlX9_33 (by omega)  (by omega) (by omega) (Nat.le_of_ble_eq_true rfl) ⟨fun ha => ?_, fun ha => ?_⟩
  obtain ⟨a, a1, a2, rfl, a3⟩ := pu_in_nI ha (by omega) (by omega)
  refine px_aload_n dX9_pass_7 rfl ?_
  refine px_getR dX9_pass_8 flX9_22 pv_s_main (by decide) (by decide) rfl pv_k_main pv_p_0_2 ?_
  refine px_aload_n dX9_pass_11 rfl ?_
  refine px_getR dX9_pass_12 flX9_10 pv_s_main (by decide) (by decide) rfl pv_k_main pv_p_0_0 ?_
  refine c_X0_save dX9_pass_15 mlX9_54 (by omega) hH hC (Nat.le_of_ble_eq_true rfl) (fun I1 hH1 hF1 => ?_)
  have hC1 : CR I1 1 T L := CR_of hC fun k h1 h2 => hF1 k (by omega)
  refine px_aload_n dX9_pass_18 rfl ?_
  refine px_getR dX9_pass_19 flX9_10 pv_s_main (by decide) (by decide) rfl pv_k_main pv_p_0_0 ?_
  refine px_getR dX9_pass_22 flX9_37 pv_ship_1.1 (by decide) (by decide) rfl pv_ship_1.2.1 pv_ship_1.2.2.1.1 ?_
  refine px_getR dX9_pass_25 flX9_200 pv_ship_1.2.2.1.2.1 (by decide) (by decide) rfl pv_ship_1.2.2.1.2.2.1 pv_ship_1.2.2.1.2.2.2.2.2.2.1.1 ?_
  refine c_X6_sum dX9_pass_28 mlX9_203 (by omega) pv_ship_1.2.2.1.2.2.2.2.2.2.1.2 (Nat.le_of_ble_eq_true rfl) ?_
  refine px_iv (y := nI (pt_sum T 2 8)) (pv_sum_nI (fun i hi => ((hC1.2.1.2.2 i hi).2.2.1).trans (congrArg nI (congrArg T (by omega))))) ?_
  refine px_istore_n dX9_pass_31 (by decide) ?_
  refine px_aload_n dX9_pass_32 rfl ?_
  refine px_getR dX9_pass_33 flX9_10 pv_s_main (by decide) (by decide) rfl pv_k_main pv_p_0_0 ?_
  refine px_iload_n dX9_pass_36 rfl ?_
  refine c_X7_passDays dX9_pass_37 mlX9_206 (by omega) pv_ship_1 hC1 hdy (by omega) (Nat.le_of_ble_eq_true rfl) (fun I2 hC2 hF2 => ?_)
  refine px_aload_n dX9_pass_40 rfl ?_
  refine px_getR dX9_pass_41 flX9_10 pv_s_main (by decide) (by decide) rfl pv_k_main pv_p_0_0 ?_
  refine px_getR dX9_pass_44 flX9_37 pv_ship_1.1 (by decide) (by decide) rfl pv_ship_1.2.1 pv_ship_1.2.2.1.1 ?_
  refine px_getR dX9_pass_47 flX9_200 pv_ship_1.2.2.1.2.1 (by decide) (by decide) rfl pv_ship_1.2.2.1.2.2.1 pv_ship_1.2.2.1.2.2.2.2.2.2.1.1 ?_
  refine c_X6_sum dX9_pass_50 mlX9_203 (by omega) pv_ship_1.2.2.1.2.2.2.2.2.2.1.2 (Nat.le_of_ble_eq_true rfl) ?_
  refine px_iv (y := nI (pt_sum (pd_days (T, L) a).1 2 8)) (pv_sum_nI (fun i hi => ((hC2.2.1.2.2 i hi).2.2.1).trans (congrArg nI (congrArg _ (by omega))))) ?_
  refine px_iload_n dX9_pass_53 rfl ?_
  refine px_isub dX9_pass_54 ?_
  refine px_iret dX9_pass_55 rfl (Or.inl rfl) (po_val (by unfold po_pass at h; simp only [tn, a3] at h; rw [if_pos ha] at h; exact h) ⟨hC2, HR_of hH1 (fun k h1 h2 => hF2 k (by omega)), TXc_of (TXc_of hB (congrFun (hF1 355 (by omega)) 0) (hF1 357 (by omega))) (congrFun (hF2 355 (by omega)) 0) (hF2 357 (by omega))⟩ (fun k hk => (hF2 k (by omega)).trans (hF1 k (by omega))))
  exact py_out rfl (Or.inl rfl) (po_exc (by unfold po_pass at h; rw [if_neg ha] at h; exact h) hCA)
theorem c_X9_pass {z : pv_Z} {E : pv_E} {d bc bs : Nat} {J : pv_JT} {I : pv_IT} {mi : pv_MI} {pc idx : Nat} {lv : pv_LV} {st : List Value} {T : pv_T} {L : List pv_Lot} {H : List pv_S} {B : List Nat} {n : Nat} {a0 : Int32} (hd : decode mi.2.1 pc = .ok (.invokevirtual idx, 3)) (hlk : Cond.methodLink mi.1.cls idx mX9_pass.1 ∈ pv_W) (hD : 8+1 ≤ d) (hCA : CA I ((T, L), H, B)) (hw : wx n ((T, L), H, B)) (hn : n ≤ 600) (hbc : 6 ≤ bc) (hbs : 36 ≤ bs) (hcat : (st.map fun v => v.category).sum ≤ 8) (K : po_ok (pv_K z E d (bc - 6) (bs - 36) mi pc lv st) I J [pv_xIA] (po_pass ((T, L), H, B) a0)) : pv_X z E d bc bs mi pc lv (.int (a0) :: .ref (0) :: st) pv_K0 pv_P0 I J := by
  obtain ⟨bc, rfl⟩ : ∃ b0, bc = 6 + b0 := ⟨bc - 6, by omega⟩
  obtain ⟨bs, rfl⟩ : ∃ b0, bs = 36 + b0 := ⟨bs - 36, by omega⟩
  rw [show 6 + bc - 6 = bc by omega, show 36 + bs - 36 = bs by omega] at K
  obtain ⟨d, rfl⟩ : ∃ d0, d = d0 + 1 := ⟨d - 1, by omega⟩
  have key := px_callV (bc := bc) (bs := bs) (bc1 := 6) (bs1 := 36) (as := [.int (a0)]) (E := E) (z := z) (lv := lv) hd mvX9_pass hlk pv_s_main (by decide) rfl pv_k_main rfl rfl hcat (by exact Nat.le_of_ble_eq_true rfl) (s_X9_pass (by omega) hCA hw hn (Nat.le_refl _) (Nat.le_refl _) K)
  exact key
set_option maxRecDepth 100000 in
set_option maxHeartbeats 4000000 in
theorem s_X9_append {Q : pv_Q} {E : pv_E} {d bc bs : Nat} {J : pv_JT} {I : pv_IT} {T : pv_T} {L : List pv_Lot} {H : List pv_S} {B : List Nat} {n : Nat} {a0 : Int32} (hD : 8 ≤ d) (hCA : CA I ((T, L), H, B)) (hw : wx n ((T, L), H, B)) (hn : n ≤ 600) (hbc : 6 ≤ bc) (hbs : 36 ≤ bs) (h : po_ok Q I J [pv_xIA, pv_xIS] (po_append ((T, L), H, B) a0)) : pv_X (pv_ZQ E Q) E d bc bs mX9_append 0 [(0, .ref (0)), (1, .int (a0))] [] pv_K0 pv_P0 I J := by
  obtain ⟨hC, hH, hB⟩ := id hCA
  replace hC : CR I 1 T L := hC
  replace hH : HR I H := hH
  replace hB : TXc I B := hB
  have hdy : dy (T, L) := hw.1.1
  have htb : tb T := hdy.1
  have hlb : lbs L := hdy.2.1
  have h31 : L.length ≤ 31 := hlb.1
  have h30 : L.length ≤ 30 := hw.1.2.1
  have h404 : T 404 ≤ 60 * n := hw.1.2.2.1
  have hn8 : T 405 ≤ 8 := htb.2.2.1
  have hp8 : T 407 ≤ 8 := htb.2.2.2.2.2.1.1
  have h10 : T 408 ≤ 10 := htb.2.2.2.2.2.2.2.1
  have h60 := hB.2.1
  refine px_iload_n dX9_append_0 rfl ?_
  refine px_bipush (v := nI 33) dX9_append_1 (by decide) ?_
  refine px_bipush (v := nI 126) dX9_append_3 (by decide) ?_
  refine c_X9_requireWithin dX9_append_5 mlX9_33 (by omega)  (by omega) (by omega) (Nat.le_of_ble_eq_true rfl) ⟨fun ha => ?_, fun ha => ?_⟩
  obtain ⟨a, a1, a2, rfl, a3⟩ := pu_in_nI ha (by omega) (by omega)
  refine px_aload_n dX9_append_8 rfl ?_
  refine px_getR dX9_append_9 flX9_29 pv_s_main (by decide) (by decide) rfl pv_k_main pv_p_0_3 ?_
  refine px_getI dX9_append_12 flX9_209 pv_s_text (by decide) (by decide) rfl pv_k_text ?_
  refine px_iv (y := nI (B.length)) (hB.1) ?_
  refine px_bipush (v := nI 60) dX9_append_15 (by decide) ?_
  refine px_icmp_ltN (tgt := 30) dX9_append_17 (by decide) (by omega) (by omega) (fun h5 => ?_) (fun h5 => ?_)
  · refine px_aload_n dX9_append_30 rfl ?_
    refine px_getR dX9_append_31 flX9_29 pv_s_main (by decide) (by decide) rfl pv_k_main pv_p_0_3 ?_
    refine px_getR dX9_append_34 flX9_214 pv_s_text (by decide) (by decide) rfl pv_k_text pv_p_355_1 ?_
    refine px_aload_n dX9_append_37 rfl ?_
    refine px_getR dX9_append_38 flX9_29 pv_s_main (by decide) (by decide) rfl pv_k_main pv_p_0_3 ?_
    refine px_getI dX9_append_41 flX9_209 pv_s_text (by decide) (by decide) rfl pv_k_text ?_
    refine px_iv (y := nI (B.length)) (hB.1) ?_
    refine px_iload_n dX9_append_44 rfl ?_
    refine c_X6_put dX9_append_45 mlX9_93 (by omega) (j := (B.length)) pv_row_356 (by omega) (Nat.le_of_ble_eq_true rfl) ?_
    refine px_aload_n dX9_append_48 rfl ?_
    refine px_getR dX9_append_49 flX9_29 pv_s_main (by decide) (by decide) rfl pv_k_main pv_p_0_3 ?_
    refine px_dup dX9_append_52 rfl ?_
    refine px_getI dX9_append_53 flX9_209 pv_s_text (by decide) (by decide) rfl pv_k_text ?_
    refine px_iv (y := nI (B.length)) (Eq.trans (by simp only [pv_uI_at]; repeat' (first | rfl | omega | split)) (hB.1)) ?_
    refine px_iconst (v := nI 1) dX9_append_56 (by decide) ?_
    refine px_iaddN dX9_append_57 ?_
    refine px_putI dX9_append_58 fwX9_209 pv_s_text (by decide) (by decide) rfl pv_k_text ?_
    refine px_aload_n dX9_append_61 rfl ?_
    refine px_getR dX9_append_62 flX9_29 pv_s_main (by decide) (by decide) rfl pv_k_main pv_p_0_3 ?_
    refine px_getI dX9_append_65 flX9_209 pv_s_text (by decide) (by decide) rfl pv_k_text ?_
    refine px_iv (y := nI ((B.length + 1))) (by simp [pv_uI_at]) ?_
    refine px_iret dX9_append_68 rfl (Or.inl rfl) (po_val (by unfold po_append at h; simp only [tn, a3] at h; rw [if_pos ha] at h; rw [if_pos h5] at h; exact h) ⟨CR_of hC (fun k h1 h2 => ?_), HR_of hH (fun k h1 h2 => ?_), ?_, ?_, fun j hj => ?_⟩ (fun k hk => ?_))
    · rw [pv_uI_ne (by omega), pv_uI_ne (by omega)]
    · rw [pv_uI_ne (by omega), pv_uI_ne (by omega)]
    · simp only [pv_uI_at]; rw [if_pos (by simp), List.length_append]; rfl
    · show (B ++ [a]).length ≤ 60
      rw [List.length_append]; simp; omega
    · replace hj : j < (B ++ [a]).length := hj
      rw [List.length_append] at hj
      replace hj : j < B.length + 1 := hj
      show pv_uI _ _ _ _ 357 j = nI ((B ++ [a]).getD j 0)
      simp only [pv_uI_at]
      rw [if_neg (by omega), List.getD_eq_getElem?_getD]
      by_cases e : j = B.length
      · subst e
        rw [if_pos (by simp), List.getElem?_append_right (Nat.le_refl _)]
        simp
      · rw [if_neg (by omega), List.getElem?_append_left (by omega), ← List.getD_eq_getElem?_getD]
        exact hB.2.2 j (by omega)
    · rw [pv_uI_ne (by omega), pv_uI_ne (by omega)]
  · exact px_throw (pvt_IS (text := "the buffer is full") (by decide)) dX9_append_20 dX9_append_23 dX9_append_24 dX9_append_26 dX9_append_29 rfl (by omega) (by omega) (by omega) rfl (po_exc (by unfold po_append at h; simp only [tn, a3] at h; rw [if_pos ha] at h; rw [if_neg (by omega)] at h; exact h) hCA)
  exact py_out rfl (Or.inl rfl) (po_exc (by unfold po_append at h; rw [if_neg ha] at h; exact h) hCA)
theorem c_X9_append {z : pv_Z} {E : pv_E} {d bc bs : Nat} {J : pv_JT} {I : pv_IT} {mi : pv_MI} {pc idx : Nat} {lv : pv_LV} {st : List Value} {T : pv_T} {L : List pv_Lot} {H : List pv_S} {B : List Nat} {n : Nat} {a0 : Int32} (hd : decode mi.2.1 pc = .ok (.invokevirtual idx, 3)) (hlk : Cond.methodLink mi.1.cls idx mX9_append.1 ∈ pv_W) (hD : 8+1 ≤ d) (hCA : CA I ((T, L), H, B)) (hw : wx n ((T, L), H, B)) (hn : n ≤ 600) (hbc : 6 ≤ bc) (hbs : 36 ≤ bs) (hcat : (st.map fun v => v.category).sum ≤ 8) (K : po_ok (pv_K z E d (bc - 6) (bs - 36) mi pc lv st) I J [pv_xIA, pv_xIS] (po_append ((T, L), H, B) a0)) : pv_X z E d bc bs mi pc lv (.int (a0) :: .ref (0) :: st) pv_K0 pv_P0 I J := by
  obtain ⟨bc, rfl⟩ : ∃ b0, bc = 6 + b0 := ⟨bc - 6, by omega⟩
  obtain ⟨bs, rfl⟩ : ∃ b0, bs = 36 + b0 := ⟨bs - 36, by omega⟩
  rw [show 6 + bc - 6 = bc by omega, show 36 + bs - 36 = bs by omega] at K
  obtain ⟨d, rfl⟩ : ∃ d0, d = d0 + 1 := ⟨d - 1, by omega⟩
  have key := px_callV (bc := bc) (bs := bs) (bc1 := 6) (bs1 := 36) (as := [.int (a0)]) (E := E) (z := z) (lv := lv) hd mvX9_append hlk pv_s_main (by decide) rfl pv_k_main rfl rfl hcat (by exact Nat.le_of_ble_eq_true rfl) (s_X9_append (by omega) hCA hw hn (Nat.le_refl _) (Nat.le_refl _) K)
  exact key
set_option maxRecDepth 100000 in
set_option maxHeartbeats 4000000 in
theorem s_X9_clearBuffer {Q : pv_Q} {E : pv_E} {d bc bs : Nat} {J : pv_JT} {I : pv_IT} {T : pv_T} {L : List pv_Lot} {H : List pv_S} {B : List Nat} {n : Nat} (hD : 8 ≤ d) (hCA : CA I ((T, L), H, B)) (hw : wx n ((T, L), H, B)) (hn : n ≤ 600) (hbc : 6 ≤ bc) (hbs : 36 ≤ bs) (h : po_ok Q I J [] (po_clear ((T, L), H, B) )) : pv_X (pv_ZQ E Q) E d bc bs mX9_clearBuffer 0 [(0, .ref (0))] [] pv_K0 pv_P0 I J := by
  obtain ⟨hC, hH, hB⟩ := id hCA
  replace hC : CR I 1 T L := hC
  replace hH : HR I H := hH
  replace hB : TXc I B := hB
  have hdy : dy (T, L) := hw.1.1
  have htb : tb T := hdy.1
  have hlb : lbs L := hdy.2.1
  have h31 : L.length ≤ 31 := hlb.1
  have h30 : L.length ≤ 30 := hw.1.2.1
  have h404 : T 404 ≤ 60 * n := hw.1.2.2.1
  have hn8 : T 405 ≤ 8 := htb.2.2.1
  have hp8 : T 407 ≤ 8 := htb.2.2.2.2.2.1.1
  have h10 : T 408 ≤ 10 := htb.2.2.2.2.2.2.2.1
  refine px_aload_n dX9_clearBuffer_0 rfl ?_
  refine px_getR dX9_clearBuffer_1 flX9_29 pv_s_main (by decide) (by decide) rfl pv_k_main pv_p_0_3 ?_
  refine px_getI dX9_clearBuffer_4 flX9_209 pv_s_text (by decide) (by decide) rfl pv_k_text ?_
  refine px_iv (y := nI (B.length)) (hB.1) ?_
  refine px_istore_n dX9_clearBuffer_7 (by decide) ?_
  refine px_aload_n dX9_clearBuffer_8 rfl ?_
  refine px_getR dX9_clearBuffer_9 flX9_29 pv_s_main (by decide) (by decide) rfl pv_k_main pv_p_0_3 ?_
  refine px_iconst (v := nI 0) dX9_clearBuffer_12 (by decide) ?_
  refine px_putI dX9_clearBuffer_13 fwX9_209 pv_s_text (by decide) (by decide) rfl pv_k_text ?_
  refine px_iload_n dX9_clearBuffer_16 rfl ?_
  refine px_iret dX9_clearBuffer_17 rfl (Or.inl rfl) (po_val (X' := ((T, L), H, [])) h ⟨CR_of hC (fun k h1 h2 => pv_uI_ne (by omega)), HR_of hH (fun k h1 h2 => pv_uI_ne (by omega)), ?_, Nat.zero_le _, fun j hj => absurd hj (Nat.not_lt_zero _)⟩ (fun k hk => pv_uI_ne (by omega)))
  simp only [pv_uI_at]; rw [if_pos (by simp)]; rfl
theorem c_X9_clearBuffer {z : pv_Z} {E : pv_E} {d bc bs : Nat} {J : pv_JT} {I : pv_IT} {mi : pv_MI} {pc idx : Nat} {lv : pv_LV} {st : List Value} {T : pv_T} {L : List pv_Lot} {H : List pv_S} {B : List Nat} {n : Nat} (hd : decode mi.2.1 pc = .ok (.invokevirtual idx, 3)) (hlk : Cond.methodLink mi.1.cls idx mX9_clearBuffer.1 ∈ pv_W) (hD : 8+1 ≤ d) (hCA : CA I ((T, L), H, B)) (hw : wx n ((T, L), H, B)) (hn : n ≤ 600) (hbc : 6 ≤ bc) (hbs : 36 ≤ bs) (hcat : (st.map fun v => v.category).sum ≤ 8) (K : po_ok (pv_K z E d (bc - 6) (bs - 36) mi pc lv st) I J [] (po_clear ((T, L), H, B) )) : pv_X z E d bc bs mi pc lv (.ref (0) :: st) pv_K0 pv_P0 I J := by
  obtain ⟨bc, rfl⟩ : ∃ b0, bc = 6 + b0 := ⟨bc - 6, by omega⟩
  obtain ⟨bs, rfl⟩ : ∃ b0, bs = 36 + b0 := ⟨bs - 36, by omega⟩
  rw [show 6 + bc - 6 = bc by omega, show 36 + bs - 36 = bs by omega] at K
  obtain ⟨d, rfl⟩ : ∃ d0, d = d0 + 1 := ⟨d - 1, by omega⟩
  have key := px_callV (bc := bc) (bs := bs) (bc1 := 6) (bs1 := 36) (as := []) (E := E) (z := z) (lv := lv) hd mvX9_clearBuffer hlk pv_s_main (by decide) rfl pv_k_main rfl rfl hcat (by exact Nat.le_of_ble_eq_true rfl) (s_X9_clearBuffer (by omega) hCA hw hn (Nat.le_refl _) (Nat.le_refl _) K)
  exact key
set_option maxRecDepth 100000 in
set_option maxHeartbeats 4000000 in
theorem s_X9_load {Q : pv_Q} {E : pv_E} {d bc bs : Nat} {J : pv_JT} {I : pv_IT} {T : pv_T} {L : List pv_Lot} {H : List pv_S} {B : List Nat} {n : Nat} (hD : 8 ≤ d) (hCA : CA I ((T, L), H, B)) (hw : wx n ((T, L), H, B)) (hn : n ≤ 600) (hbc : 6 ≤ bc) (hbs : 36 ≤ bs) (h : po_ok Q I J [pv_xIA, pv_xIS] (po_load ((T, L), H, B) )) : pv_X (pv_ZQ E Q) E d bc bs mX9_load 0 [(0, .ref (0))] [] pv_K0 pv_P0 I J := by
  obtain ⟨hC, hH, hB⟩ := id hCA
  replace hC : CR I 1 T L := hC
  replace hH : HR I H := hH
  replace hB : TXc I B := hB
  have hdy : dy (T, L) := hw.1.1
  have htb : tb T := hdy.1
  have hlb : lbs L := hdy.2.1
  have h31 : L.length ≤ 31 := hlb.1
  have h30 : L.length ≤ 30 := hw.1.2.1
  have h404 : T 404 ≤ 60 * n := hw.1.2.2.1
  have hn8 : T 405 ≤ 8 := htb.2.2.1
  have hp8 : T 407 ≤ 8 := htb.2.2.2.2.2.1.1
  have h10 : T 408 ≤ 10 := htb.2.2.2.2.2.2.2.1
  refine px_aload_n dX9_load_0 rfl ?_
  refine px_getR dX9_load_1 flX9_29 pv_s_main (by decide) (by decide) rfl pv_k_main pv_p_0_3 ?_
  refine c_X3_readMenus dX9_load_4 mlX9_217 (by omega) hB (fun j hj => Nat.lt_trans (hw.2.2.2.2 j hj) (by omega)) (Nat.le_of_ble_eq_true rfl) (fun I1 hP1 hF1 => ?_)
  have hFk : ∀ k, ¬ (k = 355 ∨ k = 358 ∨ k = 360 ∨ k = 362 ∨ k = 364) → I1 k = I k := fun k hk => hF1.1 k (by omega) (by omega) (by omega) (by omega) (by omega)
  have hC1 : CR I1 1 T L := CR_of hC fun k h1 h2 => hFk k (by omega)
  have hH1 : HR I1 H := HR_of hH fun k h1 h2 => hFk k (by omega)
  have hB1 : TXc I1 B := TXc_of hB hF1.2 (hFk 357 (by omega))
  have h60 := hB.2.1
  have hCA1 : CA I1 ((T, L), H, B) := ⟨hC1, hH1, hB1⟩
  have hle : pz_err (bf B) B.length ≤ B.length := by
    unfold pz_err
    cases e : pf_first (fun j => (pz_run (bf B) (j + 1)).isNone) B.length with
    | none => exact Nat.le_refl _
    | some j => exact Nat.le_of_lt (pf_is e).1
  refine px_aload_n dX9_load_7 rfl ?_
  refine px_getR dX9_load_8 flX9_29 pv_s_main (by decide) (by decide) rfl pv_k_main pv_p_0_3 ?_
  refine px_getI dX9_load_11 flX9_209 pv_s_text (by decide) (by decide) rfl pv_k_text ?_
  refine px_iv (y := nI (B.length)) (hB1.1) ?_
  refine px_icmp_ltN (tgt := 27) dX9_load_14 (by decide) (by omega) (by omega) (fun h5 => ?_) (fun h5 => ?_)
  · have hnone : pz_run (bf B) B.length = none := by
      unfold pz_err at h5
      cases e : pf_first (fun j => (pz_run (bf B) (j + 1)).isNone) B.length with
      | none => rw [e] at h5; exact absurd h5 (Nat.lt_irrefl _)
      | some j =>
        have hj := pf_is e
        have hj1 := hj.1
        have hj2 : pz_run (bf B) (j + 1) = none := Option.isNone_iff_eq_none.mp hj.2.1
        have := pz_run_none hj2 (B.length - (j + 1))
        rw [show j + 1 + (B.length - (j + 1)) = B.length by omega] at this
        exact this
    have hr : po_load ((T, L), H, B) = (1, 0, ((T, L), H, B)) := by
      unfold po_load
      show (match pz_run (bf B) B.length with
        | some Z => po_loadZ ((T, L), H, B) Z
        | none => (1, 0, ((T, L), H, B))) = _
      rw [hnone]
    rw [hr] at h
    exact px_throw (pvt_IA (text := "the buffer is not a complete text of menus") (by decide)) dX9_load_27 dX9_load_30 dX9_load_31 dX9_load_33 dX9_load_36 rfl (by omega) (by omega) (by omega) rfl (h I1 hCA1 (fun k hk => hFk k (by omega)))
  · have hsome : ∃ Z, pz_run (bf B) B.length = some Z := by
      cases e : pz_run (bf B) B.length with
      | some Z => exact ⟨Z, rfl⟩
      | none =>
        exfalso
        rcases Nat.eq_zero_or_pos B.length with e0 | e0
        · rw [e0] at e; cases e
        · unfold pz_err at h5
          cases e1 : pf_first (fun j => (pz_run (bf B) (j + 1)).isNone) B.length with
          | none =>
            have := pf_isnone e1 (B.length - 1) (by omega)
            rw [show B.length - 1 + 1 = B.length by omega, e] at this
            cases this
          | some j =>
            have hj := (pf_is e1).1
            rw [e1] at h5
            replace h5 : B.length ≤ j := h5
            omega
    obtain ⟨Z, hZ⟩ := hsome
    have hP := hP1 Z hZ
    have hg := pz_run_ok hZ
    have hr : po_load ((T, L), H, B) = po_loadZ ((T, L), H, B) Z := by
      unfold po_load
      show (match pz_run (bf B) B.length with
        | some Z => po_loadZ ((T, L), H, B) Z
        | none => (1, 0, ((T, L), H, B))) = _
      rw [hZ]
    rw [hr] at h
    unfold po_loadZ at h
    have z4 := hg.1.2.2.2.1
    have z2 := hg.1.2.1
    refine px_aload_n dX9_load_17 rfl ?_
    refine px_getR dX9_load_18 flX9_29 pv_s_main (by decide) (by decide) rfl pv_k_main pv_p_0_3 ?_
    refine c_X3_isComplete dX9_load_21 mlX9_220 (by omega) hP hg.1 (Nat.le_of_ble_eq_true rfl) ?_
    refine px_if_neB (tgt := 37) dX9_load_24 (by decide) (fun h6 => ?_) (fun h6 => ?_)
    · rw [if_pos h6] at h
      refine px_aload_n dX9_load_37 rfl ?_
      refine px_getR dX9_load_38 flX9_29 pv_s_main (by decide) (by decide) rfl pv_k_main pv_p_0_3 ?_
      refine px_getI dX9_load_41 flX9_226 pv_s_text (by decide) (by decide) rfl pv_k_text ?_
      refine px_iv (y := nI Z.2.2.2.1 - nI 1) hP.1 ?_
      refine px_aload_n dX9_load_44 rfl ?_
      refine px_getR dX9_load_45 flX9_10 pv_s_main (by decide) (by decide) rfl pv_k_main pv_p_0_0 ?_
      refine px_getR dX9_load_48 flX9_37 pv_ship_1.1 (by decide) (by decide) rfl pv_ship_1.2.1 pv_ship_1.2.2.1.1 ?_
      refine px_getI dX9_load_51 flX9_41 pv_ship_1.2.2.1.2.1 (by decide) (by decide) rfl pv_ship_1.2.2.1.2.2.1 ?_
      refine px_iv (y := nI (T 405)) (hC1.2.1.1) ?_
      have hcmp : nI Z.2.2.2.1 - nI 1 < nI (T 405) ↔ Z.2.2.2.1 ≤ T 405 := by
        rw [Int32.lt_iff_toInt_lt, pk_sub_toInt (b := 1) (by omega) (by omega), nI_toInt (by omega)]
        omega
      refine px_icmp_lt (tgt := 67) dX9_load_54 (by decide) (fun h7 => ?_) (fun h7 => ?_)
      · rw [if_pos (show Z.2.2.2.1 ≤ T 405 from hcmp.mp h7)] at h
        refine px_aload_n dX9_load_67 rfl ?_
        refine px_getR dX9_load_68 flX9_22 pv_s_main (by decide) (by decide) rfl pv_k_main pv_p_0_2 ?_
        refine px_aload_n dX9_load_71 rfl ?_
        refine px_getR dX9_load_72 flX9_10 pv_s_main (by decide) (by decide) rfl pv_k_main pv_p_0_0 ?_
        refine c_X0_save dX9_load_75 mlX9_54 (by omega) hH1 hC1 (Nat.le_of_ble_eq_true rfl) (fun I2 hH2 hF2 => ?_)
        have hC2 : CR I2 1 T L := CR_of hC1 fun k h1 h2 => hF2 k (by omega)
        have hm2 : cm I2 358 (pt_menus T Z) := cm_of (PC_cm hP hg.1) fun k h1 h2 => hF2 k (by omega)
        refine px_aload_n dX9_load_78 rfl ?_
        refine px_getR dX9_load_79 flX9_10 pv_s_main (by decide) (by decide) rfl pv_k_main pv_p_0_0 ?_
        refine px_getR dX9_load_82 flX9_231 pv_ship_1.1 (by decide) (by decide) rfl pv_ship_1.2.1 pv_ship_1.2.2.2.2.2.2.1.1 ?_
        refine px_aload_n dX9_load_85 rfl ?_
        refine px_getR dX9_load_86 flX9_29 pv_s_main (by decide) (by decide) rfl pv_k_main pv_p_0_3 ?_
        refine px_getR dX9_load_89 flX9_235 pv_s_text (by decide) (by decide) rfl pv_k_text pv_p_355_2 ?_
        refine c_X4_become dX9_load_92 mlX9_236 (by omega) pv_ship_1.2.2.2.2.2.2.1.2 pv_menus_358 hm2 (by omega) (Nat.le_of_ble_eq_true rfl) (fun I3 hM3 hF3 => ?_)
        have hC3 : CR I3 1 (pt_menus T Z) L := CR_cm hC2 hM3 (fun k h1 h2 h3 => hF3 k (by omega)) (fun i hi => pz_menus_out hg.1 hi)
        refine px_aload_n dX9_load_95 rfl ?_
        refine px_getR dX9_load_96 flX9_29 pv_s_main (by decide) (by decide) rfl pv_k_main pv_p_0_3 ?_
        refine px_iconst (v := nI 0) dX9_load_99 (by decide) ?_
        refine px_putI dX9_load_100 fwX9_209 pv_s_text (by decide) (by decide) rfl pv_k_text ?_
        refine px_aload_n dX9_load_103 rfl ?_
        refine px_getR dX9_load_104 flX9_10 pv_s_main (by decide) (by decide) rfl pv_k_main pv_p_0_0 ?_
        refine px_getR dX9_load_107 flX9_231 pv_ship_1.1 (by decide) (by decide) rfl pv_ship_1.2.1 pv_ship_1.2.2.2.2.2.2.1.1 ?_
        refine px_getI dX9_load_110 flX9_242 pv_ship_1.2.2.2.2.2.2.1.2.1 (by decide) (by decide) rfl pv_ship_1.2.2.2.2.2.2.1.2.2.1 ?_
        refine px_iv (y := nI ((Z.2.1 + 1))) ((congrFun (pv_uI_ne (by omega)) 0).trans (hM3.1.trans (congrArg nI (if_pos rfl)))) ?_
        refine px_iret dX9_load_113 rfl (Or.inl rfl) (po_val h ⟨CR_of hC3 (fun k h1 h2 => pv_uI_ne (by omega)), HR_of hH2 (fun k h1 h2 => (pv_uI_ne (by omega)).trans (hF3 k (by omega))), ?_, Nat.zero_le _, fun j hj => absurd hj (Nat.not_lt_zero _)⟩ (fun k hk => ?_))
        · simp only [pv_uI_at]; rw [if_pos (by simp)]; rfl
        · rw [pv_uI_ne (by omega), hF3 k (by omega), hF2 k (by omega)]
          exact hFk k (by omega)
      · rw [if_neg (show ¬ Z.2.2.2.1 ≤ T 405 from fun z => h7 (hcmp.mpr z))] at h
        exact px_throw (pvt_IS (text := "the buffer names a kind that does not exist") (by decide)) dX9_load_57 dX9_load_60 dX9_load_61 dX9_load_63 dX9_load_66 rfl (by omega) (by omega) (by omega) rfl (h I1 hCA1 (fun k hk => hFk k (by omega)))
    · rw [if_neg h6] at h
      exact px_throw (pvt_IA (text := "the buffer is not a complete text of menus") (by decide)) dX9_load_27 dX9_load_30 dX9_load_31 dX9_load_33 dX9_load_36 rfl (by omega) (by omega) (by omega) rfl (h I1 hCA1 (fun k hk => hFk k (by omega)))
theorem c_X9_load {z : pv_Z} {E : pv_E} {d bc bs : Nat} {J : pv_JT} {I : pv_IT} {mi : pv_MI} {pc idx : Nat} {lv : pv_LV} {st : List Value} {T : pv_T} {L : List pv_Lot} {H : List pv_S} {B : List Nat} {n : Nat} (hd : decode mi.2.1 pc = .ok (.invokevirtual idx, 3)) (hlk : Cond.methodLink mi.1.cls idx mX9_load.1 ∈ pv_W) (hD : 8+1 ≤ d) (hCA : CA I ((T, L), H, B)) (hw : wx n ((T, L), H, B)) (hn : n ≤ 600) (hbc : 6 ≤ bc) (hbs : 36 ≤ bs) (hcat : (st.map fun v => v.category).sum ≤ 8) (K : po_ok (pv_K z E d (bc - 6) (bs - 36) mi pc lv st) I J [pv_xIA, pv_xIS] (po_load ((T, L), H, B) )) : pv_X z E d bc bs mi pc lv (.ref (0) :: st) pv_K0 pv_P0 I J := by
  obtain ⟨bc, rfl⟩ : ∃ b0, bc = 6 + b0 := ⟨bc - 6, by omega⟩
  obtain ⟨bs, rfl⟩ : ∃ b0, bs = 36 + b0 := ⟨bs - 36, by omega⟩
  rw [show 6 + bc - 6 = bc by omega, show 36 + bs - 36 = bs by omega] at K
  obtain ⟨d, rfl⟩ : ∃ d0, d = d0 + 1 := ⟨d - 1, by omega⟩
  have key := px_callV (bc := bc) (bs := bs) (bc1 := 6) (bs1 := 36) (as := []) (E := E) (z := z) (lv := lv) hd mvX9_load hlk pv_s_main (by decide) rfl pv_k_main rfl rfl hcat (by exact Nat.le_of_ble_eq_true rfl) (s_X9_load (by omega) hCA hw hn (Nat.le_refl _) (Nat.le_refl _) K)
  exact key
