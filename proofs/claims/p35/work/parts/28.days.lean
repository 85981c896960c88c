/-! The class: the ship, days. -/
theorem CR_hungry {I : pv_IT} {q : Nat} {T : pv_T} {L : List pv_Lot} (h : CR I q T L) : CR (pv_uI I q 4 (nI (T 412 + 1))) q (pt_up T 412 (T 412 + 1)) L := by
  refine CR_sc h ?_ (fun k h1 h2 h3 => pv_uI_ne (by omega)) (fun i hi => pt_un (by omega))
  have h1 := h.1
  unfold sc at h1 ⊢
  simp only [pv_uI_at, pt_at]
  simp
  exact ⟨h1.1, h1.2.1, h1.2.2.1, h1.2.2.2.1⟩
set_option maxRecDepth 100000 in
set_option maxHeartbeats 4000000 in
theorem s_X7_passDay {Q : pv_Q} {E : pv_E} {d bc bs : Nat} {J : pv_JT} {I : pv_IT} {q : Nat} {T : pv_T} {L : List pv_Lot} (hD : 5 ≤ d) (hq : pv_ship q) (hC : CR I q T L) (hdy : dy (T, L)) (h4 : T 404 < 2147483648) (h : ∀ I' : pv_IT, CR I' q (pd_day (T, L)).1 (pd_day (T, L)).2 → (∀ k0 : Nat, k0 < q ∨ q + 44 ≤ k0 → I' k0 = I k0) → Q (.inl none) pv_K0 pv_P0 (I') (J)) : pv_X (pv_ZQ E Q) E d bc bs mX7_passDay 0 [(0, .ref (q))] [] pv_K0 pv_P0 I J := by
  have hL := hC.2.2.2.1.2.1
  have h31 := hL.1
  have hb := hdy.1
  have hmb := hb.2.2.2.2.2.2
  have h10 := hmb.2.1
  have hmn : T 404 % T 408 < T 408 := Nat.mod_lt _ hmb.1
  have key : ∀ i : Nat, i ≤ L.length → ∀ (I0 : pv_IT), (∀ j, j < i → I0 (q + 43) j = nI (pt_left T (pl_g L j))) → (∀ k0 : Nat, k0 ≠ q + 43 → I0 k0 = I k0) → pv_X (pv_ZQ E Q) E d bc bs mX7_passDay 2 [(0, .ref q), (1, .int (nI (i)))] [] pv_K0 pv_P0 (I0) (J) := by
    refine pv_up (L.length) ?_ ?_
    · intro I0 hA0 hF0
      have hC0 : CR I0 q T L := CR_of hC fun k h1 h2 => hF0 k (by omega)
      refine px_iload_n dX7_passDay_2 rfl ?_
      refine px_aload_n dX7_passDay_3 rfl ?_
      refine px_getR dX7_passDay_4 flX7_35 hq.1 (by decide) (by decide) rfl hq.2.1 hq.2.2.2.2.1.1 ?_
      refine px_getI dX7_passDay_7 flX7_94 hq.2.2.2.2.1.2.1 (by decide) (by decide) rfl hq.2.2.2.2.1.2.2.1 ?_
      refine px_iv (y := nI (L.length)) (hC0.2.2.2.1.1) ?_
      refine px_icmp_geN (tgt := 32) dX7_passDay_10 (by decide) (by omega) (by omega) (fun _ => ?_) (fun h0 => absurd h0 (by omega))
      refine px_aload_n dX7_passDay_32 rfl ?_
      refine px_getR dX7_passDay_33 flX7_49 hq.1 (by decide) (by decide) rfl hq.2.1 hq.2.2.2.2.2.2.1.1 ?_
      refine px_aload_n dX7_passDay_36 rfl ?_
      refine px_getI dX7_passDay_37 flX7_79 hq.1 (by decide) (by decide) rfl hq.2.1 ?_
      refine px_iv (y := nI (T 404)) (hC0.1.1) ?_
      refine c_X4_ofDay dX7_passDay_40 mlX7_151 (by omega) hq.2.2.2.2.2.2.1.2 hC0.2.2.2.2.2 hmb.1 (by omega) (Nat.le_of_ble_eq_true rfl) ?_
      have key2 : ∀ i : Nat, i ≤ 4 → ∀ (I1 : pv_IT), CR I1 q (pd_items (pd_mornings (T, L)) (T 404 % T 408) (T, L) (i)).2.1 (pd_items (pd_mornings (T, L)) (T 404 % T 408) (T, L) (i)).2.2 → (∀ k0 : Nat, k0 < q ∨ q + 42 ≤ k0 → I1 k0 = I0 k0) → pv_X (pv_ZQ E Q) E d bc bs mX7_passDay 48 [(0, .ref q), (1, .int (nI (T 404 % T 408))), (2, .int (nI (pd_items (pd_mornings (T, L)) (T 404 % T 408) (T, L) (i)).1)), (3, .int (nI (i)))] [] pv_K0 pv_P0 (I1) (J) := by
        refine pv_up (4) ?_ ?_
        · intro I1 hC1 hF1
          refine px_iload_n dX7_passDay_48 rfl ?_
          refine px_iconst (v := nI 4) dX7_passDay_49 (by decide) ?_
          refine px_icmp_geN (tgt := 75) dX7_passDay_50 (by decide) (by omega) (by omega) (fun _ => ?_) (fun h0 => absurd h0 (by omega))
          refine px_iload_n dX7_passDay_75 rfl ?_
          have hsv := pd_served_ok hdy
          have hsl : (pd_served (T, L)).1 ≤ 3600 := hsv.2.2
          replace hC1 : CR I1 q (pd_served (T, L)).2.1 (pd_served (T, L)).2.2 := hC1
          refine px_iv (y := nI (pd_served (T, L)).1) rfl ?_
          refine px_if_leN (tgt := 89) dX7_passDay_76 (by decide) (by omega) (fun h5 => ?_) (fun h5 => ?_)
          · have hC2 : CR I1 q (pd_hungry (pd_served (T, L))).1 (pd_hungry (pd_served (T, L))).2 := by
              rw [show (pd_hungry (pd_served (T, L))).1 = (pd_served (T, L)).2.1 from if_neg (by omega)]
              exact hC1
            have hF2 : ∀ k0 : Nat, k0 < q ∨ q + 44 ≤ k0 → I1 k0 = I k0 := fun k0 hk => (hF1 k0 (by omega)).trans (hF0 k0 (by omega))
            have hbh := tb_hungry hdy
            have hag : ∀ l, l < (pd_hungry (pd_served (T, L))).2.length → (pl_g (pd_hungry (pd_served (T, L))).2 l).2.2.2 < 1000 := fun l hl => by
              rw [show (pl_g (pd_hungry (pd_served (T, L))).2 l).2.2.2 = (pl_g L l).2.2.2 from (hsv.1.2.2 l).2.2]
              refine (hdy.2.2 l ?_).2
              show l < L.length
              rw [← show (pd_hungry (pd_served (T, L))).2.length = L.length from hsv.1.2.1]
              exact hl
            have hao := pd_age_ok (s := pd_hungry (pd_served (T, L))) hsv.2.1 hag
            refine px_aload_n dX7_passDay_89 rfl ?_
            refine c_X7_ageLots dX7_passDay_90 mlX7_163 (by omega) hq hC2 hbh hag (Nat.le_of_ble_eq_true rfl) (fun I3 hC3 hF3 => ?_)
            refine px_aload_n dX7_passDay_93 rfl ?_
            refine px_getR dX7_passDay_94 flX7_28 hq.1 (by decide) (by decide) rfl hq.2.1 hq.2.2.2.1.1 ?_
            have hba : tb (pd_age (pd_hungry (pd_served (T, L)))).1 := tb_of hbh fun i hi _ _ _ _ => hao.2.2 i hi
            refine c_X8_endDay dX7_passDay_97 mlX7_166 (by omega) hq.2.2.2.1.2 hC3.2.2.1 (fun s hs => (hba.2.1 s hs).2) (Nat.le_of_ble_eq_true rfl) (fun I4 hS4 hF4 => ?_)
            have hC4 : sc I4 q (pd_age (pd_hungry (pd_served (T, L)))).1 := sc_of hC3.1 (hF4 q (by omega))
            refine px_aload_n dX7_passDay_100 rfl ?_
            refine px_dup dX7_passDay_101 rfl ?_
            refine px_getI dX7_passDay_102 flX7_79 hq.1 (by decide) (by decide) rfl hq.2.1 ?_
            refine px_iv (y := nI ((pd_age (pd_hungry (pd_served (T, L)))).1 404)) (hC4.1) ?_
            refine px_iconst (v := nI 1) dX7_passDay_105 (by decide) ?_
            refine px_iaddN dX7_passDay_106 ?_
            refine px_putI dX7_passDay_107 fwX7_79 hq.1 (by decide) (by decide) rfl hq.2.1 ?_
            have hday : CR (pv_uI I4 q 0 (nI ((pd_age (pd_hungry (pd_served (T, L)))).1 404 + 1))) q (pd_day (T, L)).1 (pd_day (T, L)).2 := by
              have eN : ∀ i, i ≠ 404 → ¬ (67 ≤ i ∧ i < 70) → (pd_day (T, L)).1 i = (pd_age (pd_hungry (pd_served (T, L)))).1 i := fun i h1 h2 => by
                show pd_night _ i = _
                unfold pd_night
                rw [if_neg h1, if_neg h2]
              refine ⟨?_, ck_T (ck_of hC3.2.1 fun k h1 h2 => (pv_uI_ne (by omega)).trans (hF4 k (by omega))) fun i hi => eN i (by omega) (by omega), ?_, lt_of hC3.2.2.2.1 fun k h1 h2 => (pv_uI_ne (by omega)).trans (hF4 k (by omega)), cp_T (cp_of hC3.2.2.2.2.1 fun k h1 h2 => (pv_uI_ne (by omega)).trans (hF4 k (by omega))) fun i hi hi2 => eN i (by omega) (by omega), cm_T (cm_of hC3.2.2.2.2.2 fun k h1 h2 => (pv_uI_ne (by omega)).trans (hF4 k (by omega))) fun i hi => eN i (by omega) (by omega)⟩
              · unfold sc at hC4 ⊢
                rw [eN 409 (by omega) (by omega), eN 410 (by omega) (by omega), eN 411 (by omega) (by omega), eN 412 (by omega) (by omega)]
                simp only [pv_uI_at]
                simp
                exact ⟨rfl, hC4.2.1, hC4.2.2.1, hC4.2.2.2.1, hC4.2.2.2.2⟩
              · intro s hs
                refine ⟨?_, ?_⟩
                · rw [eN (64 + s) (by omega) (by omega), pv_uI_ne (by omega), hF4 _ (by omega)]
                  exact (hC3.2.2.1 s hs).1
                · rw [pv_uI_ne (by omega), show q + 14 + 4 = q + 14 + 4 from rfl, hS4 s hs]
                  show nI _ = nI (pd_night (pd_age (pd_hungry (pd_served (T, L)))).1 (67 + s))
                  unfold pd_night
                  rw [if_neg (by omega), if_pos (by omega)]
            exact px_vret dX7_passDay_110 rfl (Or.inl rfl) (h _ hday (fun k0 hk => (pv_uI_ne (by omega)).trans ((hF4 k0 (by omega)).trans ((hF3 k0 (by omega)).trans (hF2 k0 hk)))))
          · refine px_aload_n dX7_passDay_79 rfl ?_
            refine px_dup dX7_passDay_80 rfl ?_
            refine px_getI dX7_passDay_81 flX7_160 hq.1 (by decide) (by decide) rfl hq.2.1 ?_
            refine px_iv (y := nI ((pd_served (T, L)).2.1 412)) (hC1.1.2.2.2.2) ?_
            refine px_iconst (v := nI 1) dX7_passDay_84 (by decide) ?_
            refine px_iaddN dX7_passDay_85 ?_
            refine px_putI dX7_passDay_86 fwX7_160 hq.1 (by decide) (by decide) rfl hq.2.1 ?_
            have hC2 : CR (pv_uI I1 q 4 (nI ((pd_served (T, L)).2.1 412 + 1))) q (pd_hungry (pd_served (T, L))).1 (pd_hungry (pd_served (T, L))).2 := by
              rw [show (pd_hungry (pd_served (T, L))).1 = pt_up (pd_served (T, L)).2.1 412 ((pd_served (T, L)).2.1 412 + 1) from if_pos h5]
              exact CR_hungry hC1
            have hF2 : ∀ k0 : Nat, k0 < q ∨ q + 44 ≤ k0 → (pv_uI I1 q 4 (nI ((pd_served (T, L)).2.1 412 + 1))) k0 = I k0 := fun k0 hk => (pv_uI_ne (by omega)).trans ((hF1 k0 (by omega)).trans (hF0 k0 (by omega)))
            generalize pv_uI I1 q 4 (nI ((pd_served (T, L)).2.1 412 + 1)) = I2 at hC2 hF2 ⊢
            have hbh := tb_hungry hdy
            have hag : ∀ l, l < (pd_hungry (pd_served (T, L))).2.length → (pl_g (pd_hungry (pd_served (T, L))).2 l).2.2.2 < 1000 := fun l hl => by
              rw [show (pl_g (pd_hungry (pd_served (T, L))).2 l).2.2.2 = (pl_g L l).2.2.2 from (hsv.1.2.2 l).2.2]
              refine (hdy.2.2 l ?_).2
              show l < L.length
              rw [← show (pd_hungry (pd_served (T, L))).2.length = L.length from hsv.1.2.1]
              exact hl
            have hao := pd_age_ok (s := pd_hungry (pd_served (T, L))) hsv.2.1 hag
            refine px_aload_n dX7_passDay_89 rfl ?_
            refine c_X7_ageLots dX7_passDay_90 mlX7_163 (by omega) hq hC2 hbh hag (Nat.le_of_ble_eq_true rfl) (fun I3 hC3 hF3 => ?_)
            refine px_aload_n dX7_passDay_93 rfl ?_
            refine px_getR dX7_passDay_94 flX7_28 hq.1 (by decide) (by decide) rfl hq.2.1 hq.2.2.2.1.1 ?_
            have hba : tb (pd_age (pd_hungry (pd_served (T, L)))).1 := tb_of hbh fun i hi _ _ _ _ => hao.2.2 i hi
            refine c_X8_endDay dX7_passDay_97 mlX7_166 (by omega) hq.2.2.2.1.2 hC3.2.2.1 (fun s hs => (hba.2.1 s hs).2) (Nat.le_of_ble_eq_true rfl) (fun I4 hS4 hF4 => ?_)
            have hC4 : sc I4 q (pd_age (pd_hungry (pd_served (T, L)))).1 := sc_of hC3.1 (hF4 q (by omega))
            refine px_aload_n dX7_passDay_100 rfl ?_
            refine px_dup dX7_passDay_101 rfl ?_
            refine px_getI dX7_passDay_102 flX7_79 hq.1 (by decide) (by decide) rfl hq.2.1 ?_
            refine px_iv (y := nI ((pd_age (pd_hungry (pd_served (T, L)))).1 404)) (Eq.trans (by simp only [pv_uI_at]; repeat' (first | rfl | omega | split)) (hC4.1)) ?_
            refine px_iconst (v := nI 1) dX7_passDay_105 (by decide) ?_
            refine px_iaddN dX7_passDay_106 ?_
            refine px_putI dX7_passDay_107 fwX7_79 hq.1 (by decide) (by decide) rfl hq.2.1 ?_
            have hday : CR (pv_uI I4 q 0 (nI ((pd_age (pd_hungry (pd_served (T, L)))).1 404 + 1))) q (pd_day (T, L)).1 (pd_day (T, L)).2 := by
              have eN : ∀ i, i ≠ 404 → ¬ (67 ≤ i ∧ i < 70) → (pd_day (T, L)).1 i = (pd_age (pd_hungry (pd_served (T, L)))).1 i := fun i h1 h2 => by
                show pd_night _ i = _
                unfold pd_night
                rw [if_neg h1, if_neg h2]
              refine ⟨?_, ck_T (ck_of hC3.2.1 fun k h1 h2 => (pv_uI_ne (by omega)).trans (hF4 k (by omega))) fun i hi => eN i (by omega) (by omega), ?_, lt_of hC3.2.2.2.1 fun k h1 h2 => (pv_uI_ne (by omega)).trans (hF4 k (by omega)), cp_T (cp_of hC3.2.2.2.2.1 fun k h1 h2 => (pv_uI_ne (by omega)).trans (hF4 k (by omega))) fun i hi hi2 => eN i (by omega) (by omega), cm_T (cm_of hC3.2.2.2.2.2 fun k h1 h2 => (pv_uI_ne (by omega)).trans (hF4 k (by omega))) fun i hi => eN i (by omega) (by omega)⟩
              · unfold sc at hC4 ⊢
                rw [eN 409 (by omega) (by omega), eN 410 (by omega) (by omega), eN 411 (by omega) (by omega), eN 412 (by omega) (by omega)]
                simp only [pv_uI_at]
                simp
                exact ⟨rfl, hC4.2.1, hC4.2.2.1, hC4.2.2.2.1, hC4.2.2.2.2⟩
              · intro s hs
                refine ⟨?_, ?_⟩
                · rw [eN (64 + s) (by omega) (by omega), pv_uI_ne (by omega), hF4 _ (by omega)]
                  exact (hC3.2.2.1 s hs).1
                · rw [pv_uI_ne (by omega), show q + 14 + 4 = q + 14 + 4 from rfl, hS4 s hs]
                  show nI _ = nI (pd_night (pd_age (pd_hungry (pd_served (T, L)))).1 (67 + s))
                  unfold pd_night
                  rw [if_neg (by omega), if_pos (by omega)]
            exact px_vret dX7_passDay_110 rfl (Or.inl rfl) (h _ hday (fun k0 hk => (pv_uI_ne (by omega)).trans ((hF4 k0 (by omega)).trans ((hF3 k0 (by omega)).trans (hF2 k0 hk)))))
        · intro i hi K I1 hC1 hF1
          have hit := pd_items_like (D := (pd_mornings (T, L))) (s := (T, L)) hmn hb hL i
          have hin := hit.2.2
          have hM1 : ∀ l, l < (pd_items (pd_mornings (T, L)) (T 404 % T 408) (T, L) i).2.2.length → I1 (q + 43) l = nI ((pd_mornings (T, L)) l) ∧ (pd_mornings (T, L)) l ≤ 2100 := fun l hl => by
            have hlL : l < L.length := by rw [← show (pd_items (pd_mornings (T, L)) (T 404 % T 408) (T, L) i).2.2.length = L.length from hit.1.2.1]; exact hl
            rw [hF1 _ (by omega)]
            exact ⟨hA0 l hlL, pt_left_le hb (hL.2 l hlL)⟩
          refine px_iload_n dX7_passDay_48 rfl ?_
          refine px_iconst (v := nI 4) dX7_passDay_49 (by decide) ?_
          refine px_icmp_geN (tgt := 75) dX7_passDay_50 (by decide) (by omega) (by omega) (fun h0 => absurd h0 (by omega)) (fun _ => ?_)
          refine px_iload_n dX7_passDay_53 rfl ?_
          refine px_aload_n dX7_passDay_54 rfl ?_
          refine px_aload_n dX7_passDay_55 rfl ?_
          refine px_getR dX7_passDay_56 flX7_49 hq.1 (by decide) (by decide) rfl hq.2.1 hq.2.2.2.2.2.2.1.1 ?_
          refine px_iload_n dX7_passDay_59 rfl ?_
          refine px_iload_n dX7_passDay_60 rfl ?_
          refine c_X4_slot dX7_passDay_61 mlX7_154 (by omega) hq.2.2.2.2.2.2.1.2 (Nat.le_of_ble_eq_true rfl) ?_
          refine c_X7_serveItem dX7_passDay_64 mlX7_157 (by omega) (Dm := (pd_mornings (T, L))) (m := T 404 % T 408) (i := i) hq hC1 (tb_like hit.1 hb) hM1 (by rw [hit.1.1 408 (by omega)]; exact hmn) hi (Nat.le_of_ble_eq_true rfl) (fun I2 hC2 hF2 => ?_)
          refine px_iaddN dX7_passDay_67 ?_
          refine px_istore_n dX7_passDay_68 (by decide) ?_
          refine px_iincN (c := 1) (by decide) dX7_passDay_69 rfl (by decide) ?_
          refine px_goto (tgt := 48) dX7_passDay_72 (by decide) ?_
          refine px_keep [0, 1, 2, 3] ?_
          exact K I2 hC2 (fun k0 hk => (hF2 k0 hk).trans (hF1 k0 hk))
      refine px_istore_n dX7_passDay_43 (by decide) ?_
      refine px_iconst (v := nI 0) dX7_passDay_44 (by decide) ?_
      refine px_istore_n dX7_passDay_45 (by decide) ?_
      refine px_iconst (v := nI 0) dX7_passDay_46 (by decide) ?_
      refine px_istore_n dX7_passDay_47 (by decide) ?_
      exact key2 0 (by omega) I0 hC0 (fun _ _ => rfl)
    · intro i hi K I0 hA0 hF0
      have hC0 : CR I0 q T L := CR_of hC fun k h1 h2 => hF0 k (by omega)
      have hoi : lv_ok (pl_g L i) := hdy.2.2 i hi
      unfold lv_ok at hoi
      refine px_iload_n dX7_passDay_2 rfl ?_
      refine px_aload_n dX7_passDay_3 rfl ?_
      refine px_getR dX7_passDay_4 flX7_35 hq.1 (by decide) (by decide) rfl hq.2.1 hq.2.2.2.2.1.1 ?_
      refine px_getI dX7_passDay_7 flX7_94 hq.2.2.2.2.1.2.1 (by decide) (by decide) rfl hq.2.2.2.2.1.2.2.1 ?_
      refine px_iv (y := nI (L.length)) (hC0.2.2.2.1.1) ?_
      refine px_icmp_geN (tgt := 32) dX7_passDay_10 (by decide) (by omega) (by omega) (fun h0 => absurd h0 (by omega)) (fun _ => ?_)
      refine px_aload_n dX7_passDay_13 rfl ?_
      refine px_getR dX7_passDay_14 flX7_58 hq.1 (by decide) (by decide) rfl hq.2.1 hq.2.2.2.2.2.2.2.1 ?_
      refine px_iload_n dX7_passDay_17 rfl ?_
      refine px_aload_n dX7_passDay_18 rfl ?_
      refine px_iload_n dX7_passDay_19 rfl ?_
      refine c_X7_daysLeftOf dX7_passDay_20 mlX7_139 (by omega) hq hC0 hb hi (by omega) (Nat.le_of_ble_eq_true rfl) ?_
      refine c_X6_put dX7_passDay_23 mlX7_148 (by omega) (j := i) hq.2.2.2.2.2.2.2.2 (by omega) (Nat.le_of_ble_eq_true rfl) ?_
      refine px_iincN (c := 1) (by decide) dX7_passDay_26 rfl (by decide) ?_
      refine px_goto (tgt := 2) dX7_passDay_29 (by decide) ?_
      refine px_keep [0, 1] ?_
      refine K _ (fun j hj => ?_) (fun k0 hk => (pv_uI_ne (by omega)).trans (hF0 k0 hk))
      simp only [pv_uI_at]
      by_cases e : j = i
      · subst e
        rw [if_pos (by simp)]
      · rw [if_neg (by omega)]
        exact hA0 j (by omega)
  refine px_iconst (v := nI 0) dX7_passDay_0 (by decide) ?_
  refine px_istore_n dX7_passDay_1 (by decide) ?_
  exact key 0 (by omega) I (fun j hj => absurd hj (Nat.not_lt_zero _)) (fun _ _ => rfl)
theorem c_X7_passDay {z : pv_Z} {E : pv_E} {d bc bs : Nat} {J : pv_JT} {I : pv_IT} {mi : pv_MI} {pc idx : Nat} {lv : pv_LV} {st : List Value} {q : Nat} {T : pv_T} {L : List pv_Lot} (hd : decode mi.2.1 pc = .ok (.invokevirtual idx, 3)) (hlk : Cond.methodLink mi.1.cls idx mX7_passDay.1 ∈ pv_W) (hD : 5+1 ≤ d) (hq : pv_ship q) (hC : CR I q T L) (hdy : dy (T, L)) (h4 : T 404 < 2147483648) (hcat : (st.map fun v => v.category).sum ≤ 8) (K : ∀ I' : pv_IT, CR I' q (pd_day (T, L)).1 (pd_day (T, L)).2 → (∀ k0 : Nat, k0 < q ∨ q + 44 ≤ k0 → I' k0 = I k0) → pv_X z E d bc bs mi (pc + 3) lv (st) pv_K0 pv_P0 (I') (J)) : pv_X z E d bc bs mi pc lv (.ref (q) :: st) pv_K0 pv_P0 I J := by
  obtain ⟨d, rfl⟩ : ∃ d0, d = d0 + 1 := ⟨d - 1, by omega⟩
  have key := px_callV (bc := bc) (bs := bs) (bc1 := 0) (bs1 := 0) (as := []) (E := E) (z := z) (lv := lv) hd mvX7_passDay hlk hq.1 (by decide) rfl hq.2.1 rfl rfl hcat (by exact Nat.le_of_ble_eq_true rfl) (s_X7_passDay (by omega) hq hC hdy h4 K)
  rw [Nat.zero_add, Nat.zero_add] at key
  exact key
set_option maxRecDepth 100000 in
set_option maxHeartbeats 4000000 in
theorem s_X7_passDays {Q : pv_Q} {E : pv_E} {d bc bs : Nat} {J : pv_JT} {I : pv_IT} {q : Nat} {T : pv_T} {L : List pv_Lot} {n : Nat} (hD : 6 ≤ d) (hq : pv_ship q) (hC : CR I q T L) (hdy : dy (T, L)) (h4 : T 404 + n < 2147483648) (h : ∀ I' : pv_IT, CR I' q (pd_days (T, L) n).1 (pd_days (T, L) n).2 → (∀ k0 : Nat, k0 < q ∨ q + 44 ≤ k0 → I' k0 = I k0) → Q (.inl none) pv_K0 pv_P0 (I') (J)) : pv_X (pv_ZQ E Q) E d bc bs mX7_passDays 0 [(0, .ref (q)), (1, .int (nI (n)))] [] pv_K0 pv_P0 I J := by
  have key : ∀ i : Nat, i ≤ n → ∀ I1 : pv_IT, CR I1 q (pd_days (T, L) (i)).1 (pd_days (T, L) (i)).2 → (∀ k0 : Nat, k0 < q ∨ q + 44 ≤ k0 → I1 k0 = I k0) → pv_X (pv_ZQ E Q) E d bc bs mX7_passDays 2 [(0, .ref q), (1, .int (nI n)), (2, .int (nI (i)))] [] pv_K0 pv_P0 (I1) (J) := by
    refine pv_up (n) ?_ ?_
    · intro I1 hC1 hF1
      refine px_iload_n dX7_passDays_2 rfl ?_
      refine px_iload_n dX7_passDays_3 rfl ?_
      refine px_icmp_geN (tgt := 17) dX7_passDays_4 (by decide) (by omega) (by omega) (fun _ => ?_) (fun h0 => absurd h0 (by omega))
      exact px_vret dX7_passDays_17 rfl (Or.inl rfl) (h I1 hC1 hF1)
    · intro i hi K I1 hC1 hF1
      have hok := pd_days_ok hdy i
      have h9 : (pd_days (T, L) i).1 404 = T 404 + i := hok.2.1
      refine px_iload_n dX7_passDays_2 rfl ?_
      refine px_iload_n dX7_passDays_3 rfl ?_
      refine px_icmp_geN (tgt := 17) dX7_passDays_4 (by decide) (by omega) (by omega) (fun h0 => absurd h0 (by omega)) (fun _ => ?_)
      refine px_aload_n dX7_passDays_7 rfl ?_
      refine c_X7_passDay dX7_passDays_8 mlX7_145 (by omega) hq hC1 hok.1 (by omega) (Nat.le_of_ble_eq_true rfl) (fun I2 hC2 hF2 => ?_)
      refine px_iincN (c := 1) (by decide) dX7_passDays_11 rfl (by decide) ?_
      refine px_goto (tgt := 2) dX7_passDays_14 (by decide) ?_
      refine px_keep [0, 1, 2] ?_
      exact K I2 hC2 (fun k0 hk => (hF2 k0 hk).trans (hF1 k0 hk))
  refine px_iconst (v := nI 0) dX7_passDays_0 (by decide) ?_
  refine px_istore_n dX7_passDays_1 (by decide) ?_
  exact key 0 (by omega) I hC (fun _ _ => rfl)
theorem c_X7_passDays {z : pv_Z} {E : pv_E} {d bc bs : Nat} {J : pv_JT} {I : pv_IT} {mi : pv_MI} {pc idx : Nat} {lv : pv_LV} {st : List Value} {q : Nat} {T : pv_T} {L : List pv_Lot} {n : Nat} (hd : decode mi.2.1 pc = .ok (.invokevirtual idx, 3)) (hlk : Cond.methodLink mi.1.cls idx mX7_passDays.1 ∈ pv_W) (hD : 6+1 ≤ d) (hq : pv_ship q) (hC : CR I q T L) (hdy : dy (T, L)) (h4 : T 404 + n < 2147483648) (hcat : (st.map fun v => v.category).sum ≤ 8) (K : ∀ I' : pv_IT, CR I' q (pd_days (T, L) n).1 (pd_days (T, L) n).2 → (∀ k0 : Nat, k0 < q ∨ q + 44 ≤ k0 → I' k0 = I k0) → pv_X z E d bc bs mi (pc + 3) lv (st) pv_K0 pv_P0 (I') (J)) : pv_X z E d bc bs mi pc lv (.int (nI (n)) :: .ref (q) :: st) pv_K0 pv_P0 I J := by
  obtain ⟨d, rfl⟩ : ∃ d0, d = d0 + 1 := ⟨d - 1, by omega⟩
  have key := px_callV (bc := bc) (bs := bs) (bc1 := 0) (bs1 := 0) (as := [.int (nI (n))]) (E := E) (z := z) (lv := lv) hd mvX7_passDays hlk hq.1 (by decide) rfl hq.2.1 rfl rfl hcat (by exact Nat.le_of_ble_eq_true rfl) (s_X7_passDays (by omega) hq hC hdy h4 K)
  rw [Nat.zero_add, Nat.zero_add] at key
  exact key
