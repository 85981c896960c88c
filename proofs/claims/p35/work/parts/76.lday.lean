/-! The law: a day, whole. -/
theorem pv_P0n_ok : pv_P0L.all (fun r => r.all (fun o => match o with | none => true | some a => Nat.blt a 370)) = true := by decide +kernel
theorem pv_P0n (k j : Nat) : pv_P0 k j ≠ some 370 ∧ ∀ a, pv_P0 k j = some a → a < 370 := by
  have key : ∀ a, pv_P0 k j = some a → a < 370 := by
    intro a h
    unfold pv_P0 at h
    rw [List.getD_eq_getElem?_getD, List.getD_eq_getElem?_getD] at h
    cases e1 : pv_P0L[k]? with
    | none => rw [e1] at h; simp at h
    | some r =>
      rw [e1] at h
      have h1 := List.all_eq_true.mp pv_P0n_ok r (List.mem_of_getElem? e1)
      cases e2 : r[j]? with
      | none =>
        rw [show (some r).getD [] = r from rfl, e2] at h
        cases h
      | some o =>
        rw [show (some r).getD [] = r from rfl, e2] at h
        have h2 := List.all_eq_true.mp h1 o (List.mem_of_getElem? e2)
        have h3 : o = some a := h
        rw [h3] at h2
        exact Nat.blt_eq.mp h2
  exact ⟨fun h => absurd (key 370 h) (by omega), key⟩
theorem px_of {z : pv_Z} {E : pv_E} {a b d bc bs : Nat} {mi : pv_MI} {pc : Nat} {lv : pv_LV} {st : List Value} {sz : Nat} {P : pv_PT} {I : pv_IT} {J : pv_JT} (k : pv_X z (pv_of E b) d bc bs mi pc lv st sz P I J) : pv_X z (pv_of (pv_of E a) b) d bc bs mi pc lv st sz P I J := k
theorem pv_s370 : pv_shp 370 = (20, 13) := by decide +kernel
set_option maxRecDepth 100000 in
set_option maxHeartbeats 4000000 in
theorem s_L_day {Q : pv_Q} {E : pv_E} {off d bc bs : Nat} {J : pv_JT} {I : pv_IT} {T : pv_T} {L : List pv_Lot} (hD9 : 2 ≤ d) (hQD : qD I T L.length) (hQK : qK I T) (hQL : qL I L) (hQM : qM I T) (hdy : dy (T, L)) (hqb : qb T L) (hmk : qmk T) (hkk : ∀ l, l < L.length → (pl_g L l).1 < T 405) (h404 : T 404 < 2147483648) (h : ∀ I' : pv_IT, qD I' (pd_day (T, L)).1 (pd_day (T, L)).2.length → qK I' (pd_day (T, L)).1 → qL I' (pd_day (T, L)).2 → (∀ j, j < 365 ∨ j = 368 ∨ j = 369 → I' j = I j) → Q (.inl none) pv_K0 pv_P0 I' J) : pv_X (pv_ZD E Q) (pv_of E off) d (1 + bc) (13 + bs) mL_day 0 [(0, .ref 365), (1, .ref 366), (2, .ref 367), (3, .ref 368)] [] pv_K0 pv_P0 (I) (J) := by
  obtain ⟨hb, hlb, hlo⟩ := id hdy
  replace hb : tb T := hb
  replace hlb : lbs L := hlb
  replace hlo : lo_ok L := hlo
  obtain ⟨q4, q11, q3, qm3, qp4⟩ := id hqb
  have h408 : 1 ≤ T 408 := hb.2.2.2.2.2.2.1
  have hm := Nat.mod_lt (T 404) (show 0 < T 408 from h408)
  have h408b : T 408 ≤ 10 := hb.2.2.2.2.2.2.2.1
  refine px_bipush (v := nI 13) dL_day_0 (by decide) ?_
  refine px_newD dL_day_2 pv_aI pv_s370 rfl (Or.inr rfl) pv_P0n rfl rfl (fun off1 => px_of ?_)
  refine px_astore dL_day_4 (by decide) ?_
  refine px_iconst (v := nI 0) dL_day_6 (by decide) ?_
  refine px_istore dL_day_7 (by decide) ?_
  have key : ∀ i : Nat, i ≤ L.length → ∀ I1 : pv_IT, (∀ l, l < i → I1 370 l = nI (pd_mornings (T, L) l)) → (∀ j, j ≠ 370 → I1 j = I j) → pv_X (pv_ZD E Q) (pv_of E off1) d bc bs mL_day 9 [(0, .ref 365), (1, .ref 366), (2, .ref 367), (3, .ref 368), (4, .ref 370), (5, .int (nI (i)))] [] pv_K0 pv_P0 (I1) (J) := by
    refine pv_up (L.length) ?_ ?_
    · intro I1 hI1 hF
      have hD1 := qD_of hQD (hF 365 (by omega)) (fun _ _ => rfl)
      refine px_iload dL_day_9 rfl ?_
      refine px_aload_n dL_day_11 rfl ?_
      refine px_iconst (v := nI 1) dL_day_12 (by decide) ?_
      refine px_iald (j := 1) dL_day_13 pv_a_d.1 rfl (by omega) pv_a_d.2.2 pv_a_d.2.1 ?_
      refine px_iv (y := nI (L.length)) (hD1.1) ?_
      refine px_icmp_geN (tgt := 36) dL_day_14 (by decide) (by omega) (by omega) (fun _ => ?_) (fun h0 => absurd h0 (by omega))
      refine px_aload_n dL_day_36 rfl ?_
      refine px_iconst (v := nI 3) dL_day_37 (by decide) ?_
      refine px_iald (j := 3) dL_day_38 pv_a_d.1 rfl (by omega) pv_a_d.2.2 pv_a_d.2.1 ?_
      refine px_iv (y := nI (T 404)) (qD_3 hD1) ?_
      refine px_aload_n dL_day_39 rfl ?_
      refine px_iconst (v := nI 2) dL_day_40 (by decide) ?_
      refine px_iald (j := 2) dL_day_41 pv_a_d.1 rfl (by omega) pv_a_d.2.2 pv_a_d.2.1 ?_
      refine px_iv (y := nI (T 408)) (qD_2 hD1) ?_
      refine px_iremN (by omega) (by omega) (by omega) dL_day_42 ?_
      refine px_istore dL_day_43 (by decide) ?_
      refine px_iconst (v := nI 0) dL_day_45 (by decide) ?_
      refine px_istore dL_day_46 (by decide) ?_
      refine px_iconst (v := nI 0) dL_day_48 (by decide) ?_
      refine px_istore dL_day_49 (by decide) ?_
      have e4 := pd_items_4 (D := pd_mornings (T, L)) (s := (T, L)) hm hb hlb (Nat.le_trans (qm3 _ hm) (by omega))
      have hsv : pd_served (T, L) = pd_items (pd_mornings (T, L)) (T 404 % T 408) (T, L) (T (314 + T 404 % T 408)) := e4
      have hok := pd_served_ok hdy
      rw [hsv] at hok
      generalize hss : pd_items (pd_mornings (T, L)) (T 404 % T 408) (T, L) (T (314 + T 404 % T 408)) = ss at hok hsv
      obtain ⟨r, T1, L1⟩ := ss
      obtain ⟨⟨k1, k2, k3⟩, hlb1, hr⟩ := hok
      replace k1 : ∀ j, ¬ (24 ≤ j ∧ j < 64) → T1 j = T j := k1
      replace k2 : L1.length = L.length := k2
      replace k3 : ∀ l, (pl_g L1 l).1 = (pl_g L l).1 ∧ (pl_g L1 l).2.1 = (pl_g L l).2.1 ∧ (pl_g L1 l).2.2.2 = (pl_g L l).2.2.2 := k3
      replace hlb1 : lbs L1 := hlb1
      replace hr : r ≤ 3600 := hr
      have e405 : T1 405 = T 405 := k1 405 (by omega)
      have hdl := pl_drop_le L1
      have hun : ∀ j, j ≠ 412 → (pd_hungry (r, (T1, L1))).1 j = T1 j := fun j hj => pd_hungry_out (r := (r, (T1, L1))) hj
      have hT2 : tb (pd_hungry (r, (T1, L1))).1 := by
        have := tb_hungry hdy
        rw [hsv] at this
        exact this
      have hpd : pd_day (T, L) = (pd_night ((pl_drop L1).foldl (pd_spoil (pd_hungry (r, (T1, L1))).1) (pd_hungry (r, (T1, L1))).1), pl_drop ((pl_drop L1).map (pd_old (pd_hungry (r, (T1, L1))).1))) := by
        unfold pd_day
        rw [hsv, ← pd_age_drop]
        rfl
      have hag : ∀ l, l < (pl_drop L1).length → (pl_g (pl_drop L1) l).2.2.2 < 1000 ∧ (pl_g (pl_drop L1) l).1 < T 405 := fun l hl => by
        have h1 := pl_g_mem hl
        obtain ⟨l2, hl2, e2⟩ := pl_mem_g (List.mem_filter.mp h1).1
        rw [← e2, (k3 l2).1, (k3 l2).2.2]
        exact ⟨(hlo l2 (by omega)).2, hkk l2 (by omega)⟩
      have e405' : (pd_hungry (r, (T1, L1))).1 405 = T 405 := (hun 405 (by omega)).trans e405
      refine s_L_day_A (T := T) (L := L) (Dm := pd_mornings (T, L)) (m := T 404 % T 408) (by omega) hD1 (qK_of hQK (hF 366 (by omega)) rfl (by omega) (fun _ _ => rfl)) (qL_of hQL (hF 367 (by omega))) (qM_of hQM (hF 368 (by omega)) h408b (fun m hm => (hb.2.2.2.2.2.2.2.2 m hm).1) (fun _ _ => rfl)) hdy hqb hmk (fun l hl => ⟨hI1 l hl, pt_left_le hb (hlb.2 l hl)⟩) hm ?_
      intro I2 hK2 hL2 hF2
      rw [hss] at hK2 hL2 ⊢
      replace hK2 : qK I2 T1 := hK2
      replace hL2 : qL I2 L1 := hL2
      have hD2 : qD I2 T1 L1.length := by rw [k2]; exact qD_of hD1 (hF2 365 (by omega) (by omega)) (fun j hj => k1 _ (by have := dT_ge hj; omega))
      refine s_L_day_B (T := T1) (L := L1) (r := r) (by omega) hD2 hK2 hL2 (by omega) (fun l hl => Nat.lt_of_le_of_lt (hlb1.2 l hl).2.2.1 (by omega)) (by omega) (by omega) ?_
      intro I3 hD3 hK3 hL3 hF3
      refine s_L_day_C (T := (pd_hungry (r, (T1, L1))).1) (L := pl_drop L1) (by omega) hD3 hK3 hL3 (by omega) hT2 (by omega) (lbs_drop hlb1) (fun l hl => (hag l hl).1) (fun l hl => by rw [e405']; exact (hag l hl).2) ?_
      intro I4 hK4 hL4 hF4
      have hfo : ∀ i, ¬ (24 ≤ i ∧ i < 64) → (pl_drop L1).foldl (pd_spoil (pd_hungry (r, (T1, L1))).1) (pd_hungry (r, (T1, L1))).1 i = (pd_hungry (r, (T1, L1))).1 i := fun i hi => pd_fold_out (fun x hx => (lbs_mem.mp (lbs_drop hlb1)).2 x hx |>.1) hi
      have hD4 : qD I4 ((pl_drop L1).foldl (pd_spoil (pd_hungry (r, (T1, L1))).1) (pd_hungry (r, (T1, L1))).1) ((pl_drop L1).map (pd_old (pd_hungry (r, (T1, L1))).1)).length := by
        rw [List.length_map]
        exact qD_of hD3 (hF4 365 (by omega) (by omega)) (fun j hj => hfo _ (by have := dT_ge hj; omega))
      have hma : ∀ l, l < ((pl_drop L1).map (pd_old (pd_hungry (r, (T1, L1))).1)).length → (pl_g ((pl_drop L1).map (pd_old (pd_hungry (r, (T1, L1))).1)) l).2.2.1 < 2147483648 := fun l hl => by
        obtain ⟨x, hx, ex⟩ := List.mem_map.mp (pl_g_mem hl)
        rw [← ex]
        have h1 := ((lbs_mem.mp (lbs_drop hlb1)).2 x hx).2.2.1
        unfold pd_old
        show (if 1000 ≤ pd_grown _ x then 0 else x.2.2.1) < 2147483648
        split <;> omega
      refine s_L_day_D (by omega) hD4 hK4 hL4 (by rw [List.length_map]; omega) hma (by rw [hfo 405 (by omega)]; omega) (fun s hs => by rw [hfo _ (by omega)]; exact (hT2.2.1 s hs).2) ?_
      intro I5 hD5 hK5 hL5 hF5
      rw [hpd] at h
      exact h I5 hD5 hK5 hL5 (fun j hj => (hF5 j (by omega) (by omega)).trans ((hF4 j (by omega) (by omega)).trans ((hF3 j (by omega) (by omega)).trans ((hF2 j (by omega) (by omega)).trans (hF j (by omega))))))
    · intro i hi K9 I1 hI1 hF
      have hD1 := qD_of hQD (hF 365 (by omega)) (fun _ _ => rfl)
      have hoi := hlo i hi
      unfold lv_ok at hoi
      refine px_iload dL_day_9 rfl ?_
      refine px_aload_n dL_day_11 rfl ?_
      refine px_iconst (v := nI 1) dL_day_12 (by decide) ?_
      refine px_iald (j := 1) dL_day_13 pv_a_d.1 rfl (by omega) pv_a_d.2.2 pv_a_d.2.1 ?_
      refine px_iv (y := nI (L.length)) (hD1.1) ?_
      refine px_icmp_geN (tgt := 36) dL_day_14 (by decide) (by omega) (by omega) (fun h0 => absurd h0 (by omega)) (fun _ => ?_)
      refine px_aload dL_day_17 rfl ?_
      refine px_iload dL_day_19 rfl ?_
      refine px_iload dL_day_21 rfl ?_
      refine px_aload_n dL_day_23 rfl ?_
      refine px_aload_n dL_day_24 rfl ?_
      refine px_aload_n dL_day_25 rfl ?_
      refine c_L_left dL_day_26 mlL_18 (by omega) hD1 (qK_of hQK (hF 366 (by omega)) rfl (by omega) (fun _ _ => rfl)) (qL_of hQL (hF 367 (by omega))) q4 hb hi (by omega) (hlb.2 i hi) (hkk i hi) (by omega) (Nat.le_of_ble_eq_true rfl) ?_
      refine px_iast (j := i) dL_day_29 pv_a_days.1 rfl (by omega) pv_a_days.2.2 pv_a_days.2.1 ?_
      refine px_iincN (c := 1) (by decide) dL_day_30 rfl (by decide) ?_
      refine px_goto (tgt := 9) dL_day_33 (by decide) ?_
      refine px_keep [0, 1, 2, 3, 4, 5] ?_
      refine K9 _ (fun l hl => ?_) (fun j hj => (pv_uI_ne hj).trans (hF j hj))
      rw [pv_uI_at]
      by_cases e : l = i
      · subst e
        rw [if_pos ⟨rfl, rfl⟩]
        rfl
      · rw [if_neg (fun q => e q.2)]
        exact hI1 l (by omega)
  exact key 0 (by omega) _ (fun l hl => absurd hl (Nat.not_lt_zero _)) (fun j hj => pv_zI_ne hj)
theorem c_L_day {z : pv_Z} {E : pv_E} {off d bc bs : Nat} {J : pv_JT} {I : pv_IT} {mi : pv_MI} {pc idx : Nat} {lv : pv_LV} {st : List Value} {T : pv_T} {L : List pv_Lot} (hd : decode mi.2.1 pc = .ok (.invokestatic idx, 3)) (hlk : Cond.methodLink mi.1.cls idx mL_day.1 ∈ pv_W) (hD9 : 2 + 1 ≤ d) (hlv : lv.all (fun q => pv_nr q.2) = true) (hst : st.all pv_nr = true) (hQD : qD I T L.length) (hQK : qK I T) (hQL : qL I L) (hQM : qM I T) (hdy : dy (T, L)) (hqb : qb T L) (hmk : qmk T) (hkk : ∀ l, l < L.length → (pl_g L l).1 < T 405) (h404 : T 404 < 2147483648) (hcat : (st.map fun v => v.category).sum ≤ 8) (K : ∀ I' : pv_IT, qD I' (pd_day (T, L)).1 (pd_day (T, L)).2.length → qK I' (pd_day (T, L)).1 → qL I' (pd_day (T, L)).2 → (∀ j, j < 365 ∨ j = 368 ∨ j = 369 → I' j = I j) → ∀ off1 : Nat, pv_X z (pv_of E off1) d bc bs mi (pc + 3) lv st pv_K0 pv_P0 I' J) : pv_X z (pv_of E off) d (1 + bc) (13 + bs) mi pc lv (.ref 368 :: .ref 367 :: .ref 366 :: .ref 365 :: st) pv_K0 pv_P0 I J := by
  obtain ⟨d, rfl⟩ : ∃ d0, d = d0 + 1 := ⟨d - 1, by omega⟩
  exact px_callSD (as := [.ref 365, .ref 366, .ref 367, .ref 368]) hd msL_day hlk rfl rfl hcat (by exact Nat.le_of_ble_eq_true rfl) hlv hst (s_L_day (bc := 0) (bs := 0) (by omega) hQD hQK hQL hQM hdy hqb hmk hkk h404 K)
