/-! The class: its lots, what changes them. -/
theorem lc_get1 {I : pv_IT} {q l : Nat} {L : List pv_Lot} (h : lt_c I q L) (hl : l < L.length) : I (q + 2) l = nI (pl_g L l).1 := (h.2.2 l hl).1
theorem lc_get4 {I : pv_IT} {q l : Nat} {L : List pv_Lot} (h : lt_c I q L) (hl : l < L.length) : I (q + 8) l = nI (pl_g L l).2.2.2 := (h.2.2 l hl).2.2.2
set_option maxRecDepth 100000 in
set_option maxHeartbeats 4000000 in
theorem s_X2_copyLot {Q : pv_Q} {E : pv_E} {d bc bs : Nat} {J : pv_JT} {I : pv_IT} {q f t : Nat} (hD : 2 ≤ d) (hq : pv_lots q) (hf : f < 31) (ht : t < 31) (h : ∀ I' : pv_IT, (I' (q + 2) t = I (q + 2) f ∧ I' (q + 4) t = I (q + 4) f ∧ I' (q + 6) t = I (q + 6) f ∧ I' (q + 8) t = I (q + 8) f) → (∀ k j : Nat, ¬ ((k = q + 2 ∨ k = q + 4 ∨ k = q + 6 ∨ k = q + 8) ∧ j = t) → I' k j = I k j) → Q (.inl none) pv_K0 pv_P0 (I') (J)) : pv_X (pv_ZQ E Q) E d bc bs mX2_copyLot 0 [(0, .ref (q)), (1, .int (nI (f))), (2, .int (nI (t)))] [] pv_K0 pv_P0 I J := by
  refine px_iload_n dX2_copyLot_0 rfl ?_
  refine px_iload_n dX2_copyLot_1 rfl ?_
  refine px_icmp_eqN (tgt := 69) dX2_copyLot_2 (by decide) (by omega) (by omega) (fun h0 => ?_) (fun h0 => ?_)
  · subst h0
    exact px_vret dX2_copyLot_69 rfl (Or.inl rfl) (h I ⟨rfl, rfl, rfl, rfl⟩ (fun _ _ _ => rfl))
  · refine px_aload_n dX2_copyLot_5 rfl ?_
    refine px_getR dX2_copyLot_6 flX2_14 hq.1 (by decide) (by decide) rfl hq.2.1 hq.2.2.1.1 ?_
    refine px_iload_n dX2_copyLot_9 rfl ?_
    refine px_aload_n dX2_copyLot_10 rfl ?_
    refine px_getR dX2_copyLot_11 flX2_14 hq.1 (by decide) (by decide) rfl hq.2.1 hq.2.2.1.1 ?_
    refine px_iload_n dX2_copyLot_14 rfl ?_
    refine c_X6_at dX2_copyLot_15 mlX2_40 (by omega) (j := f) hq.2.2.1.2 (by omega) (Nat.le_of_ble_eq_true rfl) ?_
    refine c_X6_put dX2_copyLot_18 mlX2_33 (by omega) (j := t) hq.2.2.1.2 (by omega) (Nat.le_of_ble_eq_true rfl) ?_
    refine px_aload_n dX2_copyLot_21 rfl ?_
    refine px_getR dX2_copyLot_22 flX2_20 hq.1 (by decide) (by decide) rfl hq.2.1 hq.2.2.2.1.1 ?_
    refine px_iload_n dX2_copyLot_25 rfl ?_
    refine px_aload_n dX2_copyLot_26 rfl ?_
    refine px_getR dX2_copyLot_27 flX2_20 hq.1 (by decide) (by decide) rfl hq.2.1 hq.2.2.2.1.1 ?_
    refine px_iload_n dX2_copyLot_30 rfl ?_
    refine c_X6_at dX2_copyLot_31 mlX2_40 (by omega) (j := f) hq.2.2.2.1.2 (by omega) (Nat.le_of_ble_eq_true rfl) ?_
    refine c_X6_put dX2_copyLot_34 mlX2_33 (by omega) (j := t) hq.2.2.2.1.2 (by omega) (Nat.le_of_ble_eq_true rfl) ?_
    refine px_aload_n dX2_copyLot_37 rfl ?_
    refine px_getR dX2_copyLot_38 flX2_23 hq.1 (by decide) (by decide) rfl hq.2.1 hq.2.2.2.2.1.1 ?_
    refine px_iload_n dX2_copyLot_41 rfl ?_
    refine px_aload_n dX2_copyLot_42 rfl ?_
    refine px_getR dX2_copyLot_43 flX2_23 hq.1 (by decide) (by decide) rfl hq.2.1 hq.2.2.2.2.1.1 ?_
    refine px_iload_n dX2_copyLot_46 rfl ?_
    refine c_X6_at dX2_copyLot_47 mlX2_40 (by omega) (j := f) hq.2.2.2.2.1.2 (by omega) (Nat.le_of_ble_eq_true rfl) ?_
    refine c_X6_put dX2_copyLot_50 mlX2_33 (by omega) (j := t) hq.2.2.2.2.1.2 (by omega) (Nat.le_of_ble_eq_true rfl) ?_
    refine px_aload_n dX2_copyLot_53 rfl ?_
    refine px_getR dX2_copyLot_54 flX2_26 hq.1 (by decide) (by decide) rfl hq.2.1 hq.2.2.2.2.2.1 ?_
    refine px_iload_n dX2_copyLot_57 rfl ?_
    refine px_aload_n dX2_copyLot_58 rfl ?_
    refine px_getR dX2_copyLot_59 flX2_26 hq.1 (by decide) (by decide) rfl hq.2.1 hq.2.2.2.2.2.1 ?_
    refine px_iload_n dX2_copyLot_62 rfl ?_
    refine c_X6_at dX2_copyLot_63 mlX2_40 (by omega) (j := f) hq.2.2.2.2.2.2 (by omega) (Nat.le_of_ble_eq_true rfl) ?_
    refine c_X6_put dX2_copyLot_66 mlX2_33 (by omega) (j := t) hq.2.2.2.2.2.2 (by omega) (Nat.le_of_ble_eq_true rfl) ?_
    refine px_vret dX2_copyLot_69 rfl (Or.inl rfl) (h _ ⟨?_, ?_, ?_, ?_⟩ (fun k j hk => ?_))
    all_goals (simp only [pv_uI_at]; repeat' (first | rfl | omega | exact absurd (And.intro trivial trivial) (by assumption) | split))
theorem c_X2_copyLot {z : pv_Z} {E : pv_E} {d bc bs : Nat} {J : pv_JT} {I : pv_IT} {mi : pv_MI} {pc idx : Nat} {lv : pv_LV} {st : List Value} {q f t : Nat} (hd : decode mi.2.1 pc = .ok (.invokevirtual idx, 3)) (hlk : Cond.methodLink mi.1.cls idx mX2_copyLot.1 ∈ pv_W) (hD : 2+1 ≤ d) (hq : pv_lots q) (hf : f < 31) (ht : t < 31) (hcat : (st.map fun v => v.category).sum ≤ 8) (K : ∀ I' : pv_IT, (I' (q + 2) t = I (q + 2) f ∧ I' (q + 4) t = I (q + 4) f ∧ I' (q + 6) t = I (q + 6) f ∧ I' (q + 8) t = I (q + 8) f) → (∀ k j : Nat, ¬ ((k = q + 2 ∨ k = q + 4 ∨ k = q + 6 ∨ k = q + 8) ∧ j = t) → I' k j = I k j) → pv_X z E d bc bs mi (pc + 3) lv (st) pv_K0 pv_P0 (I') (J)) : pv_X z E d bc bs mi pc lv (.int (nI (t)) :: .int (nI (f)) :: .ref (q) :: st) pv_K0 pv_P0 I J := by
  obtain ⟨d, rfl⟩ : ∃ d0, d = d0 + 1 := ⟨d - 1, by omega⟩
  have key := px_callV (bc := bc) (bs := bs) (bc1 := 0) (bs1 := 0) (as := [.int (nI (f)), .int (nI (t))]) (E := E) (z := z) (lv := lv) hd mvX2_copyLot hlk hq.1 (by decide) rfl hq.2.1 rfl rfl hcat (by exact Nat.le_of_ble_eq_true rfl) (s_X2_copyLot (by omega) hq hf ht K)
  rw [Nat.zero_add, Nat.zero_add] at key
  exact key
set_option maxRecDepth 100000 in
set_option maxHeartbeats 4000000 in
theorem s_X2_dropEmpty {Q : pv_Q} {E : pv_E} {d bc bs : Nat} {J : pv_JT} {I : pv_IT} {q : Nat} {L : List pv_Lot} (hD : 3 ≤ d) (hq : pv_lots q) (hl : lt_c I q L) (h : ∀ I' : pv_IT, lt_c I' q (pl_drop L) → (∀ k0 : Nat, k0 < q ∨ q + 9 ≤ k0 → I' k0 = I k0) → Q (.inl none) pv_K0 pv_P0 (I') (J)) : pv_X (pv_ZQ E Q) E d bc bs mX2_dropEmpty 0 [(0, .ref (q))] [] pv_K0 pv_P0 I J := by
  have hL := hl.2.1.1
  obtain ⟨hn, hbs, hc⟩ := hl
  have key : ∀ i : Nat, i ≤ L.length → ∀ I1 : pv_IT, (∀ l, l < (pl_kept L (i)).length → lc I1 q l (pl_g (pl_kept L (i)) l)) → (∀ l, i ≤ l → l < L.length → lc I1 q l (pl_g L l)) → (∀ k0 : Nat, k0 ≤ q ∨ q + 9 ≤ k0 → I1 k0 = I k0) → pv_X (pv_ZQ E Q) E d bc bs mX2_dropEmpty 4 [(0, .ref q), (1, .int (nI (pl_kept L (i)).length)), (2, .int (nI (i)))] [] pv_K0 pv_P0 (I1) (J) := by
    refine pv_up L.length ?_ ?_
    · intro I1 hK hR hF
      refine px_iload_n dX2_dropEmpty_4 rfl ?_
      refine px_aload_n dX2_dropEmpty_5 rfl ?_
      refine px_getI dX2_dropEmpty_6 flX2_29 hq.1 (by decide) (by decide) rfl hq.2.1 ?_
      refine px_iv (y := nI (L.length)) ((congrFun (hF q (by omega)) 0).trans hn) ?_
      refine px_icmp_geN (tgt := 38) dX2_dropEmpty_9 (by decide) (by omega) (by omega) (fun _ => ?_) (fun h0 => absurd h0 (by omega))
      refine px_aload_n dX2_dropEmpty_38 rfl ?_
      refine px_iload_n dX2_dropEmpty_39 rfl ?_
      refine px_putI dX2_dropEmpty_40 fwX2_29 hq.1 (by decide) (by decide) rfl hq.2.1 ?_
      rw [pl_keptN] at hK ⊢
      refine px_vret dX2_dropEmpty_43 rfl (Or.inl rfl) (h _ ⟨?_, lbs_drop hbs, fun l hl => ?_⟩ (fun k0 hk => ?_))
      · rw [pv_uI_self, pk_us]
      · exact lc_of (hK l hl) fun k hk => congrFun (pv_uI_ne (by omega)) l
      · exact (pv_uI_ne (by omega)).trans (hF k0 (by omega))
    · intro i hi K I1 hK hR hF
      have hb := hbs.2 i hi
      unfold lb at hb
      have hle := pl_kept_le L i
      refine px_iload_n dX2_dropEmpty_4 rfl ?_
      refine px_aload_n dX2_dropEmpty_5 rfl ?_
      refine px_getI dX2_dropEmpty_6 flX2_29 hq.1 (by decide) (by decide) rfl hq.2.1 ?_
      refine px_iv (y := nI (L.length)) ((congrFun (hF q (by omega)) 0).trans hn) ?_
      refine px_icmp_geN (tgt := 38) dX2_dropEmpty_9 (by decide) (by omega) (by omega) (fun h0 => absurd h0 (by omega)) (fun _ => ?_)
      refine px_aload_n dX2_dropEmpty_12 rfl ?_
      refine px_getR dX2_dropEmpty_13 flX2_23 hq.1 (by decide) (by decide) rfl hq.2.1 hq.2.2.2.2.1.1 ?_
      refine px_iload_n dX2_dropEmpty_16 rfl ?_
      refine c_X6_at dX2_dropEmpty_17 mlX2_40 (by omega) (j := i) hq.2.2.2.2.1.2 (by omega) (Nat.le_of_ble_eq_true rfl) ?_
      refine px_iv (y := nI ((pl_g L i).2.2.1)) ((hR i (Nat.le_refl _) hi).2.2.1) ?_
      refine px_if_leN (tgt := 32) dX2_dropEmpty_20 (by decide) (by omega) (fun h0 => ?_) (fun h0 => ?_)
      · refine px_iincN (c := 1) (by decide) dX2_dropEmpty_32 rfl (by decide) ?_
        refine px_goto (tgt := 4) dX2_dropEmpty_35 (by decide) ?_
        refine px_keep [0, 1, 2] ?_
        have e := pl_kept2 hi h0
        have K1 := K I1
        rw [e] at K1
        exact K1 hK (fun l h1 h2 => hR l (by omega) h2) hF
      · refine px_aload_n dX2_dropEmpty_23 rfl ?_
        refine px_iload_n dX2_dropEmpty_24 rfl ?_
        refine px_iload_n dX2_dropEmpty_25 rfl ?_
        refine c_X2_copyLot dX2_dropEmpty_26 mlX2_48 (by omega) hq (by omega) (by omega) (Nat.le_of_ble_eq_true rfl) (fun I2 hC hF2 => ?_)
        refine px_iincN (c := 1) (by decide) dX2_dropEmpty_29 rfl (by decide) ?_
        refine px_iincN (c := 1) (by decide) dX2_dropEmpty_32 rfl (by decide) ?_
        refine px_goto (tgt := 4) dX2_dropEmpty_35 (by decide) ?_
        refine px_keep [0, 1, 2] ?_
        have e := pl_kept1 hi h0
        have K1 := K I2
        rw [e, List.length_append] at K1
        refine K1 (fun l hl => ?_) (fun l h1 h2 => lc_of (hR l (by omega) h2) fun k hk => hF2 k l (by omega)) (fun k0 hk => ?_)
        · rw [pl_g_push]
          have hl' : l < (pl_kept L i).length + 1 := hl
          by_cases e2 : l < (pl_kept L i).length
          · rw [if_pos e2]
            exact lc_of (hK l e2) fun k hk => hF2 k l (by omega)
          · have e3 : l = (pl_kept L i).length := by omega
            subst e3
            rw [if_neg e2, if_pos rfl]
            have h3 := hR i (Nat.le_refl _) hi
            exact ⟨hC.1.trans h3.1, hC.2.1.trans h3.2.1, hC.2.2.1.trans h3.2.2.1, hC.2.2.2.trans h3.2.2.2⟩
        · funext j
          rw [hF2 k0 j (by omega), hF k0 hk]
  refine px_iconst (v := nI 0) dX2_dropEmpty_0 (by decide) ?_
  refine px_istore_n dX2_dropEmpty_1 (by decide) ?_
  refine px_iconst (v := nI 0) dX2_dropEmpty_2 (by decide) ?_
  refine px_istore_n dX2_dropEmpty_3 (by decide) ?_
  exact key 0 (by omega) I (fun l hl => absurd hl (Nat.not_lt_zero _)) (fun l _ hl => hc l hl) (fun _ _ => rfl)
theorem c_X2_dropEmpty {z : pv_Z} {E : pv_E} {d bc bs : Nat} {J : pv_JT} {I : pv_IT} {mi : pv_MI} {pc idx : Nat} {lv : pv_LV} {st : List Value} {q : Nat} {L : List pv_Lot} (hd : decode mi.2.1 pc = .ok (.invokevirtual idx, 3)) (hlk : Cond.methodLink mi.1.cls idx mX2_dropEmpty.1 ∈ pv_W) (hD : 3+1 ≤ d) (hq : pv_lots q) (hl : lt_c I q L) (hcat : (st.map fun v => v.category).sum ≤ 8) (K : ∀ I' : pv_IT, lt_c I' q (pl_drop L) → (∀ k0 : Nat, k0 < q ∨ q + 9 ≤ k0 → I' k0 = I k0) → pv_X z E d bc bs mi (pc + 3) lv (st) pv_K0 pv_P0 (I') (J)) : pv_X z E d bc bs mi pc lv (.ref (q) :: st) pv_K0 pv_P0 I J := by
  obtain ⟨d, rfl⟩ : ∃ d0, d = d0 + 1 := ⟨d - 1, by omega⟩
  have key := px_callV (bc := bc) (bs := bs) (bc1 := 0) (bs1 := 0) (as := []) (E := E) (z := z) (lv := lv) hd mvX2_dropEmpty hlk hq.1 (by decide) rfl hq.2.1 rfl rfl hcat (by exact Nat.le_of_ble_eq_true rfl) (s_X2_dropEmpty (by omega) hq hl K)
  rw [Nat.zero_add, Nat.zero_add] at key
  exact key
