/-! The reference: meals. -/
set_option maxRecDepth 100000 in
set_option maxHeartbeats 4000000 in
theorem s_X10_nextLot {Q : pv_Q} {E : pv_E} {d bc bs : Nat} {J : pv_JT} {I : pv_IT} {T : pv_T} {L : List pv_Lot} {Dm : Nat → Nat} {k : Nat} (hD : 1 ≤ d) (hM : MR (I 366) T L) (hMo : ∀ l, l < L.length → I 370 l = nI (Dm l) ∧ Dm l ≤ 2100) (hk8 : k < 8) (h : Q (.inl (some (.int (oI (pe_next Dm k L L.length))))) pv_K0 pv_P0 (I) (J)) : pv_X (pv_ZQ E Q) E d bc bs mX10_nextLot 0 [(0, .ref (365)), (1, .int (nI (k)))] [] pv_K0 pv_P0 I J := by
  have h31 := hM.2.2.1.1
  have key : ∀ i : Nat, i ≤ L.length → pv_X (pv_ZQ E Q) E d bc bs mX10_nextLot 4 [(0, .ref 365), (1, .int (nI k)), (2, .int (oI (pe_next Dm k L (i)))), (3, .int (nI (i)))] [] pv_K0 pv_P0 (I) (J) := by
    refine pv_up (L.length) ?_ ?_
    · refine px_iload_n dX10_nextLot_4 rfl ?_
      refine px_aload_n dX10_nextLot_5 rfl ?_
      refine px_getR dX10_nextLot_6 flX10_7 pv_s_model (by decide) (by decide) rfl pv_k_model pv_p_365_1 ?_
      refine px_sipush (v := nI 406) dX10_nextLot_9 (by decide) ?_
      refine px_iald (j := 406) dX10_nextLot_12 pv_a_z.1 rfl (by omega) pv_a_z.2.2 pv_a_z.2.1 ?_
      refine px_iv (y := nI (L.length)) (hM.2.1) ?_
      refine px_icmp_geN (tgt := 63) dX10_nextLot_13 (by decide) (by omega) (by omega) (fun _ => ?_) (fun h0 => absurd h0 (by omega))
      refine px_iload_n dX10_nextLot_63 rfl ?_
      exact px_iret dX10_nextLot_64 rfl (Or.inl rfl) (h)
    · intro i hi K 
      have hib := hM.2.2.1.2 i hi
      unfold lb at hib
      have hmi := (hMo i hi).2
      refine px_iload_n dX10_nextLot_4 rfl ?_
      refine px_aload_n dX10_nextLot_5 rfl ?_
      refine px_getR dX10_nextLot_6 flX10_7 pv_s_model (by decide) (by decide) rfl pv_k_model pv_p_365_1 ?_
      refine px_sipush (v := nI 406) dX10_nextLot_9 (by decide) ?_
      refine px_iald (j := 406) dX10_nextLot_12 pv_a_z.1 rfl (by omega) pv_a_z.2.2 pv_a_z.2.1 ?_
      refine px_iv (y := nI (L.length)) (hM.2.1) ?_
      refine px_icmp_geN (tgt := 63) dX10_nextLot_13 (by decide) (by omega) (by omega) (fun h0 => absurd h0 (by omega)) (fun _ => ?_)
      refine px_aload_n dX10_nextLot_16 rfl ?_
      refine px_iload_n dX10_nextLot_17 rfl ?_
      refine px_iconst (v := nI 0) dX10_nextLot_18 (by decide) ?_
      refine c_X10_of dX10_nextLot_19 mlX10_53 (by omega) (by omega) (by omega) (Nat.le_of_ble_eq_true rfl) ?_
      refine px_iv (y := nI ((pl_g L (i)).1)) ((mr_l hM (by omega)).1) ?_
      refine px_iload_n dX10_nextLot_22 rfl ?_
      refine px_icmp_neN (tgt := 57) dX10_nextLot_23 (by decide) (by omega) (by omega) (fun h0 => ?_) (fun h0 => ?_)
      · refine px_iincN (c := 1) (by decide) dX10_nextLot_57 rfl (by decide) ?_
        refine px_goto (tgt := 4) dX10_nextLot_60 (by decide) ?_
        refine px_keep [0, 1, 2, 3] ?_
        have e : pe_next Dm k L (i + 1) = pe_next Dm k L i := by rw [pe_next, if_neg (by omega)]
        rw [e] at K
        exact K
      · refine px_aload_n dX10_nextLot_26 rfl ?_
        refine px_iload_n dX10_nextLot_27 rfl ?_
        refine px_iconst (v := nI 2) dX10_nextLot_28 (by decide) ?_
        refine c_X10_of dX10_nextLot_29 mlX10_53 (by omega) (by omega) (by omega) (Nat.le_of_ble_eq_true rfl) ?_
        refine px_iv (y := nI ((pl_g L (i)).2.2.1)) ((mr_l hM (by omega)).2.2.1) ?_
        refine px_if_leN (tgt := 57) dX10_nextLot_32 (by decide) (by omega) (fun h5 => ?_) (fun h5 => ?_)
        · refine px_iincN (c := 1) (by decide) dX10_nextLot_57 rfl (by decide) ?_
          refine px_goto (tgt := 4) dX10_nextLot_60 (by decide) ?_
          refine px_keep [0, 1, 2, 3] ?_
          have e : pe_next Dm k L (i + 1) = pe_next Dm k L i := by rw [pe_next, if_neg (by omega)]
          rw [e] at K
          exact K
        · refine px_iload_n dX10_nextLot_35 rfl ?_
          refine px_iconst (v := -1) dX10_nextLot_36 (by decide) ?_
          cases e : pe_next Dm k L i with
          | none =>
            have e1 : pe_next Dm k L (i + 1) = some i := by rw [pe_next, if_pos ⟨h0, h5⟩, e]
            rw [e1] at K
            refine px_icmp_eq (tgt := 55) dX10_nextLot_37 (by decide) (fun _ => ?_) (fun h9 => absurd rfl h9)
            refine px_iload_n dX10_nextLot_55 rfl ?_
            refine px_istore_n dX10_nextLot_56 (by decide) ?_
            refine px_iincN (c := 1) (by decide) dX10_nextLot_57 rfl (by decide) ?_
            refine px_goto (tgt := 4) dX10_nextLot_60 (by decide) ?_
            refine px_keep [0, 1, 2, 3] ?_
            exact K
          | some b =>
            have e1 : pe_next Dm k L (i + 1) = if Dm i < Dm b then some i else some b := by rw [pe_next, if_pos ⟨h0, h5⟩, e]
            have hbi := (pe_next_is e).1
            have hmb := (hMo b (by omega)).2
            refine px_icmp_eq (tgt := 55) dX10_nextLot_37 (by decide) (fun h9 => absurd h9 (pn_m1 (by omega))) (fun _ => ?_)
            refine px_aload_n dX10_nextLot_40 rfl ?_
            refine px_getR dX10_nextLot_41 flX10_22 pv_s_model (by decide) (by decide) rfl pv_k_model pv_p_365_7 ?_
            refine px_iload_n dX10_nextLot_44 rfl ?_
            refine px_iald (j := i) dX10_nextLot_45 pv_a_morn.1 rfl (by omega) pv_a_morn.2.2 pv_a_morn.2.1 ?_
            refine px_iv (y := nI (Dm (i))) ((hMo (i) (by omega)).1) ?_
            refine px_aload_n dX10_nextLot_46 rfl ?_
            refine px_getR dX10_nextLot_47 flX10_22 pv_s_model (by decide) (by decide) rfl pv_k_model pv_p_365_7 ?_
            refine px_iload_n dX10_nextLot_50 rfl ?_
            refine px_iald (j := b) dX10_nextLot_51 pv_a_morn.1 rfl (by omega) pv_a_morn.2.2 pv_a_morn.2.1 ?_
            refine px_iv (y := nI (Dm (b))) ((hMo (b) (by omega)).1) ?_
            refine px_icmp_geN (tgt := 57) dX10_nextLot_52 (by decide) (by omega) (by omega) (fun h6 => ?_) (fun h6 => ?_)
            · refine px_iincN (c := 1) (by decide) dX10_nextLot_57 rfl (by decide) ?_
              refine px_goto (tgt := 4) dX10_nextLot_60 (by decide) ?_
              refine px_keep [0, 1, 2, 3] ?_
              rw [if_neg (by omega)] at e1
              rw [e1] at K
              exact K
            · refine px_iload_n dX10_nextLot_55 rfl ?_
              refine px_istore_n dX10_nextLot_56 (by decide) ?_
              refine px_iincN (c := 1) (by decide) dX10_nextLot_57 rfl (by decide) ?_
              refine px_goto (tgt := 4) dX10_nextLot_60 (by decide) ?_
              refine px_keep [0, 1, 2, 3] ?_
              rw [if_pos h6] at e1
              rw [e1] at K
              exact K
  refine px_iconst (v := -1) dX10_nextLot_0 (by decide) ?_
  refine px_istore_n dX10_nextLot_1 (by decide) ?_
  refine px_iconst (v := nI 0) dX10_nextLot_2 (by decide) ?_
  refine px_istore_n dX10_nextLot_3 (by decide) ?_
  exact key 0 (by omega) 
theorem c_X10_nextLot {z : pv_Z} {E : pv_E} {d bc bs : Nat} {J : pv_JT} {I : pv_IT} {mi : pv_MI} {pc idx : Nat} {lv : pv_LV} {st : List Value} {T : pv_T} {L : List pv_Lot} {Dm : Nat → Nat} {k : Nat} (hd : decode mi.2.1 pc = .ok (.invokevirtual idx, 3)) (hlk : Cond.methodLink mi.1.cls idx mX10_nextLot.1 ∈ pv_W) (hD : 1+1 ≤ d) (hM : MR (I 366) T L) (hMo : ∀ l, l < L.length → I 370 l = nI (Dm l) ∧ Dm l ≤ 2100) (hk8 : k < 8) (hcat : (st.map fun v => v.category).sum ≤ 8) (K : pv_X z E d bc bs mi (pc + 3) lv ((.int (oI (pe_next Dm k L L.length))) :: st) pv_K0 pv_P0 (I) (J)) : pv_X z E d bc bs mi pc lv (.int (nI (k)) :: .ref (365) :: st) pv_K0 pv_P0 I J := by
  obtain ⟨d, rfl⟩ : ∃ d0, d = d0 + 1 := ⟨d - 1, by omega⟩
  have key := px_callV (bc := bc) (bs := bs) (bc1 := 0) (bs1 := 0) (as := [.int (nI (k))]) (E := E) (z := z) (lv := lv) hd mvX10_nextLot hlk pv_s_model (by decide) rfl pv_k_model rfl rfl hcat (by exact Nat.le_of_ble_eq_true rfl) (s_X10_nextLot (by omega) hM hMo hk8 K)
  rw [Nat.zero_add, Nat.zero_add] at key
  exact key
set_option maxRecDepth 100000 in
set_option maxHeartbeats 4000000 in
theorem s_X10_eat {Q : pv_Q} {E : pv_E} {d bc bs : Nat} {J : pv_JT} {I : pv_IT} {T : pv_T} {L : List pv_Lot} {Dm : Nat → Nat} {k need : Nat} (hD : 2 ≤ d) (hM : MR (I 366) T L) (hMo : ∀ l, l < L.length → I 370 l = nI (Dm l) ∧ Dm l ≤ 2100) (hk8 : k < 8) (hnd : need < 2147483648) (h : ∀ I' : pv_IT, MR (I' 366) (pd_eat Dm k need (T, L)).2.1 (pd_eat Dm k need (T, L)).2.2 → (∀ k0 : Nat, k0 ≠ 366 → I' k0 = I k0) → Q (.inl (some (.int (nI (pd_eat Dm k need (T, L)).1)))) pv_K0 pv_P0 (I') (J)) : pv_X (pv_ZQ E Q) E d bc bs mX10_eat 0 [(0, .ref (365)), (1, .int (nI (k))), (2, .int (nI (need)))] [] pv_K0 pv_P0 I J := by
  have h31 := hM.2.2.1.1
  have key : ∀ (f a : Nat) (L1 : List pv_Lot) (I1 : pv_IT), MR (I1 366) (pt_up T (25 + 5 * k) (T (25 + 5 * k) + (need - a))) L1 → L1.length = L.length → a ≤ need → (a = 0 ∨ pe_cnt k L1 ≤ f) → pe_eat Dm k f a L1 = pe_eat Dm k L.length need L → (∀ k0 : Nat, k0 ≠ 366 → I1 k0 = I k0) → pv_X (pv_ZQ E Q) E d bc bs mX10_eat 9 [(0, .ref 365), (1, .int (nI k)), (2, .int (nI need)), (3, .int (nI a)), (4, .int (oI (pe_next Dm k L1 L1.length)))] [] pv_K0 pv_P0 I1 J := by
    intro f
    induction f with
    | zero =>
      intro a L1 I1 hM1 hn hle hcn hE hF
      have h31b := hM1.2.2.1.1
      refine px_iload_n dX10_eat_9 rfl ?_
      refine px_if_leN (tgt := 85) dX10_eat_10 (by decide) (by omega) (fun h0 => ?_) (fun h0 => ?_)
      · refine px_iload_n dX10_eat_85 rfl ?_
        have hr : pe_eat Dm k L.length need L = (a, L1) := by rw [← hE, h0, pe_eat0]
        unfold pd_eat at h
        rw [hr] at h
        exact px_iret dX10_eat_86 rfl (Or.inl rfl) (h I1 hM1 hF)
      · refine px_iload dX10_eat_13 rfl ?_
        refine px_iconst (v := -1) dX10_eat_15 (by decide) ?_
        cases e : pe_next Dm k L1 L1.length with
        | none =>
          refine px_icmp_eq (tgt := 85) dX10_eat_16 (by decide) (fun _ => ?_) (fun h9 => absurd rfl h9)
          refine px_iload_n dX10_eat_85 rfl ?_
          have hr : pe_eat Dm k L.length need L = (a, L1) := by rw [← hE, pe_eat_none e]
          unfold pd_eat at h
          rw [hr] at h
          exact px_iret dX10_eat_86 rfl (Or.inl rfl) (h I1 hM1 hF)
        | some b =>
          exfalso
          have hc0 : pe_cnt k L1 = 0 := by omega
          rw [pe_cnt_none hc0] at e
          cases e
    | succ f ih =>
      intro a L1 I1 hM1 hn hle hcn hE hF
      have h31b := hM1.2.2.1.1
      refine px_iload_n dX10_eat_9 rfl ?_
      refine px_if_leN (tgt := 85) dX10_eat_10 (by decide) (by omega) (fun h0 => ?_) (fun h0 => ?_)
      · refine px_iload_n dX10_eat_85 rfl ?_
        have hr : pe_eat Dm k L.length need L = (a, L1) := by rw [← hE, h0, pe_eat0]
        unfold pd_eat at h
        rw [hr] at h
        exact px_iret dX10_eat_86 rfl (Or.inl rfl) (h I1 hM1 hF)
      · refine px_iload dX10_eat_13 rfl ?_
        refine px_iconst (v := -1) dX10_eat_15 (by decide) ?_
        cases e : pe_next Dm k L1 L1.length with
        | none =>
          refine px_icmp_eq (tgt := 85) dX10_eat_16 (by decide) (fun _ => ?_) (fun h9 => absurd rfl h9)
          refine px_iload_n dX10_eat_85 rfl ?_
          have hr : pe_eat Dm k L.length need L = (a, L1) := by rw [← hE, pe_eat_none e]
          unfold pd_eat at h
          rw [hr] at h
          exact px_iret dX10_eat_86 rfl (Or.inl rfl) (h I1 hM1 hF)
        | some b =>
          have hbi := pe_next_is e
          have hb8 := hM1.2.2.1.2 b hbi.1
          unfold lb at hb8
          refine px_icmp_eq (tgt := 85) dX10_eat_16 (by decide) (fun h9 => absurd h9 (pn_m1 (by omega))) (fun _ => ?_)
          rw [pe_eat_some e h0] at hE
          refine px_aload_n dX10_eat_19 rfl ?_
          refine px_iload dX10_eat_20 rfl ?_
          refine px_iconst (v := nI 2) dX10_eat_22 (by decide) ?_
          refine c_X10_of dX10_eat_23 mlX10_53 (by omega) (by omega) (by omega) (Nat.le_of_ble_eq_true rfl) ?_
          refine px_iv (y := nI ((pl_g L1 (b)).2.2.1)) ((mr_l hM1 (by omega)).2.2.1) ?_
          refine px_iload_n dX10_eat_26 rfl ?_
          have main : pv_X (pv_ZQ E Q) E d bc bs mX10_eat 41 [(0, .ref 365), (1, .int (nI k)), (2, .int (nI need)), (3, .int (nI a)), (4, .int (nI b))] [.int (nI (min a (pl_g L1 b).2.2.1))] pv_K0 pv_P0 I1 J := by
            refine px_istore dX10_eat_41 (by decide) ?_
            refine px_aload_n dX10_eat_43 rfl ?_
            refine px_getR dX10_eat_44 flX10_7 pv_s_model (by decide) (by decide) rfl pv_k_model pv_p_365_1 ?_
            refine px_bipush (v := nI 70) dX10_eat_47 (by decide) ?_
            refine px_iconst (v := nI 4) dX10_eat_49 (by decide) ?_
            refine px_iload dX10_eat_50 rfl ?_
            refine px_imulN dX10_eat_52 ?_
            refine px_iaddN dX10_eat_53 ?_
            refine px_iconst (v := nI 2) dX10_eat_54 (by decide) ?_
            refine px_iaddN dX10_eat_55 ?_
            refine px_dup2 dX10_eat_56 rfl rfl ?_
            refine px_iald (j := ((70 + (4 * b)) + 2)) dX10_eat_57 pv_a_z.1 rfl (by omega) pv_a_z.2.2 pv_a_z.2.1 ?_
            refine px_iv (y := nI ((pl_g L1 b).2.2.1)) ((mr_l hM1 hbi.1).2.2.1) ?_
            refine px_iload dX10_eat_58 rfl ?_
            refine px_isubN (by omega) dX10_eat_60 ?_
            refine px_iast (j := ((70 + (4 * b)) + 2)) dX10_eat_61 pv_a_z.1 rfl (by omega) pv_a_z.2.2 pv_a_z.2.1 ?_
            have hM2 := MR_amt hM1 hbi.1 (v := (pl_g L1 b).2.2.1 - min a (pl_g L1 b).2.2.1) (by omega)
            have hF2 : ∀ k0 : Nat, k0 ≠ 366 → (pv_uI I1 366 (70 + 4 * b + 2) (nI ((pl_g L1 b).2.2.1 - min a (pl_g L1 b).2.2.1))) k0 = I k0 := fun k0 hk => (pv_uI_ne hk).trans (hF k0 hk)
            generalize pv_uI I1 366 (70 + 4 * b + 2) (nI ((pl_g L1 b).2.2.1 - min a (pl_g L1 b).2.2.1)) = I2 at hM2 hF2 ⊢
            refine px_aload_n dX10_eat_62 rfl ?_
            refine px_iload_n dX10_eat_63 rfl ?_
            refine px_iconst (v := nI 1) dX10_eat_64 (by decide) ?_
            refine px_iload dX10_eat_65 rfl ?_
            refine c_X10_tally dX10_eat_67 mlX10_88 (by omega) hM2 hk8 (by omega) (Nat.le_of_ble_eq_true rfl) ?_
            have hM3 := MR_z (i := 24 + 5 * k + 1) (v := pt_up T (25 + 5 * k) (T (25 + 5 * k) + (need - a)) (24 + 5 * k + 1) + min a (pl_g L1 b).2.2.1) hM2 (by omega) (by omega)
            have hF3 : ∀ k0 : Nat, k0 ≠ 366 → (pv_uI I2 366 (24 + 5 * k + 1) (nI (pt_up T (25 + 5 * k) (T (25 + 5 * k) + (need - a)) (24 + 5 * k + 1) + min a (pl_g L1 b).2.2.1))) k0 = I k0 := fun k0 hk => (pv_uI_ne hk).trans (hF2 k0 hk)
            generalize pv_uI I2 366 (24 + 5 * k + 1) (nI (pt_up T (25 + 5 * k) (T (25 + 5 * k) + (need - a)) (24 + 5 * k + 1) + min a (pl_g L1 b).2.2.1)) = I3 at hM3 hF3 ⊢
            have e2 : pt_up (pt_up T (25 + 5 * k) (T (25 + 5 * k) + (need - a))) (24 + 5 * k + 1) (pt_up T (25 + 5 * k) (T (25 + 5 * k) + (need - a)) (24 + 5 * k + 1) + min a (pl_g L1 b).2.2.1) = pt_up T (25 + 5 * k) (T (25 + 5 * k) + (need - (a - min a (pl_g L1 b).2.2.1))) := by
              rw [show 24 + 5 * k + 1 = 25 + 5 * k by omega]
              funext j
              unfold pt_up
              by_cases e3 : j = 25 + 5 * k
              · rw [if_pos e3, if_pos e3, if_pos rfl]; omega
              · rw [if_neg e3, if_neg e3, if_neg e3]
            rw [e2] at hM3
            have hMo3 : ∀ l, l < (pl_amt L1 b ((pl_g L1 b).2.2.1 - min a (pl_g L1 b).2.2.1)).length → I3 370 l = nI (Dm l) ∧ Dm l ≤ 2100 := fun l hl => by
              rw [hF3 370 (by omega)]
              exact hMo l (by rw [pl_amt_len, hn] at hl; exact hl)
            refine px_iload_n dX10_eat_70 rfl ?_
            refine px_iload dX10_eat_71 rfl ?_
            refine px_isubN (by omega) dX10_eat_73 ?_
            refine px_istore_n dX10_eat_74 (by decide) ?_
            refine px_aload_n dX10_eat_75 rfl ?_
            refine px_iload_n dX10_eat_76 rfl ?_
            refine c_X10_nextLot dX10_eat_77 mlX10_106 (by omega) hM3 hMo3 hk8 (Nat.le_of_ble_eq_true rfl) ?_
            refine px_istore dX10_eat_80 (by decide) ?_
            refine px_goto (tgt := 9) dX10_eat_82 (by decide) ?_
            refine px_keep [0, 1, 2, 3, 4] ?_
            refine ih _ _ I3 hM3 (pl_amt_len.trans hn) (by omega) ?_ hE hF3
            by_cases e4 : a ≤ (pl_g L1 b).2.2.1
            · left; omega
            · right
              have e5 : (pl_g L1 b).2.2.1 - min a (pl_g L1 b).2.2.1 = 0 := by omega
              rw [e5]
              have e6 := pe_cnt_zero hbi.1 hbi.2
              omega
          refine px_icmp_geN (tgt := 40) dX10_eat_27 (by decide) (by omega) (by omega) (fun h7 => ?_) (fun h7 => ?_)
          · refine px_iload_n dX10_eat_40 rfl ?_
            rw [show min a (pl_g L1 b).2.2.1 = a by omega] at main
            exact main
          · refine px_aload_n dX10_eat_30 rfl ?_
            refine px_iload dX10_eat_31 rfl ?_
            refine px_iconst (v := nI 2) dX10_eat_33 (by decide) ?_
            refine c_X10_of dX10_eat_34 mlX10_53 (by omega) (by omega) (by omega) (Nat.le_of_ble_eq_true rfl) ?_
            refine px_iv (y := nI ((pl_g L1 (b)).2.2.1)) ((mr_l hM1 (by omega)).2.2.1) ?_
            refine px_goto (tgt := 41) dX10_eat_37 (by decide) ?_
            rw [show min a (pl_g L1 b).2.2.1 = (pl_g L1 b).2.2.1 by omega] at main
            exact main
  refine px_iload_n dX10_eat_0 rfl ?_
  refine px_istore_n dX10_eat_1 (by decide) ?_
  refine px_aload_n dX10_eat_2 rfl ?_
  refine px_iload_n dX10_eat_3 rfl ?_
  refine c_X10_nextLot dX10_eat_4 mlX10_106 (by omega) hM hMo hk8 (Nat.le_of_ble_eq_true rfl) ?_
  refine px_istore dX10_eat_7 (by decide) ?_
  refine key L.length need L I ?_ rfl (Nat.le_refl _) (Or.inr pe_cnt_le) rfl (fun _ _ => rfl)
  have e2 : pt_up T (25 + 5 * k) (T (25 + 5 * k) + (need - need)) = T := by
    funext j
    unfold pt_up
    by_cases e3 : j = 25 + 5 * k
    · rw [if_pos e3, e3]; omega
    · rw [if_neg e3]
  rw [e2]
  exact hM
theorem c_X10_eat {z : pv_Z} {E : pv_E} {d bc bs : Nat} {J : pv_JT} {I : pv_IT} {mi : pv_MI} {pc idx : Nat} {lv : pv_LV} {st : List Value} {T : pv_T} {L : List pv_Lot} {Dm : Nat → Nat} {k need : Nat} (hd : decode mi.2.1 pc = .ok (.invokevirtual idx, 3)) (hlk : Cond.methodLink mi.1.cls idx mX10_eat.1 ∈ pv_W) (hD : 2+1 ≤ d) (hM : MR (I 366) T L) (hMo : ∀ l, l < L.length → I 370 l = nI (Dm l) ∧ Dm l ≤ 2100) (hk8 : k < 8) (hnd : need < 2147483648) (hcat : (st.map fun v => v.category).sum ≤ 8) (K : ∀ I' : pv_IT, MR (I' 366) (pd_eat Dm k need (T, L)).2.1 (pd_eat Dm k need (T, L)).2.2 → (∀ k0 : Nat, k0 ≠ 366 → I' k0 = I k0) → pv_X z E d bc bs mi (pc + 3) lv ((.int (nI (pd_eat Dm k need (T, L)).1)) :: st) pv_K0 pv_P0 (I') (J)) : pv_X z E d bc bs mi pc lv (.int (nI (need)) :: .int (nI (k)) :: .ref (365) :: st) pv_K0 pv_P0 I J := by
  obtain ⟨d, rfl⟩ : ∃ d0, d = d0 + 1 := ⟨d - 1, by omega⟩
  have key := px_callV (bc := bc) (bs := bs) (bc1 := 0) (bs1 := 0) (as := [.int (nI (k)), .int (nI (need))]) (E := E) (z := z) (lv := lv) hd mvX10_eat hlk pv_s_model (by decide) rfl pv_k_model rfl rfl hcat (by exact Nat.le_of_ble_eq_true rfl) (s_X10_eat (by omega) hM hMo hk8 hnd K)
  rw [Nat.zero_add, Nat.zero_add] at key
  exact key
set_option maxRecDepth 100000 in
set_option maxHeartbeats 4000000 in
theorem s_X10_serve {Q : pv_Q} {E : pv_E} {d bc bs : Nat} {J : pv_JT} {I : pv_IT} {T : pv_T} {L : List pv_Lot} (hD : 3 ≤ d) (hM : MR (I 366) T L) (hdy : dy (T, L)) (h4 : T 404 < 2147483648) (h : ∀ I' : pv_IT, MR (I' 366) (pd_served (T, L)).2.1 (pl_drop (pd_served (T, L)).2.2) → (∀ k0 : Nat, k0 ≠ 366 → k0 ≠ 370 → I' k0 = I k0) → Q (.inl (some (.int (nI (pv_bl (0 < (pd_served (T, L)).1)))))) pv_K0 pv_P0 (I') (J)) : pv_X (pv_ZQ E Q) E d bc bs mX10_serve 0 [(0, .ref (365))] [] pv_K0 pv_P0 I J := by
  have hL := hM.2.2.1
  have h31 := hL.1
  have hb : tb T := hdy.1
  have hmb := hb.2.2.2.2.2.2
  have h10 := hmb.2.1
  have hmn : T 404 % T 408 < T 408 := Nat.mod_lt _ hmb.1
  have hhd := hb.2.2.2.1
  have hln := (hmb.2.2 _ hmn).1
  have key : ∀ i : Nat, i ≤ L.length → ∀ (I0 : pv_IT), (∀ j, j < i → I0 370 j = nI (pt_left T (pl_g L j))) → (∀ k0 : Nat, k0 ≠ 370 → I0 k0 = I k0) → pv_X (pv_ZQ E Q) E d bc bs mX10_serve 2 [(0, .ref 365), (1, .int (nI (i)))] [] pv_K0 pv_P0 (I0) (J) := by
    refine pv_up (L.length) ?_ ?_
    · intro I0 hA0 hF0
      have hM0 : MR (I0 366) T L := by rw [hF0 366 (by omega)]; exact hM
      refine px_iload_n dX10_serve_2 rfl ?_
      refine px_aload_n dX10_serve_3 rfl ?_
      refine px_getR dX10_serve_4 flX10_7 pv_s_model (by decide) (by decide) rfl pv_k_model pv_p_365_1 ?_
      refine px_sipush (v := nI 406) dX10_serve_7 (by decide) ?_
      refine px_iald (j := 406) dX10_serve_10 pv_a_z.1 rfl (by omega) pv_a_z.2.2 pv_a_z.2.1 ?_
      refine px_iv (y := nI (L.length)) (hM0.2.1) ?_
      refine px_icmp_geN (tgt := 31) dX10_serve_11 (by decide) (by omega) (by omega) (fun _ => ?_) (fun h0 => absurd h0 (by omega))
      refine px_aload_n dX10_serve_31 rfl ?_
      refine px_getR dX10_serve_32 flX10_7 pv_s_model (by decide) (by decide) rfl pv_k_model pv_p_365_1 ?_
      refine px_sipush (v := nI 404) dX10_serve_35 (by decide) ?_
      refine px_iald (j := 404) dX10_serve_38 pv_a_z.1 rfl (by omega) pv_a_z.2.2 pv_a_z.2.1 ?_
      refine px_iv (y := nI (T (404))) (hM0.1 (404) (by omega) (by omega) (by omega)) ?_
      refine px_aload_n dX10_serve_39 rfl ?_
      refine px_getR dX10_serve_40 flX10_7 pv_s_model (by decide) (by decide) rfl pv_k_model pv_p_365_1 ?_
      refine px_sipush (v := nI 408) dX10_serve_43 (by decide) ?_
      refine px_iald (j := 408) dX10_serve_46 pv_a_z.1 rfl (by omega) pv_a_z.2.2 pv_a_z.2.1 ?_
      refine px_iv (y := nI (T (408))) (hM0.1 (408) (by omega) (by omega) (by omega)) ?_
      refine px_iremN (by omega) (by omega) (by omega) dX10_serve_47 ?_
      have hit0 := pd_items_like (D := (pd_mornings (T, L))) (s := (T, L)) hmn hb hL (T (314 + T 404 % T 408))
      have key2 : ∀ i : Nat, i ≤ T (314 + T 404 % T 408) → ∀ (I1 : pv_IT), MR (I1 366) (pd_items (pd_mornings (T, L)) (T 404 % T 408) (T, L) (i)).2.1 (pd_items (pd_mornings (T, L)) (T 404 % T 408) (T, L) (i)).2.2 → (∀ k0 : Nat, k0 ≠ 366 → I1 k0 = I0 k0) → pv_X (pv_ZQ E Q) E d bc bs mX10_serve 53 [(0, .ref 365), (1, .int (nI (T 404 % T 408))), (2, .int (nI (pv_bl (0 < (pd_items (pd_mornings (T, L)) (T 404 % T 408) (T, L) (i)).1)))), (3, .int (nI (i)))] [] pv_K0 pv_P0 (I1) (J) := by
        refine pv_up (T (314 + T 404 % T 408)) ?_ ?_
        · intro I1 hM1 hF1
          have hlk : (pd_items (pd_mornings (T, L)) (T 404 % T 408) (T, L) (T (314 + T 404 % T 408))).2.1 (314 + T 404 % T 408) = T (314 + T 404 % T 408) := hit0.1.1 _ (by omega)
          refine px_iload_n dX10_serve_53 rfl ?_
          refine px_aload_n dX10_serve_54 rfl ?_
          refine px_getR dX10_serve_55 flX10_7 pv_s_model (by decide) (by decide) rfl pv_k_model pv_p_365_1 ?_
          refine px_sipush (v := nI 314) dX10_serve_58 (by decide) ?_
          refine px_iload_n dX10_serve_61 rfl ?_
          refine px_iaddN dX10_serve_62 ?_
          refine px_iald (j := (314 + (T 404 % T 408))) dX10_serve_63 pv_a_z.1 rfl (by omega) pv_a_z.2.2 pv_a_z.2.1 ?_
          refine px_iv (y := nI (T (314 + T 404 % T 408))) ((hM1.1 (314 + T 404 % T 408) (by omega) (by omega) (by omega)).trans (congrArg nI hlk)) ?_
          refine px_icmp_geN (tgt := 182) dX10_serve_64 (by decide) (by omega) (by omega) (fun _ => ?_) (fun h0 => absurd h0 (by omega))
          refine px_aload_n dX10_serve_182 rfl ?_
          have hst : pd_served (T, L) = (pd_items (pd_mornings (T, L)) (T 404 % T 408) (T, L) (T (314 + T 404 % T 408))) := by
            have := pd_items_stop (D := (pd_mornings (T, L))) (s := (T, L)) hmn hb hL (4 - T (314 + T 404 % T 408))
            rw [show (T, L).1 (314 + T 404 % T 408) + (4 - T (314 + T 404 % T 408)) = 4 from by show T _ + _ = 4; omega] at this
            exact this
          rw [← hst] at hM1 ⊢
          refine c_X10_dropEmpty dX10_serve_183 mlX10_99 (by omega) hM1 (Nat.le_of_ble_eq_true rfl) (fun I2 hM2 hF2 => ?_)
          refine px_iload_n dX10_serve_186 rfl ?_
          exact px_zret dX10_serve_187 rfl (by unfold pv_bl; split <;> rfl) (Or.inl rfl) (h I2 hM2 (fun k0 h1 h2 => (hF2 k0 h1).trans ((hF1 k0 h1).trans (hF0 k0 h2))))
        · intro i hi K I1 hM1 hF1
          have hit := pd_items_like (D := (pd_mornings (T, L))) (s := (T, L)) hmn hb hL i
          have hlk : (pd_items (pd_mornings (T, L)) (T 404 % T 408) (T, L) (i)).2.1 (314 + T 404 % T 408) = T (314 + T 404 % T 408) := hit.1.1 _ (by omega)
          have hin := hit.2.2
          generalize hS : pd_items (pd_mornings (T, L)) (T 404 % T 408) (T, L) i = R at hM1 hit hlk hin K ⊢
          obtain ⟨r, T2, L2⟩ := R
          simp only at hM1 hit hlk hin K
          have hb2 : tb T2 := tb_like hit.1 hb
          have hk2 : ∀ j, ¬ (24 ≤ j ∧ j < 64) → T2 j = T j := hit.1.1
          have hmb2 := hb2.2.2.2.2.2.2
          have hm2 : T 404 % T 408 < T2 408 := by rw [hk2 408 (by omega)]; exact hmn
          have hx := (hmb2.2.2 _ hm2).2 i (by rw [hlk]; exact hi)
          have hhd2 : T2 409 ≤ 100 := by rw [hk2 409 (by omega)]; exact hhd.2
          have hlen2 : L2.length = L.length := hit.1.2.1
          have hMo : ∀ l, l < L2.length → I1 370 l = nI ((pd_mornings (T, L)) l) ∧ (pd_mornings (T, L)) l ≤ 2100 := fun l hl => by
            have hlL : l < L.length := by omega
            rw [hF1 370 (by omega)]
            exact ⟨hA0 l hlL, pt_left_le hb (hL.2 l hlL)⟩
          have hstep : (pd_items (pd_mornings (T, L)) (T 404 % T 408) (T, L) (i + 1)) = (r + (pd_item (pd_mornings (T, L)) (T 404 % T 408) i (T2, L2)).1, (pd_item (pd_mornings (T, L)) (T 404 % T 408) i (T2, L2)).2) := by
            show (_, _) = _
            rw [hS]
          have hitem : pd_item (pd_mornings (T, L)) (T 404 % T 408) i (T2, L2) = pd_lack (T2 (194 + 12 * (T 404 % T 408) + 3 * i)) (pd_meal (pd_mornings (T, L)) (T2 (194 + 12 * (T 404 % T 408) + 3 * i)) (T2 (195 + 12 * (T 404 % T 408) + 3 * i) * T2 409) (T2 (196 + 12 * (T 404 % T 408) + 3 * i)) (T2, L2)) := if_pos (show i < T2 (314 + T 404 % T 408) by rw [hlk]; exact hi)
          generalize hm0 : T 404 % T 408 = m0 at hlk hmn hln hm2 hx hstep hitem hi K ⊢
          generalize hD0 : (pd_mornings (T, L)) = Dm at hMo hstep hitem K ⊢
          refine px_iload_n dX10_serve_53 rfl ?_
          refine px_aload_n dX10_serve_54 rfl ?_
          refine px_getR dX10_serve_55 flX10_7 pv_s_model (by decide) (by decide) rfl pv_k_model pv_p_365_1 ?_
          refine px_sipush (v := nI 314) dX10_serve_58 (by decide) ?_
          refine px_iload_n dX10_serve_61 rfl ?_
          refine px_iaddN dX10_serve_62 ?_
          refine px_iald (j := (314 + m0)) dX10_serve_63 pv_a_z.1 rfl (by omega) pv_a_z.2.2 pv_a_z.2.1 ?_
          refine px_iv (y := nI (T (314 + m0))) ((hM1.1 (314 + m0) (by omega) (by omega) (by omega)).trans (congrArg nI hlk)) ?_
          refine px_icmp_geN (tgt := 182) dX10_serve_64 (by decide) (by omega) (by omega) (fun h0 => absurd h0 (by omega)) (fun _ => ?_)
          refine px_sipush (v := nI 194) dX10_serve_67 (by decide) ?_
          refine px_bipush (v := nI 12) dX10_serve_70 (by decide) ?_
          refine px_iload_n dX10_serve_72 rfl ?_
          refine px_imulN dX10_serve_73 ?_
          refine px_iaddN dX10_serve_74 ?_
          refine px_iconst (v := nI 3) dX10_serve_75 (by decide) ?_
          refine px_iload_n dX10_serve_76 rfl ?_
          refine px_imulN dX10_serve_77 ?_
          refine px_iaddN dX10_serve_78 ?_
          refine px_istore dX10_serve_79 (by decide) ?_
          refine px_aload_n dX10_serve_81 rfl ?_
          refine px_aload_n dX10_serve_82 rfl ?_
          refine px_getR dX10_serve_83 flX10_7 pv_s_model (by decide) (by decide) rfl pv_k_model pv_p_365_1 ?_
          refine px_iload dX10_serve_86 rfl ?_
          refine px_iald (j := ((194 + (12 * m0)) + (3 * i))) dX10_serve_88 pv_a_z.1 rfl (by omega) pv_a_z.2.2 pv_a_z.2.1 ?_
          refine px_iv (y := nI (T2 (194 + 12 * m0 + 3 * i))) ((hM1.1 (((194 + (12 * m0)) + (3 * i))) (by omega) (by omega) (by omega)).trans (congrArg nI (congrArg T2 (by omega)))) ?_
          refine px_aload_n dX10_serve_89 rfl ?_
          refine px_getR dX10_serve_90 flX10_7 pv_s_model (by decide) (by decide) rfl pv_k_model pv_p_365_1 ?_
          refine px_iload dX10_serve_93 rfl ?_
          refine px_iconst (v := nI 1) dX10_serve_95 (by decide) ?_
          refine px_iaddN dX10_serve_96 ?_
          refine px_iald (j := (((194 + (12 * m0)) + (3 * i)) + 1)) dX10_serve_97 pv_a_z.1 rfl (by omega) pv_a_z.2.2 pv_a_z.2.1 ?_
          refine px_iv (y := nI (T2 (195 + 12 * m0 + 3 * i))) ((hM1.1 ((((194 + (12 * m0)) + (3 * i)) + 1)) (by omega) (by omega) (by omega)).trans (congrArg nI (congrArg T2 (by omega)))) ?_
          refine px_aload_n dX10_serve_98 rfl ?_
          refine px_getR dX10_serve_99 flX10_7 pv_s_model (by decide) (by decide) rfl pv_k_model pv_p_365_1 ?_
          refine px_sipush (v := nI 409) dX10_serve_102 (by decide) ?_
          refine px_iald (j := 409) dX10_serve_105 pv_a_z.1 rfl (by omega) pv_a_z.2.2 pv_a_z.2.1 ?_
          refine px_iv (y := nI (T2 (409))) (hM1.1 (409) (by omega) (by omega) (by omega)) ?_
          refine px_imulN dX10_serve_106 ?_
          have hnd := Nat.mul_le_mul hx.2.2.1 hhd2
          refine c_X10_eat dX10_serve_107 mlX10_112 (by omega) (Dm := Dm) hM1 hMo hx.1 (by omega) (Nat.le_of_ble_eq_true rfl) (fun I2 hM2 hF2 => ?_)
          have hl1 := pd_eat_like (D := Dm) (k := T2 (194 + 12 * m0 + 3 * i)) (a := T2 (195 + 12 * m0 + 3 * i) * T2 409) (s := (T2, L2)) hx.1 hM1.2.2.1
          have hk3 : ∀ j, ¬ (24 ≤ j ∧ j < 64) → (pd_eat Dm (T2 (194 + 12 * m0 + 3 * i)) (T2 (195 + 12 * m0 + 3 * i) * T2 409) (T2, L2)).2.1 j = T2 j := hl1.1.1
          have hln3 : (pd_eat Dm (T2 (194 + 12 * m0 + 3 * i)) (T2 (195 + 12 * m0 + 3 * i) * T2 409) (T2, L2)).2.2.length = L2.length := hl1.1.2.1
          have hle3 := hl1.2.2
          unfold pd_meal at hitem
          generalize hR3 : pd_eat Dm (T2 (194 + 12 * m0 + 3 * i)) (T2 (195 + 12 * m0 + 3 * i) * T2 409) (T2, L2) = R3 at hM2 hk3 hln3 hle3 hitem ⊢
          obtain ⟨r3, T3, L3⟩ := R3
          simp only at hM2 hk3 hln3 hle3
          have hF12 : ∀ k0 : Nat, k0 ≠ 366 → I2 k0 = I0 k0 := fun k0 hk => (hF2 k0 hk).trans (hF1 k0 hk)
          have hMo3 : ∀ l, l < L3.length → I2 370 l = nI (Dm l) ∧ Dm l ≤ 2100 := fun l hl => by
            rw [hF2 370 (by omega)]
            exact hMo l (by omega)
          have main : ∀ (r4 : Nat) (T4 : pv_T) (L4 : List pv_Lot) (I4 : pv_IT), MR (I4 366) T4 L4 → (∀ k0 : Nat, k0 ≠ 366 → I4 k0 = I0 k0) → (∀ j, ¬ (24 ≤ j ∧ j < 64) → T4 j = T2 j) → r4 ≤ 900 → pd_item Dm m0 i (T2, L2) = pd_lack (T2 (194 + 12 * m0 + 3 * i)) (r4, T4, L4) → pv_X (pv_ZQ E Q) E d bc bs mX10_serve 147 [(0, .ref 365), (1, .int (nI m0)), (2, .int (nI (pv_bl (0 < r)))), (3, .int (nI i)), (4, .int (nI (194 + 12 * m0 + 3 * i))), (5, .int (nI r4))] [] pv_K0 pv_P0 I4 J := by
            intro r4 T4 L4 I4 hM4 hF4 hk4 hr4 hit4
            refine px_aload_n dX10_serve_147 rfl ?_
            refine px_aload_n dX10_serve_148 rfl ?_
            refine px_getR dX10_serve_149 flX10_7 pv_s_model (by decide) (by decide) rfl pv_k_model pv_p_365_1 ?_
            refine px_iload dX10_serve_152 rfl ?_
            refine px_iald (j := (194 + 12 * m0 + 3 * i)) dX10_serve_154 pv_a_z.1 rfl (by omega) pv_a_z.2.2 pv_a_z.2.1 ?_
            refine px_iv (y := nI (T2 (194 + 12 * m0 + 3 * i))) ((hM4.1 (194 + 12 * m0 + 3 * i) (by omega) (by omega) (by omega)).trans (congrArg nI (hk4 _ (by omega)))) ?_
            refine px_iconst (v := nI 4) dX10_serve_155 (by decide) ?_
            refine px_iload dX10_serve_156 rfl ?_
            refine c_X10_tally dX10_serve_158 mlX10_88 (by omega) hM4 hx.1 (by omega) (Nat.le_of_ble_eq_true rfl) ?_
            generalize hkk : T2 (194 + 12 * m0 + 3 * i) = kk at hx hit4 ⊢
            have hM5 := MR_z (i := 24 + 5 * kk + 4) (v := T4 (24 + 5 * kk + 4) + r4) hM4 (by omega) (by omega)
            have hF5 : ∀ k0 : Nat, k0 ≠ 366 → (pv_uI I4 366 (24 + 5 * kk + 4) (nI (T4 (24 + 5 * kk + 4) + r4))) k0 = I0 k0 := fun k0 hk => (pv_uI_ne hk).trans (hF4 k0 hk)
            generalize pv_uI I4 366 (24 + 5 * kk + 4) (nI (T4 (24 + 5 * kk + 4) + r4)) = I5 at hM5 hF5 ⊢
            rw [hit4] at hstep
            have hM6 : MR (I5 366) (pd_lack kk (r4, T4, L4)).2.1 (pd_lack kk (r4, T4, L4)).2.2 := by
              show MR (I5 366) (pt_up T4 (28 + 5 * kk) (T4 (28 + 5 * kk) + r4)) L4
              rw [show 28 + 5 * kk = 24 + 5 * kk + 4 by omega]
              exact hM5
            rw [hstep] at K
            refine px_iload_n dX10_serve_161 rfl ?_
            refine px_if_neB (tgt := 170) dX10_serve_162 (by decide) (fun h9 => ?_) (fun h9 => ?_)
            · refine px_iconst (v := nI 1) dX10_serve_170 (by decide) ?_
              refine px_goto (tgt := 175) dX10_serve_171 (by decide) ?_
              refine px_istore_n dX10_serve_175 (by decide) ?_
              refine px_iincN (c := 1) (by decide) dX10_serve_176 rfl (by decide) ?_
              refine px_goto (tgt := 53) dX10_serve_179 (by decide) ?_
              refine px_keep [0, 1, 2, 3] ?_
              rw [pv_bl1 (show 0 < r + (pd_lack kk (r4, T4, L4)).1 by show 0 < r + r4; omega)] at K
              exact K I5 hM6 hF5
            · refine px_iload dX10_serve_165 rfl ?_
              refine px_if_leN (tgt := 174) dX10_serve_167 (by decide) (by omega) (fun h8 => ?_) (fun h8 => ?_)
              · refine px_iconst (v := nI 0) dX10_serve_174 (by decide) ?_
                refine px_istore_n dX10_serve_175 (by decide) ?_
                refine px_iincN (c := 1) (by decide) dX10_serve_176 rfl (by decide) ?_
                refine px_goto (tgt := 53) dX10_serve_179 (by decide) ?_
                refine px_keep [0, 1, 2, 3] ?_
                rw [pv_bl0 (show ¬ 0 < r + (pd_lack kk (r4, T4, L4)).1 by show ¬ 0 < r + r4; omega)] at K
                exact K I5 hM6 hF5
              · refine px_iconst (v := nI 1) dX10_serve_170 (by decide) ?_
                refine px_goto (tgt := 175) dX10_serve_171 (by decide) ?_
                refine px_istore_n dX10_serve_175 (by decide) ?_
                refine px_iincN (c := 1) (by decide) dX10_serve_176 rfl (by decide) ?_
                refine px_goto (tgt := 53) dX10_serve_179 (by decide) ?_
                refine px_keep [0, 1, 2, 3] ?_
                rw [pv_bl1 (show 0 < r + (pd_lack kk (r4, T4, L4)).1 by show 0 < r + r4; omega)] at K
                exact K I5 hM6 hF5
          refine px_istore dX10_serve_110 (by decide) ?_
          refine px_iload dX10_serve_112 rfl ?_
          refine px_if_leN (tgt := 147) dX10_serve_114 (by decide) (by omega) (fun h6 => ?_) (fun h6 => ?_)
          · refine main r3 T3 L3 I2 hM2 hF12 hk3 (by omega) ?_
            rw [hitem]
            by_cases e9 : T2 (196 + 12 * m0 + 3 * i) = 4294967295
            · rw [if_pos e9]
            · rw [if_neg e9]
              have e10 : pd_eat Dm (T2 (196 + 12 * m0 + 3 * i)) 0 (T3, L3) = (0, T3, L3) := by
                unfold pd_eat
                rw [pe_eat0]
                show (0, pt_up T3 _ (T3 _ + (0 - 0)), L3) = _
                have e11 : pt_up T3 (25 + 5 * T2 (196 + 12 * m0 + 3 * i)) (T3 (25 + 5 * T2 (196 + 12 * m0 + 3 * i)) + (0 - 0)) = T3 := by
                  funext j
                  unfold pt_up
                  split
                  · rename_i e; rw [e]; rfl
                  · rfl
                rw [e11]
              rw [h6]
              show pd_lack _ (pd_eat Dm (T2 (196 + 12 * m0 + 3 * i)) 0 (T3, L3)) = _
              rw [e10, show r3 = 0 from h6]
          · refine px_aload_n dX10_serve_117 rfl ?_
            refine px_getR dX10_serve_118 flX10_7 pv_s_model (by decide) (by decide) rfl pv_k_model pv_p_365_1 ?_
            refine px_iload dX10_serve_121 rfl ?_
            refine px_iconst (v := nI 2) dX10_serve_123 (by decide) ?_
            refine px_iaddN dX10_serve_124 ?_
            refine px_iald (j := (((194 + (12 * m0)) + (3 * i)) + 2)) dX10_serve_125 pv_a_z.1 rfl (by omega) pv_a_z.2.2 pv_a_z.2.1 ?_
            refine px_iv (y := nI (T2 (196 + 12 * m0 + 3 * i))) ((hM2.1 (194 + 12 * m0 + 3 * i + 2) (by omega) (by omega) (by omega)).trans (congrArg nI ((hk3 _ (by omega)).trans (congrArg T2 (by omega))))) ?_
            refine px_iconst (v := -1) dX10_serve_126 (by decide) ?_
            rcases hx.2.2.2 with hs | hs
            · refine px_icmp_eq (tgt := 147) dX10_serve_127 (by decide) (fun _ => ?_) (fun h9 => absurd (by rw [hs]; decide) h9)
              refine main r3 T3 L3 I2 hM2 hF12 hk3 (by omega) ?_
              rw [hitem, if_pos hs]
            · refine px_icmp_eq (tgt := 147) dX10_serve_127 (by decide) (fun h9 => absurd h9 (pn_m1 (by omega))) (fun _ => ?_)
              refine px_aload_n dX10_serve_130 rfl ?_
              refine px_aload_n dX10_serve_131 rfl ?_
              refine px_getR dX10_serve_132 flX10_7 pv_s_model (by decide) (by decide) rfl pv_k_model pv_p_365_1 ?_
              refine px_iload dX10_serve_135 rfl ?_
              refine px_iconst (v := nI 2) dX10_serve_137 (by decide) ?_
              refine px_iaddN dX10_serve_138 ?_
              refine px_iald (j := (((194 + (12 * m0)) + (3 * i)) + 2)) dX10_serve_139 pv_a_z.1 rfl (by omega) pv_a_z.2.2 pv_a_z.2.1 ?_
              refine px_iv (y := nI (T2 (196 + 12 * m0 + 3 * i))) ((hM2.1 (194 + 12 * m0 + 3 * i + 2) (by omega) (by omega) (by omega)).trans (congrArg nI ((hk3 _ (by omega)).trans (congrArg T2 (by omega))))) ?_
              refine px_iload dX10_serve_140 rfl ?_
              refine c_X10_eat dX10_serve_142 mlX10_112 (by omega) (Dm := Dm) hM2 hMo3 hs (by omega) (Nat.le_of_ble_eq_true rfl) (fun I4 hM4 hF4 => ?_)
              refine px_istore dX10_serve_145 (by decide) ?_
              have hl4 := pd_eat_like (D := Dm) (k := T2 (196 + 12 * m0 + 3 * i)) (a := r3) (s := (T3, L3)) hs hM2.2.2.1
              refine main _ _ _ I4 hM4 (fun k0 hk => (hF4 k0 hk).trans (hF12 k0 hk)) (fun j hj => (hl4.1.1 j hj).trans (hk3 j hj)) (Nat.le_trans hl4.2.2 (by omega)) ?_
              rw [hitem, if_neg (by omega)]
      refine px_istore_n dX10_serve_48 (by decide) ?_
      refine px_iconst (v := nI 0) dX10_serve_49 (by decide) ?_
      refine px_istore_n dX10_serve_50 (by decide) ?_
      refine px_iconst (v := nI 0) dX10_serve_51 (by decide) ?_
      refine px_istore_n dX10_serve_52 (by decide) ?_
      exact key2 0 (by omega) I0 hM0 (fun _ _ => rfl)
    · intro i hi K I0 hA0 hF0
      have hM0 : MR (I0 366) T L := by rw [hF0 366 (by omega)]; exact hM
      have hoi : lv_ok (pl_g L i) := hdy.2.2 i hi
      unfold lv_ok at hoi
      refine px_iload_n dX10_serve_2 rfl ?_
      refine px_aload_n dX10_serve_3 rfl ?_
      refine px_getR dX10_serve_4 flX10_7 pv_s_model (by decide) (by decide) rfl pv_k_model pv_p_365_1 ?_
      refine px_sipush (v := nI 406) dX10_serve_7 (by decide) ?_
      refine px_iald (j := 406) dX10_serve_10 pv_a_z.1 rfl (by omega) pv_a_z.2.2 pv_a_z.2.1 ?_
      refine px_iv (y := nI (L.length)) (hM0.2.1) ?_
      refine px_icmp_geN (tgt := 31) dX10_serve_11 (by decide) (by omega) (by omega) (fun h0 => absurd h0 (by omega)) (fun _ => ?_)
      refine px_aload_n dX10_serve_14 rfl ?_
      refine px_getR dX10_serve_15 flX10_22 pv_s_model (by decide) (by decide) rfl pv_k_model pv_p_365_7 ?_
      refine px_iload_n dX10_serve_18 rfl ?_
      refine px_aload_n dX10_serve_19 rfl ?_
      refine px_iload_n dX10_serve_20 rfl ?_
      refine c_X10_daysLeft dX10_serve_21 mlX10_109 (by omega) hM0 hb hi (by omega) (Nat.le_of_ble_eq_true rfl) ?_
      refine px_iast (j := i) dX10_serve_24 pv_a_morn.1 rfl (by omega) pv_a_morn.2.2 pv_a_morn.2.1 ?_
      refine px_iincN (c := 1) (by decide) dX10_serve_25 rfl (by decide) ?_
      refine px_goto (tgt := 2) dX10_serve_28 (by decide) ?_
      refine px_keep [0, 1] ?_
      refine K _ (fun j hj => ?_) (fun k0 hk => (pv_uI_ne hk).trans (hF0 k0 hk))
      simp only [pv_uI_at, true_and]
      by_cases e : j = i
      · subst e
        rw [if_pos rfl]
      · rw [if_neg (by omega)]
        exact hA0 j (by omega)
  refine px_iconst (v := nI 0) dX10_serve_0 (by decide) ?_
  refine px_istore_n dX10_serve_1 (by decide) ?_
  exact key 0 (by omega) I (fun j hj => absurd hj (Nat.not_lt_zero _)) (fun _ _ => rfl)
theorem c_X10_serve {z : pv_Z} {E : pv_E} {d bc bs : Nat} {J : pv_JT} {I : pv_IT} {mi : pv_MI} {pc idx : Nat} {lv : pv_LV} {st : List Value} {T : pv_T} {L : List pv_Lot} (hd : decode mi.2.1 pc = .ok (.invokevirtual idx, 3)) (hlk : Cond.methodLink mi.1.cls idx mX10_serve.1 ∈ pv_W) (hD : 3+1 ≤ d) (hM : MR (I 366) T L) (hdy : dy (T, L)) (h4 : T 404 < 2147483648) (hcat : (st.map fun v => v.category).sum ≤ 8) (K : ∀ I' : pv_IT, MR (I' 366) (pd_served (T, L)).2.1 (pl_drop (pd_served (T, L)).2.2) → (∀ k0 : Nat, k0 ≠ 366 → k0 ≠ 370 → I' k0 = I k0) → pv_X z E d bc bs mi (pc + 3) lv ((.int (nI (pv_bl (0 < (pd_served (T, L)).1)))) :: st) pv_K0 pv_P0 (I') (J)) : pv_X z E d bc bs mi pc lv (.ref (365) :: st) pv_K0 pv_P0 I J := by
  obtain ⟨d, rfl⟩ : ∃ d0, d = d0 + 1 := ⟨d - 1, by omega⟩
  have key := px_callV (bc := bc) (bs := bs) (bc1 := 0) (bs1 := 0) (as := []) (E := E) (z := z) (lv := lv) hd mvX10_serve hlk pv_s_model (by decide) rfl pv_k_model rfl rfl hcat (by exact Nat.le_of_ble_eq_true rfl) (s_X10_serve (by omega) hM hdy h4 K)
  rw [Nat.zero_add, Nat.zero_add] at key
  exact key
