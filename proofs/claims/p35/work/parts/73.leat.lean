/-! The law: empty lots go; what is eaten. -/
theorem pl_g_app {A C : List pv_Lot} {j : Nat} : pl_g (A ++ C) j = if j < A.length then pl_g A j else pl_g C (j - A.length) := by
  unfold pl_g
  rw [List.getD_eq_getElem?_getD, List.getD_eq_getElem?_getD, List.getD_eq_getElem?_getD]
  by_cases h : j < A.length
  · rw [if_pos h, List.getElem?_append_left h]
  · rw [if_neg h, List.getElem?_append_right (by omega)]
/-- the lots while the empty ones from i on are gone -/
def pl_low (L : List pv_Lot) (i : Nat) : List pv_Lot := L.take i ++ pl_drop (L.drop i)
theorem pl_low0 (L : List pv_Lot) : pl_low L 0 = pl_drop L := by unfold pl_low; simp
theorem pl_lowN (L : List pv_Lot) : pl_low L L.length = L := by unfold pl_low pl_drop; simp
theorem pl_dropc {L : List pv_Lot} {i : Nat} (hi : i < L.length) : L.drop i = pl_g L i :: L.drop (i + 1) := by
  rw [List.drop_eq_getElem_cons hi]
  unfold pl_g
  rw [List.getD_eq_getElem?_getD, List.getElem?_eq_getElem hi]
  rfl
theorem pl_low_pos {L : List pv_Lot} {i : Nat} (hi : i < L.length) (h : 0 < (pl_g L i).2.2.1) : pl_low L i = pl_low L (i + 1) := by
  unfold pl_low pl_drop
  rw [pl_dropc hi, List.filter_cons_of_pos (by unfold pl_pos; simpa [Nat.blt_eq] using h), pl_take hi, List.append_assoc]
  rfl
theorem pl_low_g {L : List pv_Lot} {i : Nat} (hi : i < L.length) : i < (pl_low L (i + 1)).length ∧ pl_g (pl_low L (i + 1)) i = pl_g L i := by
  unfold pl_low
  rw [pl_take hi]
  have hl : (L.take i).length = i := by rw [List.length_take]; omega
  refine ⟨by simp; omega, ?_⟩
  rw [pl_g_app, if_pos (by simp; omega), pl_g_app, if_neg (by omega), hl, Nat.sub_self]
  rfl
theorem pl_low_cut {L : List pv_Lot} {i : Nat} (hi : i < L.length) (h0 : (pl_g L i).2.2.1 = 0) : (pl_low L i).length + 1 = (pl_low L (i + 1)).length ∧ ∀ j, j < (pl_low L i).length → pl_g (pl_low L i) j = pl_g (pl_low L (i + 1)) (if j < i then j else j + 1) := by
  have hl : (L.take i).length = i := by rw [List.length_take]; omega
  have e1 : pl_low L i = L.take i ++ pl_drop (L.drop (i + 1)) := by
    unfold pl_low pl_drop
    rw [pl_dropc hi, List.filter_cons_of_neg (by unfold pl_pos; rw [h0]; decide)]
  have e2 : pl_low L (i + 1) = L.take i ++ ([pl_g L i] ++ pl_drop (L.drop (i + 1))) := by
    unfold pl_low
    rw [pl_take hi, List.append_assoc]
  rw [e1, e2]
  refine ⟨by simp only [List.length_append, List.length_singleton, hl]; omega, fun j hj => ?_⟩
  rw [pl_g_app, pl_g_app (A := L.take i), hl]
  by_cases e : j < i
  · rw [if_pos e, if_pos e, if_pos e]
  · rw [if_neg e, if_neg e, if_neg (by omega), pl_g_app, if_neg (by simp; omega)]
    exact congrArg _ (by simp; omega)
theorem pl_low_le {L : List pv_Lot} {i : Nat} : (pl_low L i).length ≤ L.length := by
  unfold pl_low
  rw [List.length_append]
  have := pl_drop_le (L.drop i)
  rw [List.length_drop] at this
  rw [List.length_take]
  omega
theorem q_m1 (i : Nat) : nI i + Int32.ofInt (-1) = nI i - nI 1 := by rw [Int32.sub_eq_add_neg]; rfl
set_option maxRecDepth 100000 in
set_option maxHeartbeats 4000000 in
theorem s_L_drop {Q : pv_Q} {E : pv_E} {d bc bs : Nat} {J : pv_JT} {I : pv_IT} {T : pv_T} {L : List pv_Lot} (hDep : 0 ≤ d) (hD : qD I T L.length) (hL : qL I L) (h11 : L.length ≤ 12) (hma : ∀ l, l < L.length → (pl_g L l).2.2.1 < 2147483648) (h : ∀ I' : pv_IT, qD I' T (pl_drop L).length → qL I' (pl_drop L) → (∀ k, k ≠ 365 → k ≠ 367 → I' k = I k) → Q (.inl none) pv_K0 pv_P0 (I') (J)) : pv_X (pv_ZQ E Q) E d bc bs mL_drop 0 [(0, .ref (365)), (1, .ref (367))] [] pv_K0 pv_P0 I J := by
  have key : ∀ i : Nat, i ≤ L.length → ∀ I1 : pv_IT, qD I1 T (pl_low L i).length → qL I1 (pl_low L i) → (∀ k, k ≠ 365 → k ≠ 367 → I1 k = I k) → pv_X (pv_ZQ E Q) E d bc bs mL_drop 6 [(0, .ref 365), (1, .ref 367), (2, .int (nI i - nI 1))] [] pv_K0 pv_P0 (I1) (J) := by
    intro i
    induction i with
    | zero =>
      intro hi I1 hD1 hL1 hF
      refine px_iload_n dL_drop_6 rfl ?_
      refine px_if_lt (tgt := 60) dL_drop_7 (by decide) (fun _ => ?_) (fun h9 => absurd (by decide) h9)
      rw [pl_low0] at hD1 hL1
      exact px_vret dL_drop_60 rfl (Or.inl rfl) (h I1 hD1 hL1 hF)
    | succ i ih =>
      intro hi I1 hD1 hL1 hF
      have hi : i < L.length := by omega
      have hma9 := hma i hi
      obtain ⟨hg1, hg2⟩ := pl_low_g hi
      have hle := @pl_low_le L (i + 1)
      have hr := hL1 i hg1
      rw [hg2] at hr
      refine px_lvs (lv' := [(0, .ref 365), (1, .ref 367), (2, .int (nI i))]) (by rw [show nI (i + 1) - nI 1 = nI i from (pk_sub (by omega)).trans (congrArg nI (by omega))]) ?_
      refine px_iload_n dL_drop_6 rfl ?_
      refine px_if_ltN (tgt := 60) dL_drop_7 (by decide) (by omega) ?_
      refine px_aload_n dL_drop_10 rfl ?_
      refine px_iconst (v := nI 4) dL_drop_11 (by decide) ?_
      refine px_iload_n dL_drop_12 rfl ?_
      refine px_imulN dL_drop_13 ?_
      refine px_iconst (v := nI 2) dL_drop_14 (by decide) ?_
      refine px_iaddN dL_drop_15 ?_
      refine px_iald (j := ((4 * i) + 2)) dL_drop_16 pv_a_lo.1 rfl (by omega) pv_a_lo.2.2 pv_a_lo.2.1 ?_
      refine px_iv (y := nI ((pl_g L i).2.2.1)) (hr.2.2.1) ?_
      refine px_if_neN (tgt := 54) dL_drop_17 (by decide) (by omega) (fun h0 => ?_) (fun h0 => ?_)
      · refine px_iinc dL_drop_54 rfl (q_m1 i) (by decide) ?_
        refine px_goto (tgt := 6) dL_drop_57 (by decide) ?_
        refine px_keep [0, 1, 2] ?_
        rw [← pl_low_pos hi h0] at hD1 hL1
        exact ih (by omega) I1 hD1 hL1 hF
      · refine px_aload_n dL_drop_20 rfl ?_
        refine px_iconst (v := nI 1) dL_drop_21 (by decide) ?_
        refine px_dup2 dL_drop_22 rfl rfl ?_
        refine px_iald (j := 1) dL_drop_23 pv_a_d.1 rfl (by omega) pv_a_d.2.2 pv_a_d.2.1 ?_
        refine px_iv (y := nI ((pl_low L (i + 1)).length)) (hD1.1) ?_
        refine px_iconst (v := nI 1) dL_drop_24 (by decide) ?_
        refine px_isubN (by omega) dL_drop_25 ?_
        refine px_iast (j := 1) dL_drop_26 pv_a_d.1 rfl (by omega) pv_a_d.2.2 pv_a_d.2.1 ?_
        obtain ⟨hc1, hc2⟩ := pl_low_cut hi h0
        have hD2 := qD_n (n' := (pl_low L (i + 1)).length - 1) hD1
        generalize hI2 : pv_uI I1 365 1 (nI ((pl_low L (i + 1)).length - 1)) = I2 at hD2
        have hI2a : ∀ k, k ≠ 365 → I2 k = I1 k := fun k hk => by rw [← hI2]; exact pv_uI_ne hk
        refine px_iconst (v := nI 4) dL_drop_27 (by decide) ?_
        refine px_iload_n dL_drop_28 rfl ?_
        refine px_imulN dL_drop_29 ?_
        refine px_istore_n dL_drop_30 (by decide) ?_
        have inner : ∀ e : Nat, e ≤ 4 * ((pl_low L (i + 1)).length - 1) → 4 * i ≤ e → ∀ I3 : pv_IT, (∀ k, k ≠ 367 → I3 k = I2 k) → (∀ j, I3 367 j = if 4 * i ≤ j ∧ j < e then I1 367 (j + 4) else I1 367 j) → pv_X (pv_ZQ E Q) E d bc bs mL_drop 31 [(0, .ref 365), (1, .ref 367), (2, .int (nI i)), (3, .int (nI e))] [] pv_K0 pv_P0 (I3) (J) := by
          refine pv_up (4 * ((pl_low L (i + 1)).length - 1)) ?_ ?_
          · intro _ I3 hF3 hE3
            refine px_iload_n dL_drop_31 rfl ?_
            refine px_iconst (v := nI 4) dL_drop_32 (by decide) ?_
            refine px_aload_n dL_drop_33 rfl ?_
            refine px_iconst (v := nI 1) dL_drop_34 (by decide) ?_
            refine px_iald (j := 1) dL_drop_35 pv_a_d.1 rfl (by omega) pv_a_d.2.2 pv_a_d.2.1 ?_
            refine px_iv (y := nI ((pl_low L (i + 1)).length - 1)) ((qD_of hD2 (hF3 365 (by omega)) (fun _ _ => rfl)).1) ?_
            refine px_imulN dL_drop_36 ?_
            refine px_icmp_geN (tgt := 54) dL_drop_37 (by decide) (by omega) (by omega) (fun _ => ?_) (fun h0 => absurd h0 (by omega))
            refine px_iinc dL_drop_54 rfl (q_m1 i) (by decide) ?_
            refine px_goto (tgt := 6) dL_drop_57 (by decide) ?_
            refine px_keep [0, 1, 2] ?_
            have e9 : (pl_low L (i + 1)).length - 1 = (pl_low L i).length := by omega
            refine ih (by omega) I3 ?_ ?_ (fun k h1 h2 => by rw [hF3 k h2, hI2a k h1]; exact hF k h1 h2)
            · rw [← e9]
              exact qD_of hD2 (hF3 365 (by omega)) (fun _ _ => rfl)
            · intro j hj
              rw [hc2 j hj]
              unfold lo1
              rw [hE3, hE3, hE3, hE3]
              by_cases e : j < i
              · have h5 := hL1 j (by omega)
                rw [if_pos e, if_neg (by omega), if_neg (by omega), if_neg (by omega), if_neg (by omega)]
                exact h5
              · have h5 := hL1 (j + 1) (by omega)
                rw [if_neg e, if_pos (by omega), if_pos (by omega), if_pos (by omega), if_pos (by omega)]
                exact h5
          · intro e he K h4 I3 hF3 hE3
            refine px_iload_n dL_drop_31 rfl ?_
            refine px_iconst (v := nI 4) dL_drop_32 (by decide) ?_
            refine px_aload_n dL_drop_33 rfl ?_
            refine px_iconst (v := nI 1) dL_drop_34 (by decide) ?_
            refine px_iald (j := 1) dL_drop_35 pv_a_d.1 rfl (by omega) pv_a_d.2.2 pv_a_d.2.1 ?_
            refine px_iv (y := nI ((pl_low L (i + 1)).length - 1)) ((qD_of hD2 (hF3 365 (by omega)) (fun _ _ => rfl)).1) ?_
            refine px_imulN dL_drop_36 ?_
            refine px_icmp_geN (tgt := 54) dL_drop_37 (by decide) (by omega) (by omega) (fun h0 => absurd h0 (by omega)) (fun _ => ?_)
            refine px_aload_n dL_drop_40 rfl ?_
            refine px_iload_n dL_drop_41 rfl ?_
            refine px_aload_n dL_drop_42 rfl ?_
            refine px_iload_n dL_drop_43 rfl ?_
            refine px_iconst (v := nI 4) dL_drop_44 (by decide) ?_
            refine px_iaddN dL_drop_45 ?_
            refine px_iald (j := (e + 4)) dL_drop_46 pv_a_lo.1 rfl (by omega) pv_a_lo.2.2 pv_a_lo.2.1 ?_
            refine px_iast (j := e) dL_drop_47 pv_a_lo.1 rfl (by omega) pv_a_lo.2.2 pv_a_lo.2.1 ?_
            refine px_iincN (c := 1) (by decide) dL_drop_48 rfl (by decide) ?_
            refine px_goto (tgt := 31) dL_drop_51 (by decide) ?_
            refine px_keep [0, 1, 2, 3] ?_
            refine K (by omega) _ (fun k hk => (pv_uI_ne hk).trans (hF3 k hk)) (fun j => ?_)
            rw [pv_uI_at, hE3, hE3]
            by_cases e1 : j = e
            · subst e1
              rw [if_pos ⟨rfl, rfl⟩, if_neg (by omega), if_pos (by omega)]
            · rw [if_neg (by omega)]
              by_cases e2 : 4 * i ≤ j ∧ j < e
              · rw [if_pos e2, if_pos (by omega)]
              · rw [if_neg e2, if_neg (by omega)]
        refine inner (4 * i) (by omega) (Nat.le_refl _) I2 (fun _ _ => rfl) (fun j => ?_)
        rw [if_neg (by omega), hI2a 367 (by omega)]
  refine px_aload_n dL_drop_0 rfl ?_
  refine px_iconst (v := nI 1) dL_drop_1 (by decide) ?_
  refine px_iald (j := 1) dL_drop_2 pv_a_d.1 rfl (by omega) pv_a_d.2.2 pv_a_d.2.1 ?_
  refine px_iv (y := nI (L.length)) (hD.1) ?_
  refine px_iconst (v := nI 1) dL_drop_3 (by decide) ?_
  refine px_isub dL_drop_4 ?_
  refine px_istore_n dL_drop_5 (by decide) ?_
  refine key L.length (Nat.le_refl _) I ?_ ?_ (fun _ _ _ => rfl)
  · rw [pl_lowN]; exact hD
  · rw [pl_lowN]; exact hL
theorem c_L_drop {z : pv_Z} {E : pv_E} {d bc bs : Nat} {J : pv_JT} {I : pv_IT} {mi : pv_MI} {pc idx : Nat} {lv : pv_LV} {st : List Value} {T : pv_T} {L : List pv_Lot} (hd : decode mi.2.1 pc = .ok (.invokestatic idx, 3)) (hlk : Cond.methodLink mi.1.cls idx mL_drop.1 ∈ pv_W) (hDep : 0+1 ≤ d) (hD : qD I T L.length) (hL : qL I L) (h11 : L.length ≤ 12) (hma : ∀ l, l < L.length → (pl_g L l).2.2.1 < 2147483648) (hcat : (st.map fun v => v.category).sum ≤ 8) (K : ∀ I' : pv_IT, qD I' T (pl_drop L).length → qL I' (pl_drop L) → (∀ k, k ≠ 365 → k ≠ 367 → I' k = I k) → pv_X z E d bc bs mi (pc + 3) lv (st) pv_K0 pv_P0 (I') (J)) : pv_X z E d bc bs mi pc lv (.ref (367) :: .ref (365) :: st) pv_K0 pv_P0 I J := by
  obtain ⟨d, rfl⟩ : ∃ d0, d = d0 + 1 := ⟨d - 1, by omega⟩
  have key := px_callS (bc := bc) (bs := bs) (bc1 := 0) (bs1 := 0) (as := [.ref (365), .ref (367)]) (E := E) (z := z) (lv := lv) hd msL_drop hlk rfl rfl hcat (by exact Nat.le_of_ble_eq_true rfl) (s_L_drop (by omega) hD hL h11 hma K)
  rw [Nat.zero_add, Nat.zero_add] at key
  exact key
theorem pe_ahead {Dm : Nat → Nat} {i b : Nat} (h : b < i) : (Dm i < Dm b ∨ (Dm i = Dm b ∧ i < b)) ↔ Dm i < Dm b := by omega
set_option maxRecDepth 100000 in
set_option maxHeartbeats 4000000 in
theorem s_L_eat {Q : pv_Q} {E : pv_E} {d bc bs : Nat} {J : pv_JT} {I : pv_IT} {T : pv_T} {L : List pv_Lot} {Dm : Nat → Nat} {k need : Nat} (hDep : 1 ≤ d) (hD : qD I T L.length) (hK : qK I T) (hL : qL I L) (h11 : L.length ≤ 12) (hlb : lbs L) (hs : T 405 ≤ 4 ∧ True) (hM : ∀ l, l < L.length → I 370 l = nI (Dm l) ∧ Dm l ≤ 2100) (hk : k < T 405) (hnd : need < 2147483648) (h : ∀ I' : pv_IT, qK I' (pd_eat Dm k need (T, L)).2.1 → qL I' (pd_eat Dm k need (T, L)).2.2 → (∀ j, j ≠ 366 → j ≠ 367 → I' j = I j) → Q (.inl (some (.int (nI (pd_eat Dm k need (T, L)).1)))) pv_K0 pv_P0 (I') (J)) : pv_X (pv_ZQ E Q) E d bc bs mL_eat 0 [(0, .int (nI (k))), (1, .int (nI (need))), (2, .ref (370)), (3, .ref (365)), (4, .ref (366)), (5, .ref (367))] [] pv_K0 pv_P0 I J := by
  have h31 := h11
  have h4 := hs.1
  have key : ∀ i : Nat, i ≤ L.length → ∀ (a : Nat) (L1 : List pv_Lot) (I1 : pv_IT), qK I1 (pt_up T (25 + 5 * k) (T (25 + 5 * k) + (need - a))) → qL I1 L1 → lbs L1 → L1.length = L.length → a ≤ need → pe_eat Dm k (L.length - (i)) a L1 = pe_eat Dm k L.length need L → (∀ j, j ≠ 366 → j ≠ 367 → I1 j = I j) → pv_X (pv_ZQ E Q) E d bc bs mL_eat 6 [(0, .int (nI k)), (1, .int (nI need)), (2, .ref 370), (3, .ref 365), (4, .ref 366), (5, .ref 367), (6, .int (nI a)), (7, .int (nI (i)))] [] pv_K0 pv_P0 (I1) (J) := by
    refine pv_up (L.length) ?_ ?_
    · intro a L1 I1 hK1 hL1 hlb1 hn hle hE hF
      refine px_iload dL_eat_6 rfl ?_
      refine px_aload_n dL_eat_8 rfl ?_
      refine px_iconst (v := nI 1) dL_eat_9 (by decide) ?_
      refine px_iald (j := 1) dL_eat_10 pv_a_d.1 rfl (by omega) pv_a_d.2.2 pv_a_d.2.1 ?_
      refine px_iv (y := nI (L.length)) ((qD_of hD (hF 365 (by omega) (by omega)) (fun _ _ => rfl)).1) ?_
      refine px_icmp_geN (tgt := 161) dL_eat_11 (by decide) (by omega) (by omega) (fun _ => ?_) (fun h0 => absurd h0 (by omega))
      refine px_iload dL_eat_161 rfl ?_
      have hr : pe_eat Dm k L.length need L = (a, L1) := by rw [← hE, Nat.sub_self]; rfl
      unfold pd_eat at h
      rw [hr] at h
      exact px_iret dL_eat_163 rfl (Or.inl rfl) (h I1 hK1 hL1 hF)
    · intro i hi K a L1 I1 hK1 hL1 hlb1 hn hle hE hF
      refine px_iload dL_eat_6 rfl ?_
      refine px_aload_n dL_eat_8 rfl ?_
      refine px_iconst (v := nI 1) dL_eat_9 (by decide) ?_
      refine px_iald (j := 1) dL_eat_10 pv_a_d.1 rfl (by omega) pv_a_d.2.2 pv_a_d.2.1 ?_
      refine px_iv (y := nI (L.length)) ((qD_of hD (hF 365 (by omega) (by omega)) (fun _ _ => rfl)).1) ?_
      refine px_icmp_geN (tgt := 161) dL_eat_11 (by decide) (by omega) (by omega) (fun h0 => absurd h0 (by omega)) (fun _ => ?_)
      refine px_iload dL_eat_14 rfl ?_
      refine px_if_leN (tgt := 161) dL_eat_16 (by decide) (by omega) (fun h0 => ?_) (fun h0 => ?_)
      · refine px_iload dL_eat_161 rfl ?_
        have hr : pe_eat Dm k L.length need L = (a, L1) := by rw [← hE, h0, pe_eat0]
        unfold pd_eat at h
        rw [hr] at h
        exact px_iret dL_eat_163 rfl (Or.inl rfl) (h I1 hK1 hL1 hF)
      · refine px_iconst (v := -1) dL_eat_19 (by decide) ?_
        refine px_istore dL_eat_20 (by decide) ?_
        refine px_iconst (v := nI 0) dL_eat_22 (by decide) ?_
        refine px_istore dL_eat_23 (by decide) ?_
        have sk : ∀ t : Nat, t ≤ L.length → pv_X (pv_ZQ E Q) E d bc bs mL_eat 25 [(0, .int (nI k)), (1, .int (nI need)), (2, .ref 370), (3, .ref 365), (4, .ref 366), (5, .ref 367), (6, .int (nI a)), (7, .int (nI (i))), (8, .int (oI (pe_next Dm k L1 t))), (9, .int (nI t))] [] pv_K0 pv_P0 (I1) (J) := by
          refine pv_up (L.length) ?_ ?_
          · skip
            refine px_iload dL_eat_25 rfl ?_
            refine px_aload_n dL_eat_27 rfl ?_
            refine px_iconst (v := nI 1) dL_eat_28 (by decide) ?_
            refine px_iald (j := 1) dL_eat_29 pv_a_d.1 rfl (by omega) pv_a_d.2.2 pv_a_d.2.1 ?_
            refine px_iv (y := nI (L.length)) ((qD_of hD (hF 365 (by omega) (by omega)) (fun _ _ => rfl)).1) ?_
            refine px_icmp_geN (tgt := 82) dL_eat_30 (by decide) (by omega) (by omega) (fun _ => ?_) (fun h0 => absurd h0 (by omega))
            refine px_iload dL_eat_82 rfl ?_
            cases e : pe_next Dm k L1 L1.length with
            | none =>
              rw [← hn, e]
              refine px_if_ge (tgt := 90) dL_eat_84 (by decide) (fun h9 => absurd h9 (by decide)) (fun _ => ?_)
              refine px_iload dL_eat_87 rfl ?_
              have hr : pe_eat Dm k L.length need L = (a, L1) := by rw [← hE, pe_eat_none e]
              unfold pd_eat at h
              rw [hr] at h
              exact px_iret dL_eat_89 rfl (Or.inl rfl) (h I1 hK1 hL1 hF)
            | some b =>
              have hbi := pe_next_is e
              have hb8 := hlb1.2 b hbi.1
              unfold lb at hb8
              have hrb := hL1 b hbi.1
              rw [← hn, e]
              refine px_if_ge (tgt := 90) dL_eat_84 (by decide) (fun _ => ?_) (fun h9 => absurd (nI_pos' (n := b) (by omega)) h9)
              refine px_aload dL_eat_90 rfl ?_
              refine px_iconst (v := nI 4) dL_eat_92 (by decide) ?_
              refine px_iload dL_eat_93 rfl ?_
              refine px_imulN dL_eat_95 ?_
              refine px_iconst (v := nI 2) dL_eat_96 (by decide) ?_
              refine px_iaddN dL_eat_97 ?_
              refine px_iald (j := ((4 * b) + 2)) dL_eat_98 pv_a_lo.1 rfl (by omega) pv_a_lo.2.2 pv_a_lo.2.1 ?_
              refine px_iv (y := nI ((pl_g L1 b).2.2.1)) (hrb.2.2.1) ?_
              refine px_iload dL_eat_99 rfl ?_
              refine px_icmp_leN (tgt := 109) dL_eat_101 (by decide) (by omega) (by omega) (fun h6 => ?_) (fun h6 => ?_)
              · refine px_aload dL_eat_109 rfl ?_
                refine px_iconst (v := nI 4) dL_eat_111 (by decide) ?_
                refine px_iload dL_eat_112 rfl ?_
                refine px_imulN dL_eat_114 ?_
                refine px_iconst (v := nI 2) dL_eat_115 (by decide) ?_
                refine px_iaddN dL_eat_116 ?_
                refine px_iald (j := ((4 * b) + 2)) dL_eat_117 pv_a_lo.1 rfl (by omega) pv_a_lo.2.2 pv_a_lo.2.1 ?_
                refine px_iv (y := nI ((pl_g L1 b).2.2.1)) (hrb.2.2.1) ?_
                have hmn : min a (pl_g L1 b).2.2.1 = (pl_g L1 b).2.2.1 := by omega
                refine px_iv (y := nI (min a (pl_g L1 b).2.2.1)) (congrArg nI hmn.symm) ?_
                refine px_istore dL_eat_118 (by decide) ?_
                refine px_aload dL_eat_120 rfl ?_
                refine px_iconst (v := nI 4) dL_eat_122 (by decide) ?_
                refine px_iload dL_eat_123 rfl ?_
                refine px_imulN dL_eat_125 ?_
                refine px_iconst (v := nI 2) dL_eat_126 (by decide) ?_
                refine px_iaddN dL_eat_127 ?_
                refine px_dup2 dL_eat_128 rfl rfl ?_
                refine px_iald (j := ((4 * b) + 2)) dL_eat_129 pv_a_lo.1 rfl (by omega) pv_a_lo.2.2 pv_a_lo.2.1 ?_
                refine px_iv (y := nI ((pl_g L1 b).2.2.1)) (hrb.2.2.1) ?_
                refine px_iload dL_eat_130 rfl ?_
                refine px_isubN (by omega) dL_eat_132 ?_
                refine px_iast (j := ((4 * b) + 2)) dL_eat_133 pv_a_lo.1 rfl (by omega) pv_a_lo.2.2 pv_a_lo.2.1 ?_
                have hL2 := qL_amt (v := (pl_g L1 b).2.2.1 - min a (pl_g L1 b).2.2.1) hL1 hbi.1
                refine px_aload dL_eat_134 rfl ?_
                refine px_bipush (v := nI 8) dL_eat_136 (by decide) ?_
                refine px_iload_n dL_eat_138 rfl ?_
                refine px_imulN dL_eat_139 ?_
                refine px_iconst (v := nI 4) dL_eat_140 (by decide) ?_
                refine px_iaddN dL_eat_141 ?_
                refine px_dup2 dL_eat_142 rfl rfl ?_
                refine px_iald (j := ((8 * k) + 4)) dL_eat_143 pv_a_ki.1 rfl (by omega) pv_a_ki.2.2 pv_a_ki.2.1 ?_
                refine px_iv (y := I1 366 (8 * k + 4)) (congrFun (pv_uI_ne (by omega)) _) ?_
                refine px_iload dL_eat_144 rfl ?_
                refine px_iadd dL_eat_146 ?_
                refine px_iast (j := ((8 * k) + 4)) dL_eat_147 pv_a_ki.1 rfl (by omega) pv_a_ki.2.2 pv_a_ki.2.1 ?_
                have hK2 := qK_add (x := min a (pl_g L1 b).2.2.1) (w := 4) (I := pv_uI I1 367 (4 * b + 2) (nI ((pl_g L1 b).2.2.1 - min a (pl_g L1 b).2.2.1))) (qK_of (T' := (pt_up T (25 + 5 * k) (T (25 + 5 * k) + (need - a)))) hK1 (pv_uI_ne (by omega)) rfl (by show pt_up T _ _ 405 ≤ 8; rw [pt_un (by omega)]; omega) (fun _ _ => rfl)) (k := k) (by rw [pt_un (by omega)]; exact hk) (by omega) (by omega) (by rw [pt_un (by omega)]; omega)
                rw [show (pv_uI I1 367 (4 * b + 2) (nI ((pl_g L1 b).2.2.1 - min a (pl_g L1 b).2.2.1))) 366 (8 * k + 4) = I1 366 (8 * k + 4) from congrFun (pv_uI_ne (by omega)) _] at hK2
                refine px_iload dL_eat_148 rfl ?_
                refine px_iload dL_eat_150 rfl ?_
                refine px_isubN (by omega) dL_eat_152 ?_
                refine px_istore dL_eat_153 (by decide) ?_
                refine px_iincN (c := 1) (by decide) dL_eat_155 rfl (by decide) ?_
                refine px_goto (tgt := 6) dL_eat_158 (by decide) ?_
                refine px_keep [0, 1, 2, 3, 4, 5, 6, 7] ?_
                refine K (a - min a (pl_g L1 b).2.2.1) (pl_amt L1 b ((pl_g L1 b).2.2.1 - min a (pl_g L1 b).2.2.1)) _ ?_ (qL_of hL2 (pv_uI_ne (by omega))) (lbs_amt hlb1 hbi.1 (by omega)) (pl_amt_len.trans hn) (by omega) ?_ (fun k0 h1 h2 => ?_)
                · have e2 : pt_up (pt_up T (25 + 5 * k) (T (25 + 5 * k) + (need - a))) (21 + 5 * k + 4) ((pt_up T (25 + 5 * k) (T (25 + 5 * k) + (need - a))) (21 + 5 * k + 4) + min a (pl_g L1 b).2.2.1) = pt_up T (25 + 5 * k) (T (25 + 5 * k) + (need - (a - min a (pl_g L1 b).2.2.1))) := by
                    have e9 : 21 + 5 * k + 4 = 25 + 5 * k := by omega
                    rw [e9]
                    funext j
                    unfold pt_up
                    by_cases e3 : j = 25 + 5 * k
                    · rw [if_pos e3, if_pos e3, if_pos rfl]; omega
                    · rw [if_neg e3, if_neg e3, if_neg e3]
                  rw [← e2]
                  exact hK2
                · rw [← hE, show L.length - i = (L.length - (i + 1)) + 1 by omega, pe_eat_some e h0]
                · rw [pv_uI_ne h1, pv_uI_ne h2]
                  exact hF k0 h1 h2
              · refine px_iload dL_eat_104 rfl ?_
                refine px_goto (tgt := 118) dL_eat_106 (by decide) ?_
                have hmn : min a (pl_g L1 b).2.2.1 = a := by omega
                refine px_iv (y := nI (min a (pl_g L1 b).2.2.1)) (congrArg nI hmn.symm) ?_
                refine px_istore dL_eat_118 (by decide) ?_
                refine px_aload dL_eat_120 rfl ?_
                refine px_iconst (v := nI 4) dL_eat_122 (by decide) ?_
                refine px_iload dL_eat_123 rfl ?_
                refine px_imulN dL_eat_125 ?_
                refine px_iconst (v := nI 2) dL_eat_126 (by decide) ?_
                refine px_iaddN dL_eat_127 ?_
                refine px_dup2 dL_eat_128 rfl rfl ?_
                refine px_iald (j := ((4 * b) + 2)) dL_eat_129 pv_a_lo.1 rfl (by omega) pv_a_lo.2.2 pv_a_lo.2.1 ?_
                refine px_iv (y := nI ((pl_g L1 b).2.2.1)) (hrb.2.2.1) ?_
                refine px_iload dL_eat_130 rfl ?_
                refine px_isubN (by omega) dL_eat_132 ?_
                refine px_iast (j := ((4 * b) + 2)) dL_eat_133 pv_a_lo.1 rfl (by omega) pv_a_lo.2.2 pv_a_lo.2.1 ?_
                have hL2 := qL_amt (v := (pl_g L1 b).2.2.1 - min a (pl_g L1 b).2.2.1) hL1 hbi.1
                refine px_aload dL_eat_134 rfl ?_
                refine px_bipush (v := nI 8) dL_eat_136 (by decide) ?_
                refine px_iload_n dL_eat_138 rfl ?_
                refine px_imulN dL_eat_139 ?_
                refine px_iconst (v := nI 4) dL_eat_140 (by decide) ?_
                refine px_iaddN dL_eat_141 ?_
                refine px_dup2 dL_eat_142 rfl rfl ?_
                refine px_iald (j := ((8 * k) + 4)) dL_eat_143 pv_a_ki.1 rfl (by omega) pv_a_ki.2.2 pv_a_ki.2.1 ?_
                refine px_iv (y := I1 366 (8 * k + 4)) (congrFun (pv_uI_ne (by omega)) _) ?_
                refine px_iload dL_eat_144 rfl ?_
                refine px_iadd dL_eat_146 ?_
                refine px_iast (j := ((8 * k) + 4)) dL_eat_147 pv_a_ki.1 rfl (by omega) pv_a_ki.2.2 pv_a_ki.2.1 ?_
                have hK2 := qK_add (x := min a (pl_g L1 b).2.2.1) (w := 4) (I := pv_uI I1 367 (4 * b + 2) (nI ((pl_g L1 b).2.2.1 - min a (pl_g L1 b).2.2.1))) (qK_of (T' := (pt_up T (25 + 5 * k) (T (25 + 5 * k) + (need - a)))) hK1 (pv_uI_ne (by omega)) rfl (by show pt_up T _ _ 405 ≤ 8; rw [pt_un (by omega)]; omega) (fun _ _ => rfl)) (k := k) (by rw [pt_un (by omega)]; exact hk) (by omega) (by omega) (by rw [pt_un (by omega)]; omega)
                rw [show (pv_uI I1 367 (4 * b + 2) (nI ((pl_g L1 b).2.2.1 - min a (pl_g L1 b).2.2.1))) 366 (8 * k + 4) = I1 366 (8 * k + 4) from congrFun (pv_uI_ne (by omega)) _] at hK2
                refine px_iload dL_eat_148 rfl ?_
                refine px_iload dL_eat_150 rfl ?_
                refine px_isubN (by omega) dL_eat_152 ?_
                refine px_istore dL_eat_153 (by decide) ?_
                refine px_iincN (c := 1) (by decide) dL_eat_155 rfl (by decide) ?_
                refine px_goto (tgt := 6) dL_eat_158 (by decide) ?_
                refine px_keep [0, 1, 2, 3, 4, 5, 6, 7] ?_
                refine K (a - min a (pl_g L1 b).2.2.1) (pl_amt L1 b ((pl_g L1 b).2.2.1 - min a (pl_g L1 b).2.2.1)) _ ?_ (qL_of hL2 (pv_uI_ne (by omega))) (lbs_amt hlb1 hbi.1 (by omega)) (pl_amt_len.trans hn) (by omega) ?_ (fun k0 h1 h2 => ?_)
                · have e2 : pt_up (pt_up T (25 + 5 * k) (T (25 + 5 * k) + (need - a))) (21 + 5 * k + 4) ((pt_up T (25 + 5 * k) (T (25 + 5 * k) + (need - a))) (21 + 5 * k + 4) + min a (pl_g L1 b).2.2.1) = pt_up T (25 + 5 * k) (T (25 + 5 * k) + (need - (a - min a (pl_g L1 b).2.2.1))) := by
                    have e9 : 21 + 5 * k + 4 = 25 + 5 * k := by omega
                    rw [e9]
                    funext j
                    unfold pt_up
                    by_cases e3 : j = 25 + 5 * k
                    · rw [if_pos e3, if_pos e3, if_pos rfl]; omega
                    · rw [if_neg e3, if_neg e3, if_neg e3]
                  rw [← e2]
                  exact hK2
                · rw [← hE, show L.length - i = (L.length - (i + 1)) + 1 by omega, pe_eat_some e h0]
                · rw [pv_uI_ne h1, pv_uI_ne h2]
                  exact hF k0 h1 h2
          · intro t ht K2
            have hrt := hL1 t (by omega)
            have hx := hlb1.2 t (by omega)
            unfold lb at hx
            refine px_iload dL_eat_25 rfl ?_
            refine px_aload_n dL_eat_27 rfl ?_
            refine px_iconst (v := nI 1) dL_eat_28 (by decide) ?_
            refine px_iald (j := 1) dL_eat_29 pv_a_d.1 rfl (by omega) pv_a_d.2.2 pv_a_d.2.1 ?_
            refine px_iv (y := nI (L.length)) ((qD_of hD (hF 365 (by omega) (by omega)) (fun _ _ => rfl)).1) ?_
            refine px_icmp_geN (tgt := 82) dL_eat_30 (by decide) (by omega) (by omega) (fun h0 => absurd h0 (by omega)) (fun _ => ?_)
            refine px_aload dL_eat_33 rfl ?_
            refine px_iconst (v := nI 4) dL_eat_35 (by decide) ?_
            refine px_iload dL_eat_36 rfl ?_
            refine px_imulN dL_eat_38 ?_
            refine px_iald (j := (4 * t)) dL_eat_39 pv_a_lo.1 rfl (by omega) pv_a_lo.2.2 pv_a_lo.2.1 ?_
            refine px_iv (y := nI ((pl_g L1 t).1)) (hrt.1) ?_
            refine px_iload_n dL_eat_40 rfl ?_
            refine px_icmp_neN (tgt := 76) dL_eat_41 (by decide) (by omega) (by omega) (fun h7 => ?_) (fun h7 => ?_)
            · refine px_iincN (c := 1) (by decide) dL_eat_76 rfl (by decide) ?_
              refine px_goto (tgt := 25) dL_eat_79 (by decide) ?_
              refine px_keep [0, 1, 2, 3, 4, 5, 6, 7, 8, 9] ?_
              have e : pe_next Dm k L1 (t + 1) = pe_next Dm k L1 t := by rw [pe_next, if_neg (by omega)]
              rw [e] at K2
              exact K2
            · refine px_aload dL_eat_44 rfl ?_
              refine px_iconst (v := nI 4) dL_eat_46 (by decide) ?_
              refine px_iload dL_eat_47 rfl ?_
              refine px_imulN dL_eat_49 ?_
              refine px_iconst (v := nI 2) dL_eat_50 (by decide) ?_
              refine px_iaddN dL_eat_51 ?_
              refine px_iald (j := ((4 * t) + 2)) dL_eat_52 pv_a_lo.1 rfl (by omega) pv_a_lo.2.2 pv_a_lo.2.1 ?_
              refine px_iv (y := nI ((pl_g L1 t).2.2.1)) (hrt.2.2.1) ?_
              refine px_if_leN (tgt := 76) dL_eat_53 (by decide) (by omega) (fun h8 => ?_) (fun h8 => ?_)
              · refine px_iincN (c := 1) (by decide) dL_eat_76 rfl (by decide) ?_
                refine px_goto (tgt := 25) dL_eat_79 (by decide) ?_
                refine px_keep [0, 1, 2, 3, 4, 5, 6, 7, 8, 9] ?_
                have e : pe_next Dm k L1 (t + 1) = pe_next Dm k L1 t := by rw [pe_next, if_neg (by omega)]
                rw [e] at K2
                exact K2
              · refine px_iload dL_eat_56 rfl ?_
                cases e : pe_next Dm k L1 t with
                | none =>
                  have e1 : pe_next Dm k L1 (t + 1) = some t := by rw [pe_next, if_pos ⟨h7, h8⟩, e]
                  rw [e1] at K2
                  refine px_if_lt (tgt := 72) dL_eat_58 (by decide) (fun _ => ?_) (fun h9 => absurd (by decide) h9)
                  refine px_iload dL_eat_72 rfl ?_
                  refine px_istore dL_eat_74 (by decide) ?_
                  refine px_iincN (c := 1) (by decide) dL_eat_76 rfl (by decide) ?_
                  refine px_goto (tgt := 25) dL_eat_79 (by decide) ?_
                  refine px_keep [0, 1, 2, 3, 4, 5, 6, 7, 8, 9] ?_
                  exact K2
                | some b =>
                  have e1 : pe_next Dm k L1 (t + 1) = if Dm t < Dm b then some t else some b := by rw [pe_next, if_pos ⟨h7, h8⟩, e]
                  have hbi := (pe_next_is e).1
                  refine px_if_lt (tgt := 72) dL_eat_58 (by decide) (fun h9 => absurd h9 (nI_pos (by omega))) (fun _ => ?_)
                  refine px_iload dL_eat_61 rfl ?_
                  refine px_iload dL_eat_63 rfl ?_
                  refine px_aload_n dL_eat_65 rfl ?_
                  refine c_L_ahead dL_eat_66 mlL_14 (by omega) (fun l hl => by rw [hF 370 (by omega) (by omega)]; exact hM l hl) (by omega) ht (by omega) (Nat.le_of_ble_eq_true rfl) ?_
                  refine px_if_eqB (tgt := 76) dL_eat_69 (by decide) (fun h6 => ?_) (fun h6 => ?_)
                  · refine px_iincN (c := 1) (by decide) dL_eat_76 rfl (by decide) ?_
                    refine px_goto (tgt := 25) dL_eat_79 (by decide) ?_
                    refine px_keep [0, 1, 2, 3, 4, 5, 6, 7, 8, 9] ?_
                    rw [if_neg (by omega)] at e1
                    rw [e1] at K2
                    exact K2
                  · refine px_iload dL_eat_72 rfl ?_
                    refine px_istore dL_eat_74 (by decide) ?_
                    refine px_iincN (c := 1) (by decide) dL_eat_76 rfl (by decide) ?_
                    refine px_goto (tgt := 25) dL_eat_79 (by decide) ?_
                    refine px_keep [0, 1, 2, 3, 4, 5, 6, 7, 8, 9] ?_
                    rw [if_pos (by omega)] at e1
                    rw [e1] at K2
                    exact K2
        exact sk 0 (by omega)
  refine px_iload_n dL_eat_0 rfl ?_
  refine px_istore dL_eat_1 (by decide) ?_
  refine px_iconst (v := nI 0) dL_eat_3 (by decide) ?_
  refine px_istore dL_eat_4 (by decide) ?_
  refine key 0 (by omega) need L I ?_ hL hlb rfl (Nat.le_refl _) rfl (fun _ _ _ => rfl)
  have e2 : pt_up T (25 + 5 * k) (T (25 + 5 * k) + (need - need)) = T := by
    funext j
    unfold pt_up
    by_cases e3 : j = 25 + 5 * k
    · rw [if_pos e3, e3]; omega
    · rw [if_neg e3]
  rw [e2]
  exact hK
theorem c_L_eat {z : pv_Z} {E : pv_E} {d bc bs : Nat} {J : pv_JT} {I : pv_IT} {mi : pv_MI} {pc idx : Nat} {lv : pv_LV} {st : List Value} {T : pv_T} {L : List pv_Lot} {Dm : Nat → Nat} {k need : Nat} (hd : decode mi.2.1 pc = .ok (.invokestatic idx, 3)) (hlk : Cond.methodLink mi.1.cls idx mL_eat.1 ∈ pv_W) (hDep : 1+1 ≤ d) (hD : qD I T L.length) (hK : qK I T) (hL : qL I L) (h11 : L.length ≤ 12) (hlb : lbs L) (hs : T 405 ≤ 4 ∧ True) (hM : ∀ l, l < L.length → I 370 l = nI (Dm l) ∧ Dm l ≤ 2100) (hk : k < T 405) (hnd : need < 2147483648) (hcat : (st.map fun v => v.category).sum ≤ 8) (K : ∀ I' : pv_IT, qK I' (pd_eat Dm k need (T, L)).2.1 → qL I' (pd_eat Dm k need (T, L)).2.2 → (∀ j, j ≠ 366 → j ≠ 367 → I' j = I j) → pv_X z E d bc bs mi (pc + 3) lv ((.int (nI (pd_eat Dm k need (T, L)).1)) :: st) pv_K0 pv_P0 (I') (J)) : pv_X z E d bc bs mi pc lv (.ref (367) :: .ref (366) :: .ref (365) :: .ref (370) :: .int (nI (need)) :: .int (nI (k)) :: st) pv_K0 pv_P0 I J := by
  obtain ⟨d, rfl⟩ : ∃ d0, d = d0 + 1 := ⟨d - 1, by omega⟩
  have key := px_callS (bc := bc) (bs := bs) (bc1 := 0) (bs1 := 0) (as := [.int (nI (k)), .int (nI (need)), .ref (370), .ref (365), .ref (366), .ref (367)]) (E := E) (z := z) (lv := lv) hd msL_eat hlk rfl rfl hcat (by exact Nat.le_of_ble_eq_true rfl) (s_L_eat (by omega) hD hK hL h11 hlb hs hM hk hnd K)
  rw [Nat.zero_add, Nat.zero_add] at key
  exact key
