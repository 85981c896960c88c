/-! The reference: its row, what changes it. -/
theorem MR_set {Z Z' : Nat → Int32} {T : pv_T} {L : List pv_Lot} {l : Nat} {x : pv_Lot} (h : MR Z T L) (hl : l < L.length) (hx : lb x) (h1 : lotm Z' l x) (hF : ∀ i, ¬ (70 + 4 * l ≤ i ∧ i < 74 + 4 * l) → Z' i = Z i) : MR Z' T (L.set l x) := by
  have h31 := h.2.2.1.1
  refine ⟨fun i a b c => (hF i (by omega)).trans (h.1 i a b c), by rw [List.length_set]; exact (hF 406 (by omega)).trans h.2.1, lbs_set h.2.2.1 hl hx, fun j hj => ?_⟩
  rw [List.length_set] at hj
  rw [pl_g_set hl]
  by_cases e : j = l
  · rw [if_pos e, e]; exact h1
  · rw [if_neg e]
    exact lotm_of (h.2.2.2 j hj) fun i h2 h3 => hF i (by omega)
theorem MR_amt {I : pv_IT} {T : pv_T} {L : List pv_Lot} {l v : Nat} (h : MR (I 366) T L) (hl : l < L.length) (hv : v ≤ 2000) : MR (pv_uI I 366 (70 + 4 * l + 2) (nI v) 366) T (pl_amt L l v) := by
  have hb := h.2.2.1.2 l hl
  have hm := h.2.2.2 l hl
  refine MR_set h hl ⟨hb.1, hb.2.1, hv, hb.2.2.2⟩ ?_ fun i hi => by rw [pv_uI_self, pk_un (by omega)]
  unfold lotm at hm ⊢
  rw [pv_uI_self, pk_us, pk_un (by omega), pk_un (by omega), pk_un (by omega)]
  exact ⟨hm.1, hm.2.1, rfl, hm.2.2.2⟩
theorem MR_age {I : pv_IT} {T : pv_T} {L : List pv_Lot} {l v : Nat} (h : MR (I 366) T L) (hl : l < L.length) (hv : v ≤ 2000) : MR (pv_uI I 366 (70 + 4 * l + 3) (nI v) 366) T (L.set l ((pl_g L l).1, (pl_g L l).2.1, (pl_g L l).2.2.1, v)) := by
  have hb := h.2.2.1.2 l hl
  have hm := h.2.2.2 l hl
  refine MR_set h hl ⟨hb.1, hb.2.1, hb.2.2.1, hv⟩ ?_ fun i hi => by rw [pv_uI_self, pk_un (by omega)]
  unfold lotm at hm ⊢
  rw [pv_uI_self, pk_us, pk_un (by omega), pk_un (by omega), pk_un (by omega)]
  exact ⟨hm.1, hm.2.1, hm.2.2.1, rfl⟩
theorem MR_sto {I : pv_IT} {T : pv_T} {L : List pv_Lot} {l v : Nat} (h : MR (I 366) T L) (hl : l < L.length) (hv : v < 3) : MR (pv_uI I 366 (70 + 4 * l + 1) (nI v) 366) T (pl_sto L l v) := by
  have hb := h.2.2.1.2 l hl
  have hm := h.2.2.2 l hl
  refine MR_set h hl ⟨hb.1, hv, hb.2.2.1, hb.2.2.2⟩ ?_ fun i hi => by rw [pv_uI_self, pk_un (by omega)]
  unfold lotm at hm ⊢
  rw [pv_uI_self, pk_us, pk_un (by omega), pk_un (by omega), pk_un (by omega)]
  exact ⟨hm.1, rfl, hm.2.2.1, hm.2.2.2⟩
theorem MR_push {Z Z' : Nat → Int32} {T : pv_T} {L : List pv_Lot} {x : pv_Lot} (h : MR Z T L) (hl : L.length < 31) (hx : lb x) (h1 : lotm Z' L.length x) (h2 : Z' 406 = nI (L.length + 1)) (hF : ∀ i, ¬ (70 + 4 * L.length ≤ i ∧ i < 74 + 4 * L.length) → i ≠ 406 → Z' i = Z i) : MR Z' T (L ++ [x]) := by
  refine ⟨fun i a b c => (hF i (by omega) c).trans (h.1 i a b c), by rw [List.length_append]; exact h2, lbs_push h.2.2.1 hl hx, fun j hj => ?_⟩
  rw [List.length_append] at hj
  replace hj : j < L.length + 1 := hj
  rw [pl_g_push]
  by_cases e : j < L.length
  · rw [if_pos e]
    exact lotm_of (h.2.2.2 j e) fun i h2 h3 => hF i (by omega) (by omega)
  · have e2 : j = L.length := by omega
    rw [if_neg e, if_pos e2, e2]
    exact h1
set_option maxRecDepth 100000 in
set_option maxHeartbeats 4000000 in
theorem s_X10_putLot {Q : pv_Q} {E : pv_E} {d bc bs : Nat} {J : pv_JT} {I : pv_IT} {T : pv_T} {L : List pv_Lot} {k s a g : Nat} (hD : 0 ≤ d) (hM : MR (I 366) T L) (hl : L.length < 31) (hx : lb (k, s, a, g)) (h : ∀ I' : pv_IT, MR (I' 366) T (L ++ [(k, s, a, g)]) → (∀ k0 : Nat, k0 ≠ 366 → I' k0 = I k0) → Q (.inl none) pv_K0 pv_P0 (I') (J)) : pv_X (pv_ZQ E Q) E d bc bs mX10_putLot 0 [(0, .ref (365)), (1, .int (nI (k))), (2, .int (nI (s))), (3, .int (nI (a))), (4, .int (nI (g)))] [] pv_K0 pv_P0 I J := by
  have h31 := hM.2.2.1.1
  refine px_bipush (v := nI 70) dX10_putLot_0 (by decide) ?_
  refine px_iconst (v := nI 4) dX10_putLot_2 (by decide) ?_
  refine px_aload_n dX10_putLot_3 rfl ?_
  refine px_getR dX10_putLot_4 flX10_7 pv_s_model (by decide) (by decide) rfl pv_k_model pv_p_365_1 ?_
  refine px_sipush (v := nI 406) dX10_putLot_7 (by decide) ?_
  refine px_iald (j := 406) dX10_putLot_10 pv_a_z.1 rfl (by omega) pv_a_z.2.2 pv_a_z.2.1 ?_
  refine px_iv (y := nI (L.length)) (hM.2.1) ?_
  refine px_imulN dX10_putLot_11 ?_
  refine px_iaddN dX10_putLot_12 ?_
  refine px_istore dX10_putLot_13 (by decide) ?_
  refine px_aload_n dX10_putLot_15 rfl ?_
  refine px_getR dX10_putLot_16 flX10_7 pv_s_model (by decide) (by decide) rfl pv_k_model pv_p_365_1 ?_
  refine px_iload dX10_putLot_19 rfl ?_
  refine px_iload_n dX10_putLot_21 rfl ?_
  refine px_iast (j := (70 + (4 * (L.length)))) dX10_putLot_22 pv_a_z.1 rfl (by omega) pv_a_z.2.2 pv_a_z.2.1 ?_
  refine px_aload_n dX10_putLot_23 rfl ?_
  refine px_getR dX10_putLot_24 flX10_7 pv_s_model (by decide) (by decide) rfl pv_k_model pv_p_365_1 ?_
  refine px_iload dX10_putLot_27 rfl ?_
  refine px_iconst (v := nI 1) dX10_putLot_29 (by decide) ?_
  refine px_iaddN dX10_putLot_30 ?_
  refine px_iload_n dX10_putLot_31 rfl ?_
  refine px_iast (j := ((70 + (4 * (L.length))) + 1)) dX10_putLot_32 pv_a_z.1 rfl (by omega) pv_a_z.2.2 pv_a_z.2.1 ?_
  refine px_aload_n dX10_putLot_33 rfl ?_
  refine px_getR dX10_putLot_34 flX10_7 pv_s_model (by decide) (by decide) rfl pv_k_model pv_p_365_1 ?_
  refine px_iload dX10_putLot_37 rfl ?_
  refine px_iconst (v := nI 2) dX10_putLot_39 (by decide) ?_
  refine px_iaddN dX10_putLot_40 ?_
  refine px_iload_n dX10_putLot_41 rfl ?_
  refine px_iast (j := ((70 + (4 * (L.length))) + 2)) dX10_putLot_42 pv_a_z.1 rfl (by omega) pv_a_z.2.2 pv_a_z.2.1 ?_
  refine px_aload_n dX10_putLot_43 rfl ?_
  refine px_getR dX10_putLot_44 flX10_7 pv_s_model (by decide) (by decide) rfl pv_k_model pv_p_365_1 ?_
  refine px_iload dX10_putLot_47 rfl ?_
  refine px_iconst (v := nI 3) dX10_putLot_49 (by decide) ?_
  refine px_iaddN dX10_putLot_50 ?_
  refine px_iload dX10_putLot_51 rfl ?_
  refine px_iast (j := ((70 + (4 * (L.length))) + 3)) dX10_putLot_53 pv_a_z.1 rfl (by omega) pv_a_z.2.2 pv_a_z.2.1 ?_
  refine px_aload_n dX10_putLot_54 rfl ?_
  refine px_getR dX10_putLot_55 flX10_7 pv_s_model (by decide) (by decide) rfl pv_k_model pv_p_365_1 ?_
  refine px_sipush (v := nI 406) dX10_putLot_58 (by decide) ?_
  refine px_dup2 dX10_putLot_61 rfl rfl ?_
  refine px_iald (j := 406) dX10_putLot_62 pv_a_z.1 rfl (by omega) pv_a_z.2.2 pv_a_z.2.1 ?_
  refine px_iv (y := nI (L.length)) (Eq.trans (by simp only [pv_uI_at, true_and]; repeat' (first | rfl | omega | split)) hM.2.1) ?_
  refine px_iconst (v := nI 1) dX10_putLot_63 (by decide) ?_
  refine px_iaddN dX10_putLot_64 ?_
  refine px_iast (j := 406) dX10_putLot_65 pv_a_z.1 rfl (by omega) pv_a_z.2.2 pv_a_z.2.1 ?_
  refine px_vret dX10_putLot_66 rfl (Or.inl rfl) (h _ (MR_push hM hl hx ⟨?_, ?_, ?_, ?_⟩ ?_ fun i h1 h2 => ?_) (fun k hk => ?_))
  · simp only [pv_uI_at, true_and]; rw [if_neg (by omega), if_neg (by omega), if_neg (by omega), if_neg (by omega), if_pos trivial]
  · simp only [pv_uI_at, true_and]; rw [if_neg (by omega), if_neg (by omega), if_neg (by omega), if_pos trivial]
  · simp only [pv_uI_at, true_and]; rw [if_neg (by omega), if_neg (by omega), if_pos trivial]
  · simp only [pv_uI_at, true_and]; rw [if_neg (by omega), if_pos trivial]
  · simp only [pv_uI_at, true_and]; rw [if_pos trivial]
  · simp only [pv_uI_at, true_and]; rw [if_neg (by omega), if_neg (by omega), if_neg (by omega), if_neg (by omega), if_neg (by omega)]
  · rw [pv_uI_ne hk, pv_uI_ne hk, pv_uI_ne hk, pv_uI_ne hk, pv_uI_ne hk]
theorem c_X10_putLot {z : pv_Z} {E : pv_E} {d bc bs : Nat} {J : pv_JT} {I : pv_IT} {mi : pv_MI} {pc idx : Nat} {lv : pv_LV} {st : List Value} {T : pv_T} {L : List pv_Lot} {k s a g : Nat} (hd : decode mi.2.1 pc = .ok (.invokevirtual idx, 3)) (hlk : Cond.methodLink mi.1.cls idx mX10_putLot.1 ∈ pv_W) (hD : 0+1 ≤ d) (hM : MR (I 366) T L) (hl : L.length < 31) (hx : lb (k, s, a, g)) (hcat : (st.map fun v => v.category).sum ≤ 8) (K : ∀ I' : pv_IT, MR (I' 366) T (L ++ [(k, s, a, g)]) → (∀ k0 : Nat, k0 ≠ 366 → I' k0 = I k0) → pv_X z E d bc bs mi (pc + 3) lv (st) pv_K0 pv_P0 (I') (J)) : pv_X z E d bc bs mi pc lv (.int (nI (g)) :: .int (nI (a)) :: .int (nI (s)) :: .int (nI (k)) :: .ref (365) :: st) pv_K0 pv_P0 I J := by
  obtain ⟨d, rfl⟩ : ∃ d0, d = d0 + 1 := ⟨d - 1, by omega⟩
  have key := px_callV (bc := bc) (bs := bs) (bc1 := 0) (bs1 := 0) (as := [.int (nI (k)), .int (nI (s)), .int (nI (a)), .int (nI (g))]) (E := E) (z := z) (lv := lv) hd mvX10_putLot hlk pv_s_model (by decide) rfl pv_k_model rfl rfl hcat (by exact Nat.le_of_ble_eq_true rfl) (s_X10_putLot (by omega) hM hl hx K)
  rw [Nat.zero_add, Nat.zero_add] at key
  exact key
set_option maxRecDepth 100000 in
set_option maxHeartbeats 4000000 in
theorem s_X10_dropEmpty {Q : pv_Q} {E : pv_E} {d bc bs : Nat} {J : pv_JT} {I : pv_IT} {T : pv_T} {L : List pv_Lot} (hD : 1 ≤ d) (hM : MR (I 366) T L) (h : ∀ I' : pv_IT, MR (I' 366) T (pl_drop L) → (∀ k0 : Nat, k0 ≠ 366 → I' k0 = I k0) → Q (.inl none) pv_K0 pv_P0 (I') (J)) : pv_X (pv_ZQ E Q) E d bc bs mX10_dropEmpty 0 [(0, .ref (365))] [] pv_K0 pv_P0 I J := by
  obtain ⟨hT, hn, hbs, hc⟩ := hM
  have h31 := hbs.1
  have key : ∀ i : Nat, i ≤ L.length → ∀ I1 : pv_IT, (∀ l, l < (pl_kept L (i)).length → lotm (I1 366) l (pl_g (pl_kept L (i)) l)) → (∀ l, i ≤ l → l < L.length → lotm (I1 366) l (pl_g L l)) → (∀ i0, ¬ (70 ≤ i0 ∧ i0 < 194) → I1 366 i0 = I 366 i0) → (∀ k0 : Nat, k0 ≠ 366 → I1 k0 = I k0) → pv_X (pv_ZQ E Q) E d bc bs mX10_dropEmpty 4 [(0, .ref 365), (1, .int (nI (pl_kept L (i)).length)), (2, .int (nI (i)))] [] pv_K0 pv_P0 (I1) (J) := by
    refine pv_up (L.length) ?_ ?_
    · intro I1 hK hR hZ hF
      have hkl := pl_kept_le L L.length
      refine px_iload_n dX10_dropEmpty_4 rfl ?_
      refine px_aload_n dX10_dropEmpty_5 rfl ?_
      refine px_getR dX10_dropEmpty_6 flX10_7 pv_s_model (by decide) (by decide) rfl pv_k_model pv_p_365_1 ?_
      refine px_sipush (v := nI 406) dX10_dropEmpty_9 (by decide) ?_
      refine px_iald (j := 406) dX10_dropEmpty_12 pv_a_z.1 rfl (by omega) pv_a_z.2.2 pv_a_z.2.1 ?_
      refine px_iv (y := nI (L.length)) ((hZ 406 (by omega)).trans hn) ?_
      refine px_icmp_geN (tgt := 66) dX10_dropEmpty_13 (by decide) (by omega) (by omega) (fun _ => ?_) (fun h0 => absurd h0 (by omega))
      refine px_aload_n dX10_dropEmpty_66 rfl ?_
      refine px_getR dX10_dropEmpty_67 flX10_7 pv_s_model (by decide) (by decide) rfl pv_k_model pv_p_365_1 ?_
      refine px_sipush (v := nI 406) dX10_dropEmpty_70 (by decide) ?_
      refine px_iload_n dX10_dropEmpty_73 rfl ?_
      refine px_iast (j := 406) dX10_dropEmpty_74 pv_a_z.1 rfl (by omega) pv_a_z.2.2 pv_a_z.2.1 ?_
      rw [pl_keptN] at hK hkl ⊢
      refine px_vret dX10_dropEmpty_75 rfl (Or.inl rfl) (h _ ⟨fun i h1 h2 h3 => ?_, ?_, lbs_drop hbs, fun l hl => ?_⟩ (fun k hk => ?_))
      · rw [pv_uI_self, pk_un h3, hZ i h2]; exact hT i h1 h2 h3
      · rw [pv_uI_self, pk_us]
      · exact lotm_of (hK l hl) fun i h1 h2 => by rw [pv_uI_self, pk_un (by omega)]
      · rw [pv_uI_ne hk]; exact hF k hk
    · intro i hi K I1 hK hR hZ hF
      have hb := hbs.2 i hi
      unfold lb at hb
      have hle := pl_kept_le L i
      have hri := hR i (Nat.le_refl _) hi
      refine px_iload_n dX10_dropEmpty_4 rfl ?_
      refine px_aload_n dX10_dropEmpty_5 rfl ?_
      refine px_getR dX10_dropEmpty_6 flX10_7 pv_s_model (by decide) (by decide) rfl pv_k_model pv_p_365_1 ?_
      refine px_sipush (v := nI 406) dX10_dropEmpty_9 (by decide) ?_
      refine px_iald (j := 406) dX10_dropEmpty_12 pv_a_z.1 rfl (by omega) pv_a_z.2.2 pv_a_z.2.1 ?_
      refine px_iv (y := nI (L.length)) ((hZ 406 (by omega)).trans hn) ?_
      refine px_icmp_geN (tgt := 66) dX10_dropEmpty_13 (by decide) (by omega) (by omega) (fun h0 => absurd h0 (by omega)) (fun _ => ?_)
      refine px_aload_n dX10_dropEmpty_16 rfl ?_
      refine px_iload_n dX10_dropEmpty_17 rfl ?_
      refine px_iconst (v := nI 2) dX10_dropEmpty_18 (by decide) ?_
      refine c_X10_of dX10_dropEmpty_19 mlX10_53 (by omega) (by omega) (by omega) (Nat.le_of_ble_eq_true rfl) ?_
      refine px_iv (y := nI ((pl_g L i).2.2.1)) (hri.2.2.1) ?_
      refine px_if_leN (tgt := 60) dX10_dropEmpty_22 (by decide) (by omega) (fun h0 => ?_) (fun h0 => ?_)
      · refine px_iincN (c := 1) (by decide) dX10_dropEmpty_60 rfl (by decide) ?_
        refine px_goto (tgt := 4) dX10_dropEmpty_63 (by decide) ?_
        refine px_keep [0, 1, 2] ?_
        have e := pl_kept2 hi h0
        have K1 := K I1
        rw [e] at K1
        exact K1 hK (fun l h1 h2 => hR l (by omega) h2) hZ hF
      · refine px_iconst (v := nI 0) dX10_dropEmpty_25 (by decide) ?_
        refine px_istore_n dX10_dropEmpty_26 (by decide) ?_
        have key4 : ∀ q : Nat, q ≤ 4 → ∀ I2 : pv_IT, (∀ j, j < q → I2 366 (70 + 4 * (pl_kept L i).length + j) = I1 366 (70 + 4 * i + j)) → (∀ k0 j, ¬ (k0 = 366 ∧ 70 + 4 * (pl_kept L i).length ≤ j ∧ j < 74 + 4 * (pl_kept L i).length) → I2 k0 j = I1 k0 j) → (∀ j, q ≤ j → j < 4 → I2 366 (70 + 4 * i + j) = I1 366 (70 + 4 * i + j)) → pv_X (pv_ZQ E Q) E d bc bs mX10_dropEmpty 27 [(0, .ref 365), (1, .int (nI (pl_kept L i).length)), (2, .int (nI i)), (3, .int (nI (q)))] [] pv_K0 pv_P0 I2 J := by
          refine pv_up 4 ?_ ?_
          · intro I2 h41 h42 h43
            refine px_iload_n dX10_dropEmpty_27 rfl ?_
            refine px_iconst (v := nI 4) dX10_dropEmpty_28 (by decide) ?_
            refine px_icmp_geN (tgt := 57) dX10_dropEmpty_29 (by decide) (by omega) (by omega) (fun _ => ?_) (fun h0 => absurd h0 (by omega))
            refine px_iincN (c := 1) (by decide) dX10_dropEmpty_57 rfl (by decide) ?_
            refine px_iincN (c := 1) (by decide) dX10_dropEmpty_60 rfl (by decide) ?_
            refine px_goto (tgt := 4) dX10_dropEmpty_63 (by decide) ?_
            refine px_keep [0, 1, 2] ?_
            have e := pl_kept1 hi h0
            have K1 := K I2
            rw [e, List.length_append] at K1
            refine K1 (fun l hl => ?_) (fun l h1 h2 => lotm_of (hR l (by omega) h2) fun q h3 h4 => h42 366 q (by omega)) (fun q hq => (h42 366 q (by omega)).trans (hZ q hq)) (fun k0 hk => ?_)
            · rw [pl_g_push]
              have hl' : l < (pl_kept L i).length + 1 := hl
              by_cases e2 : l < (pl_kept L i).length
              · rw [if_pos e2]
                exact lotm_of (hK l e2) fun q h3 h4 => h42 366 q (by omega)
              · have e3 : l = (pl_kept L i).length := by omega
                subst e3
                rw [if_neg e2, if_pos rfl]
                exact ⟨(h41 0 (by omega)).trans hri.1, (h41 1 (by omega)).trans hri.2.1, (h41 2 (by omega)).trans hri.2.2.1, (h41 3 (by omega)).trans hri.2.2.2⟩
            · funext j
              rw [h42 k0 j (by omega), hF k0 hk]
          · intro q hq K4 I2 h41 h42 h43
            refine px_iload_n dX10_dropEmpty_27 rfl ?_
            refine px_iconst (v := nI 4) dX10_dropEmpty_28 (by decide) ?_
            refine px_icmp_geN (tgt := 57) dX10_dropEmpty_29 (by decide) (by omega) (by omega) (fun h0 => absurd h0 (by omega)) (fun _ => ?_)
            refine px_aload_n dX10_dropEmpty_32 rfl ?_
            refine px_getR dX10_dropEmpty_33 flX10_7 pv_s_model (by decide) (by decide) rfl pv_k_model pv_p_365_1 ?_
            refine px_bipush (v := nI 70) dX10_dropEmpty_36 (by decide) ?_
            refine px_iconst (v := nI 4) dX10_dropEmpty_38 (by decide) ?_
            refine px_iload_n dX10_dropEmpty_39 rfl ?_
            refine px_imulN dX10_dropEmpty_40 ?_
            refine px_iaddN dX10_dropEmpty_41 ?_
            refine px_iload_n dX10_dropEmpty_42 rfl ?_
            refine px_iaddN dX10_dropEmpty_43 ?_
            refine px_aload_n dX10_dropEmpty_44 rfl ?_
            refine px_iload_n dX10_dropEmpty_45 rfl ?_
            refine px_iload_n dX10_dropEmpty_46 rfl ?_
            refine c_X10_of dX10_dropEmpty_47 mlX10_53 (by omega) (by omega) (by omega) (Nat.le_of_ble_eq_true rfl) ?_
            refine px_iast (j := (70 + 4 * (pl_kept L i).length + q)) dX10_dropEmpty_50 pv_a_z.1 rfl (by omega) pv_a_z.2.2 pv_a_z.2.1 ?_
            refine px_iincN (c := 1) (by decide) dX10_dropEmpty_51 rfl (by decide) ?_
            refine px_goto (tgt := 27) dX10_dropEmpty_54 (by decide) ?_
            refine px_keep [0, 1, 2, 3] ?_
            refine K4 _ (fun j hj => ?_) (fun k0 j hj => ?_) (fun j h1 h2 => ?_)
            · simp only [pv_uI_at, true_and]
              by_cases e : j = q
              · subst e
                rw [if_pos rfl]
                exact h43 j (Nat.le_refl _) hq
              · rw [if_neg (by omega)]
                exact h41 j (by omega)
            · simp only [pv_uI_at]
              rw [if_neg (by omega)]
              exact h42 k0 j hj
            · simp only [pv_uI_at, true_and]
              rw [if_neg (by omega)]
              exact h43 j (by omega) h2
        exact key4 0 (by omega) I1 (fun j hj => absurd hj (Nat.not_lt_zero _)) (fun _ _ _ => rfl) (fun _ _ _ => rfl)
  refine px_iconst (v := nI 0) dX10_dropEmpty_0 (by decide) ?_
  refine px_istore_n dX10_dropEmpty_1 (by decide) ?_
  refine px_iconst (v := nI 0) dX10_dropEmpty_2 (by decide) ?_
  refine px_istore_n dX10_dropEmpty_3 (by decide) ?_
  exact key 0 (by omega) I (fun l hl => absurd hl (Nat.not_lt_zero _)) (fun l _ hl => hc l hl) (fun _ _ => rfl) (fun _ _ => rfl)
theorem c_X10_dropEmpty {z : pv_Z} {E : pv_E} {d bc bs : Nat} {J : pv_JT} {I : pv_IT} {mi : pv_MI} {pc idx : Nat} {lv : pv_LV} {st : List Value} {T : pv_T} {L : List pv_Lot} (hd : decode mi.2.1 pc = .ok (.invokevirtual idx, 3)) (hlk : Cond.methodLink mi.1.cls idx mX10_dropEmpty.1 ∈ pv_W) (hD : 1+1 ≤ d) (hM : MR (I 366) T L) (hcat : (st.map fun v => v.category).sum ≤ 8) (K : ∀ I' : pv_IT, MR (I' 366) T (pl_drop L) → (∀ k0 : Nat, k0 ≠ 366 → I' k0 = I k0) → pv_X z E d bc bs mi (pc + 3) lv (st) pv_K0 pv_P0 (I') (J)) : pv_X z E d bc bs mi pc lv (.ref (365) :: st) pv_K0 pv_P0 I J := by
  obtain ⟨d, rfl⟩ : ∃ d0, d = d0 + 1 := ⟨d - 1, by omega⟩
  have key := px_callV (bc := bc) (bs := bs) (bc1 := 0) (bs1 := 0) (as := []) (E := E) (z := z) (lv := lv) hd mvX10_dropEmpty hlk pv_s_model (by decide) rfl pv_k_model rfl rfl hcat (by exact Nat.le_of_ble_eq_true rfl) (s_X10_dropEmpty (by omega) hM K)
  rw [Nat.zero_add, Nat.zero_add] at key
  exact key
set_option maxRecDepth 100000 in
set_option maxHeartbeats 4000000 in
theorem s_X10_copy {Q : pv_Q} {E : pv_E} {d bc bs : Nat} {J : pv_JT} {I : pv_IT} {a b p q na nb : Nat} (hD : 0 ≤ d) (ha : pv_arr a na) (hb : pv_arr b nb) (hab : a ≠ b) (hp : p + 413 ≤ na) (hq : q + 413 ≤ nb) (h : ∀ I' : pv_IT, (∀ j, j < 413 → I' b (q + j) = I a (p + j)) → (∀ k0 j, ¬ (k0 = b ∧ q ≤ j ∧ j < q + 413) → I' k0 j = I k0 j) → Q (.inl none) pv_K0 pv_P0 (I') (J)) : pv_X (pv_ZQ E Q) E d bc bs mX10_copy 0 [(0, .ref (a)), (1, .int (nI (p))), (2, .ref (b)), (3, .int (nI (q)))] [] pv_K0 pv_P0 I J := by
  have hna := ha.2.2
  have hnb := hb.2.2
  have key : ∀ i : Nat, i ≤ 413 → ∀ I1 : pv_IT, (∀ j, j < i → I1 b (q + j) = I a (p + j)) → (∀ k0 j, ¬ (k0 = b ∧ q ≤ j ∧ j < q + 413) → I1 k0 j = I k0 j) → pv_X (pv_ZQ E Q) E d bc bs mX10_copy 3 [(0, .ref a), (1, .int (nI p)), (2, .ref b), (3, .int (nI q)), (4, .int (nI (i)))] [] pv_K0 pv_P0 (I1) (J) := by
    refine pv_up (413) ?_ ?_
    · intro I1 h1 h2
      refine px_iload dX10_copy_3 rfl ?_
      refine px_sipush (v := nI 412) dX10_copy_5 (by decide) ?_
      refine px_icmp_gtN (tgt := 29) dX10_copy_8 (by decide) (by omega) (by omega) (fun _ => ?_) (fun h0 => absurd h0 (by omega))
      exact px_vret dX10_copy_29 rfl (Or.inl rfl) (h I1 h1 h2)
    · intro i hi K I1 h1 h2
      refine px_iload dX10_copy_3 rfl ?_
      refine px_sipush (v := nI 412) dX10_copy_5 (by decide) ?_
      refine px_icmp_gtN (tgt := 29) dX10_copy_8 (by decide) (by omega) (by omega) (fun h0 => absurd h0 (by omega)) (fun _ => ?_)
      refine px_aload_n dX10_copy_11 rfl ?_
      refine px_iload_n dX10_copy_12 rfl ?_
      refine px_iload dX10_copy_13 rfl ?_
      refine px_iaddN dX10_copy_15 ?_
      refine px_aload_n dX10_copy_16 rfl ?_
      refine px_iload_n dX10_copy_17 rfl ?_
      refine px_iload dX10_copy_18 rfl ?_
      refine px_iaddN dX10_copy_20 ?_
      refine px_iald (j := (p + i)) dX10_copy_21 ha.1 rfl (by omega) ha.2.2 ha.2.1 ?_
      refine px_iast (j := (q + i)) dX10_copy_22 hb.1 rfl (by omega) hb.2.2 hb.2.1 ?_
      refine px_iincN (c := 1) (by decide) dX10_copy_23 rfl (by decide) ?_
      refine px_goto (tgt := 3) dX10_copy_26 (by decide) ?_
      refine px_keep [0, 1, 2, 3, 4] ?_
      refine K _ (fun j hj => ?_) (fun k0 j hj => ?_)
      · simp only [pv_uI_at, true_and]
        by_cases e : j = i
        · subst e
          rw [if_pos rfl]
          exact h2 a (p + j) (by omega)
        · rw [if_neg (by omega)]
          exact h1 j (by omega)
      · simp only [pv_uI_at]
        rw [if_neg (by omega)]
        exact h2 k0 j hj
  refine px_iconst (v := nI 0) dX10_copy_0 (by decide) ?_
  refine px_istore dX10_copy_1 (by decide) ?_
  exact key 0 (by omega) I (fun j hj => absurd hj (Nat.not_lt_zero _)) (fun _ _ _ => rfl)
theorem c_X10_copy {z : pv_Z} {E : pv_E} {d bc bs : Nat} {J : pv_JT} {I : pv_IT} {mi : pv_MI} {pc idx : Nat} {lv : pv_LV} {st : List Value} {a b p q na nb : Nat} (hd : decode mi.2.1 pc = .ok (.invokestatic idx, 3)) (hlk : Cond.methodLink mi.1.cls idx mX10_copy.1 ∈ pv_W) (hD : 0+1 ≤ d) (ha : pv_arr a na) (hb : pv_arr b nb) (hab : a ≠ b) (hp : p + 413 ≤ na) (hq : q + 413 ≤ nb) (hcat : (st.map fun v => v.category).sum ≤ 8) (K : ∀ I' : pv_IT, (∀ j, j < 413 → I' b (q + j) = I a (p + j)) → (∀ k0 j, ¬ (k0 = b ∧ q ≤ j ∧ j < q + 413) → I' k0 j = I k0 j) → pv_X z E d bc bs mi (pc + 3) lv (st) pv_K0 pv_P0 (I') (J)) : pv_X z E d bc bs mi pc lv (.int (nI (q)) :: .ref (b) :: .int (nI (p)) :: .ref (a) :: st) pv_K0 pv_P0 I J := by
  obtain ⟨d, rfl⟩ : ∃ d0, d = d0 + 1 := ⟨d - 1, by omega⟩
  have key := px_callS (bc := bc) (bs := bs) (bc1 := 0) (bs1 := 0) (as := [.ref (a), .int (nI (p)), .ref (b), .int (nI (q))]) (E := E) (z := z) (lv := lv) hd msX10_copy hlk rfl rfl hcat (by exact Nat.le_of_ble_eq_true rfl) (s_X10_copy (by omega) ha hb hab hp hq K)
  rw [Nat.zero_add, Nat.zero_add] at key
  exact key
