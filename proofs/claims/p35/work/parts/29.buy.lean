/-! The class: the ship, a purchase; single numbers. -/
def pt_buy (T : pv_T) (k a c : Nat) : pv_T := pt_up (pt_up (pt_up T 410 (T 410 - c)) 411 (T 411 + c)) (24 + 5 * k) (T (24 + 5 * k) + a)
theorem CR_pay {I : pv_IT} {q v : Nat} {T : pv_T} {L : List pv_Lot} (h : CR I q T L) : CR (pv_uI I q 2 (nI v)) q (pt_up T 410 v) L := by
  refine CR_sc h ?_ (fun k h1 h2 h3 => pv_uI_ne (by omega)) (fun i hi => pt_un (by omega))
  have h1 := h.1
  unfold sc at h1 ⊢
  simp only [pv_uI_at, pt_at]
  simp
  exact ⟨h1.1, h1.2.1, h1.2.2.2.1, h1.2.2.2.2⟩
theorem CR_spent {I : pv_IT} {q v : Nat} {T : pv_T} {L : List pv_Lot} (h : CR I q T L) : CR (pv_uI I q 3 (nI v)) q (pt_up T 411 v) L := by
  refine CR_sc h ?_ (fun k h1 h2 h3 => pv_uI_ne (by omega)) (fun i hi => pt_un (by omega))
  have h1 := h.1
  unfold sc at h1 ⊢
  simp only [pv_uI_at, pt_at]
  simp
  exact ⟨h1.1, h1.2.1, h1.2.2.1, h1.2.2.2.2⟩
theorem CR_heads {I : pv_IT} {q v : Nat} {T : pv_T} {L : List pv_Lot} (h : CR I q T L) : CR (pv_uI I q 1 (nI v)) q (pt_up T 409 v) L := by
  refine CR_sc h ?_ (fun k h1 h2 h3 => pv_uI_ne (by omega)) (fun i hi => pt_un (by omega))
  have h1 := h.1
  unfold sc at h1 ⊢
  simp only [pv_uI_at, pt_at]
  simp
  exact ⟨h1.1, h1.2.2.1, h1.2.2.2.1, h1.2.2.2.2⟩
theorem CR_room {I : pv_IT} {q s v : Nat} {T : pv_T} {L : List pv_Lot} (h : CR I q T L) (hs : s < 3) : CR (pv_uI I (q + 16) s (nI v)) q (pt_up T (64 + s) v) L := by
  refine CR_cs h (fun t ht => ?_) (fun k h1 h2 h3 => pv_uI_ne (by omega)) (fun i hi => pt_un (by omega))
  have h1 := h.2.2.1 t ht
  simp only [pv_uI_at, pt_at]
  refine ⟨?_, by rw [if_neg (by omega), if_neg (by omega)]; exact h1.2⟩
  by_cases e : t = s
  · subst e; rw [if_pos (by simp), if_pos rfl]
  · rw [if_neg (by omega), if_neg (by omega)]; exact h1.1
theorem CR_warm {I : pv_IT} {q s v : Nat} {T : pv_T} {L : List pv_Lot} (h : CR I q T L) (hs : s < 3) : CR (pv_uI I (q + 18) s (nI v)) q (pt_up T (67 + s) v) L := by
  refine CR_cs h (fun t ht => ?_) (fun k h1 h2 h3 => pv_uI_ne (by omega)) (fun i hi => pt_un (by omega))
  have h1 := h.2.2.1 t ht
  simp only [pv_uI_at, pt_at]
  rw [if_neg (by omega), if_neg (by omega)]
  refine ⟨h1.1, ?_⟩
  by_cases e : t = s
  · subst e; rw [if_pos (by simp), if_pos rfl]
  · rw [if_neg (by omega), if_neg (by omega)]; exact h1.2
theorem CR_price {I : pv_IT} {q p k v : Nat} {T : pv_T} {L : List pv_Lot} (h : CR I q T L) (hp : p < 8) (hk : k < 8) : CR (pv_uI I (q + 34) (p * 8 + k) (nI v)) q (pt_up T (326 + 10 * p + k) v) L := by
  refine CR_cp h ⟨?_, fun t ht => ?_⟩ (fun k h1 h2 h3 => pv_uI_ne (by omega)) (fun i hi => pt_un (by omega))
  · rw [pv_uI_ne (by omega), pt_un (by omega)]; exact h.2.2.2.2.1.1
  · have h1 := h.2.2.2.2.1.2 t ht
    unfold pc pt_p at h1 ⊢
    simp only [pv_uI_at, pt_at]
    rw [if_neg (by omega), if_neg (by omega), if_neg (by omega), if_neg (by omega)]
    refine ⟨h1.1, h1.2.1, fun j hj => ?_⟩
    by_cases e : t = p ∧ j = k
    · rw [e.1, e.2, if_pos (by simp), if_pos (by omega)]
    · rw [if_neg (by omega), if_neg (by omega)]
      exact h1.2.2 j hj
set_option maxRecDepth 100000 in
set_option maxHeartbeats 4000000 in
theorem s_X7_purchase {Q : pv_Q} {E : pv_E} {d bc bs : Nat} {J : pv_JT} {I : pv_IT} {q : Nat} {T : pv_T} {L : List pv_Lot} {k a s p : Nat} (hD : 3 ≤ d) (hq : pv_ship q) (hC : CR I q T L) (hb : tb T) (h1 : k < 8) (h2 : s < 3) (h3 : a ≤ 2000) (h4 : T 404 < 2147483648) (hpo : pt_on T (T 404) = some p) (hco : pt_price T p k * a ≤ T 410) (h30 : L.length < 31) (h : ∀ I' : pv_IT, CR I' q (pt_buy T k a (pt_price T p k * a)) (L ++ [(k, s, a, T (325 + 10 * p))]) → (∀ k0 : Nat, k0 < q ∨ q + 42 ≤ k0 → I' k0 = I k0) → Q (.inl (some (.int (nI L.length)))) pv_K0 pv_P0 (I') (J)) : pv_X (pv_ZQ E Q) E d bc bs mX7_purchase 0 [(0, .ref (q)), (1, .int (nI (k))), (2, .int (nI (a))), (3, .int (nI (s)))] [] pv_K0 pv_P0 I J := by
  have hn := hb.2.2.2.2.2.1.1
  have hL := hC.2.2.2.1.2.1
  have h31 := hL.1
  have h410 := hb.2.2.2.2.1
  have hp8 := pt_on_lt hpo
  have hpr := (hb.2.2.2.2.2.1.2.1 p hp8).2.2 k h1
  have hst := (hb.2.2.2.2.2.1.2.1 p hp8).2.1
  have hpr2 : pt_price T p k < 2147483648 := by unfold pt_price; omega
  refine px_aload_n dX7_purchase_0 rfl ?_
  refine px_getR dX7_purchase_1 flX7_42 hq.1 (by decide) (by decide) rfl hq.2.1 hq.2.2.2.2.2.1.1 ?_
  refine px_aload_n dX7_purchase_4 rfl ?_
  refine px_getI dX7_purchase_5 flX7_79 hq.1 (by decide) (by decide) rfl hq.2.1 ?_
  refine px_iv (y := nI (T 404)) (hC.1.1) ?_
  refine c_X5_onDay dX7_purchase_8 mlX7_82 (by omega) hq.2.2.2.2.2.1.2 hC.2.2.2.2.1 hb.2.2.2.2.2.1 (by omega) (Nat.le_of_ble_eq_true rfl) ?_
  rw [hpo]
  refine px_iv (y := nI p) rfl ?_
  refine px_istore dX7_purchase_11 (by decide) ?_
  refine px_aload_n dX7_purchase_13 rfl ?_
  refine px_getR dX7_purchase_14 flX7_42 hq.1 (by decide) (by decide) rfl hq.2.1 hq.2.2.2.2.2.1.1 ?_
  refine px_iload dX7_purchase_17 rfl ?_
  refine px_iload_n dX7_purchase_19 rfl ?_
  refine c_X5_priceOf dX7_purchase_20 mlX7_85 (by omega) hq.2.2.2.2.2.1.2 hC.2.2.2.2.1 (by omega) h1 (Nat.le_of_ble_eq_true rfl) ?_
  refine px_iload_n dX7_purchase_23 rfl ?_
  refine px_imulN dX7_purchase_24 ?_
  refine px_istore dX7_purchase_25 (by decide) ?_
  refine px_aload_n dX7_purchase_27 rfl ?_
  refine px_dup dX7_purchase_28 rfl ?_
  refine px_getI dX7_purchase_29 flX7_15 hq.1 (by decide) (by decide) rfl hq.2.1 ?_
  refine px_iv (y := nI (T 410)) (hC.1.2.2.1) ?_
  refine px_iload dX7_purchase_32 rfl ?_
  refine px_isubN (by omega) dX7_purchase_34 ?_
  refine px_putI dX7_purchase_35 fwX7_15 hq.1 (by decide) (by decide) rfl hq.2.1 ?_
  have hC1 := CR_pay (v := T 410 - pt_price T p k * a) hC
  have hF1 : ∀ k0 : Nat, k0 < q ∨ q + 42 ≤ k0 → (pv_uI I q 2 (nI (T 410 - pt_price T p k * a))) k0 = I k0 := fun k0 hk => pv_uI_ne (by omega)
  generalize pv_uI I q 2 (nI (T 410 - pt_price T p k * a)) = I1 at hC1 hF1 ⊢
  refine px_aload_n dX7_purchase_38 rfl ?_
  refine px_dup dX7_purchase_39 rfl ?_
  refine px_getI dX7_purchase_40 flX7_97 hq.1 (by decide) (by decide) rfl hq.2.1 ?_
  refine px_iv (y := nI (T 411)) (hC1.1.2.2.2.1.trans (congrArg nI (pt_un (by decide)))) ?_
  refine px_iload dX7_purchase_43 rfl ?_
  refine px_iaddN dX7_purchase_45 ?_
  refine px_putI dX7_purchase_46 fwX7_97 hq.1 (by decide) (by decide) rfl hq.2.1 ?_
  have hC2 := CR_spent (v := T 411 + pt_price T p k * a) hC1
  have hF2 : ∀ k0 : Nat, k0 < q ∨ q + 42 ≤ k0 → (pv_uI I1 q 3 (nI (T 411 + pt_price T p k * a))) k0 = I k0 := fun k0 hk => (pv_uI_ne (by omega)).trans (hF1 k0 hk)
  generalize pv_uI I1 q 3 (nI (T 411 + pt_price T p k * a)) = I2 at hC2 hF2 ⊢
  refine px_aload_n dX7_purchase_49 rfl ?_
  refine px_getR dX7_purchase_50 flX7_21 hq.1 (by decide) (by decide) rfl hq.2.1 hq.2.2.1.1 ?_
  refine px_getR dX7_purchase_53 flX7_100 hq.2.2.1.2.1 (by decide) (by decide) rfl hq.2.2.1.2.2.1 hq.2.2.1.2.2.2.2.1.1 ?_
  refine px_iload_n dX7_purchase_56 rfl ?_
  refine px_iload_n dX7_purchase_57 rfl ?_
  refine c_X6_add dX7_purchase_58 mlX7_103 (by omega) (j := k) hq.2.2.1.2.2.2.2.1.2 h1 (Nat.le_of_ble_eq_true rfl) ?_
  have hC3 := CR_bought hC2 h1 (x := a)
  rw [pt_un (i := 411) (by omega), pt_un (i := 410) (by omega)] at hC3
  have hF3 : ∀ k0 : Nat, k0 < q ∨ q + 42 ≤ k0 → (pv_uI I2 (q + 5) k (I2 (q + 5) k + nI a)) k0 = I k0 := fun k0 hk => (pv_uI_ne (by omega)).trans (hF2 k0 hk)
  replace hC3 : CR _ q (pt_buy T k a (pt_price T p k * a)) L := hC3
  refine px_mem (I' := pv_uI I2 (q + 5) k (I2 (q + 5) k + nI a)) rfl ?_
  generalize pv_uI I2 (q + 5) k (I2 (q + 5) k + nI a) = I3 at hC3 hF3 ⊢
  have hst2 : pt_buy T k a (pt_price T p k * a) (325 + 10 * p) = T (325 + 10 * p) := by
    unfold pt_buy
    rw [pt_un (by omega), pt_un (by omega), pt_un (by omega)]
  refine px_aload_n dX7_purchase_61 rfl ?_
  refine px_getR dX7_purchase_62 flX7_35 hq.1 (by decide) (by decide) rfl hq.2.1 hq.2.2.2.2.1.1 ?_
  refine px_iload_n dX7_purchase_65 rfl ?_
  refine px_iload_n dX7_purchase_66 rfl ?_
  refine px_iload_n dX7_purchase_67 rfl ?_
  refine px_aload_n dX7_purchase_68 rfl ?_
  refine px_getR dX7_purchase_69 flX7_42 hq.1 (by decide) (by decide) rfl hq.2.1 hq.2.2.2.2.2.1.1 ?_
  refine px_getR dX7_purchase_72 flX7_107 hq.2.2.2.2.2.1.2.1 (by decide) (by decide) rfl hq.2.2.2.2.2.1.2.2.1 hq.2.2.2.2.2.1.2.2.2.2.1.1 ?_
  refine px_iload dX7_purchase_75 rfl ?_
  refine c_X6_at dX7_purchase_77 mlX7_65 (by omega) (j := p) hq.2.2.2.2.2.1.2.2.2.2.1.2 (by omega) (Nat.le_of_ble_eq_true rfl) ?_
  refine px_iv (y := nI (T (325 + 10 * p))) ((pc_stal hC3.2.2.2.2.1 (by omega)).trans (congrArg nI hst2)) ?_
  refine c_X2_addOne dX7_purchase_80 mlX7_110 (by omega) hq.2.2.2.2.1.2 hC3.2.2.2.1 (by omega) ⟨h1, h2, h3, (by show T (325 + 10 * p) ≤ 2000; omega)⟩ (Nat.le_of_ble_eq_true rfl) (fun I4 hL4 hF4 => ?_)
  exact px_iret dX7_purchase_83 rfl (Or.inl rfl) (h I4 (CR_lt hC3 hL4 fun k h1 h2 h3 => hF4 k (by omega)) (fun k0 hk => (hF4 k0 (by omega)).trans (hF3 k0 hk)))
theorem c_X7_purchase {z : pv_Z} {E : pv_E} {d bc bs : Nat} {J : pv_JT} {I : pv_IT} {mi : pv_MI} {pc idx : Nat} {lv : pv_LV} {st : List Value} {q : Nat} {T : pv_T} {L : List pv_Lot} {k a s p : Nat} (hd : decode mi.2.1 pc = .ok (.invokevirtual idx, 3)) (hlk : Cond.methodLink mi.1.cls idx mX7_purchase.1 ∈ pv_W) (hD : 3+1 ≤ d) (hq : pv_ship q) (hC : CR I q T L) (hb : tb T) (h1 : k < 8) (h2 : s < 3) (h3 : a ≤ 2000) (h4 : T 404 < 2147483648) (hpo : pt_on T (T 404) = some p) (hco : pt_price T p k * a ≤ T 410) (h30 : L.length < 31) (hcat : (st.map fun v => v.category).sum ≤ 8) (K : ∀ I' : pv_IT, CR I' q (pt_buy T k a (pt_price T p k * a)) (L ++ [(k, s, a, T (325 + 10 * p))]) → (∀ k0 : Nat, k0 < q ∨ q + 42 ≤ k0 → I' k0 = I k0) → pv_X z E d bc bs mi (pc + 3) lv ((.int (nI L.length)) :: st) pv_K0 pv_P0 (I') (J)) : pv_X z E d bc bs mi pc lv (.int (nI (s)) :: .int (nI (a)) :: .int (nI (k)) :: .ref (q) :: st) pv_K0 pv_P0 I J := by
  obtain ⟨d, rfl⟩ : ∃ d0, d = d0 + 1 := ⟨d - 1, by omega⟩
  have key := px_callV (bc := bc) (bs := bs) (bc1 := 0) (bs1 := 0) (as := [.int (nI (k)), .int (nI (a)), .int (nI (s))]) (E := E) (z := z) (lv := lv) hd mvX7_purchase hlk hq.1 (by decide) rfl hq.2.1 rfl rfl hcat (by exact Nat.le_of_ble_eq_true rfl) (s_X7_purchase (by omega) hq hC hb h1 h2 h3 h4 hpo hco h30 K)
  rw [Nat.zero_add, Nat.zero_add] at key
  exact key
