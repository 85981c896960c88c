/-! The reference: its calls that change the row. -/
/-- what the reference's call leaves: the answer is left open where the call is refused -/
def pm_ok (Q : pv_Q) (I : pv_IT) (J : pv_JT) (r : pv_RS) : Prop :=
  ∀ (I' : pv_IT) (b : Int32), MA I' r.2.2 → (∀ k, k < 365 → I' k = I k) → I' 365 0 = nI r.1 → (r.1 = 0 → b = r.2.1) → Q (.inl (some (.int b))) pv_K0 pv_P0 I' J
section
variable {Q : pv_Q} {I I0 I1 I2 : pv_IT} {J : pv_JT} {T T' : pv_T} {L L' : List pv_Lot} {H H' : List pv_S} {B : List Nat}
theorem pm_exc {c : Nat} {v : Int32} {X : pv_XS} (h : pm_ok Q I J (c + 1, v, X)) (hM : MA I X) : Q (.inl (some (.int (nI 0)))) pv_K0 pv_P0 (pv_uI I 365 0 (nI (c + 1))) J :=
  h _ _ ⟨by rw [pv_uI_ne (by omega)]; exact hM.1, MSV_of hM.2.1 (by simp only [pv_uI_at]; rw [if_neg (by omega)]) (pv_uI_ne (by omega)), MB_of hM.2.2 (by simp only [pv_uI_at]; rw [if_neg (by omega)]) (pv_uI_ne (by omega))⟩ (fun k hk => pv_uI_ne (by omega)) (by rw [pv_uI_self, pk_us]) (fun h => absurd h (Nat.succ_ne_zero c))
theorem pm_zero (hM : MR (I 366) T L) (hS : MSV I H) (hB : MB I B) (h0 : I0 = pv_uI I 365 0 (nI 0)) : MR (I0 366) T L ∧ MSV I0 H ∧ MB I0 B ∧ I0 365 0 = nI 0 ∧ (∀ k, k < 365 → I0 k = I k) ∧ (∀ k, k ≠ 365 → I0 k = I k) ∧ (∀ j, j ≠ 0 → I0 365 j = I 365 j) := by
  subst h0
  exact ⟨by rw [pv_uI_ne (by omega)]; exact hM, MSV_of hS (by simp only [pv_uI_at]; rw [if_neg (by omega)]) (pv_uI_ne (by omega)), MB_of hB (by simp only [pv_uI_at]; rw [if_neg (by omega)]) (pv_uI_ne (by omega)), by rw [pv_uI_self, pk_us], fun k hk => pv_uI_ne (by omega), fun k hk => pv_uI_ne hk, fun j hj => by rw [pv_uI_self, pk_un hj]⟩
theorem pm_saved (hM0 : MR (I0 366) T L) (hB0 : MB I0 B) (hT0 : I0 365 0 = nI 0) (hK0 : ∀ k, k < 365 → I0 k = I k) (hF1 : ∀ k0 : Nat, k0 ≠ 365 → k0 ≠ 368 → I1 k0 = I0 k0) (hG1 : ∀ j, j ≠ 3 → I1 365 j = I0 365 j) : MR (I1 366) T L ∧ MB I1 B ∧ I1 365 0 = nI 0 ∧ (∀ k, k < 365 → I1 k = I k) :=
  ⟨by rw [hF1 366 (by omega) (by omega)]; exact hM0, MB_of hB0 (hG1 5 (by omega)) (hF1 369 (by omega) (by omega)), (hG1 0 (by omega)).trans hT0, fun k hk => (hF1 k (by omega) (by omega)).trans (hK0 k hk)⟩
theorem pm_fin {v : Int32} (h : pm_ok Q I J (0, v, ((T', L'), H', B))) (hM2 : MR (I2 366) T' L') (hS1 : MSV I1 H') (hB1 : MB I1 B) (hT1 : I1 365 0 = nI 0) (hK1 : ∀ k, k < 365 → I1 k = I k) (hF2 : ∀ k, k ≠ 366 → k ≠ 367 → k ≠ 370 → I2 k = I1 k) : Q (.inl (some (.int v))) pv_K0 pv_P0 I2 J :=
  h I2 v ⟨hM2, MSV_of hS1 (congrFun (hF2 365 (by omega) (by omega) (by omega)) 3) (hF2 368 (by omega) (by omega) (by omega)), MB_of hB1 (congrFun (hF2 365 (by omega) (by omega) (by omega)) 5) (hF2 369 (by omega) (by omega) (by omega))⟩ (fun k hk => (hF2 k (by omega) (by omega) (by omega)).trans (hK1 k hk)) ((congrFun (hF2 365 (by omega) (by omega) (by omega)) 0).trans hT1) (fun _ => rfl)
end
set_option maxRecDepth 100000 in
set_option maxHeartbeats 4000000 in
theorem s_X10_addKind {Q : pv_Q} {E : pv_E} {d bc bs : Nat} {J : pv_JT} {I : pv_IT} {T : pv_T} {L : List pv_Lot} {H : List pv_S} {B : List Nat} {n : Nat} {a0 b0 c0 : Int32} (hD : 8 ≤ d) (hMA : MA I ((T, L), H, B)) (hw : wx n ((T, L), H, B)) (hn : n ≤ 600) (h : pm_ok Q I J (po_addKind ((T, L), H, B) a0 b0 c0)) : pv_X (pv_ZQ E Q) E d bc bs mX10_addKind 0 [(0, .ref (365)), (1, .int (a0)), (2, .int (b0)), (3, .int (c0))] [] pv_K0 pv_P0 I J := by
  obtain ⟨hM, hS, hB⟩ := id hMA
  replace hM : MR (I 366) T L := hM
  replace hS : MSV I H := hS
  replace hB : MB I B := hB
  have hdy : dy (T, L) := hw.1.1
  have htb : tb T := hdy.1
  have hlb : lbs L := hdy.2.1
  have h31 : L.length ≤ 31 := hlb.1
  have h30 : L.length ≤ 30 := hw.1.2.1
  have h404 : T 404 ≤ 60 * n := hw.1.2.2.1
  have hn8 : T 405 ≤ 8 := htb.2.2.1
  have hp8 : T 407 ≤ 8 := htb.2.2.2.2.2.1.1
  have h10 : T 408 ≤ 10 := htb.2.2.2.2.2.2.2.1
  have hwk : wk (T, L) := ⟨hw.1.2.2.2.2.1, hw.1.2.2.2.2.2.1, hw.1.2.2.2.2.2.2⟩
  refine px_iload_n dX10_addKind_0 rfl ?_
  refine c_X10_isLife dX10_addKind_1 mlX10_46 (by omega)  (Nat.le_of_ble_eq_true rfl) ?_
  refine px_if_eqB (tgt := 25) dX10_addKind_4 (by decide) (fun ha => ?_) (fun ha => ?_)
  · have hno : ¬ (pu_in a0 0 200 ∧ pu_in b0 0 200 ∧ pu_in c0 0 200) := fun z => ha z.1
    refine px_iconst (v := nI 0) dX10_addKind_25 (by decide) ?_
    refine px_istore dX10_addKind_26 (by decide) ?_
    refine px_aload_n dX10_addKind_28 rfl ?_
    refine px_iload dX10_addKind_29 rfl ?_
    refine px_if_neN (tgt := 38) dX10_addKind_31 (by decide) (by omega) (fun h0 => absurd h0 (by omega)) (fun _ => ?_)
    refine px_iconst (v := nI 1) dX10_addKind_34 (by decide) ?_
    refine px_goto (tgt := 56) dX10_addKind_35 (by decide) ?_
    refine px_putI dX10_addKind_56 fwX10_31 pv_s_model (by decide) (by decide) rfl pv_k_model ?_
    refine px_aload_n dX10_addKind_59 rfl ?_
    refine px_getI dX10_addKind_60 flX10_31 pv_s_model (by decide) (by decide) rfl pv_k_model ?_
    refine px_iv (y := nI (1)) (by simp [pv_uI_at]) ?_
    refine px_if_leN (tgt := 68) dX10_addKind_63 (by decide) (by omega) (fun h0 => absurd h0 (by omega)) (fun _ => ?_)
    refine px_iconst (v := nI 0) dX10_addKind_66 (by decide) ?_
    exact px_iret dX10_addKind_67 rfl (Or.inl rfl) (pm_exc (by unfold po_addKind at h; rw [if_neg hno] at h; exact h) hMA)
  · refine px_iload_n dX10_addKind_7 rfl ?_
    refine c_X10_isLife dX10_addKind_8 mlX10_46 (by omega)  (Nat.le_of_ble_eq_true rfl) ?_
    refine px_if_eqB (tgt := 25) dX10_addKind_11 (by decide) (fun hb => ?_) (fun hb => ?_)
    · have hno : ¬ (pu_in a0 0 200 ∧ pu_in b0 0 200 ∧ pu_in c0 0 200) := fun z => hb z.2.1
      refine px_iconst (v := nI 0) dX10_addKind_25 (by decide) ?_
      refine px_istore dX10_addKind_26 (by decide) ?_
      refine px_aload_n dX10_addKind_28 rfl ?_
      refine px_iload dX10_addKind_29 rfl ?_
      refine px_if_neN (tgt := 38) dX10_addKind_31 (by decide) (by omega) (fun h0 => absurd h0 (by omega)) (fun _ => ?_)
      refine px_iconst (v := nI 1) dX10_addKind_34 (by decide) ?_
      refine px_goto (tgt := 56) dX10_addKind_35 (by decide) ?_
      refine px_putI dX10_addKind_56 fwX10_31 pv_s_model (by decide) (by decide) rfl pv_k_model ?_
      refine px_aload_n dX10_addKind_59 rfl ?_
      refine px_getI dX10_addKind_60 flX10_31 pv_s_model (by decide) (by decide) rfl pv_k_model ?_
      refine px_iv (y := nI (1)) (by simp [pv_uI_at]) ?_
      refine px_if_leN (tgt := 68) dX10_addKind_63 (by decide) (by omega) (fun h0 => absurd h0 (by omega)) (fun _ => ?_)
      refine px_iconst (v := nI 0) dX10_addKind_66 (by decide) ?_
      exact px_iret dX10_addKind_67 rfl (Or.inl rfl) (pm_exc (by unfold po_addKind at h; rw [if_neg hno] at h; exact h) hMA)
    · refine px_iload_n dX10_addKind_14 rfl ?_
      refine c_X10_isLife dX10_addKind_15 mlX10_46 (by omega)  (Nat.le_of_ble_eq_true rfl) ?_
      refine px_if_eqB (tgt := 25) dX10_addKind_18 (by decide) (fun hc => ?_) (fun hc => ?_)
      · have hno : ¬ (pu_in a0 0 200 ∧ pu_in b0 0 200 ∧ pu_in c0 0 200) := fun z => hc z.2.2
        refine px_iconst (v := nI 0) dX10_addKind_25 (by decide) ?_
        refine px_istore dX10_addKind_26 (by decide) ?_
        refine px_aload_n dX10_addKind_28 rfl ?_
        refine px_iload dX10_addKind_29 rfl ?_
        refine px_if_neN (tgt := 38) dX10_addKind_31 (by decide) (by omega) (fun h0 => absurd h0 (by omega)) (fun _ => ?_)
        refine px_iconst (v := nI 1) dX10_addKind_34 (by decide) ?_
        refine px_goto (tgt := 56) dX10_addKind_35 (by decide) ?_
        refine px_putI dX10_addKind_56 fwX10_31 pv_s_model (by decide) (by decide) rfl pv_k_model ?_
        refine px_aload_n dX10_addKind_59 rfl ?_
        refine px_getI dX10_addKind_60 flX10_31 pv_s_model (by decide) (by decide) rfl pv_k_model ?_
        refine px_iv (y := nI (1)) (by simp [pv_uI_at]) ?_
        refine px_if_leN (tgt := 68) dX10_addKind_63 (by decide) (by omega) (fun h0 => absurd h0 (by omega)) (fun _ => ?_)
        refine px_iconst (v := nI 0) dX10_addKind_66 (by decide) ?_
        exact px_iret dX10_addKind_67 rfl (Or.inl rfl) (pm_exc (by unfold po_addKind at h; rw [if_neg hno] at h; exact h) hMA)
      · have hab : pu_in a0 0 200 ∧ pu_in b0 0 200 ∧ pu_in c0 0 200 := ⟨ha, hb, hc⟩
        refine px_iconst (v := nI 1) dX10_addKind_21 (by decide) ?_
        refine px_goto (tgt := 26) dX10_addKind_22 (by decide) ?_
        refine px_istore dX10_addKind_26 (by decide) ?_
        refine px_aload_n dX10_addKind_28 rfl ?_
        refine px_iload dX10_addKind_29 rfl ?_
        refine px_if_neN (tgt := 38) dX10_addKind_31 (by decide) (by omega) (fun _ => ?_) (fun h0 => absurd h0 (by omega))
        refine px_aload_n dX10_addKind_38 rfl ?_
        refine px_getR dX10_addKind_39 flX10_7 pv_s_model (by decide) (by decide) rfl pv_k_model pv_p_365_1 ?_
        refine px_sipush (v := nI 405) dX10_addKind_42 (by decide) ?_
        refine px_iald (j := 405) dX10_addKind_45 pv_a_z.1 rfl (by omega) pv_a_z.2.2 pv_a_z.2.1 ?_
        refine px_iv (y := nI (T (405))) (hM.1 (405) (by omega) (by omega) (by omega)) ?_
        refine px_bipush (v := nI 8) dX10_addKind_46 (by decide) ?_
        refine px_icmp_neN (tgt := 55) dX10_addKind_48 (by decide) (by omega) (by omega) (fun h5 => ?_) (fun h5 => ?_)
        · refine px_iconst (v := nI 0) dX10_addKind_55 (by decide) ?_
          refine px_putI dX10_addKind_56 fwX10_31 pv_s_model (by decide) (by decide) rfl pv_k_model ?_
          refine px_aload_n dX10_addKind_59 rfl ?_
          refine px_getI dX10_addKind_60 flX10_31 pv_s_model (by decide) (by decide) rfl pv_k_model ?_
          refine px_iv (y := nI (0)) (by simp [pv_uI_at]) ?_
          refine px_if_leN (tgt := 68) dX10_addKind_63 (by decide) (by omega) (fun _ => ?_) (fun h0 => absurd h0 (by omega))
          obtain ⟨I0, hI0⟩ : ∃ I0, I0 = pv_uI I 365 0 (nI 0) := ⟨_, rfl⟩
          rw [← hI0]
          obtain ⟨hM0, hS0, hB0, hT0, hK0, hF0, hG0⟩ := pm_zero hM hS hB hI0
          refine px_aload_n dX10_addKind_68 rfl ?_
          refine c_X10_save dX10_addKind_69 mlX10_50 (by omega) hM0 hS0 (Nat.le_of_ble_eq_true rfl) (fun I1 hS1 hF1 hG1 => ?_)
          obtain ⟨hM1, hB1, hT1, hK1⟩ := pm_saved hM0 hB0 hT0 hK0 hF1 hG1
          obtain ⟨a, a1, a2, rfl, a3⟩ := pu_in_nI ha (by omega) (by omega)
          obtain ⟨b, b1, b2, rfl, b3⟩ := pu_in_nI hb (by omega) (by omega)
          obtain ⟨c, c1, c2, rfl, c3⟩ := pu_in_nI hc (by omega) (by omega)
          refine px_aload_n dX10_addKind_72 rfl ?_
          refine px_getR dX10_addKind_73 flX10_7 pv_s_model (by decide) (by decide) rfl pv_k_model pv_p_365_1 ?_
          refine px_sipush (v := nI 405) dX10_addKind_76 (by decide) ?_
          refine px_iald (j := 405) dX10_addKind_79 pv_a_z.1 rfl (by omega) pv_a_z.2.2 pv_a_z.2.1 ?_
          refine px_iv (y := nI (T (405))) (hM1.1 (405) (by omega) (by omega) (by omega)) ?_
          refine px_istore dX10_addKind_80 (by decide) ?_
          refine px_aload_n dX10_addKind_82 rfl ?_
          refine px_getR dX10_addKind_83 flX10_7 pv_s_model (by decide) (by decide) rfl pv_k_model pv_p_365_1 ?_
          refine px_iconst (v := nI 3) dX10_addKind_86 (by decide) ?_
          refine px_iload dX10_addKind_87 rfl ?_
          refine px_imulN dX10_addKind_89 ?_
          refine px_iload_n dX10_addKind_90 rfl ?_
          refine px_iast (j := (3 * (T (405)))) dX10_addKind_91 pv_a_z.1 rfl (by omega) pv_a_z.2.2 pv_a_z.2.1 ?_
          refine px_aload_n dX10_addKind_92 rfl ?_
          refine px_getR dX10_addKind_93 flX10_7 pv_s_model (by decide) (by decide) rfl pv_k_model pv_p_365_1 ?_
          refine px_iconst (v := nI 3) dX10_addKind_96 (by decide) ?_
          refine px_iload dX10_addKind_97 rfl ?_
          refine px_imulN dX10_addKind_99 ?_
          refine px_iconst (v := nI 1) dX10_addKind_100 (by decide) ?_
          refine px_iaddN dX10_addKind_101 ?_
          refine px_iload_n dX10_addKind_102 rfl ?_
          refine px_iast (j := ((3 * (T (405))) + 1)) dX10_addKind_103 pv_a_z.1 rfl (by omega) pv_a_z.2.2 pv_a_z.2.1 ?_
          refine px_aload_n dX10_addKind_104 rfl ?_
          refine px_getR dX10_addKind_105 flX10_7 pv_s_model (by decide) (by decide) rfl pv_k_model pv_p_365_1 ?_
          refine px_iconst (v := nI 3) dX10_addKind_108 (by decide) ?_
          refine px_iload dX10_addKind_109 rfl ?_
          refine px_imulN dX10_addKind_111 ?_
          refine px_iconst (v := nI 2) dX10_addKind_112 (by decide) ?_
          refine px_iaddN dX10_addKind_113 ?_
          refine px_iload_n dX10_addKind_114 rfl ?_
          refine px_iast (j := ((3 * (T (405))) + 2)) dX10_addKind_115 pv_a_z.1 rfl (by omega) pv_a_z.2.2 pv_a_z.2.1 ?_
          refine px_aload_n dX10_addKind_116 rfl ?_
          refine px_getR dX10_addKind_117 flX10_7 pv_s_model (by decide) (by decide) rfl pv_k_model pv_p_365_1 ?_
          refine px_sipush (v := nI 405) dX10_addKind_120 (by decide) ?_
          refine px_dup2 dX10_addKind_123 rfl rfl ?_
          refine px_iald (j := 405) dX10_addKind_124 pv_a_z.1 rfl (by omega) pv_a_z.2.2 pv_a_z.2.1 ?_
          refine px_iv (y := nI (T 405)) (Eq.trans (by simp only [pv_uI_at, true_and]; repeat' (first | rfl | omega | split)) (hM1.1 405 (by omega) (by omega) (by omega))) ?_
          refine px_iconst (v := nI 1) dX10_addKind_125 (by decide) ?_
          refine px_iaddN dX10_addKind_126 ?_
          refine px_iast (j := 405) dX10_addKind_127 pv_a_z.1 rfl (by omega) pv_a_z.2.2 pv_a_z.2.1 ?_
          refine px_iload dX10_addKind_128 rfl ?_
          have hM2 := MR_z (MR_z (MR_z (MR_z hM1 (i := 3 * T 405) (v := a) (by omega) (by omega)) (i := 3 * T 405 + 1) (v := b) (by omega) (by omega)) (i := 3 * T 405 + 2) (v := c) (by omega) (by omega)) (i := 405) (v := T 405 + 1) (by omega) (by omega)
          have eT : pt_kind T a b c = pt_up (pt_up (pt_up (pt_up T (3 * T 405) a) (3 * T 405 + 1) b) (3 * T 405 + 2) c) 405 (T 405 + 1) := by
            unfold pt_kind
            rw [Nat.mul_comm (T 405) 3]
          rw [← eT] at hM2
          exact px_iret dX10_addKind_130 rfl (Or.inl rfl) (pm_fin (by unfold po_addKind at h; simp only [tn, a3, b3, c3] at h; rw [if_pos hab] at h; rw [if_pos (by omega)] at h; exact h) hM2 hS1 hB1 hT1 hK1 (fun k0 a b c => by rw [pv_uI_ne a, pv_uI_ne a, pv_uI_ne a, pv_uI_ne a]))
        · refine px_iconst (v := nI 2) dX10_addKind_51 (by decide) ?_
          refine px_goto (tgt := 56) dX10_addKind_52 (by decide) ?_
          refine px_putI dX10_addKind_56 fwX10_31 pv_s_model (by decide) (by decide) rfl pv_k_model ?_
          refine px_aload_n dX10_addKind_59 rfl ?_
          refine px_getI dX10_addKind_60 flX10_31 pv_s_model (by decide) (by decide) rfl pv_k_model ?_
          refine px_iv (y := nI (2)) (by simp [pv_uI_at]) ?_
          refine px_if_leN (tgt := 68) dX10_addKind_63 (by decide) (by omega) (fun h0 => absurd h0 (by omega)) (fun _ => ?_)
          refine px_iconst (v := nI 0) dX10_addKind_66 (by decide) ?_
          exact px_iret dX10_addKind_67 rfl (Or.inl rfl) (pm_exc (by unfold po_addKind at h; rw [if_pos hab] at h; rw [if_neg (show ¬ T 405 < 8 by omega)] at h; exact h) hMA)
theorem c_X10_addKind {z : pv_Z} {E : pv_E} {d bc bs : Nat} {J : pv_JT} {I : pv_IT} {mi : pv_MI} {pc idx : Nat} {lv : pv_LV} {st : List Value} {T : pv_T} {L : List pv_Lot} {H : List pv_S} {B : List Nat} {n : Nat} {a0 b0 c0 : Int32} (hd : decode mi.2.1 pc = .ok (.invokevirtual idx, 3)) (hlk : Cond.methodLink mi.1.cls idx mX10_addKind.1 ∈ pv_W) (hD : 8+1 ≤ d) (hMA : MA I ((T, L), H, B)) (hw : wx n ((T, L), H, B)) (hn : n ≤ 600) (hcat : (st.map fun v => v.category).sum ≤ 8) (K : pm_ok (pv_K z E d bc bs mi pc lv st) I J (po_addKind ((T, L), H, B) a0 b0 c0)) : pv_X z E d bc bs mi pc lv (.int (c0) :: .int (b0) :: .int (a0) :: .ref (365) :: st) pv_K0 pv_P0 I J := by
  obtain ⟨d, rfl⟩ : ∃ d0, d = d0 + 1 := ⟨d - 1, by omega⟩
  have key := px_callV (bc := bc) (bs := bs) (bc1 := 0) (bs1 := 0) (as := [.int (a0), .int (b0), .int (c0)]) (E := E) (z := z) (lv := lv) hd mvX10_addKind hlk pv_s_model (by decide) rfl pv_k_model rfl rfl hcat (by exact Nat.le_of_ble_eq_true rfl) (s_X10_addKind (by omega) hMA hw hn K)
  rw [Nat.zero_add, Nat.zero_add] at key
  exact key
set_option maxRecDepth 100000 in
set_option maxHeartbeats 4000000 in
theorem s_X10_setRoom {Q : pv_Q} {E : pv_E} {d bc bs : Nat} {J : pv_JT} {I : pv_IT} {T : pv_T} {L : List pv_Lot} {H : List pv_S} {B : List Nat} {n : Nat} {s0 r0 : Int32} (hD : 8 ≤ d) (hMA : MA I ((T, L), H, B)) (hw : wx n ((T, L), H, B)) (hn : n ≤ 600) (h : pm_ok Q I J (po_setRoom ((T, L), H, B) s0 r0)) : pv_X (pv_ZQ E Q) E d bc bs mX10_setRoom 0 [(0, .ref (365)), (1, .int (s0)), (2, .int (r0))] [] pv_K0 pv_P0 I J := by
  obtain ⟨hM, hS, hB⟩ := id hMA
  replace hM : MR (I 366) T L := hM
  replace hS : MSV I H := hS
  replace hB : MB I B := hB
  have hdy : dy (T, L) := hw.1.1
  have htb : tb T := hdy.1
  have hlb : lbs L := hdy.2.1
  have h31 : L.length ≤ 31 := hlb.1
  have h30 : L.length ≤ 30 := hw.1.2.1
  have h404 : T 404 ≤ 60 * n := hw.1.2.2.1
  have hn8 : T 405 ≤ 8 := htb.2.2.1
  have hp8 : T 407 ≤ 8 := htb.2.2.2.2.2.1.1
  have h10 : T 408 ≤ 10 := htb.2.2.2.2.2.2.2.1
  have hwk : wk (T, L) := ⟨hw.1.2.2.2.2.1, hw.1.2.2.2.2.2.1, hw.1.2.2.2.2.2.2⟩
  refine px_aload_n dX10_setRoom_0 rfl ?_
  refine px_iload_n dX10_setRoom_1 rfl ?_
  refine c_X10_isStore dX10_setRoom_2 mlX10_57 (by omega)  (Nat.le_of_ble_eq_true rfl) ?_
  refine px_if_neB (tgt := 12) dX10_setRoom_5 (by decide) (fun hs => ?_) (fun hs => ?_)
  · have hs0 := hs
    obtain ⟨s, s1, rfl, s3⟩ := pu_has_nI hs (by omega)
    have hin := ps_in_le (s := s) hlb
    refine px_iload_n dX10_setRoom_12 rfl ?_
    refine px_iconst (v := nI 0) dX10_setRoom_13 (by decide) ?_
    refine px_sipush (v := nI 5000) dX10_setRoom_14 (by decide) ?_
    refine c_X10_within dX10_setRoom_17 mlX10_35 (by omega)  (Nat.le_of_ble_eq_true rfl) ?_
    refine px_if_neB (tgt := 27) dX10_setRoom_20 (by decide) (fun hr => ?_) (fun hr => ?_)
    · have hr0 := hr
      obtain ⟨r, r1, r2, rfl, r3⟩ := pu_in_nI hr (by omega) (by omega)
      refine px_aload_n dX10_setRoom_27 rfl ?_
      refine px_iload_n dX10_setRoom_28 rfl ?_
      refine c_X10_inStore dX10_setRoom_29 mlX10_60 (by omega) hM (by omega) (Nat.le_of_ble_eq_true rfl) ?_
      refine px_iload_n dX10_setRoom_32 rfl ?_
      refine px_icmp_leN (tgt := 40) dX10_setRoom_33 (by decide) (by omega) (by omega) (fun h5 => ?_) (fun h5 => ?_)
      · refine px_iconst (v := nI 0) dX10_setRoom_40 (by decide) ?_
        refine px_putI dX10_setRoom_41 fwX10_31 pv_s_model (by decide) (by decide) rfl pv_k_model ?_
        refine px_aload_n dX10_setRoom_44 rfl ?_
        refine px_getI dX10_setRoom_45 flX10_31 pv_s_model (by decide) (by decide) rfl pv_k_model ?_
        refine px_iv (y := nI (0)) (by simp [pv_uI_at]) ?_
        refine px_if_leN (tgt := 53) dX10_setRoom_48 (by decide) (by omega) (fun _ => ?_) (fun h0 => absurd h0 (by omega))
        obtain ⟨I0, hI0⟩ : ∃ I0, I0 = pv_uI I 365 0 (nI 0) := ⟨_, rfl⟩
        rw [← hI0]
        obtain ⟨hM0, hS0, hB0, hT0, hK0, hF0, hG0⟩ := pm_zero hM hS hB hI0
        refine px_aload_n dX10_setRoom_53 rfl ?_
        refine c_X10_save dX10_setRoom_54 mlX10_50 (by omega) hM0 hS0 (Nat.le_of_ble_eq_true rfl) (fun I1 hS1 hF1 hG1 => ?_)
        obtain ⟨hM1, hB1, hT1, hK1⟩ := pm_saved hM0 hB0 hT0 hK0 hF1 hG1
        refine px_aload_n dX10_setRoom_57 rfl ?_
        refine px_getR dX10_setRoom_58 flX10_7 pv_s_model (by decide) (by decide) rfl pv_k_model pv_p_365_1 ?_
        refine px_bipush (v := nI 64) dX10_setRoom_61 (by decide) ?_
        refine px_iload_n dX10_setRoom_63 rfl ?_
        refine px_iaddN dX10_setRoom_64 ?_
        refine px_iald (j := (64 + s)) dX10_setRoom_65 pv_a_z.1 rfl (by omega) pv_a_z.2.2 pv_a_z.2.1 ?_
        refine px_iv (y := nI (T ((64 + s)))) (hM1.1 ((64 + s)) (by omega) (by omega) (by omega)) ?_
        refine px_istore_n dX10_setRoom_66 (by decide) ?_
        refine px_aload_n dX10_setRoom_67 rfl ?_
        refine px_getR dX10_setRoom_68 flX10_7 pv_s_model (by decide) (by decide) rfl pv_k_model pv_p_365_1 ?_
        refine px_bipush (v := nI 64) dX10_setRoom_71 (by decide) ?_
        refine px_iload_n dX10_setRoom_73 rfl ?_
        refine px_iaddN dX10_setRoom_74 ?_
        refine px_iload_n dX10_setRoom_75 rfl ?_
        refine px_iast (j := (64 + s)) dX10_setRoom_76 pv_a_z.1 rfl (by omega) pv_a_z.2.2 pv_a_z.2.1 ?_
        refine px_iload_n dX10_setRoom_77 rfl ?_
        exact px_iret dX10_setRoom_78 rfl (Or.inl rfl) (pm_fin (by unfold po_setRoom at h; simp only [tn, s3, r3] at h; rw [if_pos hs0] at h; rw [if_pos hr0] at h; rw [if_pos (by omega)] at h; exact h) (MR_z hM1 (by omega) (by omega)) hS1 hB1 hT1 hK1 (fun k0 a b c => pv_uI_ne a))
      · refine px_iconst (v := nI 3) dX10_setRoom_36 (by decide) ?_
        refine px_goto (tgt := 41) dX10_setRoom_37 (by decide) ?_
        refine px_putI dX10_setRoom_41 fwX10_31 pv_s_model (by decide) (by decide) rfl pv_k_model ?_
        refine px_aload_n dX10_setRoom_44 rfl ?_
        refine px_getI dX10_setRoom_45 flX10_31 pv_s_model (by decide) (by decide) rfl pv_k_model ?_
        refine px_iv (y := nI (3)) (by simp [pv_uI_at]) ?_
        refine px_if_leN (tgt := 53) dX10_setRoom_48 (by decide) (by omega) (fun h0 => absurd h0 (by omega)) (fun _ => ?_)
        refine px_iconst (v := nI 0) dX10_setRoom_51 (by decide) ?_
        exact px_iret dX10_setRoom_52 rfl (Or.inl rfl) (pm_exc (by unfold po_setRoom at h; simp only [tn, s3, r3] at h; rw [if_pos hs0] at h; rw [if_pos hr0] at h; rw [if_neg (by omega)] at h; exact h) hMA)
    · refine px_iconst (v := nI 2) dX10_setRoom_23 (by decide) ?_
      refine px_goto (tgt := 41) dX10_setRoom_24 (by decide) ?_
      refine px_putI dX10_setRoom_41 fwX10_31 pv_s_model (by decide) (by decide) rfl pv_k_model ?_
      refine px_aload_n dX10_setRoom_44 rfl ?_
      refine px_getI dX10_setRoom_45 flX10_31 pv_s_model (by decide) (by decide) rfl pv_k_model ?_
      refine px_iv (y := nI (2)) (by simp [pv_uI_at]) ?_
      refine px_if_leN (tgt := 53) dX10_setRoom_48 (by decide) (by omega) (fun h0 => absurd h0 (by omega)) (fun _ => ?_)
      refine px_iconst (v := nI 0) dX10_setRoom_51 (by decide) ?_
      exact px_iret dX10_setRoom_52 rfl (Or.inl rfl) (pm_exc (by unfold po_setRoom at h; simp only [tn, s3] at h; rw [if_pos hs0] at h; rw [if_neg hr] at h; exact h) hMA)
  · refine px_iconst (v := nI 1) dX10_setRoom_8 (by decide) ?_
    refine px_goto (tgt := 41) dX10_setRoom_9 (by decide) ?_
    refine px_putI dX10_setRoom_41 fwX10_31 pv_s_model (by decide) (by decide) rfl pv_k_model ?_
    refine px_aload_n dX10_setRoom_44 rfl ?_
    refine px_getI dX10_setRoom_45 flX10_31 pv_s_model (by decide) (by decide) rfl pv_k_model ?_
    refine px_iv (y := nI (1)) (by simp [pv_uI_at]) ?_
    refine px_if_leN (tgt := 53) dX10_setRoom_48 (by decide) (by omega) (fun h0 => absurd h0 (by omega)) (fun _ => ?_)
    refine px_iconst (v := nI 0) dX10_setRoom_51 (by decide) ?_
    exact px_iret dX10_setRoom_52 rfl (Or.inl rfl) (pm_exc (by unfold po_setRoom at h; rw [if_neg hs] at h; exact h) hMA)
theorem c_X10_setRoom {z : pv_Z} {E : pv_E} {d bc bs : Nat} {J : pv_JT} {I : pv_IT} {mi : pv_MI} {pc idx : Nat} {lv : pv_LV} {st : List Value} {T : pv_T} {L : List pv_Lot} {H : List pv_S} {B : List Nat} {n : Nat} {s0 r0 : Int32} (hd : decode mi.2.1 pc = .ok (.invokevirtual idx, 3)) (hlk : Cond.methodLink mi.1.cls idx mX10_setRoom.1 ∈ pv_W) (hD : 8+1 ≤ d) (hMA : MA I ((T, L), H, B)) (hw : wx n ((T, L), H, B)) (hn : n ≤ 600) (hcat : (st.map fun v => v.category).sum ≤ 8) (K : pm_ok (pv_K z E d bc bs mi pc lv st) I J (po_setRoom ((T, L), H, B) s0 r0)) : pv_X z E d bc bs mi pc lv (.int (r0) :: .int (s0) :: .ref (365) :: st) pv_K0 pv_P0 I J := by
  obtain ⟨d, rfl⟩ : ∃ d0, d = d0 + 1 := ⟨d - 1, by omega⟩
  have key := px_callV (bc := bc) (bs := bs) (bc1 := 0) (bs1 := 0) (as := [.int (s0), .int (r0)]) (E := E) (z := z) (lv := lv) hd mvX10_setRoom hlk pv_s_model (by decide) rfl pv_k_model rfl rfl hcat (by exact Nat.le_of_ble_eq_true rfl) (s_X10_setRoom (by omega) hMA hw hn K)
  rw [Nat.zero_add, Nat.zero_add] at key
  exact key
set_option maxRecDepth 100000 in
set_option maxHeartbeats 4000000 in
theorem s_X10_warm {Q : pv_Q} {E : pv_E} {d bc bs : Nat} {J : pv_JT} {I : pv_IT} {T : pv_T} {L : List pv_Lot} {H : List pv_S} {B : List Nat} {n : Nat} {s0 r0 : Int32} (hD : 8 ≤ d) (hMA : MA I ((T, L), H, B)) (hw : wx n ((T, L), H, B)) (hn : n ≤ 600) (h : pm_ok Q I J (po_warm ((T, L), H, B) s0 r0)) : pv_X (pv_ZQ E Q) E d bc bs mX10_warm 0 [(0, .ref (365)), (1, .int (s0)), (2, .int (r0))] [] pv_K0 pv_P0 I J := by
  obtain ⟨hM, hS, hB⟩ := id hMA
  replace hM : MR (I 366) T L := hM
  replace hS : MSV I H := hS
  replace hB : MB I B := hB
  have hdy : dy (T, L) := hw.1.1
  have htb : tb T := hdy.1
  have hlb : lbs L := hdy.2.1
  have h31 : L.length ≤ 31 := hlb.1
  have h30 : L.length ≤ 30 := hw.1.2.1
  have h404 : T 404 ≤ 60 * n := hw.1.2.2.1
  have hn8 : T 405 ≤ 8 := htb.2.2.1
  have hp8 : T 407 ≤ 8 := htb.2.2.2.2.2.1.1
  have h10 : T 408 ≤ 10 := htb.2.2.2.2.2.2.2.1
  have hwk : wk (T, L) := ⟨hw.1.2.2.2.2.1, hw.1.2.2.2.2.2.1, hw.1.2.2.2.2.2.2⟩
  refine px_aload_n dX10_warm_0 rfl ?_
  refine px_iload_n dX10_warm_1 rfl ?_
  refine px_iconst (v := nI 1) dX10_warm_2 (by decide) ?_
  refine px_iconst (v := nI 2) dX10_warm_3 (by decide) ?_
  refine c_X10_within dX10_warm_4 mlX10_35 (by omega)  (Nat.le_of_ble_eq_true rfl) ?_
  refine px_if_neB (tgt := 14) dX10_warm_7 (by decide) (fun hs => ?_) (fun hs => ?_)
  · have hs0 := hs
    obtain ⟨s, s1, s2, rfl, s3⟩ := pu_in_nI hs (by omega) (by omega)
    refine px_iload_n dX10_warm_14 rfl ?_
    refine px_iconst (v := nI 0) dX10_warm_15 (by decide) ?_
    refine px_bipush (v := nI 30) dX10_warm_16 (by decide) ?_
    refine c_X10_within dX10_warm_18 mlX10_35 (by omega)  (Nat.le_of_ble_eq_true rfl) ?_
    refine px_if_eqB (tgt := 28) dX10_warm_21 (by decide) (fun hr => ?_) (fun hr => ?_)
    · refine px_iconst (v := nI 2) dX10_warm_28 (by decide) ?_
      refine px_putI dX10_warm_29 fwX10_31 pv_s_model (by decide) (by decide) rfl pv_k_model ?_
      refine px_aload_n dX10_warm_32 rfl ?_
      refine px_getI dX10_warm_33 flX10_31 pv_s_model (by decide) (by decide) rfl pv_k_model ?_
      refine px_iv (y := nI (2)) (by simp [pv_uI_at]) ?_
      refine px_if_leN (tgt := 41) dX10_warm_36 (by decide) (by omega) (fun h0 => absurd h0 (by omega)) (fun _ => ?_)
      refine px_iconst (v := nI 0) dX10_warm_39 (by decide) ?_
      exact px_iret dX10_warm_40 rfl (Or.inl rfl) (pm_exc (by unfold po_warm at h; simp only [tn, s3] at h; rw [if_pos hs0] at h; rw [if_neg hr] at h; exact h) hMA)
    · have hr0 := hr
      obtain ⟨r, r1, r2, rfl, r3⟩ := pu_in_nI hr (by omega) (by omega)
      refine px_iconst (v := nI 0) dX10_warm_24 (by decide) ?_
      refine px_goto (tgt := 29) dX10_warm_25 (by decide) ?_
      refine px_putI dX10_warm_29 fwX10_31 pv_s_model (by decide) (by decide) rfl pv_k_model ?_
      refine px_aload_n dX10_warm_32 rfl ?_
      refine px_getI dX10_warm_33 flX10_31 pv_s_model (by decide) (by decide) rfl pv_k_model ?_
      refine px_iv (y := nI (0)) (by simp [pv_uI_at]) ?_
      refine px_if_leN (tgt := 41) dX10_warm_36 (by decide) (by omega) (fun _ => ?_) (fun h0 => absurd h0 (by omega))
      obtain ⟨I0, hI0⟩ : ∃ I0, I0 = pv_uI I 365 0 (nI 0) := ⟨_, rfl⟩
      rw [← hI0]
      obtain ⟨hM0, hS0, hB0, hT0, hK0, hF0, hG0⟩ := pm_zero hM hS hB hI0
      refine px_aload_n dX10_warm_41 rfl ?_
      refine c_X10_save dX10_warm_42 mlX10_50 (by omega) hM0 hS0 (Nat.le_of_ble_eq_true rfl) (fun I1 hS1 hF1 hG1 => ?_)
      obtain ⟨hM1, hB1, hT1, hK1⟩ := pm_saved hM0 hB0 hT0 hK0 hF1 hG1
      refine px_aload_n dX10_warm_45 rfl ?_
      refine px_getR dX10_warm_46 flX10_7 pv_s_model (by decide) (by decide) rfl pv_k_model pv_p_365_1 ?_
      refine px_bipush (v := nI 67) dX10_warm_49 (by decide) ?_
      refine px_iload_n dX10_warm_51 rfl ?_
      refine px_iaddN dX10_warm_52 ?_
      refine px_iald (j := (67 + s)) dX10_warm_53 pv_a_z.1 rfl (by omega) pv_a_z.2.2 pv_a_z.2.1 ?_
      refine px_iv (y := nI (T ((67 + s)))) (hM1.1 ((67 + s)) (by omega) (by omega) (by omega)) ?_
      refine px_istore_n dX10_warm_54 (by decide) ?_
      refine px_aload_n dX10_warm_55 rfl ?_
      refine px_getR dX10_warm_56 flX10_7 pv_s_model (by decide) (by decide) rfl pv_k_model pv_p_365_1 ?_
      refine px_bipush (v := nI 67) dX10_warm_59 (by decide) ?_
      refine px_iload_n dX10_warm_61 rfl ?_
      refine px_iaddN dX10_warm_62 ?_
      refine px_iload_n dX10_warm_63 rfl ?_
      refine px_iast (j := (67 + s)) dX10_warm_64 pv_a_z.1 rfl (by omega) pv_a_z.2.2 pv_a_z.2.1 ?_
      refine px_iload_n dX10_warm_65 rfl ?_
      exact px_iret dX10_warm_66 rfl (Or.inl rfl) (pm_fin (by unfold po_warm at h; simp only [tn, s3, r3] at h; rw [if_pos hs0] at h; rw [if_pos hr0] at h; exact h) (MR_z hM1 (by omega) (by omega)) hS1 hB1 hT1 hK1 (fun k0 a b c => pv_uI_ne a))
  · refine px_iconst (v := nI 1) dX10_warm_10 (by decide) ?_
    refine px_goto (tgt := 29) dX10_warm_11 (by decide) ?_
    refine px_putI dX10_warm_29 fwX10_31 pv_s_model (by decide) (by decide) rfl pv_k_model ?_
    refine px_aload_n dX10_warm_32 rfl ?_
    refine px_getI dX10_warm_33 flX10_31 pv_s_model (by decide) (by decide) rfl pv_k_model ?_
    refine px_iv (y := nI (1)) (by simp [pv_uI_at]) ?_
    refine px_if_leN (tgt := 41) dX10_warm_36 (by decide) (by omega) (fun h0 => absurd h0 (by omega)) (fun _ => ?_)
    refine px_iconst (v := nI 0) dX10_warm_39 (by decide) ?_
    exact px_iret dX10_warm_40 rfl (Or.inl rfl) (pm_exc (by unfold po_warm at h; rw [if_neg hs] at h; exact h) hMA)
theorem c_X10_warm {z : pv_Z} {E : pv_E} {d bc bs : Nat} {J : pv_JT} {I : pv_IT} {mi : pv_MI} {pc idx : Nat} {lv : pv_LV} {st : List Value} {T : pv_T} {L : List pv_Lot} {H : List pv_S} {B : List Nat} {n : Nat} {s0 r0 : Int32} (hd : decode mi.2.1 pc = .ok (.invokevirtual idx, 3)) (hlk : Cond.methodLink mi.1.cls idx mX10_warm.1 ∈ pv_W) (hD : 8+1 ≤ d) (hMA : MA I ((T, L), H, B)) (hw : wx n ((T, L), H, B)) (hn : n ≤ 600) (hcat : (st.map fun v => v.category).sum ≤ 8) (K : pm_ok (pv_K z E d bc bs mi pc lv st) I J (po_warm ((T, L), H, B) s0 r0)) : pv_X z E d bc bs mi pc lv (.int (r0) :: .int (s0) :: .ref (365) :: st) pv_K0 pv_P0 I J := by
  obtain ⟨d, rfl⟩ : ∃ d0, d = d0 + 1 := ⟨d - 1, by omega⟩
  have key := px_callV (bc := bc) (bs := bs) (bc1 := 0) (bs1 := 0) (as := [.int (s0), .int (r0)]) (E := E) (z := z) (lv := lv) hd mvX10_warm hlk pv_s_model (by decide) rfl pv_k_model rfl rfl hcat (by exact Nat.le_of_ble_eq_true rfl) (s_X10_warm (by omega) hMA hw hn K)
  rw [Nat.zero_add, Nat.zero_add] at key
  exact key
set_option maxRecDepth 100000 in
set_option maxHeartbeats 4000000 in
theorem s_X10_setCrew {Q : pv_Q} {E : pv_E} {d bc bs : Nat} {J : pv_JT} {I : pv_IT} {T : pv_T} {L : List pv_Lot} {H : List pv_S} {B : List Nat} {n : Nat} {r0 : Int32} (hD : 8 ≤ d) (hMA : MA I ((T, L), H, B)) (hw : wx n ((T, L), H, B)) (hn : n ≤ 600) (h : pm_ok Q I J (po_setCrew ((T, L), H, B) r0)) : pv_X (pv_ZQ E Q) E d bc bs mX10_setCrew 0 [(0, .ref (365)), (1, .int (r0))] [] pv_K0 pv_P0 I J := by
  obtain ⟨hM, hS, hB⟩ := id hMA
  replace hM : MR (I 366) T L := hM
  replace hS : MSV I H := hS
  replace hB : MB I B := hB
  have hdy : dy (T, L) := hw.1.1
  have htb : tb T := hdy.1
  have hlb : lbs L := hdy.2.1
  have h31 : L.length ≤ 31 := hlb.1
  have h30 : L.length ≤ 30 := hw.1.2.1
  have h404 : T 404 ≤ 60 * n := hw.1.2.2.1
  have hn8 : T 405 ≤ 8 := htb.2.2.1
  have hp8 : T 407 ≤ 8 := htb.2.2.2.2.2.1.1
  have h10 : T 408 ≤ 10 := htb.2.2.2.2.2.2.2.1
  have hwk : wk (T, L) := ⟨hw.1.2.2.2.2.1, hw.1.2.2.2.2.2.1, hw.1.2.2.2.2.2.2⟩
  refine px_aload_n dX10_setCrew_0 rfl ?_
  refine px_iload_n dX10_setCrew_1 rfl ?_
  refine px_iconst (v := nI 1) dX10_setCrew_2 (by decide) ?_
  refine px_bipush (v := nI 100) dX10_setCrew_3 (by decide) ?_
  refine c_X10_within dX10_setCrew_5 mlX10_35 (by omega)  (Nat.le_of_ble_eq_true rfl) ?_
  refine px_if_eqB (tgt := 15) dX10_setCrew_8 (by decide) (fun hr => ?_) (fun hr => ?_)
  · refine px_iconst (v := nI 1) dX10_setCrew_15 (by decide) ?_
    refine px_putI dX10_setCrew_16 fwX10_31 pv_s_model (by decide) (by decide) rfl pv_k_model ?_
    refine px_aload_n dX10_setCrew_19 rfl ?_
    refine px_getI dX10_setCrew_20 flX10_31 pv_s_model (by decide) (by decide) rfl pv_k_model ?_
    refine px_iv (y := nI (1)) (by simp [pv_uI_at]) ?_
    refine px_if_leN (tgt := 28) dX10_setCrew_23 (by decide) (by omega) (fun h0 => absurd h0 (by omega)) (fun _ => ?_)
    refine px_iconst (v := nI 0) dX10_setCrew_26 (by decide) ?_
    exact px_iret dX10_setCrew_27 rfl (Or.inl rfl) (pm_exc (by unfold po_setCrew at h; rw [if_neg hr] at h; exact h) hMA)
  · have hr0 := hr
    obtain ⟨r, r1, r2, rfl, r3⟩ := pu_in_nI hr (by omega) (by omega)
    refine px_iconst (v := nI 0) dX10_setCrew_11 (by decide) ?_
    refine px_goto (tgt := 16) dX10_setCrew_12 (by decide) ?_
    refine px_putI dX10_setCrew_16 fwX10_31 pv_s_model (by decide) (by decide) rfl pv_k_model ?_
    refine px_aload_n dX10_setCrew_19 rfl ?_
    refine px_getI dX10_setCrew_20 flX10_31 pv_s_model (by decide) (by decide) rfl pv_k_model ?_
    refine px_iv (y := nI (0)) (by simp [pv_uI_at]) ?_
    refine px_if_leN (tgt := 28) dX10_setCrew_23 (by decide) (by omega) (fun _ => ?_) (fun h0 => absurd h0 (by omega))
    obtain ⟨I0, hI0⟩ : ∃ I0, I0 = pv_uI I 365 0 (nI 0) := ⟨_, rfl⟩
    rw [← hI0]
    obtain ⟨hM0, hS0, hB0, hT0, hK0, hF0, hG0⟩ := pm_zero hM hS hB hI0
    refine px_aload_n dX10_setCrew_28 rfl ?_
    refine c_X10_save dX10_setCrew_29 mlX10_50 (by omega) hM0 hS0 (Nat.le_of_ble_eq_true rfl) (fun I1 hS1 hF1 hG1 => ?_)
    obtain ⟨hM1, hB1, hT1, hK1⟩ := pm_saved hM0 hB0 hT0 hK0 hF1 hG1
    refine px_aload_n dX10_setCrew_32 rfl ?_
    refine px_getR dX10_setCrew_33 flX10_7 pv_s_model (by decide) (by decide) rfl pv_k_model pv_p_365_1 ?_
    refine px_sipush (v := nI 409) dX10_setCrew_36 (by decide) ?_
    refine px_iald (j := 409) dX10_setCrew_39 pv_a_z.1 rfl (by omega) pv_a_z.2.2 pv_a_z.2.1 ?_
    refine px_iv (y := nI (T (409))) (hM1.1 (409) (by omega) (by omega) (by omega)) ?_
    refine px_istore_n dX10_setCrew_40 (by decide) ?_
    refine px_aload_n dX10_setCrew_41 rfl ?_
    refine px_getR dX10_setCrew_42 flX10_7 pv_s_model (by decide) (by decide) rfl pv_k_model pv_p_365_1 ?_
    refine px_sipush (v := nI 409) dX10_setCrew_45 (by decide) ?_
    refine px_iload_n dX10_setCrew_48 rfl ?_
    refine px_iast (j := 409) dX10_setCrew_49 pv_a_z.1 rfl (by omega) pv_a_z.2.2 pv_a_z.2.1 ?_
    refine px_iload_n dX10_setCrew_50 rfl ?_
    exact px_iret dX10_setCrew_51 rfl (Or.inl rfl) (pm_fin (by unfold po_setCrew at h; simp only [tn, r3] at h; rw [if_pos hr0] at h; exact h) (MR_z hM1 (by omega) (by omega)) hS1 hB1 hT1 hK1 (fun k0 a b c => pv_uI_ne a))
theorem c_X10_setCrew {z : pv_Z} {E : pv_E} {d bc bs : Nat} {J : pv_JT} {I : pv_IT} {mi : pv_MI} {pc idx : Nat} {lv : pv_LV} {st : List Value} {T : pv_T} {L : List pv_Lot} {H : List pv_S} {B : List Nat} {n : Nat} {r0 : Int32} (hd : decode mi.2.1 pc = .ok (.invokevirtual idx, 3)) (hlk : Cond.methodLink mi.1.cls idx mX10_setCrew.1 ∈ pv_W) (hD : 8+1 ≤ d) (hMA : MA I ((T, L), H, B)) (hw : wx n ((T, L), H, B)) (hn : n ≤ 600) (hcat : (st.map fun v => v.category).sum ≤ 8) (K : pm_ok (pv_K z E d bc bs mi pc lv st) I J (po_setCrew ((T, L), H, B) r0)) : pv_X z E d bc bs mi pc lv (.int (r0) :: .ref (365) :: st) pv_K0 pv_P0 I J := by
  obtain ⟨d, rfl⟩ : ∃ d0, d = d0 + 1 := ⟨d - 1, by omega⟩
  have key := px_callV (bc := bc) (bs := bs) (bc1 := 0) (bs1 := 0) (as := [.int (r0)]) (E := E) (z := z) (lv := lv) hd mvX10_setCrew hlk pv_s_model (by decide) rfl pv_k_model rfl rfl hcat (by exact Nat.le_of_ble_eq_true rfl) (s_X10_setCrew (by omega) hMA hw hn K)
  rw [Nat.zero_add, Nat.zero_add] at key
  exact key
set_option maxRecDepth 100000 in
set_option maxHeartbeats 4000000 in
theorem s_X10_pay {Q : pv_Q} {E : pv_E} {d bc bs : Nat} {J : pv_JT} {I : pv_IT} {T : pv_T} {L : List pv_Lot} {H : List pv_S} {B : List Nat} {n : Nat} {c0 : Int32} (hD : 8 ≤ d) (hMA : MA I ((T, L), H, B)) (hw : wx n ((T, L), H, B)) (hn : n ≤ 600) (h : pm_ok Q I J (po_pay ((T, L), H, B) c0)) : pv_X (pv_ZQ E Q) E d bc bs mX10_pay 0 [(0, .ref (365)), (1, .int (c0))] [] pv_K0 pv_P0 I J := by
  obtain ⟨hM, hS, hB⟩ := id hMA
  replace hM : MR (I 366) T L := hM
  replace hS : MSV I H := hS
  replace hB : MB I B := hB
  have hdy : dy (T, L) := hw.1.1
  have htb : tb T := hdy.1
  have hlb : lbs L := hdy.2.1
  have h31 : L.length ≤ 31 := hlb.1
  have h30 : L.length ≤ 30 := hw.1.2.1
  have h404 : T 404 ≤ 60 * n := hw.1.2.2.1
  have hn8 : T 405 ≤ 8 := htb.2.2.1
  have hp8 : T 407 ≤ 8 := htb.2.2.2.2.2.1.1
  have h10 : T 408 ≤ 10 := htb.2.2.2.2.2.2.2.1
  have hwk : wk (T, L) := ⟨hw.1.2.2.2.2.1, hw.1.2.2.2.2.2.1, hw.1.2.2.2.2.2.2⟩
  have hpu : T 410 ≤ 1000000 := htb.2.2.2.2.1
  have hsum := pn_pay (x := c0) hpu
  refine px_aload_n dX10_pay_0 rfl ?_
  refine px_getR dX10_pay_1 flX10_7 pv_s_model (by decide) (by decide) rfl pv_k_model pv_p_365_1 ?_
  refine px_sipush (v := nI 410) dX10_pay_4 (by decide) ?_
  refine px_iald (j := 410) dX10_pay_7 pv_a_z.1 rfl (by omega) pv_a_z.2.2 pv_a_z.2.1 ?_
  refine px_iv (y := nI (T (410))) (hM.1 (410) (by omega) (by omega) (by omega)) ?_
  refine px_i2l dX10_pay_8 ?_
  refine px_iload_n dX10_pay_9 rfl ?_
  refine px_i2l dX10_pay_10 ?_
  refine px_ladd dX10_pay_11 ?_
  refine px_lstore_n dX10_pay_12 (by decide) ?_
  refine px_aload_n dX10_pay_13 rfl ?_
  refine px_lload_n dX10_pay_14 rfl ?_
  refine px_lconst dX10_pay_15 rfl ?_
  refine px_lcmp dX10_pay_16 ?_
  refine px_if_lt (tgt := 32) dX10_pay_17 (by decide) (fun h5 => ?_) (fun h5 => ?_)
  · refine px_iconst (v := nI 1) dX10_pay_32 (by decide) ?_
    refine px_putI dX10_pay_33 fwX10_31 pv_s_model (by decide) (by decide) rfl pv_k_model ?_
    refine px_aload_n dX10_pay_36 rfl ?_
    refine px_getI dX10_pay_37 flX10_31 pv_s_model (by decide) (by decide) rfl pv_k_model ?_
    refine px_iv (y := nI (1)) (by simp [pv_uI_at]) ?_
    refine px_if_leN (tgt := 45) dX10_pay_40 (by decide) (by omega) (fun h0 => absurd h0 (by omega)) (fun _ => ?_)
    refine px_iconst (v := nI 0) dX10_pay_43 (by decide) ?_
    exact px_iret dX10_pay_44 rfl (Or.inl rfl) (pm_exc (by unfold po_pay at h; rw [if_neg (fun z => absurd h5 (Int32.not_lt.mpr (pn_lcmp.1.mpr (by rw [hsum]; exact z.1))))] at h; exact h) hMA)
  · have h6 : 0 ≤ (T 410 : Int) + c0.toInt := by rw [← hsum]; exact pn_lcmp.1.mp (Int32.not_lt.mp h5)
    refine px_lload_n dX10_pay_20 rfl ?_
    refine px_ldc2l (v := 1000000) dX10_pay_21 (pv_t 1090 (by decide +kernel) rfl) ?_
    refine px_lcmp dX10_pay_24 ?_
    refine px_if_gt (tgt := 32) dX10_pay_25 (by decide) (fun h7 => ?_) (fun h7 => ?_)
    · refine px_iconst (v := nI 1) dX10_pay_32 (by decide) ?_
      refine px_putI dX10_pay_33 fwX10_31 pv_s_model (by decide) (by decide) rfl pv_k_model ?_
      refine px_aload_n dX10_pay_36 rfl ?_
      refine px_getI dX10_pay_37 flX10_31 pv_s_model (by decide) (by decide) rfl pv_k_model ?_
      refine px_iv (y := nI (1)) (by simp [pv_uI_at]) ?_
      refine px_if_leN (tgt := 45) dX10_pay_40 (by decide) (by omega) (fun h0 => absurd h0 (by omega)) (fun _ => ?_)
      refine px_iconst (v := nI 0) dX10_pay_43 (by decide) ?_
      exact px_iret dX10_pay_44 rfl (Or.inl rfl) (pm_exc (by unfold po_pay at h; rw [if_neg (fun z => absurd h7 (Int32.not_lt.mpr (pn_lcmp.2.mpr (by rw [hsum]; exact z.2))))] at h; exact h) hMA)
    · have h8 : (T 410 : Int) + c0.toInt ≤ 1000000 := by rw [← hsum]; exact pn_lcmp.2.mp (Int32.not_lt.mp h7)
      have h9 := pn_pay2 hpu h6 h8
      refine px_iconst (v := nI 0) dX10_pay_28 (by decide) ?_
      refine px_goto (tgt := 33) dX10_pay_29 (by decide) ?_
      refine px_putI dX10_pay_33 fwX10_31 pv_s_model (by decide) (by decide) rfl pv_k_model ?_
      refine px_aload_n dX10_pay_36 rfl ?_
      refine px_getI dX10_pay_37 flX10_31 pv_s_model (by decide) (by decide) rfl pv_k_model ?_
      refine px_iv (y := nI (0)) (by simp [pv_uI_at]) ?_
      refine px_if_leN (tgt := 45) dX10_pay_40 (by decide) (by omega) (fun _ => ?_) (fun h0 => absurd h0 (by omega))
      obtain ⟨I0, hI0⟩ : ∃ I0, I0 = pv_uI I 365 0 (nI 0) := ⟨_, rfl⟩
      rw [← hI0]
      obtain ⟨hM0, hS0, hB0, hT0, hK0, hF0, hG0⟩ := pm_zero hM hS hB hI0
      refine px_aload_n dX10_pay_45 rfl ?_
      refine c_X10_save dX10_pay_46 mlX10_50 (by omega) hM0 hS0 (Nat.le_of_ble_eq_true rfl) (fun I1 hS1 hF1 hG1 => ?_)
      obtain ⟨hM1, hB1, hT1, hK1⟩ := pm_saved hM0 hB0 hT0 hK0 hF1 hG1
      refine px_aload_n dX10_pay_49 rfl ?_
      refine px_getR dX10_pay_50 flX10_7 pv_s_model (by decide) (by decide) rfl pv_k_model pv_p_365_1 ?_
      refine px_sipush (v := nI 410) dX10_pay_53 (by decide) ?_
      refine px_lload_n dX10_pay_56 rfl ?_
      refine px_l2i dX10_pay_57 ?_
      refine px_iv (y := nI ((T 410 : Int) + c0.toInt).toNat) h9 ?_
      refine px_iast (j := 410) dX10_pay_58 pv_a_z.1 rfl (by omega) pv_a_z.2.2 pv_a_z.2.1 ?_
      refine px_aload_n dX10_pay_59 rfl ?_
      refine px_getR dX10_pay_60 flX10_7 pv_s_model (by decide) (by decide) rfl pv_k_model pv_p_365_1 ?_
      refine px_sipush (v := nI 410) dX10_pay_63 (by decide) ?_
      refine px_iald (j := 410) dX10_pay_66 pv_a_z.1 rfl (by omega) pv_a_z.2.2 pv_a_z.2.1 ?_
      refine px_iv (y := nI (((T 410 : Int) + c0.toInt).toNat)) (by rw [pv_uI_self, pk_us]) ?_
      exact px_iret dX10_pay_67 rfl (Or.inl rfl) (pm_fin (by unfold po_pay at h; rw [if_pos ⟨h6, h8⟩] at h; exact h) (MR_z hM1 (by omega) (by omega)) hS1 hB1 hT1 hK1 (fun k0 a b c => pv_uI_ne a))
theorem c_X10_pay {z : pv_Z} {E : pv_E} {d bc bs : Nat} {J : pv_JT} {I : pv_IT} {mi : pv_MI} {pc idx : Nat} {lv : pv_LV} {st : List Value} {T : pv_T} {L : List pv_Lot} {H : List pv_S} {B : List Nat} {n : Nat} {c0 : Int32} (hd : decode mi.2.1 pc = .ok (.invokevirtual idx, 3)) (hlk : Cond.methodLink mi.1.cls idx mX10_pay.1 ∈ pv_W) (hD : 8+1 ≤ d) (hMA : MA I ((T, L), H, B)) (hw : wx n ((T, L), H, B)) (hn : n ≤ 600) (hcat : (st.map fun v => v.category).sum ≤ 8) (K : pm_ok (pv_K z E d bc bs mi pc lv st) I J (po_pay ((T, L), H, B) c0)) : pv_X z E d bc bs mi pc lv (.int (c0) :: .ref (365) :: st) pv_K0 pv_P0 I J := by
  obtain ⟨d, rfl⟩ : ∃ d0, d = d0 + 1 := ⟨d - 1, by omega⟩
  have key := px_callV (bc := bc) (bs := bs) (bc1 := 0) (bs1 := 0) (as := [.int (c0)]) (E := E) (z := z) (lv := lv) hd mvX10_pay hlk pv_s_model (by decide) rfl pv_k_model rfl rfl hcat (by exact Nat.le_of_ble_eq_true rfl) (s_X10_pay (by omega) hMA hw hn K)
  rw [Nat.zero_add, Nat.zero_add] at key
  exact key
set_option maxRecDepth 100000 in
set_option maxHeartbeats 4000000 in
theorem s_X10_setPrice {Q : pv_Q} {E : pv_E} {d bc bs : Nat} {J : pv_JT} {I : pv_IT} {T : pv_T} {L : List pv_Lot} {H : List pv_S} {B : List Nat} {n : Nat} {a0 b0 c0 : Int32} (hD : 8 ≤ d) (hMA : MA I ((T, L), H, B)) (hw : wx n ((T, L), H, B)) (hn : n ≤ 600) (h : pm_ok Q I J (po_setPrice ((T, L), H, B) a0 b0 c0)) : pv_X (pv_ZQ E Q) E d bc bs mX10_setPrice 0 [(0, .ref (365)), (1, .int (a0)), (2, .int (b0)), (3, .int (c0))] [] pv_K0 pv_P0 I J := by
  obtain ⟨hM, hS, hB⟩ := id hMA
  replace hM : MR (I 366) T L := hM
  replace hS : MSV I H := hS
  replace hB : MB I B := hB
  have hdy : dy (T, L) := hw.1.1
  have htb : tb T := hdy.1
  have hlb : lbs L := hdy.2.1
  have h31 : L.length ≤ 31 := hlb.1
  have h30 : L.length ≤ 30 := hw.1.2.1
  have h404 : T 404 ≤ 60 * n := hw.1.2.2.1
  have hn8 : T 405 ≤ 8 := htb.2.2.1
  have hp8 : T 407 ≤ 8 := htb.2.2.2.2.2.1.1
  have h10 : T 408 ≤ 10 := htb.2.2.2.2.2.2.2.1
  have hwk : wk (T, L) := ⟨hw.1.2.2.2.2.1, hw.1.2.2.2.2.2.1, hw.1.2.2.2.2.2.2⟩
  refine px_aload_n dX10_setPrice_0 rfl ?_
  refine px_aload_n dX10_setPrice_1 rfl ?_
  refine px_iload_n dX10_setPrice_2 rfl ?_
  refine c_X10_isPort dX10_setPrice_3 mlX10_69 (by omega) hM (by omega) (Nat.le_of_ble_eq_true rfl) ?_
  refine px_if_eqB (tgt := 17) dX10_setPrice_6 (by decide) (fun ha => ?_) (fun ha => ?_)
  · refine px_iconst (v := nI 1) dX10_setPrice_17 (by decide) ?_
    refine px_goto (tgt := 36) dX10_setPrice_18 (by decide) ?_
    refine px_putI dX10_setPrice_36 fwX10_31 pv_s_model (by decide) (by decide) rfl pv_k_model ?_
    refine px_aload_n dX10_setPrice_39 rfl ?_
    refine px_getI dX10_setPrice_40 flX10_31 pv_s_model (by decide) (by decide) rfl pv_k_model ?_
    refine px_iv (y := nI (1)) (by simp [pv_uI_at]) ?_
    refine px_if_leN (tgt := 48) dX10_setPrice_43 (by decide) (by omega) (fun h0 => absurd h0 (by omega)) (fun _ => ?_)
    refine px_iconst (v := nI 0) dX10_setPrice_46 (by decide) ?_
    exact px_iret dX10_setPrice_47 rfl (Or.inl rfl) (pm_exc (by unfold po_setPrice at h; rw [if_neg (fun z => ha z.1)] at h; exact h) hMA)
  · refine px_aload_n dX10_setPrice_9 rfl ?_
    refine px_iload_n dX10_setPrice_10 rfl ?_
    refine c_X10_isKind dX10_setPrice_11 mlX10_72 (by omega) hM (by omega) (Nat.le_of_ble_eq_true rfl) ?_
    refine px_if_neB (tgt := 21) dX10_setPrice_14 (by decide) (fun hb => ?_) (fun hb => ?_)
    · have hab := And.intro ha hb
      obtain ⟨a, a1, rfl, a3⟩ := pu_has_nI ha (by omega)
      obtain ⟨b, b1, rfl, b3⟩ := pu_has_nI hb (by omega)
      refine px_iload_n dX10_setPrice_21 rfl ?_
      refine px_iconst (v := nI 0) dX10_setPrice_22 (by decide) ?_
      refine px_bipush (v := nI 100) dX10_setPrice_23 (by decide) ?_
      refine c_X10_within dX10_setPrice_25 mlX10_35 (by omega)  (Nat.le_of_ble_eq_true rfl) ?_
      refine px_if_eqB (tgt := 35) dX10_setPrice_28 (by decide) (fun hc => ?_) (fun hc => ?_)
      · refine px_iconst (v := nI 2) dX10_setPrice_35 (by decide) ?_
        refine px_putI dX10_setPrice_36 fwX10_31 pv_s_model (by decide) (by decide) rfl pv_k_model ?_
        refine px_aload_n dX10_setPrice_39 rfl ?_
        refine px_getI dX10_setPrice_40 flX10_31 pv_s_model (by decide) (by decide) rfl pv_k_model ?_
        refine px_iv (y := nI (2)) (by simp [pv_uI_at]) ?_
        refine px_if_leN (tgt := 48) dX10_setPrice_43 (by decide) (by omega) (fun h0 => absurd h0 (by omega)) (fun _ => ?_)
        refine px_iconst (v := nI 0) dX10_setPrice_46 (by decide) ?_
        exact px_iret dX10_setPrice_47 rfl (Or.inl rfl) (pm_exc (by unfold po_setPrice at h; simp only [tn, a3, b3] at h; rw [if_pos hab] at h; rw [if_neg hc] at h; exact h) hMA)
      · have hc0 := hc
        obtain ⟨c, c1, c2, rfl, c3⟩ := pu_in_nI hc (by omega) (by omega)
        refine px_iconst (v := nI 0) dX10_setPrice_31 (by decide) ?_
        refine px_goto (tgt := 36) dX10_setPrice_32 (by decide) ?_
        refine px_putI dX10_setPrice_36 fwX10_31 pv_s_model (by decide) (by decide) rfl pv_k_model ?_
        refine px_aload_n dX10_setPrice_39 rfl ?_
        refine px_getI dX10_setPrice_40 flX10_31 pv_s_model (by decide) (by decide) rfl pv_k_model ?_
        refine px_iv (y := nI (0)) (by simp [pv_uI_at]) ?_
        refine px_if_leN (tgt := 48) dX10_setPrice_43 (by decide) (by omega) (fun _ => ?_) (fun h0 => absurd h0 (by omega))
        obtain ⟨I0, hI0⟩ : ∃ I0, I0 = pv_uI I 365 0 (nI 0) := ⟨_, rfl⟩
        rw [← hI0]
        obtain ⟨hM0, hS0, hB0, hT0, hK0, hF0, hG0⟩ := pm_zero hM hS hB hI0
        refine px_aload_n dX10_setPrice_48 rfl ?_
        refine c_X10_save dX10_setPrice_49 mlX10_50 (by omega) hM0 hS0 (Nat.le_of_ble_eq_true rfl) (fun I1 hS1 hF1 hG1 => ?_)
        obtain ⟨hM1, hB1, hT1, hK1⟩ := pm_saved hM0 hB0 hT0 hK0 hF1 hG1
        refine px_sipush (v := nI 324) dX10_setPrice_52 (by decide) ?_
        refine px_bipush (v := nI 10) dX10_setPrice_55 (by decide) ?_
        refine px_iload_n dX10_setPrice_57 rfl ?_
        refine px_imulN dX10_setPrice_58 ?_
        refine px_iaddN dX10_setPrice_59 ?_
        refine px_iconst (v := nI 2) dX10_setPrice_60 (by decide) ?_
        refine px_iaddN dX10_setPrice_61 ?_
        refine px_iload_n dX10_setPrice_62 rfl ?_
        refine px_iaddN dX10_setPrice_63 ?_
        refine px_istore dX10_setPrice_64 (by decide) ?_
        refine px_aload_n dX10_setPrice_66 rfl ?_
        refine px_getR dX10_setPrice_67 flX10_7 pv_s_model (by decide) (by decide) rfl pv_k_model pv_p_365_1 ?_
        refine px_iload dX10_setPrice_70 rfl ?_
        refine px_iald (j := (((324 + (10 * a)) + 2) + b)) dX10_setPrice_72 pv_a_z.1 rfl (by omega) pv_a_z.2.2 pv_a_z.2.1 ?_
        refine px_iv (y := nI (T (326 + 10 * a + b))) ((hM1.1 ((((324 + (10 * a)) + 2) + b)) (by omega) (by omega) (by omega)).trans (congrArg nI (congrArg T (by omega)))) ?_
        refine px_istore dX10_setPrice_73 (by decide) ?_
        refine px_aload_n dX10_setPrice_75 rfl ?_
        refine px_getR dX10_setPrice_76 flX10_7 pv_s_model (by decide) (by decide) rfl pv_k_model pv_p_365_1 ?_
        refine px_iload dX10_setPrice_79 rfl ?_
        refine px_iload_n dX10_setPrice_81 rfl ?_
        refine px_iast (j := (((324 + (10 * a)) + 2) + b)) dX10_setPrice_82 pv_a_z.1 rfl (by omega) pv_a_z.2.2 pv_a_z.2.1 ?_
        refine px_iload dX10_setPrice_83 rfl ?_
        have hM2 := MR_z hM1 (i := 324 + 10 * a + 2 + b) (v := c) (by omega) (by omega)
        rw [show pt_up T (324 + 10 * a + 2 + b) c = pt_up T (326 + 10 * a + b) c from congrArg (fun i => pt_up T i c) (by omega)] at hM2
        exact px_iret dX10_setPrice_85 rfl (Or.inl rfl) (pm_fin (by unfold po_setPrice at h; simp only [tn, a3, b3, c3] at h; rw [if_pos hab] at h; rw [if_pos hc0] at h; exact h) hM2 hS1 hB1 hT1 hK1 (fun k0 a b c => pv_uI_ne a))
    · refine px_iconst (v := nI 1) dX10_setPrice_17 (by decide) ?_
      refine px_goto (tgt := 36) dX10_setPrice_18 (by decide) ?_
      refine px_putI dX10_setPrice_36 fwX10_31 pv_s_model (by decide) (by decide) rfl pv_k_model ?_
      refine px_aload_n dX10_setPrice_39 rfl ?_
      refine px_getI dX10_setPrice_40 flX10_31 pv_s_model (by decide) (by decide) rfl pv_k_model ?_
      refine px_iv (y := nI (1)) (by simp [pv_uI_at]) ?_
      refine px_if_leN (tgt := 48) dX10_setPrice_43 (by decide) (by omega) (fun h0 => absurd h0 (by omega)) (fun _ => ?_)
      refine px_iconst (v := nI 0) dX10_setPrice_46 (by decide) ?_
      exact px_iret dX10_setPrice_47 rfl (Or.inl rfl) (pm_exc (by unfold po_setPrice at h; rw [if_neg (fun z => hb z.2)] at h; exact h) hMA)
theorem c_X10_setPrice {z : pv_Z} {E : pv_E} {d bc bs : Nat} {J : pv_JT} {I : pv_IT} {mi : pv_MI} {pc idx : Nat} {lv : pv_LV} {st : List Value} {T : pv_T} {L : List pv_Lot} {H : List pv_S} {B : List Nat} {n : Nat} {a0 b0 c0 : Int32} (hd : decode mi.2.1 pc = .ok (.invokevirtual idx, 3)) (hlk : Cond.methodLink mi.1.cls idx mX10_setPrice.1 ∈ pv_W) (hD : 8+1 ≤ d) (hMA : MA I ((T, L), H, B)) (hw : wx n ((T, L), H, B)) (hn : n ≤ 600) (hcat : (st.map fun v => v.category).sum ≤ 8) (K : pm_ok (pv_K z E d bc bs mi pc lv st) I J (po_setPrice ((T, L), H, B) a0 b0 c0)) : pv_X z E d bc bs mi pc lv (.int (c0) :: .int (b0) :: .int (a0) :: .ref (365) :: st) pv_K0 pv_P0 I J := by
  obtain ⟨d, rfl⟩ : ∃ d0, d = d0 + 1 := ⟨d - 1, by omega⟩
  have key := px_callV (bc := bc) (bs := bs) (bc1 := 0) (bs1 := 0) (as := [.int (a0), .int (b0), .int (c0)]) (E := E) (z := z) (lv := lv) hd mvX10_setPrice hlk pv_s_model (by decide) rfl pv_k_model rfl rfl hcat (by exact Nat.le_of_ble_eq_true rfl) (s_X10_setPrice (by omega) hMA hw hn K)
  rw [Nat.zero_add, Nat.zero_add] at key
  exact key
set_option maxRecDepth 100000 in
set_option maxHeartbeats 4000000 in
theorem s_X10_removePort {Q : pv_Q} {E : pv_E} {d bc bs : Nat} {J : pv_JT} {I : pv_IT} {T : pv_T} {L : List pv_Lot} {H : List pv_S} {B : List Nat} {n : Nat} {a0 : Int32} (hD : 8 ≤ d) (hMA : MA I ((T, L), H, B)) (hw : wx n ((T, L), H, B)) (hn : n ≤ 600) (h : pm_ok Q I J (po_removePort ((T, L), H, B) a0)) : pv_X (pv_ZQ E Q) E d bc bs mX10_removePort 0 [(0, .ref (365)), (1, .int (a0))] [] pv_K0 pv_P0 I J := by
  obtain ⟨hM, hS, hB⟩ := id hMA
  replace hM : MR (I 366) T L := hM
  replace hS : MSV I H := hS
  replace hB : MB I B := hB
  have hdy : dy (T, L) := hw.1.1
  have htb : tb T := hdy.1
  have hlb : lbs L := hdy.2.1
  have h31 : L.length ≤ 31 := hlb.1
  have h30 : L.length ≤ 30 := hw.1.2.1
  have h404 : T 404 ≤ 60 * n := hw.1.2.2.1
  have hn8 : T 405 ≤ 8 := htb.2.2.1
  have hp8 : T 407 ≤ 8 := htb.2.2.2.2.2.1.1
  have h10 : T 408 ≤ 10 := htb.2.2.2.2.2.2.2.1
  have hwk : wk (T, L) := ⟨hw.1.2.2.2.2.1, hw.1.2.2.2.2.2.1, hw.1.2.2.2.2.2.2⟩
  refine px_aload_n dX10_removePort_0 rfl ?_
  refine px_aload_n dX10_removePort_1 rfl ?_
  refine px_iload_n dX10_removePort_2 rfl ?_
  refine c_X10_isPort dX10_removePort_3 mlX10_69 (by omega) hM (by omega) (Nat.le_of_ble_eq_true rfl) ?_
  refine px_if_eqB (tgt := 13) dX10_removePort_6 (by decide) (fun ha => ?_) (fun ha => ?_)
  · refine px_iconst (v := nI 1) dX10_removePort_13 (by decide) ?_
    refine px_putI dX10_removePort_14 fwX10_31 pv_s_model (by decide) (by decide) rfl pv_k_model ?_
    refine px_aload_n dX10_removePort_17 rfl ?_
    refine px_getI dX10_removePort_18 flX10_31 pv_s_model (by decide) (by decide) rfl pv_k_model ?_
    refine px_iv (y := nI (1)) (by simp [pv_uI_at]) ?_
    refine px_if_leN (tgt := 26) dX10_removePort_21 (by decide) (by omega) (fun h0 => absurd h0 (by omega)) (fun _ => ?_)
    refine px_iconst (v := nI 0) dX10_removePort_24 (by decide) ?_
    exact px_iret dX10_removePort_25 rfl (Or.inl rfl) (pm_exc (by unfold po_removePort at h; rw [if_neg ha] at h; exact h) hMA)
  · have ha0 := ha
    obtain ⟨a, a1, rfl, a3⟩ := pu_has_nI ha (by omega)
    refine px_iconst (v := nI 0) dX10_removePort_9 (by decide) ?_
    refine px_goto (tgt := 14) dX10_removePort_10 (by decide) ?_
    refine px_putI dX10_removePort_14 fwX10_31 pv_s_model (by decide) (by decide) rfl pv_k_model ?_
    refine px_aload_n dX10_removePort_17 rfl ?_
    refine px_getI dX10_removePort_18 flX10_31 pv_s_model (by decide) (by decide) rfl pv_k_model ?_
    refine px_iv (y := nI (0)) (by simp [pv_uI_at]) ?_
    refine px_if_leN (tgt := 26) dX10_removePort_21 (by decide) (by omega) (fun _ => ?_) (fun h0 => absurd h0 (by omega))
    obtain ⟨I0, hI0⟩ : ∃ I0, I0 = pv_uI I 365 0 (nI 0) := ⟨_, rfl⟩
    rw [← hI0]
    obtain ⟨hM0, hS0, hB0, hT0, hK0, hF0, hG0⟩ := pm_zero hM hS hB hI0
    refine px_aload_n dX10_removePort_26 rfl ?_
    refine c_X10_save dX10_removePort_27 mlX10_50 (by omega) hM0 hS0 (Nat.le_of_ble_eq_true rfl) (fun I1 hS1 hF1 hG1 => ?_)
    obtain ⟨hM1, hB1, hT1, hK1⟩ := pm_saved hM0 hB0 hT0 hK0 hF1 hG1
    refine px_aload_n dX10_removePort_30 rfl ?_
    refine px_getR dX10_removePort_31 flX10_7 pv_s_model (by decide) (by decide) rfl pv_k_model pv_p_365_1 ?_
    refine px_sipush (v := nI 324) dX10_removePort_34 (by decide) ?_
    refine px_bipush (v := nI 10) dX10_removePort_37 (by decide) ?_
    refine px_iload_n dX10_removePort_39 rfl ?_
    refine px_imulN dX10_removePort_40 ?_
    refine px_iaddN dX10_removePort_41 ?_
    refine px_iald (j := (324 + (10 * a))) dX10_removePort_42 pv_a_z.1 rfl (by omega) pv_a_z.2.2 pv_a_z.2.1 ?_
    refine px_iv (y := nI (T (324 + 10 * a))) ((hM1.1 ((324 + (10 * a))) (by omega) (by omega) (by omega)).trans (congrArg nI (congrArg T (by omega)))) ?_
    refine px_istore_n dX10_removePort_43 (by decide) ?_
    refine px_aload_n dX10_removePort_44 rfl ?_
    refine px_getR dX10_removePort_45 flX10_7 pv_s_model (by decide) (by decide) rfl pv_k_model pv_p_365_1 ?_
    refine px_sipush (v := nI 407) dX10_removePort_48 (by decide) ?_
    refine px_dup2 dX10_removePort_51 rfl rfl ?_
    refine px_iald (j := 407) dX10_removePort_52 pv_a_z.1 rfl (by omega) pv_a_z.2.2 pv_a_z.2.1 ?_
    refine px_iv (y := nI (T (407))) (hM1.1 (407) (by omega) (by omega) (by omega)) ?_
    refine px_iconst (v := nI 1) dX10_removePort_53 (by decide) ?_
    refine px_isubN (by omega) dX10_removePort_54 ?_
    refine px_iast (j := 407) dX10_removePort_55 pv_a_z.1 rfl (by omega) pv_a_z.2.2 pv_a_z.2.1 ?_
    refine px_sipush (v := nI 324) dX10_removePort_56 (by decide) ?_
    refine px_bipush (v := nI 10) dX10_removePort_59 (by decide) ?_
    refine px_iload_n dX10_removePort_61 rfl ?_
    refine px_imulN dX10_removePort_62 ?_
    refine px_iaddN dX10_removePort_63 ?_
    refine px_istore_n dX10_removePort_64 (by decide) ?_
    have key : ∀ i : Nat, i ≤ 10 * (T 407 - 1 - a) → ∀ I2 : pv_IT, MR (I2 366) (fun j => if 324 + 10 * a ≤ j ∧ j < 324 + 10 * a + (i) then T (j + 10) else if j = 407 then T 407 - 1 else T j) L → (∀ k0 : Nat, k0 ≠ 366 → I2 k0 = I1 k0) → pv_X (pv_ZQ E Q) E d bc bs mX10_removePort 65 [(0, .ref 365), (1, .int (nI a)), (2, .int (nI (T (324 + 10 * a)))), (3, .int (nI (324 + 10 * a + (i))))] [] pv_K0 pv_P0 I2 J := by
      refine pv_up (10 * (T 407 - 1 - a)) ?_ ?_
      · intro I2 hM2 hF2
        refine px_iload_n dX10_removePort_65 rfl ?_
        refine px_sipush (v := nI 324) dX10_removePort_66 (by decide) ?_
        refine px_bipush (v := nI 10) dX10_removePort_69 (by decide) ?_
        refine px_aload_n dX10_removePort_71 rfl ?_
        refine px_getR dX10_removePort_72 flX10_7 pv_s_model (by decide) (by decide) rfl pv_k_model pv_p_365_1 ?_
        refine px_sipush (v := nI 407) dX10_removePort_75 (by decide) ?_
        refine px_iald (j := 407) dX10_removePort_78 pv_a_z.1 rfl (by omega) pv_a_z.2.2 pv_a_z.2.1 ?_
        refine px_iv (y := nI (T 407 - 1)) ((hM2.1 407 (by omega) (by omega) (by omega)).trans (congrArg nI ((if_neg (by omega)).trans (if_pos rfl)))) ?_
        refine px_imulN dX10_removePort_79 ?_
        refine px_iaddN dX10_removePort_80 ?_
        refine px_icmp_geN (tgt := 105) dX10_removePort_81 (by decide) (by omega) (by omega) (fun _ => ?_) (fun h0 => absurd h0 (by omega))
        refine px_iload_n dX10_removePort_105 rfl ?_
        have hM3 : MR (I2 366) (pt_rem T a) L := MR_T hM2 (fun j h1 h2 h3 => by
          show pt_rem T a j = (if 324 + 10 * a ≤ j ∧ j < 324 + 10 * a + 10 * (T 407 - 1 - a) then T (j + 10) else if j = 407 then T 407 - 1 else T j)
          unfold pt_rem
          by_cases e1 : j = 407
          · rw [if_pos e1, if_neg (by omega), if_pos e1]
          · rw [if_neg e1]
            by_cases e2 : 324 + 10 * a ≤ j ∧ j < 314 + 10 * T 407
            · rw [if_pos e2, if_pos (by omega)]
            · rw [if_neg e2, if_neg (by omega), if_neg e1])
        exact px_iret dX10_removePort_106 rfl (Or.inl rfl) (pm_fin (by unfold po_removePort at h; simp only [tn, a3] at h; rw [if_pos ha0] at h; exact h) hM3 hS1 hB1 hT1 hK1 (fun k0 x y z => hF2 k0 x))
      · intro i hi K I2 hM2 hF2
        refine px_iload_n dX10_removePort_65 rfl ?_
        refine px_sipush (v := nI 324) dX10_removePort_66 (by decide) ?_
        refine px_bipush (v := nI 10) dX10_removePort_69 (by decide) ?_
        refine px_aload_n dX10_removePort_71 rfl ?_
        refine px_getR dX10_removePort_72 flX10_7 pv_s_model (by decide) (by decide) rfl pv_k_model pv_p_365_1 ?_
        refine px_sipush (v := nI 407) dX10_removePort_75 (by decide) ?_
        refine px_iald (j := 407) dX10_removePort_78 pv_a_z.1 rfl (by omega) pv_a_z.2.2 pv_a_z.2.1 ?_
        refine px_iv (y := nI (T 407 - 1)) ((hM2.1 407 (by omega) (by omega) (by omega)).trans (congrArg nI ((if_neg (by omega)).trans (if_pos rfl)))) ?_
        refine px_imulN dX10_removePort_79 ?_
        refine px_iaddN dX10_removePort_80 ?_
        refine px_icmp_geN (tgt := 105) dX10_removePort_81 (by decide) (by omega) (by omega) (fun h0 => absurd h0 (by omega)) (fun _ => ?_)
        refine px_aload_n dX10_removePort_84 rfl ?_
        refine px_getR dX10_removePort_85 flX10_7 pv_s_model (by decide) (by decide) rfl pv_k_model pv_p_365_1 ?_
        refine px_iload_n dX10_removePort_88 rfl ?_
        refine px_aload_n dX10_removePort_89 rfl ?_
        refine px_getR dX10_removePort_90 flX10_7 pv_s_model (by decide) (by decide) rfl pv_k_model pv_p_365_1 ?_
        refine px_iload_n dX10_removePort_93 rfl ?_
        refine px_bipush (v := nI 10) dX10_removePort_94 (by decide) ?_
        refine px_iaddN dX10_removePort_96 ?_
        refine px_iald (j := ((324 + 10 * a + i) + 10)) dX10_removePort_97 pv_a_z.1 rfl (by omega) pv_a_z.2.2 pv_a_z.2.1 ?_
        refine px_iv (y := nI (T (324 + 10 * a + i + 10))) ((hM2.1 (324 + 10 * a + i + 10) (by omega) (by omega) (by omega)).trans (congrArg nI ((if_neg (by omega)).trans (if_neg (by omega))))) ?_
        refine px_iast (j := (324 + 10 * a + i)) dX10_removePort_98 pv_a_z.1 rfl (by omega) pv_a_z.2.2 pv_a_z.2.1 ?_
        refine px_iincN (c := 1) (by decide) dX10_removePort_99 rfl (by decide) ?_
        refine px_goto (tgt := 65) dX10_removePort_102 (by decide) ?_
        refine px_keep [0, 1, 2, 3] ?_
        rw [show 324 + 10 * a + (i + 1) = 324 + 10 * a + i + 1 by omega] at K
        refine K _ (MR_T (MR_z hM2 (i := 324 + 10 * a + i) (by omega) (by omega)) (fun j h1 h2 h3 => ?_)) (fun k0 hk => (pv_uI_ne hk).trans (hF2 k0 hk))
        show (if 324 + 10 * a ≤ j ∧ j < 324 + 10 * a + i + 1 then T (j + 10) else if j = 407 then T 407 - 1 else T j) = pt_up _ _ _ j
        unfold pt_up
        by_cases e1 : j = 324 + 10 * a + i
        · rw [if_pos e1, if_pos (by omega), e1]
        · rw [if_neg e1]
          show _ = (if 324 + 10 * a ≤ j ∧ j < 324 + 10 * a + i then T (j + 10) else if j = 407 then T 407 - 1 else T j)
          by_cases e2 : 324 + 10 * a ≤ j ∧ j < 324 + 10 * a + i
          · rw [if_pos e2, if_pos (by omega)]
          · rw [if_neg e2, if_neg (by omega)]
    exact key 0 (by omega) _ (MR_T (MR_z hM1 (i := 407) (v := T 407 - 1) (by omega) (by omega)) (fun j h1 h2 h3 => by
      show (if 324 + 10 * a ≤ j ∧ j < 324 + 10 * a + 0 then T (j + 10) else if j = 407 then T 407 - 1 else T j) = pt_up T 407 (T 407 - 1) j
      rw [if_neg (by omega)]
      rfl)) (fun k0 hk => pv_uI_ne hk)
theorem c_X10_removePort {z : pv_Z} {E : pv_E} {d bc bs : Nat} {J : pv_JT} {I : pv_IT} {mi : pv_MI} {pc idx : Nat} {lv : pv_LV} {st : List Value} {T : pv_T} {L : List pv_Lot} {H : List pv_S} {B : List Nat} {n : Nat} {a0 : Int32} (hd : decode mi.2.1 pc = .ok (.invokevirtual idx, 3)) (hlk : Cond.methodLink mi.1.cls idx mX10_removePort.1 ∈ pv_W) (hD : 8+1 ≤ d) (hMA : MA I ((T, L), H, B)) (hw : wx n ((T, L), H, B)) (hn : n ≤ 600) (hcat : (st.map fun v => v.category).sum ≤ 8) (K : pm_ok (pv_K z E d bc bs mi pc lv st) I J (po_removePort ((T, L), H, B) a0)) : pv_X z E d bc bs mi pc lv (.int (a0) :: .ref (365) :: st) pv_K0 pv_P0 I J := by
  obtain ⟨d, rfl⟩ : ∃ d0, d = d0 + 1 := ⟨d - 1, by omega⟩
  have key := px_callV (bc := bc) (bs := bs) (bc1 := 0) (bs1 := 0) (as := [.int (a0)]) (E := E) (z := z) (lv := lv) hd mvX10_removePort hlk pv_s_model (by decide) rfl pv_k_model rfl rfl hcat (by exact Nat.le_of_ble_eq_true rfl) (s_X10_removePort (by omega) hMA hw hn K)
  rw [Nat.zero_add, Nat.zero_add] at key
  exact key
set_option maxRecDepth 100000 in
set_option maxHeartbeats 4000000 in
theorem s_X10_discard {Q : pv_Q} {E : pv_E} {d bc bs : Nat} {J : pv_JT} {I : pv_IT} {T : pv_T} {L : List pv_Lot} {H : List pv_S} {B : List Nat} {n : Nat} {l0 a0 : Int32} (hD : 8 ≤ d) (hMA : MA I ((T, L), H, B)) (hw : wx n ((T, L), H, B)) (hn : n ≤ 600) (h : pm_ok Q I J (po_discard ((T, L), H, B) l0 a0)) : pv_X (pv_ZQ E Q) E d bc bs mX10_discard 0 [(0, .ref (365)), (1, .int (l0)), (2, .int (a0))] [] pv_K0 pv_P0 I J := by
  obtain ⟨hM, hS, hB⟩ := id hMA
  replace hM : MR (I 366) T L := hM
  replace hS : MSV I H := hS
  replace hB : MB I B := hB
  have hdy : dy (T, L) := hw.1.1
  have htb : tb T := hdy.1
  have hlb : lbs L := hdy.2.1
  have h31 : L.length ≤ 31 := hlb.1
  have h30 : L.length ≤ 30 := hw.1.2.1
  have h404 : T 404 ≤ 60 * n := hw.1.2.2.1
  have hn8 : T 405 ≤ 8 := htb.2.2.1
  have hp8 : T 407 ≤ 8 := htb.2.2.2.2.2.1.1
  have h10 : T 408 ≤ 10 := htb.2.2.2.2.2.2.2.1
  have hwk : wk (T, L) := ⟨hw.1.2.2.2.2.1, hw.1.2.2.2.2.2.1, hw.1.2.2.2.2.2.2⟩
  refine px_aload_n dX10_discard_0 rfl ?_
  refine px_aload_n dX10_discard_1 rfl ?_
  refine px_iload_n dX10_discard_2 rfl ?_
  refine c_X10_isLot dX10_discard_3 mlX10_96 (by omega) hM (Nat.le_of_ble_eq_true rfl) ?_
  refine px_if_neB (tgt := 13) dX10_discard_6 (by decide) (fun ha => ?_) (fun ha => ?_)
  · have ha0 := ha
    obtain ⟨l, l1, rfl, l3⟩ := pu_has_nI ha (by omega)
    have hx := hlb.2 l l1
    unfold lb at hx
    have hol : lv_ok (pl_g L l) := hdy.2.2 l l1
    unfold lv_ok at hol
    refine px_iload_n dX10_discard_13 rfl ?_
    refine px_iconst (v := nI 1) dX10_discard_14 (by decide) ?_
    refine px_aload_n dX10_discard_15 rfl ?_
    refine px_iload_n dX10_discard_16 rfl ?_
    refine px_iconst (v := nI 2) dX10_discard_17 (by decide) ?_
    refine c_X10_of dX10_discard_18 mlX10_53 (by omega) (by omega) (by omega) (Nat.le_of_ble_eq_true rfl) ?_
    refine px_iv (y := nI ((pl_g L (l)).2.2.1)) ((mr_l hM (by omega)).2.2.1) ?_
    refine c_X10_within dX10_discard_21 mlX10_35 (by omega)  (Nat.le_of_ble_eq_true rfl) ?_
    refine px_if_eqB (tgt := 31) dX10_discard_24 (by decide) (fun hm => ?_) (fun hm => ?_)
    · refine px_iconst (v := nI 2) dX10_discard_31 (by decide) ?_
      refine px_putI dX10_discard_32 fwX10_31 pv_s_model (by decide) (by decide) rfl pv_k_model ?_
      refine px_aload_n dX10_discard_35 rfl ?_
      refine px_getI dX10_discard_36 flX10_31 pv_s_model (by decide) (by decide) rfl pv_k_model ?_
      refine px_iv (y := nI (2)) (by simp [pv_uI_at]) ?_
      refine px_if_leN (tgt := 44) dX10_discard_39 (by decide) (by omega) (fun h0 => absurd h0 (by omega)) (fun _ => ?_)
      refine px_iconst (v := nI 0) dX10_discard_42 (by decide) ?_
      exact px_iret dX10_discard_43 rfl (Or.inl rfl) (pm_exc (by unfold po_discard at h; simp only [tn, l3] at h; rw [if_pos ha0] at h; rw [if_neg hm] at h; exact h) hMA)
    · have hm0 := hm
      obtain ⟨a, a1, a2, rfl, a3⟩ := pu_in_nI hm (by omega) (by omega)
      refine px_iconst (v := nI 0) dX10_discard_27 (by decide) ?_
      refine px_goto (tgt := 32) dX10_discard_28 (by decide) ?_
      refine px_putI dX10_discard_32 fwX10_31 pv_s_model (by decide) (by decide) rfl pv_k_model ?_
      refine px_aload_n dX10_discard_35 rfl ?_
      refine px_getI dX10_discard_36 flX10_31 pv_s_model (by decide) (by decide) rfl pv_k_model ?_
      refine px_iv (y := nI (0)) (by simp [pv_uI_at]) ?_
      refine px_if_leN (tgt := 44) dX10_discard_39 (by decide) (by omega) (fun _ => ?_) (fun h0 => absurd h0 (by omega))
      obtain ⟨I0, hI0⟩ : ∃ I0, I0 = pv_uI I 365 0 (nI 0) := ⟨_, rfl⟩
      rw [← hI0]
      obtain ⟨hM0, hS0, hB0, hT0, hK0, hF0, hG0⟩ := pm_zero hM hS hB hI0
      refine px_aload_n dX10_discard_44 rfl ?_
      refine c_X10_save dX10_discard_45 mlX10_50 (by omega) hM0 hS0 (Nat.le_of_ble_eq_true rfl) (fun I1 hS1 hF1 hG1 => ?_)
      obtain ⟨hM1, hB1, hT1, hK1⟩ := pm_saved hM0 hB0 hT0 hK0 hF1 hG1
      refine px_aload_n dX10_discard_48 rfl ?_
      refine px_aload_n dX10_discard_49 rfl ?_
      refine px_iload_n dX10_discard_50 rfl ?_
      refine px_iconst (v := nI 0) dX10_discard_51 (by decide) ?_
      refine c_X10_of dX10_discard_52 mlX10_53 (by omega) (by omega) (by omega) (Nat.le_of_ble_eq_true rfl) ?_
      refine px_iv (y := nI ((pl_g L (l)).1)) ((mr_l hM1 (by omega)).1) ?_
      refine px_iconst (v := nI 3) dX10_discard_55 (by decide) ?_
      refine px_iload_n dX10_discard_56 rfl ?_
      refine c_X10_tally dX10_discard_57 mlX10_88 (by omega) hM1 (by omega) (by omega) (Nat.le_of_ble_eq_true rfl) ?_
      have hM2 := MR_z (i := 24 + 5 * (pl_g L l).1 + 3) (v := T (24 + 5 * (pl_g L l).1 + 3) + a) hM1 (by omega) (by omega)
      rw [show 24 + 5 * (pl_g L l).1 + 3 = 27 + 5 * (pl_g L l).1 by omega] at hM2 ⊢
      have hF2 : ∀ k0 : Nat, k0 ≠ 366 → (pv_uI I1 366 (27 + 5 * (pl_g L l).1) (nI (T (27 + 5 * (pl_g L l).1) + a))) k0 = I1 k0 := fun k0 hk => pv_uI_ne hk
      generalize pv_uI I1 366 (27 + 5 * (pl_g L l).1) (nI (T (27 + 5 * (pl_g L l).1) + a)) = I2 at hM2 hF2 ⊢
      refine px_aload_n dX10_discard_60 rfl ?_
      refine px_getR dX10_discard_61 flX10_7 pv_s_model (by decide) (by decide) rfl pv_k_model pv_p_365_1 ?_
      refine px_bipush (v := nI 70) dX10_discard_64 (by decide) ?_
      refine px_iconst (v := nI 4) dX10_discard_66 (by decide) ?_
      refine px_iload_n dX10_discard_67 rfl ?_
      refine px_imulN dX10_discard_68 ?_
      refine px_iaddN dX10_discard_69 ?_
      refine px_iconst (v := nI 2) dX10_discard_70 (by decide) ?_
      refine px_iaddN dX10_discard_71 ?_
      refine px_dup2 dX10_discard_72 rfl rfl ?_
      refine px_iald (j := ((70 + (4 * l)) + 2)) dX10_discard_73 pv_a_z.1 rfl (by omega) pv_a_z.2.2 pv_a_z.2.1 ?_
      refine px_iv (y := nI ((pl_g L l).2.2.1)) ((mr_l hM2 l1).2.2.1) ?_
      refine px_iload_n dX10_discard_74 rfl ?_
      refine px_isubN (by omega) dX10_discard_75 ?_
      refine px_iast (j := ((70 + (4 * l)) + 2)) dX10_discard_76 pv_a_z.1 rfl (by omega) pv_a_z.2.2 pv_a_z.2.1 ?_
      have hM3 := MR_amt hM2 l1 (v := (pl_g L l).2.2.1 - a) (by omega)
      have hF3 : ∀ k0 : Nat, k0 ≠ 366 → (pv_uI I2 366 (70 + 4 * l + 2) (nI ((pl_g L l).2.2.1 - a))) k0 = I1 k0 := fun k0 hk => (pv_uI_ne hk).trans (hF2 k0 hk)
      generalize pv_uI I2 366 (70 + 4 * l + 2) (nI ((pl_g L l).2.2.1 - a)) = I3 at hM3 hF3 ⊢
      refine px_aload_n dX10_discard_77 rfl ?_
      refine c_X10_dropEmpty dX10_discard_78 mlX10_99 (by omega) hM3 (Nat.le_of_ble_eq_true rfl) (fun I4 hM4 hF4 => ?_)
      refine px_aload_n dX10_discard_81 rfl ?_
      refine c_X10_rations dX10_discard_82 mlX10_102 (by omega) hM4 (Nat.le_of_ble_eq_true rfl) ?_
      exact px_iret dX10_discard_85 rfl (Or.inl rfl) (pm_fin (by unfold po_discard at h; simp only [tn, l3, a3] at h; rw [if_pos ha0] at h; rw [if_pos hm0] at h; exact h) hM4 hS1 hB1 hT1 hK1 (fun k0 x y z => (hF4 k0 x).trans (hF3 k0 x)))
  · refine px_iconst (v := nI 1) dX10_discard_9 (by decide) ?_
    refine px_goto (tgt := 32) dX10_discard_10 (by decide) ?_
    refine px_putI dX10_discard_32 fwX10_31 pv_s_model (by decide) (by decide) rfl pv_k_model ?_
    refine px_aload_n dX10_discard_35 rfl ?_
    refine px_getI dX10_discard_36 flX10_31 pv_s_model (by decide) (by decide) rfl pv_k_model ?_
    refine px_iv (y := nI (1)) (by simp [pv_uI_at]) ?_
    refine px_if_leN (tgt := 44) dX10_discard_39 (by decide) (by omega) (fun h0 => absurd h0 (by omega)) (fun _ => ?_)
    refine px_iconst (v := nI 0) dX10_discard_42 (by decide) ?_
    exact px_iret dX10_discard_43 rfl (Or.inl rfl) (pm_exc (by unfold po_discard at h; rw [if_neg ha] at h; exact h) hMA)
theorem c_X10_discard {z : pv_Z} {E : pv_E} {d bc bs : Nat} {J : pv_JT} {I : pv_IT} {mi : pv_MI} {pc idx : Nat} {lv : pv_LV} {st : List Value} {T : pv_T} {L : List pv_Lot} {H : List pv_S} {B : List Nat} {n : Nat} {l0 a0 : Int32} (hd : decode mi.2.1 pc = .ok (.invokevirtual idx, 3)) (hlk : Cond.methodLink mi.1.cls idx mX10_discard.1 ∈ pv_W) (hD : 8+1 ≤ d) (hMA : MA I ((T, L), H, B)) (hw : wx n ((T, L), H, B)) (hn : n ≤ 600) (hcat : (st.map fun v => v.category).sum ≤ 8) (K : pm_ok (pv_K z E d bc bs mi pc lv st) I J (po_discard ((T, L), H, B) l0 a0)) : pv_X z E d bc bs mi pc lv (.int (a0) :: .int (l0) :: .ref (365) :: st) pv_K0 pv_P0 I J := by
  obtain ⟨d, rfl⟩ : ∃ d0, d = d0 + 1 := ⟨d - 1, by omega⟩
  have key := px_callV (bc := bc) (bs := bs) (bc1 := 0) (bs1 := 0) (as := [.int (l0), .int (a0)]) (E := E) (z := z) (lv := lv) hd mvX10_discard hlk pv_s_model (by decide) rfl pv_k_model rfl rfl hcat (by exact Nat.le_of_ble_eq_true rfl) (s_X10_discard (by omega) hMA hw hn K)
  rw [Nat.zero_add, Nat.zero_add] at key
  exact key
set_option maxRecDepth 100000 in
set_option maxHeartbeats 4000000 in
theorem s_X10_pass {Q : pv_Q} {E : pv_E} {d bc bs : Nat} {J : pv_JT} {I : pv_IT} {T : pv_T} {L : List pv_Lot} {H : List pv_S} {B : List Nat} {n : Nat} {a0 : Int32} (hD : 8 ≤ d) (hMA : MA I ((T, L), H, B)) (hw : wx n ((T, L), H, B)) (hn : n ≤ 600) (h : pm_ok Q I J (po_pass ((T, L), H, B) a0)) : pv_X (pv_ZQ E Q) E d bc bs mX10_pass 0 [(0, .ref (365)), (1, .int (a0))] [] pv_K0 pv_P0 I J := by
  obtain ⟨hM, hS, hB⟩ := id hMA
  replace hM : MR (I 366) T L := hM
  replace hS : MSV I H := hS
  replace hB : MB I B := hB
  have hdy : dy (T, L) := hw.1.1
  have htb : tb T := hdy.1
  have hlb : lbs L := hdy.2.1
  have h31 : L.length ≤ 31 := hlb.1
  have h30 : L.length ≤ 30 := hw.1.2.1
  have h404 : T 404 ≤ 60 * n := hw.1.2.2.1
  have hn8 : T 405 ≤ 8 := htb.2.2.1
  have hp8 : T 407 ≤ 8 := htb.2.2.2.2.2.1.1
  have h10 : T 408 ≤ 10 := htb.2.2.2.2.2.2.2.1
  have hwk : wk (T, L) := ⟨hw.1.2.2.2.2.1, hw.1.2.2.2.2.2.1, hw.1.2.2.2.2.2.2⟩
  refine px_aload_n dX10_pass_0 rfl ?_
  refine px_iload_n dX10_pass_1 rfl ?_
  refine px_iconst (v := nI 1) dX10_pass_2 (by decide) ?_
  refine px_bipush (v := nI 60) dX10_pass_3 (by decide) ?_
  refine c_X10_within dX10_pass_5 mlX10_35 (by omega)  (Nat.le_of_ble_eq_true rfl) ?_
  refine px_if_eqB (tgt := 15) dX10_pass_8 (by decide) (fun ha => ?_) (fun ha => ?_)
  · refine px_iconst (v := nI 1) dX10_pass_15 (by decide) ?_
    refine px_putI dX10_pass_16 fwX10_31 pv_s_model (by decide) (by decide) rfl pv_k_model ?_
    refine px_aload_n dX10_pass_19 rfl ?_
    refine px_getI dX10_pass_20 flX10_31 pv_s_model (by decide) (by decide) rfl pv_k_model ?_
    refine px_iv (y := nI (1)) (by simp [pv_uI_at]) ?_
    refine px_if_leN (tgt := 28) dX10_pass_23 (by decide) (by omega) (fun h0 => absurd h0 (by omega)) (fun _ => ?_)
    refine px_iconst (v := nI 0) dX10_pass_26 (by decide) ?_
    exact px_iret dX10_pass_27 rfl (Or.inl rfl) (pm_exc (by unfold po_pass at h; rw [if_neg ha] at h; exact h) hMA)
  · have ha0 := ha
    obtain ⟨a, a1, a2, rfl, a3⟩ := pu_in_nI ha (by omega) (by omega)
    refine px_iconst (v := nI 0) dX10_pass_11 (by decide) ?_
    refine px_goto (tgt := 16) dX10_pass_12 (by decide) ?_
    refine px_putI dX10_pass_16 fwX10_31 pv_s_model (by decide) (by decide) rfl pv_k_model ?_
    refine px_aload_n dX10_pass_19 rfl ?_
    refine px_getI dX10_pass_20 flX10_31 pv_s_model (by decide) (by decide) rfl pv_k_model ?_
    refine px_iv (y := nI (0)) (by simp [pv_uI_at]) ?_
    refine px_if_leN (tgt := 28) dX10_pass_23 (by decide) (by omega) (fun _ => ?_) (fun h0 => absurd h0 (by omega))
    obtain ⟨I0, hI0⟩ : ∃ I0, I0 = pv_uI I 365 0 (nI 0) := ⟨_, rfl⟩
    rw [← hI0]
    obtain ⟨hM0, hS0, hB0, hT0, hK0, hF0, hG0⟩ := pm_zero hM hS hB hI0
    refine px_aload_n dX10_pass_28 rfl ?_
    refine c_X10_save dX10_pass_29 mlX10_50 (by omega) hM0 hS0 (Nat.le_of_ble_eq_true rfl) (fun I1 hS1 hF1 hG1 => ?_)
    obtain ⟨hM1, hB1, hT1, hK1⟩ := pm_saved hM0 hB0 hT0 hK0 hF1 hG1
    have hn8b : (pd_days (T, L) a).1 405 ≤ 8 := (pd_days_ok hdy a).1.1.2.2.1
    have hk2 := (wk_days hdy hwk a).1
    refine px_aload_n dX10_pass_32 rfl ?_
    refine px_iconst (v := nI 2) dX10_pass_33 (by decide) ?_
    refine c_X10_all dX10_pass_34 mlX10_125 (by omega) hM1 hn8 (by omega) (Nat.le_of_ble_eq_true rfl) ?_
    rw [← show pt_sum T 2 8 = pt_sum T 2 (T 405) from pt_sum_all (s := (T, L)) hwk hn8 (by omega)]
    refine px_istore_n dX10_pass_37 (by decide) ?_
    refine px_aload_n dX10_pass_38 rfl ?_
    refine px_iload_n dX10_pass_39 rfl ?_
    refine c_X10_passDays dX10_pass_40 mlX10_128 (by omega) hM1 hdy (by omega) (Nat.le_of_ble_eq_true rfl) (fun I2 hM2 hF2 => ?_)
    refine px_aload_n dX10_pass_43 rfl ?_
    refine px_iconst (v := nI 2) dX10_pass_44 (by decide) ?_
    refine c_X10_all dX10_pass_45 mlX10_125 (by omega) hM2 hn8b (by omega) (Nat.le_of_ble_eq_true rfl) ?_
    rw [← show pt_sum (pd_days (T, L) a).1 2 8 = pt_sum (pd_days (T, L) a).1 2 ((pd_days (T, L) a).1 405) from pt_sum_all hk2 hn8b (by omega)]
    refine px_iload_n dX10_pass_48 rfl ?_
    refine px_isub dX10_pass_49 ?_
    exact px_iret dX10_pass_50 rfl (Or.inl rfl) (pm_fin (by unfold po_pass at h; simp only [tn, a3] at h; rw [if_pos ha0] at h; exact h) hM2 hS1 hB1 hT1 hK1 (fun k0 x y z => hF2 k0 x z))
theorem c_X10_pass {z : pv_Z} {E : pv_E} {d bc bs : Nat} {J : pv_JT} {I : pv_IT} {mi : pv_MI} {pc idx : Nat} {lv : pv_LV} {st : List Value} {T : pv_T} {L : List pv_Lot} {H : List pv_S} {B : List Nat} {n : Nat} {a0 : Int32} (hd : decode mi.2.1 pc = .ok (.invokevirtual idx, 3)) (hlk : Cond.methodLink mi.1.cls idx mX10_pass.1 ∈ pv_W) (hD : 8+1 ≤ d) (hMA : MA I ((T, L), H, B)) (hw : wx n ((T, L), H, B)) (hn : n ≤ 600) (hcat : (st.map fun v => v.category).sum ≤ 8) (K : pm_ok (pv_K z E d bc bs mi pc lv st) I J (po_pass ((T, L), H, B) a0)) : pv_X z E d bc bs mi pc lv (.int (a0) :: .ref (365) :: st) pv_K0 pv_P0 I J := by
  obtain ⟨d, rfl⟩ : ∃ d0, d = d0 + 1 := ⟨d - 1, by omega⟩
  have key := px_callV (bc := bc) (bs := bs) (bc1 := 0) (bs1 := 0) (as := [.int (a0)]) (E := E) (z := z) (lv := lv) hd mvX10_pass hlk pv_s_model (by decide) rfl pv_k_model rfl rfl hcat (by exact Nat.le_of_ble_eq_true rfl) (s_X10_pass (by omega) hMA hw hn K)
  rw [Nat.zero_add, Nat.zero_add] at key
  exact key
