/-! The reference: a port set in. -/
def pm_sh (T : pv_T) (j w : Nat) : pv_T := fun i => if (334 + 10 * j ≤ i ∧ i < 334 + 10 * T 407) ∨ (324 + 10 * j ≤ i ∧ i < 324 + 10 * j + w) then T (i - 10) else T i
def pm_pt (T : pv_T) (j d s w : Nat) : pv_T := fun i => if 324 + 10 * j ≤ i ∧ i < 324 + 10 * j + w then (if i = 324 + 10 * j then d else if i = 325 + 10 * j then s else 0) else pm_sh T j 0 i
theorem pm_sh_rd {T : pv_T} {j w i : Nat} (h : i < 324 + 10 * j) : pm_sh T j w i = T i := if_neg (by omega)
theorem pm_sh_rd7 {T : pv_T} {j w : Nat} (h : T 407 < 8) (hj : j ≤ T 407) (hw : w ≤ 10) : pm_sh T j w 407 = T 407 := if_neg (by omega)
theorem pm_sh_0 {T : pv_T} : pm_sh T (T 407) 0 = T := funext fun i => if_neg (by omega)
theorem pm_sh_up {T : pv_T} {j w x : Nat} (hw : w < 10) (hx : x = 314 + 10 * j + w) : pt_up (pm_sh T j w) (324 + 10 * j + w) (T x) = pm_sh T j (w + 1) := by
  subst hx
  funext i
  unfold pt_up pm_sh
  by_cases e : i = 324 + 10 * j + w
  · subst e
    rw [if_pos rfl, if_pos (Or.inr ⟨by omega, by omega⟩)]
    exact congrArg T (by omega)
  · rw [if_neg e]
    by_cases h1 : (334 + 10 * j ≤ i ∧ i < 334 + 10 * T 407) ∨ (324 + 10 * j ≤ i ∧ i < 324 + 10 * j + w)
    · rw [if_pos h1, if_pos (by omega)]
    · rw [if_neg h1, if_neg (by omega)]
theorem pm_sh_next {T : pv_T} {j : Nat} (hj : 0 < j) (h : j ≤ T 407) : pm_sh T j 10 = pm_sh T (j - 1) 0 := by
  funext i
  unfold pm_sh
  by_cases h1 : (334 + 10 * j ≤ i ∧ i < 334 + 10 * T 407) ∨ (324 + 10 * j ≤ i ∧ i < 324 + 10 * j + 10)
  · rw [if_pos h1, if_pos (by omega)]
  · rw [if_neg h1, if_neg (by omega)]
theorem pm_pt_0 {T : pv_T} {j d s : Nat} : pm_pt T j d s 0 = pm_sh T j 0 := funext fun i => if_neg (by omega)
theorem pm_pt_up {T : pv_T} {j d s w v : Nat} (hv : v = if w = 0 then d else if w = 1 then s else 0) : pt_up (pm_pt T j d s w) (324 + 10 * j + w) v = pm_pt T j d s (w + 1) := by
  subst hv
  funext i
  unfold pt_up pm_pt
  by_cases e : i = 324 + 10 * j + w
  · subst e
    rw [if_pos rfl, if_pos (show 324 + 10 * j ≤ 324 + 10 * j + w ∧ 324 + 10 * j + w < 324 + 10 * j + (w + 1) from by omega)]
    by_cases e0 : w = 0
    · rw [if_pos e0, if_pos (by omega)]
    · rw [if_neg e0, if_neg (show ¬ 324 + 10 * j + w = 324 + 10 * j from by omega)]
      by_cases e1 : w = 1
      · rw [if_pos e1, if_pos (by omega)]
      · rw [if_neg e1, if_neg (by omega)]
  · rw [if_neg e]
    by_cases h1 : 324 + 10 * j ≤ i ∧ i < 324 + 10 * j + w
    · rw [if_pos h1, if_pos (show 324 + 10 * j ≤ i ∧ i < 324 + 10 * j + (w + 1) from by omega)]
    · rw [if_neg h1, if_neg (by omega)]
theorem pm_pt_7 {T : pv_T} {j d s : Nat} (h : T 407 < 8) (hj : j ≤ T 407) : pm_pt T j d s 10 407 = T 407 := (if_neg (by omega)).trans (pm_sh_rd7 h hj (by omega))
theorem pm_pt_end {T : pv_T} {j d s : Nat} (h : T 407 < 8) (hj : j ≤ T 407) : pt_up (pm_pt T j d s 10) 407 (T 407 + 1) = pt_ins T j d s := by
  funext i
  unfold pt_up pm_pt pt_ins pm_sh
  by_cases e : i = 407
  · rw [if_pos e, if_pos e]
  · rw [if_neg e, if_neg e]
    by_cases h1 : 324 + 10 * j ≤ i ∧ i < 324 + 10 * j + 10
    · rw [if_pos h1, if_pos (show 324 + 10 * j ≤ i ∧ i < 334 + 10 * j from by omega)]
    · rw [if_neg h1, if_neg (show ¬ (324 + 10 * j ≤ i ∧ i < 334 + 10 * j) from by omega)]
      by_cases h2 : 334 + 10 * j ≤ i ∧ i < 334 + 10 * T 407
      · rw [if_pos (Or.inl h2), if_pos h2]
      · rw [if_neg (by omega), if_neg h2]
theorem pt_place_is {T : pv_T} {d : Nat} (hw : pw T) : pt_place T d ≤ T 407 ∧ (∀ p, p < pt_place T d → T (324 + 10 * p) ≤ d) ∧ ∀ p, pt_place T d ≤ p → p < T 407 → d < T (324 + 10 * p) := by
  unfold pt_place
  cases e : pt_aft T d with
  | none =>
    refine ⟨Nat.le_refl _, fun p hp => ?_, fun p h1 h2 => absurd h2 (Nat.not_lt.mpr h1)⟩
    have h1 := pf_isnone e p hp
    exact Nat.le_of_not_lt fun hlt => by rw [pl_t hlt] at h1; cases h1
  | some p =>
    obtain ⟨h1, h2, h3⟩ := pf_is e
    refine ⟨Nat.le_of_lt h1, fun q hq => ?_, fun q hq hq2 => ?_⟩
    · have h4 := h3 q hq
      exact Nat.le_of_not_lt fun hlt => by rw [pl_t hlt] at h4; cases h4
    · replace hq : p ≤ q := hq
      have h4 : d < T (324 + 10 * p) := Nat.blt_eq.mp h2
      rcases Nat.lt_or_ge p q with h5 | h5
      · have h6 := hw.2.2 p q h5 hq2
        omega
      · rw [show q = p by omega]; exact h4
set_option maxRecDepth 100000 in
set_option maxHeartbeats 4000000 in
theorem s_X10_addPort {Q : pv_Q} {E : pv_E} {d bc bs : Nat} {J : pv_JT} {I : pv_IT} {T : pv_T} {L : List pv_Lot} {H : List pv_S} {B : List Nat} {n : Nat} {a0 b0 : Int32} (hD : 8 ≤ d) (hMA : MA I ((T, L), H, B)) (hw : wx n ((T, L), H, B)) (hn : n ≤ 600) (h : pm_ok Q I J (po_addPort ((T, L), H, B) a0 b0)) : pv_X (pv_ZQ E Q) E d bc bs mX10_addPort 0 [(0, .ref (365)), (1, .int (a0)), (2, .int (b0))] [] pv_K0 pv_P0 I J := by
  obtain ⟨hM, hS, hB⟩ := id hMA
  replace hM : MR (I 366) T L := hM
  replace hS : MSV I H := hS
  replace hB : MB I B := hB
  have hdy : dy (T, L) := hw.1.1
  have htb : tb T := hdy.1
  have hlb : lbs L := hdy.2.1
  have h31 : L.length ≤ 31 := hlb.1
  have h30 : L.length ≤ 30 := hw.1.2.1
  have h404 : T 404 ≤ 60 * n := hw.1.2.2.1
  have hn8 : T 405 ≤ 8 := htb.2.2.1
  have hp8 : T 407 ≤ 8 := htb.2.2.2.2.2.1.1
  have h10 : T 408 ≤ 10 := htb.2.2.2.2.2.2.2.1
  have hwk : wk (T, L) := ⟨hw.1.2.2.2.2.1, hw.1.2.2.2.2.2.1, hw.1.2.2.2.2.2.2⟩
  have hpw : pw T := htb.2.2.2.2.2.1
  
  refine px_iload_n dX10_addPort_0 rfl ?_
  refine px_iconst (v := nI 0) dX10_addPort_1 (by decide) ?_
  refine px_sipush (v := nI 500) dX10_addPort_2 (by decide) ?_
  refine c_X10_within dX10_addPort_5 mlX10_35 (by omega)  (Nat.le_of_ble_eq_true rfl) ?_
  refine px_if_eqB (tgt := 26) dX10_addPort_8 (by decide) (fun ha => ?_) (fun ha => ?_)
  · have hno : ¬ (pu_in a0 0 500 ∧ pu_in b0 0 900) := fun z => ha z.1
    refine px_iconst (v := nI 0) dX10_addPort_26 (by decide) ?_
    refine px_istore_n dX10_addPort_27 (by decide) ?_
    refine px_aload_n dX10_addPort_28 rfl ?_
    refine px_iload_n dX10_addPort_29 rfl ?_
    refine px_if_neN (tgt := 37) dX10_addPort_30 (by decide) (by omega) (fun h0 => absurd h0 (by omega)) (fun _ => ?_)
    refine px_iconst (v := nI 1) dX10_addPort_33 (by decide) ?_
    refine px_goto (tgt := 64) dX10_addPort_34 (by decide) ?_
    refine px_putI dX10_addPort_64 fwX10_31 pv_s_model (by decide) (by decide) rfl pv_k_model ?_
    refine px_aload_n dX10_addPort_67 rfl ?_
    refine px_getI dX10_addPort_68 flX10_31 pv_s_model (by decide) (by decide) rfl pv_k_model ?_
    refine px_iv (y := nI (1)) (by simp [pv_uI_at]) ?_
    refine px_if_leN (tgt := 76) dX10_addPort_71 (by decide) (by omega) (fun h0 => absurd h0 (by omega)) (fun _ => ?_)
    refine px_iconst (v := nI 0) dX10_addPort_74 (by decide) ?_
    exact px_iret dX10_addPort_75 rfl (Or.inl rfl) (pm_exc (by unfold po_addPort at h; rw [if_neg hno] at h; exact h) hMA)
  · refine px_iload_n dX10_addPort_11 rfl ?_
    refine px_iconst (v := nI 0) dX10_addPort_12 (by decide) ?_
    refine px_sipush (v := nI 900) dX10_addPort_13 (by decide) ?_
    refine c_X10_within dX10_addPort_16 mlX10_35 (by omega)  (Nat.le_of_ble_eq_true rfl) ?_
    refine px_if_eqB (tgt := 26) dX10_addPort_19 (by decide) (fun hb => ?_) (fun hb => ?_)
    · have hno : ¬ (pu_in a0 0 500 ∧ pu_in b0 0 900) := fun z => hb z.2
      refine px_iconst (v := nI 0) dX10_addPort_26 (by decide) ?_
      refine px_istore_n dX10_addPort_27 (by decide) ?_
      refine px_aload_n dX10_addPort_28 rfl ?_
      refine px_iload_n dX10_addPort_29 rfl ?_
      refine px_if_neN (tgt := 37) dX10_addPort_30 (by decide) (by omega) (fun h0 => absurd h0 (by omega)) (fun _ => ?_)
      refine px_iconst (v := nI 1) dX10_addPort_33 (by decide) ?_
      refine px_goto (tgt := 64) dX10_addPort_34 (by decide) ?_
      refine px_putI dX10_addPort_64 fwX10_31 pv_s_model (by decide) (by decide) rfl pv_k_model ?_
      refine px_aload_n dX10_addPort_67 rfl ?_
      refine px_getI dX10_addPort_68 flX10_31 pv_s_model (by decide) (by decide) rfl pv_k_model ?_
      refine px_iv (y := nI (1)) (by simp [pv_uI_at]) ?_
      refine px_if_leN (tgt := 76) dX10_addPort_71 (by decide) (by omega) (fun h0 => absurd h0 (by omega)) (fun _ => ?_)
      refine px_iconst (v := nI 0) dX10_addPort_74 (by decide) ?_
      exact px_iret dX10_addPort_75 rfl (Or.inl rfl) (pm_exc (by unfold po_addPort at h; rw [if_neg hno] at h; exact h) hMA)
    · have hab := And.intro ha hb
      refine px_iconst (v := nI 1) dX10_addPort_22 (by decide) ?_
      refine px_goto (tgt := 27) dX10_addPort_23 (by decide) ?_
      refine px_istore_n dX10_addPort_27 (by decide) ?_
      refine px_aload_n dX10_addPort_28 rfl ?_
      refine px_iload_n dX10_addPort_29 rfl ?_
      refine px_if_neN (tgt := 37) dX10_addPort_30 (by decide) (by omega) (fun _ => ?_) (fun h0 => absurd h0 (by omega))
      refine px_aload_n dX10_addPort_37 rfl ?_
      refine px_getR dX10_addPort_38 flX10_7 pv_s_model (by decide) (by decide) rfl pv_k_model pv_p_365_1 ?_
      refine px_sipush (v := nI 407) dX10_addPort_41 (by decide) ?_
      refine px_iald (j := 407) dX10_addPort_44 pv_a_z.1 rfl (by omega) pv_a_z.2.2 pv_a_z.2.1 ?_
      refine px_iv (y := nI (T (407))) (hM.1 (407) (by omega) (by omega) (by omega)) ?_
      refine px_bipush (v := nI 8) dX10_addPort_45 (by decide) ?_
      obtain ⟨a, a1, a2, rfl, a3⟩ := pu_in_nI ha (by omega) (by omega)
      obtain ⟨b, b1, b2, rfl, b3⟩ := pu_in_nI hb (by omega) (by omega)
      refine px_icmp_eqN (tgt := 59) dX10_addPort_47 (by decide) (by omega) (by omega) (fun h5 => ?_) (fun h5 => ?_)
      · refine px_iconst (v := nI 2) dX10_addPort_59 (by decide) ?_
        refine px_goto (tgt := 64) dX10_addPort_60 (by decide) ?_
        refine px_putI dX10_addPort_64 fwX10_31 pv_s_model (by decide) (by decide) rfl pv_k_model ?_
        refine px_aload_n dX10_addPort_67 rfl ?_
        refine px_getI dX10_addPort_68 flX10_31 pv_s_model (by decide) (by decide) rfl pv_k_model ?_
        refine px_iv (y := nI (2)) (by simp [pv_uI_at]) ?_
        refine px_if_leN (tgt := 76) dX10_addPort_71 (by decide) (by omega) (fun h0 => absurd h0 (by omega)) (fun _ => ?_)
        refine px_iconst (v := nI 0) dX10_addPort_74 (by decide) ?_
        exact px_iret dX10_addPort_75 rfl (Or.inl rfl) (pm_exc (by unfold po_addPort at h; simp only [tn, a3, b3] at h; rw [if_pos hab] at h; rw [if_neg (fun z => absurd z.1 (by omega))] at h; exact h) hMA)
      · refine px_aload_n dX10_addPort_50 rfl ?_
        refine px_iload_n dX10_addPort_51 rfl ?_
        refine c_X10_portOf dX10_addPort_52 mlX10_66 (by omega) hM hpw (by omega) (Nat.le_of_ble_eq_true rfl) ?_
        refine px_iconst (v := -1) dX10_addPort_55 (by decide) ?_
        cases e : pt_on T a with
        | some p =>
          have hpl := pf_is e
          refine px_icmp_eq (tgt := 63) dX10_addPort_56 (by decide) (fun h9 => absurd h9 (pn_m1 (by omega))) (fun _ => ?_)
          refine px_iconst (v := nI 2) dX10_addPort_59 (by decide) ?_
          refine px_goto (tgt := 64) dX10_addPort_60 (by decide) ?_
          refine px_putI dX10_addPort_64 fwX10_31 pv_s_model (by decide) (by decide) rfl pv_k_model ?_
          refine px_aload_n dX10_addPort_67 rfl ?_
          refine px_getI dX10_addPort_68 flX10_31 pv_s_model (by decide) (by decide) rfl pv_k_model ?_
          refine px_iv (y := nI (2)) (by simp [pv_uI_at]) ?_
          refine px_if_leN (tgt := 76) dX10_addPort_71 (by decide) (by omega) (fun h0 => absurd h0 (by omega)) (fun _ => ?_)
          refine px_iconst (v := nI 0) dX10_addPort_74 (by decide) ?_
          exact px_iret dX10_addPort_75 rfl (Or.inl rfl) (pm_exc (by unfold po_addPort at h; simp only [tn, a3, b3] at h; rw [if_pos hab] at h; rw [if_neg (fun z => by rw [e] at z; cases z.2)] at h; exact h) hMA)
        | none =>
          refine px_icmp_eq (tgt := 63) dX10_addPort_56 (by decide) (fun _ => ?_) (fun h9 => absurd rfl h9)
          refine px_iconst (v := nI 0) dX10_addPort_63 (by decide) ?_
          refine px_putI dX10_addPort_64 fwX10_31 pv_s_model (by decide) (by decide) rfl pv_k_model ?_
          refine px_aload_n dX10_addPort_67 rfl ?_
          refine px_getI dX10_addPort_68 flX10_31 pv_s_model (by decide) (by decide) rfl pv_k_model ?_
          refine px_iv (y := nI (0)) (by simp [pv_uI_at]) ?_
          refine px_if_leN (tgt := 76) dX10_addPort_71 (by decide) (by omega) (fun _ => ?_) (fun h0 => absurd h0 (by omega))
          obtain ⟨I0, hI0⟩ : ∃ I0, I0 = pv_uI I 365 0 (nI 0) := ⟨_, rfl⟩
          rw [← hI0]
          obtain ⟨hM0, hS0, hB0, hT0, hK0, hF0, hG0⟩ := pm_zero hM hS hB hI0
          refine px_aload_n dX10_addPort_76 rfl ?_
          refine c_X10_save dX10_addPort_77 mlX10_50 (by omega) hM0 hS0 (Nat.le_of_ble_eq_true rfl) (fun I1 hS1 hF1 hG1 => ?_)
          obtain ⟨hM1, hB1, hT1, hK1⟩ := pm_saved hM0 hB0 hT0 hK0 hF1 hG1
          refine px_aload_n dX10_addPort_80 rfl ?_
          refine px_getR dX10_addPort_81 flX10_7 pv_s_model (by decide) (by decide) rfl pv_k_model pv_p_365_1 ?_
          refine px_sipush (v := nI 407) dX10_addPort_84 (by decide) ?_
          refine px_iald (j := 407) dX10_addPort_87 pv_a_z.1 rfl (by omega) pv_a_z.2.2 pv_a_z.2.1 ?_
          refine px_iv (y := nI (T (407))) (hM1.1 (407) (by omega) (by omega) (by omega)) ?_
          obtain ⟨hj0, hj1, hj2⟩ := pt_place_is (d := a) hpw
          obtain ⟨j, hj⟩ : ∃ j, j = pt_place T a := ⟨_, rfl⟩
          have hfin : pm_ok Q I J (0, nI j, po_push ((T, L), H, B) (pt_ins T j a b, L)) := by
            rw [hj]
            exact (by unfold po_addPort at h; simp only [tn, a3, b3] at h; rw [if_pos hab] at h; rw [if_pos ⟨by omega, e⟩] at h; exact h)
          rw [← hj] at hj0 hj1 hj2
          have main : ∀ I2 : pv_IT, MR (I2 366) (pm_sh T j 0) L → (∀ k0 : Nat, k0 ≠ 366 → I2 k0 = I1 k0) → pv_X (pv_ZQ E Q) E d bc bs mX10_addPort 175 [(0, .ref 365), (1, .int (nI (a))), (2, .int (nI (b))), (3, .int (nI (1))), (4, .int (nI (j)))] [] pv_K0 pv_P0 I2 J := by
            intro I2 hM2 hF2
            have key2 : ∀ i : Nat, i ≤ 10 → ∀ I2 : pv_IT, MR (I2 366) (pm_pt T j a b (i)) L → (∀ k0 : Nat, k0 ≠ 366 → I2 k0 = I1 k0) → pv_X (pv_ZQ E Q) E d bc bs mX10_addPort 178 [(0, .ref 365), (1, .int (nI (a))), (2, .int (nI (b))), (3, .int (nI (1))), (4, .int (nI (j))), (5, .int (nI (i)))] [] pv_K0 pv_P0 (I2) (J) := by
              refine pv_up (10) ?_ ?_
              · intro I3 hM3 hF3
                refine px_iload dX10_addPort_178 rfl ?_
                refine px_bipush (v := nI 10) dX10_addPort_180 (by decide) ?_
                refine px_icmp_geN (tgt := 228) dX10_addPort_182 (by decide) (by omega) (by omega) (fun _ => ?_) (fun h0 => absurd h0 (by omega))
                refine px_aload_n dX10_addPort_228 rfl ?_
                refine px_getR dX10_addPort_229 flX10_7 pv_s_model (by decide) (by decide) rfl pv_k_model pv_p_365_1 ?_
                refine px_sipush (v := nI 407) dX10_addPort_232 (by decide) ?_
                refine px_dup2 dX10_addPort_235 rfl rfl ?_
                refine px_iald (j := 407) dX10_addPort_236 pv_a_z.1 rfl (by omega) pv_a_z.2.2 pv_a_z.2.1 ?_
                refine px_iv (y := nI (T 407)) ((hM3.1 (407) (by omega) (by omega) (by omega)).trans (congrArg nI (pm_pt_7 (by omega) (by omega)))) ?_
                refine px_iconst (v := nI 1) dX10_addPort_237 (by decide) ?_
                refine px_iaddN dX10_addPort_238 ?_
                refine px_iast (j := 407) dX10_addPort_239 pv_a_z.1 rfl (by omega) pv_a_z.2.2 pv_a_z.2.1 ?_
                refine px_iload dX10_addPort_240 rfl ?_
                have hM4 := MR_z hM3 (i := 407) (v := T 407 + 1) (by omega) (by omega)
                rw [pm_pt_end (by omega) (by omega)] at hM4
                exact px_iret dX10_addPort_242 rfl (Or.inl rfl) (pm_fin hfin hM4 hS1 hB1 hT1 hK1 (fun k0 a1 b1 c1 => (pv_uI_ne a1).trans (hF3 k0 a1)))
              · intro i hi K I3 hM3 hF3
                refine px_iload dX10_addPort_178 rfl ?_
                refine px_bipush (v := nI 10) dX10_addPort_180 (by decide) ?_
                refine px_icmp_geN (tgt := 228) dX10_addPort_182 (by decide) (by omega) (by omega) (fun h0 => absurd h0 (by omega)) (fun _ => ?_)
                refine px_aload_n dX10_addPort_185 rfl ?_
                refine px_getR dX10_addPort_186 flX10_7 pv_s_model (by decide) (by decide) rfl pv_k_model pv_p_365_1 ?_
                refine px_sipush (v := nI 324) dX10_addPort_189 (by decide) ?_
                refine px_bipush (v := nI 10) dX10_addPort_192 (by decide) ?_
                refine px_iload dX10_addPort_194 rfl ?_
                refine px_imulN dX10_addPort_196 ?_
                refine px_iaddN dX10_addPort_197 ?_
                refine px_iload dX10_addPort_198 rfl ?_
                refine px_iaddN dX10_addPort_200 ?_
                refine px_iload dX10_addPort_201 rfl ?_
                refine px_if_neN (tgt := 210) dX10_addPort_203 (by decide) (by omega) (fun h0 => ?_) (fun h0 => ?_)
                · refine px_iload dX10_addPort_210 rfl ?_
                  refine px_iconst (v := nI 1) dX10_addPort_212 (by decide) ?_
                  refine px_icmp_neN (tgt := 220) dX10_addPort_213 (by decide) (by omega) (by omega) (fun h1 => ?_) (fun h1 => ?_)
                  · refine px_iconst (v := nI 0) dX10_addPort_220 (by decide) ?_
                    refine px_iast (j := ((324 + (10 * j)) + i)) dX10_addPort_221 pv_a_z.1 rfl (by omega) pv_a_z.2.2 pv_a_z.2.1 ?_
                    refine px_iincN (c := 1) (by decide) dX10_addPort_222 rfl (by decide) ?_
                    refine px_goto (tgt := 178) dX10_addPort_225 (by decide) ?_
                    refine px_keep [0, 1, 2, 3, 4, 5] ?_
                    have hM4 := MR_z hM3 (i := 324 + 10 * j + i) (v := 0) (by omega) (by omega)
                    rw [pm_pt_up (((if_neg (Nat.ne_of_gt h0)).trans (if_neg h1)).symm)] at hM4
                    exact K _ hM4 (fun k0 hk => (pv_uI_ne hk).trans (hF3 k0 hk))
                  · refine px_iload_n dX10_addPort_216 rfl ?_
                    refine px_goto (tgt := 221) dX10_addPort_217 (by decide) ?_
                    refine px_iast (j := ((324 + (10 * j)) + i)) dX10_addPort_221 pv_a_z.1 rfl (by omega) pv_a_z.2.2 pv_a_z.2.1 ?_
                    refine px_iincN (c := 1) (by decide) dX10_addPort_222 rfl (by decide) ?_
                    refine px_goto (tgt := 178) dX10_addPort_225 (by decide) ?_
                    refine px_keep [0, 1, 2, 3, 4, 5] ?_
                    have hM4 := MR_z hM3 (i := 324 + 10 * j + i) (v := b) (by omega) (by omega)
                    rw [pm_pt_up (((if_neg (Nat.ne_of_gt h0)).trans (if_pos h1)).symm)] at hM4
                    exact K _ hM4 (fun k0 hk => (pv_uI_ne hk).trans (hF3 k0 hk))
                · refine px_iload_n dX10_addPort_206 rfl ?_
                  refine px_goto (tgt := 221) dX10_addPort_207 (by decide) ?_
                  refine px_iast (j := ((324 + (10 * j)) + i)) dX10_addPort_221 pv_a_z.1 rfl (by omega) pv_a_z.2.2 pv_a_z.2.1 ?_
                  refine px_iincN (c := 1) (by decide) dX10_addPort_222 rfl (by decide) ?_
                  refine px_goto (tgt := 178) dX10_addPort_225 (by decide) ?_
                  refine px_keep [0, 1, 2, 3, 4, 5] ?_
                  have hM4 := MR_z hM3 (i := 324 + 10 * j + i) (v := a) (by omega) (by omega)
                  rw [pm_pt_up ((if_pos h0).symm)] at hM4
                  exact K _ hM4 (fun k0 hk => (pv_uI_ne hk).trans (hF3 k0 hk))
            refine px_iconst (v := nI 0) dX10_addPort_175 (by decide) ?_
            refine px_istore dX10_addPort_176 (by decide) ?_
            exact key2 0 (by omega) _ (by rw [pm_pt_0]; exact hM2) hF2
          have key : ∀ m : Nat, j ≤ m → ∀ I2 : pv_IT, MR (I2 366) (pm_sh T m 0) L → (∀ k0 : Nat, k0 ≠ 366 → I2 k0 = I1 k0) → m ≤ T 407 → pv_X (pv_ZQ E Q) E d bc bs mX10_addPort 90 [(0, .ref 365), (1, .int (nI (a))), (2, .int (nI (b))), (3, .int (nI (1))), (4, .int (nI (m)))] [] pv_K0 pv_P0 I2 J := by
            refine pv_dn j ?_ ?_
            · intro I2 hM2 hF2 hle
              refine px_iload dX10_addPort_90 rfl ?_
              refine px_if_leN (tgt := 175) dX10_addPort_92 (by decide) (by omega) (fun h0 => ?_) (fun h0 => ?_)
              · exact main I2 hM2 hF2
              · have hx := hj1 (j - 1) (by omega)
                rw [show 324 + 10 * (j - 1) = 324 + 10 * j - 10 by omega] at hx
                refine px_aload_n dX10_addPort_95 rfl ?_
                refine px_getR dX10_addPort_96 flX10_7 pv_s_model (by decide) (by decide) rfl pv_k_model pv_p_365_1 ?_
                refine px_sipush (v := nI 324) dX10_addPort_99 (by decide) ?_
                refine px_bipush (v := nI 10) dX10_addPort_102 (by decide) ?_
                refine px_iload dX10_addPort_104 rfl ?_
                refine px_imulN dX10_addPort_106 ?_
                refine px_iaddN dX10_addPort_107 ?_
                refine px_bipush (v := nI 10) dX10_addPort_108 (by decide) ?_
                refine px_isubN (by omega) dX10_addPort_110 ?_
                refine px_iald (j := ((324 + (10 * j)) - 10)) dX10_addPort_111 pv_a_z.1 rfl (by omega) pv_a_z.2.2 pv_a_z.2.1 ?_
                refine px_iv (y := nI (T (324 + 10 * j - 10))) ((hM2.1 (324 + 10 * j - 10) (by omega) (by omega) (by omega)).trans (congrArg nI (pm_sh_rd (by omega)))) ?_
                refine px_iload_n dX10_addPort_112 rfl ?_
                refine px_icmp_leN (tgt := 175) dX10_addPort_113 (by decide) (by omega) (by omega) (fun _ => ?_) (fun h0 => absurd h0 (by omega))
                exact main I2 hM2 hF2
            · intro m hm K I2 hM2 hF2 hle
              have hx := hj2 (m - 1) (by omega) (by omega)
              rw [show 324 + 10 * (m - 1) = 324 + 10 * m - 10 by omega] at hx
              have hx5 := (hpw.2.1 (m - 1) (by omega)).1
              rw [show 324 + 10 * (m - 1) = 324 + 10 * m - 10 by omega] at hx5
              refine px_iload dX10_addPort_90 rfl ?_
              refine px_if_leN (tgt := 175) dX10_addPort_92 (by decide) (by omega) (fun h0 => absurd h0 (by omega)) (fun _ => ?_)
              refine px_aload_n dX10_addPort_95 rfl ?_
              refine px_getR dX10_addPort_96 flX10_7 pv_s_model (by decide) (by decide) rfl pv_k_model pv_p_365_1 ?_
              refine px_sipush (v := nI 324) dX10_addPort_99 (by decide) ?_
              refine px_bipush (v := nI 10) dX10_addPort_102 (by decide) ?_
              refine px_iload dX10_addPort_104 rfl ?_
              refine px_imulN dX10_addPort_106 ?_
              refine px_iaddN dX10_addPort_107 ?_
              refine px_bipush (v := nI 10) dX10_addPort_108 (by decide) ?_
              refine px_isubN (by omega) dX10_addPort_110 ?_
              refine px_iald (j := ((324 + (10 * m)) - 10)) dX10_addPort_111 pv_a_z.1 rfl (by omega) pv_a_z.2.2 pv_a_z.2.1 ?_
              refine px_iv (y := nI (T (324 + 10 * m - 10))) ((hM2.1 (324 + 10 * m - 10) (by omega) (by omega) (by omega)).trans (congrArg nI (pm_sh_rd (by omega)))) ?_
              refine px_iload_n dX10_addPort_112 rfl ?_
              refine px_icmp_leN (tgt := 175) dX10_addPort_113 (by decide) (by omega) (by omega) (fun h0 => absurd h0 (by omega)) (fun _ => ?_)
              refine px_iconst (v := nI 0) dX10_addPort_116 (by decide) ?_
              refine px_istore dX10_addPort_117 (by decide) ?_
              have K1 := K
              have key3 : ∀ i : Nat, i ≤ 10 → ∀ I2 : pv_IT, MR (I2 366) (pm_sh T m (i)) L → (∀ k0 : Nat, k0 ≠ 366 → I2 k0 = I1 k0) → pv_X (pv_ZQ E Q) E d bc bs mX10_addPort 119 [(0, .ref 365), (1, .int (nI (a))), (2, .int (nI (b))), (3, .int (nI (1))), (4, .int (nI (m))), (5, .int (nI (i)))] [] pv_K0 pv_P0 (I2) (J) := by
                refine pv_up (10) ?_ ?_
                · intro I3 hM3 hF3
                  have K := K1
                  refine px_iload dX10_addPort_119 rfl ?_
                  refine px_bipush (v := nI 10) dX10_addPort_121 (by decide) ?_
                  refine px_icmp_geN (tgt := 169) dX10_addPort_123 (by decide) (by omega) (by omega) (fun _ => ?_) (fun h0 => absurd h0 (by omega))
                  refine px_idecN (by omega) dX10_addPort_169 rfl (by decide) ?_
                  refine px_goto (tgt := 90) dX10_addPort_172 (by decide) ?_
                  refine px_keep [0, 1, 2, 3, 4] ?_
                  rw [pm_sh_next (by omega) hle] at hM3
                  exact K _ hM3 hF3 (by omega)
                · intro i hi K I3 hM3 hF3
                  have K2 := K
                  clear K
                  refine px_iload dX10_addPort_119 rfl ?_
                  refine px_bipush (v := nI 10) dX10_addPort_121 (by decide) ?_
                  refine px_icmp_geN (tgt := 169) dX10_addPort_123 (by decide) (by omega) (by omega) (fun h0 => absurd h0 (by omega)) (fun _ => ?_)
                  refine px_aload_n dX10_addPort_126 rfl ?_
                  refine px_getR dX10_addPort_127 flX10_7 pv_s_model (by decide) (by decide) rfl pv_k_model pv_p_365_1 ?_
                  refine px_sipush (v := nI 324) dX10_addPort_130 (by decide) ?_
                  refine px_bipush (v := nI 10) dX10_addPort_133 (by decide) ?_
                  refine px_iload dX10_addPort_135 rfl ?_
                  refine px_imulN dX10_addPort_137 ?_
                  refine px_iaddN dX10_addPort_138 ?_
                  refine px_iload dX10_addPort_139 rfl ?_
                  refine px_iaddN dX10_addPort_141 ?_
                  refine px_aload_n dX10_addPort_142 rfl ?_
                  refine px_getR dX10_addPort_143 flX10_7 pv_s_model (by decide) (by decide) rfl pv_k_model pv_p_365_1 ?_
                  refine px_sipush (v := nI 324) dX10_addPort_146 (by decide) ?_
                  refine px_bipush (v := nI 10) dX10_addPort_149 (by decide) ?_
                  refine px_iload dX10_addPort_151 rfl ?_
                  refine px_imulN dX10_addPort_153 ?_
                  refine px_iaddN dX10_addPort_154 ?_
                  refine px_bipush (v := nI 10) dX10_addPort_155 (by decide) ?_
                  refine px_isubN (by omega) dX10_addPort_157 ?_
                  refine px_iload dX10_addPort_158 rfl ?_
                  refine px_iaddN dX10_addPort_160 ?_
                  refine px_iald (j := (((324 + (10 * m)) - 10) + i)) dX10_addPort_161 pv_a_z.1 rfl (by omega) pv_a_z.2.2 pv_a_z.2.1 ?_
                  refine px_iv (y := nI (T (324 + 10 * m - 10 + i))) ((hM3.1 (324 + 10 * m - 10 + i) (by omega) (by omega) (by omega)).trans (congrArg nI (pm_sh_rd (by omega)))) ?_
                  refine px_iast (j := ((324 + (10 * m)) + i)) dX10_addPort_162 pv_a_z.1 rfl (by omega) pv_a_z.2.2 pv_a_z.2.1 ?_
                  refine px_iincN (c := 1) (by decide) dX10_addPort_163 rfl (by decide) ?_
                  refine px_goto (tgt := 119) dX10_addPort_166 (by decide) ?_
                  refine px_keep [0, 1, 2, 3, 4, 5] ?_
                  have hM4 := MR_z hM3 (i := 324 + 10 * m + i) (v := T (324 + 10 * m - 10 + i)) (by omega) (by omega)
                  rw [pm_sh_up hi (by omega)] at hM4
                  exact K2 _ hM4 (fun k0 hk => (pv_uI_ne hk).trans (hF3 k0 hk))
              exact key3 0 (by omega) _ hM2 hF2
          refine px_istore dX10_addPort_88 (by decide) ?_
          refine px_keep [0, 1, 2, 3, 4] ?_
          exact key (T 407) hj0 I1 (by rw [pm_sh_0]; exact hM1) (fun _ _ => rfl) (Nat.le_refl _)
theorem c_X10_addPort {z : pv_Z} {E : pv_E} {d bc bs : Nat} {J : pv_JT} {I : pv_IT} {mi : pv_MI} {pc idx : Nat} {lv : pv_LV} {st : List Value} {T : pv_T} {L : List pv_Lot} {H : List pv_S} {B : List Nat} {n : Nat} {a0 b0 : Int32} (hd : decode mi.2.1 pc = .ok (.invokevirtual idx, 3)) (hlk : Cond.methodLink mi.1.cls idx mX10_addPort.1 ∈ pv_W) (hD : 8+1 ≤ d) (hMA : MA I ((T, L), H, B)) (hw : wx n ((T, L), H, B)) (hn : n ≤ 600) (hcat : (st.map fun v => v.category).sum ≤ 8) (K : pm_ok (pv_K z E d bc bs mi pc lv st) I J (po_addPort ((T, L), H, B) a0 b0)) : pv_X z E d bc bs mi pc lv (.int (b0) :: .int (a0) :: .ref (365) :: st) pv_K0 pv_P0 I J := by
  obtain ⟨d, rfl⟩ : ∃ d0, d = d0 + 1 := ⟨d - 1, by omega⟩
  have key := px_callV (bc := bc) (bs := bs) (bc1 := 0) (bs1 := 0) (as := [.int (a0), .int (b0)]) (E := E) (z := z) (lv := lv) hd mvX10_addPort hlk pv_s_model (by decide) rfl pv_k_model rfl rfl hcat (by exact Nat.le_of_ble_eq_true rfl) (s_X10_addPort (by omega) hMA hw hn K)
  rw [Nat.zero_add, Nat.zero_add] at key
  exact key
