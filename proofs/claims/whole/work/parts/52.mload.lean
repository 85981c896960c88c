/-! The reference: load. -/
set_option maxRecDepth 100000 in
set_option maxHeartbeats 4000000 in
theorem s_X10_firstError {Q : pv_Q} {E : pv_E} {d bc bs : Nat} {J : pv_JT} {I : pv_IT} {T : pv_T} {L : List pv_Lot} {H : List pv_S} {B : List Nat} {n : Nat} (hD : 8 ≤ d) (hMA : MA I ((T, L), H, B)) (hw : wx n ((T, L), H, B)) (hn : n ≤ 600) (h : pm_ok Q I J (po_first ((T, L), H, B) )) : pv_X (pv_ZQ E Q) E d bc bs mX10_firstError 0 [(0, .ref (365))] [] pv_K0 pv_P0 I J := by
  obtain ⟨hM, hS, hB⟩ := id hMA
  replace hM : MR (I 366) T L := hM
  replace hS : MSV I H := hS
  replace hB : MB I B := hB
  have hdy : dy (T, L) := hw.1.1
  have htb : tb T := hdy.1
  have hlb : lbs L := hdy.2.1
  have h31 : L.length ≤ 31 := hlb.1
  have h30 : L.length ≤ 30 := hw.1.2.1
  have h404 : T 404 ≤ 60 * n := hw.1.2.2.1
  have hn8 : T 405 ≤ 8 := htb.2.2.1
  have hp8 : T 407 ≤ 8 := htb.2.2.2.2.2.1.1
  have h10 : T 408 ≤ 10 := htb.2.2.2.2.2.2.2.1
  have hwk : wk (T, L) := ⟨hw.1.2.2.2.2.1, hw.1.2.2.2.2.2.1, hw.1.2.2.2.2.2.2⟩
  refine px_aload_n dX10_firstError_0 rfl ?_
  refine px_iconst (v := nI 0) dX10_firstError_1 (by decide) ?_
  refine px_putI dX10_firstError_2 fwX10_31 pv_s_model (by decide) (by decide) rfl pv_k_model ?_
  generalize hI1 : pv_uI I 365 0 (nI 0) = I1
  have hB1 : MB I1 B := MB_of hB (by rw [← hI1]; simp only [pv_uI_at]; rw [if_neg (by omega)]) (by rw [← hI1, pv_uI_ne (by omega)])
  have hS1 : MSV I1 H := MSV_of hS (by rw [← hI1]; simp only [pv_uI_at]; rw [if_neg (by omega)]) (by rw [← hI1, pv_uI_ne (by omega)])
  have hM1 : MR (I1 366) T L := by rw [← hI1, pv_uI_ne (by omega)]; exact hM
  have hT1 : I1 365 0 = nI 0 := by rw [← hI1, pv_uI_self, pk_us]
  have hK1 : ∀ k, k < 365 → I1 k = I k := fun k hk => by rw [← hI1, pv_uI_ne (by omega)]
  refine px_aload_n dX10_firstError_5 rfl ?_
  refine c_X10_rightLength dX10_firstError_6 mlX10_150 (by omega) hB1 (fun j hj => Nat.lt_trans (hw.2.2.2.2 j hj) (by omega)) (Nat.le_of_ble_eq_true rfl) (fun I2 hP2 hF2 => ?_)
  exact px_iret dX10_firstError_9 rfl (Or.inl rfl) (h I2 _ ⟨by rw [hF2.1 366 (by omega) (by omega) (by omega)]; exact hM1, MSV_of hS1 (hF2.2 3 (by omega) (by omega)) (hF2.1 368 (by omega) (by omega) (by omega)), MB_of hB1 (hF2.2 5 (by omega) (by omega)) (hF2.1 369 (by omega) (by omega) (by omega))⟩ (fun k hk => (hF2.1 k (by omega) (by omega) (by omega)).trans (hK1 k hk)) ((hF2.2 0 (by omega) (by omega)).trans hT1) (fun _ => rfl))
theorem c_X10_firstError {z : pv_Z} {E : pv_E} {d bc bs : Nat} {J : pv_JT} {I : pv_IT} {mi : pv_MI} {pc idx : Nat} {lv : pv_LV} {st : List Value} {T : pv_T} {L : List pv_Lot} {H : List pv_S} {B : List Nat} {n : Nat} (hd : decode mi.2.1 pc = .ok (.invokevirtual idx, 3)) (hlk : Cond.methodLink mi.1.cls idx mX10_firstError.1 ∈ pv_W) (hD : 8+1 ≤ d) (hMA : MA I ((T, L), H, B)) (hw : wx n ((T, L), H, B)) (hn : n ≤ 600) (hcat : (st.map fun v => v.category).sum ≤ 8) (K : pm_ok (pv_K z E d bc bs mi pc lv st) I J (po_first ((T, L), H, B) )) : pv_X z E d bc bs mi pc lv (.ref (365) :: st) pv_K0 pv_P0 I J := by
  obtain ⟨d, rfl⟩ : ∃ d0, d = d0 + 1 := ⟨d - 1, by omega⟩
  have key := px_callV (bc := bc) (bs := bs) (bc1 := 0) (bs1 := 0) (as := []) (E := E) (z := z) (lv := lv) hd mvX10_firstError hlk pv_s_model (by decide) rfl pv_k_model rfl rfl hcat (by exact Nat.le_of_ble_eq_true rfl) (s_X10_firstError (by omega) hMA hw hn K)
  rw [Nat.zero_add, Nat.zero_add] at key
  exact key
set_option maxRecDepth 100000 in
set_option maxHeartbeats 4000000 in
theorem s_X10_load {Q : pv_Q} {E : pv_E} {d bc bs : Nat} {J : pv_JT} {I : pv_IT} {T : pv_T} {L : List pv_Lot} {H : List pv_S} {B : List Nat} {n : Nat} (hD : 8 ≤ d) (hMA : MA I ((T, L), H, B)) (hw : wx n ((T, L), H, B)) (hn : n ≤ 600) (h : pm_ok Q I J (po_load ((T, L), H, B) )) : pv_X (pv_ZQ E Q) E d bc bs mX10_load 0 [(0, .ref (365))] [] pv_K0 pv_P0 I J := by
  obtain ⟨hM, hS, hB⟩ := id hMA
  replace hM : MR (I 366) T L := hM
  replace hS : MSV I H := hS
  replace hB : MB I B := hB
  have hdy : dy (T, L) := hw.1.1
  have htb : tb T := hdy.1
  have hlb : lbs L := hdy.2.1
  have h31 : L.length ≤ 31 := hlb.1
  have h30 : L.length ≤ 30 := hw.1.2.1
  have h404 : T 404 ≤ 60 * n := hw.1.2.2.1
  have hn8 : T 405 ≤ 8 := htb.2.2.1
  have hp8 : T 407 ≤ 8 := htb.2.2.2.2.2.1.1
  have h10 : T 408 ≤ 10 := htb.2.2.2.2.2.2.2.1
  have hwk : wk (T, L) := ⟨hw.1.2.2.2.2.1, hw.1.2.2.2.2.2.1, hw.1.2.2.2.2.2.2⟩
  refine px_aload_n dX10_load_0 rfl ?_
  refine c_X10_rightLength dX10_load_1 mlX10_150 (by omega) hB (fun j hj => Nat.lt_trans (hw.2.2.2.2 j hj) (by omega)) (Nat.le_of_ble_eq_true rfl) (fun I1 hP1 hF1 => ?_)
  have hMA1 : MA I1 ((T, L), H, B) := ⟨by rw [hF1.1 366 (by omega) (by omega) (by omega)]; exact hM, MSV_of hS (hF1.2 3 (by omega) (by omega)) (hF1.1 368 (by omega) (by omega) (by omega)), MB_of hB (hF1.2 5 (by omega) (by omega)) (hF1.1 369 (by omega) (by omega) (by omega))⟩
  replace h := pm_mv h (fun k hk => hF1.1 k (by omega) (by omega) (by omega))
  clear hMA hM hS hB hF1
  obtain ⟨I, hI⟩ : ∃ I, I = I1 := ⟨_, rfl⟩
  subst hI
  have hMA := hMA1
  obtain ⟨hM, hS, hB⟩ := id hMA
  replace hM : MR (I 366) T L := hM
  replace hS : MSV I H := hS
  replace hB : MB I B := hB
  have h60 := hB.2.1
  have hle : pz_err (bf B) B.length ≤ B.length := by
    unfold pz_err
    cases e : pf_first (fun j => (pz_run (bf B) (j + 1)).isNone) B.length with
    | none => exact Nat.le_refl _
    | some j => exact Nat.le_of_lt (pf_is e).1
  refine px_aload_n dX10_load_4 rfl ?_
  refine px_getI dX10_load_5 flX10_144 pv_s_model (by decide) (by decide) rfl pv_k_model ?_
  refine px_iv (y := nI (B.length)) (hB.1) ?_
  refine px_icmp_neN (tgt := 40) dX10_load_8 (by decide) (by omega) (by omega) (fun h5 => ?_) (fun h5 => ?_)
  · have hnone : pz_run (bf B) B.length = none := by
      unfold pz_err at h5
      cases e : pf_first (fun j => (pz_run (bf B) (j + 1)).isNone) B.length with
      | none => rw [e] at h5; exact absurd h5 (fun z => z rfl)
      | some j =>
        have hj := pf_is e
        have hj1 := hj.1
        have hj2 : pz_run (bf B) (j + 1) = none := Option.isNone_iff_eq_none.mp hj.2.1
        have := pz_run_none hj2 (B.length - (j + 1))
        rw [show j + 1 + (B.length - (j + 1)) = B.length by omega] at this
        exact this
    have hr : po_load ((T, L), H, B) = (1, 0, ((T, L), H, B)) := by
      unfold po_load
      show (match pz_run (bf B) B.length with
        | some Z => po_loadZ ((T, L), H, B) Z
        | none => (1, 0, ((T, L), H, B))) = _
      rw [hnone]
    rw [hr] at h
    refine px_iconst (v := nI 0) dX10_load_40 (by decide) ?_
    refine px_istore_n dX10_load_41 (by decide) ?_
    refine px_aload_n dX10_load_42 rfl ?_
    refine px_iload_n dX10_load_43 rfl ?_
    refine px_if_neN (tgt := 51) dX10_load_44 (by decide) (by omega) (fun h0 => absurd h0 (by omega)) (fun _ => ?_)
    refine px_iconst (v := nI 1) dX10_load_47 (by decide) ?_
    refine px_goto (tgt := 63) dX10_load_48 (by decide) ?_
    refine px_putI dX10_load_63 fwX10_31 pv_s_model (by decide) (by decide) rfl pv_k_model ?_
    refine px_aload_n dX10_load_66 rfl ?_
    refine px_getI dX10_load_67 flX10_31 pv_s_model (by decide) (by decide) rfl pv_k_model ?_
    refine px_iv (y := nI (1)) (by simp [pv_uI_at]) ?_
    refine px_if_leN (tgt := 75) dX10_load_70 (by decide) (by omega) (fun h0 => absurd h0 (by omega)) (fun _ => ?_)
    refine px_iconst (v := nI 0) dX10_load_73 (by decide) ?_
    exact px_iret dX10_load_74 rfl (Or.inl rfl) (pm_exc (by exact h) hMA)
  · have hsome : ∃ Z, pz_run (bf B) B.length = some Z := by
      cases e : pz_run (bf B) B.length with
      | some Z => exact ⟨Z, rfl⟩
      | none =>
        exfalso
        rcases Nat.eq_zero_or_pos B.length with e0 | e0
        · rw [e0] at e; cases e
        · unfold pz_err at h5
          cases e1 : pf_first (fun j => (pz_run (bf B) (j + 1)).isNone) B.length with
          | none =>
            have := pf_isnone e1 (B.length - 1) (by omega)
            rw [show B.length - 1 + 1 = B.length by omega, e] at this
            cases this
          | some j =>
            have hj := (pf_is e1).1
            rw [e1] at h5
            replace h5 : j = B.length := h5
            omega
    obtain ⟨Z, hZ⟩ := hsome
    have hP := hP1 Z hZ
    have hg := pz_run_ok hZ
    have hr : po_load ((T, L), H, B) = po_loadZ ((T, L), H, B) Z := by
      unfold po_load
      show (match pz_run (bf B) B.length with
        | some Z => po_loadZ ((T, L), H, B) Z
        | none => (1, 0, ((T, L), H, B))) = _
      rw [hZ]
    rw [hr] at h
    unfold po_loadZ at h
    have z1 := hg.1.1
    have z4 := hg.1.2.2.2.1
    have z2 := hg.1.2.1
    have mainB : ¬ (Z.1 = 1 ∨ Z.1 = 5 ∨ Z.1 = 7) → pv_X (pv_ZQ E Q) E d bc bs mX10_load 42 [(0, .ref 365), (1, .int (nI 0))] [] pv_K0 pv_P0 I J := by
      intro hwz
      refine px_aload_n dX10_load_42 rfl ?_
      refine px_iload_n dX10_load_43 rfl ?_
      refine px_if_neN (tgt := 51) dX10_load_44 (by decide) (by omega) (fun h0 => absurd h0 (by omega)) (fun _ => ?_)
      refine px_iconst (v := nI 1) dX10_load_47 (by decide) ?_
      refine px_goto (tgt := 63) dX10_load_48 (by decide) ?_
      refine px_putI dX10_load_63 fwX10_31 pv_s_model (by decide) (by decide) rfl pv_k_model ?_
      refine px_aload_n dX10_load_66 rfl ?_
      refine px_getI dX10_load_67 flX10_31 pv_s_model (by decide) (by decide) rfl pv_k_model ?_
      refine px_iv (y := nI (1)) (by simp [pv_uI_at]) ?_
      refine px_if_leN (tgt := 75) dX10_load_70 (by decide) (by omega) (fun h0 => absurd h0 (by omega)) (fun _ => ?_)
      refine px_iconst (v := nI 0) dX10_load_73 (by decide) ?_
      exact px_iret dX10_load_74 rfl (Or.inl rfl) (pm_exc (by rw [if_neg hwz] at h; exact h) hMA)
    have mainW : (Z.1 = 1 ∨ Z.1 = 5 ∨ Z.1 = 7) → pv_X (pv_ZQ E Q) E d bc bs mX10_load 42 [(0, .ref 365), (1, .int (nI 1))] [] pv_K0 pv_P0 I J := by
      intro hwz
      rw [if_pos hwz] at h
      refine px_aload_n dX10_load_42 rfl ?_
      refine px_iload_n dX10_load_43 rfl ?_
      refine px_if_neN (tgt := 51) dX10_load_44 (by decide) (by omega) (fun _ => ?_) (fun h0 => absurd h0 (by omega))
      refine px_aload_n dX10_load_51 rfl ?_
      refine c_X10_areKinds dX10_load_52 mlX10_153 (by omega) hM hn8 hP hg hwz (Nat.le_of_ble_eq_true rfl) ?_
      refine px_if_eqB (tgt := 62) dX10_load_55 (by decide) (fun h6 => ?_) (fun h6 => ?_)
      · refine px_iconst (v := nI 2) dX10_load_62 (by decide) ?_
        refine px_putI dX10_load_63 fwX10_31 pv_s_model (by decide) (by decide) rfl pv_k_model ?_
        refine px_aload_n dX10_load_66 rfl ?_
        refine px_getI dX10_load_67 flX10_31 pv_s_model (by decide) (by decide) rfl pv_k_model ?_
        refine px_iv (y := nI (2)) (by simp [pv_uI_at]) ?_
        refine px_if_leN (tgt := 75) dX10_load_70 (by decide) (by omega) (fun h0 => absurd h0 (by omega)) (fun _ => ?_)
        refine px_iconst (v := nI 0) dX10_load_73 (by decide) ?_
        exact px_iret dX10_load_74 rfl (Or.inl rfl) (pm_exc (by rw [if_neg (show ¬ Z.2.2.2.1 ≤ T 405 from h6)] at h; exact h) hMA)
      · refine px_iconst (v := nI 0) dX10_load_58 (by decide) ?_
        refine px_goto (tgt := 63) dX10_load_59 (by decide) ?_
        refine px_putI dX10_load_63 fwX10_31 pv_s_model (by decide) (by decide) rfl pv_k_model ?_
        refine px_aload_n dX10_load_66 rfl ?_
        refine px_getI dX10_load_67 flX10_31 pv_s_model (by decide) (by decide) rfl pv_k_model ?_
        refine px_iv (y := nI (0)) (by simp [pv_uI_at]) ?_
        refine px_if_leN (tgt := 75) dX10_load_70 (by decide) (by omega) (fun _ => ?_) (fun h0 => absurd h0 (by omega))
        obtain ⟨I0, hI0⟩ : ∃ I0, I0 = pv_uI I 365 0 (nI 0) := ⟨_, rfl⟩
        rw [← hI0]
        obtain ⟨hM0, hS0, hB0, hT0, hK0, hF0, hG0⟩ := pm_zero hM hS hB hI0
        refine px_aload_n dX10_load_75 rfl ?_
        refine c_X10_save dX10_load_76 mlX10_50 (by omega) hM0 hS0 (Nat.le_of_ble_eq_true rfl) (fun I1 hS1 hF1 hG1 => ?_)
        obtain ⟨hM1, hB1, hT1, hK1⟩ := pm_saved hM0 hB0 hT0 hK0 hF1 hG1
        have hP2 : MP I1 Z := by
          refine MP_of hP ?_ ?_ ?_ ?_
          · exact (hG1 10 (by omega)).trans (hG0 10 (by omega))
          · exact (hG1 11 (by omega)).trans (hG0 11 (by omega))
          · exact (hF1 371 (by omega) (by omega)).trans (hF0 371 (by omega))
          · exact (hF1 372 (by omega) (by omega)).trans (hF0 372 (by omega))
        clear hP hP1 hM0 hB0 hS0
        have hin := hg.1.2.2.2.2.2.2.1
        have hM1b := hM1
        refine px_iconst (v := nI 0) dX10_load_79 (by decide) ?_
        refine px_istore_n dX10_load_80 (by decide) ?_
        have keyO : ∀ m : Nat, m ≤ Z.2.1 + 1 → ∀ I2 : pv_IT, MR (I2 366) (mq T Z.2.2.2.2 (m) 0 0) L → (∀ k0 : Nat, k0 ≠ 366 → I2 k0 = I1 k0) → pv_X (pv_ZQ E Q) E d bc bs mX10_load 81 [(0, .ref 365), (1, .int (nI 1)), (2, .int (nI (m)))] [] pv_K0 pv_P0 (I2) (J) := by
          refine pv_up (Z.2.1 + 1) ?_ ?_
          · intro I2 hM2 hF2
            refine px_iload_n dX10_load_81 rfl ?_
            refine px_aload_n dX10_load_82 rfl ?_
            refine px_getI dX10_load_83 flX10_132 pv_s_model (by decide) (by decide) rfl pv_k_model ?_
            refine px_iv (y := nI (Z.2.1)) ((congrFun (hF2 365 (by omega)) 10).trans hP2.1) ?_
            refine px_icmp_gtN (tgt := 157) dX10_load_86 (by decide) (by omega) (by omega) (fun _ => ?_) (fun h0 => absurd h0 (by omega))
            refine px_aload_n dX10_load_157 rfl ?_
            refine px_getR dX10_load_158 flX10_7 pv_s_model (by decide) (by decide) rfl pv_k_model pv_p_365_1 ?_
            refine px_sipush (v := nI 408) dX10_load_161 (by decide) ?_
            refine px_aload_n dX10_load_164 rfl ?_
            refine px_getI dX10_load_165 flX10_132 pv_s_model (by decide) (by decide) rfl pv_k_model ?_
            refine px_iv (y := nI (Z.2.1)) ((congrFun (hF2 365 (by omega)) 10).trans hP2.1) ?_
            refine px_iconst (v := nI 1) dX10_load_168 (by decide) ?_
            refine px_iaddN dX10_load_169 ?_
            refine px_iast (j := 408) dX10_load_170 pv_a_z.1 rfl (by omega) pv_a_z.2.2 pv_a_z.2.1 ?_
            have hM3 := MR_z hM2 (i := 408) (v := Z.2.1 + 1) (by omega) (by omega)
            rw [mq_end] at hM3
            have hF3 : ∀ k0 : Nat, k0 ≠ 366 → (pv_uI I2 366 408 (nI (Z.2.1 + 1))) k0 = I1 k0 := fun k0 hk => (pv_uI_ne hk).trans (hF2 k0 hk)
            generalize pv_uI I2 366 408 (nI (Z.2.1 + 1)) = I3 at hM3 hF3 ⊢
            refine px_aload_n dX10_load_171 rfl ?_
            refine px_iconst (v := nI 0) dX10_load_172 (by decide) ?_
            refine px_putI dX10_load_173 fwX10_144 pv_s_model (by decide) (by decide) rfl pv_k_model ?_
            refine px_aload_n dX10_load_176 rfl ?_
            refine px_getI dX10_load_177 flX10_132 pv_s_model (by decide) (by decide) rfl pv_k_model ?_
            refine px_iv (y := nI (Z.2.1)) ((by simp only [pv_uI_at]; rw [if_neg (by omega)]; exact (congrFun (hF3 365 (by omega)) 10).trans hP2.1)) ?_
            refine px_iconst (v := nI 1) dX10_load_180 (by decide) ?_
            refine px_iaddN dX10_load_181 ?_
            rw [if_pos (show Z.2.2.2.1 ≤ T 405 from h6)] at h
            refine px_iret dX10_load_182 rfl (Or.inl rfl) (h _ _ ⟨?_, MSV_of hS1 ?_ ?_, ?_, Nat.zero_le _, fun j hj => absurd hj (Nat.not_lt_zero _)⟩ (fun k hk => ?_) ?_ (fun _ => rfl))
            · rw [pv_uI_ne (by omega)]; exact hM3
            · simp only [pv_uI_at]; rw [if_neg (by omega), hF3 365 (by omega)]
            · rw [pv_uI_ne (by omega), hF3 368 (by omega)]
            · simp only [pv_uI_at]; rw [if_pos (by simp)]; rfl
            · rw [pv_uI_ne (by omega), hF3 k (by omega)]; exact hK1 k hk
            · simp only [pv_uI_at]; rw [if_neg (by omega), hF3 365 (by omega)]; exact hT1
          · intro m hi K I2 hM2 hF2
            have KO := K
            clear K
            have hin4 := (hin m (by omega)).1
            refine px_iload_n dX10_load_81 rfl ?_
            refine px_aload_n dX10_load_82 rfl ?_
            refine px_getI dX10_load_83 flX10_132 pv_s_model (by decide) (by decide) rfl pv_k_model ?_
            refine px_iv (y := nI (Z.2.1)) ((congrFun (hF2 365 (by omega)) 10).trans hP2.1) ?_
            refine px_icmp_gtN (tgt := 157) dX10_load_86 (by decide) (by omega) (by omega) (fun h0 => absurd h0 (by omega)) (fun _ => ?_)
            refine px_aload_n dX10_load_89 rfl ?_
            refine px_getR dX10_load_90 flX10_7 pv_s_model (by decide) (by decide) rfl pv_k_model pv_p_365_1 ?_
            refine px_sipush (v := nI 314) dX10_load_93 (by decide) ?_
            refine px_iload_n dX10_load_96 rfl ?_
            refine px_iaddN dX10_load_97 ?_
            refine px_aload_n dX10_load_98 rfl ?_
            refine px_getR dX10_load_99 flX10_28 pv_s_model (by decide) (by decide) rfl pv_k_model pv_p_365_9 ?_
            refine px_iload_n dX10_load_102 rfl ?_
            refine px_iald (j := m) dX10_load_103 pv_a_itof.1 rfl (by omega) pv_a_itof.2.2 pv_a_itof.2.1 ?_
            refine px_iv (y := nI (Z.2.2.2.2 (120 + m))) ((congrFun (hF2 372 (by omega)) m).trans (hP2.2.2.1 m (by omega))) ?_
            refine px_iast (j := (314 + m)) dX10_load_104 pv_a_z.1 rfl (by omega) pv_a_z.2.2 pv_a_z.2.1 ?_
            have hM3 := MR_z hM2 (i := 314 + m) (v := Z.2.2.2.2 (120 + m)) (by omega) (by omega)
            rw [mq_len] at hM3
            have hF3 : ∀ k0 : Nat, k0 ≠ 366 → (pv_uI I2 366 (314 + m) (nI (Z.2.2.2.2 (120 + m)))) k0 = I1 k0 := fun k0 hk => (pv_uI_ne hk).trans (hF2 k0 hk)
            generalize pv_uI I2 366 (314 + m) (nI (Z.2.2.2.2 (120 + m))) = I3 at hM3 hF3 ⊢
            refine px_iconst (v := nI 0) dX10_load_105 (by decide) ?_
            refine px_istore_n dX10_load_106 (by decide) ?_
            have keyI : ∀ i : Nat, i ≤ 3 * Z.2.2.2.2 (120 + m) → ∀ I2 : pv_IT, MR (I2 366) (mq T Z.2.2.2.2 m 1 (i)) L → (∀ k0 : Nat, k0 ≠ 366 → I2 k0 = I1 k0) → pv_X (pv_ZQ E Q) E d bc bs mX10_load 107 [(0, .ref 365), (1, .int (nI 1)), (2, .int (nI m)), (3, .int (nI (i)))] [] pv_K0 pv_P0 (I2) (J) := by
              refine pv_up (3 * Z.2.2.2.2 (120 + m)) ?_ ?_
              · intro I4 hM4 hF4
                refine px_iload_n dX10_load_107 rfl ?_
                refine px_iconst (v := nI 3) dX10_load_108 (by decide) ?_
                refine px_aload_n dX10_load_109 rfl ?_
                refine px_getR dX10_load_110 flX10_28 pv_s_model (by decide) (by decide) rfl pv_k_model pv_p_365_9 ?_
                refine px_iload_n dX10_load_113 rfl ?_
                refine px_iald (j := m) dX10_load_114 pv_a_itof.1 rfl (by omega) pv_a_itof.2.2 pv_a_itof.2.1 ?_
                refine px_iv (y := nI (Z.2.2.2.2 (120 + m))) ((congrFun (hF4 372 (by omega)) m).trans (hP2.2.2.1 m (by omega))) ?_
                refine px_imulN dX10_load_115 ?_
                refine px_icmp_geN (tgt := 151) dX10_load_116 (by decide) (by omega) (by omega) (fun _ => ?_) (fun h0 => absurd h0 (by omega))
                refine px_iincN (c := 1) (by decide) dX10_load_151 rfl (by decide) ?_
                refine px_goto (tgt := 81) dX10_load_154 (by decide) ?_
                refine px_keep [0, 1, 2] ?_
                rw [mq_next] at hM4
                exact KO I4 hM4 hF4
              · intro i hi K I4 hM4 hF4
                refine px_iload_n dX10_load_107 rfl ?_
                refine px_iconst (v := nI 3) dX10_load_108 (by decide) ?_
                refine px_aload_n dX10_load_109 rfl ?_
                refine px_getR dX10_load_110 flX10_28 pv_s_model (by decide) (by decide) rfl pv_k_model pv_p_365_9 ?_
                refine px_iload_n dX10_load_113 rfl ?_
                refine px_iald (j := m) dX10_load_114 pv_a_itof.1 rfl (by omega) pv_a_itof.2.2 pv_a_itof.2.1 ?_
                refine px_iv (y := nI (Z.2.2.2.2 (120 + m))) ((congrFun (hF4 372 (by omega)) m).trans (hP2.2.2.1 m (by omega))) ?_
                refine px_imulN dX10_load_115 ?_
                refine px_icmp_geN (tgt := 151) dX10_load_116 (by decide) (by omega) (by omega) (fun h0 => absurd h0 (by omega)) (fun _ => ?_)
                refine px_aload_n dX10_load_119 rfl ?_
                refine px_getR dX10_load_120 flX10_7 pv_s_model (by decide) (by decide) rfl pv_k_model pv_p_365_1 ?_
                refine px_sipush (v := nI 194) dX10_load_123 (by decide) ?_
                refine px_bipush (v := nI 12) dX10_load_126 (by decide) ?_
                refine px_iload_n dX10_load_128 rfl ?_
                refine px_imulN dX10_load_129 ?_
                refine px_iaddN dX10_load_130 ?_
                refine px_iload_n dX10_load_131 rfl ?_
                refine px_iaddN dX10_load_132 ?_
                refine px_aload_n dX10_load_133 rfl ?_
                refine px_getR dX10_load_134 flX10_25 pv_s_model (by decide) (by decide) rfl pv_k_model pv_p_365_8 ?_
                refine px_bipush (v := nI 12) dX10_load_137 (by decide) ?_
                refine px_iload_n dX10_load_139 rfl ?_
                refine px_imulN dX10_load_140 ?_
                refine px_iload_n dX10_load_141 rfl ?_
                refine px_iaddN dX10_load_142 ?_
                refine px_iald (j := ((12 * m) + i)) dX10_load_143 pv_a_items.1 rfl (by omega) pv_a_items.2.2 pv_a_items.2.1 ?_
                refine px_iv (y := nI (Z.2.2.2.2 (12 * m + i))) ((congrFun (hF4 371 (by omega)) _).trans (MP_cell hP2 (by omega) hi)) ?_
                refine px_iast (j := ((194 + (12 * m)) + i)) dX10_load_144 pv_a_z.1 rfl (by omega) pv_a_z.2.2 pv_a_z.2.1 ?_
                refine px_iincN (c := 1) (by decide) dX10_load_145 rfl (by decide) ?_
                refine px_goto (tgt := 107) dX10_load_148 (by decide) ?_
                refine px_keep [0, 1, 2, 3] ?_
                have hM5 := MR_z hM4 (i := 194 + 12 * m + i) (v := Z.2.2.2.2 (12 * m + i)) (by omega) (by omega)
                rw [mq_up (by omega) (by omega)] at hM5
                exact K _ hM5 (fun k0 hk => (pv_uI_ne hk).trans (hF4 k0 hk))
            refine px_keep [0, 1, 2, 3] ?_
            exact keyI 0 (by omega) _ hM3 hF3
        refine px_keep [0, 1, 2] ?_
        exact keyO 0 (by omega) I1 (by rw [mq_0]; exact hM1) (fun _ _ => rfl)
    rcases (by omega : Z.1 = 0 ∨ Z.1 = 1 ∨ Z.1 = 2 ∨ Z.1 = 3 ∨ Z.1 = 4 ∨ Z.1 = 5 ∨ Z.1 = 6 ∨ Z.1 = 7) with e | e | e | e | e | e | e | e
    · have hd : I 365 11 = nI 0 := by rw [hP.2.1, e]; rfl
      refine px_aload_n dX10_load_11 rfl ?_
      refine px_getI dX10_load_12 flX10_135 pv_s_model (by decide) (by decide) rfl pv_k_model ?_
      refine px_iv (y := nI (0)) (hd) ?_
      refine px_iconst (v := nI 3) dX10_load_15 (by decide) ?_
      refine px_icmp_eqN (tgt := 36) dX10_load_16 (by decide) (by omega) (by omega) (fun h0 => absurd h0 (by omega)) (fun _ => ?_)
      refine px_aload_n dX10_load_19 rfl ?_
      refine px_getI dX10_load_20 flX10_135 pv_s_model (by decide) (by decide) rfl pv_k_model ?_
      refine px_iv (y := nI (0)) (hd) ?_
      refine px_iconst (v := nI 5) dX10_load_23 (by decide) ?_
      refine px_icmp_eqN (tgt := 36) dX10_load_24 (by decide) (by omega) (by omega) (fun h0 => absurd h0 (by omega)) (fun _ => ?_)
      refine px_aload_n dX10_load_27 rfl ?_
      refine px_getI dX10_load_28 flX10_135 pv_s_model (by decide) (by decide) rfl pv_k_model ?_
      refine px_iv (y := nI (0)) (hd) ?_
      refine px_bipush (v := nI 6) dX10_load_31 (by decide) ?_
      refine px_icmp_neN (tgt := 40) dX10_load_33 (by decide) (by omega) (by omega) (fun _ => ?_) (fun h0 => absurd h0 (by omega))
      refine px_iconst (v := nI 0) dX10_load_40 (by decide) ?_
      refine px_istore_n dX10_load_41 (by decide) ?_
      exact mainB (by omega)
    · have hd : I 365 11 = nI 6 := by rw [hP.2.1, e]; rfl
      refine px_aload_n dX10_load_11 rfl ?_
      refine px_getI dX10_load_12 flX10_135 pv_s_model (by decide) (by decide) rfl pv_k_model ?_
      refine px_iv (y := nI (6)) (hd) ?_
      refine px_iconst (v := nI 3) dX10_load_15 (by decide) ?_
      refine px_icmp_eqN (tgt := 36) dX10_load_16 (by decide) (by omega) (by omega) (fun h0 => absurd h0 (by omega)) (fun _ => ?_)
      refine px_aload_n dX10_load_19 rfl ?_
      refine px_getI dX10_load_20 flX10_135 pv_s_model (by decide) (by decide) rfl pv_k_model ?_
      refine px_iv (y := nI (6)) (hd) ?_
      refine px_iconst (v := nI 5) dX10_load_23 (by decide) ?_
      refine px_icmp_eqN (tgt := 36) dX10_load_24 (by decide) (by omega) (by omega) (fun h0 => absurd h0 (by omega)) (fun _ => ?_)
      refine px_aload_n dX10_load_27 rfl ?_
      refine px_getI dX10_load_28 flX10_135 pv_s_model (by decide) (by decide) rfl pv_k_model ?_
      refine px_iv (y := nI (6)) (hd) ?_
      refine px_bipush (v := nI 6) dX10_load_31 (by decide) ?_
      refine px_icmp_neN (tgt := 40) dX10_load_33 (by decide) (by omega) (by omega) (fun h0 => absurd h0 (by omega)) (fun _ => ?_)
      refine px_iconst (v := nI 1) dX10_load_36 (by decide) ?_
      refine px_goto (tgt := 41) dX10_load_37 (by decide) ?_
      refine px_istore_n dX10_load_41 (by decide) ?_
      exact mainW (by omega)
    · have hd : I 365 11 = nI 7 := by rw [hP.2.1, e]; rfl
      refine px_aload_n dX10_load_11 rfl ?_
      refine px_getI dX10_load_12 flX10_135 pv_s_model (by decide) (by decide) rfl pv_k_model ?_
      refine px_iv (y := nI (7)) (hd) ?_
      refine px_iconst (v := nI 3) dX10_load_15 (by decide) ?_
      refine px_icmp_eqN (tgt := 36) dX10_load_16 (by decide) (by omega) (by omega) (fun h0 => absurd h0 (by omega)) (fun _ => ?_)
      refine px_aload_n dX10_load_19 rfl ?_
      refine px_getI dX10_load_20 flX10_135 pv_s_model (by decide) (by decide) rfl pv_k_model ?_
      refine px_iv (y := nI (7)) (hd) ?_
      refine px_iconst (v := nI 5) dX10_load_23 (by decide) ?_
      refine px_icmp_eqN (tgt := 36) dX10_load_24 (by decide) (by omega) (by omega) (fun h0 => absurd h0 (by omega)) (fun _ => ?_)
      refine px_aload_n dX10_load_27 rfl ?_
      refine px_getI dX10_load_28 flX10_135 pv_s_model (by decide) (by decide) rfl pv_k_model ?_
      refine px_iv (y := nI (7)) (hd) ?_
      refine px_bipush (v := nI 6) dX10_load_31 (by decide) ?_
      refine px_icmp_neN (tgt := 40) dX10_load_33 (by decide) (by omega) (by omega) (fun _ => ?_) (fun h0 => absurd h0 (by omega))
      refine px_iconst (v := nI 0) dX10_load_40 (by decide) ?_
      refine px_istore_n dX10_load_41 (by decide) ?_
      exact mainB (by omega)
    · have hd : I 365 11 = nI 1 := by rw [hP.2.1, e]; rfl
      refine px_aload_n dX10_load_11 rfl ?_
      refine px_getI dX10_load_12 flX10_135 pv_s_model (by decide) (by decide) rfl pv_k_model ?_
      refine px_iv (y := nI (1)) (hd) ?_
      refine px_iconst (v := nI 3) dX10_load_15 (by decide) ?_
      refine px_icmp_eqN (tgt := 36) dX10_load_16 (by decide) (by omega) (by omega) (fun h0 => absurd h0 (by omega)) (fun _ => ?_)
      refine px_aload_n dX10_load_19 rfl ?_
      refine px_getI dX10_load_20 flX10_135 pv_s_model (by decide) (by decide) rfl pv_k_model ?_
      refine px_iv (y := nI (1)) (hd) ?_
      refine px_iconst (v := nI 5) dX10_load_23 (by decide) ?_
      refine px_icmp_eqN (tgt := 36) dX10_load_24 (by decide) (by omega) (by omega) (fun h0 => absurd h0 (by omega)) (fun _ => ?_)
      refine px_aload_n dX10_load_27 rfl ?_
      refine px_getI dX10_load_28 flX10_135 pv_s_model (by decide) (by decide) rfl pv_k_model ?_
      refine px_iv (y := nI (1)) (hd) ?_
      refine px_bipush (v := nI 6) dX10_load_31 (by decide) ?_
      refine px_icmp_neN (tgt := 40) dX10_load_33 (by decide) (by omega) (by omega) (fun _ => ?_) (fun h0 => absurd h0 (by omega))
      refine px_iconst (v := nI 0) dX10_load_40 (by decide) ?_
      refine px_istore_n dX10_load_41 (by decide) ?_
      exact mainB (by omega)
    · have hd : I 365 11 = nI 2 := by rw [hP.2.1, e]; rfl
      refine px_aload_n dX10_load_11 rfl ?_
      refine px_getI dX10_load_12 flX10_135 pv_s_model (by decide) (by decide) rfl pv_k_model ?_
      refine px_iv (y := nI (2)) (hd) ?_
      refine px_iconst (v := nI 3) dX10_load_15 (by decide) ?_
      refine px_icmp_eqN (tgt := 36) dX10_load_16 (by decide) (by omega) (by omega) (fun h0 => absurd h0 (by omega)) (fun _ => ?_)
      refine px_aload_n dX10_load_19 rfl ?_
      refine px_getI dX10_load_20 flX10_135 pv_s_model (by decide) (by decide) rfl pv_k_model ?_
      refine px_iv (y := nI (2)) (hd) ?_
      refine px_iconst (v := nI 5) dX10_load_23 (by decide) ?_
      refine px_icmp_eqN (tgt := 36) dX10_load_24 (by decide) (by omega) (by omega) (fun h0 => absurd h0 (by omega)) (fun _ => ?_)
      refine px_aload_n dX10_load_27 rfl ?_
      refine px_getI dX10_load_28 flX10_135 pv_s_model (by decide) (by decide) rfl pv_k_model ?_
      refine px_iv (y := nI (2)) (hd) ?_
      refine px_bipush (v := nI 6) dX10_load_31 (by decide) ?_
      refine px_icmp_neN (tgt := 40) dX10_load_33 (by decide) (by omega) (by omega) (fun _ => ?_) (fun h0 => absurd h0 (by omega))
      refine px_iconst (v := nI 0) dX10_load_40 (by decide) ?_
      refine px_istore_n dX10_load_41 (by decide) ?_
      exact mainB (by omega)
    · have hd : I 365 11 = nI 3 := by rw [hP.2.1, e]; rfl
      refine px_aload_n dX10_load_11 rfl ?_
      refine px_getI dX10_load_12 flX10_135 pv_s_model (by decide) (by decide) rfl pv_k_model ?_
      refine px_iv (y := nI (3)) (hd) ?_
      refine px_iconst (v := nI 3) dX10_load_15 (by decide) ?_
      refine px_icmp_eqN (tgt := 36) dX10_load_16 (by decide) (by omega) (by omega) (fun _ => ?_) (fun h0 => absurd h0 (by omega))
      refine px_iconst (v := nI 1) dX10_load_36 (by decide) ?_
      refine px_goto (tgt := 41) dX10_load_37 (by decide) ?_
      refine px_istore_n dX10_load_41 (by decide) ?_
      exact mainW (by omega)
    · have hd : I 365 11 = nI 4 := by rw [hP.2.1, e]; rfl
      refine px_aload_n dX10_load_11 rfl ?_
      refine px_getI dX10_load_12 flX10_135 pv_s_model (by decide) (by decide) rfl pv_k_model ?_
      refine px_iv (y := nI (4)) (hd) ?_
      refine px_iconst (v := nI 3) dX10_load_15 (by decide) ?_
      refine px_icmp_eqN (tgt := 36) dX10_load_16 (by decide) (by omega) (by omega) (fun h0 => absurd h0 (by omega)) (fun _ => ?_)
      refine px_aload_n dX10_load_19 rfl ?_
      refine px_getI dX10_load_20 flX10_135 pv_s_model (by decide) (by decide) rfl pv_k_model ?_
      refine px_iv (y := nI (4)) (hd) ?_
      refine px_iconst (v := nI 5) dX10_load_23 (by decide) ?_
      refine px_icmp_eqN (tgt := 36) dX10_load_24 (by decide) (by omega) (by omega) (fun h0 => absurd h0 (by omega)) (fun _ => ?_)
      refine px_aload_n dX10_load_27 rfl ?_
      refine px_getI dX10_load_28 flX10_135 pv_s_model (by decide) (by decide) rfl pv_k_model ?_
      refine px_iv (y := nI (4)) (hd) ?_
      refine px_bipush (v := nI 6) dX10_load_31 (by decide) ?_
      refine px_icmp_neN (tgt := 40) dX10_load_33 (by decide) (by omega) (by omega) (fun _ => ?_) (fun h0 => absurd h0 (by omega))
      refine px_iconst (v := nI 0) dX10_load_40 (by decide) ?_
      refine px_istore_n dX10_load_41 (by decide) ?_
      exact mainB (by omega)
    · have hd : I 365 11 = nI 5 := by rw [hP.2.1, e]; rfl
      refine px_aload_n dX10_load_11 rfl ?_
      refine px_getI dX10_load_12 flX10_135 pv_s_model (by decide) (by decide) rfl pv_k_model ?_
      refine px_iv (y := nI (5)) (hd) ?_
      refine px_iconst (v := nI 3) dX10_load_15 (by decide) ?_
      refine px_icmp_eqN (tgt := 36) dX10_load_16 (by decide) (by omega) (by omega) (fun h0 => absurd h0 (by omega)) (fun _ => ?_)
      refine px_aload_n dX10_load_19 rfl ?_
      refine px_getI dX10_load_20 flX10_135 pv_s_model (by decide) (by decide) rfl pv_k_model ?_
      refine px_iv (y := nI (5)) (hd) ?_
      refine px_iconst (v := nI 5) dX10_load_23 (by decide) ?_
      refine px_icmp_eqN (tgt := 36) dX10_load_24 (by decide) (by omega) (by omega) (fun _ => ?_) (fun h0 => absurd h0 (by omega))
      refine px_iconst (v := nI 1) dX10_load_36 (by decide) ?_
      refine px_goto (tgt := 41) dX10_load_37 (by decide) ?_
      refine px_istore_n dX10_load_41 (by decide) ?_
      exact mainW (by omega)
theorem c_X10_load {z : pv_Z} {E : pv_E} {d bc bs : Nat} {J : pv_JT} {I : pv_IT} {mi : pv_MI} {pc idx : Nat} {lv : pv_LV} {st : List Value} {T : pv_T} {L : List pv_Lot} {H : List pv_S} {B : List Nat} {n : Nat} (hd : decode mi.2.1 pc = .ok (.invokevirtual idx, 3)) (hlk : Cond.methodLink mi.1.cls idx mX10_load.1 ∈ pv_W) (hD : 8+1 ≤ d) (hMA : MA I ((T, L), H, B)) (hw : wx n ((T, L), H, B)) (hn : n ≤ 600) (hcat : (st.map fun v => v.category).sum ≤ 8) (K : pm_ok (pv_K z E d bc bs mi pc lv st) I J (po_load ((T, L), H, B) )) : pv_X z E d bc bs mi pc lv (.ref (365) :: st) pv_K0 pv_P0 I J := by
  obtain ⟨d, rfl⟩ : ∃ d0, d = d0 + 1 := ⟨d - 1, by omega⟩
  have key := px_callV (bc := bc) (bs := bs) (bc1 := 0) (bs1 := 0) (as := []) (E := E) (z := z) (lv := lv) hd mvX10_load hlk pv_s_model (by decide) rfl pv_k_model rfl rfl hcat (by exact Nat.le_of_ble_eq_true rfl) (s_X10_load (by omega) hMA hw hn K)
  rw [Nat.zero_add, Nat.zero_add] at key
  exact key
