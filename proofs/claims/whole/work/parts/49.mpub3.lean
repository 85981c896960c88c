/-! The reference: move, buy, the text, undo. -/
set_option maxRecDepth 100000 in
set_option maxHeartbeats 4000000 in
theorem s_X10_move {Q : pv_Q} {E : pv_E} {d bc bs : Nat} {J : pv_JT} {I : pv_IT} {T : pv_T} {L : List pv_Lot} {H : List pv_S} {B : List Nat} {n : Nat} {l0 a0 s0 : Int32} (hD : 8 ≤ d) (hMA : MA I ((T, L), H, B)) (hw : wx n ((T, L), H, B)) (hn : n ≤ 600) (h : pm_ok Q I J (po_move ((T, L), H, B) l0 a0 s0)) : pv_X (pv_ZQ E Q) E d bc bs mX10_move 0 [(0, .ref (365)), (1, .int (l0)), (2, .int (a0)), (3, .int (s0))] [] pv_K0 pv_P0 I J := by
  obtain ⟨hM, hS, hB⟩ := id hMA
  replace hM : MR (I 366) T L := hM
  replace hS : MSV I H := hS
  replace hB : MB I B := hB
  have hdy : dy (T, L) := hw.1.1
  have htb : tb T := hdy.1
  have hlb : lbs L := hdy.2.1
  have h31 : L.length ≤ 31 := hlb.1
  have h30 : L.length ≤ 30 := hw.1.2.1
  have h404 : T 404 ≤ 60 * n := hw.1.2.2.1
  have hn8 : T 405 ≤ 8 := htb.2.2.1
  have hp8 : T 407 ≤ 8 := htb.2.2.2.2.2.1.1
  have h10 : T 408 ≤ 10 := htb.2.2.2.2.2.2.2.1
  have hwk : wk (T, L) := ⟨hw.1.2.2.2.2.1, hw.1.2.2.2.2.2.1, hw.1.2.2.2.2.2.2⟩
  refine px_aload_n dX10_move_0 rfl ?_
  refine px_iload_n dX10_move_1 rfl ?_
  refine c_X10_isLot dX10_move_2 mlX10_96 (by omega) hM (Nat.le_of_ble_eq_true rfl) ?_
  refine px_if_eqB (tgt := 15) dX10_move_5 (by decide) (fun ha => ?_) (fun ha => ?_)
  · refine px_aload_n dX10_move_15 rfl ?_
    refine px_iconst (v := nI 1) dX10_move_16 (by decide) ?_
    refine px_putI dX10_move_17 fwX10_31 pv_s_model (by decide) (by decide) rfl pv_k_model ?_
    refine px_iconst (v := nI 0) dX10_move_20 (by decide) ?_
    exact px_iret dX10_move_21 rfl (Or.inl rfl) (pm_exc (by unfold po_move at h; rw [if_neg (fun z => ha z.1)] at h; exact h) hMA)
  · refine px_iload_n dX10_move_8 rfl ?_
    refine c_X10_isStore dX10_move_9 mlX10_57 (by omega)  (Nat.le_of_ble_eq_true rfl) ?_
    refine px_if_neB (tgt := 22) dX10_move_12 (by decide) (fun hs => ?_) (fun hs => ?_)
    · have hls := And.intro ha hs
      obtain ⟨l, l1, rfl, l3⟩ := pu_has_nI ha (by omega)
      obtain ⟨s, s1, rfl, s3⟩ := pu_has_nI hs (by omega)
      have hx := hlb.2 l l1
      unfold lb at hx
      have hol : lv_ok (pl_g L l) := hdy.2.2 l l1
      unfold lv_ok at hol
      have hin := ps_in_le (s := s) hlb
      have h64 := (htb.2.1 s (by omega)).1
      refine px_iload_n dX10_move_22 rfl ?_
      refine px_iconst (v := nI 1) dX10_move_23 (by decide) ?_
      refine px_aload_n dX10_move_24 rfl ?_
      refine px_iload_n dX10_move_25 rfl ?_
      refine px_iconst (v := nI 2) dX10_move_26 (by decide) ?_
      refine c_X10_of dX10_move_27 mlX10_53 (by omega) (by omega) (by omega) (Nat.le_of_ble_eq_true rfl) ?_
      refine px_iv (y := nI ((pl_g L (l)).2.2.1)) ((mr_l hM (by omega)).2.2.1) ?_
      refine c_X10_within dX10_move_30 mlX10_35 (by omega)  (Nat.le_of_ble_eq_true rfl) ?_
      refine px_if_eqB (tgt := 46) dX10_move_33 (by decide) (fun hm => ?_) (fun hm => ?_)
      · refine px_aload_n dX10_move_46 rfl ?_
        refine px_iconst (v := nI 2) dX10_move_47 (by decide) ?_
        refine px_putI dX10_move_48 fwX10_31 pv_s_model (by decide) (by decide) rfl pv_k_model ?_
        refine px_iconst (v := nI 0) dX10_move_51 (by decide) ?_
        exact px_iret dX10_move_52 rfl (Or.inl rfl) (pm_exc (by unfold po_move at h; simp only [tn, l3, s3] at h; rw [if_pos hls] at h; rw [if_neg (fun z => hm z.1)] at h; exact h) hMA)
      · have hm0 := hm
        obtain ⟨a, a1, a2, rfl, a3⟩ := pu_in_nI hm (by omega) (by omega)
        refine px_aload_n dX10_move_36 rfl ?_
        refine px_iload_n dX10_move_37 rfl ?_
        refine px_iconst (v := nI 1) dX10_move_38 (by decide) ?_
        refine c_X10_of dX10_move_39 mlX10_53 (by omega) (by omega) (by omega) (Nat.le_of_ble_eq_true rfl) ?_
        refine px_iv (y := nI ((pl_g L (l)).2.1)) ((mr_l hM (by omega)).2.1) ?_
        refine px_iload_n dX10_move_42 rfl ?_
        refine px_icmp_neN (tgt := 53) dX10_move_43 (by decide) (by omega) (by omega) (fun h5 => ?_) (fun h5 => ?_)
        · have hms := And.intro hm0 h5
          refine px_iload_n dX10_move_53 rfl ?_
          refine px_aload_n dX10_move_54 rfl ?_
          refine px_iload_n dX10_move_55 rfl ?_
          refine px_iconst (v := nI 2) dX10_move_56 (by decide) ?_
          refine c_X10_of dX10_move_57 mlX10_53 (by omega) (by omega) (by omega) (Nat.le_of_ble_eq_true rfl) ?_
          refine px_iv (y := nI ((pl_g L (l)).2.2.1)) ((mr_l hM (by omega)).2.2.1) ?_
          refine px_icmp_neN (tgt := 67) dX10_move_60 (by decide) (by omega) (by omega) (fun h6 => ?_) (fun h6 => ?_)
          · refine px_iconst (v := nI 0) dX10_move_67 (by decide) ?_
            refine px_istore dX10_move_68 (by decide) ?_
            refine px_aload_n dX10_move_70 rfl ?_
            refine px_aload_n dX10_move_71 rfl ?_
            refine px_iload_n dX10_move_72 rfl ?_
            refine c_X10_inStore dX10_move_73 mlX10_60 (by omega) hM (by omega) (Nat.le_of_ble_eq_true rfl) ?_
            refine px_iload_n dX10_move_76 rfl ?_
            refine px_iaddN dX10_move_77 ?_
            refine px_aload_n dX10_move_78 rfl ?_
            refine px_getR dX10_move_79 flX10_7 pv_s_model (by decide) (by decide) rfl pv_k_model pv_p_365_1 ?_
            refine px_bipush (v := nI 64) dX10_move_82 (by decide) ?_
            refine px_iload_n dX10_move_84 rfl ?_
            refine px_iaddN dX10_move_85 ?_
            refine px_iald (j := (64 + s)) dX10_move_86 pv_a_z.1 rfl (by omega) pv_a_z.2.2 pv_a_z.2.1 ?_
            refine px_iv (y := nI (T ((64 + s)))) (hM.1 ((64 + s)) (by omega) (by omega) (by omega)) ?_
            refine px_icmp_gtN (tgt := 108) dX10_move_87 (by decide) (by omega) (by omega) (fun h7 => ?_) (fun h7 => ?_)
            · refine px_iconst (v := nI 3) dX10_move_108 (by decide) ?_
              refine px_goto (tgt := 113) dX10_move_109 (by decide) ?_
              refine px_putI dX10_move_113 fwX10_31 pv_s_model (by decide) (by decide) rfl pv_k_model ?_
              refine px_aload_n dX10_move_116 rfl ?_
              refine px_getI dX10_move_117 flX10_31 pv_s_model (by decide) (by decide) rfl pv_k_model ?_
              refine px_iv (y := nI (3)) (by simp [pv_uI_at]) ?_
              refine px_if_leN (tgt := 125) dX10_move_120 (by decide) (by omega) (fun h0 => absurd h0 (by omega)) (fun _ => ?_)
              refine px_iconst (v := nI 0) dX10_move_123 (by decide) ?_
              exact px_iret dX10_move_124 rfl (Or.inl rfl) (pm_exc (by unfold po_move at h; simp only [tn, l3, s3, a3] at h; rw [if_pos hls] at h; rw [if_pos hms] at h; rw [if_neg (fun z => absurd z.1 (by omega))] at h; exact h) hMA)
            · refine px_iload dX10_move_90 rfl ?_
              refine px_if_neN (tgt := 112) dX10_move_92 (by decide) (by omega) (fun h0 => absurd h0 (by omega)) (fun _ => ?_)
              refine px_aload_n dX10_move_95 rfl ?_
              refine px_getR dX10_move_96 flX10_7 pv_s_model (by decide) (by decide) rfl pv_k_model pv_p_365_1 ?_
              refine px_sipush (v := nI 406) dX10_move_99 (by decide) ?_
              refine px_iald (j := 406) dX10_move_102 pv_a_z.1 rfl (by omega) pv_a_z.2.2 pv_a_z.2.1 ?_
              refine px_iv (y := nI (L.length)) (hM.2.1) ?_
              refine px_bipush (v := nI 30) dX10_move_103 (by decide) ?_
              refine px_icmp_neN (tgt := 112) dX10_move_105 (by decide) (by omega) (by omega) (fun h8 => ?_) (fun h8 => ?_)
              · refine px_iconst (v := nI 0) dX10_move_112 (by decide) ?_
                refine px_putI dX10_move_113 fwX10_31 pv_s_model (by decide) (by decide) rfl pv_k_model ?_
                refine px_aload_n dX10_move_116 rfl ?_
                refine px_getI dX10_move_117 flX10_31 pv_s_model (by decide) (by decide) rfl pv_k_model ?_
                refine px_iv (y := nI (0)) (by simp [pv_uI_at]) ?_
                refine px_if_leN (tgt := 125) dX10_move_120 (by decide) (by omega) (fun _ => ?_) (fun h0 => absurd h0 (by omega))
                obtain ⟨I0, hI0⟩ : ∃ I0, I0 = pv_uI I 365 0 (nI 0) := ⟨_, rfl⟩
                rw [← hI0]
                obtain ⟨hM0, hS0, hB0, hT0, hK0, hF0, hG0⟩ := pm_zero hM hS hB hI0
                refine px_aload_n dX10_move_125 rfl ?_
                refine c_X10_save dX10_move_126 mlX10_50 (by omega) hM0 hS0 (Nat.le_of_ble_eq_true rfl) (fun I1 hS1 hF1 hG1 => ?_)
                obtain ⟨hM1, hB1, hT1, hK1⟩ := pm_saved hM0 hB0 hT0 hK0 hF1 hG1
                refine px_iload dX10_move_129 rfl ?_
                refine px_if_eqN (tgt := 150) dX10_move_131 (by decide) (by omega) (fun _ => ?_) (fun h0 => absurd h0 (by omega))
                refine px_aload_n dX10_move_150 rfl ?_
                refine px_getR dX10_move_151 flX10_7 pv_s_model (by decide) (by decide) rfl pv_k_model pv_p_365_1 ?_
                refine px_bipush (v := nI 70) dX10_move_154 (by decide) ?_
                refine px_iconst (v := nI 4) dX10_move_156 (by decide) ?_
                refine px_iload_n dX10_move_157 rfl ?_
                refine px_imulN dX10_move_158 ?_
                refine px_iaddN dX10_move_159 ?_
                refine px_iconst (v := nI 2) dX10_move_160 (by decide) ?_
                refine px_iaddN dX10_move_161 ?_
                refine px_dup2 dX10_move_162 rfl rfl ?_
                refine px_iald (j := ((70 + (4 * l)) + 2)) dX10_move_163 pv_a_z.1 rfl (by omega) pv_a_z.2.2 pv_a_z.2.1 ?_
                refine px_iv (y := nI ((pl_g L l).2.2.1)) ((mr_l hM1 l1).2.2.1) ?_
                refine px_iload_n dX10_move_164 rfl ?_
                refine px_isubN (by omega) dX10_move_165 ?_
                refine px_iast (j := ((70 + (4 * l)) + 2)) dX10_move_166 pv_a_z.1 rfl (by omega) pv_a_z.2.2 pv_a_z.2.1 ?_
                have hM2 := MR_amt hM1 l1 (v := (pl_g L l).2.2.1 - a) (by omega)
                have hF2 : ∀ k0 : Nat, k0 ≠ 366 → (pv_uI I1 366 (70 + 4 * l + 2) (nI ((pl_g L l).2.2.1 - a))) k0 = I1 k0 := fun k0 hk => pv_uI_ne hk
                generalize pv_uI I1 366 (70 + 4 * l + 2) (nI ((pl_g L l).2.2.1 - a)) = I2 at hM2 hF2 ⊢
                have h8 : (pl_amt L l ((pl_g L l).2.2.1 - a)).length = L.length := pl_amt_len
                have hg8 : pl_g (pl_amt L l ((pl_g L l).2.2.1 - a)) l = ((pl_g L l).1, (pl_g L l).2.1, (pl_g L l).2.2.1 - a, (pl_g L l).2.2.2) := by
                  unfold pl_amt
                  rw [pl_g_set l1, if_pos rfl]
                have hl2 := mr_l hM2 (l := l) (by omega)
                rw [hg8] at hl2
                refine px_aload_n dX10_move_167 rfl ?_
                refine px_aload_n dX10_move_168 rfl ?_
                refine px_iload_n dX10_move_169 rfl ?_
                refine px_iconst (v := nI 0) dX10_move_170 (by decide) ?_
                refine c_X10_of dX10_move_171 mlX10_53 (by omega) (by omega) (by omega) (Nat.le_of_ble_eq_true rfl) ?_
                refine px_iv (y := nI ((pl_g L l).1)) (hl2.1) ?_
                refine px_iload_n dX10_move_174 rfl ?_
                refine px_iload_n dX10_move_175 rfl ?_
                refine px_aload_n dX10_move_176 rfl ?_
                refine px_iload_n dX10_move_177 rfl ?_
                refine px_iconst (v := nI 3) dX10_move_178 (by decide) ?_
                refine c_X10_of dX10_move_179 mlX10_53 (by omega) (by omega) (by omega) (Nat.le_of_ble_eq_true rfl) ?_
                refine px_iv (y := nI ((pl_g L l).2.2.2)) (hl2.2.2.2) ?_
                refine c_X10_putLot dX10_move_182 mlX10_92 (by omega) hM2 (by omega) (show (pl_g L l).1 < 8 ∧ s < 3 ∧ a ≤ 2000 ∧ (pl_g L l).2.2.2 ≤ 2000 from ⟨by omega, by omega, by omega, by omega⟩) (Nat.le_of_ble_eq_true rfl) (fun I3 hM3 hF3 => ?_)
                refine px_aload_n dX10_move_185 rfl ?_
                refine px_getR dX10_move_186 flX10_7 pv_s_model (by decide) (by decide) rfl pv_k_model pv_p_365_1 ?_
                refine px_sipush (v := nI 406) dX10_move_189 (by decide) ?_
                refine px_iald (j := 406) dX10_move_192 pv_a_z.1 rfl (by omega) pv_a_z.2.2 pv_a_z.2.1 ?_
                refine px_iv (y := nI (L.length + 1)) (hM3.2.1.trans (by rw [List.length_append, h8]; rfl)) ?_
                refine px_iconst (v := nI 1) dX10_move_193 (by decide) ?_
                refine px_isubN (by omega) dX10_move_194 ?_
                exact px_iret dX10_move_195 rfl (Or.inl rfl) (pm_fin (by unfold po_move at h; simp only [tn, l3, s3, a3] at h; rw [if_pos hls] at h; rw [if_pos hms] at h; rw [if_pos ⟨by omega, Or.inr (by omega)⟩] at h; rw [if_neg h6] at h; exact h) hM3 hS1 hB1 hT1 hK1 (fun k0 x y z => (hF3 k0 x).trans (hF2 k0 x)))
              · refine px_iconst (v := nI 3) dX10_move_108 (by decide) ?_
                refine px_goto (tgt := 113) dX10_move_109 (by decide) ?_
                refine px_putI dX10_move_113 fwX10_31 pv_s_model (by decide) (by decide) rfl pv_k_model ?_
                refine px_aload_n dX10_move_116 rfl ?_
                refine px_getI dX10_move_117 flX10_31 pv_s_model (by decide) (by decide) rfl pv_k_model ?_
                refine px_iv (y := nI (3)) (by simp [pv_uI_at]) ?_
                refine px_if_leN (tgt := 125) dX10_move_120 (by decide) (by omega) (fun h0 => absurd h0 (by omega)) (fun _ => ?_)
                refine px_iconst (v := nI 0) dX10_move_123 (by decide) ?_
                exact px_iret dX10_move_124 rfl (Or.inl rfl) (pm_exc (by unfold po_move at h; simp only [tn, l3, s3, a3] at h; rw [if_pos hls] at h; rw [if_pos hms] at h; rw [if_neg (fun z => z.2.elim h6 (fun y => absurd y (by omega)))] at h; exact h) hMA)
          · refine px_iconst (v := nI 1) dX10_move_63 (by decide) ?_
            refine px_goto (tgt := 68) dX10_move_64 (by decide) ?_
            refine px_istore dX10_move_68 (by decide) ?_
            refine px_aload_n dX10_move_70 rfl ?_
            refine px_aload_n dX10_move_71 rfl ?_
            refine px_iload_n dX10_move_72 rfl ?_
            refine c_X10_inStore dX10_move_73 mlX10_60 (by omega) hM (by omega) (Nat.le_of_ble_eq_true rfl) ?_
            refine px_iload_n dX10_move_76 rfl ?_
            refine px_iaddN dX10_move_77 ?_
            refine px_aload_n dX10_move_78 rfl ?_
            refine px_getR dX10_move_79 flX10_7 pv_s_model (by decide) (by decide) rfl pv_k_model pv_p_365_1 ?_
            refine px_bipush (v := nI 64) dX10_move_82 (by decide) ?_
            refine px_iload_n dX10_move_84 rfl ?_
            refine px_iaddN dX10_move_85 ?_
            refine px_iald (j := (64 + s)) dX10_move_86 pv_a_z.1 rfl (by omega) pv_a_z.2.2 pv_a_z.2.1 ?_
            refine px_iv (y := nI (T ((64 + s)))) (hM.1 ((64 + s)) (by omega) (by omega) (by omega)) ?_
            refine px_icmp_gtN (tgt := 108) dX10_move_87 (by decide) (by omega) (by omega) (fun h7 => ?_) (fun h7 => ?_)
            · refine px_iconst (v := nI 3) dX10_move_108 (by decide) ?_
              refine px_goto (tgt := 113) dX10_move_109 (by decide) ?_
              refine px_putI dX10_move_113 fwX10_31 pv_s_model (by decide) (by decide) rfl pv_k_model ?_
              refine px_aload_n dX10_move_116 rfl ?_
              refine px_getI dX10_move_117 flX10_31 pv_s_model (by decide) (by decide) rfl pv_k_model ?_
              refine px_iv (y := nI (3)) (by simp [pv_uI_at]) ?_
              refine px_if_leN (tgt := 125) dX10_move_120 (by decide) (by omega) (fun h0 => absurd h0 (by omega)) (fun _ => ?_)
              refine px_iconst (v := nI 0) dX10_move_123 (by decide) ?_
              exact px_iret dX10_move_124 rfl (Or.inl rfl) (pm_exc (by unfold po_move at h; simp only [tn, l3, s3, a3] at h; rw [if_pos hls] at h; rw [if_pos hms] at h; rw [if_neg (fun z => absurd z.1 (by omega))] at h; exact h) hMA)
            · refine px_iload dX10_move_90 rfl ?_
              refine px_if_neN (tgt := 112) dX10_move_92 (by decide) (by omega) (fun _ => ?_) (fun h0 => absurd h0 (by omega))
              refine px_iconst (v := nI 0) dX10_move_112 (by decide) ?_
              refine px_putI dX10_move_113 fwX10_31 pv_s_model (by decide) (by decide) rfl pv_k_model ?_
              refine px_aload_n dX10_move_116 rfl ?_
              refine px_getI dX10_move_117 flX10_31 pv_s_model (by decide) (by decide) rfl pv_k_model ?_
              refine px_iv (y := nI (0)) (by simp [pv_uI_at]) ?_
              refine px_if_leN (tgt := 125) dX10_move_120 (by decide) (by omega) (fun _ => ?_) (fun h0 => absurd h0 (by omega))
              obtain ⟨I0, hI0⟩ : ∃ I0, I0 = pv_uI I 365 0 (nI 0) := ⟨_, rfl⟩
              rw [← hI0]
              obtain ⟨hM0, hS0, hB0, hT0, hK0, hF0, hG0⟩ := pm_zero hM hS hB hI0
              refine px_aload_n dX10_move_125 rfl ?_
              refine c_X10_save dX10_move_126 mlX10_50 (by omega) hM0 hS0 (Nat.le_of_ble_eq_true rfl) (fun I1 hS1 hF1 hG1 => ?_)
              obtain ⟨hM1, hB1, hT1, hK1⟩ := pm_saved hM0 hB0 hT0 hK0 hF1 hG1
              refine px_iload dX10_move_129 rfl ?_
              refine px_if_eqN (tgt := 150) dX10_move_131 (by decide) (by omega) (fun h0 => absurd h0 (by omega)) (fun _ => ?_)
              refine px_aload_n dX10_move_134 rfl ?_
              refine px_getR dX10_move_135 flX10_7 pv_s_model (by decide) (by decide) rfl pv_k_model pv_p_365_1 ?_
              refine px_bipush (v := nI 70) dX10_move_138 (by decide) ?_
              refine px_iconst (v := nI 4) dX10_move_140 (by decide) ?_
              refine px_iload_n dX10_move_141 rfl ?_
              refine px_imulN dX10_move_142 ?_
              refine px_iaddN dX10_move_143 ?_
              refine px_iconst (v := nI 1) dX10_move_144 (by decide) ?_
              refine px_iaddN dX10_move_145 ?_
              refine px_iload_n dX10_move_146 rfl ?_
              refine px_iast (j := ((70 + (4 * l)) + 1)) dX10_move_147 pv_a_z.1 rfl (by omega) pv_a_z.2.2 pv_a_z.2.1 ?_
              refine px_iload_n dX10_move_148 rfl ?_
              exact px_iret dX10_move_149 rfl (Or.inl rfl) (pm_fin (by unfold po_move at h; simp only [tn, l3, s3, a3] at h; rw [if_pos hls] at h; rw [if_pos hms] at h; rw [if_pos ⟨by omega, Or.inl h6⟩] at h; rw [if_pos h6] at h; exact h) (MR_sto hM1 l1 (by omega)) hS1 hB1 hT1 hK1 (fun k0 a b c => pv_uI_ne a))
        · refine px_aload_n dX10_move_46 rfl ?_
          refine px_iconst (v := nI 2) dX10_move_47 (by decide) ?_
          refine px_putI dX10_move_48 fwX10_31 pv_s_model (by decide) (by decide) rfl pv_k_model ?_
          refine px_iconst (v := nI 0) dX10_move_51 (by decide) ?_
          exact px_iret dX10_move_52 rfl (Or.inl rfl) (pm_exc (by unfold po_move at h; simp only [tn, l3, s3, a3] at h; rw [if_pos hls] at h; rw [if_neg (fun z => z.2 h5)] at h; exact h) hMA)
    · refine px_aload_n dX10_move_15 rfl ?_
      refine px_iconst (v := nI 1) dX10_move_16 (by decide) ?_
      refine px_putI dX10_move_17 fwX10_31 pv_s_model (by decide) (by decide) rfl pv_k_model ?_
      refine px_iconst (v := nI 0) dX10_move_20 (by decide) ?_
      exact px_iret dX10_move_21 rfl (Or.inl rfl) (pm_exc (by unfold po_move at h; rw [if_neg (fun z => hs z.2)] at h; exact h) hMA)
theorem c_X10_move {z : pv_Z} {E : pv_E} {d bc bs : Nat} {J : pv_JT} {I : pv_IT} {mi : pv_MI} {pc idx : Nat} {lv : pv_LV} {st : List Value} {T : pv_T} {L : List pv_Lot} {H : List pv_S} {B : List Nat} {n : Nat} {l0 a0 s0 : Int32} (hd : decode mi.2.1 pc = .ok (.invokevirtual idx, 3)) (hlk : Cond.methodLink mi.1.cls idx mX10_move.1 ∈ pv_W) (hD : 8+1 ≤ d) (hMA : MA I ((T, L), H, B)) (hw : wx n ((T, L), H, B)) (hn : n ≤ 600) (hcat : (st.map fun v => v.category).sum ≤ 8) (K : pm_ok (pv_K z E d bc bs mi pc lv st) I J (po_move ((T, L), H, B) l0 a0 s0)) : pv_X z E d bc bs mi pc lv (.int (s0) :: .int (a0) :: .int (l0) :: .ref (365) :: st) pv_K0 pv_P0 I J := by
  obtain ⟨d, rfl⟩ : ∃ d0, d = d0 + 1 := ⟨d - 1, by omega⟩
  have key := px_callV (bc := bc) (bs := bs) (bc1 := 0) (bs1 := 0) (as := [.int (l0), .int (a0), .int (s0)]) (E := E) (z := z) (lv := lv) hd mvX10_move hlk pv_s_model (by decide) rfl pv_k_model rfl rfl hcat (by exact Nat.le_of_ble_eq_true rfl) (s_X10_move (by omega) hMA hw hn K)
  rw [Nat.zero_add, Nat.zero_add] at key
  exact key
set_option maxRecDepth 100000 in
set_option maxHeartbeats 4000000 in
theorem s_X10_buy {Q : pv_Q} {E : pv_E} {d bc bs : Nat} {J : pv_JT} {I : pv_IT} {T : pv_T} {L : List pv_Lot} {H : List pv_S} {B : List Nat} {n : Nat} {k0 a0 s0 : Int32} (hD : 8 ≤ d) (hMA : MA I ((T, L), H, B)) (hw : wx n ((T, L), H, B)) (hn : n ≤ 600) (h : pm_ok Q I J (po_buy ((T, L), H, B) k0 a0 s0)) : pv_X (pv_ZQ E Q) E d bc bs mX10_buy 0 [(0, .ref (365)), (1, .int (k0)), (2, .int (a0)), (3, .int (s0))] [] pv_K0 pv_P0 I J := by
  obtain ⟨hM, hS, hB⟩ := id hMA
  replace hM : MR (I 366) T L := hM
  replace hS : MSV I H := hS
  replace hB : MB I B := hB
  have hdy : dy (T, L) := hw.1.1
  have htb : tb T := hdy.1
  have hlb : lbs L := hdy.2.1
  have h31 : L.length ≤ 31 := hlb.1
  have h30 : L.length ≤ 30 := hw.1.2.1
  have h404 : T 404 ≤ 60 * n := hw.1.2.2.1
  have hn8 : T 405 ≤ 8 := htb.2.2.1
  have hp8 : T 407 ≤ 8 := htb.2.2.2.2.2.1.1
  have h10 : T 408 ≤ 10 := htb.2.2.2.2.2.2.2.1
  have hwk : wk (T, L) := ⟨hw.1.2.2.2.2.1, hw.1.2.2.2.2.2.1, hw.1.2.2.2.2.2.2⟩
  have hpw : pw T := htb.2.2.2.2.2.1
  
  refine px_aload_n dX10_buy_0 rfl ?_
  refine px_aload_n dX10_buy_1 rfl ?_
  refine px_iload_n dX10_buy_2 rfl ?_
  refine c_X10_isKind dX10_buy_3 mlX10_72 (by omega) hM (by omega) (Nat.le_of_ble_eq_true rfl) ?_
  refine px_if_eqB (tgt := 16) dX10_buy_6 (by decide) (fun ha => ?_) (fun ha => ?_)
  · refine px_iconst (v := nI 1) dX10_buy_16 (by decide) ?_
    refine px_goto (tgt := 46) dX10_buy_17 (by decide) ?_
    refine px_putI dX10_buy_46 fwX10_31 pv_s_model (by decide) (by decide) rfl pv_k_model ?_
    refine px_aload_n dX10_buy_49 rfl ?_
    refine px_getI dX10_buy_50 flX10_31 pv_s_model (by decide) (by decide) rfl pv_k_model ?_
    refine px_iv (y := nI (1)) (by simp [pv_uI_at]) ?_
    refine px_if_leN (tgt := 58) dX10_buy_53 (by decide) (by omega) (fun h0 => absurd h0 (by omega)) (fun _ => ?_)
    refine px_iconst (v := nI 0) dX10_buy_56 (by decide) ?_
    exact px_iret dX10_buy_57 rfl (Or.inl rfl) (pm_exc (by unfold po_buy at h; rw [if_neg (fun z => ha z.1)] at h; exact h) hMA)
  · refine px_iload_n dX10_buy_9 rfl ?_
    refine c_X10_isStore dX10_buy_10 mlX10_57 (by omega)  (Nat.le_of_ble_eq_true rfl) ?_
    refine px_if_neB (tgt := 20) dX10_buy_13 (by decide) (fun hs => ?_) (fun hs => ?_)
    · have hks := And.intro ha hs
      obtain ⟨k, k1, rfl, k3⟩ := pu_has_nI ha (by omega)
      obtain ⟨s, s1, rfl, s3⟩ := pu_has_nI hs (by omega)
      refine px_iload_n dX10_buy_20 rfl ?_
      refine c_X10_isAmount dX10_buy_21 mlX10_82 (by omega)  (Nat.le_of_ble_eq_true rfl) ?_
      refine px_if_neB (tgt := 31) dX10_buy_24 (by decide) (fun hm => ?_) (fun hm => ?_)
      · have hm0 := hm
        obtain ⟨a, a1, a2, rfl, a3⟩ := pu_in_nI hm (by omega) (by omega)
        have hrf : pt_refuse T L k a s ≤ 6 := by
          unfold pt_refuse
          split
          · omega
          · repeat' (first | omega | split)
        refine px_aload_n dX10_buy_31 rfl ?_
        refine px_iload_n dX10_buy_32 rfl ?_
        refine px_iload_n dX10_buy_33 rfl ?_
        refine px_iload_n dX10_buy_34 rfl ?_
        refine c_X10_refusal dX10_buy_35 mlX10_85 (by omega) hM htb (by omega) (by omega) (by omega) (by omega) h30 (Nat.le_of_ble_eq_true rfl) ?_
        refine px_if_leN (tgt := 45) dX10_buy_38 (by decide) (by omega) (fun h5 => ?_) (fun h5 => ?_)
        · have hz : pt_refuse T L k a s = 0 := by omega
          have hpo : ∃ p, pt_on T (T 404) = some p ∧ pt_price T p k * a ≤ T 410 ∧ L.length < 30 := by
            have h5 := hz
            unfold pt_refuse at h5
            cases e : pt_on T (T 404) with
            | none => rw [e] at h5; exact absurd h5 (by simp)
            | some p =>
              rw [e] at h5
              refine ⟨p, rfl, ?_⟩
              replace h5 : (if pt_price T p k = 0 then 2 else if pt_now T k s = 0 then 3 else if T (64 + s) < ps_in L s + a then 4 else if T 410 < pt_price T p k * a then 5 else if 30 ≤ L.length then 6 else 0) = 0 := h5
              by_cases g1 : pt_price T p k = 0
              · rw [if_pos g1] at h5; omega
              rw [if_neg g1] at h5
              by_cases g2 : pt_now T k s = 0
              · rw [if_pos g2] at h5; omega
              rw [if_neg g2] at h5
              by_cases g3 : T (64 + s) < ps_in L s + a
              · rw [if_pos g3] at h5; omega
              rw [if_neg g3] at h5
              by_cases g4 : T 410 < pt_price T p k * a
              · rw [if_pos g4] at h5; omega
              rw [if_neg g4] at h5
              by_cases g5 : 30 ≤ L.length
              · rw [if_pos g5] at h5; omega
              omega
          obtain ⟨p, hpo, hco, hl30⟩ := hpo
          have hp1 : p < T 407 := (pf_is hpo).1
          have hbt : pt_bought (T, L) k a s = (pt_buy T k a (pt_price T p k * a), L ++ [(k, s, a, T (325 + 10 * p))]) := by
            unfold pt_bought
            show (pt_buy T k a (pt_price T ((pt_on T (T 404)).getD 0) k * a), L ++ [(k, s, a, T (325 + 10 * (pt_on T (T 404)).getD 0))]) = _
            rw [hpo]
            rfl
          refine px_iconst (v := nI 0) dX10_buy_45 (by decide) ?_
          refine px_putI dX10_buy_46 fwX10_31 pv_s_model (by decide) (by decide) rfl pv_k_model ?_
          refine px_aload_n dX10_buy_49 rfl ?_
          refine px_getI dX10_buy_50 flX10_31 pv_s_model (by decide) (by decide) rfl pv_k_model ?_
          refine px_iv (y := nI (0)) (by simp [pv_uI_at]) ?_
          refine px_if_leN (tgt := 58) dX10_buy_53 (by decide) (by omega) (fun _ => ?_) (fun h0 => absurd h0 (by omega))
          obtain ⟨I0, hI0⟩ : ∃ I0, I0 = pv_uI I 365 0 (nI 0) := ⟨_, rfl⟩
          rw [← hI0]
          obtain ⟨hM0, hS0, hB0, hT0, hK0, hF0, hG0⟩ := pm_zero hM hS hB hI0
          refine px_aload_n dX10_buy_58 rfl ?_
          refine c_X10_save dX10_buy_59 mlX10_50 (by omega) hM0 hS0 (Nat.le_of_ble_eq_true rfl) (fun I1 hS1 hF1 hG1 => ?_)
          obtain ⟨hM1, hB1, hT1, hK1⟩ := pm_saved hM0 hB0 hT0 hK0 hF1 hG1
          refine px_aload_n dX10_buy_62 rfl ?_
          refine px_aload_n dX10_buy_63 rfl ?_
          refine px_getR dX10_buy_64 flX10_7 pv_s_model (by decide) (by decide) rfl pv_k_model pv_p_365_1 ?_
          refine px_sipush (v := nI 404) dX10_buy_67 (by decide) ?_
          refine px_iald (j := 404) dX10_buy_70 pv_a_z.1 rfl (by omega) pv_a_z.2.2 pv_a_z.2.1 ?_
          refine px_iv (y := nI (T (404))) (hM1.1 (404) (by omega) (by omega) (by omega)) ?_
          refine c_X10_portOf dX10_buy_71 mlX10_66 (by omega) hM1 hpw (by omega) (Nat.le_of_ble_eq_true rfl) ?_
          refine px_iv (y := nI (p)) (by rw [hpo]; rfl) ?_
          refine px_istore dX10_buy_74 (by decide) ?_
          refine px_iload_n dX10_buy_76 rfl ?_
          refine px_aload_n dX10_buy_77 rfl ?_
          refine px_getR dX10_buy_78 flX10_7 pv_s_model (by decide) (by decide) rfl pv_k_model pv_p_365_1 ?_
          refine px_sipush (v := nI 324) dX10_buy_81 (by decide) ?_
          refine px_bipush (v := nI 10) dX10_buy_84 (by decide) ?_
          refine px_iload dX10_buy_86 rfl ?_
          refine px_imulN dX10_buy_88 ?_
          refine px_iaddN dX10_buy_89 ?_
          refine px_iconst (v := nI 2) dX10_buy_90 (by decide) ?_
          refine px_iaddN dX10_buy_91 ?_
          refine px_iload_n dX10_buy_92 rfl ?_
          refine px_iaddN dX10_buy_93 ?_
          refine px_iald (j := (((324 + (10 * (p))) + 2) + k)) dX10_buy_94 pv_a_z.1 rfl (by omega) pv_a_z.2.2 pv_a_z.2.1 ?_
          refine px_iv (y := nI (T (326 + 10 * p + k))) ((hM1.1 ((((324 + (10 * (p))) + 2) + k)) (by omega) (by omega) (by omega)).trans (congrArg nI (congrArg T (by omega)))) ?_
          refine px_imulN dX10_buy_95 ?_
          refine px_istore dX10_buy_96 (by decide) ?_
          refine px_aload_n dX10_buy_98 rfl ?_
          refine px_getR dX10_buy_99 flX10_7 pv_s_model (by decide) (by decide) rfl pv_k_model pv_p_365_1 ?_
          refine px_sipush (v := nI 410) dX10_buy_102 (by decide) ?_
          refine px_dup2 dX10_buy_105 rfl rfl ?_
          rw [show a * T (326 + 10 * p + k) = pt_price T p k * a from Nat.mul_comm _ _]
          refine px_iald (j := 410) dX10_buy_106 pv_a_z.1 rfl (by omega) pv_a_z.2.2 pv_a_z.2.1 ?_
          refine px_iv (y := nI (T (410))) (hM1.1 (410) (by omega) (by omega) (by omega)) ?_
          refine px_iload dX10_buy_107 rfl ?_
          refine px_isubN (by omega) dX10_buy_109 ?_
          refine px_iast (j := 410) dX10_buy_110 pv_a_z.1 rfl (by omega) pv_a_z.2.2 pv_a_z.2.1 ?_
          have hM2 := MR_z hM1 (i := 410) (v := T 410 - pt_price T p k * a) (by omega) (by omega)
          have hF2 : ∀ k0 : Nat, k0 ≠ 366 → (pv_uI I1 366 410 (nI (T 410 - pt_price T p k * a))) k0 = I1 k0 := fun k0 hk => pv_uI_ne hk
          generalize pv_uI I1 366 410 (nI (T 410 - pt_price T p k * a)) = I2 at hM2 hF2 ⊢
          refine px_aload_n dX10_buy_111 rfl ?_
          refine px_getR dX10_buy_112 flX10_7 pv_s_model (by decide) (by decide) rfl pv_k_model pv_p_365_1 ?_
          refine px_sipush (v := nI 411) dX10_buy_115 (by decide) ?_
          refine px_dup2 dX10_buy_118 rfl rfl ?_
          refine px_iald (j := 411) dX10_buy_119 pv_a_z.1 rfl (by omega) pv_a_z.2.2 pv_a_z.2.1 ?_
          refine px_iv (y := nI (T 411)) ((hM2.1 411 (by omega) (by omega) (by omega)).trans (congrArg nI (pt_un (by omega)))) ?_
          refine px_iload dX10_buy_120 rfl ?_
          refine px_iaddN dX10_buy_122 ?_
          refine px_iast (j := 411) dX10_buy_123 pv_a_z.1 rfl (by omega) pv_a_z.2.2 pv_a_z.2.1 ?_
          have hM3 := MR_z hM2 (i := 411) (v := T 411 + pt_price T p k * a) (by omega) (by omega)
          have hF3 : ∀ k0 : Nat, k0 ≠ 366 → (pv_uI I2 366 411 (nI (T 411 + pt_price T p k * a))) k0 = I1 k0 := fun k0 hk => (pv_uI_ne hk).trans (hF2 k0 hk)
          generalize pv_uI I2 366 411 (nI (T 411 + pt_price T p k * a)) = I3 at hM3 hF3 ⊢
          refine px_aload_n dX10_buy_124 rfl ?_
          refine px_iload_n dX10_buy_125 rfl ?_
          refine px_iconst (v := nI 0) dX10_buy_126 (by decide) ?_
          refine px_iload_n dX10_buy_127 rfl ?_
          refine c_X10_tally dX10_buy_128 mlX10_88 (by omega) hM3 (by omega) (by omega) (Nat.le_of_ble_eq_true rfl) ?_
          have hM4 := MR_z hM3 (i := 24 + 5 * k + 0) (v := (pt_up (pt_up T 410 (T 410 - pt_price T p k * a)) 411 (T 411 + pt_price T p k * a)) (24 + 5 * k + 0) + a) (by omega) (by omega)
          have hF4 : ∀ k0 : Nat, k0 ≠ 366 → (pv_uI I3 366 (24 + 5 * k + 0) (nI ((pt_up (pt_up T 410 (T 410 - pt_price T p k * a)) 411 (T 411 + pt_price T p k * a)) (24 + 5 * k + 0) + a))) k0 = I1 k0 := fun k0 hk => (pv_uI_ne hk).trans (hF3 k0 hk)
          generalize pv_uI I3 366 (24 + 5 * k + 0) (nI ((pt_up (pt_up T 410 (T 410 - pt_price T p k * a)) 411 (T 411 + pt_price T p k * a)) (24 + 5 * k + 0) + a)) = I4 at hM4 hF4 ⊢
          rw [show (pt_up (pt_up T 410 (T 410 - pt_price T p k * a)) 411 (T 411 + pt_price T p k * a)) (24 + 5 * k + 0) = T (24 + 5 * k) from (pt_un (by omega)).trans (pt_un (by omega))] at hM4
          replace hM4 : MR (I4 366) (pt_buy T k a (pt_price T p k * a)) L := hM4
          have e325 : (pt_buy T k a (pt_price T p k * a)) (324 + 10 * p + 1) = T (325 + 10 * p) := by
            unfold pt_buy
            rw [pt_un (by omega), pt_un (by omega), pt_un (by omega)]
            exact congrArg T (by omega)
          have hp9 := (hpw.2.1 p hp1).2.1
          refine px_aload_n dX10_buy_131 rfl ?_
          refine px_iload_n dX10_buy_132 rfl ?_
          refine px_iload_n dX10_buy_133 rfl ?_
          refine px_iload_n dX10_buy_134 rfl ?_
          refine px_aload_n dX10_buy_135 rfl ?_
          refine px_getR dX10_buy_136 flX10_7 pv_s_model (by decide) (by decide) rfl pv_k_model pv_p_365_1 ?_
          refine px_sipush (v := nI 324) dX10_buy_139 (by decide) ?_
          refine px_bipush (v := nI 10) dX10_buy_142 (by decide) ?_
          refine px_iload dX10_buy_144 rfl ?_
          refine px_imulN dX10_buy_146 ?_
          refine px_iaddN dX10_buy_147 ?_
          refine px_iconst (v := nI 1) dX10_buy_148 (by decide) ?_
          refine px_iaddN dX10_buy_149 ?_
          refine px_iald (j := ((324 + (10 * (p))) + 1)) dX10_buy_150 pv_a_z.1 rfl (by omega) pv_a_z.2.2 pv_a_z.2.1 ?_
          refine px_iv (y := nI (T (325 + 10 * p))) ((hM4.1 (324 + 10 * p + 1) (by omega) (by omega) (by omega)).trans (congrArg nI e325)) ?_
          refine c_X10_putLot dX10_buy_151 mlX10_92 (by omega) hM4 (by omega) (show k < 8 ∧ s < 3 ∧ a ≤ 2000 ∧ T (325 + 10 * p) ≤ 2000 from ⟨by omega, by omega, by omega, by omega⟩) (Nat.le_of_ble_eq_true rfl) (fun I5 hM5 hF5 => ?_)
          refine px_aload_n dX10_buy_154 rfl ?_
          refine px_getR dX10_buy_155 flX10_7 pv_s_model (by decide) (by decide) rfl pv_k_model pv_p_365_1 ?_
          refine px_sipush (v := nI 406) dX10_buy_158 (by decide) ?_
          refine px_iald (j := 406) dX10_buy_161 pv_a_z.1 rfl (by omega) pv_a_z.2.2 pv_a_z.2.1 ?_
          refine px_iv (y := nI (L.length + 1)) (hM5.2.1.trans (by rw [List.length_append]; rfl)) ?_
          refine px_iconst (v := nI 1) dX10_buy_162 (by decide) ?_
          refine px_isubN (by omega) dX10_buy_163 ?_
          exact px_iret dX10_buy_164 rfl (Or.inl rfl) (pm_fin (by unfold po_buy at h; simp only [tn, k3, s3, a3] at h; rw [if_pos hks] at h; rw [if_pos hm0] at h; rw [if_pos hz] at h; rw [hbt] at h; exact h) hM5 hS1 hB1 hT1 hK1 (fun k0 x y z => (hF5 k0 x).trans (hF4 k0 x)))
        · refine px_iconst (v := nI 3) dX10_buy_41 (by decide) ?_
          refine px_goto (tgt := 46) dX10_buy_42 (by decide) ?_
          refine px_putI dX10_buy_46 fwX10_31 pv_s_model (by decide) (by decide) rfl pv_k_model ?_
          refine px_aload_n dX10_buy_49 rfl ?_
          refine px_getI dX10_buy_50 flX10_31 pv_s_model (by decide) (by decide) rfl pv_k_model ?_
          refine px_iv (y := nI (3)) (by simp [pv_uI_at]) ?_
          refine px_if_leN (tgt := 58) dX10_buy_53 (by decide) (by omega) (fun h0 => absurd h0 (by omega)) (fun _ => ?_)
          refine px_iconst (v := nI 0) dX10_buy_56 (by decide) ?_
          exact px_iret dX10_buy_57 rfl (Or.inl rfl) (pm_exc (by unfold po_buy at h; simp only [tn, k3, s3, a3] at h; rw [if_pos hks] at h; rw [if_pos hm0] at h; rw [if_neg (by omega)] at h; exact h) hMA)
      · refine px_iconst (v := nI 2) dX10_buy_27 (by decide) ?_
        refine px_goto (tgt := 46) dX10_buy_28 (by decide) ?_
        refine px_putI dX10_buy_46 fwX10_31 pv_s_model (by decide) (by decide) rfl pv_k_model ?_
        refine px_aload_n dX10_buy_49 rfl ?_
        refine px_getI dX10_buy_50 flX10_31 pv_s_model (by decide) (by decide) rfl pv_k_model ?_
        refine px_iv (y := nI (2)) (by simp [pv_uI_at]) ?_
        refine px_if_leN (tgt := 58) dX10_buy_53 (by decide) (by omega) (fun h0 => absurd h0 (by omega)) (fun _ => ?_)
        refine px_iconst (v := nI 0) dX10_buy_56 (by decide) ?_
        exact px_iret dX10_buy_57 rfl (Or.inl rfl) (pm_exc (by unfold po_buy at h; simp only [tn, k3, s3] at h; rw [if_pos hks] at h; rw [if_neg hm] at h; exact h) hMA)
    · refine px_iconst (v := nI 1) dX10_buy_16 (by decide) ?_
      refine px_goto (tgt := 46) dX10_buy_17 (by decide) ?_
      refine px_putI dX10_buy_46 fwX10_31 pv_s_model (by decide) (by decide) rfl pv_k_model ?_
      refine px_aload_n dX10_buy_49 rfl ?_
      refine px_getI dX10_buy_50 flX10_31 pv_s_model (by decide) (by decide) rfl pv_k_model ?_
      refine px_iv (y := nI (1)) (by simp [pv_uI_at]) ?_
      refine px_if_leN (tgt := 58) dX10_buy_53 (by decide) (by omega) (fun h0 => absurd h0 (by omega)) (fun _ => ?_)
      refine px_iconst (v := nI 0) dX10_buy_56 (by decide) ?_
      exact px_iret dX10_buy_57 rfl (Or.inl rfl) (pm_exc (by unfold po_buy at h; rw [if_neg (fun z => hs z.2)] at h; exact h) hMA)
theorem c_X10_buy {z : pv_Z} {E : pv_E} {d bc bs : Nat} {J : pv_JT} {I : pv_IT} {mi : pv_MI} {pc idx : Nat} {lv : pv_LV} {st : List Value} {T : pv_T} {L : List pv_Lot} {H : List pv_S} {B : List Nat} {n : Nat} {k0 a0 s0 : Int32} (hd : decode mi.2.1 pc = .ok (.invokevirtual idx, 3)) (hlk : Cond.methodLink mi.1.cls idx mX10_buy.1 ∈ pv_W) (hD : 8+1 ≤ d) (hMA : MA I ((T, L), H, B)) (hw : wx n ((T, L), H, B)) (hn : n ≤ 600) (hcat : (st.map fun v => v.category).sum ≤ 8) (K : pm_ok (pv_K z E d bc bs mi pc lv st) I J (po_buy ((T, L), H, B) k0 a0 s0)) : pv_X z E d bc bs mi pc lv (.int (s0) :: .int (a0) :: .int (k0) :: .ref (365) :: st) pv_K0 pv_P0 I J := by
  obtain ⟨d, rfl⟩ : ∃ d0, d = d0 + 1 := ⟨d - 1, by omega⟩
  have key := px_callV (bc := bc) (bs := bs) (bc1 := 0) (bs1 := 0) (as := [.int (k0), .int (a0), .int (s0)]) (E := E) (z := z) (lv := lv) hd mvX10_buy hlk pv_s_model (by decide) rfl pv_k_model rfl rfl hcat (by exact Nat.le_of_ble_eq_true rfl) (s_X10_buy (by omega) hMA hw hn K)
  rw [Nat.zero_add, Nat.zero_add] at key
  exact key
set_option maxRecDepth 100000 in
set_option maxHeartbeats 4000000 in
theorem s_X10_append {Q : pv_Q} {E : pv_E} {d bc bs : Nat} {J : pv_JT} {I : pv_IT} {T : pv_T} {L : List pv_Lot} {H : List pv_S} {B : List Nat} {n : Nat} {a0 : Int32} (hD : 8 ≤ d) (hMA : MA I ((T, L), H, B)) (hw : wx n ((T, L), H, B)) (hn : n ≤ 600) (h : pm_ok Q I J (po_append ((T, L), H, B) a0)) : pv_X (pv_ZQ E Q) E d bc bs mX10_append 0 [(0, .ref (365)), (1, .int (a0))] [] pv_K0 pv_P0 I J := by
  obtain ⟨hM, hS, hB⟩ := id hMA
  replace hM : MR (I 366) T L := hM
  replace hS : MSV I H := hS
  replace hB : MB I B := hB
  have hdy : dy (T, L) := hw.1.1
  have htb : tb T := hdy.1
  have hlb : lbs L := hdy.2.1
  have h31 : L.length ≤ 31 := hlb.1
  have h30 : L.length ≤ 30 := hw.1.2.1
  have h404 : T 404 ≤ 60 * n := hw.1.2.2.1
  have hn8 : T 405 ≤ 8 := htb.2.2.1
  have hp8 : T 407 ≤ 8 := htb.2.2.2.2.2.1.1
  have h10 : T 408 ≤ 10 := htb.2.2.2.2.2.2.2.1
  have hwk : wk (T, L) := ⟨hw.1.2.2.2.2.1, hw.1.2.2.2.2.2.1, hw.1.2.2.2.2.2.2⟩
  have h60 := hB.2.1
  refine px_aload_n dX10_append_0 rfl ?_
  refine px_iload_n dX10_append_1 rfl ?_
  refine px_bipush (v := nI 33) dX10_append_2 (by decide) ?_
  refine px_bipush (v := nI 126) dX10_append_4 (by decide) ?_
  refine c_X10_within dX10_append_6 mlX10_35 (by omega)  (Nat.le_of_ble_eq_true rfl) ?_
  refine px_if_neB (tgt := 16) dX10_append_9 (by decide) (fun ha => ?_) (fun ha => ?_)
  · have ha0 := ha
    obtain ⟨a, a1, a2, rfl, a3⟩ := pu_in_nI ha (by omega) (by omega)
    refine px_aload_n dX10_append_16 rfl ?_
    refine px_getI dX10_append_17 flX10_144 pv_s_model (by decide) (by decide) rfl pv_k_model ?_
    refine px_iv (y := nI (B.length)) (hB.1) ?_
    refine px_bipush (v := nI 60) dX10_append_20 (by decide) ?_
    refine px_icmp_neN (tgt := 29) dX10_append_22 (by decide) (by omega) (by omega) (fun h5 => ?_) (fun h5 => ?_)
    · refine px_iconst (v := nI 0) dX10_append_29 (by decide) ?_
      refine px_putI dX10_append_30 fwX10_31 pv_s_model (by decide) (by decide) rfl pv_k_model ?_
      refine px_aload_n dX10_append_33 rfl ?_
      refine px_getI dX10_append_34 flX10_31 pv_s_model (by decide) (by decide) rfl pv_k_model ?_
      refine px_iv (y := nI (0)) (by simp [pv_uI_at]) ?_
      refine px_if_leN (tgt := 42) dX10_append_37 (by decide) (by omega) (fun _ => ?_) (fun h0 => absurd h0 (by omega))
      obtain ⟨I0, hI0⟩ : ∃ I0, I0 = pv_uI I 365 0 (nI 0) := ⟨_, rfl⟩
      rw [← hI0]
      obtain ⟨hM0, hS0, hB0, hT0, hK0, hF0, hG0⟩ := pm_zero hM hS hB hI0
      have h61 := hB0.2.1
      refine px_aload_n dX10_append_42 rfl ?_
      refine px_getR dX10_append_43 flX10_19 pv_s_model (by decide) (by decide) rfl pv_k_model pv_p_365_6 ?_
      refine px_aload_n dX10_append_46 rfl ?_
      refine px_getI dX10_append_47 flX10_144 pv_s_model (by decide) (by decide) rfl pv_k_model ?_
      refine px_iv (y := nI (B.length)) (hB0.1) ?_
      refine px_iload_n dX10_append_50 rfl ?_
      refine px_iast (j := (B.length)) dX10_append_51 pv_a_buf.1 rfl (by omega) pv_a_buf.2.2 pv_a_buf.2.1 ?_
      refine px_aload_n dX10_append_52 rfl ?_
      refine px_dup dX10_append_53 rfl ?_
      refine px_getI dX10_append_54 flX10_144 pv_s_model (by decide) (by decide) rfl pv_k_model ?_
      refine px_iv (y := nI (B.length)) (Eq.trans (by simp only [pv_uI_at]; repeat' (first | rfl | omega | split)) (hB0.1)) ?_
      refine px_iconst (v := nI 1) dX10_append_57 (by decide) ?_
      refine px_iaddN dX10_append_58 ?_
      refine px_putI dX10_append_59 fwX10_144 pv_s_model (by decide) (by decide) rfl pv_k_model ?_
      refine px_aload_n dX10_append_62 rfl ?_
      refine px_getI dX10_append_63 flX10_144 pv_s_model (by decide) (by decide) rfl pv_k_model ?_
      refine px_iv (y := nI (B.length + 1)) (by simp [pv_uI_at]) ?_
      unfold po_append at h
      simp only [tn, a3] at h
      rw [if_pos ha0] at h
      rw [if_pos (show B.length < 60 by omega)] at h
      refine px_iret dX10_append_66 rfl (Or.inl rfl) (h _ _ ⟨?_, MSV_of hS0 ?_ ?_, ?_, ?_, fun j hj => ?_⟩ (fun k hk => ?_) ?_ (fun _ => rfl))
      · rw [pv_uI_ne (by omega), pv_uI_ne (by omega)]; exact hM0
      · simp only [pv_uI_at]; rw [if_neg (by omega), if_neg (by omega)]
      · rw [pv_uI_ne (by omega), pv_uI_ne (by omega)]
      · simp only [pv_uI_at]; rw [if_pos (by simp), List.length_append]; rfl
      · show (B ++ [a]).length ≤ 60
        rw [List.length_append]; simp; omega
      · replace hj : j < (B ++ [a]).length := hj
        rw [List.length_append] at hj
        replace hj : j < B.length + 1 := hj
        show pv_uI _ _ _ _ 369 j = nI ((B ++ [a]).getD j 0)
        simp only [pv_uI_at]
        rw [if_neg (by omega), List.getD_eq_getElem?_getD]
        by_cases e : j = B.length
        · subst e
          rw [if_pos (by simp), List.getElem?_append_right (Nat.le_refl _)]
          simp
        · rw [if_neg (by omega), List.getElem?_append_left (by omega), ← List.getD_eq_getElem?_getD]
          exact hB0.2.2 j (by omega)
      · rw [pv_uI_ne (by omega), pv_uI_ne (by omega)]; exact hK0 k hk
      · simp only [pv_uI_at]; rw [if_neg (by omega), if_neg (by omega)]; exact hT0
    · refine px_iconst (v := nI 2) dX10_append_25 (by decide) ?_
      refine px_goto (tgt := 30) dX10_append_26 (by decide) ?_
      refine px_putI dX10_append_30 fwX10_31 pv_s_model (by decide) (by decide) rfl pv_k_model ?_
      refine px_aload_n dX10_append_33 rfl ?_
      refine px_getI dX10_append_34 flX10_31 pv_s_model (by decide) (by decide) rfl pv_k_model ?_
      refine px_iv (y := nI (2)) (by simp [pv_uI_at]) ?_
      refine px_if_leN (tgt := 42) dX10_append_37 (by decide) (by omega) (fun h0 => absurd h0 (by omega)) (fun _ => ?_)
      refine px_iconst (v := nI 0) dX10_append_40 (by decide) ?_
      exact px_iret dX10_append_41 rfl (Or.inl rfl) (pm_exc (by unfold po_append at h; simp only [tn, a3] at h; rw [if_pos ha0] at h; rw [if_neg (by omega)] at h; exact h) hMA)
  · refine px_iconst (v := nI 1) dX10_append_12 (by decide) ?_
    refine px_goto (tgt := 30) dX10_append_13 (by decide) ?_
    refine px_putI dX10_append_30 fwX10_31 pv_s_model (by decide) (by decide) rfl pv_k_model ?_
    refine px_aload_n dX10_append_33 rfl ?_
    refine px_getI dX10_append_34 flX10_31 pv_s_model (by decide) (by decide) rfl pv_k_model ?_
    refine px_iv (y := nI (1)) (by simp [pv_uI_at]) ?_
    refine px_if_leN (tgt := 42) dX10_append_37 (by decide) (by omega) (fun h0 => absurd h0 (by omega)) (fun _ => ?_)
    refine px_iconst (v := nI 0) dX10_append_40 (by decide) ?_
    exact px_iret dX10_append_41 rfl (Or.inl rfl) (pm_exc (by unfold po_append at h; rw [if_neg ha] at h; exact h) hMA)
theorem c_X10_append {z : pv_Z} {E : pv_E} {d bc bs : Nat} {J : pv_JT} {I : pv_IT} {mi : pv_MI} {pc idx : Nat} {lv : pv_LV} {st : List Value} {T : pv_T} {L : List pv_Lot} {H : List pv_S} {B : List Nat} {n : Nat} {a0 : Int32} (hd : decode mi.2.1 pc = .ok (.invokevirtual idx, 3)) (hlk : Cond.methodLink mi.1.cls idx mX10_append.1 ∈ pv_W) (hD : 8+1 ≤ d) (hMA : MA I ((T, L), H, B)) (hw : wx n ((T, L), H, B)) (hn : n ≤ 600) (hcat : (st.map fun v => v.category).sum ≤ 8) (K : pm_ok (pv_K z E d bc bs mi pc lv st) I J (po_append ((T, L), H, B) a0)) : pv_X z E d bc bs mi pc lv (.int (a0) :: .ref (365) :: st) pv_K0 pv_P0 I J := by
  obtain ⟨d, rfl⟩ : ∃ d0, d = d0 + 1 := ⟨d - 1, by omega⟩
  have key := px_callV (bc := bc) (bs := bs) (bc1 := 0) (bs1 := 0) (as := [.int (a0)]) (E := E) (z := z) (lv := lv) hd mvX10_append hlk pv_s_model (by decide) rfl pv_k_model rfl rfl hcat (by exact Nat.le_of_ble_eq_true rfl) (s_X10_append (by omega) hMA hw hn K)
  rw [Nat.zero_add, Nat.zero_add] at key
  exact key
set_option maxRecDepth 100000 in
set_option maxHeartbeats 4000000 in
theorem s_X10_clearBuffer {Q : pv_Q} {E : pv_E} {d bc bs : Nat} {J : pv_JT} {I : pv_IT} {T : pv_T} {L : List pv_Lot} {H : List pv_S} {B : List Nat} {n : Nat} (hD : 8 ≤ d) (hMA : MA I ((T, L), H, B)) (hw : wx n ((T, L), H, B)) (hn : n ≤ 600) (h : pm_ok Q I J (po_clear ((T, L), H, B) )) : pv_X (pv_ZQ E Q) E d bc bs mX10_clearBuffer 0 [(0, .ref (365))] [] pv_K0 pv_P0 I J := by
  obtain ⟨hM, hS, hB⟩ := id hMA
  replace hM : MR (I 366) T L := hM
  replace hS : MSV I H := hS
  replace hB : MB I B := hB
  have hdy : dy (T, L) := hw.1.1
  have htb : tb T := hdy.1
  have hlb : lbs L := hdy.2.1
  have h31 : L.length ≤ 31 := hlb.1
  have h30 : L.length ≤ 30 := hw.1.2.1
  have h404 : T 404 ≤ 60 * n := hw.1.2.2.1
  have hn8 : T 405 ≤ 8 := htb.2.2.1
  have hp8 : T 407 ≤ 8 := htb.2.2.2.2.2.1.1
  have h10 : T 408 ≤ 10 := htb.2.2.2.2.2.2.2.1
  have hwk : wk (T, L) := ⟨hw.1.2.2.2.2.1, hw.1.2.2.2.2.2.1, hw.1.2.2.2.2.2.2⟩
  refine px_aload_n dX10_clearBuffer_0 rfl ?_
  refine px_iconst (v := nI 0) dX10_clearBuffer_1 (by decide) ?_
  refine px_putI dX10_clearBuffer_2 fwX10_31 pv_s_model (by decide) (by decide) rfl pv_k_model ?_
  refine px_aload_n dX10_clearBuffer_5 rfl ?_
  refine px_getI dX10_clearBuffer_6 flX10_144 pv_s_model (by decide) (by decide) rfl pv_k_model ?_
  refine px_iv (y := nI (B.length)) (Eq.trans (by simp only [pv_uI_at]; repeat' (first | rfl | omega | split)) (hB.1)) ?_
  refine px_istore_n dX10_clearBuffer_9 (by decide) ?_
  refine px_aload_n dX10_clearBuffer_10 rfl ?_
  refine px_iconst (v := nI 0) dX10_clearBuffer_11 (by decide) ?_
  refine px_putI dX10_clearBuffer_12 fwX10_144 pv_s_model (by decide) (by decide) rfl pv_k_model ?_
  refine px_iload_n dX10_clearBuffer_15 rfl ?_
  refine px_iret dX10_clearBuffer_16 rfl (Or.inl rfl) (h _ _ ⟨?_, MSV_of hS ?_ ?_, ?_, Nat.zero_le _, fun j hj => absurd hj (Nat.not_lt_zero _)⟩ (fun k hk => ?_) ?_ (fun _ => rfl))
  · rw [pv_uI_ne (by omega), pv_uI_ne (by omega)]; exact hM
  · simp only [pv_uI_at]; rw [if_neg (by omega), if_neg (by omega)]
  · rw [pv_uI_ne (by omega), pv_uI_ne (by omega)]
  · simp only [pv_uI_at]; rw [if_pos (by simp)]; rfl
  · rw [pv_uI_ne (by omega), pv_uI_ne (by omega)]
  · simp only [pv_uI_at]; rw [if_neg (by omega), if_pos (by simp)]; rfl
theorem c_X10_clearBuffer {z : pv_Z} {E : pv_E} {d bc bs : Nat} {J : pv_JT} {I : pv_IT} {mi : pv_MI} {pc idx : Nat} {lv : pv_LV} {st : List Value} {T : pv_T} {L : List pv_Lot} {H : List pv_S} {B : List Nat} {n : Nat} (hd : decode mi.2.1 pc = .ok (.invokevirtual idx, 3)) (hlk : Cond.methodLink mi.1.cls idx mX10_clearBuffer.1 ∈ pv_W) (hD : 8+1 ≤ d) (hMA : MA I ((T, L), H, B)) (hw : wx n ((T, L), H, B)) (hn : n ≤ 600) (hcat : (st.map fun v => v.category).sum ≤ 8) (K : pm_ok (pv_K z E d bc bs mi pc lv st) I J (po_clear ((T, L), H, B) )) : pv_X z E d bc bs mi pc lv (.ref (365) :: st) pv_K0 pv_P0 I J := by
  obtain ⟨d, rfl⟩ : ∃ d0, d = d0 + 1 := ⟨d - 1, by omega⟩
  have key := px_callV (bc := bc) (bs := bs) (bc1 := 0) (bs1 := 0) (as := []) (E := E) (z := z) (lv := lv) hd mvX10_clearBuffer hlk pv_s_model (by decide) rfl pv_k_model rfl rfl hcat (by exact Nat.le_of_ble_eq_true rfl) (s_X10_clearBuffer (by omega) hMA hw hn K)
  rw [Nat.zero_add, Nat.zero_add] at key
  exact key
set_option maxRecDepth 100000 in
set_option maxHeartbeats 4000000 in
theorem s_X10_undo {Q : pv_Q} {E : pv_E} {d bc bs : Nat} {J : pv_JT} {I : pv_IT} {T : pv_T} {L : List pv_Lot} {H : List pv_S} {B : List Nat} {n : Nat} (hD : 8 ≤ d) (hMA : MA I ((T, L), H, B)) (hw : wx n ((T, L), H, B)) (hn : n ≤ 600) (h : pm_ok Q I J (po_undo ((T, L), H, B) )) : pv_X (pv_ZQ E Q) E d bc bs mX10_undo 0 [(0, .ref (365))] [] pv_K0 pv_P0 I J := by
  obtain ⟨hM, hS, hB⟩ := id hMA
  replace hM : MR (I 366) T L := hM
  replace hS : MSV I H := hS
  replace hB : MB I B := hB
  have hdy : dy (T, L) := hw.1.1
  have htb : tb T := hdy.1
  have hlb : lbs L := hdy.2.1
  have h31 : L.length ≤ 31 := hlb.1
  have h30 : L.length ≤ 30 := hw.1.2.1
  have h404 : T 404 ≤ 60 * n := hw.1.2.2.1
  have hn8 : T 405 ≤ 8 := htb.2.2.1
  have hp8 : T 407 ≤ 8 := htb.2.2.2.2.2.1.1
  have h10 : T 408 ≤ 10 := htb.2.2.2.2.2.2.2.1
  have hwk : wk (T, L) := ⟨hw.1.2.2.2.2.1, hw.1.2.2.2.2.2.1, hw.1.2.2.2.2.2.2⟩
  obtain ⟨s1, s2, s3⟩ := id hS
  refine px_aload_n dX10_undo_0 rfl ?_
  refine px_aload_n dX10_undo_1 rfl ?_
  refine px_getI dX10_undo_2 flX10_39 pv_s_model (by decide) (by decide) rfl pv_k_model ?_
  refine px_iv (y := nI (H.length)) (s1) ?_
  refine px_if_neN (tgt := 12) dX10_undo_5 (by decide) (by omega) (fun h5 => ?_) (fun h5 => ?_)
  · refine px_iconst (v := nI 0) dX10_undo_12 (by decide) ?_
    refine px_putI dX10_undo_13 fwX10_31 pv_s_model (by decide) (by decide) rfl pv_k_model ?_
    refine px_aload_n dX10_undo_16 rfl ?_
    refine px_getI dX10_undo_17 flX10_31 pv_s_model (by decide) (by decide) rfl pv_k_model ?_
    refine px_iv (y := nI (0)) (by simp [pv_uI_at]) ?_
    refine px_if_leN (tgt := 25) dX10_undo_20 (by decide) (by omega) (fun _ => ?_) (fun h0 => absurd h0 (by omega))
    obtain ⟨I0, hI0⟩ : ∃ I0, I0 = pv_uI I 365 0 (nI 0) := ⟨_, rfl⟩
    rw [← hI0]
    obtain ⟨hM0, hS0, hB0, hT0, hK0, hF0, hG0⟩ := pm_zero hM hS hB hI0
    obtain ⟨t1, t2, t3⟩ := hS0
    refine px_aload_n dX10_undo_25 rfl ?_
    refine px_dup dX10_undo_26 rfl ?_
    refine px_getI dX10_undo_27 flX10_39 pv_s_model (by decide) (by decide) rfl pv_k_model ?_
    refine px_iv (y := nI (H.length)) (t1) ?_
    refine px_iconst (v := nI 1) dX10_undo_30 (by decide) ?_
    refine px_isubN (by omega) dX10_undo_31 ?_
    refine px_putI dX10_undo_32 fwX10_39 pv_s_model (by decide) (by decide) rfl pv_k_model ?_
    refine px_aload_n dX10_undo_35 rfl ?_
    have hI2a : pv_uI I0 365 3 (nI (H.length - 1)) 365 3 = nI (H.length - 1) := by rw [pv_uI_self, pk_us]
    have hI2b : ∀ k0, k0 ≠ 365 → pv_uI I0 365 3 (nI (H.length - 1)) k0 = I0 k0 := fun k0 hk => pv_uI_ne hk
    have hI2c : ∀ j, j ≠ 3 → pv_uI I0 365 3 (nI (H.length - 1)) 365 j = I0 365 j := fun j hj => by rw [pv_uI_self, pk_un hj]
    generalize pv_uI I0 365 3 (nI (H.length - 1)) = I2 at hI2a hI2b hI2c ⊢
    refine px_getR dX10_undo_36 flX10_16 pv_s_model (by decide) (by decide) rfl pv_k_model pv_p_365_4 ?_
    refine px_sipush (v := nI 413) dX10_undo_39 (by decide) ?_
    refine px_aload_n dX10_undo_42 rfl ?_
    refine px_getI dX10_undo_43 flX10_39 pv_s_model (by decide) (by decide) rfl pv_k_model ?_
    refine px_iv (y := nI (H.length - 1)) (hI2a) ?_
    refine px_imulN dX10_undo_46 ?_
    refine px_aload_n dX10_undo_47 rfl ?_
    refine px_getR dX10_undo_48 flX10_7 pv_s_model (by decide) (by decide) rfl pv_k_model pv_p_365_1 ?_
    refine px_iconst (v := nI 0) dX10_undo_51 (by decide) ?_
    refine c_X10_copy dX10_undo_52 mlX10_42 (by omega) pv_a_saved pv_a_z (by omega) (by omega) (by omega) (Nat.le_of_ble_eq_true rfl) (fun I3 h3 hF3 => ?_)
    refine px_aload_n dX10_undo_55 rfl ?_
    refine px_getI dX10_undo_56 flX10_39 pv_s_model (by decide) (by decide) rfl pv_k_model ?_
    refine px_iv (y := nI (H.length - 1)) ((hF3 365 3 (by omega)).trans hI2a) ?_
    unfold po_undo at h
    rw [if_pos (show 1 ≤ H.length by omega)] at h
    refine px_iret dX10_undo_59 rfl (Or.inl rfl) (h _ _ ⟨?_, ⟨?_, ?_, fun j hj => ?_⟩, MB_of hB0 ?_ ?_⟩ (fun k hk => ?_) ?_ (fun _ => rfl))
    · refine MR_of (t3 (H.length - 1) (by omega)) fun i hi => ?_
      have e4 := h3 i hi
      rw [Nat.zero_add, hI2b 368 (by omega)] at e4
      exact e4
    · rw [hF3 365 3 (by omega), hI2a]; exact congrArg nI List.length_dropLast.symm
    · show H.dropLast.length ≤ 6
      rw [List.length_dropLast]; omega
    · replace hj : j < H.dropLast.length := hj
      rw [List.length_dropLast] at hj
      show MR _ (hg H.dropLast j).1 (hg H.dropLast j).2
      rw [hg_last hj]
      exact MR_of (t3 j (by omega)) fun i hi => (hF3 368 _ (by omega)).trans (congrFun (hI2b 368 (by omega)) _)
    · rw [hF3 365 5 (by omega), hI2c 5 (by omega)]
    · exact (funext fun j => hF3 369 j (by omega)).trans (hI2b 369 (by omega))
    · exact (funext fun j => hF3 k j (by omega)).trans ((hI2b k (by omega)).trans (hK0 k hk))
    · rw [hF3 365 0 (by omega), hI2c 0 (by omega)]; exact hT0
  · refine px_iconst (v := nI 1) dX10_undo_8 (by decide) ?_
    refine px_goto (tgt := 13) dX10_undo_9 (by decide) ?_
    refine px_putI dX10_undo_13 fwX10_31 pv_s_model (by decide) (by decide) rfl pv_k_model ?_
    refine px_aload_n dX10_undo_16 rfl ?_
    refine px_getI dX10_undo_17 flX10_31 pv_s_model (by decide) (by decide) rfl pv_k_model ?_
    refine px_iv (y := nI (1)) (by simp [pv_uI_at]) ?_
    refine px_if_leN (tgt := 25) dX10_undo_20 (by decide) (by omega) (fun h0 => absurd h0 (by omega)) (fun _ => ?_)
    refine px_iconst (v := nI 0) dX10_undo_23 (by decide) ?_
    exact px_iret dX10_undo_24 rfl (Or.inl rfl) (pm_exc (by unfold po_undo at h; rw [if_neg (show ¬ 1 ≤ H.length by omega)] at h; exact h) hMA)
theorem c_X10_undo {z : pv_Z} {E : pv_E} {d bc bs : Nat} {J : pv_JT} {I : pv_IT} {mi : pv_MI} {pc idx : Nat} {lv : pv_LV} {st : List Value} {T : pv_T} {L : List pv_Lot} {H : List pv_S} {B : List Nat} {n : Nat} (hd : decode mi.2.1 pc = .ok (.invokevirtual idx, 3)) (hlk : Cond.methodLink mi.1.cls idx mX10_undo.1 ∈ pv_W) (hD : 8+1 ≤ d) (hMA : MA I ((T, L), H, B)) (hw : wx n ((T, L), H, B)) (hn : n ≤ 600) (hcat : (st.map fun v => v.category).sum ≤ 8) (K : pm_ok (pv_K z E d bc bs mi pc lv st) I J (po_undo ((T, L), H, B) )) : pv_X z E d bc bs mi pc lv (.ref (365) :: st) pv_K0 pv_P0 I J := by
  obtain ⟨d, rfl⟩ : ∃ d0, d = d0 + 1 := ⟨d - 1, by omega⟩
  have key := px_callV (bc := bc) (bs := bs) (bc1 := 0) (bs1 := 0) (as := []) (E := E) (z := z) (lv := lv) hd mvX10_undo hlk pv_s_model (by decide) rfl pv_k_model rfl rfl hcat (by exact Nat.le_of_ble_eq_true rfl) (s_X10_undo (by omega) hMA hw hn K)
  rw [Nat.zero_add, Nat.zero_add] at key
  exact key
