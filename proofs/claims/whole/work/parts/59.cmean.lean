/-! The class: the mean age, its bits. -/
theorem pl_add1 {a : Nat} : lN a + 1 = lN (a + 1) := by rw [lN_add2]; rfl
theorem pl_sub1 {a : Nat} (h : 1 ≤ a) : lN a - 1 = lN (a - 1) := by
  have e : lN a = lN (a - 1) + 1 := by rw [pl_add1]; exact congrArg lN (by omega)
  rw [e, Int64.add_sub_cancel]
set_option maxRecDepth 100000 in
set_option maxHeartbeats 4000000 in
theorem s_X9_meanAge {Q : pv_Q} {E : pv_E} {d bc bs : Nat} {J : pv_JT} {I : pv_IT} {T : pv_T} {L : List pv_Lot} {H : List pv_S} {B : List Nat} {n : Nat} (hD : 8 ≤ d) (hCA : CA I ((T, L), H, B)) (hw : wx n ((T, L), H, B)) (hn : n ≤ 600) (h : Q (.inl (some (.double (pt_mean L)))) pv_K0 pv_P0 (I) (J)) : pv_X (pv_ZQ E Q) E d bc bs mX9_meanAge 0 [(0, .ref (0))] [] pv_K0 pv_P0 I J := by
  obtain ⟨hC, hH, hB⟩ := id hCA
  replace hC : CR I 1 T L := hC
  replace hH : HR I H := hH
  replace hB : TXc I B := hB
  have hdy : dy (T, L) := hw.1.1
  have htb : tb T := hdy.1
  have hlb : lbs L := hdy.2.1
  have h31 : L.length ≤ 31 := hlb.1
  have h30 : L.length ≤ 30 := hw.1.2.1
  have h404 : T 404 ≤ 60 * n := hw.1.2.2.1
  have hn8 : T 405 ≤ 8 := htb.2.2.1
  have hp8 : T 407 ≤ 8 := htb.2.2.2.2.2.1.1
  have h10 : T 408 ≤ 10 := htb.2.2.2.2.2.2.2.1
  have hag := ps_age_le hlb
  have hal := ps_all_le hlb
  refine px_aload_n dX9_meanAge_0 rfl ?_
  refine px_getR dX9_meanAge_1 flX9_10 pv_s_main (by decide) (by decide) rfl pv_k_main pv_p_0_0 ?_
  refine px_getR dX9_meanAge_4 flX9_66 pv_ship_1.1 (by decide) (by decide) rfl pv_ship_1.2.1 pv_ship_1.2.2.2.2.1.1 ?_
  refine c_X2_rations dX9_meanAge_7 mlX9_196 (by omega) pv_ship_1.2.2.2.2.1.2 hC.2.2.2.1 (Nat.le_of_ble_eq_true rfl) ?_
  refine px_istore_n dX9_meanAge_10 (by decide) ?_
  refine px_iload_n dX9_meanAge_11 rfl ?_
  refine px_iconst (v := nI 1) dX9_meanAge_12 (by decide) ?_
  refine px_icmp_geN (tgt := 20) dX9_meanAge_13 (by decide) (by omega) (by omega) (fun h0 => ?_) (fun h0 => ?_)
  · refine px_aload_n dX9_meanAge_20 rfl ?_
    refine px_getR dX9_meanAge_21 flX9_10 pv_s_main (by decide) (by decide) rfl pv_k_main pv_p_0_0 ?_
    refine px_getR dX9_meanAge_24 flX9_66 pv_ship_1.1 (by decide) (by decide) rfl pv_ship_1.2.1 pv_ship_1.2.2.2.2.1.1 ?_
    refine c_X2_ageSum dX9_meanAge_27 mlX9_334 (by omega) pv_ship_1.2.2.2.2.1.2 hC.2.2.2.1 (Nat.le_of_ble_eq_true rfl) ?_
    refine px_l2d dX9_meanAge_30 ?_
    refine px_iload_n dX9_meanAge_31 rfl ?_
    refine px_i2d dX9_meanAge_32 ?_
    have hm : pt_mean L = FP.ddiv (fbi (ps_age L)) (fbi (ps_all L)) := if_neg (by omega)
    rw [fbi_l (by omega), fbi_i (by omega)]
    refine px_ddiv dX9_meanAge_33 (by rw [← hm]; exact pt_mean_n64 hlb) ?_
    rw [← hm]
    exact px_dret dX9_meanAge_34 rfl (Or.inl rfl) (h)
  · rw [show pt_mean L = 0 from if_pos (by omega)] at h
    refine px_dconst0 dX9_meanAge_16 ?_
    refine px_goto (tgt := 34) dX9_meanAge_17 (by decide) ?_
    exact px_dret dX9_meanAge_34 rfl (Or.inl rfl) (h)
theorem c_X9_meanAge {z : pv_Z} {E : pv_E} {d bc bs : Nat} {J : pv_JT} {I : pv_IT} {mi : pv_MI} {pc idx : Nat} {lv : pv_LV} {st : List Value} {T : pv_T} {L : List pv_Lot} {H : List pv_S} {B : List Nat} {n : Nat} (hd : decode mi.2.1 pc = .ok (.invokevirtual idx, 3)) (hlk : Cond.methodLink mi.1.cls idx mX9_meanAge.1 ∈ pv_W) (hD : 8+1 ≤ d) (hCA : CA I ((T, L), H, B)) (hw : wx n ((T, L), H, B)) (hn : n ≤ 600) (hcat : (st.map fun v => v.category).sum ≤ 8) (K : pv_X z E d bc bs mi (pc + 3) lv ((.double (pt_mean L)) :: st) pv_K0 pv_P0 (I) (J)) : pv_X z E d bc bs mi pc lv (.ref (0) :: st) pv_K0 pv_P0 I J := by
  obtain ⟨d, rfl⟩ : ∃ d0, d = d0 + 1 := ⟨d - 1, by omega⟩
  have key := px_callV (bc := bc) (bs := bs) (bc1 := 0) (bs1 := 0) (as := []) (E := E) (z := z) (lv := lv) hd mvX9_meanAge hlk pv_s_main (by decide) rfl pv_k_main rfl rfl hcat (by exact Nat.le_of_ble_eq_true rfl) (s_X9_meanAge (by omega) hCA hw hn K)
  rw [Nat.zero_add, Nat.zero_add] at key
  exact key
set_option maxRecDepth 100000 in
set_option maxHeartbeats 4000000 in
theorem s_X9_bitsOf {Q : pv_Q} {E : pv_E} {d bc bs : Nat} {J : pv_JT} {I : pv_IT} {x : UInt64} (hD : 0 ≤ d) (hx : x = 0 ∨ ∃ E t : Nat, t < 4503599627370496 ∧ 1005 ≤ E ∧ E ≤ 1051 ∧ x = fbu E t) (h : Q (.inl (some (.long x.toInt64))) pv_K0 pv_P0 (I) (J)) : pv_X (pv_ZQ E Q) E d bc bs mX9_bitsOf 0 [(0, .double x)] [] pv_K0 pv_P0 I J := by
  rcases hx with e0 | ⟨E0, t, ht, hE1, hE2, e0⟩
  · subst e0
    refine px_dload_n dX9_bitsOf_0 rfl ?_
    refine px_dconst0 dX9_bitsOf_1 ?_
    refine px_dcmp dX9_bitsOf_2 ?_
    refine px_iv (y := nI 0) (by rw [show FP.dcmp 0 FP.dconst0 = some .eq from fb_cmp_00]; decide) ?_
    refine px_if_gtN (tgt := 8) dX9_bitsOf_3 (by decide) (by omega) (fun h0 => absurd h0 (by omega)) (fun _ => ?_)
    refine px_lconst dX9_bitsOf_6 rfl ?_
    exact px_lret dX9_bitsOf_7 rfl (Or.inl rfl) (h)
  · subst e0
    refine px_dload_n dX9_bitsOf_0 rfl ?_
    refine px_dconst0 dX9_bitsOf_1 ?_
    refine px_dcmp dX9_bitsOf_2 ?_
    refine px_iv (y := nI 1) (by rw [fbu_0 (by omega) (by omega) ht]; decide) ?_
    refine px_if_gtN (tgt := 8) dX9_bitsOf_3 (by decide) (by omega) (fun _ => ?_) (fun h0 => absurd h0 (by omega))
    obtain ⟨k1, hk1⟩ : ∃ k1, k1 = E0 - 1023 := ⟨_, rfl⟩
    obtain ⟨k2, hk2⟩ : ∃ k2, k2 = 1023 - E0 := ⟨_, rfl⟩
    have key2 : ∀ i : Nat, i ≤ k2 → pv_X (pv_ZQ E Q) E d bc bs mX9_bitsOf 55 [(0, .double (fbu E0 t)), (2, .double (fbu (E0 - k1 + (i)) t)), (4, .long (lN (1023 + k1 - (i)))), (6, .int (nI (i)))] [] pv_K0 pv_P0 (I) (J) := by
      refine pv_up (k2) ?_ ?_
      · refine px_iload dX9_bitsOf_55 rfl ?_
        refine px_sipush (v := nI 1024) dX9_bitsOf_57 (by decide) ?_
        refine px_icmp_geN (tgt := 87) dX9_bitsOf_60 (by decide) (by omega) (by omega) (fun h0 => absurd h0 (by omega)) (fun _ => ?_)
        refine px_dload_n dX9_bitsOf_63 rfl ?_
        refine px_dconst1 dX9_bitsOf_64 ?_
        refine px_dcmp dX9_bitsOf_65 ?_
        have hcv : 0 ≤ (Op.cmpValue (FP.dcmp (fbu (E0 - k1 + k2) t) FP.dconst1) .g) := by
          rcases fbu_ge1 (e := E0 - k1 + k2) (by omega) (by omega) ht with hc | hc
          · rw [hc]; decide
          · rw [hc]; decide
        refine px_if_ge (tgt := 87) dX9_bitsOf_66 (by decide) (fun _ => ?_) (fun h0 => absurd hcv h0)
        rw [show E0 - k1 + k2 = 1023 by omega, show 1023 + k1 - k2 = E0 by omega]
        refine px_lload dX9_bitsOf_87 rfl ?_
        refine px_bipush (v := nI 52) dX9_bitsOf_89 (by decide) ?_
        refine px_lshl dX9_bitsOf_91 ?_
        refine px_dload_n dX9_bitsOf_92 rfl ?_
        refine px_dconst1 dX9_bitsOf_93 ?_
        refine px_dsub dX9_bitsOf_94 (fbu_subn ht).1 ?_
        refine px_ldc2d (v := 4841369599423283200) dX9_bitsOf_95 (pv_t 711 (by decide +kernel) rfl) ?_
        refine px_dmul dX9_bitsOf_98 (fbu_subn ht).2 ?_
        refine px_d2l dX9_bitsOf_99 ?_
        refine px_ladd dX9_bitsOf_100 ?_
        rw [fbu_frac ht]
        exact px_lret dX9_bitsOf_101 rfl (Or.inl rfl) (by rw [← fbu_bits] at h; exact h)
      · intro i hi K 
        refine px_iload dX9_bitsOf_55 rfl ?_
        refine px_sipush (v := nI 1024) dX9_bitsOf_57 (by decide) ?_
        refine px_icmp_geN (tgt := 87) dX9_bitsOf_60 (by decide) (by omega) (by omega) (fun h0 => absurd h0 (by omega)) (fun _ => ?_)
        refine px_dload_n dX9_bitsOf_63 rfl ?_
        refine px_dconst1 dX9_bitsOf_64 ?_
        refine px_dcmp dX9_bitsOf_65 ?_
        refine px_iv (y := -1) (by rw [fbu_lt1 (by omega) (by omega) ht]; decide) ?_
        refine px_if_ge (tgt := 87) dX9_bitsOf_66 (by decide) (fun h0 => absurd h0 (by decide)) (fun _ => ?_)
        refine px_dload_n dX9_bitsOf_69 rfl ?_
        refine px_ldc2d (v := 4611686018427387904) dX9_bitsOf_70 (pv_t 710 (by decide +kernel) rfl) ?_
        refine px_dmul dX9_bitsOf_73 (by rw [fbu_dbl (by omega) (by omega) ht]; exact fbu_n64 (by omega) ht) ?_
        rw [fbu_dbl (by omega) (by omega) ht]
        refine px_dstore_n dX9_bitsOf_74 (by decide) ?_
        refine px_lload dX9_bitsOf_75 rfl ?_
        refine px_lconst dX9_bitsOf_77 rfl ?_
        refine px_lsub dX9_bitsOf_78 ?_
        refine px_lstore dX9_bitsOf_79 (by decide) ?_
        refine px_iincN (c := 1) (by decide) dX9_bitsOf_81 rfl (by decide) ?_
        refine px_goto (tgt := 55) dX9_bitsOf_84 (by decide) ?_
        refine px_keep [0, 2, 4, 6] ?_
        rw [show lN (1023 + k1 - i) - Int64.ofNat ((1 : Fin 2) : Nat) = lN (1023 + k1 - (i + 1)) from (pl_sub1 (by omega)).trans (congrArg lN (by omega)), show E0 - k1 + i + 1 = E0 - k1 + (i + 1) by omega]
        exact K
    have key1 : ∀ i : Nat, i ≤ k1 → pv_X (pv_ZQ E Q) E d bc bs mX9_bitsOf 18 [(0, .double (fbu E0 t)), (2, .double (fbu (E0 - (i)) t)), (4, .long (lN (1023 + (i)))), (6, .int (nI (i)))] [] pv_K0 pv_P0 (I) (J) := by
      refine pv_up (k1) ?_ ?_
      · refine px_iload dX9_bitsOf_18 rfl ?_
        refine px_sipush (v := nI 1024) dX9_bitsOf_20 (by decide) ?_
        refine px_icmp_geN (tgt := 52) dX9_bitsOf_23 (by decide) (by omega) (by omega) (fun h0 => absurd h0 (by omega)) (fun _ => ?_)
        refine px_dload_n dX9_bitsOf_26 rfl ?_
        refine px_ldc2d (v := 4611686018427387904) dX9_bitsOf_27 (pv_t 710 (by decide +kernel) rfl) ?_
        refine px_dcmp dX9_bitsOf_30 ?_
        refine px_iv (y := -1) (by rw [fbu_lt2 (by omega) (by omega) ht]; decide) ?_
        refine px_if_lt (tgt := 52) dX9_bitsOf_31 (by decide) (fun _ => ?_) (fun h0 => absurd (by decide) h0)
        refine px_iconst (v := nI 0) dX9_bitsOf_52 (by decide) ?_
        refine px_istore dX9_bitsOf_53 (by decide) ?_
        refine px_keep [0, 2, 4, 6] ?_
        exact key2 0 (by omega)
      · intro i hi K 
        refine px_iload dX9_bitsOf_18 rfl ?_
        refine px_sipush (v := nI 1024) dX9_bitsOf_20 (by decide) ?_
        refine px_icmp_geN (tgt := 52) dX9_bitsOf_23 (by decide) (by omega) (by omega) (fun h0 => absurd h0 (by omega)) (fun _ => ?_)
        refine px_dload_n dX9_bitsOf_26 rfl ?_
        refine px_ldc2d (v := 4611686018427387904) dX9_bitsOf_27 (pv_t 710 (by decide +kernel) rfl) ?_
        refine px_dcmp dX9_bitsOf_30 ?_
        have hcv : ¬ (Op.cmpValue (FP.dcmp (fbu (E0 - i) t) 4611686018427387904) .l) < 0 := by
          rcases fbu_ge2 (e := E0 - i) (by omega) (by omega) ht with hc | hc
          · rw [hc]; decide
          · rw [hc]; decide
        refine px_if_lt (tgt := 52) dX9_bitsOf_31 (by decide) (fun h0 => absurd h0 hcv) (fun _ => ?_)
        refine px_dload_n dX9_bitsOf_34 rfl ?_
        refine px_ldc2d (v := 4611686018427387904) dX9_bitsOf_35 (pv_t 710 (by decide +kernel) rfl) ?_
        refine px_ddiv dX9_bitsOf_38 (by rw [fbu_half (by omega) (by omega) ht]; exact fbu_n64 (by omega) ht) ?_
        rw [fbu_half (by omega) (by omega) ht]
        refine px_dstore_n dX9_bitsOf_39 (by decide) ?_
        refine px_lload dX9_bitsOf_40 rfl ?_
        refine px_lconst dX9_bitsOf_42 rfl ?_
        refine px_ladd dX9_bitsOf_43 ?_
        refine px_lstore dX9_bitsOf_44 (by decide) ?_
        refine px_iincN (c := 1) (by decide) dX9_bitsOf_46 rfl (by decide) ?_
        refine px_goto (tgt := 18) dX9_bitsOf_49 (by decide) ?_
        refine px_keep [0, 2, 4, 6] ?_
        rw [show lN (1023 + i) + Int64.ofNat ((1 : Fin 2) : Nat) = lN (1023 + (i + 1)) from pl_add1, show E0 - i - 1 = E0 - (i + 1) by omega]
        exact K
    refine px_dload_n dX9_bitsOf_8 rfl ?_
    refine px_dstore_n dX9_bitsOf_9 (by decide) ?_
    refine px_ldc2l (v := 1023) dX9_bitsOf_10 (pv_t 709 (by decide +kernel) rfl) ?_
    refine px_lstore dX9_bitsOf_13 (by decide) ?_
    refine px_iconst (v := nI 0) dX9_bitsOf_15 (by decide) ?_
    refine px_istore dX9_bitsOf_16 (by decide) ?_
    refine px_keep [0, 2, 4, 6] ?_
    exact key1 0 (by omega)
theorem c_X9_bitsOf {z : pv_Z} {E : pv_E} {d bc bs : Nat} {J : pv_JT} {I : pv_IT} {mi : pv_MI} {pc idx : Nat} {lv : pv_LV} {st : List Value} {x : UInt64} (hd : decode mi.2.1 pc = .ok (.invokestatic idx, 3)) (hlk : Cond.methodLink mi.1.cls idx mX9_bitsOf.1 ∈ pv_W) (hD : 0+1 ≤ d) (hx : x = 0 ∨ ∃ E t : Nat, t < 4503599627370496 ∧ 1005 ≤ E ∧ E ≤ 1051 ∧ x = fbu E t) (hcat : (st.map fun v => v.category).sum ≤ 8) (K : pv_X z E d bc bs mi (pc + 3) lv ((.long x.toInt64) :: st) pv_K0 pv_P0 (I) (J)) : pv_X z E d bc bs mi pc lv (.double x :: st) pv_K0 pv_P0 I J := by
  obtain ⟨d, rfl⟩ : ∃ d0, d = d0 + 1 := ⟨d - 1, by omega⟩
  have key := px_callS (bc := bc) (bs := bs) (bc1 := 0) (bs1 := 0) (as := [.double x]) (E := E) (z := z) (lv := lv) hd msX9_bitsOf hlk rfl rfl hcat (by exact Nat.le_of_ble_eq_true rfl) (s_X9_bitsOf (by omega) hx K)
  rw [Nat.zero_add, Nat.zero_add] at key
  exact key
