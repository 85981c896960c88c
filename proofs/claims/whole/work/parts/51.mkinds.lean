/-! The reference: whether the menus name kinds that are there. -/
theorem pu_hasN {v n : Nat} (hv : v < 2147483648) (hn : n < 2147483648) : pu_has (nI v) n ↔ v < n := by
  unfold pu_has
  rw [nI_leI (by omega) hv, Int32.lt_iff_toInt_lt, nI_toInt hv, nI_toInt hn]
  omega
theorem if_ct {a b : Prop} [Decidable a] [Decidable b] (h : a ↔ b) {x y : Nat} : (if a then x else y) = if b then x else y := by
  by_cases e : a
  · rw [if_pos e, if_pos (h.mp e)]
  · rw [if_neg e, if_neg (fun z => e (h.mpr z))]
theorem MP_of {I I' : pv_IT} {Z : pv_Zp} (h : MP I Z) (h1 : I' 365 10 = I 365 10) (h2 : I' 365 11 = I 365 11) (h3 : I' 371 = I 371) (h4 : I' 372 = I 372) : MP I' Z := by
  unfold MP mpc at h ⊢
  rw [h1, h2, h3, h4]
  exact h
theorem MP_cell {I : pv_IT} {Z : pv_Zp} {m i : Nat} (h : MP I Z) (hm : m ≤ Z.2.1) (hi : i < 3 * Z.2.2.2.2 (120 + m)) : I 371 (12 * m + i) = nI (Z.2.2.2.2 (12 * m + i)) := by
  have g := h.2.2.2.1 m hm (i / 3) (by omega)
  unfold mpc at g
  rcases (by omega : i = 3 * (i / 3) ∨ i = 3 * (i / 3) + 1 ∨ i = 3 * (i / 3) + 2) with e | e | e
  · rw [show 12 * m + i = 12 * m + 3 * (i / 3) by omega]; exact g.1
  · rw [show 12 * m + i = 12 * m + 3 * (i / 3) + 1 by omega]; exact g.2.1
  · rw [show 12 * m + i = 12 * m + 3 * (i / 3) + 2 by omega]; exact g.2.2
def mk_p (W : Nat → Nat) (n m i : Nat) : Prop := W (12 * m + 3 * i) < n ∧ (W (12 * m + 3 * i + 2) = 4294967295 ∨ W (12 * m + 3 * i + 2) < n)
def mk_i (W : Nat → Nat) (n m i : Nat) : Prop := ∀ j, j < i → mk_p W n m j
def mk_m (W : Nat → Nat) (n m : Nat) : Prop := ∀ k, k < m → mk_i W n k (W (120 + k))
theorem mk_i1 {W : Nat → Nat} {n m i : Nat} : mk_i W n m (i + 1) ↔ mk_i W n m i ∧ mk_p W n m i := by
  constructor
  · exact fun h => ⟨fun j hj => h j (by omega), h i (by omega)⟩
  · rintro ⟨h1, h2⟩ j hj
    by_cases e : j = i
    · rw [e]; exact h2
    · exact h1 j (by omega)
theorem mk_m1 {W : Nat → Nat} {n m : Nat} : mk_m W n (m + 1) ↔ mk_m W n m ∧ mk_i W n m (W (120 + m)) := by
  constructor
  · exact fun h => ⟨fun j hj => h j (by omega), h m (by omega)⟩
  · rintro ⟨h1, h2⟩ j hj
    by_cases e : j = m
    · rw [e]; exact h2
    · exact h1 j (by omega)
theorem mk_low {Z : pv_Zp} {n : Nat} (hn : n ≤ 8) (hg : pz_good Z) (hp : Z.1 = 1 ∨ Z.1 = 5 ∨ Z.1 = 7) : Z.2.2.2.1 ≤ n ↔ mk_m Z.2.2.2.2 n (Z.2.1 + 1) := by
  rw [hg.2 n hn]
  unfold pz_low mk_m mk_i mk_p
  constructor
  · exact fun h k hk j hj => h.1 k (by omega) j hj
  · exact fun h => ⟨fun m hm i hi => h m (by omega) i hi, fun hx => absurd hx (by omega)⟩
def mq (T : pv_T) (W : Nat → Nat) (m b c : Nat) : pv_T := fun j => if 314 ≤ j ∧ j < 314 + m + b then W (120 + (j - 314)) else if 194 ≤ j ∧ j < 314 ∧ ((j - 194) / 12 < m ∧ (j - 194) % 12 / 3 < W (120 + (j - 194) / 12) ∨ (j - 194) / 12 = m ∧ (j - 194) % 12 < c) then W (j - 194) else T j
theorem mq_0 {T : pv_T} {W : Nat → Nat} : mq T W 0 0 0 = T := by
  funext j
  unfold mq
  rw [if_neg (by omega), if_neg (by omega)]
theorem mq_len {T : pv_T} {W : Nat → Nat} {m : Nat} : pt_up (mq T W m 0 0) (314 + m) (W (120 + m)) = mq T W m 1 0 := by
  funext j
  unfold pt_up mq
  by_cases e : j = 314 + m
  · subst e
    rw [if_pos rfl, if_pos (by omega)]
    exact congrArg W (by omega)
  · rw [if_neg e]
    by_cases h1 : 314 ≤ j ∧ j < 314 + m + 0
    · rw [if_pos h1, if_pos (by omega)]
    · rw [if_neg h1, if_neg (show ¬ (314 ≤ j ∧ j < 314 + m + 1) from by omega)]
theorem mq_up {T : pv_T} {W : Nat → Nat} {m c : Nat} (hm : m ≤ 9) (hc : c < 12) : pt_up (mq T W m 1 c) (194 + 12 * m + c) (W (12 * m + c)) = mq T W m 1 (c + 1) := by
  funext j
  unfold pt_up mq
  by_cases e : j = 194 + 12 * m + c
  · subst e
    rw [if_pos rfl, if_neg (by omega), if_pos ⟨by omega, by omega, Or.inr ⟨by omega, by omega⟩⟩]
    exact congrArg W (by omega)
  · rw [if_neg e]
    by_cases h1 : 314 ≤ j ∧ j < 314 + m + 1
    · rw [if_pos h1, if_pos h1]
    · rw [if_neg h1, if_neg h1]
      by_cases h2 : 194 ≤ j ∧ j < 314 ∧ ((j - 194) / 12 < m ∧ (j - 194) % 12 / 3 < W (120 + (j - 194) / 12) ∨ (j - 194) / 12 = m ∧ (j - 194) % 12 < c)
      · rw [if_pos h2, if_pos ⟨h2.1, h2.2.1, h2.2.2.elim Or.inl (fun z => Or.inr ⟨z.1, by omega⟩)⟩]
      · rw [if_neg h2, if_neg (fun z => h2 ⟨z.1, z.2.1, z.2.2.elim Or.inl (fun y => Or.inr ⟨y.1, by omega⟩)⟩)]
theorem mq_next {T : pv_T} {W : Nat → Nat} {m : Nat} : mq T W m 1 (3 * W (120 + m)) = mq T W (m + 1) 0 0 := by
  funext j
  unfold mq
  by_cases h1 : 314 ≤ j ∧ j < 314 + m + 1
  · rw [if_pos h1, if_pos (by omega)]
  · rw [if_neg h1, if_neg (show ¬ (314 ≤ j ∧ j < 314 + (m + 1) + 0) from by omega)]
    have e : ((j - 194) / 12 < m ∧ (j - 194) % 12 / 3 < W (120 + (j - 194) / 12) ∨ (j - 194) / 12 = m ∧ (j - 194) % 12 < 3 * W (120 + m)) ↔ ((j - 194) / 12 < m + 1 ∧ (j - 194) % 12 / 3 < W (120 + (j - 194) / 12) ∨ (j - 194) / 12 = m + 1 ∧ (j - 194) % 12 < 0) := by
      by_cases e : (j - 194) / 12 = m
      · rw [e]; omega
      · omega
    exact if_ct (and_congr Iff.rfl (and_congr Iff.rfl e))
theorem mq_end {T : pv_T} {Z : pv_Zp} : pt_up (mq T Z.2.2.2.2 (Z.2.1 + 1) 0 0) 408 (Z.2.1 + 1) = pt_menus T Z := by
  funext j
  unfold pt_up mq pt_menus
  by_cases e : j = 408
  · rw [if_pos e, if_pos e]
  · rw [if_neg e, if_neg e]
    by_cases h1 : 314 ≤ j ∧ j ≤ 314 + Z.2.1
    · rw [if_pos h1, if_pos (by omega)]
    · rw [if_neg h1, if_neg (by omega)]
      have e : (194 ≤ j ∧ j < 314 ∧ ((j - 194) / 12 < Z.2.1 + 1 ∧ (j - 194) % 12 / 3 < Z.2.2.2.2 (120 + (j - 194) / 12) ∨ (j - 194) / 12 = Z.2.1 + 1 ∧ (j - 194) % 12 < 0)) ↔ (194 ≤ j ∧ j < 314 ∧ (j - 194) / 12 ≤ Z.2.1 ∧ (j - 194) % 12 / 3 < Z.2.2.2.2 (120 + (j - 194) / 12)) := by omega
      exact if_ct e
theorem pm_mv {Q : pv_Q} {I I1 : pv_IT} {J : pv_JT} {r : pv_RS} (h : pm_ok Q I J r) (hK : ∀ k, k < 365 → I1 k = I k) : pm_ok Q I1 J r := fun I' b hM hF => h I' b hM (fun k hk => (hF k hk).trans (hK k hk))
set_option maxRecDepth 100000 in
set_option maxHeartbeats 4000000 in
theorem s_X10_areKinds {Q : pv_Q} {E : pv_E} {d bc bs : Nat} {J : pv_JT} {I : pv_IT} {T : pv_T} {L : List pv_Lot} {Z : pv_Zp} (hD : 2 ≤ d) (hM : MR (I 366) T L) (hn8 : T 405 ≤ 8) (hP : MP I Z) (hg : pz_good Z) (hp : Z.1 = 1 ∨ Z.1 = 5 ∨ Z.1 = 7) (h : Q (.inl (some (.int (nI (pv_bl (Z.2.2.2.1 ≤ T 405)))))) pv_K0 pv_P0 (I) (J)) : pv_X (pv_ZQ E Q) E d bc bs mX10_areKinds 0 [(0, .ref (365))] [] pv_K0 pv_P0 I J := by
  have z2 := hg.1.2.1
  have hlow := mk_low hn8 hg hp
  have hcel := hP.2.2.2.1
  have hlen := hP.2.2.1
  have hin := hg.1.2.2.2.2.2.2.1
  have key : ∀ m : Nat, m ≤ Z.2.1 + 1 → ∀ r : Nat, r ≤ 1 → (r = 1 ↔ mk_m Z.2.2.2.2 (T 405) (m)) → pv_X (pv_ZQ E Q) E d bc bs mX10_areKinds 4 [(0, .ref 365), (1, .int (nI r)), (2, .int (nI (m)))] [] pv_K0 pv_P0 (I) (J) := by
    refine pv_up (Z.2.1 + 1) ?_ ?_
    · intro r hr1 hr
      refine px_iload_n dX10_areKinds_4 rfl ?_
      refine px_aload_n dX10_areKinds_5 rfl ?_
      refine px_getI dX10_areKinds_6 flX10_132 pv_s_model (by decide) (by decide) rfl pv_k_model ?_
      refine px_iv (y := nI (Z.2.1)) (hP.1) ?_
      refine px_icmp_gtN (tgt := 99) dX10_areKinds_9 (by decide) (by omega) (by omega) (fun _ => ?_) (fun h0 => absurd h0 (by omega))
      refine px_iload_n dX10_areKinds_99 rfl ?_
      rcases (by omega : r = 0 ∨ r = 1) with e | e
      · subst e
        exact px_zret dX10_areKinds_100 rfl rfl (Or.inl rfl) (by rw [pv_bl0 (fun z => absurd (hr.mpr (hlow.mp z)) (by omega))] at h; exact h)
      · subst e
        exact px_zret dX10_areKinds_100 rfl rfl (Or.inl rfl) (by rw [pv_bl1 (hlow.mpr (hr.mp rfl))] at h; exact h)
    · intro m hi K r hr1 hr
      have KO := K
      clear K
      have hlm := hlen m (by omega)
      have hin4 := (hin m (by omega)).1
      refine px_iload_n dX10_areKinds_4 rfl ?_
      refine px_aload_n dX10_areKinds_5 rfl ?_
      refine px_getI dX10_areKinds_6 flX10_132 pv_s_model (by decide) (by decide) rfl pv_k_model ?_
      refine px_iv (y := nI (Z.2.1)) (hP.1) ?_
      refine px_icmp_gtN (tgt := 99) dX10_areKinds_9 (by decide) (by omega) (by omega) (fun h0 => absurd h0 (by omega)) (fun _ => ?_)
      refine px_iconst (v := nI 0) dX10_areKinds_12 (by decide) ?_
      refine px_istore_n dX10_areKinds_13 (by decide) ?_
      have keyI : ∀ i : Nat, i ≤ Z.2.2.2.2 (120 + m) → ∀ s : Nat, s ≤ 1 → (s = 1 ↔ mk_m Z.2.2.2.2 (T 405) m ∧ mk_i Z.2.2.2.2 (T 405) m (i)) → pv_X (pv_ZQ E Q) E d bc bs mX10_areKinds 14 [(0, .ref 365), (1, .int (nI s)), (2, .int (nI m)), (3, .int (nI (i)))] [] pv_K0 pv_P0 (I) (J) := by
        refine pv_up (Z.2.2.2.2 (120 + m)) ?_ ?_
        · intro s hs1 hs
          refine px_iload_n dX10_areKinds_14 rfl ?_
          refine px_aload_n dX10_areKinds_15 rfl ?_
          refine px_getR dX10_areKinds_16 flX10_28 pv_s_model (by decide) (by decide) rfl pv_k_model pv_p_365_9 ?_
          refine px_iload_n dX10_areKinds_19 rfl ?_
          refine px_iald (j := m) dX10_areKinds_20 pv_a_itof.1 rfl (by omega) pv_a_itof.2.2 pv_a_itof.2.1 ?_
          refine px_iv (y := nI (Z.2.2.2.2 (120 + m))) (hlm) ?_
          refine px_icmp_geN (tgt := 93) dX10_areKinds_21 (by decide) (by omega) (by omega) (fun _ => ?_) (fun h0 => absurd h0 (by omega))
          refine px_iincN (c := 1) (by decide) dX10_areKinds_93 rfl (by decide) ?_
          refine px_goto (tgt := 4) dX10_areKinds_96 (by decide) ?_
          refine px_keep [0, 1, 2] ?_
          exact KO s hs1 (hs.trans mk_m1.symm)
        · intro i hi K s hs1 hs
          have hc := hcel m (by omega) i hi
          unfold mpc at hc
          have hin9 := (hin m (by omega)).2 i hi
          unfold pz_in at hin9
          refine px_iload_n dX10_areKinds_14 rfl ?_
          refine px_aload_n dX10_areKinds_15 rfl ?_
          refine px_getR dX10_areKinds_16 flX10_28 pv_s_model (by decide) (by decide) rfl pv_k_model pv_p_365_9 ?_
          refine px_iload_n dX10_areKinds_19 rfl ?_
          refine px_iald (j := m) dX10_areKinds_20 pv_a_itof.1 rfl (by omega) pv_a_itof.2.2 pv_a_itof.2.1 ?_
          refine px_iv (y := nI (Z.2.2.2.2 (120 + m))) (hlm) ?_
          refine px_icmp_geN (tgt := 93) dX10_areKinds_21 (by decide) (by omega) (by omega) (fun h0 => absurd h0 (by omega)) (fun _ => ?_)
          refine px_bipush (v := nI 12) dX10_areKinds_24 (by decide) ?_
          refine px_iload_n dX10_areKinds_26 rfl ?_
          refine px_imulN dX10_areKinds_27 ?_
          refine px_iconst (v := nI 3) dX10_areKinds_28 (by decide) ?_
          refine px_iload_n dX10_areKinds_29 rfl ?_
          refine px_imulN dX10_areKinds_30 ?_
          refine px_iaddN dX10_areKinds_31 ?_
          refine px_istore dX10_areKinds_32 (by decide) ?_
          refine px_iload_n dX10_areKinds_34 rfl ?_
          refine px_if_eqN (tgt := 85) dX10_areKinds_35 (by decide) (by omega) (fun h5 => ?_) (fun h5 => ?_)
          · refine px_iconst (v := nI 0) dX10_areKinds_85 (by decide) ?_
            have hno : ¬ (mk_m Z.2.2.2.2 (T 405) m ∧ mk_i Z.2.2.2.2 (T 405) m (i + 1)) := fun z => absurd (hs.mpr ⟨z.1, (mk_i1.mp z.2).1⟩) (by omega)
            refine px_istore_n dX10_areKinds_86 (by decide) ?_
            refine px_iincN (c := 1) (by decide) dX10_areKinds_87 rfl (by decide) ?_
            refine px_goto (tgt := 14) dX10_areKinds_90 (by decide) ?_
            refine px_keep [0, 1, 2, 3] ?_
            exact K 0 (by omega) ⟨fun z => absurd z (by omega), fun z => absurd z hno⟩
          · have hs2 := hs.mp (by omega)
            refine px_aload_n dX10_areKinds_38 rfl ?_
            refine px_aload_n dX10_areKinds_39 rfl ?_
            refine px_getR dX10_areKinds_40 flX10_25 pv_s_model (by decide) (by decide) rfl pv_k_model pv_p_365_8 ?_
            refine px_iload dX10_areKinds_43 rfl ?_
            refine px_iald (j := ((12 * m) + (3 * i))) dX10_areKinds_45 pv_a_items.1 rfl (by omega) pv_a_items.2.2 pv_a_items.2.1 ?_
            refine px_iv (y := nI (Z.2.2.2.2 (12 * m + 3 * i))) (hc.1) ?_
            refine c_X10_isKind dX10_areKinds_46 mlX10_72 (by omega) hM (by omega) (Nat.le_of_ble_eq_true rfl) ?_
            refine px_if_eqB (tgt := 85) dX10_areKinds_49 (by decide) (fun g0 => ?_) (fun g0 => ?_)
            · refine px_iconst (v := nI 0) dX10_areKinds_85 (by decide) ?_
              have hno : ¬ (mk_m Z.2.2.2.2 (T 405) m ∧ mk_i Z.2.2.2.2 (T 405) m (i + 1)) := fun z => absurd (mk_i1.mp z.2).2.1 (fun y => g0 ((pu_hasN (by omega) (by omega)).mpr y))
              refine px_istore_n dX10_areKinds_86 (by decide) ?_
              refine px_iincN (c := 1) (by decide) dX10_areKinds_87 rfl (by decide) ?_
              refine px_goto (tgt := 14) dX10_areKinds_90 (by decide) ?_
              refine px_keep [0, 1, 2, 3] ?_
              exact K 0 (by omega) ⟨fun z => absurd z (by omega), fun z => absurd z hno⟩
            · have g1 := (pu_hasN (by omega) (by omega)).mp g0
              refine px_aload_n dX10_areKinds_52 rfl ?_
              refine px_getR dX10_areKinds_53 flX10_25 pv_s_model (by decide) (by decide) rfl pv_k_model pv_p_365_8 ?_
              refine px_iload dX10_areKinds_56 rfl ?_
              refine px_iconst (v := nI 2) dX10_areKinds_58 (by decide) ?_
              refine px_iaddN dX10_areKinds_59 ?_
              refine px_iald (j := (((12 * m) + (3 * i)) + 2)) dX10_areKinds_60 pv_a_items.1 rfl (by omega) pv_a_items.2.2 pv_a_items.2.1 ?_
              refine px_iv (y := nI (Z.2.2.2.2 (12 * m + 3 * i + 2))) (hc.2.2) ?_
              refine px_iconst (v := -1) dX10_areKinds_61 (by decide) ?_
              by_cases e1 : Z.2.2.2.2 (12 * m + 3 * i + 2) = 4294967295
              · rw [e1]
                refine px_icmp_eq (tgt := 81) dX10_areKinds_62 (by decide) (fun _ => ?_) (fun h9 => absurd (by decide) h9)
                refine px_iconst (v := nI 1) dX10_areKinds_81 (by decide) ?_
                refine px_goto (tgt := 86) dX10_areKinds_82 (by decide) ?_
                refine px_istore_n dX10_areKinds_86 (by decide) ?_
                refine px_iincN (c := 1) (by decide) dX10_areKinds_87 rfl (by decide) ?_
                refine px_goto (tgt := 14) dX10_areKinds_90 (by decide) ?_
                refine px_keep [0, 1, 2, 3] ?_
                exact K 1 (by omega) ⟨fun _ => ⟨hs2.1, mk_i1.mpr ⟨hs2.2, g1, Or.inl e1⟩⟩, fun _ => rfl⟩
              · have e8 := hin9.2.2.2.resolve_left e1
                refine px_icmp_eq (tgt := 81) dX10_areKinds_62 (by decide) (fun h9 => absurd h9 (pn_m1 (by omega))) (fun _ => ?_)
                refine px_aload_n dX10_areKinds_65 rfl ?_
                refine px_aload_n dX10_areKinds_66 rfl ?_
                refine px_getR dX10_areKinds_67 flX10_25 pv_s_model (by decide) (by decide) rfl pv_k_model pv_p_365_8 ?_
                refine px_iload dX10_areKinds_70 rfl ?_
                refine px_iconst (v := nI 2) dX10_areKinds_72 (by decide) ?_
                refine px_iaddN dX10_areKinds_73 ?_
                refine px_iald (j := (((12 * m) + (3 * i)) + 2)) dX10_areKinds_74 pv_a_items.1 rfl (by omega) pv_a_items.2.2 pv_a_items.2.1 ?_
                refine px_iv (y := nI (Z.2.2.2.2 (12 * m + 3 * i + 2))) (hc.2.2) ?_
                refine c_X10_isKind dX10_areKinds_75 mlX10_72 (by omega) hM (by omega) (Nat.le_of_ble_eq_true rfl) ?_
                refine px_if_eqB (tgt := 85) dX10_areKinds_78 (by decide) (fun g2 => ?_) (fun g2 => ?_)
                · refine px_iconst (v := nI 0) dX10_areKinds_85 (by decide) ?_
                  have hno : ¬ (mk_m Z.2.2.2.2 (T 405) m ∧ mk_i Z.2.2.2.2 (T 405) m (i + 1)) := fun z => absurd ((mk_i1.mp z.2).2.2.resolve_left e1) (fun y => g2 ((pu_hasN (by omega) (by omega)).mpr y))
                  refine px_istore_n dX10_areKinds_86 (by decide) ?_
                  refine px_iincN (c := 1) (by decide) dX10_areKinds_87 rfl (by decide) ?_
                  refine px_goto (tgt := 14) dX10_areKinds_90 (by decide) ?_
                  refine px_keep [0, 1, 2, 3] ?_
                  exact K 0 (by omega) ⟨fun z => absurd z (by omega), fun z => absurd z hno⟩
                · refine px_iconst (v := nI 1) dX10_areKinds_81 (by decide) ?_
                  refine px_goto (tgt := 86) dX10_areKinds_82 (by decide) ?_
                  refine px_istore_n dX10_areKinds_86 (by decide) ?_
                  refine px_iincN (c := 1) (by decide) dX10_areKinds_87 rfl (by decide) ?_
                  refine px_goto (tgt := 14) dX10_areKinds_90 (by decide) ?_
                  refine px_keep [0, 1, 2, 3] ?_
                  exact K 1 (by omega) ⟨fun _ => ⟨hs2.1, mk_i1.mpr ⟨hs2.2, g1, Or.inr ((pu_hasN (by omega) (by omega)).mp g2)⟩⟩, fun _ => rfl⟩
      refine px_keep [0, 1, 2, 3] ?_
      exact keyI 0 (by omega) r hr1 ⟨fun z => ⟨hr.mp z, fun j hj => absurd hj (Nat.not_lt_zero _)⟩, fun z => hr.mpr z.1⟩
  refine px_iconst (v := nI 1) dX10_areKinds_0 (by decide) ?_
  refine px_istore_n dX10_areKinds_1 (by decide) ?_
  refine px_iconst (v := nI 0) dX10_areKinds_2 (by decide) ?_
  refine px_istore_n dX10_areKinds_3 (by decide) ?_
  exact key 0 (by omega) 1 (by omega) ⟨fun _ k hk => absurd hk (Nat.not_lt_zero _), fun _ => rfl⟩
theorem c_X10_areKinds {z : pv_Z} {E : pv_E} {d bc bs : Nat} {J : pv_JT} {I : pv_IT} {mi : pv_MI} {pc idx : Nat} {lv : pv_LV} {st : List Value} {T : pv_T} {L : List pv_Lot} {Z : pv_Zp} (hd : decode mi.2.1 pc = .ok (.invokevirtual idx, 3)) (hlk : Cond.methodLink mi.1.cls idx mX10_areKinds.1 ∈ pv_W) (hD : 2+1 ≤ d) (hM : MR (I 366) T L) (hn8 : T 405 ≤ 8) (hP : MP I Z) (hg : pz_good Z) (hp : Z.1 = 1 ∨ Z.1 = 5 ∨ Z.1 = 7) (hcat : (st.map fun v => v.category).sum ≤ 8) (K : pv_X z E d bc bs mi (pc + 3) lv ((.int (nI (pv_bl (Z.2.2.2.1 ≤ T 405)))) :: st) pv_K0 pv_P0 (I) (J)) : pv_X z E d bc bs mi pc lv (.ref (365) :: st) pv_K0 pv_P0 I J := by
  obtain ⟨d, rfl⟩ : ∃ d0, d = d0 + 1 := ⟨d - 1, by omega⟩
  have key := px_callV (bc := bc) (bs := bs) (bc1 := 0) (bs1 := 0) (as := []) (E := E) (z := z) (lv := lv) hd mvX10_areKinds hlk pv_s_model (by decide) rfl pv_k_model rfl rfl hcat (by exact Nat.le_of_ble_eq_true rfl) (s_X10_areKinds (by omega) hM hn8 hP hg hp K)
  rw [Nat.zero_add, Nat.zero_add] at key
  exact key
