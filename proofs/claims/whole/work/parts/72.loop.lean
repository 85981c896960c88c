/-! The law: its loop, its beginning. -/
set_option maxRecDepth 100000 in
set_option maxHeartbeats 4000000 in
theorem lw_loop {E : pv_E} {SL d : Nat} {xs : Nat → Int32} {nm : String} {hh : List (Nat × Nat × Nat × Nat)} (hD : 11 ≤ d) (hL : SL ≤ 2048) : ∀ (k n : Nat), n + k = 513 → ∀ (I : pv_IT) (J : pv_JT) (X : pv_XS), CA I X → MA I X → wx n X → pv_X (zL E SL xs) E d (6 * k) (36 * k) (mL_law nm hh) 23 [(0, .retAddr 0), (1, .ref 0), (2, .ref 365), (3, .ref 373), (4, .int (nI (4 * n)))] [] pv_K0 pv_P0 I J := by
  intro k
  induction k with
  | zero =>
    intro n hn I J X hCA hMA hw
    refine px_iload dL_law_23 rfl ?_
    refine px_aloadS_n dL_law_25 rfl ?_
    refine px_slen dL_law_26 ?_
    refine px_iconst (v := nI 4) dL_law_27 (by decide) ?_
    refine px_isub dL_law_28 ?_
    refine px_icmp_gt (tgt := 2087) dL_law_29 (by decide) (fun _ => ?_) (fun h => absurd ((lw_more hL (by omega)).mpr (by omega)) h)
    refine px_iconst (v := 1) dL_law_2087 (by decide) ?_
    exact px_lend dL_law_2088
  | succ k ih =>
    intro n hn I J X hCA hMA hw
    refine px_iload dL_law_23 rfl ?_
    refine px_aloadS_n dL_law_25 rfl ?_
    refine px_slen dL_law_26 ?_
    refine px_iconst (v := nI 4) dL_law_27 (by decide) ?_
    refine px_isub dL_law_28 ?_
    refine px_icmp_gt (tgt := 2087) dL_law_29 (by decide) (fun _ => ?_) (fun h => ?_)
    · refine px_iconst (v := 1) dL_law_2087 (by decide) ?_
      exact px_lend dL_law_2088
    · have hi : 4 * n + 4 ≤ SL := Nat.not_lt.mp fun h2 => h ((lw_more hL (by omega)).mpr h2)
      have K9 : ∀ (I' : pv_IT) (J' : pv_JT) (X' : pv_XS), CA I' X' → MA I' X' → wx (n + 1) X' → pv_X (zL E SL xs) E d (6 * k) (36 * k) (mL_law nm hh) 2081 [(0, .retAddr 0), (1, .ref 0), (2, .ref 365), (3, .ref 373), (4, .int (nI (4 * n)))] [] pv_K0 pv_P0 I' J' := by
        intro I' J' X' h1 h2 h3
        have h4 := ih (n + 1) (by omega) I' J' X' h1 h2 h3
        rw [show 4 * (n + 1) = 4 * n + 4 by omega] at h4
        refine px_iincN (c := 4) (by decide) dL_law_2081 rfl (Nat.le_of_ble_eq_true rfl) ?_
        refine px_goto (tgt := 23) dL_law_2084 (by decide) ?_
        exact h4
      obtain ⟨⟨T, L⟩, H, B⟩ := X
      refine px_aloadS_n dL_law_32 rfl ?_
      refine px_iload dL_law_33 rfl ?_
      refine px_sld (j := 4 * n) dL_law_35 (by omega) hL ?_
      refine px_bipush (v := nI 31) dL_law_36 (by decide) ?_
      refine px_iand dL_law_38 ?_
      obtain ⟨k9, hk9, e9⟩ := lw_mask (xs (4 * n))
      refine px_iv e9 ?_
      refine px_bud (bc' := 6 + 6 * k) (bs' := 36 + 36 * k) (by omega) (by omega) ?_
      match k9, hk9 with
      | 0, _ =>
        refine px_tableIn (off := 141) (tgt := 180) dL_law_39 (by decide) (by decide) rfl (by decide) ?_
        exact lw_case0 hD hL hi hCA hMA hw (by omega) K9
      | 1, _ =>
        refine px_tableIn (off := 221) (tgt := 260) dL_law_39 (by decide) (by decide) rfl (by decide) ?_
        exact lw_case1 hD hL hi hCA hMA hw (by omega) K9
      | 2, _ =>
        refine px_tableIn (off := 289) (tgt := 328) dL_law_39 (by decide) (by decide) rfl (by decide) ?_
        exact lw_case2 hD hL hi hCA hMA hw (by omega) K9
      | 3, _ =>
        refine px_tableIn (off := 357) (tgt := 396) dL_law_39 (by decide) (by decide) rfl (by decide) ?_
        exact lw_case3 hD hL hi hCA hMA hw (by omega) K9
      | 4, _ =>
        refine px_tableIn (off := 413) (tgt := 452) dL_law_39 (by decide) (by decide) rfl (by decide) ?_
        exact lw_case4 hD hL hi hCA hMA hw (by omega) K9
      | 5, _ =>
        refine px_tableIn (off := 469) (tgt := 508) dL_law_39 (by decide) (by decide) rfl (by decide) ?_
        exact lw_case5 hD hL hi hCA hMA hw (by omega) K9
      | 6, _ =>
        refine px_tableIn (off := 537) (tgt := 576) dL_law_39 (by decide) (by decide) rfl (by decide) ?_
        exact lw_case6 hD hL hi hCA hMA hw (by omega) K9
      | 7, _ =>
        refine px_tableIn (off := 593) (tgt := 632) dL_law_39 (by decide) (by decide) rfl (by decide) ?_
        exact lw_case7 hD hL hi hCA hMA hw (by omega) K9
      | 8, _ =>
        refine px_tableIn (off := 673) (tgt := 712) dL_law_39 (by decide) (by decide) rfl (by decide) ?_
        exact lw_case8 hD hL hi hCA hMA hw (by omega) K9
      | 9, _ =>
        refine px_tableIn (off := 753) (tgt := 792) dL_law_39 (by decide) (by decide) rfl (by decide) ?_
        exact lw_case9 hD hL hi hCA hMA hw (by omega) K9
      | 10, _ =>
        refine px_tableIn (off := 833) (tgt := 872) dL_law_39 (by decide) (by decide) rfl (by decide) ?_
        exact lw_case10 hD hL hi hCA hMA hw (by omega) K9
      | 11, _ =>
        refine px_tableIn (off := 901) (tgt := 940) dL_law_39 (by decide) (by decide) rfl (by decide) ?_
        exact lw_case11 hD hL hi hCA hMA hw (by omega) K9
      | 12, _ =>
        refine px_tableIn (off := 957) (tgt := 996) dL_law_39 (by decide) (by decide) rfl (by decide) ?_
        exact lw_case12 hD hL hi hCA hMA hw (by omega) K9
      | 13, _ =>
        refine px_tableIn (off := 1013) (tgt := 1052) dL_law_39 (by decide) (by decide) rfl (by decide) ?_
        exact lw_case13 hD hL hi hCA hMA hw (by omega) K9
      | 14, _ =>
        refine px_tableIn (off := 1026) (tgt := 1065) dL_law_39 (by decide) (by decide) rfl (by decide) ?_
        exact lw_case14 hD hL hi hCA hMA hw (by omega) K9
      | 15, _ =>
        refine px_tableIn (off := 1039) (tgt := 1078) dL_law_39 (by decide) (by decide) rfl (by decide) ?_
        exact lw_case15 hD hL hi hCA hMA hw (by omega) K9
      | 16, _ =>
        refine px_tableIn (off := 1083) (tgt := 1122) dL_law_39 (by decide) (by decide) rfl (by decide) ?_
        exact lw_case16 hD hL hi hCA hMA hw (by omega) K9
      | 17, _ =>
        refine px_tableIn (off := 1127) (tgt := 1166) dL_law_39 (by decide) (by decide) rfl (by decide) ?_
        exact lw_case17 hD hL hi hCA hMA hw (by omega) K9
      | 18, _ =>
        refine px_tableIn (off := 1195) (tgt := 1234) dL_law_39 (by decide) (by decide) rfl (by decide) ?_
        exact lw_case18 hD hL hi hCA hMA hw (by omega) K9
      | 19, _ =>
        refine px_tableIn (off := 1263) (tgt := 1302) dL_law_39 (by decide) (by decide) rfl (by decide) ?_
        exact lw_case19 hD hL hi hCA hMA hw (by omega) K9
      | 20, _ =>
        refine px_tableIn (off := 1331) (tgt := 1370) dL_law_39 (by decide) (by decide) rfl (by decide) ?_
        exact lw_case20 hD hL hi hCA hMA hw (by omega) K9
      | 21, _ =>
        refine px_tableIn (off := 1399) (tgt := 1438) dL_law_39 (by decide) (by decide) rfl (by decide) ?_
        exact lw_case21 hD hL hi hCA hMA hw (by omega) K9
      | 22, _ =>
        refine px_tableIn (off := 1479) (tgt := 1518) dL_law_39 (by decide) (by decide) rfl (by decide) ?_
        exact lw_case22 hD hL hi hCA hMA hw (by omega) K9
      | 23, _ =>
        refine px_tableIn (off := 1535) (tgt := 1574) dL_law_39 (by decide) (by decide) rfl (by decide) ?_
        exact lw_case23 hD hL hi hCA hMA hw (by omega) K9
      | 24, _ =>
        refine px_tableIn (off := 1615) (tgt := 1654) dL_law_39 (by decide) (by decide) rfl (by decide) ?_
        exact lw_case24 hD hL hi hCA hMA hw (by omega) K9
      | 25, _ =>
        refine px_tableIn (off := 1683) (tgt := 1722) dL_law_39 (by decide) (by decide) rfl (by decide) ?_
        exact lw_case25 hD hL hi hCA hMA hw (by omega) K9
      | 26, _ =>
        refine px_tableIn (off := 1751) (tgt := 1790) dL_law_39 (by decide) (by decide) rfl (by decide) ?_
        exact lw_case26 hD hL hi hCA hMA hw (by omega) K9
      | 27, _ =>
        refine px_tableIn (off := 1807) (tgt := 1846) dL_law_39 (by decide) (by decide) rfl (by decide) ?_
        exact lw_case27 hD hL hi hCA hMA hw (by omega) K9
      | 28, _ =>
        refine px_tableIn (off := 1863) (tgt := 1902) dL_law_39 (by decide) (by decide) rfl (by decide) ?_
        exact lw_case28 hD hL hi hCA hMA hw (by omega) K9
      | 29, _ =>
        refine px_tableIn (off := 1931) (tgt := 1970) dL_law_39 (by decide) (by decide) rfl (by decide) ?_
        exact lw_case29 hD hL hi hCA hMA hw (by omega) K9
      | 30, _ =>
        refine px_tableIn (off := 1987) (tgt := 2026) dL_law_39 (by decide) (by decide) rfl (by decide) ?_
        exact lw_case30 hD hL hi hCA hMA hw (by omega) K9
      | 31, _ =>
        refine px_tableIn (off := 2028) (tgt := 2067) dL_law_39 (by decide) (by decide) rfl (by decide) ?_
        exact lw_case31 hD hL hi hCA hMA hw (by omega) K9
      | j + 32, hj => exact absurd hj (by omega)
theorem pnL_8 : pv_new RL 8 9 4 := ⟨_, _, rfl, (pv_t 21 (by decide +kernel) rfl), (pv_t 22 (by decide +kernel) rfl), (pv_t 1 (by decide +kernel) rfl), tyX9, tyX9_ok, fun j hj => by
  match j, hj with
  | 0, _ => rfl
  | 1, _ => rfl
  | 2, _ => rfl
  | 3, _ => rfl
  | j + 4, hj => exact absurd hj (by omega)⟩
theorem pnL_104 : pv_new RL 104 10 13 := ⟨_, _, rfl, (pv_t 996 (by decide +kernel) rfl), (pv_t 997 (by decide +kernel) rfl), (pv_t 11 (by decide +kernel) rfl), tyX10, tyX10_ok, fun j hj => by
  match j, hj with
  | 0, _ => rfl
  | 1, _ => rfl
  | 2, _ => rfl
  | 3, _ => rfl
  | 4, _ => rfl
  | 5, _ => rfl
  | 6, _ => rfl
  | 7, _ => rfl
  | 8, _ => rfl
  | 9, _ => rfl
  | 10, _ => rfl
  | 11, _ => rfl
  | 12, _ => rfl
  | j + 13, hj => exact absurd hj (by omega)⟩
theorem pv_aL : Cond.arrayClass .long ∈ pv_W := (pv_t 1381 (by decide +kernel) rfl)
def pz_P : pv_PT := fun _ _ => none
def pz_I : pv_IT := fun _ _ => 0
def pz_J : pv_JT := fun _ _ => 0
theorem pv_P0_len : pv_P0L.length = 374 := by decide +kernel
theorem lw_P0 : pv_zP (bP (pv_zP (bP (pv_zP pz_P 0) 0 365) 365) 365 373) 373 = pv_P0 := by
  funext a j
  rw [zP_aj, bP_aj, zP_aj, bP_aj, zP_aj]
  by_cases e : a = 373
  · rw [if_pos e, e]
    exact (pv_gap (by decide) pv_s_out (by omega)).symm
  · rw [if_neg e]
    by_cases e1 : 365 ≤ a ∧ a < 373
    · rw [if_pos e1]
    · rw [if_neg e1, if_neg (show ¬ a = 365 by omega)]
      by_cases e2 : 0 ≤ a ∧ a < 365
      · rw [if_pos e2]
      · rw [if_neg e2, if_neg (show ¬ a = 0 by omega)]
        unfold pv_P0
        rw [List.getD_eq_getElem?_getD (l := pv_P0L), List.getElem?_eq_none (by rw [pv_P0_len]; omega)]
        rfl
theorem lw_I0 : ∀ a, a < 365 → pv_zI (bI (pv_zI (bI (pv_zI pz_I 0) 0 365 gA) 365) 365 8 gE) 373 a = gA a := fun a ha => by
  funext j
  rw [zI_aj, if_neg (show ¬ a = 373 by omega), bI_aj, if_neg (show ¬ (365 ≤ a ∧ a < 365 + 8) by omega), zI_aj, if_neg (show ¬ a = 365 by omega), bI_aj, if_pos (show 0 ≤ a ∧ a < 0 + 365 by omega), Nat.sub_zero]
theorem lw_I1 : ∀ i, i < 8 → pv_zI (bI (pv_zI (bI (pv_zI pz_I 0) 0 365 gA) 365) 365 8 gE) 373 (365 + i) = gE i := fun i hi => by
  funext j
  rw [zI_aj, if_neg (show ¬ 365 + i = 373 by omega), bI_aj, if_pos (show 365 ≤ 365 + i ∧ 365 + i < 365 + 8 by omega), Nat.add_sub_cancel_left]
set_option maxRecDepth 100000 in
set_option maxHeartbeats 4000000 in
theorem lw_begin {E : pv_E} {SL : Nat} {xs : Nat → Int32} {nm : String} {hh : List (Nat × Nat × Nat × Nat)} (hL : SL ≤ 2048) : pv_X (zL E SL xs) E 11 601024 7293034 (mL_law nm hh) 0 [(0, .retAddr 0)] [] 0 pz_P pz_I pz_J := by
  refine px_bud (bc' := 1 + 601023) (bs' := 4 + 7293030) rfl rfl ?_
  refine px_new dL_law_0 pnL_8 pv_s_main (by decide) (by decide) ?_
  refine px_dup dL_law_3 rfl ?_
  refine px_bud (bc' := 364 + 600659) (bs' := 4019 + 7289011) rfl rfl ?_
  refine c_X9_init dL_law_4 mlL_103 (by omega) pv_mainQ_0 zP_at zI_at (Nat.le_of_ble_eq_true rfl) (fun J1 => ?_)
  refine px_astore_n dL_law_7 (Nat.le_of_ble_eq_true rfl) ?_
  refine px_mm (P' := bP (pv_zP pz_P 0) 0 365) (I' := bI (pv_zI pz_I 0) 0 365 gA) (sz' := 365) rfl rfl rfl ?_
  refine px_bud (bc' := 1 + 600658) (bs' := 13 + 7288998) rfl rfl ?_
  refine px_new dL_law_8 pnL_104 pv_s_model (by decide) (by decide) ?_
  refine px_dup dL_law_11 rfl ?_
  refine px_bud (bc' := 7 + 600651) (bs' := 3525 + 7285473) rfl rfl ?_
  refine c_X10_init dL_law_12 mlL_106 (by omega) pv_modQ_365 zP_at zI_at (Nat.le_of_ble_eq_true rfl) (fun J2 => ?_)
  refine px_astore_n dL_law_15 (Nat.le_of_ble_eq_true rfl) ?_
  refine px_mm (P' := bP (pv_zP (bP (pv_zP pz_P 0) 0 365) 365) 365 373) (I' := bI (pv_zI (bI (pv_zI pz_I 0) 0 365 gA) 365) 365 8 gE) (sz' := 373) rfl rfl rfl ?_
  refine px_iconst (v := nI 1) dL_law_16 (by decide) ?_
  refine px_bud (bc' := 1 + 600650) (bs' := 1 + 7285472) rfl rfl ?_
  refine px_newL dL_law_17 pv_aL pv_s_out rfl (by decide) (by decide) ?_
  refine px_astore_n dL_law_19 (Nat.le_of_ble_eq_true rfl) ?_
  refine px_iconst (v := nI 0) dL_law_20 (by decide) ?_
  refine px_istore dL_law_21 (Nat.le_of_ble_eq_true rfl) ?_
  refine px_mm (P' := pv_P0) (I' := pv_zI (bI (pv_zI (bI (pv_zI pz_I 0) 0 365 gA) 365) 365 8 gE) 373) (sz' := pv_K0) lw_P0 rfl rfl ?_
  refine px_weak rfl (Nat.le_refl _) (c1 := 6 * 513) (s1 := 36 * 513) (Nat.le_of_ble_eq_true rfl) (Nat.le_of_ble_eq_true rfl) ?_
  exact lw_loop (Nat.le_refl _) hL 513 0 rfl _ _ X0 (CA_init lw_I0) (MA_init lw_I1) wx_init
