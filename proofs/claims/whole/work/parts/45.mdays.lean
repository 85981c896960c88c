/-! The reference: days. -/
/-- kinds that there are: lots and menus name no others, the others' accounts are empty -/
def wk (s : pv_S) : Prop := (∀ k, s.1 405 ≤ k → k < 8 → ∀ w, w < 5 → s.1 (24 + w + 5 * k) = 0) ∧ (∀ l, l < s.2.length → (pl_g s.2 l).1 < s.1 405) ∧ (∀ m, m < s.1 408 → ∀ i, i < s.1 (314 + m) → s.1 (194 + 12 * m + 3 * i) < s.1 405 ∧ (s.1 (196 + 12 * m + 3 * i) = 4294967295 ∨ s.1 (196 + 12 * m + 3 * i) < s.1 405))
theorem pd_eat_z {D : Nat → Nat} {k a kk w : Nat} {s : pv_S} (h : kk ≠ k) (hw : w < 5) : (pd_eat D k a s).2.1 (24 + w + 5 * kk) = s.1 (24 + w + 5 * kk) := pt_un (by omega)
theorem pd_item_z {D : Nat → Nat} {m i kk w : Nat} {s : pv_S} (hm : m < s.1 408) (hk : wk s) (hkk : s.1 405 ≤ kk) (hw : w < 5) (h8 : s.1 405 ≤ 8) : (pd_item D m i s).2.1 (24 + w + 5 * kk) = s.1 (24 + w + 5 * kk) := by
  unfold pd_item
  by_cases e : i < s.1 (314 + m)
  · rw [if_pos e]
    have h3 := hk.2.2 m hm i e
    show pt_up _ _ _ _ = _
    rw [pt_un (by omega)]
    unfold pd_meal
    by_cases e2 : s.1 (196 + 12 * m + 3 * i) = 4294967295
    · rw [if_pos e2]; exact pd_eat_z (by omega) hw
    · rw [if_neg e2]
      exact (pd_eat_z (by omega) hw).trans (pd_eat_z (by omega) hw)
  · rw [if_neg e]
theorem wk_like {s t : pv_S} (h : wk s) (hl : pd_like s t) (hz : ∀ k, s.1 405 ≤ k → k < 8 → ∀ w, w < 5 → t.1 (24 + w + 5 * k) = s.1 (24 + w + 5 * k)) (hb : mb s.1) : wk t := by
  have e5 := hl.1 405 (by omega)
  have e8 := hl.1 408 (by omega)
  have h10 := hb.2.1
  refine ⟨fun k h1 h2 w h3 => ?_, fun l hl2 => ?_, fun m hm i hi => ?_⟩
  · rw [e5] at h1
    rw [hz k h1 h2 w h3]
    exact h.1 k h1 h2 w h3
  · rw [(hl.2.2 l).1, e5]
    exact h.2.1 l (by rw [← hl.2.1]; exact hl2)
  · rw [e8] at hm
    rw [hl.1 (314 + m) (by omega)] at hi
    rw [hl.1 (194 + 12 * m + 3 * i) (by omega), hl.1 (196 + 12 * m + 3 * i) (by omega), e5]
    exact h.2.2 m hm i hi
theorem pd_items_z {D : Nat → Nat} {m : Nat} {s : pv_S} (hm : m < s.1 408) (hb : tb s.1) (h : lbs s.2) (hk : wk s) : ∀ i : Nat, ∀ kk, s.1 405 ≤ kk → kk < 8 → ∀ w, w < 5 → (pd_items D m s i).2.1 (24 + w + 5 * kk) = s.1 (24 + w + 5 * kk)
  | 0 => fun _ _ _ _ _ => rfl
  | i + 1 => fun kk h1 h8 w hw => by
    have hl := (pd_items_like (D := D) hm hb h i).1
    have ih := pd_items_z (D := D) hm hb h hk i
    have hk2 := wk_like hk hl ih hb.2.2.2.2.2.2
    have h5 := hl.1 405 (by omega)
    have := pd_item_z (D := D) (m := m) (i := i) (s := (pd_items D m s i).2) (by rw [hl.1 408 (by omega)]; exact hm) hk2 (kk := kk) (by rw [h5]; exact h1) hw (by rw [h5]; exact hb.2.2.1)
    exact this.trans (ih kk h1 h8 w hw)
theorem pd_fold_z {T : pv_T} {n kk w : Nat} (hkk : n ≤ kk) (hw : w < 5) : ∀ {L : List pv_Lot} {A : pv_T}, (∀ x ∈ L, x.1 < n) → L.foldl (pd_spoil T) A (24 + w + 5 * kk) = A (24 + w + 5 * kk)
  | [], A, _ => rfl
  | x :: L, A, h => by
    rw [List.foldl_cons, pd_fold_z hkk hw (fun y hy => h y (List.mem_cons_of_mem _ hy))]
    have := h x List.mem_cons_self
    unfold pd_spoil
    split
    · exact pt_un (by omega)
    · rfl
theorem pd_age_kind {r : pv_S} {n : Nat} (h : ∀ x ∈ r.2, x.1 < n) : ∀ x ∈ (pd_age r).2, x.1 < n := by
  intro y hy
  obtain ⟨h6, -⟩ := List.mem_filter.mp hy
  obtain ⟨x, hx, e⟩ := List.mem_map.mp h6
  rw [← e]
  exact h x hx
theorem wk_day {s : pv_S} (h : dy s) (hk : wk s) : wk (pd_day s) ∧ ∀ i, ¬ (24 ≤ i ∧ i < 64) → ¬ (67 ≤ i ∧ i < 70) → i ≠ 404 → i ≠ 412 → (pd_day s).1 i = s.1 i := by
  have hsv := pd_served_ok h
  have hkz := pd_items_z (D := pd_mornings s) (pd_menu_lt h) h.1 h.2.1 hk 4
  have hk1 : wk (pd_served s).2 := wk_like hk hsv.1 hkz h.1.2.2.2.2.2.2
  have hag : ∀ l, l < (pd_hungry (pd_served s)).2.length → (pl_g (pd_hungry (pd_served s)).2 l).2.2.2 < 1000 := fun l hl => by
    rw [show (pl_g (pd_hungry (pd_served s)).2 l).2.2.2 = (pl_g s.2 l).2.2.2 from (hsv.1.2.2 l).2.2]
    refine (h.2.2 l ?_).2
    rw [← hsv.1.2.1]
    exact hl
  have hao := pd_age_ok (s := pd_hungry (pd_served s)) hsv.2.1 hag
  have hT : ∀ i, ¬ (24 ≤ i ∧ i < 64) → ¬ (67 ≤ i ∧ i < 70) → i ≠ 404 → i ≠ 412 → (pd_day s).1 i = s.1 i := fun i h1 h2 h3 h4 => by
    show pd_night (pd_age (pd_hungry (pd_served s))).1 i = _
    unfold pd_night
    rw [if_neg h3, if_neg h2, hao.2.2 i h1, pd_hungry_out h4, hsv.1.1 i h1]
  have h10 := h.1.2.2.2.2.2.2.2.1
  have e5 := hT 405 (by omega) (by omega) (by omega) (by omega)
  have e8 := hT 408 (by omega) (by omega) (by omega) (by omega)
  have hkn : ∀ x ∈ (pd_hungry (pd_served s)).2, x.1 < s.1 405 := fun x hx => by
    obtain ⟨l, hl, rfl⟩ := pl_mem_g hx
    have := hk1.2.1 l hl
    rw [hsv.1.1 405 (by omega)] at this
    exact this
  refine ⟨⟨fun k h1 h2 w h3 => ?_, fun l hl => ?_, fun m hm i hi => ?_⟩, hT⟩
  · rw [e5] at h1
    show pd_night (pd_age (pd_hungry (pd_served s))).1 (24 + w + 5 * k) = 0
    unfold pd_night
    rw [if_neg (by omega), if_neg (by omega)]
    refine (pd_fold_z (n := s.1 405) h1 h3 hkn).trans ?_
    rw [pd_hungry_out (by omega)]
    exact (hkz k h1 h2 w h3).trans (hk.1 k h1 h2 w h3)
  · rw [e5]
    exact pd_age_kind (r := pd_hungry (pd_served s)) hkn _ (pl_g_mem hl)
  · rw [e8] at hm
    rw [hT (314 + m) (by omega) (by omega) (by omega) (by omega)] at hi
    have hi4 := (h.1.2.2.2.2.2.2.2.2 m hm).1
    rw [hT (194 + 12 * m + 3 * i) (by omega) (by omega) (by omega) (by omega), hT (196 + 12 * m + 3 * i) (by omega) (by omega) (by omega) (by omega), e5]
    exact hk.2.2 m hm i hi
theorem wk_days {s : pv_S} (h : dy s) (hk : wk s) : ∀ n : Nat, wk (pd_days s n) ∧ ∀ i, ¬ (24 ≤ i ∧ i < 64) → ¬ (67 ≤ i ∧ i < 70) → i ≠ 404 → i ≠ 412 → (pd_days s n).1 i = s.1 i
  | 0 => ⟨hk, fun _ _ _ _ _ => rfl⟩
  | n + 1 => by
    have ih := wk_days h hk n
    have h1 := wk_day (pd_days_ok h n).1 ih.1
    exact ⟨h1.1, fun i a b c e => (h1.2 i a b c e).trans (ih.2 i a b c e)⟩
theorem pn_sum_zero {f : Nat → Nat} {n : Nat} : ∀ {c : Nat}, (∀ k, n ≤ k → k < n + c → f k = 0) → pn_sum f (n + c) = pn_sum f n
  | 0, _ => rfl
  | c + 1, h => by
    show pn_sum f (n + c) + f (n + c) = _
    rw [pn_sum_zero (fun k h1 h2 => h k h1 (by omega)), h (n + c) (by omega) (by omega)]
    rfl
theorem pt_sum_all {s : pv_S} (hk : wk s) (h8 : s.1 405 ≤ 8) {w : Nat} (hw : w < 5) : pt_sum s.1 w 8 = pt_sum s.1 w (s.1 405) := by
  have := pn_sum_zero (f := fun k => s.1 (24 + w + 5 * k)) (n := s.1 405) (c := 8 - s.1 405) (fun k h1 h2 => hk.1 k h1 (by omega) w hw)
  rw [show s.1 405 + (8 - s.1 405) = 8 by omega] at this
  exact this
def pd_cool (T : pv_T) : pv_T := fun i => if 67 ≤ i ∧ i < 70 then T i - 1 else T i
set_option maxRecDepth 100000 in
set_option maxHeartbeats 4000000 in
theorem s_X10_age {Q : pv_Q} {E : pv_E} {d bc bs : Nat} {J : pv_JT} {I : pv_IT} {T : pv_T} {L : List pv_Lot} (hD : 2 ≤ d) (hM : MR (I 366) T L) (hb : tb T) (hag : ∀ l, l < L.length → (pl_g L l).2.2.2 < 1000) (h : ∀ I' : pv_IT, MR (I' 366) (pd_cool (pd_age (T, L)).1) (pd_age (T, L)).2 → (∀ k0 : Nat, k0 ≠ 366 → I' k0 = I k0) → Q (.inl none) pv_K0 pv_P0 (I') (J)) : pv_X (pv_ZQ E Q) E d bc bs mX10_age 0 [(0, .ref (365))] [] pv_K0 pv_P0 I J := by
  have hL := hM.2.2.1
  have h31 := hL.1
  have key : ∀ i : Nat, i ≤ L.length → ∀ (I1 : pv_IT) (A : pv_T) (M : List pv_Lot), A = pd_foldT T L (i) → M = pd_mix T L (i) → MR (I1 366) A M → (∀ k0 : Nat, k0 ≠ 366 → I1 k0 = I k0) → pv_X (pv_ZQ E Q) E d bc bs mX10_age 2 [(0, .ref 365), (1, .int (nI (i)))] [] pv_K0 pv_P0 (I1) (J) := by
    refine pv_up (L.length) ?_ ?_
    · intro I1 A M hA hM0 hM1 hF
      have hlen : M.length = L.length := by rw [hM0]; exact pd_mix_len (Nat.le_refl _)
      have ea : A = (pd_age (T, L)).1 := by
        rw [hA]
        show (L.take L.length).foldl (pd_spoil T) T = L.foldl (pd_spoil T) T
        rw [List.take_length]
      have eb : pl_drop M = (pd_age (T, L)).2 := by
        rw [hM0, pd_mixN]
        rfl
      have hout : ∀ j, ¬ (24 ≤ j ∧ j < 64) → A j = T j := fun j hj => by rw [hA]; exact pd_foldT_out hL hj
      refine px_iload_n dX10_age_2 rfl ?_
      refine px_aload_n dX10_age_3 rfl ?_
      refine px_getR dX10_age_4 flX10_7 pv_s_model (by decide) (by decide) rfl pv_k_model pv_p_365_1 ?_
      refine px_sipush (v := nI 406) dX10_age_7 (by decide) ?_
      refine px_iald (j := 406) dX10_age_10 pv_a_z.1 rfl (by omega) pv_a_z.2.2 pv_a_z.2.1 ?_
      refine px_iv (y := nI (M.length)) (hM1.2.1) ?_
      refine px_icmp_geN (tgt := 103) dX10_age_11 (by decide) (by omega) (by omega) (fun _ => ?_) (fun h0 => absurd h0 (by omega))
      refine px_aload_n dX10_age_103 rfl ?_
      refine c_X10_dropEmpty dX10_age_104 mlX10_99 (by omega) hM1 (Nat.le_of_ble_eq_true rfl) (fun I2 hM2 hF2 => ?_)
      rw [eb] at hM2
      refine px_iconst (v := nI 0) dX10_age_107 (by decide) ?_
      refine px_istore_n dX10_age_108 (by decide) ?_
      have key3 : ∀ i : Nat, i ≤ 3 → ∀ I3 : pv_IT, MR (I3 366) (fun j => if 67 ≤ j ∧ j < 67 + (i) then A j - 1 else A j) (pd_age (T, L)).2 → (∀ k0 : Nat, k0 ≠ 366 → I3 k0 = I2 k0) → pv_X (pv_ZQ E Q) E d bc bs mX10_age 109 [(0, .ref 365), (1, .int (nI i))] [] pv_K0 pv_P0 I3 J := by
        refine pv_up 3 ?_ ?_
        · intro I3 hM3 hF3
          refine px_iload_n dX10_age_109 rfl ?_
          refine px_iconst (v := nI 3) dX10_age_110 (by decide) ?_
          refine px_icmp_geN (tgt := 149) dX10_age_111 (by decide) (by omega) (by omega) (fun _ => ?_) (fun h0 => absurd h0 (by omega))
          exact px_vret dX10_age_149 rfl (Or.inl rfl) (h I3 (by rw [← ea]; exact MR_T hM3 (fun j _ _ _ => rfl)) (fun k0 hk => (hF3 k0 hk).trans ((hF2 k0 hk).trans (hF k0 hk))))
        · intro i hi K3 I3 hM3 hF3
          have hwi : A (67 + i) ≤ 30 := by rw [hout _ (by omega)]; exact (hb.2.1 i hi).2
          refine px_iload_n dX10_age_109 rfl ?_
          refine px_iconst (v := nI 3) dX10_age_110 (by decide) ?_
          refine px_icmp_geN (tgt := 149) dX10_age_111 (by decide) (by omega) (by omega) (fun h0 => absurd h0 (by omega)) (fun _ => ?_)
          refine px_aload_n dX10_age_114 rfl ?_
          refine px_getR dX10_age_115 flX10_7 pv_s_model (by decide) (by decide) rfl pv_k_model pv_p_365_1 ?_
          refine px_bipush (v := nI 67) dX10_age_118 (by decide) ?_
          refine px_iload_n dX10_age_120 rfl ?_
          refine px_iaddN dX10_age_121 ?_
          refine px_dup2 dX10_age_122 rfl rfl ?_
          refine px_iald (j := (67 + i)) dX10_age_123 pv_a_z.1 rfl (by omega) pv_a_z.2.2 pv_a_z.2.1 ?_
          refine px_iv (y := nI (A (67 + i))) ((hM3.1 (67 + i) (by omega) (by omega) (by omega)).trans (congrArg nI (if_neg (by omega)))) ?_
          refine px_aload_n dX10_age_124 rfl ?_
          refine px_getR dX10_age_125 flX10_7 pv_s_model (by decide) (by decide) rfl pv_k_model pv_p_365_1 ?_
          refine px_bipush (v := nI 67) dX10_age_128 (by decide) ?_
          refine px_iload_n dX10_age_130 rfl ?_
          refine px_iaddN dX10_age_131 ?_
          refine px_iald (j := (67 + i)) dX10_age_132 pv_a_z.1 rfl (by omega) pv_a_z.2.2 pv_a_z.2.1 ?_
          refine px_iv (y := nI (A (67 + i))) ((hM3.1 (67 + i) (by omega) (by omega) (by omega)).trans (congrArg nI (if_neg (by omega)))) ?_
          refine px_if_leN (tgt := 140) dX10_age_133 (by decide) (by omega) (fun h6 => ?_) (fun h6 => ?_)
          · refine px_iconst (v := nI 0) dX10_age_140 (by decide) ?_
            refine px_isubN (by omega) dX10_age_141 ?_
            refine px_iast (j := (67 + i)) dX10_age_142 pv_a_z.1 rfl (by omega) pv_a_z.2.2 pv_a_z.2.1 ?_
            refine px_iincN (c := 1) (by decide) dX10_age_143 rfl (by decide) ?_
            refine px_goto (tgt := 109) dX10_age_146 (by decide) ?_
            refine px_keep [0, 1] ?_
            refine K3 _ (MR_T (MR_z hM3 (i := 67 + i) (by omega) (by omega)) (fun j h1 h2 h3 => ?_)) (fun k0 hk => (pv_uI_ne hk).trans (hF3 k0 hk))
            show (if 67 ≤ j ∧ j < 67 + (i + 1) then A j - 1 else A j) = pt_up _ _ _ j
            unfold pt_up
            by_cases e1 : j = 67 + i
            · (rw [if_pos e1, if_pos (by omega), e1]) <;> omega
            · rw [if_neg e1]
              show (if 67 ≤ j ∧ j < 67 + (i + 1) then A j - 1 else A j) = (if 67 ≤ j ∧ j < 67 + i then A j - 1 else A j)
              by_cases e2 : 67 ≤ j ∧ j < 67 + i
              · rw [if_pos e2, if_pos (by omega)]
              · rw [if_neg e2, if_neg (by omega)]
          · refine px_iconst (v := nI 1) dX10_age_136 (by decide) ?_
            refine px_goto (tgt := 141) dX10_age_137 (by decide) ?_
            refine px_isubN (by omega) dX10_age_141 ?_
            refine px_iast (j := (67 + i)) dX10_age_142 pv_a_z.1 rfl (by omega) pv_a_z.2.2 pv_a_z.2.1 ?_
            refine px_iincN (c := 1) (by decide) dX10_age_143 rfl (by decide) ?_
            refine px_goto (tgt := 109) dX10_age_146 (by decide) ?_
            refine px_keep [0, 1] ?_
            refine K3 _ (MR_T (MR_z hM3 (i := 67 + i) (by omega) (by omega)) (fun j h1 h2 h3 => ?_)) (fun k0 hk => (pv_uI_ne hk).trans (hF3 k0 hk))
            show (if 67 ≤ j ∧ j < 67 + (i + 1) then A j - 1 else A j) = pt_up _ _ _ j
            unfold pt_up
            by_cases e1 : j = 67 + i
            · (rw [if_pos e1, if_pos (by omega), e1]) <;> omega
            · rw [if_neg e1]
              show (if 67 ≤ j ∧ j < 67 + (i + 1) then A j - 1 else A j) = (if 67 ≤ j ∧ j < 67 + i then A j - 1 else A j)
              by_cases e2 : 67 ≤ j ∧ j < 67 + i
              · rw [if_pos e2, if_pos (by omega)]
              · rw [if_neg e2, if_neg (by omega)]
      refine px_keep [0, 1] ?_
      exact key3 0 (by omega) I2 (MR_T hM2 (fun j _ _ _ => if_neg (by omega))) (fun _ _ => rfl)
    · intro i hi K I1 A M hA hM0 hM1 hF
      have hlen : M.length = L.length := by rw [hM0]; exact pd_mix_len (by omega)
      have hi1 : i < M.length := by omega
      have hout : ∀ j, ¬ (24 ≤ j ∧ j < 64) → A j = T j := fun j hj => by rw [hA]; exact pd_foldT_out hL hj
      have hbA : tb A := tb_of hb fun j hj _ _ _ _ => hout j hj
      have hgi : pl_g M i = pl_g L i := by rw [hM0, pd_mix_g (by omega) hi, if_neg (Nat.lt_irrefl i)]
      have hx := hL.2 i hi
      unfold lb at hx
      have hxa := hag i hi
      have hnw : pm_life A (pl_g L i).1 (pl_g L i).2.1 (A (67 + (pl_g L i).2.1)) = pt_now T (pl_g L i).1 (pl_g L i).2.1 := pt_now_of hout hx.1 hx.2.1
      have hst := @pt_step_le (pt_now T (pl_g L i).1 (pl_g L i).2.1)
      have hwm := (hbA.2.1 _ hx.2.1).2
      rw [← hgi] at hx hxa hwm
      refine px_iload_n dX10_age_2 rfl ?_
      refine px_aload_n dX10_age_3 rfl ?_
      refine px_getR dX10_age_4 flX10_7 pv_s_model (by decide) (by decide) rfl pv_k_model pv_p_365_1 ?_
      refine px_sipush (v := nI 406) dX10_age_7 (by decide) ?_
      refine px_iald (j := 406) dX10_age_10 pv_a_z.1 rfl (by omega) pv_a_z.2.2 pv_a_z.2.1 ?_
      refine px_iv (y := nI (M.length)) (hM1.2.1) ?_
      refine px_icmp_geN (tgt := 103) dX10_age_11 (by decide) (by omega) (by omega) (fun h0 => absurd h0 (by omega)) (fun _ => ?_)
      refine px_aload_n dX10_age_14 rfl ?_
      refine px_iload_n dX10_age_15 rfl ?_
      refine px_iconst (v := nI 0) dX10_age_16 (by decide) ?_
      refine c_X10_of dX10_age_17 mlX10_53 (by omega) (by omega) (by omega) (Nat.le_of_ble_eq_true rfl) ?_
      refine px_iv (y := nI ((pl_g M (i)).1)) ((mr_l hM1 (by omega)).1) ?_
      refine px_istore_n dX10_age_20 (by decide) ?_
      refine px_aload_n dX10_age_21 rfl ?_
      refine px_iload_n dX10_age_22 rfl ?_
      refine px_iconst (v := nI 1) dX10_age_23 (by decide) ?_
      refine c_X10_of dX10_age_24 mlX10_53 (by omega) (by omega) (by omega) (Nat.le_of_ble_eq_true rfl) ?_
      refine px_iv (y := nI ((pl_g M (i)).2.1)) ((mr_l hM1 (by omega)).2.1) ?_
      refine px_istore_n dX10_age_27 (by decide) ?_
      refine px_aload_n dX10_age_28 rfl ?_
      refine px_getR dX10_age_29 flX10_7 pv_s_model (by decide) (by decide) rfl pv_k_model pv_p_365_1 ?_
      refine px_bipush (v := nI 70) dX10_age_32 (by decide) ?_
      refine px_iconst (v := nI 4) dX10_age_34 (by decide) ?_
      refine px_iload_n dX10_age_35 rfl ?_
      refine px_imulN dX10_age_36 ?_
      refine px_iaddN dX10_age_37 ?_
      refine px_iconst (v := nI 3) dX10_age_38 (by decide) ?_
      refine px_iaddN dX10_age_39 ?_
      refine px_dup2 dX10_age_40 rfl rfl ?_
      refine px_iald (j := ((70 + (4 * i)) + 3)) dX10_age_41 pv_a_z.1 rfl (by omega) pv_a_z.2.2 pv_a_z.2.1 ?_
      refine px_iv (y := nI ((pl_g M i).2.2.2)) ((mr_l hM1 hi1).2.2.2) ?_
      refine px_aload_n dX10_age_42 rfl ?_
      refine px_iload_n dX10_age_43 rfl ?_
      refine px_iload_n dX10_age_44 rfl ?_
      refine px_aload_n dX10_age_45 rfl ?_
      refine px_getR dX10_age_46 flX10_7 pv_s_model (by decide) (by decide) rfl pv_k_model pv_p_365_1 ?_
      refine px_bipush (v := nI 67) dX10_age_49 (by decide) ?_
      refine px_iload_n dX10_age_51 rfl ?_
      refine px_iaddN dX10_age_52 ?_
      refine px_iald (j := (67 + ((pl_g M (i)).2.1))) dX10_age_53 pv_a_z.1 rfl (by omega) pv_a_z.2.2 pv_a_z.2.1 ?_
      refine px_iv (y := nI (A ((67 + ((pl_g M (i)).2.1))))) (hM1.1 ((67 + ((pl_g M (i)).2.1))) (by omega) (by omega) (by omega)) ?_
      refine c_X10_ages dX10_age_54 mlX10_79 (by omega) hM1 hbA.1 hx.1 hx.2.1 (by omega) (Nat.le_of_ble_eq_true rfl) ?_
      rw [show pm_life A (pl_g M i).1 (pl_g M i).2.1 (A (67 + (pl_g M i).2.1)) = pt_now T (pl_g L i).1 (pl_g L i).2.1 by rw [hgi]; exact hnw]
      refine px_iaddN dX10_age_57 ?_
      refine px_iast (j := ((70 + (4 * i)) + 3)) dX10_age_58 pv_a_z.1 rfl (by omega) pv_a_z.2.2 pv_a_z.2.1 ?_
      have e1 : (pl_g M i).2.2.2 + pt_step (pt_now T (pl_g L i).1 (pl_g L i).2.1) = pd_grown T (pl_g L i) := by rw [hgi]; rfl
      rw [e1]
      have hgr : pd_grown T (pl_g L i) ≤ 2000 := by rw [← e1]; omega
      have hM2 := MR_age hM1 hi1 hgr
      generalize hMs : M.set i ((pl_g M i).1, (pl_g M i).2.1, (pl_g M i).2.2.1, pd_grown T (pl_g L i)) = M2 at hM2
      have hg2 : pl_g M2 i = ((pl_g M i).1, (pl_g M i).2.1, (pl_g M i).2.2.1, pd_grown T (pl_g L i)) := by rw [← hMs, pl_g_set hi1, if_pos rfl]
      have hl2 : M2.length = M.length := by rw [← hMs]; exact List.length_set
      have hF2 : ∀ k0 : Nat, k0 ≠ 366 → (pv_uI I1 366 (70 + 4 * i + 3) (nI (pd_grown T (pl_g L i)))) k0 = I k0 := fun k0 hk => (pv_uI_ne hk).trans (hF k0 hk)
      generalize pv_uI I1 366 (70 + 4 * i + 3) (nI (pd_grown T (pl_g L i))) = I2 at hM2 hF2 ⊢
      refine px_aload_n dX10_age_59 rfl ?_
      refine px_iload_n dX10_age_60 rfl ?_
      refine px_iconst (v := nI 3) dX10_age_61 (by decide) ?_
      refine c_X10_of dX10_age_62 mlX10_53 (by omega) (by omega) (by omega) (Nat.le_of_ble_eq_true rfl) ?_
      refine px_iv (y := nI (pd_grown T (pl_g L i))) (((mr_l hM2 (by omega)).2.2.2).trans (congrArg nI (by rw [hg2]))) ?_
      refine px_sipush (v := nI 1000) dX10_age_65 (by decide) ?_
      refine px_icmp_ltN (tgt := 97) dX10_age_68 (by decide) (by omega) (by omega) (fun h0 => ?_) (fun h0 => ?_)
      · refine px_iincN (c := 1) (by decide) dX10_age_97 rfl (by decide) ?_
        refine px_goto (tgt := 2) dX10_age_100 (by decide) ?_
        refine px_keep [0, 1] ?_
        have eM : M2 = pd_mix T L (i + 1) := by
          refine pl_ext (by rw [pd_mix_len (by omega)]; rw [hl2]; exact hlen) fun l hl => ?_
          have hlL : l < L.length := by rw [hl2, hlen] at hl; omega
          rw [pd_mix_g (by omega) hlL]
          by_cases e3 : l = i
          · subst e3
            rw [if_pos (Nat.lt_succ_self l)]
            rw [hg2, hgi]
            unfold pd_old
            rw [if_neg (by omega)]
          · rw [← hMs, pl_g_set hi1]
            rw [if_neg e3, hM0, pd_mix_g (by omega) hlL]
            by_cases e4 : l < i
            · rw [if_pos e4, if_pos (by omega)]
            · rw [if_neg e4, if_neg (by omega)]
        have eA : A = pd_foldT T L (i + 1) := by
          rw [pd_foldT1 hi, ← hA]
          unfold pd_spoil
          rw [if_neg (by omega)]
        exact K I2 A M2 eA eM hM2 hF2
      · refine px_aload_n dX10_age_71 rfl ?_
        refine px_iload_n dX10_age_72 rfl ?_
        refine px_iconst (v := nI 2) dX10_age_73 (by decide) ?_
        refine px_aload_n dX10_age_74 rfl ?_
        refine px_iload_n dX10_age_75 rfl ?_
        refine px_iconst (v := nI 2) dX10_age_76 (by decide) ?_
        refine c_X10_of dX10_age_77 mlX10_53 (by omega) (by omega) (by omega) (Nat.le_of_ble_eq_true rfl) ?_
        refine px_iv (y := nI ((pl_g M i).2.2.1)) (((mr_l hM2 (by omega)).2.2.1).trans (congrArg nI (by rw [hg2]))) ?_
        refine c_X10_tally dX10_age_80 mlX10_88 (by omega) hM2 hx.1 (by omega) (Nat.le_of_ble_eq_true rfl) ?_
        have hM3 := MR_z (i := 24 + 5 * (pl_g M i).1 + 2) (v := A (24 + 5 * (pl_g M i).1 + 2) + (pl_g M i).2.2.1) hM2 (by omega) (by omega)
        have hF3 : ∀ k0 : Nat, k0 ≠ 366 → (pv_uI I2 366 (24 + 5 * (pl_g M i).1 + 2) (nI (A (24 + 5 * (pl_g M i).1 + 2) + (pl_g M i).2.2.1))) k0 = I k0 := fun k0 hk => (pv_uI_ne hk).trans (hF2 k0 hk)
        generalize pv_uI I2 366 (24 + 5 * (pl_g M i).1 + 2) (nI (A (24 + 5 * (pl_g M i).1 + 2) + (pl_g M i).2.2.1)) = I3 at hM3 hF3 ⊢
        refine px_aload_n dX10_age_83 rfl ?_
        refine px_getR dX10_age_84 flX10_7 pv_s_model (by decide) (by decide) rfl pv_k_model pv_p_365_1 ?_
        refine px_bipush (v := nI 70) dX10_age_87 (by decide) ?_
        refine px_iconst (v := nI 4) dX10_age_89 (by decide) ?_
        refine px_iload_n dX10_age_90 rfl ?_
        refine px_imulN dX10_age_91 ?_
        refine px_iaddN dX10_age_92 ?_
        refine px_iconst (v := nI 2) dX10_age_93 (by decide) ?_
        refine px_iaddN dX10_age_94 ?_
        refine px_iconst (v := nI 0) dX10_age_95 (by decide) ?_
        refine px_iast (j := ((70 + (4 * i)) + 2)) dX10_age_96 pv_a_z.1 rfl (by omega) pv_a_z.2.2 pv_a_z.2.1 ?_
        have hM4 := MR_amt hM3 (l := i) (v := 0) (by omega) (by omega)
        unfold pl_amt at hM4
        rw [hg2] at hM4
        refine px_iincN (c := 1) (by decide) dX10_age_97 rfl (by decide) ?_
        refine px_goto (tgt := 2) dX10_age_100 (by decide) ?_
        refine px_keep [0, 1] ?_
        have eM : M2.set i ((pl_g M i).1, (pl_g M i).2.1, 0, pd_grown T (pl_g L i)) = pd_mix T L (i + 1) := by
          refine pl_ext (by rw [pd_mix_len (by omega)]; rw [List.length_set, hl2]; exact hlen) fun l hl => ?_
          have hlL : l < L.length := by rw [List.length_set, hl2, hlen] at hl; omega
          rw [pd_mix_g (by omega) hlL]
          by_cases e3 : l = i
          · subst e3
            rw [if_pos (Nat.lt_succ_self l)]
            rw [pl_g_set (by omega), if_pos rfl, hgi]
            unfold pd_old
            rw [if_pos (by omega)]
          · rw [pl_g_set (by omega), if_neg e3, ← hMs, pl_g_set hi1]
            rw [if_neg e3, hM0, pd_mix_g (by omega) hlL]
            by_cases e4 : l < i
            · rw [if_pos e4, if_pos (by omega)]
            · rw [if_neg e4, if_neg (by omega)]
        have eA : pt_up A (24 + 5 * (pl_g M i).1 + 2) (A (24 + 5 * (pl_g M i).1 + 2) + (pl_g M i).2.2.1) = pd_foldT T L (i + 1) := by
          rw [pd_foldT1 hi, ← hA, hgi, show 24 + 5 * (pl_g L i).1 + 2 = 26 + 5 * (pl_g L i).1 by omega]
          unfold pd_spoil
          rw [if_pos (by omega)]
        exact K _ _ _ eA eM hM4 (fun k0 hk => (pv_uI_ne hk).trans (hF3 k0 hk))
  refine px_iconst (v := nI 0) dX10_age_0 (by decide) ?_
  refine px_istore_n dX10_age_1 (by decide) ?_
  exact key 0 (by omega) I T L rfl pd_mix0.symm hM (fun _ _ => rfl)
theorem c_X10_age {z : pv_Z} {E : pv_E} {d bc bs : Nat} {J : pv_JT} {I : pv_IT} {mi : pv_MI} {pc idx : Nat} {lv : pv_LV} {st : List Value} {T : pv_T} {L : List pv_Lot} (hd : decode mi.2.1 pc = .ok (.invokevirtual idx, 3)) (hlk : Cond.methodLink mi.1.cls idx mX10_age.1 ∈ pv_W) (hD : 2+1 ≤ d) (hM : MR (I 366) T L) (hb : tb T) (hag : ∀ l, l < L.length → (pl_g L l).2.2.2 < 1000) (hcat : (st.map fun v => v.category).sum ≤ 8) (K : ∀ I' : pv_IT, MR (I' 366) (pd_cool (pd_age (T, L)).1) (pd_age (T, L)).2 → (∀ k0 : Nat, k0 ≠ 366 → I' k0 = I k0) → pv_X z E d bc bs mi (pc + 3) lv (st) pv_K0 pv_P0 (I') (J)) : pv_X z E d bc bs mi pc lv (.ref (365) :: st) pv_K0 pv_P0 I J := by
  obtain ⟨d, rfl⟩ : ∃ d0, d = d0 + 1 := ⟨d - 1, by omega⟩
  have key := px_callV (bc := bc) (bs := bs) (bc1 := 0) (bs1 := 0) (as := []) (E := E) (z := z) (lv := lv) hd mvX10_age hlk pv_s_model (by decide) rfl pv_k_model rfl rfl hcat (by exact Nat.le_of_ble_eq_true rfl) (s_X10_age (by omega) hM hb hag K)
  rw [Nat.zero_add, Nat.zero_add] at key
  exact key
set_option maxRecDepth 100000 in
set_option maxHeartbeats 4000000 in
theorem s_X10_passDay {Q : pv_Q} {E : pv_E} {d bc bs : Nat} {J : pv_JT} {I : pv_IT} {T : pv_T} {L : List pv_Lot} (hD : 4 ≤ d) (hM : MR (I 366) T L) (hdy : dy (T, L)) (h4 : T 404 < 2147483648) (h : ∀ I' : pv_IT, MR (I' 366) (pd_day (T, L)).1 (pd_day (T, L)).2 → (∀ k0 : Nat, k0 ≠ 366 → k0 ≠ 370 → I' k0 = I k0) → Q (.inl none) pv_K0 pv_P0 (I') (J)) : pv_X (pv_ZQ E Q) E d bc bs mX10_passDay 0 [(0, .ref (365))] [] pv_K0 pv_P0 I J := by
  have hsv := pd_served_ok hdy
  have hT1 : ∀ j, ¬ (24 ≤ j ∧ j < 64) → (pd_served (T, L)).2.1 j = T j := hsv.1.1
  refine px_aload_n dX10_passDay_0 rfl ?_
  refine px_getR dX10_passDay_1 flX10_7 pv_s_model (by decide) (by decide) rfl pv_k_model pv_p_365_1 ?_
  refine px_sipush (v := nI 412) dX10_passDay_4 (by decide) ?_
  refine px_dup2 dX10_passDay_7 rfl rfl ?_
  refine px_iald (j := 412) dX10_passDay_8 pv_a_z.1 rfl (by omega) pv_a_z.2.2 pv_a_z.2.1 ?_
  refine px_iv (y := nI (T (412))) (hM.1 (412) (by omega) (by omega) (by omega)) ?_
  refine px_aload_n dX10_passDay_9 rfl ?_
  refine c_X10_serve dX10_passDay_10 mlX10_115 (by omega) hM hdy h4 (Nat.le_of_ble_eq_true rfl) (fun I1 hM1 hF1 => ?_)
  have main : ∀ I2 : pv_IT, MR (I2 366) (pd_hungry (pd_served (T, L))).1 (pl_drop (pd_served (T, L)).2.2) → (∀ k0 : Nat, k0 ≠ 366 → k0 ≠ 370 → I2 k0 = I k0) → pv_X (pv_ZQ E Q) E d bc bs mX10_passDay 23 [(0, .ref 365)] [] pv_K0 pv_P0 I2 J := by
    intro I2 hM2 hF2
    have hbh := tb_hungry hdy
    have hag : ∀ l, l < (pl_drop (pd_served (T, L)).2.2).length → (pl_g (pl_drop (pd_served (T, L)).2.2) l).2.2.2 < 1000 := fun l hl => by
      have hmm := (List.mem_filter.mp (pl_g_mem hl)).1
      obtain ⟨q, hq, e⟩ := pl_mem_g hmm
      rw [show pl_g (pl_drop (pd_served (T, L)).2.2) l = pl_g (pd_served (T, L)).2.2 q from e.symm, (hsv.1.2.2 q).2.2]
      exact (hdy.2.2 q (by rw [← show (pd_served (T, L)).2.2.length = L.length from hsv.1.2.1]; exact hq)).2
    refine px_aload_n dX10_passDay_23 rfl ?_
    refine c_X10_age dX10_passDay_24 mlX10_119 (by omega) hM2 hbh hag (Nat.le_of_ble_eq_true rfl) (fun I3 hM3 hF3 => ?_)
    rw [pd_age_drop] at hM3
    replace hM3 : MR (I3 366) (pd_cool (pd_age (pd_hungry (pd_served (T, L)))).1) (pd_age (pd_hungry (pd_served (T, L)))).2 := hM3
    refine px_aload_n dX10_passDay_27 rfl ?_
    refine px_getR dX10_passDay_28 flX10_7 pv_s_model (by decide) (by decide) rfl pv_k_model pv_p_365_1 ?_
    refine px_sipush (v := nI 404) dX10_passDay_31 (by decide) ?_
    refine px_dup2 dX10_passDay_34 rfl rfl ?_
    refine px_iald (j := 404) dX10_passDay_35 pv_a_z.1 rfl (by omega) pv_a_z.2.2 pv_a_z.2.1 ?_
    refine px_iv (y := nI ((pd_age (pd_hungry (pd_served (T, L)))).1 404)) ((hM3.1 404 (by omega) (by omega) (by omega)).trans (congrArg nI (if_neg (by omega)))) ?_
    refine px_iconst (v := nI 1) dX10_passDay_36 (by decide) ?_
    refine px_iaddN dX10_passDay_37 ?_
    refine px_iast (j := 404) dX10_passDay_38 pv_a_z.1 rfl (by omega) pv_a_z.2.2 pv_a_z.2.1 ?_
    refine px_vret dX10_passDay_39 rfl (Or.inl rfl) (h _ (MR_T (MR_z hM3 (i := 404) (v := (pd_age (pd_hungry (pd_served (T, L)))).1 404 + 1) (by omega) (by omega)) (fun j h1 h2 h3 => ?_)) (fun k0 h1 h2 => (pv_uI_ne h1).trans ((hF3 k0 h1).trans (hF2 k0 h1 h2))))
    show pd_night (pd_age (pd_hungry (pd_served (T, L)))).1 j = pt_up (pd_cool (pd_age (pd_hungry (pd_served (T, L)))).1) 404 ((pd_age (pd_hungry (pd_served (T, L)))).1 404 + 1) j
    unfold pd_night pt_up pd_cool
    rfl
  refine px_if_eqB (tgt := 20) dX10_passDay_13 (by decide) (fun h5 => ?_) (fun h5 => ?_)
  · refine px_iconst (v := nI 0) dX10_passDay_20 (by decide) ?_
    refine px_iaddN dX10_passDay_21 ?_
    refine px_iast (j := 412) dX10_passDay_22 pv_a_z.1 rfl (by omega) pv_a_z.2.2 pv_a_z.2.1 ?_
    refine main _ (MR_T (MR_z hM1 (i := 412) (v := T 412 + 0) (by omega) (by omega)) (fun j h1 h2 h3 => ?_)) (fun k0 h1 h2 => (pv_uI_ne h1).trans (hF1 k0 h1 h2))
    show (if 0 < (pd_served (T, L)).1 then pt_up (pd_served (T, L)).2.1 412 ((pd_served (T, L)).2.1 412 + 1) else (pd_served (T, L)).2.1) j = pt_up (pd_served (T, L)).2.1 412 (T 412 + 0) j
    rw [if_neg h5]
    unfold pt_up
    split
    · rename_i e; rw [e, hT1 412 (by omega)]; rfl
    · rfl
  · refine px_iconst (v := nI 1) dX10_passDay_16 (by decide) ?_
    refine px_goto (tgt := 21) dX10_passDay_17 (by decide) ?_
    refine px_iaddN dX10_passDay_21 ?_
    refine px_iast (j := 412) dX10_passDay_22 pv_a_z.1 rfl (by omega) pv_a_z.2.2 pv_a_z.2.1 ?_
    refine main _ (MR_T (MR_z hM1 (i := 412) (v := T 412 + 1) (by omega) (by omega)) (fun j h1 h2 h3 => ?_)) (fun k0 h1 h2 => (pv_uI_ne h1).trans (hF1 k0 h1 h2))
    show (if 0 < (pd_served (T, L)).1 then pt_up (pd_served (T, L)).2.1 412 ((pd_served (T, L)).2.1 412 + 1) else (pd_served (T, L)).2.1) j = pt_up (pd_served (T, L)).2.1 412 (T 412 + 1) j
    rw [if_pos h5, hT1 412 (by omega)]
theorem c_X10_passDay {z : pv_Z} {E : pv_E} {d bc bs : Nat} {J : pv_JT} {I : pv_IT} {mi : pv_MI} {pc idx : Nat} {lv : pv_LV} {st : List Value} {T : pv_T} {L : List pv_Lot} (hd : decode mi.2.1 pc = .ok (.invokevirtual idx, 3)) (hlk : Cond.methodLink mi.1.cls idx mX10_passDay.1 ∈ pv_W) (hD : 4+1 ≤ d) (hM : MR (I 366) T L) (hdy : dy (T, L)) (h4 : T 404 < 2147483648) (hcat : (st.map fun v => v.category).sum ≤ 8) (K : ∀ I' : pv_IT, MR (I' 366) (pd_day (T, L)).1 (pd_day (T, L)).2 → (∀ k0 : Nat, k0 ≠ 366 → k0 ≠ 370 → I' k0 = I k0) → pv_X z E d bc bs mi (pc + 3) lv (st) pv_K0 pv_P0 (I') (J)) : pv_X z E d bc bs mi pc lv (.ref (365) :: st) pv_K0 pv_P0 I J := by
  obtain ⟨d, rfl⟩ : ∃ d0, d = d0 + 1 := ⟨d - 1, by omega⟩
  have key := px_callV (bc := bc) (bs := bs) (bc1 := 0) (bs1 := 0) (as := []) (E := E) (z := z) (lv := lv) hd mvX10_passDay hlk pv_s_model (by decide) rfl pv_k_model rfl rfl hcat (by exact Nat.le_of_ble_eq_true rfl) (s_X10_passDay (by omega) hM hdy h4 K)
  rw [Nat.zero_add, Nat.zero_add] at key
  exact key
set_option maxRecDepth 100000 in
set_option maxHeartbeats 4000000 in
theorem s_X10_passDays {Q : pv_Q} {E : pv_E} {d bc bs : Nat} {J : pv_JT} {I : pv_IT} {T : pv_T} {L : List pv_Lot} {n : Nat} (hD : 5 ≤ d) (hM : MR (I 366) T L) (hdy : dy (T, L)) (h4 : T 404 + n < 2147483648) (h : ∀ I' : pv_IT, MR (I' 366) (pd_days (T, L) n).1 (pd_days (T, L) n).2 → (∀ k0 : Nat, k0 ≠ 366 → k0 ≠ 370 → I' k0 = I k0) → Q (.inl none) pv_K0 pv_P0 (I') (J)) : pv_X (pv_ZQ E Q) E d bc bs mX10_passDays 0 [(0, .ref (365)), (1, .int (nI (n)))] [] pv_K0 pv_P0 I J := by
  have key : ∀ i : Nat, i ≤ n → ∀ I1 : pv_IT, MR (I1 366) (pd_days (T, L) (i)).1 (pd_days (T, L) (i)).2 → (∀ k0 : Nat, k0 ≠ 366 → k0 ≠ 370 → I1 k0 = I k0) → pv_X (pv_ZQ E Q) E d bc bs mX10_passDays 2 [(0, .ref 365), (1, .int (nI n)), (2, .int (nI (i)))] [] pv_K0 pv_P0 (I1) (J) := by
    refine pv_up (n) ?_ ?_
    · intro I1 hM1 hF1
      refine px_iload_n dX10_passDays_2 rfl ?_
      refine px_iload_n dX10_passDays_3 rfl ?_
      refine px_icmp_geN (tgt := 17) dX10_passDays_4 (by decide) (by omega) (by omega) (fun _ => ?_) (fun h0 => absurd h0 (by omega))
      exact px_vret dX10_passDays_17 rfl (Or.inl rfl) (h I1 hM1 hF1)
    · intro i hi K I1 hM1 hF1
      have hok := pd_days_ok hdy i
      have h9 : (pd_days (T, L) i).1 404 = T 404 + i := hok.2.1
      refine px_iload_n dX10_passDays_2 rfl ?_
      refine px_iload_n dX10_passDays_3 rfl ?_
      refine px_icmp_geN (tgt := 17) dX10_passDays_4 (by decide) (by omega) (by omega) (fun h0 => absurd h0 (by omega)) (fun _ => ?_)
      refine px_aload_n dX10_passDays_7 rfl ?_
      refine c_X10_passDay dX10_passDays_8 mlX10_122 (by omega) hM1 hok.1 (by omega) (Nat.le_of_ble_eq_true rfl) (fun I2 hM2 hF2 => ?_)
      refine px_iincN (c := 1) (by decide) dX10_passDays_11 rfl (by decide) ?_
      refine px_goto (tgt := 2) dX10_passDays_14 (by decide) ?_
      refine px_keep [0, 1, 2] ?_
      exact K I2 hM2 (fun k0 h1 h2 => (hF2 k0 h1 h2).trans (hF1 k0 h1 h2))
  refine px_iconst (v := nI 0) dX10_passDays_0 (by decide) ?_
  refine px_istore_n dX10_passDays_1 (by decide) ?_
  exact key 0 (by omega) I hM (fun _ _ _ => rfl)
theorem c_X10_passDays {z : pv_Z} {E : pv_E} {d bc bs : Nat} {J : pv_JT} {I : pv_IT} {mi : pv_MI} {pc idx : Nat} {lv : pv_LV} {st : List Value} {T : pv_T} {L : List pv_Lot} {n : Nat} (hd : decode mi.2.1 pc = .ok (.invokevirtual idx, 3)) (hlk : Cond.methodLink mi.1.cls idx mX10_passDays.1 ∈ pv_W) (hD : 5+1 ≤ d) (hM : MR (I 366) T L) (hdy : dy (T, L)) (h4 : T 404 + n < 2147483648) (hcat : (st.map fun v => v.category).sum ≤ 8) (K : ∀ I' : pv_IT, MR (I' 366) (pd_days (T, L) n).1 (pd_days (T, L) n).2 → (∀ k0 : Nat, k0 ≠ 366 → k0 ≠ 370 → I' k0 = I k0) → pv_X z E d bc bs mi (pc + 3) lv (st) pv_K0 pv_P0 (I') (J)) : pv_X z E d bc bs mi pc lv (.int (nI (n)) :: .ref (365) :: st) pv_K0 pv_P0 I J := by
  obtain ⟨d, rfl⟩ : ∃ d0, d = d0 + 1 := ⟨d - 1, by omega⟩
  have key := px_callV (bc := bc) (bs := bs) (bc1 := 0) (bs1 := 0) (as := [.int (nI (n))]) (E := E) (z := z) (lv := lv) hd mvX10_passDays hlk pv_s_model (by decide) rfl pv_k_model rfl rfl hcat (by exact Nat.le_of_ble_eq_true rfl) (s_X10_passDays (by omega) hM hdy h4 K)
  rw [Nat.zero_add, Nat.zero_add] at key
  exact key
set_option maxRecDepth 100000 in
set_option maxHeartbeats 4000000 in
theorem s_X10_all {Q : pv_Q} {E : pv_E} {d bc bs : Nat} {J : pv_JT} {I : pv_IT} {T : pv_T} {L : List pv_Lot} {w : Nat} (hD : 0 ≤ d) (hM : MR (I 366) T L) (h8 : T 405 ≤ 8) (hw : w < 5) (h : Q (.inl (some (.int (nI (pt_sum T w (T 405)))))) pv_K0 pv_P0 (I) (J)) : pv_X (pv_ZQ E Q) E d bc bs mX10_all 0 [(0, .ref (365)), (1, .int (nI (w)))] [] pv_K0 pv_P0 I J := by
  have key : ∀ i : Nat, i ≤ T 405 → pv_X (pv_ZQ E Q) E d bc bs mX10_all 4 [(0, .ref 365), (1, .int (nI w)), (2, .int (nI (pt_sum T w (i)))), (3, .int (nI (i)))] [] pv_K0 pv_P0 (I) (J) := by
    refine pv_up (T 405) ?_ ?_
    · refine px_iload_n dX10_all_4 rfl ?_
      refine px_aload_n dX10_all_5 rfl ?_
      refine px_getR dX10_all_6 flX10_7 pv_s_model (by decide) (by decide) rfl pv_k_model pv_p_365_1 ?_
      refine px_sipush (v := nI 405) dX10_all_9 (by decide) ?_
      refine px_iald (j := 405) dX10_all_12 pv_a_z.1 rfl (by omega) pv_a_z.2.2 pv_a_z.2.1 ?_
      refine px_iv (y := nI (T (405))) (hM.1 (405) (by omega) (by omega) (by omega)) ?_
      refine px_icmp_geN (tgt := 38) dX10_all_13 (by decide) (by omega) (by omega) (fun _ => ?_) (fun h0 => absurd h0 (by omega))
      refine px_iload_n dX10_all_38 rfl ?_
      exact px_iret dX10_all_39 rfl (Or.inl rfl) (h)
    · intro i hi K 
      refine px_iload_n dX10_all_4 rfl ?_
      refine px_aload_n dX10_all_5 rfl ?_
      refine px_getR dX10_all_6 flX10_7 pv_s_model (by decide) (by decide) rfl pv_k_model pv_p_365_1 ?_
      refine px_sipush (v := nI 405) dX10_all_9 (by decide) ?_
      refine px_iald (j := 405) dX10_all_12 pv_a_z.1 rfl (by omega) pv_a_z.2.2 pv_a_z.2.1 ?_
      refine px_iv (y := nI (T (405))) (hM.1 (405) (by omega) (by omega) (by omega)) ?_
      refine px_icmp_geN (tgt := 38) dX10_all_13 (by decide) (by omega) (by omega) (fun h0 => absurd h0 (by omega)) (fun _ => ?_)
      refine px_iload_n dX10_all_16 rfl ?_
      refine px_aload_n dX10_all_17 rfl ?_
      refine px_getR dX10_all_18 flX10_7 pv_s_model (by decide) (by decide) rfl pv_k_model pv_p_365_1 ?_
      refine px_bipush (v := nI 24) dX10_all_21 (by decide) ?_
      refine px_iconst (v := nI 5) dX10_all_23 (by decide) ?_
      refine px_iload_n dX10_all_24 rfl ?_
      refine px_imulN dX10_all_25 ?_
      refine px_iaddN dX10_all_26 ?_
      refine px_iload_n dX10_all_27 rfl ?_
      refine px_iaddN dX10_all_28 ?_
      refine px_iald (j := ((24 + (5 * i)) + w)) dX10_all_29 pv_a_z.1 rfl (by omega) pv_a_z.2.2 pv_a_z.2.1 ?_
      refine px_iv (y := nI (T (24 + w + 5 * i))) ((hM.1 (((24 + (5 * i)) + w)) (by omega) (by omega) (by omega)).trans (congrArg nI (congrArg T (by omega)))) ?_
      refine px_iaddN dX10_all_30 ?_
      refine px_istore_n dX10_all_31 (by decide) ?_
      refine px_iincN (c := 1) (by decide) dX10_all_32 rfl (by decide) ?_
      refine px_goto (tgt := 4) dX10_all_35 (by decide) ?_
      refine px_keep [0, 1, 2, 3] ?_
      exact K
  refine px_iconst (v := nI 0) dX10_all_0 (by decide) ?_
  refine px_istore_n dX10_all_1 (by decide) ?_
  refine px_iconst (v := nI 0) dX10_all_2 (by decide) ?_
  refine px_istore_n dX10_all_3 (by decide) ?_
  exact key 0 (by omega) 
theorem c_X10_all {z : pv_Z} {E : pv_E} {d bc bs : Nat} {J : pv_JT} {I : pv_IT} {mi : pv_MI} {pc idx : Nat} {lv : pv_LV} {st : List Value} {T : pv_T} {L : List pv_Lot} {w : Nat} (hd : decode mi.2.1 pc = .ok (.invokevirtual idx, 3)) (hlk : Cond.methodLink mi.1.cls idx mX10_all.1 ∈ pv_W) (hD : 0+1 ≤ d) (hM : MR (I 366) T L) (h8 : T 405 ≤ 8) (hw : w < 5) (hcat : (st.map fun v => v.category).sum ≤ 8) (K : pv_X z E d bc bs mi (pc + 3) lv ((.int (nI (pt_sum T w (T 405)))) :: st) pv_K0 pv_P0 (I) (J)) : pv_X z E d bc bs mi pc lv (.int (nI (w)) :: .ref (365) :: st) pv_K0 pv_P0 I J := by
  obtain ⟨d, rfl⟩ : ∃ d0, d = d0 + 1 := ⟨d - 1, by omega⟩
  have key := px_callV (bc := bc) (bs := bs) (bc1 := 0) (bs1 := 0) (as := [.int (nI (w))]) (E := E) (z := z) (lv := lv) hd mvX10_all hlk pv_s_model (by decide) rfl pv_k_model rfl rfl hcat (by exact Nat.le_of_ble_eq_true rfl) (s_X10_all (by omega) hM h8 hw K)
  rw [Nat.zero_add, Nat.zero_add] at key
  exact key
