/-! The law: a day, the menu is served. -/
theorem pd_items_more {D : Nat → Nat} {m : Nat} {s : pv_S} (hm : m < s.1 408) (hb : tb s.1) (hl : lbs s.2) : ∀ j : Nat, pd_items D m s (s.1 (314 + m) + j) = pd_items D m s (s.1 (314 + m))
  | 0 => rfl
  | j + 1 => by
    have h1 := pd_items_more (D := D) hm hb hl j
    have h2 := (pd_items_like (D := D) hm hb hl (s.1 (314 + m) + j)).1.1 (314 + m) (by omega)
    show ((pd_items D m s (s.1 (314 + m) + j)).1 + (pd_item D m (s.1 (314 + m) + j) (pd_items D m s (s.1 (314 + m) + j)).2).1, (pd_item D m (s.1 (314 + m) + j) (pd_items D m s (s.1 (314 + m) + j)).2).2) = _
    have e : pd_item D m (s.1 (314 + m) + j) (pd_items D m s (s.1 (314 + m) + j)).2 = (0, (pd_items D m s (s.1 (314 + m) + j)).2) := by
      unfold pd_item
      rw [if_neg (by rw [h2]; omega)]
    rw [e, h1]
    rfl
theorem pd_items_4 {D : Nat → Nat} {m : Nat} {s : pv_S} (hm : m < s.1 408) (hb : tb s.1) (hl : lbs s.2) (h4 : s.1 (314 + m) ≤ 4) : pd_items D m s 4 = pd_items D m s (s.1 (314 + m)) := by
  have h1 := pd_items_more (D := D) hm hb hl (4 - s.1 (314 + m))
  rw [show s.1 (314 + m) + (4 - s.1 (314 + m)) = 4 by omega] at h1
  exact h1
theorem pl_pos_0 {x : pv_Lot} (h : ¬ pl_pos x = true) : x.2.2.1 = 0 := by
  unfold pl_pos at h
  rw [Nat.blt_eq] at h
  omega
theorem pd_old_0 {T : pv_T} {x : pv_Lot} (h : x.2.2.1 = 0) : (pd_old T x).2.2.1 = 0 := by
  unfold pd_old
  show (if 1000 ≤ pd_grown T x then 0 else x.2.2.1) = 0
  rw [h]
  split <;> rfl
theorem pl_drop_old {T : pv_T} : ∀ {L : List pv_Lot}, pl_drop ((pl_drop L).map (pd_old T)) = pl_drop (L.map (pd_old T))
  | [] => rfl
  | x :: L => by
    have h1 := pl_drop_old (T := T) (L := L)
    unfold pl_drop at h1 ⊢
    by_cases h : pl_pos x = true
    · rw [List.filter_cons_of_pos h, List.map_cons, List.map_cons]
      by_cases h2 : pl_pos (pd_old T x) = true
      · rw [List.filter_cons_of_pos h2, List.filter_cons_of_pos h2, h1]
      · rw [List.filter_cons_of_neg h2, List.filter_cons_of_neg h2, h1]
    · rw [List.filter_cons_of_neg h, List.map_cons, List.filter_cons_of_neg (by
        unfold pl_pos
        rw [pd_old_0 (pl_pos_0 h)]
        decide), h1]
theorem pd_spoil_0 {T A : pv_T} {x : pv_Lot} (h : x.2.2.1 = 0) : pd_spoil T A x = A := by
  unfold pd_spoil
  rw [h, Nat.add_zero]
  split
  · funext j
    unfold pt_up
    by_cases e : j = 26 + 5 * x.1
    · rw [if_pos e, e]
    · rw [if_neg e]
  · rfl
theorem pd_fold_drop {T : pv_T} : ∀ {L : List pv_Lot} {A : pv_T}, (pl_drop L).foldl (pd_spoil T) A = L.foldl (pd_spoil T) A
  | [], A => rfl
  | x :: L, A => by
    have h1 := fun A => pd_fold_drop (T := T) (L := L) (A := A)
    unfold pl_drop at h1 ⊢
    by_cases h : pl_pos x = true
    · rw [List.filter_cons_of_pos h, List.foldl_cons, List.foldl_cons, h1]
    · rw [List.filter_cons_of_neg h, List.foldl_cons, pd_spoil_0 (pl_pos_0 h), h1]
theorem pd_age_drop {s : pv_S} : pd_age (s.1, pl_drop s.2) = pd_age s := by
  unfold pd_age
  rw [pd_fold_drop, pl_drop_old]
/-- the menus name kinds that there are -/
def qmk (T : pv_T) : Prop := ∀ m, m < T 408 → ∀ i, i < T (314 + m) → T (194 + 12 * m + 3 * i) < T 405 ∧ (T (196 + 12 * m + 3 * i) = 4294967295 ∨ T (196 + 12 * m + 3 * i) < T 405)
theorem nI_none : nI 4294967295 = -1 := by decide
set_option maxRecDepth 100000 in
set_option maxHeartbeats 4000000 in
theorem s_L_day_A {Q : pv_Q} {E : pv_E} {off : Nat} {d bc bs : Nat} {J : pv_JT} {I : pv_IT} {T : pv_T} {L : List pv_Lot} {Dm : Nat → Nat} {m : Nat} (hD9 : 2 ≤ d) (hQD : qD I T L.length) (hQK : qK I T) (hQL : qL I L) (hQM : qM I T) (hdy : dy (T, L)) (hqb : qb T L) (hmk : qmk T) (hM : ∀ l, l < L.length → I 370 l = nI (Dm l) ∧ Dm l ≤ 2100) (hm : m < T 408) (K : ∀ I' : pv_IT, qK I' (pd_items Dm m (T, L) (T (314 + m))).2.1 → qL I' (pd_items Dm m (T, L) (T (314 + m))).2.2 → (∀ j, j ≠ 366 → j ≠ 367 → I' j = I j) → pv_X (pv_ZD E Q) (pv_of E off) d bc bs mL_day 156 [(0, .ref 365), (1, .ref 366), (2, .ref 367), (3, .ref 368), (4, .ref 370), (5, .int (nI m)), (6, .int (nI (pd_items Dm m (T, L) (T (314 + m))).1))] [] pv_K0 pv_P0 (I') (J)) : pv_X (pv_ZD E Q) (pv_of E off) d bc bs mL_day 51 [(0, .ref 365), (1, .ref 366), (2, .ref 367), (3, .ref 368), (4, .ref 370), (5, .int (nI m)), (6, .int (nI 0)), (7, .int (nI 0))] [] pv_K0 pv_P0 (I) (J) := by
  obtain ⟨hb, hlb, hlo⟩ := hdy
  replace hb : tb T := hb
  replace hlb : lbs L := hlb
  obtain ⟨q4, q11, q3, qm3, qp4⟩ := hqb
  have h93 := qm3 m hm
  have key : ∀ i : Nat, i ≤ (T (314 + m)) → ∀ I1 : pv_IT, qK I1 (pd_items Dm m (T, L) (i)).2.1 → qL I1 (pd_items Dm m (T, L) (i)).2.2 → (∀ j, j ≠ 366 → j ≠ 367 → I1 j = I j) → pv_X (pv_ZD E Q) (pv_of E off) d bc bs mL_day 51 [(0, .ref 365), (1, .ref 366), (2, .ref 367), (3, .ref 368), (4, .ref 370), (5, .int (nI m)), (6, .int (nI (pd_items Dm m (T, L) (i)).1)), (7, .int (nI (i)))] [] pv_K0 pv_P0 (I1) (J) := by
    refine pv_up ((T (314 + m))) ?_ ?_
    · intro I1 hK1 hL1 hF
      refine px_iload dL_day_51 rfl ?_
      refine px_aload_n dL_day_53 rfl ?_
      refine px_bipush (v := nI 15) dL_day_54 (by decide) ?_
      refine px_iload dL_day_56 rfl ?_
      refine px_iaddN dL_day_58 ?_
      refine px_iald (j := (15 + m)) dL_day_59 pv_a_d.1 rfl (by omega) pv_a_d.2.2 pv_a_d.2.1 ?_
      refine px_iv (y := nI (T (314 + m))) (qD_15 (qD_of hQD (hF 365 (by omega) (by omega)) (fun _ _ => rfl)) hm q3) ?_
      refine px_icmp_geN (tgt := 156) dL_day_60 (by decide) (by omega) (by omega) (fun _ => ?_) (fun h0 => absurd h0 (by omega))
      refine px_keep [0, 1, 2, 3, 4, 5, 6] ?_
      exact K I1 hK1 hL1 hF
    · intro i hi K9 I1 hK1 hL1 hF
      have hS := pd_items_like (D := Dm) (s := (T, L)) hm hb hlb i
      have hSb : tb (pd_items Dm m (T, L) (i)).2.1 := tb_like hS.1 hb
      have hlen : (pd_items Dm m (T, L) (i)).2.2.length = L.length := hS.1.2.1
      have hS1 := hS.2.2
      have hT : ∀ j, ¬ (24 ≤ j ∧ j < 64) → (pd_items Dm m (T, L) (i)).2.1 j = T j := hS.1.1
      have hlb1 : lbs (pd_items Dm m (T, L) (i)).2.2 := hS.2.1
      obtain ⟨hk5, hsub⟩ := hmk m hm i hi
      have hmb := (hb.2.2.2.2.2.2.2.2 m hm).2 i hi
      have hhd := hb.2.2.2.1.2
      have hmul : T (195 + 12 * m + 3 * i) * T 409 ≤ 9 * 100 := Nat.mul_le_mul hmb.2.2.1 hhd
      have q0 : I1 368 (9 * m + 3 * i) = nI (T (194 + 12 * m + 3 * i)) := by rw [hF 368 (by omega) (by omega)]; exact hQM m i 0 hm hi (by omega)
      have q1 : I1 368 (9 * m + 3 * i + 1) = nI (T (195 + 12 * m + 3 * i)) := by rw [hF 368 (by omega) (by omega)]; exact (hQM m i 1 hm hi (by omega)).trans (congrArg nI (congrArg T (by omega)))
      have q2 : I1 368 (9 * m + 3 * i + 2) = nI (T (196 + 12 * m + 3 * i)) := by rw [hF 368 (by omega) (by omega)]; exact (hQM m i 2 hm hi (by omega)).trans (congrArg nI (congrArg T (by omega)))
      have hD1 : qD I1 (pd_items Dm m (T, L) (i)).2.1 (pd_items Dm m (T, L) (i)).2.2.length := by rw [hlen]; exact qD_of hQD (hF 365 (by omega) (by omega)) (fun j hj => hT _ (by have := dT_ge hj; omega))
      have e405 : (pd_items Dm m (T, L) (i)).2.1 405 = T 405 := hT 405 (by omega)
      have hM1 : ∀ l, l < (pd_items Dm m (T, L) (i)).2.2.length → I1 370 l = nI (Dm l) ∧ Dm l ≤ 2100 := fun l hl => by rw [hF 370 (by omega) (by omega)]; exact hM l (by omega)
      have hic : i < (pd_items Dm m (T, L) (i)).2.1 (314 + m) := by rw [hT _ (by omega)]; exact hi
      refine px_iload dL_day_51 rfl ?_
      refine px_aload_n dL_day_53 rfl ?_
      refine px_bipush (v := nI 15) dL_day_54 (by decide) ?_
      refine px_iload dL_day_56 rfl ?_
      refine px_iaddN dL_day_58 ?_
      refine px_iald (j := (15 + m)) dL_day_59 pv_a_d.1 rfl (by omega) pv_a_d.2.2 pv_a_d.2.1 ?_
      refine px_iv (y := nI (T (314 + m))) (qD_15 (qD_of hQD (hF 365 (by omega) (by omega)) (fun _ _ => rfl)) hm q3) ?_
      refine px_icmp_geN (tgt := 156) dL_day_60 (by decide) (by omega) (by omega) (fun h0 => absurd h0 (by omega)) (fun _ => ?_)
      refine px_bipush (v := nI 9) dL_day_63 (by decide) ?_
      refine px_iload dL_day_65 rfl ?_
      refine px_imulN dL_day_67 ?_
      refine px_iconst (v := nI 3) dL_day_68 (by decide) ?_
      refine px_iload dL_day_69 rfl ?_
      refine px_imulN dL_day_71 ?_
      refine px_iaddN dL_day_72 ?_
      refine px_istore dL_day_73 (by decide) ?_
      refine px_aload_n dL_day_75 rfl ?_
      refine px_iload dL_day_76 rfl ?_
      refine px_iald (j := ((9 * m) + (3 * i))) dL_day_78 pv_a_me.1 rfl (by omega) pv_a_me.2.2 pv_a_me.2.1 ?_
      refine px_iv (y := nI (T (194 + 12 * m + 3 * i))) (q0) ?_
      refine px_aload_n dL_day_79 rfl ?_
      refine px_iload dL_day_80 rfl ?_
      refine px_iconst (v := nI 1) dL_day_82 (by decide) ?_
      refine px_iaddN dL_day_83 ?_
      refine px_iald (j := (((9 * m) + (3 * i)) + 1)) dL_day_84 pv_a_me.1 rfl (by omega) pv_a_me.2.2 pv_a_me.2.1 ?_
      refine px_iv (y := nI (T (195 + 12 * m + 3 * i))) (q1) ?_
      refine px_aload_n dL_day_85 rfl ?_
      refine px_iconst (v := nI 4) dL_day_86 (by decide) ?_
      refine px_iald (j := 4) dL_day_87 pv_a_d.1 rfl (by omega) pv_a_d.2.2 pv_a_d.2.1 ?_
      refine px_iv (y := nI (T 409)) (qD_4 (qD_of hQD (hF 365 (by omega) (by omega)) (fun _ _ => rfl))) ?_
      refine px_imulN dL_day_88 ?_
      refine px_aload dL_day_89 rfl ?_
      refine px_aload_n dL_day_91 rfl ?_
      refine px_aload_n dL_day_92 rfl ?_
      refine px_aload_n dL_day_93 rfl ?_
      refine c_L_eat dL_day_94 mlL_22 (by omega) hD1 hK1 hL1 (by omega) hlb1 ⟨by omega, trivial⟩ hM1 (by rw [e405]; exact hk5) (by omega) (Nat.le_of_ble_eq_true rfl) (fun I2 hK2 hL2 hF2 => ?_)
      have hE1 := pd_eat_like (D := Dm) (k := T (194 + 12 * m + 3 * i)) (a := (T (195 + 12 * m + 3 * i) * T 409)) (s := (pd_items Dm m (T, L) (i)).2) (by omega) hlb1
      have hl1 : (pd_eat Dm (T (194 + 12 * m + 3 * i)) ((T (195 + 12 * m + 3 * i) * T 409)) (pd_items Dm m (T, L) (i)).2).2.2.length = (pd_items Dm m (T, L) (i)).2.2.length := hE1.1.2.1
      have hT1 : ∀ j, ¬ (24 ≤ j ∧ j < 64) → (pd_eat Dm (T (194 + 12 * m + 3 * i)) ((T (195 + 12 * m + 3 * i) * T 409)) (pd_items Dm m (T, L) (i)).2).2.1 j = (pd_items Dm m (T, L) (i)).2.1 j := hE1.1.1
      refine px_istore dL_day_97 (by decide) ?_
      refine px_aload_n dL_day_99 rfl ?_
      refine px_iload dL_day_100 rfl ?_
      refine px_iconst (v := nI 2) dL_day_102 (by decide) ?_
      refine px_iaddN dL_day_103 ?_
      rcases hsub with hsub | hsub
      · have hFF : ∀ j, j ≠ 366 → j ≠ 367 → I2 j = I j := fun j h1 h2 => (hF2 j h1 h2).trans (hF j h1 h2)
        have e405' : (pd_eat Dm (T (194 + 12 * m + 3 * i)) ((T (195 + 12 * m + 3 * i) * T 409)) (pd_items Dm m (T, L) (i)).2).2.1 405 = T 405 := (hT1 405 (by omega)).trans e405
        refine px_iald (j := (((9 * m) + (3 * i)) + 2)) dL_day_104 pv_a_me.1 rfl (by omega) pv_a_me.2.2 pv_a_me.2.1 ?_
        refine px_iv (y := -1) (((congrFun (hF2 368 (by omega) (by omega)) _).trans q2).trans ((congrArg nI hsub).trans nI_none)) ?_
        refine px_if_lt (tgt := 126) dL_day_105 (by decide) (fun _ => ?_) (fun h9 => absurd (by decide) h9)
        refine px_aload_n dL_day_126 rfl ?_
        refine px_bipush (v := nI 8) dL_day_127 (by decide) ?_
        refine px_aload_n dL_day_129 rfl ?_
        refine px_iload dL_day_130 rfl ?_
        refine px_iald (j := ((9 * m) + (3 * i))) dL_day_132 pv_a_me.1 rfl (by omega) pv_a_me.2.2 pv_a_me.2.1 ?_
        refine px_iv (y := nI (T (194 + 12 * m + 3 * i))) ((congrFun (hF2 368 (by omega) (by omega)) _).trans q0) ?_
        refine px_imulN dL_day_133 ?_
        refine px_bipush (v := nI 7) dL_day_134 (by decide) ?_
        refine px_iaddN dL_day_136 ?_
        refine px_dup2 dL_day_137 rfl rfl ?_
        refine px_iald (j := ((8 * (T (194 + 12 * m + 3 * i))) + 7)) dL_day_138 pv_a_ki.1 rfl (by omega) pv_a_ki.2.2 pv_a_ki.2.1 ?_
        refine px_iload dL_day_139 rfl ?_
        refine px_iadd dL_day_141 ?_
        refine px_iast (j := ((8 * (T (194 + 12 * m + 3 * i))) + 7)) dL_day_142 pv_a_ki.1 rfl (by omega) pv_a_ki.2.2 pv_a_ki.2.1 ?_
        have hK9' := qK_add (x := (pd_eat Dm (T (194 + 12 * m + 3 * i)) ((T (195 + 12 * m + 3 * i) * T 409)) (pd_items Dm m (T, L) (i)).2).1) (w := 7) hK2 (k := T (194 + 12 * m + 3 * i)) (by rw [e405']; exact hk5) (by omega) (by omega) (by rw [e405']; omega)
        have hit : pd_item Dm m i (pd_items Dm m (T, L) (i)).2 = pd_lack (T (194 + 12 * m + 3 * i)) ((pd_eat Dm (T (194 + 12 * m + 3 * i)) ((T (195 + 12 * m + 3 * i) * T 409)) (pd_items Dm m (T, L) (i)).2).1, (pd_eat Dm (T (194 + 12 * m + 3 * i)) ((T (195 + 12 * m + 3 * i) * T 409)) (pd_items Dm m (T, L) (i)).2).2) := by
          unfold pd_item
          rw [if_pos hic, hT (194 + 12 * m + 3 * i) (by omega), hT (195 + 12 * m + 3 * i) (by omega), hT (196 + 12 * m + 3 * i) (by omega), hT 409 (by omega)]
          unfold pd_meal
          rw [if_pos hsub]
        
        have hs1 : (pd_items Dm m (T, L) (i + 1)) = ((pd_items Dm m (T, L) (i)).1 + (pd_eat Dm (T (194 + 12 * m + 3 * i)) ((T (195 + 12 * m + 3 * i) * T 409)) (pd_items Dm m (T, L) (i)).2).1, (pt_up (pd_eat Dm (T (194 + 12 * m + 3 * i)) ((T (195 + 12 * m + 3 * i) * T 409)) (pd_items Dm m (T, L) (i)).2).2.1 (28 + 5 * T (194 + 12 * m + 3 * i)) ((pd_eat Dm (T (194 + 12 * m + 3 * i)) ((T (195 + 12 * m + 3 * i) * T 409)) (pd_items Dm m (T, L) (i)).2).2.1 (28 + 5 * T (194 + 12 * m + 3 * i)) + (pd_eat Dm (T (194 + 12 * m + 3 * i)) ((T (195 + 12 * m + 3 * i) * T 409)) (pd_items Dm m (T, L) (i)).2).1), (pd_eat Dm (T (194 + 12 * m + 3 * i)) ((T (195 + 12 * m + 3 * i) * T 409)) (pd_items Dm m (T, L) (i)).2).2.2)) := by
          show ((pd_items Dm m (T, L) (i)).1 + (pd_item Dm m i (pd_items Dm m (T, L) (i)).2).1, (pd_item Dm m i (pd_items Dm m (T, L) (i)).2).2) = _
          rw [hit]
          rfl
        rw [show 21 + 5 * T (194 + 12 * m + 3 * i) + 7 = 28 + 5 * T (194 + 12 * m + 3 * i) by omega] at hK9' 
        refine px_iload dL_day_143 rfl ?_
        refine px_iload dL_day_145 rfl ?_
        refine px_iaddN dL_day_147 ?_
        refine px_istore dL_day_148 (by decide) ?_
        refine px_iincN (c := 1) (by decide) dL_day_150 rfl (by decide) ?_
        refine px_goto (tgt := 51) dL_day_153 (by decide) ?_
        refine px_keep [0, 1, 2, 3, 4, 5, 6, 7] ?_
        rw [hs1] at K9
        exact K9 _ hK9' (qL_of hL2 (pv_uI_ne (by omega))) (fun j h1 h2 => (pv_uI_ne h1).trans (hFF j h1 h2))
      · have hle1 := hE1.2.2
        have hD2 : qD I2 (pd_eat Dm (T (194 + 12 * m + 3 * i)) ((T (195 + 12 * m + 3 * i) * T 409)) (pd_items Dm m (T, L) (i)).2).2.1 (pd_eat Dm (T (194 + 12 * m + 3 * i)) ((T (195 + 12 * m + 3 * i) * T 409)) (pd_items Dm m (T, L) (i)).2).2.2.length := by rw [hl1]; exact qD_of hD1 (hF2 365 (by omega) (by omega)) (fun j hj => hT1 _ (by have := dT_ge hj; omega))
        have e405a : (pd_eat Dm (T (194 + 12 * m + 3 * i)) ((T (195 + 12 * m + 3 * i) * T 409)) (pd_items Dm m (T, L) (i)).2).2.1 405 = T 405 := (hT1 405 (by omega)).trans e405
        have hM2 : ∀ l, l < (pd_eat Dm (T (194 + 12 * m + 3 * i)) ((T (195 + 12 * m + 3 * i) * T 409)) (pd_items Dm m (T, L) (i)).2).2.2.length → I2 370 l = nI (Dm l) ∧ Dm l ≤ 2100 := fun l hl => by rw [hF2 370 (by omega) (by omega)]; exact hM1 l (by omega)
        refine px_iald (j := (((9 * m) + (3 * i)) + 2)) dL_day_104 pv_a_me.1 rfl (by omega) pv_a_me.2.2 pv_a_me.2.1 ?_
        refine px_iv (y := nI (T (196 + 12 * m + 3 * i))) ((congrFun (hF2 368 (by omega) (by omega)) _).trans q2) ?_
        refine px_if_ltN (tgt := 126) dL_day_105 (by decide) (by omega) ?_
        refine px_aload_n dL_day_108 rfl ?_
        refine px_iload dL_day_109 rfl ?_
        refine px_iconst (v := nI 2) dL_day_111 (by decide) ?_
        refine px_iaddN dL_day_112 ?_
        refine px_iald (j := (((9 * m) + (3 * i)) + 2)) dL_day_113 pv_a_me.1 rfl (by omega) pv_a_me.2.2 pv_a_me.2.1 ?_
        refine px_iv (y := nI (T (196 + 12 * m + 3 * i))) ((congrFun (hF2 368 (by omega) (by omega)) _).trans q2) ?_
        refine px_iload dL_day_114 rfl ?_
        refine px_aload dL_day_116 rfl ?_
        refine px_aload_n dL_day_118 rfl ?_
        refine px_aload_n dL_day_119 rfl ?_
        refine px_aload_n dL_day_120 rfl ?_
        refine c_L_eat dL_day_121 mlL_22 (by omega) hD2 hK2 hL2 (by omega) hE1.2.1 ⟨by omega, trivial⟩ hM2 (by rw [e405a]; exact hsub) (Nat.lt_of_le_of_lt hle1 (by omega)) (Nat.le_of_ble_eq_true rfl) (fun I3 hK3 hL3 hF3 => ?_)
        have hE2 := pd_eat_like (D := Dm) (k := T (196 + 12 * m + 3 * i)) (a := (pd_eat Dm (T (194 + 12 * m + 3 * i)) ((T (195 + 12 * m + 3 * i) * T 409)) (pd_items Dm m (T, L) (i)).2).1) (s := (pd_eat Dm (T (194 + 12 * m + 3 * i)) ((T (195 + 12 * m + 3 * i) * T 409)) (pd_items Dm m (T, L) (i)).2).2) (by omega) hE1.2.1
        have hFF : ∀ j, j ≠ 366 → j ≠ 367 → I3 j = I j := fun j h1 h2 => (hF3 j h1 h2).trans ((hF2 j h1 h2).trans (hF j h1 h2))
        have e405' : (pd_eat Dm (T (196 + 12 * m + 3 * i)) (pd_eat Dm (T (194 + 12 * m + 3 * i)) ((T (195 + 12 * m + 3 * i) * T 409)) (pd_items Dm m (T, L) (i)).2).1 (pd_eat Dm (T (194 + 12 * m + 3 * i)) ((T (195 + 12 * m + 3 * i) * T 409)) (pd_items Dm m (T, L) (i)).2).2).2.1 405 = T 405 := (hE2.1.1 405 (by omega)).trans e405a
        refine px_istore dL_day_124 (by decide) ?_
        refine px_aload_n dL_day_126 rfl ?_
        refine px_bipush (v := nI 8) dL_day_127 (by decide) ?_
        refine px_aload_n dL_day_129 rfl ?_
        refine px_iload dL_day_130 rfl ?_
        refine px_iald (j := ((9 * m) + (3 * i))) dL_day_132 pv_a_me.1 rfl (by omega) pv_a_me.2.2 pv_a_me.2.1 ?_
        refine px_iv (y := nI (T (194 + 12 * m + 3 * i))) ((congrFun ((hF3 368 (by omega) (by omega)).trans (hF2 368 (by omega) (by omega))) _).trans q0) ?_
        refine px_imulN dL_day_133 ?_
        refine px_bipush (v := nI 7) dL_day_134 (by decide) ?_
        refine px_iaddN dL_day_136 ?_
        refine px_dup2 dL_day_137 rfl rfl ?_
        refine px_iald (j := ((8 * (T (194 + 12 * m + 3 * i))) + 7)) dL_day_138 pv_a_ki.1 rfl (by omega) pv_a_ki.2.2 pv_a_ki.2.1 ?_
        refine px_iload dL_day_139 rfl ?_
        refine px_iadd dL_day_141 ?_
        refine px_iast (j := ((8 * (T (194 + 12 * m + 3 * i))) + 7)) dL_day_142 pv_a_ki.1 rfl (by omega) pv_a_ki.2.2 pv_a_ki.2.1 ?_
        have hK9' := qK_add (x := (pd_eat Dm (T (196 + 12 * m + 3 * i)) (pd_eat Dm (T (194 + 12 * m + 3 * i)) ((T (195 + 12 * m + 3 * i) * T 409)) (pd_items Dm m (T, L) (i)).2).1 (pd_eat Dm (T (194 + 12 * m + 3 * i)) ((T (195 + 12 * m + 3 * i) * T 409)) (pd_items Dm m (T, L) (i)).2).2).1) (w := 7) hK3 (k := T (194 + 12 * m + 3 * i)) (by rw [e405']; exact hk5) (by omega) (by omega) (by rw [e405']; omega)
        have hit : pd_item Dm m i (pd_items Dm m (T, L) (i)).2 = pd_lack (T (194 + 12 * m + 3 * i)) ((pd_eat Dm (T (196 + 12 * m + 3 * i)) (pd_eat Dm (T (194 + 12 * m + 3 * i)) ((T (195 + 12 * m + 3 * i) * T 409)) (pd_items Dm m (T, L) (i)).2).1 (pd_eat Dm (T (194 + 12 * m + 3 * i)) ((T (195 + 12 * m + 3 * i) * T 409)) (pd_items Dm m (T, L) (i)).2).2).1, (pd_eat Dm (T (196 + 12 * m + 3 * i)) (pd_eat Dm (T (194 + 12 * m + 3 * i)) ((T (195 + 12 * m + 3 * i) * T 409)) (pd_items Dm m (T, L) (i)).2).1 (pd_eat Dm (T (194 + 12 * m + 3 * i)) ((T (195 + 12 * m + 3 * i) * T 409)) (pd_items Dm m (T, L) (i)).2).2).2) := by
          unfold pd_item
          rw [if_pos hic, hT (194 + 12 * m + 3 * i) (by omega), hT (195 + 12 * m + 3 * i) (by omega), hT (196 + 12 * m + 3 * i) (by omega), hT 409 (by omega)]
          unfold pd_meal
          rw [if_neg (by omega)]
        
        have hs1 : (pd_items Dm m (T, L) (i + 1)) = ((pd_items Dm m (T, L) (i)).1 + (pd_eat Dm (T (196 + 12 * m + 3 * i)) (pd_eat Dm (T (194 + 12 * m + 3 * i)) ((T (195 + 12 * m + 3 * i) * T 409)) (pd_items Dm m (T, L) (i)).2).1 (pd_eat Dm (T (194 + 12 * m + 3 * i)) ((T (195 + 12 * m + 3 * i) * T 409)) (pd_items Dm m (T, L) (i)).2).2).1, (pt_up (pd_eat Dm (T (196 + 12 * m + 3 * i)) (pd_eat Dm (T (194 + 12 * m + 3 * i)) ((T (195 + 12 * m + 3 * i) * T 409)) (pd_items Dm m (T, L) (i)).2).1 (pd_eat Dm (T (194 + 12 * m + 3 * i)) ((T (195 + 12 * m + 3 * i) * T 409)) (pd_items Dm m (T, L) (i)).2).2).2.1 (28 + 5 * T (194 + 12 * m + 3 * i)) ((pd_eat Dm (T (196 + 12 * m + 3 * i)) (pd_eat Dm (T (194 + 12 * m + 3 * i)) ((T (195 + 12 * m + 3 * i) * T 409)) (pd_items Dm m (T, L) (i)).2).1 (pd_eat Dm (T (194 + 12 * m + 3 * i)) ((T (195 + 12 * m + 3 * i) * T 409)) (pd_items Dm m (T, L) (i)).2).2).2.1 (28 + 5 * T (194 + 12 * m + 3 * i)) + (pd_eat Dm (T (196 + 12 * m + 3 * i)) (pd_eat Dm (T (194 + 12 * m + 3 * i)) ((T (195 + 12 * m + 3 * i) * T 409)) (pd_items Dm m (T, L) (i)).2).1 (pd_eat Dm (T (194 + 12 * m + 3 * i)) ((T (195 + 12 * m + 3 * i) * T 409)) (pd_items Dm m (T, L) (i)).2).2).1), (pd_eat Dm (T (196 + 12 * m + 3 * i)) (pd_eat Dm (T (194 + 12 * m + 3 * i)) ((T (195 + 12 * m + 3 * i) * T 409)) (pd_items Dm m (T, L) (i)).2).1 (pd_eat Dm (T (194 + 12 * m + 3 * i)) ((T (195 + 12 * m + 3 * i) * T 409)) (pd_items Dm m (T, L) (i)).2).2).2.2)) := by
          show ((pd_items Dm m (T, L) (i)).1 + (pd_item Dm m i (pd_items Dm m (T, L) (i)).2).1, (pd_item Dm m i (pd_items Dm m (T, L) (i)).2).2) = _
          rw [hit]
          rfl
        rw [show 21 + 5 * T (194 + 12 * m + 3 * i) + 7 = 28 + 5 * T (194 + 12 * m + 3 * i) by omega] at hK9' 
        refine px_iload dL_day_143 rfl ?_
        refine px_iload dL_day_145 rfl ?_
        refine px_iaddN dL_day_147 ?_
        refine px_istore dL_day_148 (by decide) ?_
        refine px_iincN (c := 1) (by decide) dL_day_150 rfl (by decide) ?_
        refine px_goto (tgt := 51) dL_day_153 (by decide) ?_
        refine px_keep [0, 1, 2, 3, 4, 5, 6, 7] ?_
        rw [hs1] at K9
        exact K9 _ hK9' (qL_of hL3 (pv_uI_ne (by omega))) (fun j h1 h2 => (pv_uI_ne h1).trans (hFF j h1 h2))
  exact key 0 (by omega) I hQK hQL (fun _ _ _ => rfl)
