/-! The law: why a purchase is refused; a purchase. -/
theorem qt_life {T : pv_T} {k s : Nat} (hk : k < 8) (hs : s < 3) : pt_now T k s = T (3 * k + (if 0 < T (67 + s) then 0 else s)) := by
  unfold pt_now
  by_cases e : 0 < T (67 + s)
  · rw [if_pos e, if_pos e]; exact congrArg T (by omega)
  · rw [if_neg e, if_neg e]; exact congrArg T (by omega)
set_option maxRecDepth 100000 in
set_option maxHeartbeats 4000000 in
theorem s_L_why {Q : pv_Q} {E : pv_E} {d bc bs : Nat} {J : pv_JT} {I : pv_IT} {T : pv_T} {L : List pv_Lot} {r g : Nat → Nat} {k a s : Nat} (hDep : 1 ≤ d) (hQD : qD I T L.length) (hQK : qK I T) (hQL : qL I L) (hQP : qP I T r) (hQR : qR (T 407) r g) (htb : tb T) (hlb : lbs L) (q4 : T 405 ≤ 4) (q11 : L.length ≤ 11) (qp4 : T 407 ≤ 4) (h404 : T 404 < 2147483648) (hk : k < T 405) (ha : a ≤ 2000) (hs : s < 3) (h : Q (.inl (some (.int (nI (pt_refuse T L k a s))))) pv_K0 pv_P0 (I) (J)) : pv_X (pv_ZQ E Q) E d bc bs mL_why 0 [(0, .int (nI (k))), (1, .int (nI (a))), (2, .int (nI (s))), (3, .ref (365)), (4, .ref (366)), (5, .ref (367)), (6, .ref (369))] [] pv_K0 pv_P0 I J := by
  have hpw : pw T := htb.2.2.2.2.2.1
  have hal := ps_in_le (s := s) hlb
  have hrm := (htb.2.1 s hs).1
  have hpur := htb.2.2.2.2.1
  refine px_aload_n dL_why_0 rfl ?_
  refine px_iconst (v := nI 3) dL_why_1 (by decide) ?_
  refine px_iald (j := 3) dL_why_2 pv_a_d.1 rfl (by omega) pv_a_d.2.2 pv_a_d.2.1 ?_
  refine px_iv (y := nI (T 404)) (qD_3 hQD) ?_
  refine px_aload_n dL_why_3 rfl ?_
  refine px_aload dL_why_4 rfl ?_
  refine c_L_portOf dL_why_6 mlL_40 (by omega) hQD hQP hQR hpw qp4 h404 (Nat.le_of_ble_eq_true rfl) ?_
  refine px_istore dL_why_9 (by decide) ?_
  refine px_iload dL_why_11 rfl ?_
  cases e : q_at T r (T 404) with
  | none =>
    refine px_if_ge (tgt := 18) dL_why_13 (by decide) (fun h9 => absurd h9 (by decide)) (fun _ => ?_)
    refine px_iconst (v := nI 1) dL_why_16 (by decide) ?_
    have hr : pt_refuse T L k a s = 1 := by unfold pt_refuse; rw [q_at_none hQR e]
    rw [hr] at h
    exact px_iret dL_why_17 rfl (Or.inl rfl) (h)
  | some p =>
    obtain ⟨hp, hpd, hpo⟩ := q_at_some hpw hQR e
    have hrp := (hQR.1 p hp).1
    have h67 := (htb.2.1 s hs).2
    have hpr := (hpw.2.1 (r p) hrp).2.2 k (by omega)
    have hqp := hQP p hp
    have hmul : T (326 + 10 * r p + k) * a ≤ 100 * 2000 := Nat.mul_le_mul hpr ha
    have hr : pt_refuse T L k a s = if pt_price T (r p) k = 0 then 2 else if pt_now T k s = 0 then 3 else if T (64 + s) < ps_in L s + a then 4 else if T 410 < pt_price T (r p) k * a then 5 else if 30 ≤ L.length then 6 else 0 := by unfold pt_refuse; rw [hpo]
    have hpp : pt_price T (r p) k = T (326 + 10 * r p + k) := rfl
    rw [hpp] at hr
    refine px_if_ge (tgt := 18) dL_why_13 (by decide) (fun _ => ?_) (fun h9 => absurd (nI_pos' (n := p) (by omega)) h9)
    refine px_aload dL_why_18 rfl ?_
    refine px_bipush (v := nI 6) dL_why_20 (by decide) ?_
    refine px_iload dL_why_22 rfl ?_
    refine px_imulN dL_why_24 ?_
    refine px_iconst (v := nI 2) dL_why_25 (by decide) ?_
    refine px_iaddN dL_why_26 ?_
    refine px_iload_n dL_why_27 rfl ?_
    refine px_iaddN dL_why_28 ?_
    refine px_iald (j := (((6 * p) + 2) + k)) dL_why_29 pv_a_po.1 rfl (by omega) pv_a_po.2.2 pv_a_po.2.1 ?_
    refine px_iv (y := nI (T (326 + 10 * r p + k))) (hqp.2.2 k (by omega)) ?_
    refine px_istore dL_why_30 (by decide) ?_
    refine px_iload dL_why_32 rfl ?_
    refine px_if_neN (tgt := 39) dL_why_34 (by decide) (by omega) (fun h4 => ?_) (fun h4 => ?_)
    · refine px_aload dL_why_39 rfl ?_
      refine px_bipush (v := nI 8) dL_why_41 (by decide) ?_
      refine px_iload_n dL_why_43 rfl ?_
      refine px_imulN dL_why_44 ?_
      refine px_aload_n dL_why_45 rfl ?_
      refine px_bipush (v := nI 11) dL_why_46 (by decide) ?_
      refine px_iload_n dL_why_48 rfl ?_
      refine px_iaddN dL_why_49 ?_
      refine px_iald (j := (11 + s)) dL_why_50 pv_a_d.1 rfl (by omega) pv_a_d.2.2 pv_a_d.2.1 ?_
      refine px_iv (y := nI (T (67 + s))) (qD_11 hQD hs) ?_
      refine px_if_leN (tgt := 58) dL_why_51 (by decide) (by omega) (fun h5 => ?_) (fun h5 => ?_)
      · refine px_iload_n dL_why_58 rfl ?_
        refine px_iaddN dL_why_59 ?_
        refine px_iald (j := ((8 * k) + s)) dL_why_60 pv_a_ki.1 rfl (by omega) pv_a_ki.2.2 pv_a_ki.2.1 ?_
        refine px_iv (y := nI (T (3 * k + s))) (qK_l hQK hk (by omega)) ?_
        have hlf := htb.1 (3 * k + s) (by omega)
        have hnw : pt_now T k s = T (3 * k + s) := by rw [qt_life (by omega) hs, if_neg (by omega)]
        rw [hnw] at hr
        refine px_if_neN (tgt := 66) dL_why_61 (by decide) (by omega) (fun h6 => ?_) (fun h6 => ?_)
        · refine px_iconst (v := nI 1) dL_why_66 (by decide) ?_
          refine px_iload_n dL_why_67 rfl ?_
          refine px_aload_n dL_why_68 rfl ?_
          refine px_aload dL_why_69 rfl ?_
          refine c_L_held_in dL_why_71 mlL_53 (by omega) hQD hQL (by omega) hlb (by omega) (Nat.le_of_ble_eq_true rfl) ?_
          refine px_iload_n dL_why_74 rfl ?_
          refine px_iaddN dL_why_75 ?_
          refine px_aload_n dL_why_76 rfl ?_
          refine px_bipush (v := nI 8) dL_why_77 (by decide) ?_
          refine px_iload_n dL_why_79 rfl ?_
          refine px_iaddN dL_why_80 ?_
          refine px_iald (j := (8 + s)) dL_why_81 pv_a_d.1 rfl (by omega) pv_a_d.2.2 pv_a_d.2.1 ?_
          refine px_iv (y := nI (T (64 + s))) (qD_8 hQD hs) ?_
          refine px_icmp_leN (tgt := 89) dL_why_82 (by decide) (by omega) (by omega) (fun h7 => ?_) (fun h7 => ?_)
          · refine px_iload dL_why_89 rfl ?_
            refine px_iload_n dL_why_91 rfl ?_
            refine px_imulN dL_why_92 ?_
            refine px_aload_n dL_why_93 rfl ?_
            refine px_iconst (v := nI 5) dL_why_94 (by decide) ?_
            refine px_iald (j := 5) dL_why_95 pv_a_d.1 rfl (by omega) pv_a_d.2.2 pv_a_d.2.1 ?_
            refine px_iv (y := nI (T 410)) (qD_5 hQD) ?_
            refine px_icmp_leN (tgt := 103) dL_why_96 (by decide) (by omega) (by omega) (fun h8 => ?_) (fun h8 => ?_)
            · refine px_iconst (v := nI 0) dL_why_103 (by decide) ?_
              rw [if_neg (by omega), if_neg (by omega), if_neg (by omega), if_neg (by omega), if_neg (by omega)] at hr
              rw [hr] at h
              exact px_iret dL_why_104 rfl (Or.inl rfl) (h)
            · refine px_iconst (v := nI 5) dL_why_99 (by decide) ?_
              refine px_goto (tgt := 104) dL_why_100 (by decide) ?_
              rw [if_neg (by omega), if_neg (by omega), if_neg (by omega), if_pos (by omega)] at hr
              rw [hr] at h
              exact px_iret dL_why_104 rfl (Or.inl rfl) (h)
          · refine px_iconst (v := nI 4) dL_why_85 (by decide) ?_
            refine px_goto (tgt := 104) dL_why_86 (by decide) ?_
            rw [if_neg (by omega), if_neg (by omega), if_pos (by omega)] at hr
            rw [hr] at h
            exact px_iret dL_why_104 rfl (Or.inl rfl) (h)
        · refine px_iconst (v := nI 3) dL_why_64 (by decide) ?_
          rw [if_neg (by omega), if_pos (by omega)] at hr
          rw [hr] at h
          exact px_iret dL_why_65 rfl (Or.inl rfl) (h)
      · refine px_iconst (v := nI 0) dL_why_54 (by decide) ?_
        refine px_goto (tgt := 59) dL_why_55 (by decide) ?_
        refine px_iaddN dL_why_59 ?_
        refine px_iald (j := ((8 * k) + 0)) dL_why_60 pv_a_ki.1 rfl (by omega) pv_a_ki.2.2 pv_a_ki.2.1 ?_
        refine px_iv (y := nI (T (3 * k + 0))) (qK_l hQK hk (by omega)) ?_
        have hlf := htb.1 (3 * k + 0) (by omega)
        have hnw : pt_now T k s = T (3 * k + 0) := by rw [qt_life (by omega) hs, if_pos (by omega)]
        rw [hnw] at hr
        refine px_if_neN (tgt := 66) dL_why_61 (by decide) (by omega) (fun h6 => ?_) (fun h6 => ?_)
        · refine px_iconst (v := nI 1) dL_why_66 (by decide) ?_
          refine px_iload_n dL_why_67 rfl ?_
          refine px_aload_n dL_why_68 rfl ?_
          refine px_aload dL_why_69 rfl ?_
          refine c_L_held_in dL_why_71 mlL_53 (by omega) hQD hQL (by omega) hlb (by omega) (Nat.le_of_ble_eq_true rfl) ?_
          refine px_iload_n dL_why_74 rfl ?_
          refine px_iaddN dL_why_75 ?_
          refine px_aload_n dL_why_76 rfl ?_
          refine px_bipush (v := nI 8) dL_why_77 (by decide) ?_
          refine px_iload_n dL_why_79 rfl ?_
          refine px_iaddN dL_why_80 ?_
          refine px_iald (j := (8 + s)) dL_why_81 pv_a_d.1 rfl (by omega) pv_a_d.2.2 pv_a_d.2.1 ?_
          refine px_iv (y := nI (T (64 + s))) (qD_8 hQD hs) ?_
          refine px_icmp_leN (tgt := 89) dL_why_82 (by decide) (by omega) (by omega) (fun h7 => ?_) (fun h7 => ?_)
          · refine px_iload dL_why_89 rfl ?_
            refine px_iload_n dL_why_91 rfl ?_
            refine px_imulN dL_why_92 ?_
            refine px_aload_n dL_why_93 rfl ?_
            refine px_iconst (v := nI 5) dL_why_94 (by decide) ?_
            refine px_iald (j := 5) dL_why_95 pv_a_d.1 rfl (by omega) pv_a_d.2.2 pv_a_d.2.1 ?_
            refine px_iv (y := nI (T 410)) (qD_5 hQD) ?_
            refine px_icmp_leN (tgt := 103) dL_why_96 (by decide) (by omega) (by omega) (fun h8 => ?_) (fun h8 => ?_)
            · refine px_iconst (v := nI 0) dL_why_103 (by decide) ?_
              rw [if_neg (by omega), if_neg (by omega), if_neg (by omega), if_neg (by omega), if_neg (by omega)] at hr
              rw [hr] at h
              exact px_iret dL_why_104 rfl (Or.inl rfl) (h)
            · refine px_iconst (v := nI 5) dL_why_99 (by decide) ?_
              refine px_goto (tgt := 104) dL_why_100 (by decide) ?_
              rw [if_neg (by omega), if_neg (by omega), if_neg (by omega), if_pos (by omega)] at hr
              rw [hr] at h
              exact px_iret dL_why_104 rfl (Or.inl rfl) (h)
          · refine px_iconst (v := nI 4) dL_why_85 (by decide) ?_
            refine px_goto (tgt := 104) dL_why_86 (by decide) ?_
            rw [if_neg (by omega), if_neg (by omega), if_pos (by omega)] at hr
            rw [hr] at h
            exact px_iret dL_why_104 rfl (Or.inl rfl) (h)
        · refine px_iconst (v := nI 3) dL_why_64 (by decide) ?_
          rw [if_neg (by omega), if_pos (by omega)] at hr
          rw [hr] at h
          exact px_iret dL_why_65 rfl (Or.inl rfl) (h)
    · refine px_iconst (v := nI 2) dL_why_37 (by decide) ?_
      rw [if_pos (by omega)] at hr
      rw [hr] at h
      exact px_iret dL_why_38 rfl (Or.inl rfl) (h)
theorem c_L_why {z : pv_Z} {E : pv_E} {d bc bs : Nat} {J : pv_JT} {I : pv_IT} {mi : pv_MI} {pc idx : Nat} {lv : pv_LV} {st : List Value} {T : pv_T} {L : List pv_Lot} {r g : Nat → Nat} {k a s : Nat} (hd : decode mi.2.1 pc = .ok (.invokestatic idx, 3)) (hlk : Cond.methodLink mi.1.cls idx mL_why.1 ∈ pv_W) (hDep : 1+1 ≤ d) (hQD : qD I T L.length) (hQK : qK I T) (hQL : qL I L) (hQP : qP I T r) (hQR : qR (T 407) r g) (htb : tb T) (hlb : lbs L) (q4 : T 405 ≤ 4) (q11 : L.length ≤ 11) (qp4 : T 407 ≤ 4) (h404 : T 404 < 2147483648) (hk : k < T 405) (ha : a ≤ 2000) (hs : s < 3) (hcat : (st.map fun v => v.category).sum ≤ 8) (K : pv_X z E d bc bs mi (pc + 3) lv ((.int (nI (pt_refuse T L k a s))) :: st) pv_K0 pv_P0 (I) (J)) : pv_X z E d bc bs mi pc lv (.ref (369) :: .ref (367) :: .ref (366) :: .ref (365) :: .int (nI (s)) :: .int (nI (a)) :: .int (nI (k)) :: st) pv_K0 pv_P0 I J := by
  obtain ⟨d, rfl⟩ : ∃ d0, d = d0 + 1 := ⟨d - 1, by omega⟩
  have key := px_callS (bc := bc) (bs := bs) (bc1 := 0) (bs1 := 0) (as := [.int (nI (k)), .int (nI (a)), .int (nI (s)), .ref (365), .ref (366), .ref (367), .ref (369)]) (E := E) (z := z) (lv := lv) hd msL_why hlk rfl rfl hcat (by exact Nat.le_of_ble_eq_true rfl) (s_L_why (by omega) hQD hQK hQL hQP hQR htb hlb q4 q11 qp4 h404 hk ha hs K)
  rw [Nat.zero_add, Nat.zero_add] at key
  exact key
set_option maxRecDepth 100000 in
set_option maxHeartbeats 4000000 in
theorem s_L_come {Q : pv_Q} {E : pv_E} {d bc bs : Nat} {J : pv_JT} {I : pv_IT} {T : pv_T} {L : List pv_Lot} {k s a ag : Nat} (hDep : 0 ≤ d) (hQD : qD I T L.length) (hQL : qL I L) (q11 : L.length ≤ 11) (h : ∀ I' : pv_IT, qD I' T (L ++ [(k, s, a, ag)]).length → qL I' (L ++ [(k, s, a, ag)]) → (∀ j, j ≠ 365 → j ≠ 367 → I' j = I j) → Q (.inl none) pv_K0 pv_P0 (I') (J)) : pv_X (pv_ZQ E Q) E d bc bs mL_come 0 [(0, .int (nI (k))), (1, .int (nI (s))), (2, .int (nI (a))), (3, .int (nI (ag))), (4, .ref (365)), (5, .ref (367))] [] pv_K0 pv_P0 I J := by
  refine px_iconst (v := nI 4) dL_come_0 (by decide) ?_
  refine px_aload dL_come_1 rfl ?_
  refine px_iconst (v := nI 1) dL_come_3 (by decide) ?_
  refine px_dup2 dL_come_4 rfl rfl ?_
  refine px_iald (j := 1) dL_come_5 pv_a_d.1 rfl (by omega) pv_a_d.2.2 pv_a_d.2.1 ?_
  refine px_iv (y := nI (L.length)) (hQD.1) ?_
  refine px_dup_x2 dL_come_6 rfl rfl rfl ?_
  refine px_iconst (v := nI 1) dL_come_7 (by decide) ?_
  refine px_iaddN dL_come_8 ?_
  refine px_iast (j := 1) dL_come_9 pv_a_d.1 rfl (by omega) pv_a_d.2.2 pv_a_d.2.1 ?_
  refine px_imulN dL_come_10 ?_
  refine px_istore dL_come_11 (by decide) ?_
  refine px_aload dL_come_13 rfl ?_
  refine px_iload dL_come_15 rfl ?_
  refine px_iload_n dL_come_17 rfl ?_
  refine px_iast (j := (4 * (L.length))) dL_come_18 pv_a_lo.1 rfl (by omega) pv_a_lo.2.2 pv_a_lo.2.1 ?_
  refine px_aload dL_come_19 rfl ?_
  refine px_iload dL_come_21 rfl ?_
  refine px_iconst (v := nI 1) dL_come_23 (by decide) ?_
  refine px_iaddN dL_come_24 ?_
  refine px_iload_n dL_come_25 rfl ?_
  refine px_iast (j := ((4 * (L.length)) + 1)) dL_come_26 pv_a_lo.1 rfl (by omega) pv_a_lo.2.2 pv_a_lo.2.1 ?_
  refine px_aload dL_come_27 rfl ?_
  refine px_iload dL_come_29 rfl ?_
  refine px_iconst (v := nI 2) dL_come_31 (by decide) ?_
  refine px_iaddN dL_come_32 ?_
  refine px_iload_n dL_come_33 rfl ?_
  refine px_iast (j := ((4 * (L.length)) + 2)) dL_come_34 pv_a_lo.1 rfl (by omega) pv_a_lo.2.2 pv_a_lo.2.1 ?_
  refine px_aload dL_come_35 rfl ?_
  refine px_iload dL_come_37 rfl ?_
  refine px_iconst (v := nI 3) dL_come_39 (by decide) ?_
  refine px_iaddN dL_come_40 ?_
  refine px_iload_n dL_come_41 rfl ?_
  refine px_iast (j := ((4 * (L.length)) + 3)) dL_come_42 pv_a_lo.1 rfl (by omega) pv_a_lo.2.2 pv_a_lo.2.1 ?_
  have hL2 := qL_push (a := k) (b := s) (c := a) (e := ag) (qL_of hQL (show pv_uI I 365 1 (nI (L.length + 1)) 367 = I 367 from pv_uI_ne (by omega)))
  generalize hI1 : pv_uI (pv_uI (pv_uI (pv_uI (pv_uI I 365 1 (nI (L.length + 1))) 367 (4 * L.length) (nI k)) 367 (4 * L.length + 1) (nI s)) 367 (4 * L.length + 2) (nI a)) 367 (4 * L.length + 3) (nI ag) = I1 at hL2
  have hF1 : ∀ j, j ≠ 365 → j ≠ 367 → I1 j = I j := fun j h1 h2 => by rw [← hI1, pv_uI_ne h2, pv_uI_ne h2, pv_uI_ne h2, pv_uI_ne h2, pv_uI_ne h1]
  have hD1 : qD I1 T (L.length + 1) := qD_of (qD_n (n' := L.length + 1) hQD) (by rw [← hI1, pv_uI_ne (by omega), pv_uI_ne (by omega), pv_uI_ne (by omega), pv_uI_ne (by omega)]) (fun _ _ => rfl)
  exact px_vret dL_come_43 rfl (Or.inl rfl) (h I1 (by rw [List.length_append]; exact hD1) hL2 hF1)
theorem c_L_come {z : pv_Z} {E : pv_E} {d bc bs : Nat} {J : pv_JT} {I : pv_IT} {mi : pv_MI} {pc idx : Nat} {lv : pv_LV} {st : List Value} {T : pv_T} {L : List pv_Lot} {k s a ag : Nat} (hd : decode mi.2.1 pc = .ok (.invokestatic idx, 3)) (hlk : Cond.methodLink mi.1.cls idx mL_come.1 ∈ pv_W) (hDep : 0+1 ≤ d) (hQD : qD I T L.length) (hQL : qL I L) (q11 : L.length ≤ 11) (hcat : (st.map fun v => v.category).sum ≤ 8) (K : ∀ I' : pv_IT, qD I' T (L ++ [(k, s, a, ag)]).length → qL I' (L ++ [(k, s, a, ag)]) → (∀ j, j ≠ 365 → j ≠ 367 → I' j = I j) → pv_X z E d bc bs mi (pc + 3) lv (st) pv_K0 pv_P0 (I') (J)) : pv_X z E d bc bs mi pc lv (.ref (367) :: .ref (365) :: .int (nI (ag)) :: .int (nI (a)) :: .int (nI (s)) :: .int (nI (k)) :: st) pv_K0 pv_P0 I J := by
  obtain ⟨d, rfl⟩ : ∃ d0, d = d0 + 1 := ⟨d - 1, by omega⟩
  have key := px_callS (bc := bc) (bs := bs) (bc1 := 0) (bs1 := 0) (as := [.int (nI (k)), .int (nI (s)), .int (nI (a)), .int (nI (ag)), .ref (365), .ref (367)]) (E := E) (z := z) (lv := lv) hd msL_come hlk rfl rfl hcat (by exact Nat.le_of_ble_eq_true rfl) (s_L_come (by omega) hQD hQL q11 K)
  rw [Nat.zero_add, Nat.zero_add] at key
  exact key
theorem qt_why {X : pv_XS} {k a s : Nat} (hk : k < X.1.1 405) (hk8 : X.1.1 405 ≤ 8) (ha : 1 ≤ a ∧ a ≤ 2000) (hs : s < 3) : po_why X (nI k) (nI a) (nI s) = (0, nI (pt_refuse X.1.1 X.1.2 k a s), X) := by
  unfold po_why
  rw [if_pos ⟨(pu_hasN (by omega) (by omega)).mpr hk, (pu_hasN (by omega) (by decide)).mpr hs⟩, if_pos ((pu_c (by omega) (by decide) (by decide)).mpr ha), dz_tn (by omega), dz_tn (by omega), dz_tn (by omega)]
theorem qt_buy {X : pv_XS} {k a s : Nat} (hk : k < X.1.1 405) (hk8 : X.1.1 405 ≤ 8) (ha : 1 ≤ a ∧ a ≤ 2000) (hs : s < 3) (h : pt_refuse X.1.1 X.1.2 k a s = 0) : po_buy X (nI k) (nI a) (nI s) = (0, nI X.1.2.length, po_push X (pt_bought X.1 k a s)) := by
  unfold po_buy
  rw [if_pos ⟨(pu_hasN (by omega) (by omega)).mpr hk, (pu_hasN (by omega) (by decide)).mpr hs⟩, if_pos ((pu_c (by omega) (by decide) (by decide)).mpr ha), dz_tn (by omega), dz_tn (by omega), dz_tn (by omega), if_pos h]
theorem qt_ref0 {T : pv_T} {L : List pv_Lot} {k a s : Nat} (h : pt_refuse T L k a s = 0) : ∃ p, pt_on T (T 404) = some p ∧ ps_in L s + a ≤ T (64 + s) ∧ pt_price T p k * a ≤ T 410 := by
  unfold pt_refuse at h
  cases e : pt_on T (T 404) with
  | none => rw [e] at h; cases h
  | some p =>
    rw [e] at h
    replace h : (if pt_price T p k = 0 then 2 else if pt_now T k s = 0 then 3 else if T (64 + s) < ps_in L s + a then 4 else if T 410 < pt_price T p k * a then 5 else if 30 ≤ L.length then 6 else 0) = 0 := h
    refine ⟨p, rfl, ?_, ?_⟩
    · refine Nat.le_of_not_lt fun h4 => ?_
      rw [if_pos h4] at h
      split at h
      · cases h
      · split at h <;> cases h
    · refine Nat.le_of_not_lt fun h5 => ?_
      rw [if_pos h5] at h
      split at h
      · cases h
      · split at h
        · cases h
        · split at h <;> cases h
theorem qs_push {L : List pv_Lot} {x : pv_Lot} {f : pv_Lot → Nat} : pn_sum (fun l => f (pl_g (L ++ [x]) l)) (L ++ [x]).length = pn_sum (fun l => f (pl_g L l)) L.length + f x := by
  rw [List.length_append]
  show pn_sum (fun l => f (pl_g (L ++ [x]) l)) L.length + f (pl_g (L ++ [x]) L.length) = _
  rw [pl_g_push, if_neg (Nat.lt_irrefl _), if_pos rfl]
  exact congrArg (· + f x) (pn_sum_congr fun i hi => by rw [pl_g_push, if_pos hi])
theorem qs_in_push {L : List pv_Lot} {x : pv_Lot} {s : Nat} : ps_in (L ++ [x]) s = ps_in L s + (if x.2.1 = s then x.2.2.1 else 0) := qs_push (f := fun x => if x.2.1 = s then x.2.2.1 else 0)
theorem qs_of_push {L : List pv_Lot} {x : pv_Lot} {k : Nat} : ps_of (L ++ [x]) k = ps_of L k + (if x.1 = k then x.2.2.1 else 0) := qs_push (f := fun x => if x.1 = k then x.2.2.1 else 0)
set_option maxRecDepth 100000 in
set_option maxHeartbeats 4000000 in
theorem s_L_buy {Q : pv_Q} {E : pv_E} {d bc bs : Nat} {J : pv_JT} {I : pv_IT} {T : pv_T} {L : List pv_Lot} {H : List pv_S} {B : List Nat} {n : Nat} {x y : Int32} (hDep : 9 ≤ d) (hW : qW n I ((T, L), H, B)) (hn : n ≤ 29) (hbc : 12 ≤ bc) (hbs : 72 ≤ bs) (h : ∀ (I' : pv_IT) (X' : pv_XS), qW (n + 1) I' X' → Q (.inl (some (.int (nI 1)))) pv_K0 pv_P0 (I') (J)) : pv_X (pv_ZQ E Q) E d bc bs mL_buy 0 [(0, .ref 0), (1, .int (x)), (2, .int (y)), (3, .ref (365)), (4, .ref (366)), (5, .ref (367)), (6, .ref (369))] [] pv_K0 pv_P0 I J := by
  obtain ⟨hCA, hw, ⟨r, g, hQD, hQK, hQL, hQM, hQP, hQR⟩, ⟨q4, q11, q3, qm3, qp4⟩, hin, hacc, hq404, hq410⟩ := id hW
  replace hQD : qD I T L.length := hQD
  replace hQK : qK I T := hQK
  replace hQL : qL I L := hQL
  replace hQM : qM I T := hQM
  replace hQP : qP I T r := hQP
  replace hQR : qR (T 407) r g := hQR
  replace q4 : T 405 ≤ 4 := q4
  replace q11 : L.length ≤ 11 := q11
  replace q3 : T 408 ≤ 3 := q3
  replace qm3 : ∀ m, m < T 408 → T (314 + m) ≤ 3 := qm3
  replace qp4 : T 407 ≤ 4 := qp4
  replace hin : qin T L := hin
  replace hacc : qacc T L := hacc
  replace hq404 : T 404 ≤ 20 * (n - 6) := hq404
  replace hq410 : T 410 ≤ 10000 + 2000 * n := hq410
  have hdy : dy (T, L) := hw.1.1
  have htb : tb T := hdy.1
  have hlb : lbs L := hdy.2.1
  have hlo : lo_ok L := hdy.2.2
  have hpw : pw T := htb.2.2.2.2.2.1
  have hkk : ∀ l, l < L.length → (pl_g L l).1 < T 405 := hw.1.2.2.2.2.2.1
  have h31 : L.length ≤ 31 := hlb.1
  have hn8 : T 405 ≤ 8 := htb.2.2.1
  have h10 : T 408 ≤ 10 := htb.2.2.2.2.2.2.2.1
  refine px_aload_n dL_buy_0 rfl ?_
  refine px_iconst (v := nI 0) dL_buy_1 (by decide) ?_
  refine px_iald (j := 0) dL_buy_2 pv_a_d.1 rfl (by omega) pv_a_d.2.2 pv_a_d.2.1 ?_
  refine px_iv (y := nI (T 405)) (qD_0 hQD) ?_
  refine px_if_eqN (tgt := 14) dL_buy_3 (by decide) (by omega) (fun h4 => ?_) (fun h4 => ?_)
  · refine px_iconst (v := nI 1) dL_buy_14 (by decide) ?_
    exact px_zret dL_buy_15 rfl rfl (Or.inl rfl) (h I ((T, L), H, B) (qW_mono hW))
  · refine px_aload_n dL_buy_6 rfl ?_
    refine px_iconst (v := nI 1) dL_buy_7 (by decide) ?_
    refine px_iald (j := 1) dL_buy_8 pv_a_d.1 rfl (by omega) pv_a_d.2.2 pv_a_d.2.1 ?_
    refine px_iv (y := nI (L.length)) (hQD.1) ?_
    refine px_bipush (v := nI 10) dL_buy_9 (by decide) ?_
    refine px_icmp_leN (tgt := 16) dL_buy_11 (by decide) (by omega) (by omega) (fun h5 => ?_) (fun h5 => ?_)
    · refine px_iload_n dL_buy_16 rfl ?_
      refine px_aload_n dL_buy_17 rfl ?_
      refine px_iconst (v := nI 0) dL_buy_18 (by decide) ?_
      refine px_iald (j := 0) dL_buy_19 pv_a_d.1 rfl (by omega) pv_a_d.2.2 pv_a_d.2.1 ?_
      refine px_iv (y := nI (T 405)) (qD_0 hQD) ?_
      refine c_L_at dL_buy_20 mlL_30 (by omega) (by omega) (by omega) (Nat.le_of_ble_eq_true rfl) (fun k hk => ?_)
      refine px_istore dL_buy_23 (by decide) ?_
      refine px_iload_n dL_buy_25 rfl ?_
      refine px_iconst (v := nI 4) dL_buy_26 (by decide) ?_
      refine px_ishr dL_buy_27 ?_
      refine px_iconst (v := nI 3) dL_buy_28 (by decide) ?_
      refine c_L_at dL_buy_29 mlL_30 (by omega) (by omega) (by omega) (Nat.le_of_ble_eq_true rfl) (fun s hs => ?_)
      refine px_istore dL_buy_32 (by decide) ?_
      refine px_iconst (v := nI 1) dL_buy_34 (by decide) ?_
      refine px_iload_n dL_buy_35 rfl ?_
      refine px_iload_n dL_buy_36 rfl ?_
      refine px_bipush (v := nI 7) dL_buy_37 (by decide) ?_
      refine px_ishr dL_buy_39 ?_
      refine px_iconst (v := nI 4) dL_buy_40 (by decide) ?_
      refine c_L_at dL_buy_41 mlL_30 (by omega) (by omega) (by omega) (Nat.le_of_ble_eq_true rfl) (fun j1 hj1 => ?_)
      refine px_if_neN (tgt := 53) dL_buy_44 (by decide) (by omega) (fun h7 => ?_) (fun h7 => ?_)
      · refine px_sipush (v := nI 150) dL_buy_53 (by decide) ?_
        refine c_L_at dL_buy_56 mlL_30 (by omega) (by omega) (by omega) (Nat.le_of_ble_eq_true rfl) (fun j2 hj2 => ?_)
        refine px_iaddN dL_buy_59 ?_
        refine px_istore dL_buy_60 (by decide) ?_
        refine px_iload dL_buy_62 rfl ?_
        refine px_iload dL_buy_64 rfl ?_
        refine px_iload dL_buy_66 rfl ?_
        refine px_aload_n dL_buy_68 rfl ?_
        refine px_aload dL_buy_69 rfl ?_
        refine px_aload dL_buy_71 rfl ?_
        refine px_aload dL_buy_73 rfl ?_
        refine c_L_why dL_buy_75 mlL_57 (by omega) hQD hQK hQL hQP hQR htb hlb q4 q11 qp4 (by omega) hk (by omega) hs (Nat.le_of_ble_eq_true rfl) ?_
        refine px_istore dL_buy_78 (by decide) ?_
        refine px_aload_n dL_buy_80 rfl ?_
        refine px_iload dL_buy_81 rfl ?_
        refine px_iload dL_buy_83 rfl ?_
        refine px_iload dL_buy_85 rfl ?_
        refine c_X9_why dL_buy_87 mlL_61 (by omega) hCA hw (by omega) (by omega) (by omega) (Nat.le_of_ble_eq_true rfl) (dz_ok (qt_why (X := ((T, L), H, B)) (k := k) (a := (1 + j2)) (s := s) hk hn8 ⟨by omega, by omega⟩ hs) fun I1 hCA1 hG1 => ?_)
        refine px_iload dL_buy_90 rfl ?_
        refine px_icmp_eq (tgt := 97) dL_buy_92 (by decide) (fun _ => ?_) (fun h9 => absurd rfl h9)
        have hQA1 : qA I1 T L r g := qA_of ⟨hQD, hQK, hQL, hQM, hQP, hQR⟩ htb (fun j h1 _ => hG1 j h1)
        have hrf : pt_refuse T L k (1 + j2) s ≤ 6 := by
          unfold pt_refuse
          split
          · omega
          · repeat' split
            all_goals omega
        refine px_iload dL_buy_97 rfl ?_
        refine px_if_leN (tgt := 104) dL_buy_99 (by decide) (by omega) (fun h8 => ?_) (fun h8 => ?_)
        · have hr0 : pt_refuse T L k (1 + j2) s = 0 := by omega
          obtain ⟨p0, hon, hroom, hcost⟩ := qt_ref0 hr0
          obtain ⟨hQD1, hQK1, hQL1, hQM1, hQP1, -⟩ := hQA1
          have hqat : ∃ p, q_at T r (T 404) = some p := by
            cases e : q_at T r (T 404) with
            | none => rw [q_at_none hQR e] at hon; cases hon
            | some p => exact ⟨p, rfl⟩
          obtain ⟨p, hp9⟩ := hqat
          obtain ⟨hp, hpd, hpo⟩ := q_at_some hpw hQR hp9
          have hp0 : r p = p0 := by rw [hpo] at hon; exact Option.some.inj hon
          subst hp0
          have hrp := (hQR.1 p hp).1
          have hpr := (hpw.2.1 (r p) hrp).2.2 k (by omega)
          have hqp := hQP1 p hp
          replace hcost : T (326 + 10 * r p + k) * (1 + j2) ≤ T 410 := hcost
          have hcm : (1 + j2) * T (326 + 10 * r p + k) = T (326 + 10 * r p + k) * (1 + j2) := Nat.mul_comm _ _
          have hpur := htb.2.2.2.2.1
          refine px_aload_n dL_buy_104 rfl ?_
          refine px_iconst (v := nI 3) dL_buy_105 (by decide) ?_
          refine px_iald (j := 3) dL_buy_106 pv_a_d.1 rfl (by omega) pv_a_d.2.2 pv_a_d.2.1 ?_
          refine px_iv (y := nI (T 404)) (qD_3 hQD1) ?_
          refine px_aload_n dL_buy_107 rfl ?_
          refine px_aload dL_buy_108 rfl ?_
          refine c_L_portOf dL_buy_110 mlL_40 (by omega) hQD1 hQP1 hQR hpw qp4 (by omega) (Nat.le_of_ble_eq_true rfl) ?_
          rw [hp9]
          refine px_iv (y := nI p) rfl ?_
          refine px_istore dL_buy_113 (by decide) ?_
          refine px_aload_n dL_buy_115 rfl ?_
          refine px_iconst (v := nI 5) dL_buy_116 (by decide) ?_
          refine px_dup2 dL_buy_117 rfl rfl ?_
          refine px_iald (j := 5) dL_buy_118 pv_a_d.1 rfl (by omega) pv_a_d.2.2 pv_a_d.2.1 ?_
          refine px_iv (y := nI (T 410)) (qD_5 hQD1) ?_
          refine px_iload dL_buy_119 rfl ?_
          refine px_aload dL_buy_121 rfl ?_
          refine px_bipush (v := nI 6) dL_buy_123 (by decide) ?_
          refine px_iload dL_buy_125 rfl ?_
          refine px_imulN dL_buy_127 ?_
          refine px_iconst (v := nI 2) dL_buy_128 (by decide) ?_
          refine px_iaddN dL_buy_129 ?_
          refine px_iload dL_buy_130 rfl ?_
          refine px_iaddN dL_buy_132 ?_
          refine px_iald (j := (((6 * p) + 2) + k)) dL_buy_133 pv_a_po.1 rfl (by omega) pv_a_po.2.2 pv_a_po.2.1 ?_
          refine px_iv (y := nI (T (326 + 10 * r p + k))) (hqp.2.2 k (by omega)) ?_
          refine px_imulN dL_buy_134 ?_
          refine px_isubN (by omega) dL_buy_135 ?_
          refine px_iast (j := 5) dL_buy_136 pv_a_d.1 rfl (by omega) pv_a_d.2.2 pv_a_d.2.1 ?_
          have hD2 : qD (pv_uI I1 365 5 (nI (T 410 - (1 + j2) * T (326 + 10 * r p + k)))) (pt_up T 410 (T 410 - (1 + j2) * T (326 + 10 * r p + k))) L.length := qD_put (j := 5) hQD1 (by omega) (by omega) (by omega)
          generalize hI2 : pv_uI I1 365 5 (nI (T 410 - (1 + j2) * T (326 + 10 * r p + k))) = I2 at hD2
          have hF2 : ∀ j, j ≠ 365 → I2 j = I1 j := fun j hj => by rw [← hI2]; exact pv_uI_ne hj
          refine px_aload_n dL_buy_137 rfl ?_
          refine px_bipush (v := nI 6) dL_buy_138 (by decide) ?_
          refine px_dup2 dL_buy_140 rfl rfl ?_
          refine px_iald (j := 6) dL_buy_141 pv_a_d.1 rfl (by omega) pv_a_d.2.2 pv_a_d.2.1 ?_
          refine px_iv (y := nI (T 411)) ((qD_6 hD2).trans (congrArg nI (pt_un (by omega)))) ?_
          refine px_iload dL_buy_142 rfl ?_
          refine px_aload dL_buy_144 rfl ?_
          refine px_bipush (v := nI 6) dL_buy_146 (by decide) ?_
          refine px_iload dL_buy_148 rfl ?_
          refine px_imulN dL_buy_150 ?_
          refine px_iconst (v := nI 2) dL_buy_151 (by decide) ?_
          refine px_iaddN dL_buy_152 ?_
          refine px_iload dL_buy_153 rfl ?_
          refine px_iaddN dL_buy_155 ?_
          refine px_iald (j := (((6 * p) + 2) + k)) dL_buy_156 pv_a_po.1 rfl (by omega) pv_a_po.2.2 pv_a_po.2.1 ?_
          refine px_iv (y := nI (T (326 + 10 * r p + k))) ((congrFun (hF2 369 (by omega)) _).trans (hqp.2.2 k (by omega))) ?_
          refine px_imulN dL_buy_157 ?_
          refine px_iaddN dL_buy_158 ?_
          refine px_iast (j := 6) dL_buy_159 pv_a_d.1 rfl (by omega) pv_a_d.2.2 pv_a_d.2.1 ?_
          have hD3 : qD (pv_uI I2 365 6 (nI (T 411 + (1 + j2) * T (326 + 10 * r p + k)))) (pt_up (pt_up T 410 (T 410 - (1 + j2) * T (326 + 10 * r p + k))) 411 (T 411 + (1 + j2) * T (326 + 10 * r p + k))) L.length := qD_put (j := 6) hD2 (by omega) (by omega) (by omega)
          generalize hI3 : pv_uI I2 365 6 (nI (T 411 + (1 + j2) * T (326 + 10 * r p + k))) = I3 at hD3
          have hF3 : ∀ j, j ≠ 365 → I3 j = I1 j := fun j hj => by rw [← hI3, pv_uI_ne hj]; exact hF2 j hj
          have hK3 : qK I3 (pt_up (pt_up T 410 (T 410 - (1 + j2) * T (326 + 10 * r p + k))) 411 (T 411 + (1 + j2) * T (326 + 10 * r p + k))) := qK_of hQK1 (hF3 366 (by omega)) (by rw [pt_un (by omega), pt_un (by omega)]) hn8 (fun i hi => by rw [pt_un (by omega), pt_un (by omega)])
          have hK4 := qK_add (x := (1 + j2)) (w := 3) hK3 (k := k) (by rw [pt_un (by omega), pt_un (by omega)]; exact hk) (by omega) (by omega) (by rw [pt_un (by omega), pt_un (by omega)]; exact hn8)
          refine px_aload dL_buy_160 rfl ?_
          refine px_bipush (v := nI 8) dL_buy_162 (by decide) ?_
          refine px_iload dL_buy_164 rfl ?_
          refine px_imulN dL_buy_166 ?_
          refine px_iconst (v := nI 3) dL_buy_167 (by decide) ?_
          refine px_iaddN dL_buy_168 ?_
          refine px_dup2 dL_buy_169 rfl rfl ?_
          refine px_iald (j := ((8 * k) + 3)) dL_buy_170 pv_a_ki.1 rfl (by omega) pv_a_ki.2.2 pv_a_ki.2.1 ?_
          refine px_iload dL_buy_171 rfl ?_
          refine px_iadd dL_buy_173 ?_
          refine px_iast (j := ((8 * k) + 3)) dL_buy_174 pv_a_ki.1 rfl (by omega) pv_a_ki.2.2 pv_a_ki.2.1 ?_
          rw [show 21 + 5 * k + 3 = 24 + 5 * k by omega] at hK4
          generalize hI4 : pv_uI I3 366 (8 * k + 3) (I3 366 (8 * k + 3) + nI (1 + j2)) = I4 at hK4
          have hF4 : ∀ j, j ≠ 366 → I4 j = I3 j := fun j hj => by rw [← hI4]; exact pv_uI_ne hj
          have hT3 : (pt_up (pt_up (pt_up T 410 (T 410 - (1 + j2) * T (326 + 10 * r p + k))) 411 (T 411 + (1 + j2) * T (326 + 10 * r p + k))) (24 + 5 * k) ((pt_up (pt_up T 410 (T 410 - (1 + j2) * T (326 + 10 * r p + k))) 411 (T 411 + (1 + j2) * T (326 + 10 * r p + k))) (24 + 5 * k) + (1 + j2))) = pt_buy T k (1 + j2) (T (326 + 10 * r p + k) * (1 + j2)) := by
            funext i
            unfold pt_buy
            simp only [pt_at, hcm]
            by_cases e1 : i = 24 + 5 * k
            · rw [if_pos e1, if_pos e1, if_neg (by omega), if_neg (by omega)]
            · rw [if_neg e1, if_neg e1]
          rw [hT3] at hK4
          have hD4 : qD I4 (pt_buy T k (1 + j2) (T (326 + 10 * r p + k) * (1 + j2))) L.length := by
            rw [← hT3]
            exact qD_of hD3 (hF4 365 (by omega)) (fun j hj => pt_un (by have := dT_ge hj; omega))
          refine px_iload dL_buy_175 rfl ?_
          refine px_iload dL_buy_177 rfl ?_
          refine px_iload dL_buy_179 rfl ?_
          refine px_aload dL_buy_181 rfl ?_
          refine px_bipush (v := nI 6) dL_buy_183 (by decide) ?_
          refine px_iload dL_buy_185 rfl ?_
          refine px_imulN dL_buy_187 ?_
          refine px_iconst (v := nI 1) dL_buy_188 (by decide) ?_
          refine px_iaddN dL_buy_189 ?_
          refine px_iald (j := ((6 * p) + 1)) dL_buy_190 pv_a_po.1 rfl (by omega) pv_a_po.2.2 pv_a_po.2.1 ?_
          refine px_iv (y := nI (T (325 + 10 * r p))) ((congrFun ((hF4 369 (by omega)).trans (hF3 369 (by omega))) _).trans hqp.2.1) ?_
          refine px_aload_n dL_buy_191 rfl ?_
          refine px_aload dL_buy_192 rfl ?_
          refine c_L_come dL_buy_194 mlL_63 (by omega) hD4 (qL_of hQL1 ((hF4 367 (by omega)).trans (hF3 367 (by omega)))) q11 (Nat.le_of_ble_eq_true rfl) (fun I5 hD5 hL5 hF5 => ?_)
          have hbt : pt_bought (T, L) k (1 + j2) s = ((pt_buy T k (1 + j2) (T (326 + 10 * r p + k) * (1 + j2))), (L ++ [(k, s, (1 + j2), T (325 + 10 * r p))])) := by
            unfold pt_bought
            rw [show pt_on (T, L).1 ((T, L).1 404) = some (r p) from hpo]
            rfl
          have hpo9 := qt_buy (X := ((T, L), H, B)) (k := k) (a := (1 + j2)) (s := s) hk hn8 ⟨by omega, by omega⟩ hs hr0
          rw [show pt_bought ((((T, L), H, B)) : pv_XS).1 k (1 + j2) s = ((pt_buy T k (1 + j2) (T (326 + 10 * r p + k) * (1 + j2))), (L ++ [(k, s, (1 + j2), T (325 + 10 * r p))])) from hbt] at hpo9
          have hCA5 : CA I5 ((T, L), H, B) := CA_far hCA1 (fun j hj => (hF5 j (by omega) (by omega)).trans ((hF4 j (by omega)).trans (hF3 j (by omega))))
          have hw2 := wx_buy (k := nI k) (a := nI (1 + j2)) (s := nI s) hw
          rw [hpo9] at hw2
          have hlen5 : (L ++ [(k, s, (1 + j2), T (325 + 10 * r p))]).length = L.length + 1 := by rw [List.length_append]; rfl
          refine px_aload_n dL_buy_197 rfl ?_
          refine px_iload dL_buy_198 rfl ?_
          refine px_iload dL_buy_200 rfl ?_
          refine px_iload dL_buy_202 rfl ?_
          refine c_X9_buy dL_buy_204 mlL_67 (by omega) hCA5 hw (by omega) (by omega) (by omega) (Nat.le_of_ble_eq_true rfl) (dz_ok hpo9 fun I6 hCA6 hG6 => ?_)
          refine px_aload_n dL_buy_207 rfl ?_
          refine px_iconst (v := nI 1) dL_buy_208 (by decide) ?_
          refine px_iald (j := 1) dL_buy_209 pv_a_d.1 rfl (by omega) pv_a_d.2.2 pv_a_d.2.1 ?_
          refine px_iv (y := nI (L.length + 1)) ((congrFun (hG6 365 (by omega)) 1).trans (hD5.1.trans (congrArg nI hlen5))) ?_
          refine px_iconst (v := nI 1) dL_buy_210 (by decide) ?_
          refine px_isubN (by omega) dL_buy_211 ?_
          rw [show L.length + 1 - 1 = L.length by omega]
          refine px_icmp_ne (tgt := 219) dL_buy_212 (by decide) (fun h9 => absurd rfl h9) (fun _ => ?_)
          refine px_iconst (v := nI 1) dL_buy_215 (by decide) ?_
          refine px_goto (tgt := 220) dL_buy_216 (by decide) ?_
          have eT : ∀ i, ¬ (24 ≤ i ∧ i < 64) → i ≠ 410 → i ≠ 411 → (pt_buy T k (1 + j2) (T (326 + 10 * r p + k) * (1 + j2))) i = T i := fun i h1 h2 h3 => by unfold pt_buy; rw [pt_un (by omega), pt_un h3, pt_un h2]
          refine px_zret dL_buy_220 rfl rfl (Or.inl rfl) (h I6 (((pt_buy T k (1 + j2) (T (326 + 10 * r p + k) * (1 + j2))), (L ++ [(k, s, (1 + j2), T (325 + 10 * r p))])), h_push H (T, L), B) ⟨hCA6, hw2, ⟨r, g, qD_of hD5 (hG6 365 (by omega)) (fun _ _ => rfl), qK_of hK4 ((hG6 366 (by omega)).trans (hF5 366 (by omega) (by omega))) rfl (by rw [eT 405 (by omega) (by omega) (by omega)]; omega) (fun _ _ => rfl), qL_of hL5 (hG6 367 (by omega)), qM_of hQM1 ((hG6 368 (by omega)).trans ((hF5 368 (by omega) (by omega)).trans ((hF4 368 (by omega)).trans (hF3 368 (by omega))))) h10 (fun m hm => (htb.2.2.2.2.2.2.2.2 m hm).1) (fun i hi => eT i (by omega) (by omega) (by omega)), qP_of hQP1 ((hG6 369 (by omega)).trans ((hF5 369 (by omega) (by omega)).trans ((hF4 369 (by omega)).trans (hF3 369 (by omega))))) hpw.1 (fun q hq => (hQR.1 q hq).1) (fun i hi => eT i (by omega) (by omega) (by omega)), (by show qR ((pt_buy T k (1 + j2) (T (326 + 10 * r p + k) * (1 + j2))) 407) r g; rw [eT 407 (by omega) (by omega) (by omega)]; exact hQR)⟩, ⟨?_, ?_, ?_, ?_, ?_⟩, ?_, ?_, ?_, ?_⟩)
          · show (pt_buy T k (1 + j2) (T (326 + 10 * r p + k) * (1 + j2))) 405 ≤ 4
            rw [eT 405 (by omega) (by omega) (by omega)]; exact q4
          · show (L ++ [(k, s, (1 + j2), T (325 + 10 * r p))]).length ≤ 11
            omega
          · show (pt_buy T k (1 + j2) (T (326 + 10 * r p + k) * (1 + j2))) 408 ≤ 3
            rw [eT 408 (by omega) (by omega) (by omega)]; exact q3
          · intro m hm
            replace hm : m < (pt_buy T k (1 + j2) (T (326 + 10 * r p + k) * (1 + j2))) 408 := hm
            rw [eT 408 (by omega) (by omega) (by omega)] at hm
            show (pt_buy T k (1 + j2) (T (326 + 10 * r p + k) * (1 + j2))) (314 + m) ≤ 3
            rw [eT _ (by omega) (by omega) (by omega)]; exact qm3 m hm
          · show (pt_buy T k (1 + j2) (T (326 + 10 * r p + k) * (1 + j2))) 407 ≤ 4
            rw [eT 407 (by omega) (by omega) (by omega)]; exact qp4
          · intro s9 hs9
            show ps_in (L ++ [(k, s, (1 + j2), T (325 + 10 * r p))]) s9 ≤ (pt_buy T k (1 + j2) (T (326 + 10 * r p + k) * (1 + j2))) (64 + s9)
            rw [eT _ (by omega) (by omega) (by omega), qs_in_push]
            show ps_in L s9 + (if s = s9 then (1 + j2) else 0) ≤ T (64 + s9)
            by_cases e : s = s9
            · subst e
              rw [if_pos rfl]; exact hroom
            · rw [if_neg e]; exact hin s9 hs9
          · intro k9 hk9
            replace hk9 : k9 < (pt_buy T k (1 + j2) (T (326 + 10 * r p + k) * (1 + j2))) 405 := hk9
            rw [eT 405 (by omega) (by omega) (by omega)] at hk9
            have hac := hacc k9 hk9
            show (pt_buy T k (1 + j2) (T (326 + 10 * r p + k) * (1 + j2))) (24 + 5 * k9) = (pt_buy T k (1 + j2) (T (326 + 10 * r p + k) * (1 + j2))) (25 + 5 * k9) + (pt_buy T k (1 + j2) (T (326 + 10 * r p + k) * (1 + j2))) (26 + 5 * k9) + (pt_buy T k (1 + j2) (T (326 + 10 * r p + k) * (1 + j2))) (27 + 5 * k9) + ps_of (L ++ [(k, s, (1 + j2), T (325 + 10 * r p))]) k9
            rw [qs_of_push]
            show (pt_buy T k (1 + j2) (T (326 + 10 * r p + k) * (1 + j2))) (24 + 5 * k9) = (pt_buy T k (1 + j2) (T (326 + 10 * r p + k) * (1 + j2))) (25 + 5 * k9) + (pt_buy T k (1 + j2) (T (326 + 10 * r p + k) * (1 + j2))) (26 + 5 * k9) + (pt_buy T k (1 + j2) (T (326 + 10 * r p + k) * (1 + j2))) (27 + 5 * k9) + (ps_of L k9 + (if k = k9 then (1 + j2) else 0))
            unfold pt_buy
            simp only [pt_at]
            rw [if_neg (show ¬ 25 + 5 * k9 = 24 + 5 * k by omega), if_neg (show ¬ 25 + 5 * k9 = 411 by omega), if_neg (show ¬ 25 + 5 * k9 = 410 by omega), if_neg (show ¬ 26 + 5 * k9 = 24 + 5 * k by omega), if_neg (show ¬ 26 + 5 * k9 = 411 by omega), if_neg (show ¬ 26 + 5 * k9 = 410 by omega), if_neg (show ¬ 27 + 5 * k9 = 24 + 5 * k by omega), if_neg (show ¬ 27 + 5 * k9 = 411 by omega), if_neg (show ¬ 27 + 5 * k9 = 410 by omega)]
            by_cases e : k = k9
            · subst e
              rw [if_pos rfl, if_pos rfl]
              omega
            · rw [if_neg (show ¬ 24 + 5 * k9 = 24 + 5 * k by omega), if_neg (show ¬ 24 + 5 * k9 = 411 by omega), if_neg (show ¬ 24 + 5 * k9 = 410 by omega), if_neg e]
              omega
          · show (pt_buy T k (1 + j2) (T (326 + 10 * r p + k) * (1 + j2))) 404 ≤ 20 * (n + 1 - 6)
            rw [eT 404 (by omega) (by omega) (by omega)]; omega
          · show (pt_buy T k (1 + j2) (T (326 + 10 * r p + k) * (1 + j2))) 410 ≤ 10000 + 2000 * (n + 1)
            have : (pt_buy T k (1 + j2) (T (326 + 10 * r p + k) * (1 + j2))) 410 ≤ T 410 := by
              unfold pt_buy
              rw [pt_un (by omega), pt_un (by omega), pt_us]
              omega
            omega
        · refine px_iconst (v := nI 1) dL_buy_102 (by decide) ?_
          exact px_zret dL_buy_103 rfl rfl (Or.inl rfl) (h I1 ((T, L), H, B) (qW_mono (qW_of hW hCA1 (fun j h1 _ => hG1 j h1))))
      · refine px_sipush (v := nI 1500) dL_buy_47 (by decide) ?_
        refine px_goto (tgt := 56) dL_buy_50 (by decide) ?_
        refine c_L_at dL_buy_56 mlL_30 (by omega) (by omega) (by omega) (Nat.le_of_ble_eq_true rfl) (fun j2 hj2 => ?_)
        refine px_iaddN dL_buy_59 ?_
        refine px_istore dL_buy_60 (by decide) ?_
        refine px_iload dL_buy_62 rfl ?_
        refine px_iload dL_buy_64 rfl ?_
        refine px_iload dL_buy_66 rfl ?_
        refine px_aload_n dL_buy_68 rfl ?_
        refine px_aload dL_buy_69 rfl ?_
        refine px_aload dL_buy_71 rfl ?_
        refine px_aload dL_buy_73 rfl ?_
        refine c_L_why dL_buy_75 mlL_57 (by omega) hQD hQK hQL hQP hQR htb hlb q4 q11 qp4 (by omega) hk (by omega) hs (Nat.le_of_ble_eq_true rfl) ?_
        refine px_istore dL_buy_78 (by decide) ?_
        refine px_aload_n dL_buy_80 rfl ?_
        refine px_iload dL_buy_81 rfl ?_
        refine px_iload dL_buy_83 rfl ?_
        refine px_iload dL_buy_85 rfl ?_
        refine c_X9_why dL_buy_87 mlL_61 (by omega) hCA hw (by omega) (by omega) (by omega) (Nat.le_of_ble_eq_true rfl) (dz_ok (qt_why (X := ((T, L), H, B)) (k := k) (a := (1 + j2)) (s := s) hk hn8 ⟨by omega, by omega⟩ hs) fun I1 hCA1 hG1 => ?_)
        refine px_iload dL_buy_90 rfl ?_
        refine px_icmp_eq (tgt := 97) dL_buy_92 (by decide) (fun _ => ?_) (fun h9 => absurd rfl h9)
        have hQA1 : qA I1 T L r g := qA_of ⟨hQD, hQK, hQL, hQM, hQP, hQR⟩ htb (fun j h1 _ => hG1 j h1)
        have hrf : pt_refuse T L k (1 + j2) s ≤ 6 := by
          unfold pt_refuse
          split
          · omega
          · repeat' split
            all_goals omega
        refine px_iload dL_buy_97 rfl ?_
        refine px_if_leN (tgt := 104) dL_buy_99 (by decide) (by omega) (fun h8 => ?_) (fun h8 => ?_)
        · have hr0 : pt_refuse T L k (1 + j2) s = 0 := by omega
          obtain ⟨p0, hon, hroom, hcost⟩ := qt_ref0 hr0
          obtain ⟨hQD1, hQK1, hQL1, hQM1, hQP1, -⟩ := hQA1
          have hqat : ∃ p, q_at T r (T 404) = some p := by
            cases e : q_at T r (T 404) with
            | none => rw [q_at_none hQR e] at hon; cases hon
            | some p => exact ⟨p, rfl⟩
          obtain ⟨p, hp9⟩ := hqat
          obtain ⟨hp, hpd, hpo⟩ := q_at_some hpw hQR hp9
          have hp0 : r p = p0 := by rw [hpo] at hon; exact Option.some.inj hon
          subst hp0
          have hrp := (hQR.1 p hp).1
          have hpr := (hpw.2.1 (r p) hrp).2.2 k (by omega)
          have hqp := hQP1 p hp
          replace hcost : T (326 + 10 * r p + k) * (1 + j2) ≤ T 410 := hcost
          have hcm : (1 + j2) * T (326 + 10 * r p + k) = T (326 + 10 * r p + k) * (1 + j2) := Nat.mul_comm _ _
          have hpur := htb.2.2.2.2.1
          refine px_aload_n dL_buy_104 rfl ?_
          refine px_iconst (v := nI 3) dL_buy_105 (by decide) ?_
          refine px_iald (j := 3) dL_buy_106 pv_a_d.1 rfl (by omega) pv_a_d.2.2 pv_a_d.2.1 ?_
          refine px_iv (y := nI (T 404)) (qD_3 hQD1) ?_
          refine px_aload_n dL_buy_107 rfl ?_
          refine px_aload dL_buy_108 rfl ?_
          refine c_L_portOf dL_buy_110 mlL_40 (by omega) hQD1 hQP1 hQR hpw qp4 (by omega) (Nat.le_of_ble_eq_true rfl) ?_
          rw [hp9]
          refine px_iv (y := nI p) rfl ?_
          refine px_istore dL_buy_113 (by decide) ?_
          refine px_aload_n dL_buy_115 rfl ?_
          refine px_iconst (v := nI 5) dL_buy_116 (by decide) ?_
          refine px_dup2 dL_buy_117 rfl rfl ?_
          refine px_iald (j := 5) dL_buy_118 pv_a_d.1 rfl (by omega) pv_a_d.2.2 pv_a_d.2.1 ?_
          refine px_iv (y := nI (T 410)) (qD_5 hQD1) ?_
          refine px_iload dL_buy_119 rfl ?_
          refine px_aload dL_buy_121 rfl ?_
          refine px_bipush (v := nI 6) dL_buy_123 (by decide) ?_
          refine px_iload dL_buy_125 rfl ?_
          refine px_imulN dL_buy_127 ?_
          refine px_iconst (v := nI 2) dL_buy_128 (by decide) ?_
          refine px_iaddN dL_buy_129 ?_
          refine px_iload dL_buy_130 rfl ?_
          refine px_iaddN dL_buy_132 ?_
          refine px_iald (j := (((6 * p) + 2) + k)) dL_buy_133 pv_a_po.1 rfl (by omega) pv_a_po.2.2 pv_a_po.2.1 ?_
          refine px_iv (y := nI (T (326 + 10 * r p + k))) (hqp.2.2 k (by omega)) ?_
          refine px_imulN dL_buy_134 ?_
          refine px_isubN (by omega) dL_buy_135 ?_
          refine px_iast (j := 5) dL_buy_136 pv_a_d.1 rfl (by omega) pv_a_d.2.2 pv_a_d.2.1 ?_
          have hD2 : qD (pv_uI I1 365 5 (nI (T 410 - (1 + j2) * T (326 + 10 * r p + k)))) (pt_up T 410 (T 410 - (1 + j2) * T (326 + 10 * r p + k))) L.length := qD_put (j := 5) hQD1 (by omega) (by omega) (by omega)
          generalize hI2 : pv_uI I1 365 5 (nI (T 410 - (1 + j2) * T (326 + 10 * r p + k))) = I2 at hD2
          have hF2 : ∀ j, j ≠ 365 → I2 j = I1 j := fun j hj => by rw [← hI2]; exact pv_uI_ne hj
          refine px_aload_n dL_buy_137 rfl ?_
          refine px_bipush (v := nI 6) dL_buy_138 (by decide) ?_
          refine px_dup2 dL_buy_140 rfl rfl ?_
          refine px_iald (j := 6) dL_buy_141 pv_a_d.1 rfl (by omega) pv_a_d.2.2 pv_a_d.2.1 ?_
          refine px_iv (y := nI (T 411)) ((qD_6 hD2).trans (congrArg nI (pt_un (by omega)))) ?_
          refine px_iload dL_buy_142 rfl ?_
          refine px_aload dL_buy_144 rfl ?_
          refine px_bipush (v := nI 6) dL_buy_146 (by decide) ?_
          refine px_iload dL_buy_148 rfl ?_
          refine px_imulN dL_buy_150 ?_
          refine px_iconst (v := nI 2) dL_buy_151 (by decide) ?_
          refine px_iaddN dL_buy_152 ?_
          refine px_iload dL_buy_153 rfl ?_
          refine px_iaddN dL_buy_155 ?_
          refine px_iald (j := (((6 * p) + 2) + k)) dL_buy_156 pv_a_po.1 rfl (by omega) pv_a_po.2.2 pv_a_po.2.1 ?_
          refine px_iv (y := nI (T (326 + 10 * r p + k))) ((congrFun (hF2 369 (by omega)) _).trans (hqp.2.2 k (by omega))) ?_
          refine px_imulN dL_buy_157 ?_
          refine px_iaddN dL_buy_158 ?_
          refine px_iast (j := 6) dL_buy_159 pv_a_d.1 rfl (by omega) pv_a_d.2.2 pv_a_d.2.1 ?_
          have hD3 : qD (pv_uI I2 365 6 (nI (T 411 + (1 + j2) * T (326 + 10 * r p + k)))) (pt_up (pt_up T 410 (T 410 - (1 + j2) * T (326 + 10 * r p + k))) 411 (T 411 + (1 + j2) * T (326 + 10 * r p + k))) L.length := qD_put (j := 6) hD2 (by omega) (by omega) (by omega)
          generalize hI3 : pv_uI I2 365 6 (nI (T 411 + (1 + j2) * T (326 + 10 * r p + k))) = I3 at hD3
          have hF3 : ∀ j, j ≠ 365 → I3 j = I1 j := fun j hj => by rw [← hI3, pv_uI_ne hj]; exact hF2 j hj
          have hK3 : qK I3 (pt_up (pt_up T 410 (T 410 - (1 + j2) * T (326 + 10 * r p + k))) 411 (T 411 + (1 + j2) * T (326 + 10 * r p + k))) := qK_of hQK1 (hF3 366 (by omega)) (by rw [pt_un (by omega), pt_un (by omega)]) hn8 (fun i hi => by rw [pt_un (by omega), pt_un (by omega)])
          have hK4 := qK_add (x := (1 + j2)) (w := 3) hK3 (k := k) (by rw [pt_un (by omega), pt_un (by omega)]; exact hk) (by omega) (by omega) (by rw [pt_un (by omega), pt_un (by omega)]; exact hn8)
          refine px_aload dL_buy_160 rfl ?_
          refine px_bipush (v := nI 8) dL_buy_162 (by decide) ?_
          refine px_iload dL_buy_164 rfl ?_
          refine px_imulN dL_buy_166 ?_
          refine px_iconst (v := nI 3) dL_buy_167 (by decide) ?_
          refine px_iaddN dL_buy_168 ?_
          refine px_dup2 dL_buy_169 rfl rfl ?_
          refine px_iald (j := ((8 * k) + 3)) dL_buy_170 pv_a_ki.1 rfl (by omega) pv_a_ki.2.2 pv_a_ki.2.1 ?_
          refine px_iload dL_buy_171 rfl ?_
          refine px_iadd dL_buy_173 ?_
          refine px_iast (j := ((8 * k) + 3)) dL_buy_174 pv_a_ki.1 rfl (by omega) pv_a_ki.2.2 pv_a_ki.2.1 ?_
          rw [show 21 + 5 * k + 3 = 24 + 5 * k by omega] at hK4
          generalize hI4 : pv_uI I3 366 (8 * k + 3) (I3 366 (8 * k + 3) + nI (1 + j2)) = I4 at hK4
          have hF4 : ∀ j, j ≠ 366 → I4 j = I3 j := fun j hj => by rw [← hI4]; exact pv_uI_ne hj
          have hT3 : (pt_up (pt_up (pt_up T 410 (T 410 - (1 + j2) * T (326 + 10 * r p + k))) 411 (T 411 + (1 + j2) * T (326 + 10 * r p + k))) (24 + 5 * k) ((pt_up (pt_up T 410 (T 410 - (1 + j2) * T (326 + 10 * r p + k))) 411 (T 411 + (1 + j2) * T (326 + 10 * r p + k))) (24 + 5 * k) + (1 + j2))) = pt_buy T k (1 + j2) (T (326 + 10 * r p + k) * (1 + j2)) := by
            funext i
            unfold pt_buy
            simp only [pt_at, hcm]
            by_cases e1 : i = 24 + 5 * k
            · rw [if_pos e1, if_pos e1, if_neg (by omega), if_neg (by omega)]
            · rw [if_neg e1, if_neg e1]
          rw [hT3] at hK4
          have hD4 : qD I4 (pt_buy T k (1 + j2) (T (326 + 10 * r p + k) * (1 + j2))) L.length := by
            rw [← hT3]
            exact qD_of hD3 (hF4 365 (by omega)) (fun j hj => pt_un (by have := dT_ge hj; omega))
          refine px_iload dL_buy_175 rfl ?_
          refine px_iload dL_buy_177 rfl ?_
          refine px_iload dL_buy_179 rfl ?_
          refine px_aload dL_buy_181 rfl ?_
          refine px_bipush (v := nI 6) dL_buy_183 (by decide) ?_
          refine px_iload dL_buy_185 rfl ?_
          refine px_imulN dL_buy_187 ?_
          refine px_iconst (v := nI 1) dL_buy_188 (by decide) ?_
          refine px_iaddN dL_buy_189 ?_
          refine px_iald (j := ((6 * p) + 1)) dL_buy_190 pv_a_po.1 rfl (by omega) pv_a_po.2.2 pv_a_po.2.1 ?_
          refine px_iv (y := nI (T (325 + 10 * r p))) ((congrFun ((hF4 369 (by omega)).trans (hF3 369 (by omega))) _).trans hqp.2.1) ?_
          refine px_aload_n dL_buy_191 rfl ?_
          refine px_aload dL_buy_192 rfl ?_
          refine c_L_come dL_buy_194 mlL_63 (by omega) hD4 (qL_of hQL1 ((hF4 367 (by omega)).trans (hF3 367 (by omega)))) q11 (Nat.le_of_ble_eq_true rfl) (fun I5 hD5 hL5 hF5 => ?_)
          have hbt : pt_bought (T, L) k (1 + j2) s = ((pt_buy T k (1 + j2) (T (326 + 10 * r p + k) * (1 + j2))), (L ++ [(k, s, (1 + j2), T (325 + 10 * r p))])) := by
            unfold pt_bought
            rw [show pt_on (T, L).1 ((T, L).1 404) = some (r p) from hpo]
            rfl
          have hpo9 := qt_buy (X := ((T, L), H, B)) (k := k) (a := (1 + j2)) (s := s) hk hn8 ⟨by omega, by omega⟩ hs hr0
          rw [show pt_bought ((((T, L), H, B)) : pv_XS).1 k (1 + j2) s = ((pt_buy T k (1 + j2) (T (326 + 10 * r p + k) * (1 + j2))), (L ++ [(k, s, (1 + j2), T (325 + 10 * r p))])) from hbt] at hpo9
          have hCA5 : CA I5 ((T, L), H, B) := CA_far hCA1 (fun j hj => (hF5 j (by omega) (by omega)).trans ((hF4 j (by omega)).trans (hF3 j (by omega))))
          have hw2 := wx_buy (k := nI k) (a := nI (1 + j2)) (s := nI s) hw
          rw [hpo9] at hw2
          have hlen5 : (L ++ [(k, s, (1 + j2), T (325 + 10 * r p))]).length = L.length + 1 := by rw [List.length_append]; rfl
          refine px_aload_n dL_buy_197 rfl ?_
          refine px_iload dL_buy_198 rfl ?_
          refine px_iload dL_buy_200 rfl ?_
          refine px_iload dL_buy_202 rfl ?_
          refine c_X9_buy dL_buy_204 mlL_67 (by omega) hCA5 hw (by omega) (by omega) (by omega) (Nat.le_of_ble_eq_true rfl) (dz_ok hpo9 fun I6 hCA6 hG6 => ?_)
          refine px_aload_n dL_buy_207 rfl ?_
          refine px_iconst (v := nI 1) dL_buy_208 (by decide) ?_
          refine px_iald (j := 1) dL_buy_209 pv_a_d.1 rfl (by omega) pv_a_d.2.2 pv_a_d.2.1 ?_
          refine px_iv (y := nI (L.length + 1)) ((congrFun (hG6 365 (by omega)) 1).trans (hD5.1.trans (congrArg nI hlen5))) ?_
          refine px_iconst (v := nI 1) dL_buy_210 (by decide) ?_
          refine px_isubN (by omega) dL_buy_211 ?_
          rw [show L.length + 1 - 1 = L.length by omega]
          refine px_icmp_ne (tgt := 219) dL_buy_212 (by decide) (fun h9 => absurd rfl h9) (fun _ => ?_)
          refine px_iconst (v := nI 1) dL_buy_215 (by decide) ?_
          refine px_goto (tgt := 220) dL_buy_216 (by decide) ?_
          have eT : ∀ i, ¬ (24 ≤ i ∧ i < 64) → i ≠ 410 → i ≠ 411 → (pt_buy T k (1 + j2) (T (326 + 10 * r p + k) * (1 + j2))) i = T i := fun i h1 h2 h3 => by unfold pt_buy; rw [pt_un (by omega), pt_un h3, pt_un h2]
          refine px_zret dL_buy_220 rfl rfl (Or.inl rfl) (h I6 (((pt_buy T k (1 + j2) (T (326 + 10 * r p + k) * (1 + j2))), (L ++ [(k, s, (1 + j2), T (325 + 10 * r p))])), h_push H (T, L), B) ⟨hCA6, hw2, ⟨r, g, qD_of hD5 (hG6 365 (by omega)) (fun _ _ => rfl), qK_of hK4 ((hG6 366 (by omega)).trans (hF5 366 (by omega) (by omega))) rfl (by rw [eT 405 (by omega) (by omega) (by omega)]; omega) (fun _ _ => rfl), qL_of hL5 (hG6 367 (by omega)), qM_of hQM1 ((hG6 368 (by omega)).trans ((hF5 368 (by omega) (by omega)).trans ((hF4 368 (by omega)).trans (hF3 368 (by omega))))) h10 (fun m hm => (htb.2.2.2.2.2.2.2.2 m hm).1) (fun i hi => eT i (by omega) (by omega) (by omega)), qP_of hQP1 ((hG6 369 (by omega)).trans ((hF5 369 (by omega) (by omega)).trans ((hF4 369 (by omega)).trans (hF3 369 (by omega))))) hpw.1 (fun q hq => (hQR.1 q hq).1) (fun i hi => eT i (by omega) (by omega) (by omega)), (by show qR ((pt_buy T k (1 + j2) (T (326 + 10 * r p + k) * (1 + j2))) 407) r g; rw [eT 407 (by omega) (by omega) (by omega)]; exact hQR)⟩, ⟨?_, ?_, ?_, ?_, ?_⟩, ?_, ?_, ?_, ?_⟩)
          · show (pt_buy T k (1 + j2) (T (326 + 10 * r p + k) * (1 + j2))) 405 ≤ 4
            rw [eT 405 (by omega) (by omega) (by omega)]; exact q4
          · show (L ++ [(k, s, (1 + j2), T (325 + 10 * r p))]).length ≤ 11
            omega
          · show (pt_buy T k (1 + j2) (T (326 + 10 * r p + k) * (1 + j2))) 408 ≤ 3
            rw [eT 408 (by omega) (by omega) (by omega)]; exact q3
          · intro m hm
            replace hm : m < (pt_buy T k (1 + j2) (T (326 + 10 * r p + k) * (1 + j2))) 408 := hm
            rw [eT 408 (by omega) (by omega) (by omega)] at hm
            show (pt_buy T k (1 + j2) (T (326 + 10 * r p + k) * (1 + j2))) (314 + m) ≤ 3
            rw [eT _ (by omega) (by omega) (by omega)]; exact qm3 m hm
          · show (pt_buy T k (1 + j2) (T (326 + 10 * r p + k) * (1 + j2))) 407 ≤ 4
            rw [eT 407 (by omega) (by omega) (by omega)]; exact qp4
          · intro s9 hs9
            show ps_in (L ++ [(k, s, (1 + j2), T (325 + 10 * r p))]) s9 ≤ (pt_buy T k (1 + j2) (T (326 + 10 * r p + k) * (1 + j2))) (64 + s9)
            rw [eT _ (by omega) (by omega) (by omega), qs_in_push]
            show ps_in L s9 + (if s = s9 then (1 + j2) else 0) ≤ T (64 + s9)
            by_cases e : s = s9
            · subst e
              rw [if_pos rfl]; exact hroom
            · rw [if_neg e]; exact hin s9 hs9
          · intro k9 hk9
            replace hk9 : k9 < (pt_buy T k (1 + j2) (T (326 + 10 * r p + k) * (1 + j2))) 405 := hk9
            rw [eT 405 (by omega) (by omega) (by omega)] at hk9
            have hac := hacc k9 hk9
            show (pt_buy T k (1 + j2) (T (326 + 10 * r p + k) * (1 + j2))) (24 + 5 * k9) = (pt_buy T k (1 + j2) (T (326 + 10 * r p + k) * (1 + j2))) (25 + 5 * k9) + (pt_buy T k (1 + j2) (T (326 + 10 * r p + k) * (1 + j2))) (26 + 5 * k9) + (pt_buy T k (1 + j2) (T (326 + 10 * r p + k) * (1 + j2))) (27 + 5 * k9) + ps_of (L ++ [(k, s, (1 + j2), T (325 + 10 * r p))]) k9
            rw [qs_of_push]
            show (pt_buy T k (1 + j2) (T (326 + 10 * r p + k) * (1 + j2))) (24 + 5 * k9) = (pt_buy T k (1 + j2) (T (326 + 10 * r p + k) * (1 + j2))) (25 + 5 * k9) + (pt_buy T k (1 + j2) (T (326 + 10 * r p + k) * (1 + j2))) (26 + 5 * k9) + (pt_buy T k (1 + j2) (T (326 + 10 * r p + k) * (1 + j2))) (27 + 5 * k9) + (ps_of L k9 + (if k = k9 then (1 + j2) else 0))
            unfold pt_buy
            simp only [pt_at]
            rw [if_neg (show ¬ 25 + 5 * k9 = 24 + 5 * k by omega), if_neg (show ¬ 25 + 5 * k9 = 411 by omega), if_neg (show ¬ 25 + 5 * k9 = 410 by omega), if_neg (show ¬ 26 + 5 * k9 = 24 + 5 * k by omega), if_neg (show ¬ 26 + 5 * k9 = 411 by omega), if_neg (show ¬ 26 + 5 * k9 = 410 by omega), if_neg (show ¬ 27 + 5 * k9 = 24 + 5 * k by omega), if_neg (show ¬ 27 + 5 * k9 = 411 by omega), if_neg (show ¬ 27 + 5 * k9 = 410 by omega)]
            by_cases e : k = k9
            · subst e
              rw [if_pos rfl, if_pos rfl]
              omega
            · rw [if_neg (show ¬ 24 + 5 * k9 = 24 + 5 * k by omega), if_neg (show ¬ 24 + 5 * k9 = 411 by omega), if_neg (show ¬ 24 + 5 * k9 = 410 by omega), if_neg e]
              omega
          · show (pt_buy T k (1 + j2) (T (326 + 10 * r p + k) * (1 + j2))) 404 ≤ 20 * (n + 1 - 6)
            rw [eT 404 (by omega) (by omega) (by omega)]; omega
          · show (pt_buy T k (1 + j2) (T (326 + 10 * r p + k) * (1 + j2))) 410 ≤ 10000 + 2000 * (n + 1)
            have : (pt_buy T k (1 + j2) (T (326 + 10 * r p + k) * (1 + j2))) 410 ≤ T 410 := by
              unfold pt_buy
              rw [pt_un (by omega), pt_un (by omega), pt_us]
              omega
            omega
        · refine px_iconst (v := nI 1) dL_buy_102 (by decide) ?_
          exact px_zret dL_buy_103 rfl rfl (Or.inl rfl) (h I1 ((T, L), H, B) (qW_mono (qW_of hW hCA1 (fun j h1 _ => hG1 j h1))))
    · refine px_iconst (v := nI 1) dL_buy_14 (by decide) ?_
      exact px_zret dL_buy_15 rfl rfl (Or.inl rfl) (h I ((T, L), H, B) (qW_mono hW))
theorem c_L_buy {z : pv_Z} {E : pv_E} {d bc bs : Nat} {J : pv_JT} {I : pv_IT} {mi : pv_MI} {pc idx : Nat} {lv : pv_LV} {st : List Value} {T : pv_T} {L : List pv_Lot} {H : List pv_S} {B : List Nat} {n : Nat} {x y : Int32} (hd : decode mi.2.1 pc = .ok (.invokestatic idx, 3)) (hlk : Cond.methodLink mi.1.cls idx mL_buy.1 ∈ pv_W) (hDep : 9+1 ≤ d) (hW : qW n I ((T, L), H, B)) (hn : n ≤ 29) (hbc : 12 ≤ bc) (hbs : 72 ≤ bs) (hcat : (st.map fun v => v.category).sum ≤ 8) (K : ∀ (I' : pv_IT) (X' : pv_XS), qW (n + 1) I' X' → pv_X z E d (bc - 12) (bs - 72) mi (pc + 3) lv ((.int (nI 1)) :: st) pv_K0 pv_P0 (I') (J)) : pv_X z E d bc bs mi pc lv (.ref (369) :: .ref (367) :: .ref (366) :: .ref (365) :: .int (y) :: .int (x) :: .ref 0 :: st) pv_K0 pv_P0 I J := by
  obtain ⟨bc, rfl⟩ : ∃ b0, bc = 12 + b0 := ⟨bc - 12, by omega⟩
  obtain ⟨bs, rfl⟩ : ∃ b0, bs = 72 + b0 := ⟨bs - 72, by omega⟩
  rw [show 12 + bc - 12 = bc by omega, show 72 + bs - 72 = bs by omega] at K
  obtain ⟨d, rfl⟩ : ∃ d0, d = d0 + 1 := ⟨d - 1, by omega⟩
  have key := px_callS (bc := bc) (bs := bs) (bc1 := 12) (bs1 := 72) (as := [.ref 0, .int (x), .int (y), .ref (365), .ref (366), .ref (367), .ref (369)]) (E := E) (z := z) (lv := lv) hd msL_buy hlk rfl rfl hcat (by exact Nat.le_of_ble_eq_true rfl) (s_L_buy (by omega) hW hn (Nat.le_refl _) (Nat.le_refl _) K)
  exact key
