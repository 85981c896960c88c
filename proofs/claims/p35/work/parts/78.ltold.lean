/-! The law: all is told. -/
/-- bought is eaten, spoiled, thrown away and in lots -/
def qacc (T : pv_T) (L : List pv_Lot) : Prop := ∀ k, k < T 405 → T (24 + 5 * k) = T (25 + 5 * k) + T (26 + 5 * k) + T (27 + 5 * k) + ps_of L k
def qin (T : pv_T) (L : List pv_Lot) : Prop := ∀ s, s < 3 → ps_in L s ≤ T (64 + s)
def qA (I : pv_IT) (T : pv_T) (L : List pv_Lot) (r g : Nat → Nat) : Prop := qD I T L.length ∧ qK I T ∧ qL I L ∧ qM I T ∧ qP I T r ∧ qR (T 407) r g
/-- what holds of the law's ships behind k acts -/
def qI (k : Nat) (T : pv_T) (L : List pv_Lot) : Prop := qb T L ∧ qin T L ∧ qacc T L ∧ T 404 ≤ 20 * (k - 6) ∧ T 410 ≤ 10000 + 2000 * k
def qW (k : Nat) (I : pv_IT) (X : pv_XS) : Prop := CA I X ∧ wx k X ∧ (∃ r g, qA I X.1.1 X.1.2 r g) ∧ qI k X.1.1 X.1.2
theorem qA_of {I I' : pv_IT} {T : pv_T} {L : List pv_Lot} {r g : Nat → Nat} (h : qA I T L r g) (hb : tb T) (hI : ∀ j, 365 ≤ j → j ≠ 370 → I' j = I j) : qA I' T L r g :=
  ⟨qD_of h.1 (hI 365 (by omega) (by omega)) (fun _ _ => rfl), qK_of h.2.1 (hI 366 (by omega) (by omega)) rfl hb.2.2.1 (fun _ _ => rfl), qL_of h.2.2.1 (hI 367 (by omega) (by omega)), qM_of h.2.2.2.1 (hI 368 (by omega) (by omega)) hb.2.2.2.2.2.2.2.1 (fun m hm => (hb.2.2.2.2.2.2.2.2 m hm).1) (fun _ _ => rfl), qP_of h.2.2.2.2.1 (hI 369 (by omega) (by omega)) hb.2.2.2.2.2.1.1 (fun p hp => (h.2.2.2.2.2.1 p hp).1) (fun _ _ => rfl), h.2.2.2.2.2⟩
theorem qW_of {k : Nat} {I I' : pv_IT} {X : pv_XS} (h : qW k I X) (hC : CA I' X) (hI : ∀ j, 365 ≤ j → j ≠ 370 → I' j = I j) : qW k I' X := by
  obtain ⟨h1, h2, ⟨r, g, h3⟩, h4⟩ := h
  exact ⟨hC, h2, ⟨r, g, qA_of h3 h2.1.1.1 hI⟩, h4⟩
theorem CA_far {I I' : pv_IT} {X : pv_XS} (h : CA I X) (hF : ∀ k, k < 365 → I' k = I k) : CA I' X :=
  ⟨CR_of h.1 fun k h1 h2 => hF k (by omega), HR_of h.2.1 fun k h1 h2 => hF k (by omega), TXc_of h.2.2 (congrFun (hF 355 (by omega)) 0) (hF 357 (by omega))⟩
theorem qI_mono {k : Nat} {T : pv_T} {L : List pv_Lot} (h : qI k T L) : qI (k + 1) T L :=
  ⟨h.1, h.2.1, h.2.2.1, by have := h.2.2.2.1; omega, by have := h.2.2.2.2; omega⟩
theorem qW_mono {k : Nat} {I : pv_IT} {X : pv_XS} (h : qW k I X) : qW (k + 1) I X :=
  ⟨h.1, wx_mono h.2.1 (by omega), h.2.2.1, qI_mono h.2.2.2⟩
/-- while all is told: the row of days holds the mornings -/
def qV (k : Nat) (I : pv_IT) (X : pv_XS) : Prop := qW k I X ∧ ∀ l, l < X.1.2.length → I 370 l = nI (pd_mornings X.1 l)
theorem qV_of {k : Nat} {I I' : pv_IT} {X : pv_XS} (h : qV k I X) (hC : CA I' X) (hI : ∀ j, 365 ≤ j → I' j = I j) : qV k I' X :=
  ⟨qW_of h.1 hC (fun j h1 _ => hI j h1), fun l hl => by rw [hI 370 (by omega)]; exact h.2 l hl⟩
set_option maxRecDepth 100000 in
set_option maxHeartbeats 4000000 in
theorem s_L_told_2 {Q : pv_Q} {E : pv_E} {off : Nat} {d bc bs : Nat} {J : pv_JT} {I : pv_IT} {T : pv_T} {L : List pv_Lot} {H : List pv_S} {B : List Nat} {n : Nat} (hD9 : 9 ≤ d) (hn : n ≤ 40) (hV : qV n I ((T, L), H, B)) (K : ∀ I1 : pv_IT, qV n I1 ((T, L), H, B) → pv_X (pv_ZD E Q) (pv_of E off) d bc bs mL_told 199 [(0, .ref 0), (1, .ref 365), (2, .ref 366), (3, .ref 367), (4, .ref 368), (5, .ref 370), (6, .long (lN (ps_age L))), (8, .int (nI 0))] [] pv_K0 pv_P0 (I1) (J)) : pv_X (pv_ZD E Q) (pv_of E off) d bc bs mL_told 66 [(0, .ref 0), (1, .ref 365), (2, .ref 366), (3, .ref 367), (4, .ref 368), (5, .ref 370), (6, .long (lN (ps_age L))), (8, .int (nI 0))] [] pv_K0 pv_P0 (I) (J) := by
  revert I
  intro I1 hV
  suffices key : ∀ i : Nat, i ≤ L.length → ∀ I1 : pv_IT, qV n I1 ((T, L), H, B) → pv_X (pv_ZD E Q) (pv_of E off) d bc bs mL_told 66 [(0, .ref 0), (1, .ref 365), (2, .ref 366), (3, .ref 367), (4, .ref 368), (5, .ref 370), (6, .long (lN (ps_age L))), (8, .int (nI i))] [] pv_K0 pv_P0 (I1) (J) from key 0 (Nat.zero_le _) I1 hV
  clear hV I1
  refine pv_up (L.length) ?_ ?_
  · intro I1 hV
    obtain ⟨hCA, hw, ⟨rr, gg, hQD, hQK, hQL, hQM, hQP, hQR⟩, ⟨q4, q11, q3, qm3, qp4⟩, hin, hacc, hq404, hq410⟩ := id hV.1
    replace hQD : qD I1 T L.length := hQD
    replace hQK : qK I1 T := hQK
    replace hQL : qL I1 L := hQL
    replace hQM : qM I1 T := hQM
    replace q4 : T 405 ≤ 4 := q4
    replace q11 : L.length ≤ 11 := q11
    replace q3 : T 408 ≤ 3 := q3
    replace qm3 : ∀ m, m < T 408 → T (314 + m) ≤ 3 := qm3
    replace hacc : qacc T L := hacc
    have hdy : dy (T, L) := hw.1.1
    have htb : tb T := hdy.1
    have hlb : lbs L := hdy.2.1
    have hlo : lo_ok L := hdy.2.2
    have hkk : ∀ l, l < L.length → (pl_g L l).1 < T 405 := hw.1.2.2.2.2.2.1
    have h31 : L.length ≤ 31 := hlb.1
    have hn8 : T 405 ≤ 8 := htb.2.2.1
    have h10 : T 408 ≤ 10 := htb.2.2.2.2.2.2.2.1
    refine px_iload dL_told_66 rfl ?_
    refine px_aload_n dL_told_68 rfl ?_
    refine px_iconst (v := nI 1) dL_told_69 (by decide) ?_
    refine px_iald (j := 1) dL_told_70 pv_a_d.1 rfl (by omega) pv_a_d.2.2 pv_a_d.2.1 ?_
    refine px_iv (y := nI (L.length)) (hQD.1) ?_
    refine px_icmp_geN (tgt := 196) dL_told_71 (by decide) (by omega) (by omega) (fun _ => ?_) (fun h0 => absurd h0 (by omega))
    refine px_iconst (v := nI 0) dL_told_196 (by decide) ?_
    refine px_istore dL_told_197 (by decide) ?_
    refine px_keep [0, 1, 2, 3, 4, 5, 6, 8] ?_
    exact K I1 hV
  · intro i hi K9 I1 hV
    obtain ⟨hCA, hw, ⟨rr, gg, hQD, hQK, hQL, hQM, hQP, hQR⟩, ⟨q4, q11, q3, qm3, qp4⟩, hin, hacc, hq404, hq410⟩ := id hV.1
    replace hQD : qD I1 T L.length := hQD
    replace hQK : qK I1 T := hQK
    replace hQL : qL I1 L := hQL
    replace hQM : qM I1 T := hQM
    replace q4 : T 405 ≤ 4 := q4
    replace q11 : L.length ≤ 11 := q11
    replace q3 : T 408 ≤ 3 := q3
    replace qm3 : ∀ m, m < T 408 → T (314 + m) ≤ 3 := qm3
    replace hacc : qacc T L := hacc
    have hdy : dy (T, L) := hw.1.1
    have htb : tb T := hdy.1
    have hlb : lbs L := hdy.2.1
    have hlo : lo_ok L := hdy.2.2
    have hkk : ∀ l, l < L.length → (pl_g L l).1 < T 405 := hw.1.2.2.2.2.2.1
    have h31 : L.length ≤ 31 := hlb.1
    have hn8 : T 405 ≤ 8 := htb.2.2.1
    have h10 : T 408 ≤ 10 := htb.2.2.2.2.2.2.2.1
    have hr := hQL i hi
    have hV0 := hV.2
    replace hV0 : ∀ l, l < L.length → I1 370 l = nI (pd_mornings (T, L) l) := hV0
    have hMl : ∀ l, l < L.length → I1 370 l = nI (pd_mornings (T, L) l) ∧ pd_mornings (T, L) l ≤ 2100 := fun l hl => ⟨hV0 l hl, pt_left_le htb (hlb.2 l hl)⟩
    have hx := hlb.2 i hi
    unfold lb at hx
    refine px_iload dL_told_66 rfl ?_
    refine px_aload_n dL_told_68 rfl ?_
    refine px_iconst (v := nI 1) dL_told_69 (by decide) ?_
    refine px_iald (j := 1) dL_told_70 pv_a_d.1 rfl (by omega) pv_a_d.2.2 pv_a_d.2.1 ?_
    refine px_iv (y := nI (L.length)) (hQD.1) ?_
    refine px_icmp_geN (tgt := 196) dL_told_71 (by decide) (by omega) (by omega) (fun h0 => absurd h0 (by omega)) (fun _ => ?_)
    refine px_iconst (v := nI 0) dL_told_74 (by decide) ?_
    refine px_istore dL_told_75 (by decide) ?_
    refine px_iconst (v := nI 0) dL_told_77 (by decide) ?_
    refine px_istore dL_told_78 (by decide) ?_
    have pk : pv_X (pv_ZD E Q) (pv_of E off) d bc bs mL_told 124 [(0, .ref 0), (1, .ref 365), (2, .ref 366), (3, .ref 367), (4, .ref 368), (5, .ref 370), (6, .long (lN (ps_age L))), (8, .int (nI i)), (9, .int (nI (pt_eatp T L i)))] [] pv_K0 pv_P0 (I1) (J) → ∀ j : Nat, j ≤ L.length → pv_X (pv_ZD E Q) (pv_of E off) d bc bs mL_told 80 [(0, .ref 0), (1, .ref 365), (2, .ref 366), (3, .ref 367), (4, .ref 368), (5, .ref 370), (6, .long (lN (ps_age L))), (8, .int (nI i)), (9, .int (nI (pn_sum (pt_place1 T L i) (j)))), (10, .int (nI (j)))] [] pv_K0 pv_P0 (I1) (J) := by
      intro KP
      refine pv_up (L.length) ?_ ?_
      · skip
        refine px_iload dL_told_80 rfl ?_
        refine px_aload_n dL_told_82 rfl ?_
        refine px_iconst (v := nI 1) dL_told_83 (by decide) ?_
        refine px_iald (j := 1) dL_told_84 pv_a_d.1 rfl (by omega) pv_a_d.2.2 pv_a_d.2.1 ?_
        refine px_iv (y := nI (L.length)) (hQD.1) ?_
        refine px_icmp_geN (tgt := 124) dL_told_85 (by decide) (by omega) (by omega) (fun _ => ?_) (fun h0 => absurd h0 (by omega))
        refine px_keep [0, 1, 2, 3, 4, 5, 6, 8, 9] ?_
        exact KP
      · intro j hj KJ
        have hrj := hQL j hj
        have hxj := hlb.2 j hj
        unfold lb at hxj
        have h9 := pn_sum_le (f := pt_place1 T L i) (c := 1) (n := j) (fun q _ => by unfold pt_place1; split <;> (try split) <;> omega)
        refine px_iload dL_told_80 rfl ?_
        refine px_aload_n dL_told_82 rfl ?_
        refine px_iconst (v := nI 1) dL_told_83 (by decide) ?_
        refine px_iald (j := 1) dL_told_84 pv_a_d.1 rfl (by omega) pv_a_d.2.2 pv_a_d.2.1 ?_
        refine px_iv (y := nI (L.length)) (hQD.1) ?_
        refine px_icmp_geN (tgt := 124) dL_told_85 (by decide) (by omega) (by omega) (fun h0 => absurd h0 (by omega)) (fun _ => ?_)
        refine px_aload_n dL_told_88 rfl ?_
        refine px_iconst (v := nI 4) dL_told_89 (by decide) ?_
        refine px_iload dL_told_90 rfl ?_
        refine px_imulN dL_told_92 ?_
        refine px_iald (j := (4 * j)) dL_told_93 pv_a_lo.1 rfl (by omega) pv_a_lo.2.2 pv_a_lo.2.1 ?_
        refine px_iv (y := nI ((pl_g L j).1)) (hrj.1) ?_
        refine px_aload_n dL_told_94 rfl ?_
        refine px_iconst (v := nI 4) dL_told_95 (by decide) ?_
        refine px_iload dL_told_96 rfl ?_
        refine px_imulN dL_told_98 ?_
        refine px_iald (j := (4 * i)) dL_told_99 pv_a_lo.1 rfl (by omega) pv_a_lo.2.2 pv_a_lo.2.1 ?_
        refine px_iv (y := nI ((pl_g L i).1)) (hr.1) ?_
        refine px_icmp_neN (tgt := 118) dL_told_100 (by decide) (by omega) (by omega) (fun h0 => ?_) (fun h0 => ?_)
        · refine px_iincN (c := 1) (by decide) dL_told_118 rfl (by decide) ?_
          refine px_goto (tgt := 80) dL_told_121 (by decide) ?_
          refine px_keep [0, 1, 2, 3, 4, 5, 6, 8, 9, 10] ?_
          have e : pn_sum (pt_place1 T L i) (j + 1) = pn_sum (pt_place1 T L i) j + 0 := by show pn_sum (pt_place1 T L i) j + pt_place1 T L i j = _; rw [show pt_place1 T L i j = 0 by unfold pt_place1; rw [if_neg h0]]
          rw [e, Nat.add_zero] at KJ
          exact KJ
        · refine px_iload dL_told_103 rfl ?_
          refine px_iload dL_told_105 rfl ?_
          refine px_aload dL_told_107 rfl ?_
          refine c_L_ahead dL_told_109 mlL_14 (by omega) hMl (by omega) hj hi (Nat.le_of_ble_eq_true rfl) ?_
          refine px_if_eqB (tgt := 118) dL_told_112 (by decide) (fun h5 => ?_) (fun h5 => ?_)
          · refine px_iincN (c := 1) (by decide) dL_told_118 rfl (by decide) ?_
            refine px_goto (tgt := 80) dL_told_121 (by decide) ?_
            refine px_keep [0, 1, 2, 3, 4, 5, 6, 8, 9, 10] ?_
            have e : pn_sum (pt_place1 T L i) (j + 1) = pn_sum (pt_place1 T L i) j + 0 := by show pn_sum (pt_place1 T L i) j + pt_place1 T L i j = _; rw [show pt_place1 T L i j = 0 by unfold pt_place1; rw [if_pos h0]; exact if_neg h5]
            rw [e, Nat.add_zero] at KJ
            exact KJ
          · refine px_iincN (c := 1) (by decide) dL_told_115 rfl (by decide) ?_
            refine px_iincN (c := 1) (by decide) dL_told_118 rfl (by decide) ?_
            refine px_goto (tgt := 80) dL_told_121 (by decide) ?_
            refine px_keep [0, 1, 2, 3, 4, 5, 6, 8, 9, 10] ?_
            have e : pn_sum (pt_place1 T L i) (j + 1) = pn_sum (pt_place1 T L i) j + 1 := by show pn_sum (pt_place1 T L i) j + pt_place1 T L i j = _; rw [show pt_place1 T L i j = 1 by unfold pt_place1; rw [if_pos h0]; exact if_pos h5]
            rw [e] at KJ
            exact KJ
    refine pk ?_ 0 (by omega)
    refine px_iconst (v := nI 0) dL_told_124 (by decide) ?_
    refine px_istore dL_told_125 (by decide) ?_
    suffices fk : ∀ q : Nat, q ≤ 4 → ∀ I1 : pv_IT, qV n I1 ((T, L), H, B) → pv_X (pv_ZD E Q) (pv_of E off) d bc bs mL_told 127 [(0, .ref 0), (1, .ref 365), (2, .ref 366), (3, .ref 367), (4, .ref 368), (5, .ref 370), (6, .long (lN (ps_age L))), (8, .int (nI i)), (9, .int (nI (pt_eatp T L i))), (10, .int (nI (q)))] [] pv_K0 pv_P0 (I1) (J) from fk 0 (Nat.zero_le _) I1 hV
    clear pk hV0 hMl hr hQD hQK hQL hQM hQP hCA hV I1
    refine pv_up (4) ?_ ?_
    · intro I1 hV
      obtain ⟨hCA, hw, ⟨rr, gg, hQD, hQK, hQL, hQM, hQP, hQR⟩, ⟨q4, q11, q3, qm3, qp4⟩, hin, hacc, hq404, hq410⟩ := id hV.1
      replace hQD : qD I1 T L.length := hQD
      replace hQK : qK I1 T := hQK
      replace hQL : qL I1 L := hQL
      replace hQM : qM I1 T := hQM
      replace q4 : T 405 ≤ 4 := q4
      replace q11 : L.length ≤ 11 := q11
      replace q3 : T 408 ≤ 3 := q3
      replace qm3 : ∀ m, m < T 408 → T (314 + m) ≤ 3 := qm3
      replace hacc : qacc T L := hacc
      have hdy : dy (T, L) := hw.1.1
      have htb : tb T := hdy.1
      have hlb : lbs L := hdy.2.1
      have hlo : lo_ok L := hdy.2.2
      have hkk : ∀ l, l < L.length → (pl_g L l).1 < T 405 := hw.1.2.2.2.2.2.1
      have h31 : L.length ≤ 31 := hlb.1
      have hn8 : T 405 ≤ 8 := htb.2.2.1
      have h10 : T 408 ≤ 10 := htb.2.2.2.2.2.2.2.1
      have hr := hQL i hi
      have hV0 : ∀ l, l < L.length → I1 370 l = nI (pd_mornings (T, L) l) := hV.2
      have hpe : pt_eatp T L i ≤ L.length * 1 := pn_sum_le (fun q _ => by unfold pt_place1; split <;> (try split) <;> omega)
      refine px_iload dL_told_127 rfl ?_
      refine px_iconst (v := nI 4) dL_told_129 (by decide) ?_
      refine px_icmp_geN (tgt := 161) dL_told_130 (by decide) (by omega) (by omega) (fun _ => ?_) (fun h0 => absurd h0 (by omega))
      refine px_aload_n dL_told_161 rfl ?_
      refine px_iload dL_told_162 rfl ?_
      refine px_iconst (v := nI 4) dL_told_164 (by decide) ?_
      refine c_Z9_lot dL_told_165 mlL_106 (by omega) hCA hw (by omega) (by rw [dz_lot (X := ((T, L), H, B)) (l := i) (i := 4) hi h31 (by omega)]) (Nat.le_of_ble_eq_true rfl) (dz_ok (dz_lot (X := ((T, L), H, B)) (l := i) (i := 4) hi h31 (by omega)) fun I2 hCA2 hF2 => ?_)
      have hV2 := qV_of hV hCA2 hF2
      refine px_aload dL_told_168 rfl ?_
      refine px_iload dL_told_170 rfl ?_
      refine px_iald (j := i) dL_told_172 pv_a_days.1 rfl (by omega) pv_a_days.2.2 pv_a_days.2.1 ?_
      refine px_iv (y := nI (pd_mornings (T, L) i)) ((congrFun (hF2 370 (by omega)) _).trans (hV0 i hi)) ?_
      refine px_icmp_ne (tgt := 188) dL_told_173 (by decide) (fun h9 => absurd rfl h9) (fun _ => ?_)
      refine px_aload_n dL_told_176 rfl ?_
      refine px_iload dL_told_177 rfl ?_
      refine px_iconst (v := nI 5) dL_told_179 (by decide) ?_
      refine c_Z9_lot dL_told_180 mlL_106 (by omega) hCA2 hw (by omega) (by rw [dz_lot (X := ((T, L), H, B)) (l := i) (i := 5) hi h31 (by omega)]) (Nat.le_of_ble_eq_true rfl) (dz_ok (dz_lot (X := ((T, L), H, B)) (l := i) (i := 5) hi h31 (by omega)) fun I3 hCA3 hF3 => ?_)
      have hV3 := qV_of hV2 hCA3 hF3
      refine px_iload dL_told_183 rfl ?_
      refine px_icmp_eq (tgt := 190) dL_told_185 (by decide) (fun _ => ?_) (fun h9 => absurd rfl h9)
      refine px_iincN (c := 1) (by decide) dL_told_190 rfl (by decide) ?_
      refine px_goto (tgt := 66) dL_told_193 (by decide) ?_
      refine px_keep [0, 1, 2, 3, 4, 5, 6, 8] ?_
      exact K9 I3 hV3
    · intro q hq KQ I1 hV
      obtain ⟨hCA, hw, ⟨rr, gg, hQD, hQK, hQL, hQM, hQP, hQR⟩, ⟨q4, q11, q3, qm3, qp4⟩, hin, hacc, hq404, hq410⟩ := id hV.1
      replace hQD : qD I1 T L.length := hQD
      replace hQK : qK I1 T := hQK
      replace hQL : qL I1 L := hQL
      replace hQM : qM I1 T := hQM
      replace q4 : T 405 ≤ 4 := q4
      replace q11 : L.length ≤ 11 := q11
      replace q3 : T 408 ≤ 3 := q3
      replace qm3 : ∀ m, m < T 408 → T (314 + m) ≤ 3 := qm3
      replace hacc : qacc T L := hacc
      have hdy : dy (T, L) := hw.1.1
      have htb : tb T := hdy.1
      have hlb : lbs L := hdy.2.1
      have hlo : lo_ok L := hdy.2.2
      have hkk : ∀ l, l < L.length → (pl_g L l).1 < T 405 := hw.1.2.2.2.2.2.1
      have h31 : L.length ≤ 31 := hlb.1
      have hn8 : T 405 ≤ 8 := htb.2.2.1
      have h10 : T 408 ≤ 10 := htb.2.2.2.2.2.2.2.1
      have hr := hQL i hi
      refine px_iload dL_told_127 rfl ?_
      refine px_iconst (v := nI 4) dL_told_129 (by decide) ?_
      refine px_icmp_geN (tgt := 161) dL_told_130 (by decide) (by omega) (by omega) (fun h0 => absurd h0 (by omega)) (fun _ => ?_)
      refine px_aload_n dL_told_133 rfl ?_
      refine px_iload dL_told_134 rfl ?_
      refine px_iload dL_told_136 rfl ?_
      refine c_Z9_lot dL_told_138 mlL_106 (by omega) hCA hw (by omega) (by rw [dz_lot (X := ((T, L), H, B)) (l := i) (i := q) hi h31 (by omega)]) (Nat.le_of_ble_eq_true rfl) (dz_ok (dz_lot (X := ((T, L), H, B)) (l := i) (i := q) hi h31 (by omega)) fun I2 hCA2 hF2 => ?_)
      have hV2 := qV_of hV hCA2 hF2
      refine px_aload_n dL_told_141 rfl ?_
      refine px_iconst (v := nI 4) dL_told_142 (by decide) ?_
      refine px_iload dL_told_143 rfl ?_
      refine px_imulN dL_told_145 ?_
      refine px_iload dL_told_146 rfl ?_
      refine px_iaddN dL_told_148 ?_
      have e : I2 367 (4 * i + q) = nI (pt_lot (T, L) i q) := by
        rw [hF2 367 (by omega)]
        unfold pt_lot
        match q, hq with
        | 0, _ => exact hr.1
        | 1, _ => exact hr.2.1
        | 2, _ => exact hr.2.2.1
        | 3, _ => exact hr.2.2.2
        | q + 4, h9 => exact absurd h9 (by omega)
      refine px_iald (j := ((4 * i) + q)) dL_told_149 pv_a_lo.1 rfl (by omega) pv_a_lo.2.2 pv_a_lo.2.1 ?_
      refine px_iv (y := nI (pt_lot (T, L) i q)) (e) ?_
      refine px_icmp_eq (tgt := 155) dL_told_150 (by decide) (fun _ => ?_) (fun h9 => absurd rfl h9)
      refine px_iincN (c := 1) (by decide) dL_told_155 rfl (by decide) ?_
      refine px_goto (tgt := 127) dL_told_158 (by decide) ?_
      refine px_keep [0, 1, 2, 3, 4, 5, 6, 8, 9, 10] ?_
      exact KQ I2 hV2
set_option maxRecDepth 100000 in
set_option maxHeartbeats 4000000 in
theorem s_L_told_3 {Q : pv_Q} {E : pv_E} {off : Nat} {d bc bs : Nat} {J : pv_JT} {I : pv_IT} {T : pv_T} {L : List pv_Lot} {H : List pv_S} {B : List Nat} {n : Nat} (hD9 : 9 ≤ d) (hn : n ≤ 40) (hV : qV n I ((T, L), H, B)) (K : ∀ I1 : pv_IT, qV n I1 ((T, L), H, B) → pv_X (pv_ZD E Q) (pv_of E off) d bc bs mL_told 316 [(0, .ref 0), (1, .ref 365), (2, .ref 366), (3, .ref 367), (4, .ref 368), (5, .ref 370), (6, .long (lN (ps_age L))), (8, .int (nI 0))] [] pv_K0 pv_P0 (I1) (J)) : pv_X (pv_ZD E Q) (pv_of E off) d bc bs mL_told 199 [(0, .ref 0), (1, .ref 365), (2, .ref 366), (3, .ref 367), (4, .ref 368), (5, .ref 370), (6, .long (lN (ps_age L))), (8, .int (nI 0))] [] pv_K0 pv_P0 (I) (J) := by
  revert I
  intro I1 hV
  suffices key : ∀ i : Nat, i ≤ 3 → ∀ I1 : pv_IT, qV n I1 ((T, L), H, B) → pv_X (pv_ZD E Q) (pv_of E off) d bc bs mL_told 199 [(0, .ref 0), (1, .ref 365), (2, .ref 366), (3, .ref 367), (4, .ref 368), (5, .ref 370), (6, .long (lN (ps_age L))), (8, .int (nI (i)))] [] pv_K0 pv_P0 (I1) (J) from key 0 (Nat.zero_le _) I1 hV
  clear hV I1
  refine pv_up (3) ?_ ?_
  · intro I1 hV
    refine px_iload dL_told_199 rfl ?_
    refine px_iconst (v := nI 3) dL_told_201 (by decide) ?_
    refine px_icmp_geN (tgt := 313) dL_told_202 (by decide) (by omega) (by omega) (fun _ => ?_) (fun h0 => absurd h0 (by omega))
    refine px_iconst (v := nI 0) dL_told_313 (by decide) ?_
    refine px_istore dL_told_314 (by decide) ?_
    refine px_keep [0, 1, 2, 3, 4, 5, 6, 8] ?_
    exact K I1 hV
  · intro i hi K9 I1 hV
    obtain ⟨hCA, hw, ⟨rr, gg, hQD, hQK, hQL, hQM, hQP, hQR⟩, ⟨q4, q11, q3, qm3, qp4⟩, hin, hacc, hq404, hq410⟩ := id hV.1
    replace hQD : qD I1 T L.length := hQD
    replace hQK : qK I1 T := hQK
    replace hQL : qL I1 L := hQL
    replace hQM : qM I1 T := hQM
    replace q4 : T 405 ≤ 4 := q4
    replace q11 : L.length ≤ 11 := q11
    replace q3 : T 408 ≤ 3 := q3
    replace qm3 : ∀ m, m < T 408 → T (314 + m) ≤ 3 := qm3
    replace hacc : qacc T L := hacc
    have hdy : dy (T, L) := hw.1.1
    have htb : tb T := hdy.1
    have hlb : lbs L := hdy.2.1
    have hlo : lo_ok L := hdy.2.2
    have hkk : ∀ l, l < L.length → (pl_g L l).1 < T 405 := hw.1.2.2.2.2.2.1
    have h31 : L.length ≤ 31 := hlb.1
    have hn8 : T 405 ≤ 8 := htb.2.2.1
    have h10 : T 408 ≤ 10 := htb.2.2.2.2.2.2.2.1
    refine px_iload dL_told_199 rfl ?_
    refine px_iconst (v := nI 3) dL_told_201 (by decide) ?_
    refine px_icmp_geN (tgt := 313) dL_told_202 (by decide) (by omega) (by omega) (fun h0 => absurd h0 (by omega)) (fun _ => ?_)
    refine px_iconst (v := nI 0) dL_told_205 (by decide) ?_
    refine px_istore dL_told_206 (by decide) ?_
    refine px_iconst (v := nI 0) dL_told_208 (by decide) ?_
    refine px_istore dL_told_209 (by decide) ?_
    have pk : pv_X (pv_ZD E Q) (pv_of E off) d bc bs mL_told 241 [(0, .ref 0), (1, .ref 365), (2, .ref 366), (3, .ref 367), (4, .ref 368), (5, .ref 370), (6, .long (lN (ps_age L))), (8, .int (nI i)), (9, .int (nI (ps_nin L i)))] [] pv_K0 pv_P0 (I1) (J) → ∀ j : Nat, j ≤ L.length → pv_X (pv_ZD E Q) (pv_of E off) d bc bs mL_told 211 [(0, .ref 0), (1, .ref 365), (2, .ref 366), (3, .ref 367), (4, .ref 368), (5, .ref 370), (6, .long (lN (ps_age L))), (8, .int (nI i)), (9, .int (nI (pn_sum (fun l => if (pl_g L l).2.1 = i then 1 else 0) (j)))), (10, .int (nI (j)))] [] pv_K0 pv_P0 (I1) (J) := by
      intro KP
      refine pv_up (L.length) ?_ ?_
      · skip
        refine px_iload dL_told_211 rfl ?_
        refine px_aload_n dL_told_213 rfl ?_
        refine px_iconst (v := nI 1) dL_told_214 (by decide) ?_
        refine px_iald (j := 1) dL_told_215 pv_a_d.1 rfl (by omega) pv_a_d.2.2 pv_a_d.2.1 ?_
        refine px_iv (y := nI (L.length)) (hQD.1) ?_
        refine px_icmp_geN (tgt := 241) dL_told_216 (by decide) (by omega) (by omega) (fun _ => ?_) (fun h0 => absurd h0 (by omega))
        refine px_keep [0, 1, 2, 3, 4, 5, 6, 8, 9] ?_
        exact KP
      · intro j hj KJ
        have hrj := hQL j hj
        have hxj := hlb.2 j hj
        unfold lb at hxj
        refine px_iload dL_told_211 rfl ?_
        refine px_aload_n dL_told_213 rfl ?_
        refine px_iconst (v := nI 1) dL_told_214 (by decide) ?_
        refine px_iald (j := 1) dL_told_215 pv_a_d.1 rfl (by omega) pv_a_d.2.2 pv_a_d.2.1 ?_
        refine px_iv (y := nI (L.length)) (hQD.1) ?_
        refine px_icmp_geN (tgt := 241) dL_told_216 (by decide) (by omega) (by omega) (fun h0 => absurd h0 (by omega)) (fun _ => ?_)
        refine px_aload_n dL_told_219 rfl ?_
        refine px_iconst (v := nI 4) dL_told_220 (by decide) ?_
        refine px_iload dL_told_221 rfl ?_
        refine px_imulN dL_told_223 ?_
        refine px_iconst (v := nI 1) dL_told_224 (by decide) ?_
        refine px_iaddN dL_told_225 ?_
        refine px_iald (j := ((4 * j) + 1)) dL_told_226 pv_a_lo.1 rfl (by omega) pv_a_lo.2.2 pv_a_lo.2.1 ?_
        refine px_iv (y := nI ((pl_g L j).2.1)) (hrj.2.1) ?_
        refine px_iload dL_told_227 rfl ?_
        refine px_icmp_neN (tgt := 235) dL_told_229 (by decide) (by omega) (by omega) (fun h0 => ?_) (fun h0 => ?_)
        · refine px_iincN (c := 1) (by decide) dL_told_235 rfl (by decide) ?_
          refine px_goto (tgt := 211) dL_told_238 (by decide) ?_
          refine px_keep [0, 1, 2, 3, 4, 5, 6, 8, 9, 10] ?_
          unfold pn_sum at KJ
          rw [if_neg h0] at KJ
          exact KJ
        · refine px_iincN (c := 1) (by decide) dL_told_232 rfl (by decide) ?_
          refine px_iincN (c := 1) (by decide) dL_told_235 rfl (by decide) ?_
          refine px_goto (tgt := 211) dL_told_238 (by decide) ?_
          refine px_keep [0, 1, 2, 3, 4, 5, 6, 8, 9, 10] ?_
          unfold pn_sum at KJ
          rw [if_pos h0] at KJ
          exact KJ
    refine pk ?_ 0 (by omega)
    refine px_aload_n dL_told_241 rfl ?_
    refine px_iload dL_told_242 rfl ?_
    refine px_iconst (v := nI 0) dL_told_244 (by decide) ?_
    refine c_Z9_store dL_told_245 mlL_109 (by omega) hCA hw (by omega) (by rw [dz_store (X := ((T, L), H, B)) (l := i) (i := 0) hi (by omega)]) (Nat.le_of_ble_eq_true rfl) (dz_ok (dz_store (X := ((T, L), H, B)) (l := i) (i := 0) hi (by omega)) fun I2 hCA2 hF2 => ?_)
    refine px_aload_n dL_told_248 rfl ?_
    refine px_bipush (v := nI 8) dL_told_249 (by decide) ?_
    refine px_iload dL_told_251 rfl ?_
    refine px_iaddN dL_told_253 ?_
    refine px_iald (j := (8 + i)) dL_told_254 pv_a_d.1 rfl (by omega) pv_a_d.2.2 pv_a_d.2.1 ?_
    refine px_iv (y := nI (T (64 + i))) ((congrFun (hF2 365 (by omega)) _).trans (qD_8 hQD hi)) ?_
    refine px_icmp_ne (tgt := 305) dL_told_255 (by decide) (fun h9 => absurd rfl h9) (fun _ => ?_)
    refine px_aload_n dL_told_258 rfl ?_
    refine px_iload dL_told_259 rfl ?_
    refine px_iconst (v := nI 1) dL_told_261 (by decide) ?_
    refine c_Z9_store dL_told_262 mlL_109 (by omega) hCA2 hw (by omega) (by rw [dz_store (X := ((T, L), H, B)) (l := i) (i := 1) hi (by omega)]) (Nat.le_of_ble_eq_true rfl) (dz_ok (dz_store (X := ((T, L), H, B)) (l := i) (i := 1) hi (by omega)) fun I3 hCA3 hF3 => ?_)
    have hF23 : ∀ j, 365 ≤ j → I3 j = I1 j := fun j hj => (hF3 j hj).trans (hF2 j hj)
    refine px_iconst (v := nI 1) dL_told_265 (by decide) ?_
    refine px_iload dL_told_266 rfl ?_
    refine px_aload_n dL_told_268 rfl ?_
    refine px_aload_n dL_told_269 rfl ?_
    refine c_L_held_in dL_told_270 mlL_53 (by omega) (qD_of hQD (hF23 365 (by omega)) (fun _ _ => rfl)) (qL_of hQL (hF23 367 (by omega))) (by omega) hlb (by omega) (Nat.le_of_ble_eq_true rfl) ?_
    refine px_icmp_ne (tgt := 305) dL_told_273 (by decide) (fun h9 => absurd rfl h9) (fun _ => ?_)
    refine px_aload_n dL_told_276 rfl ?_
    refine px_iload dL_told_277 rfl ?_
    refine px_iconst (v := nI 2) dL_told_279 (by decide) ?_
    refine c_Z9_store dL_told_280 mlL_109 (by omega) hCA3 hw (by omega) (by rw [dz_store (X := ((T, L), H, B)) (l := i) (i := 2) hi (by omega)]) (Nat.le_of_ble_eq_true rfl) (dz_ok (dz_store (X := ((T, L), H, B)) (l := i) (i := 2) hi (by omega)) fun I4 hCA4 hF4 => ?_)
    refine px_iload dL_told_283 rfl ?_
    refine px_icmp_ne (tgt := 305) dL_told_285 (by decide) (fun h9 => absurd rfl h9) (fun _ => ?_)
    refine px_aload_n dL_told_288 rfl ?_
    refine px_iload dL_told_289 rfl ?_
    refine px_iconst (v := nI 3) dL_told_291 (by decide) ?_
    refine c_Z9_store dL_told_292 mlL_109 (by omega) hCA4 hw (by omega) (by rw [dz_store (X := ((T, L), H, B)) (l := i) (i := 3) hi (by omega)]) (Nat.le_of_ble_eq_true rfl) (dz_ok (dz_store (X := ((T, L), H, B)) (l := i) (i := 3) hi (by omega)) fun I5 hCA5 hF5 => ?_)
    have hF45 : ∀ j, 365 ≤ j → I5 j = I1 j := fun j hj => (hF5 j hj).trans ((hF4 j hj).trans (hF23 j hj))
    refine px_aload_n dL_told_295 rfl ?_
    refine px_bipush (v := nI 11) dL_told_296 (by decide) ?_
    refine px_iload dL_told_298 rfl ?_
    refine px_iaddN dL_told_300 ?_
    refine px_iald (j := (11 + i)) dL_told_301 pv_a_d.1 rfl (by omega) pv_a_d.2.2 pv_a_d.2.1 ?_
    refine px_iv (y := nI (T (67 + i))) ((congrFun (hF45 365 (by omega)) _).trans (qD_11 hQD hi)) ?_
    refine px_icmp_eq (tgt := 307) dL_told_302 (by decide) (fun _ => ?_) (fun h9 => absurd rfl h9)
    refine px_iincN (c := 1) (by decide) dL_told_307 rfl (by decide) ?_
    refine px_goto (tgt := 199) dL_told_310 (by decide) ?_
    refine px_keep [0, 1, 2, 3, 4, 5, 6, 8] ?_
    exact K9 I5 (qV_of hV hCA5 hF45)
set_option maxRecDepth 100000 in
set_option maxHeartbeats 4000000 in
theorem s_L_told_4 {Q : pv_Q} {E : pv_E} {off : Nat} {d bc bs : Nat} {J : pv_JT} {I : pv_IT} {T : pv_T} {L : List pv_Lot} {H : List pv_S} {B : List Nat} {n : Nat} (hD9 : 9 ≤ d) (hn : n ≤ 40) (hV : qV n I ((T, L), H, B)) (K : ∀ I1 : pv_IT, qV n I1 ((T, L), H, B) → pv_X (pv_ZD E Q) (pv_of E off) d bc bs mL_told 452 [(0, .ref 0), (1, .ref 365), (2, .ref 366), (3, .ref 367), (4, .ref 368), (5, .ref 370), (6, .long (lN (ps_age L))), (8, .int (nI 0))] [] pv_K0 pv_P0 (I1) (J)) : pv_X (pv_ZD E Q) (pv_of E off) d bc bs mL_told 316 [(0, .ref 0), (1, .ref 365), (2, .ref 366), (3, .ref 367), (4, .ref 368), (5, .ref 370), (6, .long (lN (ps_age L))), (8, .int (nI 0))] [] pv_K0 pv_P0 (I) (J) := by
  revert I
  intro I1 hV
  suffices key : ∀ i : Nat, i ≤ T 405 → ∀ I1 : pv_IT, qV n I1 ((T, L), H, B) → pv_X (pv_ZD E Q) (pv_of E off) d bc bs mL_told 316 [(0, .ref 0), (1, .ref 365), (2, .ref 366), (3, .ref 367), (4, .ref 368), (5, .ref 370), (6, .long (lN (ps_age L))), (8, .int (nI (i)))] [] pv_K0 pv_P0 (I1) (J) from key 0 (Nat.zero_le _) I1 hV
  clear hV I1
  refine pv_up (T 405) ?_ ?_
  · intro I1 hV
    obtain ⟨hCA, hw, ⟨rr, gg, hQD, hQK, hQL, hQM, hQP, hQR⟩, ⟨q4, q11, q3, qm3, qp4⟩, hin, hacc, hq404, hq410⟩ := id hV.1
    replace hQD : qD I1 T L.length := hQD
    replace hQK : qK I1 T := hQK
    replace hQL : qL I1 L := hQL
    replace hQM : qM I1 T := hQM
    replace q4 : T 405 ≤ 4 := q4
    replace q11 : L.length ≤ 11 := q11
    replace q3 : T 408 ≤ 3 := q3
    replace qm3 : ∀ m, m < T 408 → T (314 + m) ≤ 3 := qm3
    replace hacc : qacc T L := hacc
    have hdy : dy (T, L) := hw.1.1
    have htb : tb T := hdy.1
    have hlb : lbs L := hdy.2.1
    have hlo : lo_ok L := hdy.2.2
    have hkk : ∀ l, l < L.length → (pl_g L l).1 < T 405 := hw.1.2.2.2.2.2.1
    have h31 : L.length ≤ 31 := hlb.1
    have hn8 : T 405 ≤ 8 := htb.2.2.1
    have h10 : T 408 ≤ 10 := htb.2.2.2.2.2.2.2.1
    refine px_iload dL_told_316 rfl ?_
    refine px_aload_n dL_told_318 rfl ?_
    refine px_iconst (v := nI 0) dL_told_319 (by decide) ?_
    refine px_iald (j := 0) dL_told_320 pv_a_d.1 rfl (by omega) pv_a_d.2.2 pv_a_d.2.1 ?_
    refine px_iv (y := nI (T 405)) (qD_0 hQD) ?_
    refine px_icmp_geN (tgt := 449) dL_told_321 (by decide) (by omega) (by omega) (fun _ => ?_) (fun h0 => absurd h0 (by omega))
    refine px_iconst (v := nI 0) dL_told_449 (by decide) ?_
    refine px_istore dL_told_450 (by decide) ?_
    refine px_keep [0, 1, 2, 3, 4, 5, 6, 8] ?_
    exact K I1 hV
  · intro i hi K9 I1 hV
    obtain ⟨hCA, hw, ⟨rr, gg, hQD, hQK, hQL, hQM, hQP, hQR⟩, ⟨q4, q11, q3, qm3, qp4⟩, hin, hacc, hq404, hq410⟩ := id hV.1
    replace hQD : qD I1 T L.length := hQD
    replace hQK : qK I1 T := hQK
    replace hQL : qL I1 L := hQL
    replace hQM : qM I1 T := hQM
    replace q4 : T 405 ≤ 4 := q4
    replace q11 : L.length ≤ 11 := q11
    replace q3 : T 408 ≤ 3 := q3
    replace qm3 : ∀ m, m < T 408 → T (314 + m) ≤ 3 := qm3
    replace hacc : qacc T L := hacc
    have hdy : dy (T, L) := hw.1.1
    have htb : tb T := hdy.1
    have hlb : lbs L := hdy.2.1
    have hlo : lo_ok L := hdy.2.2
    have hkk : ∀ l, l < L.length → (pl_g L l).1 < T 405 := hw.1.2.2.2.2.2.1
    have h31 : L.length ≤ 31 := hlb.1
    have hn8 : T 405 ≤ 8 := htb.2.2.1
    have h10 : T 408 ≤ 10 := htb.2.2.2.2.2.2.2.1
    refine px_iload dL_told_316 rfl ?_
    refine px_aload_n dL_told_318 rfl ?_
    refine px_iconst (v := nI 0) dL_told_319 (by decide) ?_
    refine px_iald (j := 0) dL_told_320 pv_a_d.1 rfl (by omega) pv_a_d.2.2 pv_a_d.2.1 ?_
    refine px_iv (y := nI (T 405)) (qD_0 hQD) ?_
    refine px_icmp_geN (tgt := 449) dL_told_321 (by decide) (by omega) (by omega) (fun h0 => absurd h0 (by omega)) (fun _ => ?_)
    refine px_bipush (v := nI 8) dL_told_324 (by decide) ?_
    refine px_iload dL_told_326 rfl ?_
    refine px_imulN dL_told_328 ?_
    refine px_istore dL_told_329 (by decide) ?_
    refine px_iconst (v := nI 0) dL_told_331 (by decide) ?_
    refine px_iload dL_told_332 rfl ?_
    refine px_aload_n dL_told_334 rfl ?_
    refine px_aload_n dL_told_335 rfl ?_
    refine c_L_held_of dL_told_336 mlL_53 (by omega) hQD hQL (by omega) hlb (by omega) (Nat.le_of_ble_eq_true rfl) ?_
    refine px_istore dL_told_339 (by decide) ?_
    refine px_iconst (v := nI 0) dL_told_341 (by decide) ?_
    refine px_istore dL_told_342 (by decide) ?_
    suffices fk : ∀ q : Nat, q ≤ 7 → ∀ I1 : pv_IT, qV n I1 ((T, L), H, B) → pv_X (pv_ZD E Q) (pv_of E off) d bc bs mL_told 344 [(0, .ref 0), (1, .ref 365), (2, .ref 366), (3, .ref 367), (4, .ref 368), (5, .ref 370), (6, .long (lN (ps_age L))), (8, .int (nI i)), (9, .int (nI (8 * i))), (10, .int (nI (ps_of L i))), (11, .int (nI (q)))] [] pv_K0 pv_P0 (I1) (J) from fk 0 (Nat.zero_le _) I1 hV
    clear hQD hQK hQL hQM hQP hCA hV I1
    refine pv_up (7) ?_ ?_
    · intro I1 hV
      obtain ⟨hCA, hw, ⟨rr, gg, hQD, hQK, hQL, hQM, hQP, hQR⟩, ⟨q4, q11, q3, qm3, qp4⟩, hin, hacc, hq404, hq410⟩ := id hV.1
      replace hQD : qD I1 T L.length := hQD
      replace hQK : qK I1 T := hQK
      replace hQL : qL I1 L := hQL
      replace hQM : qM I1 T := hQM
      replace q4 : T 405 ≤ 4 := q4
      replace q11 : L.length ≤ 11 := q11
      replace q3 : T 408 ≤ 3 := q3
      replace qm3 : ∀ m, m < T 408 → T (314 + m) ≤ 3 := qm3
      replace hacc : qacc T L := hacc
      have hdy : dy (T, L) := hw.1.1
      have htb : tb T := hdy.1
      have hlb : lbs L := hdy.2.1
      have hlo : lo_ok L := hdy.2.2
      have hkk : ∀ l, l < L.length → (pl_g L l).1 < T 405 := hw.1.2.2.2.2.2.1
      have h31 : L.length ≤ 31 := hlb.1
      have hn8 : T 405 ≤ 8 := htb.2.2.1
      have h10 : T 408 ≤ 10 := htb.2.2.2.2.2.2.2.1
      refine px_iload dL_told_344 rfl ?_
      refine px_bipush (v := nI 7) dL_told_346 (by decide) ?_
      refine px_icmp_geN (tgt := 377) dL_told_348 (by decide) (by omega) (by omega) (fun _ => ?_) (fun h0 => absurd h0 (by omega))
      refine px_aload_n dL_told_377 rfl ?_
      refine px_iload dL_told_378 rfl ?_
      refine px_bipush (v := nI 7) dL_told_380 (by decide) ?_
      refine c_Z9_kind dL_told_382 mlL_112 (by omega) hCA hw (by omega) (by rw [dz_kind (X := ((T, L), H, B)) (l := i) (i := 7) hi hn8 (by omega)]) (Nat.le_of_ble_eq_true rfl) (dz_ok (dz_kind (X := ((T, L), H, B)) (l := i) (i := 7) hi hn8 (by omega)) fun I2 hCA2 hF2 => ?_)
      refine px_iload dL_told_385 rfl ?_
      refine px_icmp_ne (tgt := 441) dL_told_387 (by decide) (fun h9 => absurd rfl h9) (fun _ => ?_)
      refine px_aload_n dL_told_390 rfl ?_
      refine px_iload dL_told_391 rfl ?_
      refine px_bipush (v := nI 8) dL_told_393 (by decide) ?_
      refine c_Z9_kind dL_told_395 mlL_112 (by omega) hCA2 hw (by omega) (by rw [dz_kind (X := ((T, L), H, B)) (l := i) (i := 8) hi hn8 (by omega)]) (Nat.le_of_ble_eq_true rfl) (dz_ok (dz_kind (X := ((T, L), H, B)) (l := i) (i := 8) hi hn8 (by omega)) fun I3 hCA3 hF3 => ?_)
      have hF23 : ∀ j, 365 ≤ j → I3 j = I1 j := fun j hj => (hF3 j hj).trans (hF2 j hj)
      refine px_aload_n dL_told_398 rfl ?_
      refine px_iload dL_told_399 rfl ?_
      refine px_bipush (v := nI 7) dL_told_401 (by decide) ?_
      refine px_iaddN dL_told_403 ?_
      refine px_iald (j := ((8 * i) + 7)) dL_told_404 pv_a_ki.1 rfl (by omega) pv_a_ki.2.2 pv_a_ki.2.1 ?_
      refine px_iv (y := nI (T (28 + 5 * i))) ((congrFun (hF23 366 (by omega)) _).trans ((qK_c hQK hi (by omega) (by omega)).trans (congrArg nI (congrArg T (by omega))))) ?_
      refine px_icmp_ne (tgt := 441) dL_told_405 (by decide) (fun h9 => absurd rfl h9) (fun _ => ?_)
      refine px_aload_n dL_told_408 rfl ?_
      refine px_iload dL_told_409 rfl ?_
      refine px_iconst (v := nI 3) dL_told_411 (by decide) ?_
      refine px_iaddN dL_told_412 ?_
      refine px_iald (j := ((8 * i) + 3)) dL_told_413 pv_a_ki.1 rfl (by omega) pv_a_ki.2.2 pv_a_ki.2.1 ?_
      refine px_iv (y := nI (T (24 + 5 * i))) ((congrFun (hF23 366 (by omega)) _).trans ((qK_c hQK hi (by omega) (by omega)).trans (congrArg nI (congrArg T (by omega))))) ?_
      refine px_aload_n dL_told_414 rfl ?_
      refine px_iload dL_told_415 rfl ?_
      refine px_iconst (v := nI 4) dL_told_417 (by decide) ?_
      refine px_iaddN dL_told_418 ?_
      refine px_iald (j := ((8 * i) + 4)) dL_told_419 pv_a_ki.1 rfl (by omega) pv_a_ki.2.2 pv_a_ki.2.1 ?_
      refine px_iv (y := nI (T (25 + 5 * i))) ((congrFun (hF23 366 (by omega)) _).trans ((qK_c hQK hi (by omega) (by omega)).trans (congrArg nI (congrArg T (by omega))))) ?_
      refine px_aload_n dL_told_420 rfl ?_
      refine px_iload dL_told_421 rfl ?_
      refine px_iconst (v := nI 5) dL_told_423 (by decide) ?_
      refine px_iaddN dL_told_424 ?_
      refine px_iald (j := ((8 * i) + 5)) dL_told_425 pv_a_ki.1 rfl (by omega) pv_a_ki.2.2 pv_a_ki.2.1 ?_
      refine px_iv (y := nI (T (26 + 5 * i))) ((congrFun (hF23 366 (by omega)) _).trans ((qK_c hQK hi (by omega) (by omega)).trans (congrArg nI (congrArg T (by omega))))) ?_
      refine px_iaddN dL_told_426 ?_
      refine px_aload_n dL_told_427 rfl ?_
      refine px_iload dL_told_428 rfl ?_
      refine px_bipush (v := nI 6) dL_told_430 (by decide) ?_
      refine px_iaddN dL_told_432 ?_
      refine px_iald (j := ((8 * i) + 6)) dL_told_433 pv_a_ki.1 rfl (by omega) pv_a_ki.2.2 pv_a_ki.2.1 ?_
      refine px_iv (y := nI (T (27 + 5 * i))) ((congrFun (hF23 366 (by omega)) _).trans ((qK_c hQK hi (by omega) (by omega)).trans (congrArg nI (congrArg T (by omega))))) ?_
      refine px_iaddN dL_told_434 ?_
      refine px_iload dL_told_435 rfl ?_
      refine px_iaddN dL_told_437 ?_
      rw [← hacc i hi]
      refine px_icmp_eq (tgt := 443) dL_told_438 (by decide) (fun _ => ?_) (fun h9 => absurd rfl h9)
      refine px_iincN (c := 1) (by decide) dL_told_443 rfl (by decide) ?_
      refine px_goto (tgt := 316) dL_told_446 (by decide) ?_
      refine px_keep [0, 1, 2, 3, 4, 5, 6, 8] ?_
      exact K9 I3 (qV_of hV hCA3 hF23)
    · intro q hq KQ I1 hV
      obtain ⟨hCA, hw, ⟨rr, gg, hQD, hQK, hQL, hQM, hQP, hQR⟩, ⟨q4, q11, q3, qm3, qp4⟩, hin, hacc, hq404, hq410⟩ := id hV.1
      replace hQD : qD I1 T L.length := hQD
      replace hQK : qK I1 T := hQK
      replace hQL : qL I1 L := hQL
      replace hQM : qM I1 T := hQM
      replace q4 : T 405 ≤ 4 := q4
      replace q11 : L.length ≤ 11 := q11
      replace q3 : T 408 ≤ 3 := q3
      replace qm3 : ∀ m, m < T 408 → T (314 + m) ≤ 3 := qm3
      replace hacc : qacc T L := hacc
      have hdy : dy (T, L) := hw.1.1
      have htb : tb T := hdy.1
      have hlb : lbs L := hdy.2.1
      have hlo : lo_ok L := hdy.2.2
      have hkk : ∀ l, l < L.length → (pl_g L l).1 < T 405 := hw.1.2.2.2.2.2.1
      have h31 : L.length ≤ 31 := hlb.1
      have hn8 : T 405 ≤ 8 := htb.2.2.1
      have h10 : T 408 ≤ 10 := htb.2.2.2.2.2.2.2.1
      refine px_iload dL_told_344 rfl ?_
      refine px_bipush (v := nI 7) dL_told_346 (by decide) ?_
      refine px_icmp_geN (tgt := 377) dL_told_348 (by decide) (by omega) (by omega) (fun h0 => absurd h0 (by omega)) (fun _ => ?_)
      refine px_aload_n dL_told_351 rfl ?_
      refine px_iload dL_told_352 rfl ?_
      refine px_iload dL_told_354 rfl ?_
      refine c_Z9_kind dL_told_356 mlL_112 (by omega) hCA hw (by omega) (by rw [dz_kind (X := ((T, L), H, B)) (l := i) (i := q) hi hn8 (by omega)]) (Nat.le_of_ble_eq_true rfl) (dz_ok (dz_kind (X := ((T, L), H, B)) (l := i) (i := q) hi hn8 (by omega)) fun I2 hCA2 hF2 => ?_)
      refine px_aload_n dL_told_359 rfl ?_
      refine px_iload dL_told_360 rfl ?_
      refine px_iload dL_told_362 rfl ?_
      refine px_iaddN dL_told_364 ?_
      have e : I2 366 (8 * i + q) = nI (pt_kindv (T, L) i q) := by
        rw [hF2 366 (by omega)]
        unfold pt_kindv
        by_cases h3 : q < 3
        · rw [if_pos h3, qK_l hQK hi h3]
          exact congrArg nI (congrArg T (by omega))
        · rw [if_neg h3, if_neg (by omega), if_neg (by omega), if_neg (by omega), qK_c hQK hi (by omega) (by omega)]
          exact congrArg nI (congrArg T (by omega))
      refine px_iald (j := ((8 * i) + q)) dL_told_365 pv_a_ki.1 rfl (by omega) pv_a_ki.2.2 pv_a_ki.2.1 ?_
      refine px_iv (y := nI (pt_kindv (T, L) i q)) (e) ?_
      refine px_icmp_eq (tgt := 371) dL_told_366 (by decide) (fun _ => ?_) (fun h9 => absurd rfl h9)
      refine px_iincN (c := 1) (by decide) dL_told_371 rfl (by decide) ?_
      refine px_goto (tgt := 344) dL_told_374 (by decide) ?_
      refine px_keep [0, 1, 2, 3, 4, 5, 6, 8, 9, 10, 11] ?_
      exact KQ I2 (qV_of hV hCA2 hF2)
set_option maxRecDepth 100000 in
set_option maxHeartbeats 4000000 in
theorem s_L_told_5 {Q : pv_Q} {E : pv_E} {off : Nat} {d bc bs : Nat} {J : pv_JT} {I : pv_IT} {T : pv_T} {L : List pv_Lot} {H : List pv_S} {B : List Nat} {n : Nat} (hD9 : 9 ≤ d) (hn : n ≤ 40) (hV : qV n I ((T, L), H, B)) (K : ∀ I1 : pv_IT, qV n I1 ((T, L), H, B) → pv_X (pv_ZD E Q) (pv_of E off) d bc bs mL_told 543 [(0, .ref 0), (1, .ref 365), (2, .ref 366), (3, .ref 367), (4, .ref 368), (5, .ref 370), (6, .long (lN (ps_age L)))] [] pv_K0 pv_P0 (I1) (J)) : pv_X (pv_ZD E Q) (pv_of E off) d bc bs mL_told 452 [(0, .ref 0), (1, .ref 365), (2, .ref 366), (3, .ref 367), (4, .ref 368), (5, .ref 370), (6, .long (lN (ps_age L))), (8, .int (nI 0))] [] pv_K0 pv_P0 (I) (J) := by
  revert I
  intro I1 hV
  suffices key : ∀ i : Nat, i ≤ T 408 → ∀ I1 : pv_IT, qV n I1 ((T, L), H, B) → pv_X (pv_ZD E Q) (pv_of E off) d bc bs mL_told 452 [(0, .ref 0), (1, .ref 365), (2, .ref 366), (3, .ref 367), (4, .ref 368), (5, .ref 370), (6, .long (lN (ps_age L))), (8, .int (nI (i)))] [] pv_K0 pv_P0 (I1) (J) from key 0 (Nat.zero_le _) I1 hV
  clear hV I1
  refine pv_up (T 408) ?_ ?_
  · intro I1 hV
    obtain ⟨hCA, hw, ⟨rr, gg, hQD, hQK, hQL, hQM, hQP, hQR⟩, ⟨q4, q11, q3, qm3, qp4⟩, hin, hacc, hq404, hq410⟩ := id hV.1
    replace hQD : qD I1 T L.length := hQD
    replace hQK : qK I1 T := hQK
    replace hQL : qL I1 L := hQL
    replace hQM : qM I1 T := hQM
    replace q4 : T 405 ≤ 4 := q4
    replace q11 : L.length ≤ 11 := q11
    replace q3 : T 408 ≤ 3 := q3
    replace qm3 : ∀ m, m < T 408 → T (314 + m) ≤ 3 := qm3
    replace hacc : qacc T L := hacc
    have hdy : dy (T, L) := hw.1.1
    have htb : tb T := hdy.1
    have hlb : lbs L := hdy.2.1
    have hlo : lo_ok L := hdy.2.2
    have hkk : ∀ l, l < L.length → (pl_g L l).1 < T 405 := hw.1.2.2.2.2.2.1
    have h31 : L.length ≤ 31 := hlb.1
    have hn8 : T 405 ≤ 8 := htb.2.2.1
    have h10 : T 408 ≤ 10 := htb.2.2.2.2.2.2.2.1
    refine px_iload dL_told_452 rfl ?_
    refine px_aload_n dL_told_454 rfl ?_
    refine px_iconst (v := nI 2) dL_told_455 (by decide) ?_
    refine px_iald (j := 2) dL_told_456 pv_a_d.1 rfl (by omega) pv_a_d.2.2 pv_a_d.2.1 ?_
    refine px_iv (y := nI (T 408)) (qD_2 hQD) ?_
    refine px_icmp_geN (tgt := 543) dL_told_457 (by decide) (by omega) (by omega) (fun _ => ?_) (fun h0 => absurd h0 (by omega))
    refine px_keep [0, 1, 2, 3, 4, 5, 6] ?_
    exact K I1 hV
  · intro i hi K9 I1 hV
    obtain ⟨hCA, hw, ⟨rr, gg, hQD, hQK, hQL, hQM, hQP, hQR⟩, ⟨q4, q11, q3, qm3, qp4⟩, hin, hacc, hq404, hq410⟩ := id hV.1
    replace hQD : qD I1 T L.length := hQD
    replace hQK : qK I1 T := hQK
    replace hQL : qL I1 L := hQL
    replace hQM : qM I1 T := hQM
    replace q4 : T 405 ≤ 4 := q4
    replace q11 : L.length ≤ 11 := q11
    replace q3 : T 408 ≤ 3 := q3
    replace qm3 : ∀ m, m < T 408 → T (314 + m) ≤ 3 := qm3
    replace hacc : qacc T L := hacc
    have hdy : dy (T, L) := hw.1.1
    have htb : tb T := hdy.1
    have hlb : lbs L := hdy.2.1
    have hlo : lo_ok L := hdy.2.2
    have hkk : ∀ l, l < L.length → (pl_g L l).1 < T 405 := hw.1.2.2.2.2.2.1
    have h31 : L.length ≤ 31 := hlb.1
    have hn8 : T 405 ≤ 8 := htb.2.2.1
    have h10 : T 408 ≤ 10 := htb.2.2.2.2.2.2.2.1
    refine px_iload dL_told_452 rfl ?_
    refine px_aload_n dL_told_454 rfl ?_
    refine px_iconst (v := nI 2) dL_told_455 (by decide) ?_
    refine px_iald (j := 2) dL_told_456 pv_a_d.1 rfl (by omega) pv_a_d.2.2 pv_a_d.2.1 ?_
    refine px_iv (y := nI (T 408)) (qD_2 hQD) ?_
    refine px_icmp_geN (tgt := 543) dL_told_457 (by decide) (by omega) (by omega) (fun h0 => absurd h0 (by omega)) (fun _ => ?_)
    refine px_iconst (v := nI 0) dL_told_460 (by decide) ?_
    refine px_istore dL_told_461 (by decide) ?_
    suffices fk : ∀ j : Nat, j ≤ 4 → ∀ I1 : pv_IT, qV n I1 ((T, L), H, B) → pv_X (pv_ZD E Q) (pv_of E off) d bc bs mL_told 463 [(0, .ref 0), (1, .ref 365), (2, .ref 366), (3, .ref 367), (4, .ref 368), (5, .ref 370), (6, .long (lN (ps_age L))), (8, .int (nI i)), (9, .int (nI j))] [] pv_K0 pv_P0 (I1) (J) from fk 0 (Nat.zero_le _) I1 hV
    clear hQD hQK hQL hQM hQP hCA hV I1
    refine pv_up (4) ?_ ?_
    · intro I1 hV
      refine px_iload dL_told_463 rfl ?_
      refine px_iconst (v := nI 4) dL_told_465 (by decide) ?_
      refine px_icmp_geN (tgt := 537) dL_told_466 (by decide) (by omega) (by omega) (fun _ => ?_) (fun h0 => absurd h0 (by omega))
      refine px_iincN (c := 1) (by decide) dL_told_537 rfl (by decide) ?_
      refine px_goto (tgt := 452) dL_told_540 (by decide) ?_
      refine px_keep [0, 1, 2, 3, 4, 5, 6, 8] ?_
      exact K9 I1 hV
    · intro j hj KJ I1 hV
      refine px_iload dL_told_463 rfl ?_
      refine px_iconst (v := nI 4) dL_told_465 (by decide) ?_
      refine px_icmp_geN (tgt := 537) dL_told_466 (by decide) (by omega) (by omega) (fun h0 => absurd h0 (by omega)) (fun _ => ?_)
      refine px_iconst (v := nI 0) dL_told_469 (by decide) ?_
      refine px_istore dL_told_470 (by decide) ?_
      suffices gk : ∀ q : Nat, q ≤ 3 → ∀ I1 : pv_IT, qV n I1 ((T, L), H, B) → pv_X (pv_ZD E Q) (pv_of E off) d bc bs mL_told 472 [(0, .ref 0), (1, .ref 365), (2, .ref 366), (3, .ref 367), (4, .ref 368), (5, .ref 370), (6, .long (lN (ps_age L))), (8, .int (nI i)), (9, .int (nI j)), (10, .int (nI q))] [] pv_K0 pv_P0 (I1) (J) from gk 0 (Nat.zero_le _) I1 hV
      clear hV I1
      refine pv_up (3) ?_ ?_
      · intro I1 hV
        refine px_iload dL_told_472 rfl ?_
        refine px_iconst (v := nI 3) dL_told_474 (by decide) ?_
        refine px_icmp_geN (tgt := 531) dL_told_475 (by decide) (by omega) (by omega) (fun _ => ?_) (fun h0 => absurd h0 (by omega))
        refine px_iincN (c := 1) (by decide) dL_told_531 rfl (by decide) ?_
        refine px_goto (tgt := 463) dL_told_534 (by decide) ?_
        refine px_keep [0, 1, 2, 3, 4, 5, 6, 8, 9] ?_
        exact KJ I1 hV
      · intro q hq KQ I1 hV
        obtain ⟨hCA, hw, ⟨rr, gg, hQD, hQK, hQL, hQM, hQP, hQR⟩, ⟨q4, q11, q3, qm3, qp4⟩, hin, hacc, hq404, hq410⟩ := id hV.1
        replace hQD : qD I1 T L.length := hQD
        replace hQK : qK I1 T := hQK
        replace hQL : qL I1 L := hQL
        replace hQM : qM I1 T := hQM
        replace q4 : T 405 ≤ 4 := q4
        replace q11 : L.length ≤ 11 := q11
        replace q3 : T 408 ≤ 3 := q3
        replace qm3 : ∀ m, m < T 408 → T (314 + m) ≤ 3 := qm3
        replace hacc : qacc T L := hacc
        have hdy : dy (T, L) := hw.1.1
        have htb : tb T := hdy.1
        have hlb : lbs L := hdy.2.1
        have hlo : lo_ok L := hdy.2.2
        have hkk : ∀ l, l < L.length → (pl_g L l).1 < T 405 := hw.1.2.2.2.2.2.1
        have h31 : L.length ≤ 31 := hlb.1
        have hn8 : T 405 ≤ 8 := htb.2.2.1
        have h10 : T 408 ≤ 10 := htb.2.2.2.2.2.2.2.1
        refine px_iload dL_told_472 rfl ?_
        refine px_iconst (v := nI 3) dL_told_474 (by decide) ?_
        refine px_icmp_geN (tgt := 531) dL_told_475 (by decide) (by omega) (by omega) (fun h0 => absurd h0 (by omega)) (fun _ => ?_)
        refine px_aload_n dL_told_478 rfl ?_
        refine px_iload dL_told_479 rfl ?_
        refine px_iload dL_told_481 rfl ?_
        refine px_iload dL_told_483 rfl ?_
        refine c_Z9_menu dL_told_485 mlL_115 (by omega) hCA hw (by omega) (by rw [dz_menu (X := ((T, L), H, B)) (m := i) (i := j) (j := q) hi h10 hj (by omega)]) (Nat.le_of_ble_eq_true rfl) (dz_ok (dz_menu (X := ((T, L), H, B)) (m := i) (i := j) (j := q) hi h10 hj (by omega)) fun I2 hCA2 hF2 => ?_)
        have h93 := qm3 i hi
        unfold pt_menu
        refine px_iload dL_told_488 rfl ?_
        refine px_aload_n dL_told_490 rfl ?_
        refine px_bipush (v := nI 15) dL_told_491 (by decide) ?_
        refine px_iload dL_told_493 rfl ?_
        refine px_iaddN dL_told_495 ?_
        refine px_iald (j := (15 + i)) dL_told_496 pv_a_d.1 rfl (by omega) pv_a_d.2.2 pv_a_d.2.1 ?_
        refine px_iv (y := nI (T (314 + i))) ((congrFun (hF2 365 (by omega)) _).trans (qD_15 hQD hi q3)) ?_
        refine px_icmp_geN (tgt := 519) dL_told_497 (by decide) (by omega) (by omega) (fun h5 => ?_) (fun h5 => ?_)
        · refine px_iconst (v := -1) dL_told_519 (by decide) ?_
          rw [if_neg (show ¬ j < T (314 + i) by omega), nI_none]
          refine px_icmp_eq (tgt := 525) dL_told_520 (by decide) (fun _ => ?_) (fun h9 => absurd rfl h9)
          refine px_iincN (c := 1) (by decide) dL_told_525 rfl (by decide) ?_
          refine px_goto (tgt := 472) dL_told_528 (by decide) ?_
          refine px_keep [0, 1, 2, 3, 4, 5, 6, 8, 9, 10] ?_
          exact KQ I2 (qV_of hV hCA2 hF2)
        · refine px_aload dL_told_500 rfl ?_
          refine px_bipush (v := nI 9) dL_told_502 (by decide) ?_
          refine px_iload dL_told_504 rfl ?_
          refine px_imulN dL_told_506 ?_
          refine px_iconst (v := nI 3) dL_told_507 (by decide) ?_
          refine px_iload dL_told_508 rfl ?_
          refine px_imulN dL_told_510 ?_
          refine px_iaddN dL_told_511 ?_
          refine px_iload dL_told_512 rfl ?_
          refine px_iaddN dL_told_514 ?_
          refine px_iald (j := (((9 * i) + (3 * j)) + q)) dL_told_515 pv_a_me.1 rfl (by omega) pv_a_me.2.2 pv_a_me.2.1 ?_
          refine px_iv (y := nI (T (194 + 12 * i + 3 * j + q))) ((congrFun (hF2 368 (by omega)) _).trans (hQM i j q hi h5 hq)) ?_
          refine px_goto (tgt := 520) dL_told_516 (by decide) ?_
          rw [if_pos (show j < T (314 + i) by omega)]
          refine px_icmp_eq (tgt := 525) dL_told_520 (by decide) (fun _ => ?_) (fun h9 => absurd rfl h9)
          refine px_iincN (c := 1) (by decide) dL_told_525 rfl (by decide) ?_
          refine px_goto (tgt := 472) dL_told_528 (by decide) ?_
          refine px_keep [0, 1, 2, 3, 4, 5, 6, 8, 9, 10] ?_
          exact KQ I2 (qV_of hV hCA2 hF2)
theorem q_dself {x : UInt64} (h : x = 0 ∨ ∃ e t : Nat, t < 4503599627370496 ∧ 1005 ≤ e ∧ e ≤ 1051 ∧ x = fbu e t) : Op.cmpValue (FP.dcmp x x) .l = 0 := by
  have key : ∃ (s : Bool) (c : Nat) (q : Int), FP.Core.decode FP.Core.b64 x.toNat = .fin s c q := by
    rcases h with rfl | ⟨e, t, h1, h2, h3, rfl⟩
    · exact ⟨_, _, _, fb_dec0⟩
    · exact ⟨_, _, _, fb_dec (n := (fbu e t).toNat) (e := e) (t := t) (fbu_nat (by omega) h1) h1 (by omega) (by omega)⟩
  obtain ⟨s, c, q, hk⟩ := key
  have e : FP.dcmp x x = some .eq := by
    show FP.Core.order (FP.Core.decode FP.Core.b64 x.toNat) (FP.Core.decode FP.Core.b64 x.toNat) = _
    rw [hk]
    exact congrArg some (by simp)
  rw [e]
  rfl
set_option maxRecDepth 100000 in
set_option maxHeartbeats 4000000 in
theorem s_L_told_6 {Q : pv_Q} {E : pv_E} {off : Nat} {d bc bs : Nat} {J : pv_JT} {I : pv_IT} {T : pv_T} {L : List pv_Lot} {H : List pv_S} {B : List Nat} {n : Nat} (hD9 : 9 ≤ d) (hn : n ≤ 40) (hV : qV n I ((T, L), H, B)) (h : ∀ I1 : pv_IT, qV n I1 ((T, L), H, B) → Q (.inl (some (.int (nI 1)))) pv_K0 pv_P0 I1 J) : pv_X (pv_ZD E Q) (pv_of E off) d bc bs mL_told 543 [(0, .ref 0), (1, .ref 365), (2, .ref 366), (3, .ref 367), (4, .ref 368), (5, .ref 370), (6, .long (lN (ps_age L)))] [] pv_K0 pv_P0 (I) (J) := by
  revert I
  intro I1 hV
  obtain ⟨hCA, hw, ⟨rr, gg, hQD, hQK, hQL, hQM, hQP, hQR⟩, ⟨q4, q11, q3, qm3, qp4⟩, hin, hacc, hq404, hq410⟩ := id hV.1
  replace hQD : qD I1 T L.length := hQD
  replace hQK : qK I1 T := hQK
  replace hQL : qL I1 L := hQL
  replace hQM : qM I1 T := hQM
  replace q4 : T 405 ≤ 4 := q4
  replace q11 : L.length ≤ 11 := q11
  replace q3 : T 408 ≤ 3 := q3
  replace qm3 : ∀ m, m < T 408 → T (314 + m) ≤ 3 := qm3
  replace hacc : qacc T L := hacc
  have hdy : dy (T, L) := hw.1.1
  have htb : tb T := hdy.1
  have hlb : lbs L := hdy.2.1
  have hlo : lo_ok L := hdy.2.2
  have hkk : ∀ l, l < L.length → (pl_g L l).1 < T 405 := hw.1.2.2.2.2.2.1
  have h31 : L.length ≤ 31 := hlb.1
  have hn8 : T 405 ≤ 8 := htb.2.2.1
  have h10 : T 408 ≤ 10 := htb.2.2.2.2.2.2.2.1
  have hag := ps_age_le hlb
  have hal := ps_all_le hlb
  refine px_iconst (v := -1) dL_told_543 (by decide) ?_
  refine px_iconst (v := nI 0) dL_told_544 (by decide) ?_
  refine px_aload_n dL_told_545 rfl ?_
  refine px_aload_n dL_told_546 rfl ?_
  refine c_L_held_all dL_told_547 mlL_53 (by omega) hQD hQL (by omega) hlb (Nat.le_of_ble_eq_true rfl) ?_
  refine px_istore dL_told_550 (by decide) ?_
  refine px_aload_n dL_told_552 rfl ?_
  refine px_iconst (v := nI 0) dL_told_553 (by decide) ?_
  have hF1 : ∀ j, 365 ≤ j → I1 j = I1 j := fun _ _ => rfl
  have hCA1 := hCA
  refine c_Z9_count dL_told_554 mlL_118 (by omega) hCA1 hw (by omega) (by rw [dz_count (X := ((T, L), H, B)) (i := 0) (by omega)]) (Nat.le_of_ble_eq_true rfl) (dz_ok (dz_count (X := ((T, L), H, B)) (i := 0) (by omega)) fun I2 hCA2 hG2 => ?_)
  have hF2 : ∀ j, 365 ≤ j → I2 j = I1 j := fun j hj => (hG2 j hj).trans (hF1 j hj)
  refine px_aload_n dL_told_557 rfl ?_
  refine px_iconst (v := nI 3) dL_told_558 (by decide) ?_
  refine px_iald (j := 3) dL_told_559 pv_a_d.1 rfl (by omega) pv_a_d.2.2 pv_a_d.2.1 ?_
  refine px_iv (y := nI (T 404)) ((congrFun (hF2 365 (by omega)) _).trans (qD_3 hQD)) ?_
  refine px_icmp_ne (tgt := 684) dL_told_560 (by decide) (fun h9 => absurd rfl h9) (fun _ => ?_)
  refine px_aload_n dL_told_563 rfl ?_
  refine px_iconst (v := nI 1) dL_told_564 (by decide) ?_
  refine c_Z9_count dL_told_565 mlL_118 (by omega) hCA2 hw (by omega) (by rw [dz_count (X := ((T, L), H, B)) (i := 1) (by omega)]) (Nat.le_of_ble_eq_true rfl) (dz_ok (dz_count (X := ((T, L), H, B)) (i := 1) (by omega)) fun I3 hCA3 hG3 => ?_)
  have hF3 : ∀ j, 365 ≤ j → I3 j = I1 j := fun j hj => (hG3 j hj).trans (hF2 j hj)
  refine px_aload_n dL_told_568 rfl ?_
  refine px_iconst (v := nI 0) dL_told_569 (by decide) ?_
  refine px_iald (j := 0) dL_told_570 pv_a_d.1 rfl (by omega) pv_a_d.2.2 pv_a_d.2.1 ?_
  refine px_iv (y := nI (T 405)) ((congrFun (hF3 365 (by omega)) _).trans (qD_0 hQD)) ?_
  refine px_icmp_ne (tgt := 684) dL_told_571 (by decide) (fun h9 => absurd rfl h9) (fun _ => ?_)
  refine px_aload_n dL_told_574 rfl ?_
  refine px_iconst (v := nI 2) dL_told_575 (by decide) ?_
  refine c_Z9_count dL_told_576 mlL_118 (by omega) hCA3 hw (by omega) (by rw [dz_count (X := ((T, L), H, B)) (i := 2) (by omega)]) (Nat.le_of_ble_eq_true rfl) (dz_ok (dz_count (X := ((T, L), H, B)) (i := 2) (by omega)) fun I4 hCA4 hG4 => ?_)
  have hF4 : ∀ j, 365 ≤ j → I4 j = I1 j := fun j hj => (hG4 j hj).trans (hF3 j hj)
  refine px_aload_n dL_told_579 rfl ?_
  refine px_iconst (v := nI 1) dL_told_580 (by decide) ?_
  refine px_iald (j := 1) dL_told_581 pv_a_d.1 rfl (by omega) pv_a_d.2.2 pv_a_d.2.1 ?_
  refine px_iv (y := nI (L.length)) ((congrFun (hF4 365 (by omega)) _).trans (hQD.1)) ?_
  refine px_icmp_ne (tgt := 684) dL_told_582 (by decide) (fun h9 => absurd rfl h9) (fun _ => ?_)
  refine px_aload_n dL_told_585 rfl ?_
  refine px_iconst (v := nI 4) dL_told_586 (by decide) ?_
  refine c_Z9_count dL_told_587 mlL_118 (by omega) hCA4 hw (by omega) (by rw [dz_count (X := ((T, L), H, B)) (i := 4) (by omega)]) (Nat.le_of_ble_eq_true rfl) (dz_ok (dz_count (X := ((T, L), H, B)) (i := 4) (by omega)) fun I5 hCA5 hG5 => ?_)
  have hF5 : ∀ j, 365 ≤ j → I5 j = I1 j := fun j hj => (hG5 j hj).trans (hF4 j hj)
  refine px_aload_n dL_told_590 rfl ?_
  refine px_iconst (v := nI 2) dL_told_591 (by decide) ?_
  refine px_iald (j := 2) dL_told_592 pv_a_d.1 rfl (by omega) pv_a_d.2.2 pv_a_d.2.1 ?_
  refine px_iv (y := nI (T 408)) ((congrFun (hF5 365 (by omega)) _).trans (qD_2 hQD)) ?_
  refine px_icmp_ne (tgt := 684) dL_told_593 (by decide) (fun h9 => absurd rfl h9) (fun _ => ?_)
  refine px_aload_n dL_told_596 rfl ?_
  refine px_iconst (v := nI 5) dL_told_597 (by decide) ?_
  refine c_Z9_count dL_told_598 mlL_118 (by omega) hCA5 hw (by omega) (by rw [dz_count (X := ((T, L), H, B)) (i := 5) (by omega)]) (Nat.le_of_ble_eq_true rfl) (dz_ok (dz_count (X := ((T, L), H, B)) (i := 5) (by omega)) fun I6 hCA6 hG6 => ?_)
  have hF6 : ∀ j, 365 ≤ j → I6 j = I1 j := fun j hj => (hG6 j hj).trans (hF5 j hj)
  refine px_aload_n dL_told_601 rfl ?_
  refine px_iconst (v := nI 4) dL_told_602 (by decide) ?_
  refine px_iald (j := 4) dL_told_603 pv_a_d.1 rfl (by omega) pv_a_d.2.2 pv_a_d.2.1 ?_
  refine px_iv (y := nI (T 409)) ((congrFun (hF6 365 (by omega)) _).trans (qD_4 hQD)) ?_
  refine px_icmp_ne (tgt := 684) dL_told_604 (by decide) (fun h9 => absurd rfl h9) (fun _ => ?_)
  refine px_aload_n dL_told_607 rfl ?_
  refine px_bipush (v := nI 6) dL_told_608 (by decide) ?_
  refine c_Z9_count dL_told_610 mlL_118 (by omega) hCA6 hw (by omega) (by rw [dz_count (X := ((T, L), H, B)) (i := 6) (by omega)]) (Nat.le_of_ble_eq_true rfl) (dz_ok (dz_count (X := ((T, L), H, B)) (i := 6) (by omega)) fun I7 hCA7 hG7 => ?_)
  have hF7 : ∀ j, 365 ≤ j → I7 j = I1 j := fun j hj => (hG7 j hj).trans (hF6 j hj)
  refine px_aload_n dL_told_613 rfl ?_
  refine px_iconst (v := nI 5) dL_told_614 (by decide) ?_
  refine px_iald (j := 5) dL_told_615 pv_a_d.1 rfl (by omega) pv_a_d.2.2 pv_a_d.2.1 ?_
  refine px_iv (y := nI (T 410)) ((congrFun (hF7 365 (by omega)) _).trans (qD_5 hQD)) ?_
  refine px_icmp_ne (tgt := 684) dL_told_616 (by decide) (fun h9 => absurd rfl h9) (fun _ => ?_)
  refine px_aload_n dL_told_619 rfl ?_
  refine px_bipush (v := nI 7) dL_told_620 (by decide) ?_
  refine c_Z9_count dL_told_622 mlL_118 (by omega) hCA7 hw (by omega) (by rw [dz_count (X := ((T, L), H, B)) (i := 7) (by omega)]) (Nat.le_of_ble_eq_true rfl) (dz_ok (dz_count (X := ((T, L), H, B)) (i := 7) (by omega)) fun I8 hCA8 hG8 => ?_)
  have hF8 : ∀ j, 365 ≤ j → I8 j = I1 j := fun j hj => (hG8 j hj).trans (hF7 j hj)
  refine px_aload_n dL_told_625 rfl ?_
  refine px_bipush (v := nI 6) dL_told_626 (by decide) ?_
  refine px_iald (j := 6) dL_told_628 pv_a_d.1 rfl (by omega) pv_a_d.2.2 pv_a_d.2.1 ?_
  refine px_iv (y := nI (T 411)) ((congrFun (hF8 365 (by omega)) _).trans (qD_6 hQD)) ?_
  refine px_icmp_ne (tgt := 684) dL_told_629 (by decide) (fun h9 => absurd rfl h9) (fun _ => ?_)
  refine px_aload_n dL_told_632 rfl ?_
  refine px_bipush (v := nI 8) dL_told_633 (by decide) ?_
  refine c_Z9_count dL_told_635 mlL_118 (by omega) hCA8 hw (by omega) (by rw [dz_count (X := ((T, L), H, B)) (i := 8) (by omega)]) (Nat.le_of_ble_eq_true rfl) (dz_ok (dz_count (X := ((T, L), H, B)) (i := 8) (by omega)) fun I9 hCA9 hG9 => ?_)
  have hF9 : ∀ j, 365 ≤ j → I9 j = I1 j := fun j hj => (hG9 j hj).trans (hF8 j hj)
  refine px_aload_n dL_told_638 rfl ?_
  refine px_bipush (v := nI 7) dL_told_639 (by decide) ?_
  refine px_iald (j := 7) dL_told_641 pv_a_d.1 rfl (by omega) pv_a_d.2.2 pv_a_d.2.1 ?_
  refine px_iv (y := nI (T 412)) ((congrFun (hF9 365 (by omega)) _).trans (qD_7 hQD)) ?_
  refine px_icmp_ne (tgt := 684) dL_told_642 (by decide) (fun h9 => absurd rfl h9) (fun _ => ?_)
  refine px_aload_n dL_told_645 rfl ?_
  refine px_bipush (v := nI 12) dL_told_646 (by decide) ?_
  refine c_Z9_count dL_told_648 mlL_118 (by omega) hCA9 hw (by omega) (by rw [dz_count (X := ((T, L), H, B)) (i := 12) (by omega)]) (Nat.le_of_ble_eq_true rfl) (dz_ok (dz_count (X := ((T, L), H, B)) (i := 12) (by omega)) fun I10 hCA10 hG10 => ?_)
  have hF10 : ∀ j, 365 ≤ j → I10 j = I1 j := fun j hj => (hG10 j hj).trans (hF9 j hj)
  refine px_iload dL_told_651 rfl ?_
  refine px_icmp_ne (tgt := 684) dL_told_653 (by decide) (fun h9 => absurd rfl h9) (fun _ => ?_)
  refine px_aload_n dL_told_656 rfl ?_
  refine c_X9_meanAge dL_told_657 mlL_121 (by omega) hCA10 hw (by omega) (Nat.le_of_ble_eq_true rfl) ?_
  refine px_iload dL_told_660 rfl ?_
  refine px_if_neN (tgt := 669) dL_told_662 (by decide) (by omega) (fun h0 => ?_) (fun h0 => ?_)
  · refine px_lload dL_told_669 rfl ?_
    refine px_l2d dL_told_671 ?_
    refine px_iload dL_told_672 rfl ?_
    refine px_i2d dL_told_674 ?_
    have hm : FP.ddiv (fbi (ps_age L)) (fbi (ps_all L)) = pt_mean L := (if_neg (by omega)).symm
    rw [fbi_l (by omega), fbi_i (by omega)]
    refine px_ddiv dL_told_675 (by rw [hm]; exact pt_mean_n64 hlb) ?_
    rw [hm]
    refine px_dcmp dL_told_676 ?_
    rw [q_dself (pt_mean_is hlb)]
    refine px_if_ne (tgt := 684) dL_told_677 (by decide) (fun h9 => absurd rfl h9) (fun _ => ?_)
    refine px_iconst (v := nI 1) dL_told_680 (by decide) ?_
    refine px_goto (tgt := 685) dL_told_681 (by decide) ?_
    exact px_zretD dL_told_685 rfl rfl (Or.inl rfl) (h _ (qV_of hV hCA10 hF10))
  · refine px_dconst0 dL_told_665 ?_
    refine px_goto (tgt := 676) dL_told_666 (by decide) ?_
    refine px_dcmp dL_told_676 ?_
    rw [show FP.dconst0 = pt_mean L from (if_pos h0).symm, q_dself (pt_mean_is hlb)]
    refine px_if_ne (tgt := 684) dL_told_677 (by decide) (fun h9 => absurd rfl h9) (fun _ => ?_)
    refine px_iconst (v := nI 1) dL_told_680 (by decide) ?_
    refine px_goto (tgt := 685) dL_told_681 (by decide) ?_
    exact px_zretD dL_told_685 rfl rfl (Or.inl rfl) (h _ (qV_of hV hCA10 hF10))
set_option maxRecDepth 100000 in
set_option maxHeartbeats 4000000 in
theorem s_L_told {Q : pv_Q} {E : pv_E} {off d bc bs sz : Nat} {J : pv_JT} {I : pv_IT} {T : pv_T} {L : List pv_Lot} {H : List pv_S} {B : List Nat} {n : Nat} (hD9 : 9 ≤ d) (hsz : sz = 370 ∨ sz = 371) (hn : n ≤ 40) (hW : qW n I ((T, L), H, B)) (h : ∀ I1 : pv_IT, qW n I1 ((T, L), H, B) → Q (.inl (some (.int (nI 1)))) pv_K0 pv_P0 I1 J) : pv_X (pv_ZD E Q) (pv_of E off) d (1 + bc) (13 + bs) mL_told 0 [(0, .ref 0), (1, .ref 365), (2, .ref 366), (3, .ref 367), (4, .ref 368)] [] sz pv_P0 (I) (J) := by
  refine px_bipush (v := nI 13) dL_told_0 (by decide) ?_
  refine px_newD dL_told_2 pv_aI pv_s370 rfl hsz pv_P0n rfl rfl (fun off1 => px_of ?_)
  refine px_astore dL_told_4 (by decide) ?_
  refine px_lconst dL_told_6 rfl ?_
  refine px_lstore dL_told_7 (by decide) ?_
  refine px_iconst (v := nI 0) dL_told_9 (by decide) ?_
  refine px_istore dL_told_10 (by decide) ?_
  have key : ∀ i : Nat, i ≤ L.length → ∀ I1 : pv_IT, qW n I1 ((T, L), H, B) → (∀ l, l < i → I1 370 l = nI (pd_mornings (T, L) l)) → pv_X (pv_ZD E Q) (pv_of E off1) d bc bs mL_told 12 [(0, .ref 0), (1, .ref 365), (2, .ref 366), (3, .ref 367), (4, .ref 368), (5, .ref 370), (6, .long (lN (pn_sum (fun l => (pl_g L l).2.2.2 * (pl_g L l).2.2.1) (i)))), (8, .int (nI (i)))] [] pv_K0 pv_P0 (I1) (J) := by
    refine pv_up (L.length) ?_ ?_
    · intro I1 hW hI1
      obtain ⟨hCA, hw, ⟨rr, gg, hQD, hQK, hQL, hQM, hQP, hQR⟩, ⟨q4, q11, q3, qm3, qp4⟩, hin, hacc, hq404, hq410⟩ := id hW
      replace hQD : qD I1 T L.length := hQD
      replace hQK : qK I1 T := hQK
      replace hQL : qL I1 L := hQL
      replace hQM : qM I1 T := hQM
      replace q4 : T 405 ≤ 4 := q4
      replace q11 : L.length ≤ 11 := q11
      replace q3 : T 408 ≤ 3 := q3
      replace qm3 : ∀ m, m < T 408 → T (314 + m) ≤ 3 := qm3
      replace hacc : qacc T L := hacc
      have hdy : dy (T, L) := hw.1.1
      have htb : tb T := hdy.1
      have hlb : lbs L := hdy.2.1
      have hlo : lo_ok L := hdy.2.2
      have hkk : ∀ l, l < L.length → (pl_g L l).1 < T 405 := hw.1.2.2.2.2.2.1
      have h31 : L.length ≤ 31 := hlb.1
      have hn8 : T 405 ≤ 8 := htb.2.2.1
      have h10 : T 408 ≤ 10 := htb.2.2.2.2.2.2.2.1
      refine px_iload dL_told_12 rfl ?_
      refine px_aload_n dL_told_14 rfl ?_
      refine px_iconst (v := nI 1) dL_told_15 (by decide) ?_
      refine px_iald (j := 1) dL_told_16 pv_a_d.1 rfl (by omega) pv_a_d.2.2 pv_a_d.2.1 ?_
      refine px_iv (y := nI (L.length)) (hQD.1) ?_
      refine px_icmp_geN (tgt := 63) dL_told_17 (by decide) (by omega) (by omega) (fun _ => ?_) (fun h0 => absurd h0 (by omega))
      refine px_iconst (v := nI 0) dL_told_63 (by decide) ?_
      refine px_istore dL_told_64 (by decide) ?_
      refine px_keep [0, 1, 2, 3, 4, 5, 6, 8] ?_
      refine s_L_told_2 hD9 hn (I := I1) ⟨hW, hI1⟩ (fun I2 hV2 => ?_)
      refine s_L_told_3 hD9 hn hV2 (fun I3 hV3 => ?_)
      refine s_L_told_4 hD9 hn hV3 (fun I4 hV4 => ?_)
      refine s_L_told_5 hD9 hn hV4 (fun I5 hV5 => ?_)
      exact s_L_told_6 hD9 hn hV5 (fun I6 hV6 => h I6 hV6.1)
    · intro i hi K9 I1 hW hI1
      obtain ⟨hCA, hw, ⟨rr, gg, hQD, hQK, hQL, hQM, hQP, hQR⟩, ⟨q4, q11, q3, qm3, qp4⟩, hin, hacc, hq404, hq410⟩ := id hW
      replace hQD : qD I1 T L.length := hQD
      replace hQK : qK I1 T := hQK
      replace hQL : qL I1 L := hQL
      replace hQM : qM I1 T := hQM
      replace q4 : T 405 ≤ 4 := q4
      replace q11 : L.length ≤ 11 := q11
      replace q3 : T 408 ≤ 3 := q3
      replace qm3 : ∀ m, m < T 408 → T (314 + m) ≤ 3 := qm3
      replace hacc : qacc T L := hacc
      have hdy : dy (T, L) := hw.1.1
      have htb : tb T := hdy.1
      have hlb : lbs L := hdy.2.1
      have hlo : lo_ok L := hdy.2.2
      have hkk : ∀ l, l < L.length → (pl_g L l).1 < T 405 := hw.1.2.2.2.2.2.1
      have h31 : L.length ≤ 31 := hlb.1
      have hn8 : T 405 ≤ 8 := htb.2.2.1
      have h10 : T 408 ≤ 10 := htb.2.2.2.2.2.2.2.1
      have hr := hQL i hi
      have hx := hlb.2 i hi
      unfold lb at hx
      have hoi := hlo i hi
      unfold lv_ok at hoi
      refine px_iload dL_told_12 rfl ?_
      refine px_aload_n dL_told_14 rfl ?_
      refine px_iconst (v := nI 1) dL_told_15 (by decide) ?_
      refine px_iald (j := 1) dL_told_16 pv_a_d.1 rfl (by omega) pv_a_d.2.2 pv_a_d.2.1 ?_
      refine px_iv (y := nI (L.length)) (hQD.1) ?_
      refine px_icmp_geN (tgt := 63) dL_told_17 (by decide) (by omega) (by omega) (fun h0 => absurd h0 (by omega)) (fun _ => ?_)
      refine px_aload dL_told_20 rfl ?_
      refine px_iload dL_told_22 rfl ?_
      refine px_iload dL_told_24 rfl ?_
      refine px_aload_n dL_told_26 rfl ?_
      refine px_aload_n dL_told_27 rfl ?_
      refine px_aload_n dL_told_28 rfl ?_
      refine c_L_left dL_told_29 mlL_18 (by omega) hQD hQK hQL q4 htb hi (by omega) (hlb.2 i hi) (hkk i hi) (by omega) (Nat.le_of_ble_eq_true rfl) ?_
      refine px_iast (j := i) dL_told_32 pv_a_days.1 rfl (by omega) pv_a_days.2.2 pv_a_days.2.1 ?_
      generalize hI2 : pv_uI I1 370 i (nI (pt_left T (pl_g L i))) = I2
      have hF2 : ∀ j, j ≠ 370 → I2 j = I1 j := fun j hj => by rw [← hI2]; exact pv_uI_ne hj
      refine px_lload dL_told_33 rfl ?_
      refine px_aload_n dL_told_35 rfl ?_
      refine px_iconst (v := nI 4) dL_told_36 (by decide) ?_
      refine px_iload dL_told_37 rfl ?_
      refine px_imulN dL_told_39 ?_
      refine px_iconst (v := nI 2) dL_told_40 (by decide) ?_
      refine px_iaddN dL_told_41 ?_
      refine px_iald (j := ((4 * i) + 2)) dL_told_42 pv_a_lo.1 rfl (by omega) pv_a_lo.2.2 pv_a_lo.2.1 ?_
      refine px_iv (y := nI ((pl_g L i).2.2.1)) ((congrFun (hF2 367 (by omega)) _).trans hr.2.2.1) ?_
      refine px_i2l dL_told_43 ?_
      refine px_aload_n dL_told_44 rfl ?_
      refine px_iconst (v := nI 4) dL_told_45 (by decide) ?_
      refine px_iload dL_told_46 rfl ?_
      refine px_imulN dL_told_48 ?_
      refine px_iconst (v := nI 3) dL_told_49 (by decide) ?_
      refine px_iaddN dL_told_50 ?_
      refine px_iald (j := ((4 * i) + 3)) dL_told_51 pv_a_lo.1 rfl (by omega) pv_a_lo.2.2 pv_a_lo.2.1 ?_
      refine px_iv (y := nI ((pl_g L i).2.2.2)) ((congrFun (hF2 367 (by omega)) _).trans hr.2.2.2) ?_
      refine px_i2l dL_told_52 ?_
      refine px_lmul dL_told_53 ?_
      refine px_ladd dL_told_54 ?_
      refine px_lstore dL_told_55 (by decide) ?_
      refine px_iincN (c := 1) (by decide) dL_told_57 rfl (by decide) ?_
      refine px_goto (tgt := 12) dL_told_60 (by decide) ?_
      refine px_keep [0, 1, 2, 3, 4, 5, 6, 8] ?_
      have e1 : lN (pn_sum (fun l => (pl_g L l).2.2.2 * (pl_g L l).2.2.1) (i)) + (nI (pl_g L i).2.2.1).toInt64 * (nI (pl_g L i).2.2.2).toInt64 = lN (pn_sum (fun l => (pl_g L l).2.2.2 * (pl_g L l).2.2.1) (i + 1)) := by
        rw [nI_l (n := (pl_g L i).2.2.2) (by omega), nI_l (n := (pl_g L i).2.2.1) (by omega), lN_mul2, ← lN_add2, Nat.mul_comm (pl_g L i).2.2.1]
        rfl
      rw [e1]
      refine K9 I2 (qW_of hW (CA_far hCA (fun j hj => hF2 j (by omega))) (fun j h1 h2 => hF2 j h2)) (fun l hl => ?_)
      rw [← hI2, pv_uI_at]
      by_cases e : l = i
      · subst e
        rw [if_pos ⟨rfl, rfl⟩]
        rfl
      · rw [if_neg (fun q => e q.2)]
        exact hI1 l (by omega)
  exact key 0 (by omega) _ (qW_of hW (CA_far hW.1 (fun j hj => pv_zI_ne (by omega))) (fun j h1 h2 => pv_zI_ne h2)) (fun l hl => absurd hl (Nat.not_lt_zero _))
theorem c_L_told {z : pv_Z} {E : pv_E} {off d bc bs sz : Nat} {J : pv_JT} {I : pv_IT} {mi : pv_MI} {pc idx : Nat} {lv : pv_LV} {st : List Value} {T : pv_T} {L : List pv_Lot} {H : List pv_S} {B : List Nat} {n : Nat} (hd : decode mi.2.1 pc = .ok (.invokestatic idx, 3)) (hlk : Cond.methodLink mi.1.cls idx mL_told.1 ∈ pv_W) (hD9 : 9 + 1 ≤ d) (hlv : lv.all (fun q => pv_nr q.2) = true) (hst : st.all pv_nr = true) (hsz : sz = 370 ∨ sz = 371) (hn : n ≤ 40) (hW : qW n I ((T, L), H, B)) (hcat : (st.map fun v => v.category).sum ≤ 8) (K : ∀ I1 : pv_IT, qW n I1 ((T, L), H, B) → ∀ off1 : Nat, pv_X z (pv_of E off1) d bc bs mi (pc + 3) lv (.int (nI 1) :: st) pv_K0 pv_P0 I1 J) : pv_X z (pv_of E off) d (1 + bc) (13 + bs) mi pc lv (.ref 368 :: .ref 367 :: .ref 366 :: .ref 365 :: .ref 0 :: st) sz pv_P0 I J := by
  obtain ⟨d, rfl⟩ : ∃ d0, d = d0 + 1 := ⟨d - 1, by omega⟩
  exact px_callSD (as := [.ref 0, .ref 365, .ref 366, .ref 367, .ref 368]) hd msL_told hlk rfl rfl hcat (by exact Nat.le_of_ble_eq_true rfl) hlv hst (s_L_told (bc := 0) (bs := 0) (by omega) hsz hn hW K)
