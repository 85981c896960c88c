/-! The law: a port comes, a price changes. -/
theorem qt_addPort {T : pv_T} {L : List pv_Lot} {H : List pv_S} {B : List Nat} {d s : Nat} (hd : d ≤ 500) (hs : s ≤ 900) (h : T 407 < 8) (hon : pt_on T d = none) : po_addPort ((T, L), H, B) (nI d) (nI s) = (0, nI (pt_place T d), po_push ((T, L), H, B) (pt_ins T (pt_place T d) d s, L)) := by
  unfold po_addPort
  rw [if_pos ⟨dz_in hd (by decide), dz_in hs (by decide)⟩, dz_tn (by omega), dz_tn (by omega)]
  exact if_pos ⟨h, hon⟩
theorem qt_ins_out {T : pv_T} {j d s i : Nat} (h : i < 324 ∨ 404 ≤ i) (h7 : i ≠ 407) (h8 : T 407 < 8) (hj : j ≤ T 407) : pt_ins T j d s i = T i := by
  unfold pt_ins
  rw [if_neg h7, if_neg (by omega), if_neg (by omega)]
def q_r (r : Nat → Nat) (N pl : Nat) : Nat → Nat := fun q => if q = N then pl else if r q < pl then r q else r q + 1
def q_g (g : Nat → Nat) (N pl : Nat) : Nat → Nat := fun j => if j < pl then g j else if j = pl then N else g (j - 1)
theorem q_ins {N pl : Nat} {r g : Nat → Nat} (h : qR N r g) (hp : pl ≤ N) : qR (N + 1) (q_r r N pl) (q_g g N pl) := by
  refine ⟨fun p h1 => ?_, fun j h1 => ?_⟩
  · unfold q_r
    by_cases e : p = N
    · rw [if_pos e]
      unfold q_g
      rw [if_neg (by omega), if_pos rfl]
      omega
    · rw [if_neg e]
      have h2 := h.1 p (by omega)
      by_cases e2 : r p < pl
      · rw [if_pos e2]
        unfold q_g
        rw [if_pos e2]
        exact ⟨by omega, h2.2⟩
      · rw [if_neg e2]
        unfold q_g
        rw [if_neg (by omega), if_neg (by omega), Nat.add_sub_cancel]
        exact ⟨by omega, h2.2⟩
  · unfold q_g
    by_cases e : j < pl
    · have h2 := h.2 j (by omega)
      rw [if_pos e]
      unfold q_r
      rw [if_neg (by omega), h2.2, if_pos e]
      omega
    · rw [if_neg e]
      by_cases e2 : j = pl
      · rw [if_pos e2]
        unfold q_r
        rw [if_pos rfl]
        omega
      · have h2 := h.2 (j - 1) (by omega)
        rw [if_neg e2]
        unfold q_r
        rw [if_neg (by omega), h2.2, if_neg (by omega)]
        omega
theorem qt_place {T : pv_T} {L : List pv_Lot} (h : pw T) (d : Nat) : pt_place T d ≤ T 407 := (pt_place_is h).1
set_option maxRecDepth 100000 in
set_option maxHeartbeats 4000000 in
theorem s_L_port {Q : pv_Q} {E : pv_E} {d bc bs : Nat} {J : pv_JT} {I : pv_IT} {T : pv_T} {L : List pv_Lot} {H : List pv_S} {B : List Nat} {n : Nat} {x y : Int32} (hDep : 9 ≤ d) (hW : qW n I ((T, L), H, B)) (hn : n ≤ 29) (hbc : 6 ≤ bc) (hbs : 36 ≤ bs) (h : ∀ (I' : pv_IT) (X' : pv_XS), qW (n + 1) I' X' → Q (.inl (some (.int (nI 1)))) pv_K0 pv_P0 (I') (J)) : pv_X (pv_ZQ E Q) E d bc bs mL_port 0 [(0, .ref 0), (1, .int (x)), (2, .int (y)), (3, .ref (365)), (4, .ref (369))] [] pv_K0 pv_P0 I J := by
  obtain ⟨hCA, hw, ⟨r, g, hQD, hQK, hQL, hQM, hQP, hQR⟩, ⟨q4, q11, q3, qm3, qp4⟩, hin, hacc, hq404, hq410⟩ := id hW
  replace hQD : qD I T L.length := hQD
  replace hQK : qK I T := hQK
  replace hQL : qL I L := hQL
  replace hQM : qM I T := hQM
  replace hQP : qP I T r := hQP
  replace hQR : qR (T 407) r g := hQR
  replace q4 : T 405 ≤ 4 := q4
  replace q11 : L.length ≤ 11 := q11
  replace q3 : T 408 ≤ 3 := q3
  replace qm3 : ∀ m, m < T 408 → T (314 + m) ≤ 3 := qm3
  replace qp4 : T 407 ≤ 4 := qp4
  replace hin : qin T L := hin
  replace hacc : qacc T L := hacc
  replace hq404 : T 404 ≤ 20 * (n - 6) := hq404
  replace hq410 : T 410 ≤ 10000 + 2000 * n := hq410
  have hdy : dy (T, L) := hw.1.1
  have htb : tb T := hdy.1
  have hlb : lbs L := hdy.2.1
  have hlo : lo_ok L := hdy.2.2
  have hpw : pw T := htb.2.2.2.2.2.1
  have hkk : ∀ l, l < L.length → (pl_g L l).1 < T 405 := hw.1.2.2.2.2.2.1
  have h31 : L.length ≤ 31 := hlb.1
  have hn8 : T 405 ≤ 8 := htb.2.2.1
  have h10 : T 408 ≤ 10 := htb.2.2.2.2.2.2.2.1
  have hd500 := hpw.1
  refine px_aload_n dL_port_0 rfl ?_
  refine px_iconst (v := nI 3) dL_port_1 (by decide) ?_
  refine px_iald (j := 3) dL_port_2 pv_a_d.1 rfl (by omega) pv_a_d.2.2 pv_a_d.2.1 ?_
  refine px_iv (y := nI (T 404)) (qD_3 hQD) ?_
  refine px_iload_n dL_port_3 rfl ?_
  refine px_iload_n dL_port_4 rfl ?_
  refine px_iconst (v := nI 2) dL_port_5 (by decide) ?_
  refine c_L_at dL_port_6 mlL_30 (by omega) (by omega) (by omega) (Nat.le_of_ble_eq_true rfl) (fun j1 hj1 => ?_)
  refine px_if_neN (tgt := 16) dL_port_9 (by decide) (by omega) (fun h4 => ?_) (fun h4 => ?_)
  · refine px_bipush (v := nI 30) dL_port_16 (by decide) ?_
    refine c_L_at dL_port_18 mlL_30 (by omega) (by omega) (by omega) (Nat.le_of_ble_eq_true rfl) (fun j2 hj2 => ?_)
    refine px_iaddN dL_port_21 ?_
    refine px_istore dL_port_22 (by decide) ?_
    refine px_aload_n dL_port_24 rfl ?_
    refine px_bipush (v := nI 14) dL_port_25 (by decide) ?_
    refine px_iald (j := 14) dL_port_27 pv_a_d.1 rfl (by omega) pv_a_d.2.2 pv_a_d.2.1 ?_
    refine px_iv (y := nI (T 407)) (qD_14 hQD) ?_
    refine px_iconst (v := nI 4) dL_port_28 (by decide) ?_
    refine px_icmp_eqN (tgt := 43) dL_port_29 (by decide) (by omega) (by omega) (fun h5 => ?_) (fun h5 => ?_)
    · refine px_iconst (v := nI 1) dL_port_43 (by decide) ?_
      exact px_zret dL_port_44 rfl rfl (Or.inl rfl) (h I ((T, L), H, B) (qW_mono hW))
    · refine px_iload dL_port_32 rfl ?_
      refine px_aload_n dL_port_34 rfl ?_
      refine px_aload dL_port_35 rfl ?_
      refine c_L_portOf dL_port_37 mlL_40 (by omega) hQD hQP hQR hpw qp4 (by omega) (Nat.le_of_ble_eq_true rfl) ?_
      cases e : q_at T r (T 404 + j2) with
      | some p9 =>
        have hp9 := (pf_is e).1
        refine px_if_lt (tgt := 45) dL_port_40 (by decide) (fun h9 => absurd h9 (nI_pos (n := p9) (by omega))) (fun _ => ?_)
        refine px_iconst (v := nI 1) dL_port_43 (by decide) ?_
        exact px_zret dL_port_44 rfl rfl (Or.inl rfl) (h I ((T, L), H, B) (qW_mono hW))
      | none =>
        refine px_if_lt (tgt := 45) dL_port_40 (by decide) (fun _ => ?_) (fun h9 => absurd (by decide) h9)
        have hon : pt_on T (T 404 + j2) = none := q_at_none hQR e
        have hpl : pt_place T (T 404 + j2) ≤ T 407 := qt_place (L := L) hpw _
        refine px_aload_n dL_port_45 rfl ?_
        refine px_bipush (v := nI 14) dL_port_46 (by decide) ?_
        refine px_dup2 dL_port_48 rfl rfl ?_
        refine px_iald (j := 14) dL_port_49 pv_a_d.1 rfl (by omega) pv_a_d.2.2 pv_a_d.2.1 ?_
        refine px_iv (y := nI (T 407)) (qD_14 hQD) ?_
        refine px_dup_x2 dL_port_50 rfl rfl rfl ?_
        refine px_iconst (v := nI 1) dL_port_51 (by decide) ?_
        refine px_iaddN dL_port_52 ?_
        refine px_iast (j := 14) dL_port_53 pv_a_d.1 rfl (by omega) pv_a_d.2.2 pv_a_d.2.1 ?_
        refine px_istore dL_port_54 (by decide) ?_
        refine px_aload dL_port_56 rfl ?_
        refine px_bipush (v := nI 6) dL_port_58 (by decide) ?_
        refine px_iload dL_port_60 rfl ?_
        refine px_imulN dL_port_62 ?_
        refine px_iload dL_port_63 rfl ?_
        refine px_iast (j := (6 * (T 407))) dL_port_65 pv_a_po.1 rfl (by omega) pv_a_po.2.2 pv_a_po.2.1 ?_
        refine px_aload dL_port_66 rfl ?_
        refine px_bipush (v := nI 6) dL_port_68 (by decide) ?_
        refine px_iload dL_port_70 rfl ?_
        refine px_imulN dL_port_72 ?_
        refine px_iconst (v := nI 1) dL_port_73 (by decide) ?_
        refine px_iaddN dL_port_74 ?_
        refine px_iload_n dL_port_75 rfl ?_
        refine px_iconst (v := nI 3) dL_port_76 (by decide) ?_
        refine px_ishr dL_port_77 ?_
        refine px_iload_n dL_port_78 rfl ?_
        refine px_iconst (v := nI 1) dL_port_79 (by decide) ?_
        refine px_ishr dL_port_80 ?_
        refine px_iconst (v := nI 2) dL_port_81 (by decide) ?_
        refine c_L_at dL_port_82 mlL_30 (by omega) (by omega) (by omega) (Nat.le_of_ble_eq_true rfl) (fun j3 hj3 => ?_)
        refine px_if_neN (tgt := 94) dL_port_85 (by decide) (by omega) (fun h6 => ?_) (fun h6 => ?_)
        · refine px_sipush (v := nI 200) dL_port_94 (by decide) ?_
          refine c_L_at dL_port_97 mlL_30 (by omega) (by omega) (by omega) (Nat.le_of_ble_eq_true rfl) (fun j4 hj4 => ?_)
          refine px_iast (j := ((6 * (T 407)) + 1)) dL_port_100 pv_a_po.1 rfl (by omega) pv_a_po.2.2 pv_a_po.2.1 ?_
          refine px_iconst (v := nI 0) dL_port_101 (by decide) ?_
          refine px_istore dL_port_102 (by decide) ?_
          generalize hI1 : pv_uI (pv_uI (pv_uI I 365 14 (nI (T 407 + 1))) 369 (6 * T 407) (nI (T 404 + j2))) 369 (6 * T 407 + 1) (nI j4) = I1
          have hD1 : qD I1 (pt_up T 407 (T 407 + 1)) L.length := qD_of (qD_put (j := 14) (v := T 407 + 1) hQD (by omega) (by omega) (by omega)) (by rw [← hI1, pv_uI_ne (by omega), pv_uI_ne (by omega)]) (fun _ _ => rfl)
          have hF1 : ∀ j, j ≠ 365 → j ≠ 369 → I1 j = I j := fun j h1 h2 => by rw [← hI1, pv_uI_ne h2, pv_uI_ne h2, pv_uI_ne h1]
          have hP1 : ∀ j, I1 369 j = if j = 6 * T 407 + 1 then nI j4 else if j = 6 * T 407 then nI (T 404 + j2) else I 369 j := fun j => by
            rw [← hI1, pv_uI_at, pv_uI_at, pv_uI_at]
            by_cases e1 : j = 6 * T 407 + 1
            · rw [if_pos ⟨rfl, e1⟩, if_pos e1]
            · rw [if_neg (fun q => e1 q.2), if_neg e1]
              by_cases e2 : j = 6 * T 407
              · rw [if_pos ⟨rfl, e2⟩, if_pos e2]
              · rw [if_neg (fun q => e2 q.2), if_neg e2, if_neg (by omega)]
          have key : ∀ i : Nat, i ≤ 4 → ∀ I2 : pv_IT, (∀ j, j ≠ 369 → I2 j = I1 j) → (∀ j, I2 369 j = if 6 * T 407 + 2 ≤ j ∧ j < 6 * T 407 + 2 + i then 0 else I1 369 j) → pv_X (pv_ZQ E Q) E d bc bs mL_port 104 [(0, .ref 0), (1, .int x), (2, .int y), (3, .ref 365), (4, .ref 369), (5, .int (nI (T 404 + j2))), (6, .int (nI (T 407))), (7, .int (nI (i)))] [] pv_K0 pv_P0 (I2) (J) := by
            refine pv_up (4) ?_ ?_
            · intro I2 hF2 hZ
              refine px_iload dL_port_104 rfl ?_
              refine px_iconst (v := nI 4) dL_port_106 (by decide) ?_
              refine px_icmp_geN (tgt := 130) dL_port_107 (by decide) (by omega) (by omega) (fun _ => ?_) (fun h0 => absurd h0 (by omega))
              refine px_aload_n dL_port_130 rfl ?_
              refine px_iload dL_port_131 rfl ?_
              refine px_aload dL_port_133 rfl ?_
              refine px_bipush (v := nI 6) dL_port_135 (by decide) ?_
              refine px_iload dL_port_137 rfl ?_
              refine px_imulN dL_port_139 ?_
              refine px_iconst (v := nI 1) dL_port_140 (by decide) ?_
              refine px_iaddN dL_port_141 ?_
              refine px_iald (j := ((6 * T 407) + 1)) dL_port_142 pv_a_po.1 rfl (by omega) pv_a_po.2.2 pv_a_po.2.1 ?_
              refine px_iv (y := nI (j4)) (by rw [hZ, if_neg (by omega), hP1, if_pos rfl]) ?_
              have hCA2 : CA I2 ((T, L), H, B) := CA_far hCA (fun j hj => (hF2 j (by omega)).trans (hF1 j (by omega) (by omega)))
              refine c_X9_addPort dL_port_143 mlL_44 (by omega) hCA2 hw (by omega) (by omega) (by omega) (Nat.le_of_ble_eq_true rfl) (dz_ok (qt_addPort (d := T 404 + j2) (s := j4) (by omega) (by omega) (by omega) hon) fun I3 hCA3 hG3 => ?_)
              have hpo := qt_addPort (T := T) (L := L) (H := H) (B := B) (d := T 404 + j2) (s := j4) (by omega) (by omega) (by omega) hon
              have hw2 := wx_addPort (d := nI (T 404 + j2)) (s := nI j4) hw
              rw [hpo] at hw2
              generalize hpl9 : pt_place T (T 404 + j2) = pl at hCA3 hw2 hpl
              have e407 : pt_ins T pl (T 404 + j2) j4 407 = T 407 + 1 := by unfold pt_ins; rw [if_pos rfl]
              have eT : ∀ i, i < 324 ∨ 404 ≤ i → i ≠ 407 → pt_ins T pl (T 404 + j2) j4 i = T i := fun i h1 h2 => qt_ins_out h1 h2 (by omega) hpl
              have eP : ∀ p z, z < 10 → p ≤ T 407 → pt_ins T pl (T 404 + j2) j4 (324 + 10 * p + z) = if p < pl then T (324 + 10 * p + z) else if p = pl then (if z = 0 then T 404 + j2 else if z = 1 then j4 else 0) else T (314 + 10 * p + z) := fun p z h1 h2 => pt_ins_at h1 h2 (by omega) hpl
              generalize hT' : pt_ins T pl (T 404 + j2) j4 = T' at hCA3 hw2 e407 eT eP
              have hR' : qR (T' 407) (q_r r (T 407) pl) (q_g g (T 407) pl) := by rw [e407]; exact q_ins hQR hpl
              have hD3 : qD I3 T' L.length := qD_of hD1 ((hG3 365 (by omega)).trans (hF2 365 (by omega))) (fun j hj => by
                unfold pt_up
                by_cases e : dT j = 407
                · rw [if_pos e, e]; exact e407
                · rw [if_neg e]
                  exact eT _ (by have := dT_ge hj; omega) e)
              have hM3 : ∀ j, I3 369 j = if 6 * T 407 + 2 ≤ j ∧ j < 6 * T 407 + 2 + 4 then 0 else if j = 6 * T 407 + 1 then nI j4 else if j = 6 * T 407 then nI (T 404 + j2) else I 369 j := fun j => by rw [hG3 369 (by omega), hZ, hP1]
              have hP3 : qP I3 T' (q_r r (T 407) pl) := by
                intro p hp
                rw [e407] at hp
                have key : ∀ z, z < 10 → p ≠ T 407 → T' (324 + 10 * q_r r (T 407) pl p + z) = T (324 + 10 * r p + z) := fun z hz hpn => by
                  have h2 := (hQR.1 p (by omega)).1
                  unfold q_r
                  rw [if_neg hpn]
                  by_cases e2 : r p < pl
                  · rw [if_pos e2, eP _ _ hz (by omega), if_pos e2]
                  · rw [if_neg e2, eP _ _ hz (by omega), if_neg (by omega), if_neg (by omega)]
                    exact congrArg T (by omega)
                have key2 : ∀ z, z < 10 → T' (324 + 10 * q_r r (T 407) pl (T 407) + z) = if z = 0 then T 404 + j2 else if z = 1 then j4 else 0 := fun z hz => by
                  unfold q_r
                  rw [if_pos rfl, eP _ _ hz hpl, if_neg (by omega), if_pos rfl]
                by_cases e : p = T 407
                · subst e
                  refine ⟨?_, ?_, fun k hk => ?_⟩
                  · rw [hM3, if_neg (by omega), if_neg (by omega), if_pos rfl]
                    exact congrArg nI (key2 0 (by omega)).symm
                  · rw [hM3, if_neg (by omega), if_pos rfl, show 325 + 10 * q_r r (T 407) pl (T 407) = 324 + 10 * q_r r (T 407) pl (T 407) + 1 by omega, key2 1 (by omega)]
                    rfl
                  · rw [hM3, if_pos (by omega), show 326 + 10 * q_r r (T 407) pl (T 407) + k = 324 + 10 * q_r r (T 407) pl (T 407) + (2 + k) by omega, key2 (2 + k) (by omega), if_neg (by omega), if_neg (by omega)]
                    rfl
                · have h1 := hQP p (by omega)
                  refine ⟨?_, ?_, fun k hk => ?_⟩
                  · rw [hM3, if_neg (by omega), if_neg (by omega), if_neg (by omega), h1.1]
                    exact congrArg nI (key 0 (by omega) e).symm
                  · rw [hM3, if_neg (by omega), if_neg (by omega), if_neg (by omega), h1.2.1, show 325 + 10 * q_r r (T 407) pl p = 324 + 10 * q_r r (T 407) pl p + 1 by omega, key 1 (by omega) e]
                    exact congrArg nI (congrArg T (by omega))
                  · rw [hM3, if_neg (by omega), if_neg (by omega), if_neg (by omega), h1.2.2 k hk, show 326 + 10 * q_r r (T 407) pl p + k = 324 + 10 * q_r r (T 407) pl p + (2 + k) by omega, key (2 + k) (by omega) e]
                    exact congrArg nI (congrArg T (by omega))
              have hpw3 : pw T' := hw2.1.1.1.2.2.2.2.2.1
              refine px_iload dL_port_146 rfl ?_
              refine px_aload_n dL_port_148 rfl ?_
              refine px_aload dL_port_149 rfl ?_
              refine c_L_number dL_port_151 mlL_47 (by omega) hD3 hP3 hR' hpw3 (by omega) (by omega) (Nat.le_of_ble_eq_true rfl) ?_
              rw [show q_r r (T 407) pl (T 407) = pl from if_pos rfl]
              refine px_icmp_ne (tgt := 161) dL_port_154 (by decide) (fun h9 => absurd rfl h9) (fun _ => ?_)
              refine px_iconst (v := nI 1) dL_port_157 (by decide) ?_
              refine px_goto (tgt := 162) dL_port_158 (by decide) ?_
              refine px_zret dL_port_162 rfl rfl (Or.inl rfl) (h I3 ((T', L), h_push H (T, L), B) ⟨hCA3, hw2, ⟨_, _, hD3, qK_of hQK ((hG3 366 (by omega)).trans ((hF2 366 (by omega)).trans (hF1 366 (by omega) (by omega)))) (eT 405 (by omega) (by omega)) hn8 (fun i hi => eT i (by omega) (by omega)), qL_of hQL ((hG3 367 (by omega)).trans ((hF2 367 (by omega)).trans (hF1 367 (by omega) (by omega)))), qM_of hQM ((hG3 368 (by omega)).trans ((hF2 368 (by omega)).trans (hF1 368 (by omega) (by omega)))) h10 (fun m hm => (htb.2.2.2.2.2.2.2.2 m hm).1) (fun i hi => eT i (by omega) (by omega)), hP3, hR'⟩, ⟨?_, q11, ?_, ?_, ?_⟩, ?_, ?_, ?_, ?_⟩)
              · show T' 405 ≤ 4
                rw [eT 405 (by omega) (by omega)]; exact q4
              · show T' 408 ≤ 3
                rw [eT 408 (by omega) (by omega)]; exact q3
              · intro m hm
                replace hm : m < T' 408 := hm
                rw [eT 408 (by omega) (by omega)] at hm
                show T' (314 + m) ≤ 3
                rw [eT _ (by omega) (by omega)]; exact qm3 m hm
              · show T' 407 ≤ 4
                omega
              · intro s hs
                show ps_in L s ≤ T' (64 + s)
                rw [eT _ (by omega) (by omega)]; exact hin s hs
              · intro k hk
                replace hk : k < T' 405 := hk
                rw [eT 405 (by omega) (by omega)] at hk
                show T' (24 + 5 * k) = T' (25 + 5 * k) + T' (26 + 5 * k) + T' (27 + 5 * k) + ps_of L k
                rw [eT _ (by omega) (by omega), eT _ (by omega) (by omega), eT _ (by omega) (by omega), eT _ (by omega) (by omega)]
                exact hacc k hk
              · show T' 404 ≤ 20 * (n + 1 - 6)
                rw [eT 404 (by omega) (by omega)]; omega
              · show T' 410 ≤ 10000 + 2000 * (n + 1)
                rw [eT 410 (by omega) (by omega)]; omega
            · intro i hi K9 I2 hF2 hZ
              refine px_iload dL_port_104 rfl ?_
              refine px_iconst (v := nI 4) dL_port_106 (by decide) ?_
              refine px_icmp_geN (tgt := 130) dL_port_107 (by decide) (by omega) (by omega) (fun h0 => absurd h0 (by omega)) (fun _ => ?_)
              refine px_aload dL_port_110 rfl ?_
              refine px_bipush (v := nI 6) dL_port_112 (by decide) ?_
              refine px_iload dL_port_114 rfl ?_
              refine px_imulN dL_port_116 ?_
              refine px_iconst (v := nI 2) dL_port_117 (by decide) ?_
              refine px_iaddN dL_port_118 ?_
              refine px_iload dL_port_119 rfl ?_
              refine px_iaddN dL_port_121 ?_
              refine px_iconst (v := nI 0) dL_port_122 (by decide) ?_
              refine px_iast (j := (((6 * T 407) + 2) + i)) dL_port_123 pv_a_po.1 rfl (by omega) pv_a_po.2.2 pv_a_po.2.1 ?_
              refine px_iincN (c := 1) (by decide) dL_port_124 rfl (by decide) ?_
              refine px_goto (tgt := 104) dL_port_127 (by decide) ?_
              refine px_keep [0, 1, 2, 3, 4, 5, 6, 7] ?_
              refine K9 _ (fun j hj => (pv_uI_ne hj).trans (hF2 j hj)) (fun j => ?_)
              rw [pv_uI_at]
              by_cases e : j = 6 * T 407 + 2 + i
              · subst e
                rw [if_pos ⟨rfl, rfl⟩, if_pos (by omega)]
                rfl
              · rw [if_neg (fun q => e q.2), hZ]
                by_cases e2 : 6 * T 407 + 2 ≤ j ∧ j < 6 * T 407 + 2 + i
                · rw [if_pos e2, if_pos (by omega)]
                · rw [if_neg e2, if_neg (by omega)]
          exact key 0 (by omega) I1 (fun _ _ => rfl) (fun j => by rw [if_neg (by omega)])
        · refine px_sipush (v := nI 901) dL_port_88 (by decide) ?_
          refine px_goto (tgt := 97) dL_port_91 (by decide) ?_
          refine c_L_at dL_port_97 mlL_30 (by omega) (by omega) (by omega) (Nat.le_of_ble_eq_true rfl) (fun j4 hj4 => ?_)
          refine px_iast (j := ((6 * (T 407)) + 1)) dL_port_100 pv_a_po.1 rfl (by omega) pv_a_po.2.2 pv_a_po.2.1 ?_
          refine px_iconst (v := nI 0) dL_port_101 (by decide) ?_
          refine px_istore dL_port_102 (by decide) ?_
          generalize hI1 : pv_uI (pv_uI (pv_uI I 365 14 (nI (T 407 + 1))) 369 (6 * T 407) (nI (T 404 + j2))) 369 (6 * T 407 + 1) (nI j4) = I1
          have hD1 : qD I1 (pt_up T 407 (T 407 + 1)) L.length := qD_of (qD_put (j := 14) (v := T 407 + 1) hQD (by omega) (by omega) (by omega)) (by rw [← hI1, pv_uI_ne (by omega), pv_uI_ne (by omega)]) (fun _ _ => rfl)
          have hF1 : ∀ j, j ≠ 365 → j ≠ 369 → I1 j = I j := fun j h1 h2 => by rw [← hI1, pv_uI_ne h2, pv_uI_ne h2, pv_uI_ne h1]
          have hP1 : ∀ j, I1 369 j = if j = 6 * T 407 + 1 then nI j4 else if j = 6 * T 407 then nI (T 404 + j2) else I 369 j := fun j => by
            rw [← hI1, pv_uI_at, pv_uI_at, pv_uI_at]
            by_cases e1 : j = 6 * T 407 + 1
            · rw [if_pos ⟨rfl, e1⟩, if_pos e1]
            · rw [if_neg (fun q => e1 q.2), if_neg e1]
              by_cases e2 : j = 6 * T 407
              · rw [if_pos ⟨rfl, e2⟩, if_pos e2]
              · rw [if_neg (fun q => e2 q.2), if_neg e2, if_neg (by omega)]
          have key : ∀ i : Nat, i ≤ 4 → ∀ I2 : pv_IT, (∀ j, j ≠ 369 → I2 j = I1 j) → (∀ j, I2 369 j = if 6 * T 407 + 2 ≤ j ∧ j < 6 * T 407 + 2 + i then 0 else I1 369 j) → pv_X (pv_ZQ E Q) E d bc bs mL_port 104 [(0, .ref 0), (1, .int x), (2, .int y), (3, .ref 365), (4, .ref 369), (5, .int (nI (T 404 + j2))), (6, .int (nI (T 407))), (7, .int (nI (i)))] [] pv_K0 pv_P0 (I2) (J) := by
            refine pv_up (4) ?_ ?_
            · intro I2 hF2 hZ
              refine px_iload dL_port_104 rfl ?_
              refine px_iconst (v := nI 4) dL_port_106 (by decide) ?_
              refine px_icmp_geN (tgt := 130) dL_port_107 (by decide) (by omega) (by omega) (fun _ => ?_) (fun h0 => absurd h0 (by omega))
              refine px_aload_n dL_port_130 rfl ?_
              refine px_iload dL_port_131 rfl ?_
              refine px_aload dL_port_133 rfl ?_
              refine px_bipush (v := nI 6) dL_port_135 (by decide) ?_
              refine px_iload dL_port_137 rfl ?_
              refine px_imulN dL_port_139 ?_
              refine px_iconst (v := nI 1) dL_port_140 (by decide) ?_
              refine px_iaddN dL_port_141 ?_
              refine px_iald (j := ((6 * T 407) + 1)) dL_port_142 pv_a_po.1 rfl (by omega) pv_a_po.2.2 pv_a_po.2.1 ?_
              refine px_iv (y := nI (j4)) (by rw [hZ, if_neg (by omega), hP1, if_pos rfl]) ?_
              have hCA2 : CA I2 ((T, L), H, B) := CA_far hCA (fun j hj => (hF2 j (by omega)).trans (hF1 j (by omega) (by omega)))
              refine c_X9_addPort dL_port_143 mlL_44 (by omega) hCA2 hw (by omega) (by omega) (by omega) (Nat.le_of_ble_eq_true rfl) (dz_ok (qt_addPort (d := T 404 + j2) (s := j4) (by omega) (by omega) (by omega) hon) fun I3 hCA3 hG3 => ?_)
              have hpo := qt_addPort (T := T) (L := L) (H := H) (B := B) (d := T 404 + j2) (s := j4) (by omega) (by omega) (by omega) hon
              have hw2 := wx_addPort (d := nI (T 404 + j2)) (s := nI j4) hw
              rw [hpo] at hw2
              generalize hpl9 : pt_place T (T 404 + j2) = pl at hCA3 hw2 hpl
              have e407 : pt_ins T pl (T 404 + j2) j4 407 = T 407 + 1 := by unfold pt_ins; rw [if_pos rfl]
              have eT : ∀ i, i < 324 ∨ 404 ≤ i → i ≠ 407 → pt_ins T pl (T 404 + j2) j4 i = T i := fun i h1 h2 => qt_ins_out h1 h2 (by omega) hpl
              have eP : ∀ p z, z < 10 → p ≤ T 407 → pt_ins T pl (T 404 + j2) j4 (324 + 10 * p + z) = if p < pl then T (324 + 10 * p + z) else if p = pl then (if z = 0 then T 404 + j2 else if z = 1 then j4 else 0) else T (314 + 10 * p + z) := fun p z h1 h2 => pt_ins_at h1 h2 (by omega) hpl
              generalize hT' : pt_ins T pl (T 404 + j2) j4 = T' at hCA3 hw2 e407 eT eP
              have hR' : qR (T' 407) (q_r r (T 407) pl) (q_g g (T 407) pl) := by rw [e407]; exact q_ins hQR hpl
              have hD3 : qD I3 T' L.length := qD_of hD1 ((hG3 365 (by omega)).trans (hF2 365 (by omega))) (fun j hj => by
                unfold pt_up
                by_cases e : dT j = 407
                · rw [if_pos e, e]; exact e407
                · rw [if_neg e]
                  exact eT _ (by have := dT_ge hj; omega) e)
              have hM3 : ∀ j, I3 369 j = if 6 * T 407 + 2 ≤ j ∧ j < 6 * T 407 + 2 + 4 then 0 else if j = 6 * T 407 + 1 then nI j4 else if j = 6 * T 407 then nI (T 404 + j2) else I 369 j := fun j => by rw [hG3 369 (by omega), hZ, hP1]
              have hP3 : qP I3 T' (q_r r (T 407) pl) := by
                intro p hp
                rw [e407] at hp
                have key : ∀ z, z < 10 → p ≠ T 407 → T' (324 + 10 * q_r r (T 407) pl p + z) = T (324 + 10 * r p + z) := fun z hz hpn => by
                  have h2 := (hQR.1 p (by omega)).1
                  unfold q_r
                  rw [if_neg hpn]
                  by_cases e2 : r p < pl
                  · rw [if_pos e2, eP _ _ hz (by omega), if_pos e2]
                  · rw [if_neg e2, eP _ _ hz (by omega), if_neg (by omega), if_neg (by omega)]
                    exact congrArg T (by omega)
                have key2 : ∀ z, z < 10 → T' (324 + 10 * q_r r (T 407) pl (T 407) + z) = if z = 0 then T 404 + j2 else if z = 1 then j4 else 0 := fun z hz => by
                  unfold q_r
                  rw [if_pos rfl, eP _ _ hz hpl, if_neg (by omega), if_pos rfl]
                by_cases e : p = T 407
                · subst e
                  refine ⟨?_, ?_, fun k hk => ?_⟩
                  · rw [hM3, if_neg (by omega), if_neg (by omega), if_pos rfl]
                    exact congrArg nI (key2 0 (by omega)).symm
                  · rw [hM3, if_neg (by omega), if_pos rfl, show 325 + 10 * q_r r (T 407) pl (T 407) = 324 + 10 * q_r r (T 407) pl (T 407) + 1 by omega, key2 1 (by omega)]
                    rfl
                  · rw [hM3, if_pos (by omega), show 326 + 10 * q_r r (T 407) pl (T 407) + k = 324 + 10 * q_r r (T 407) pl (T 407) + (2 + k) by omega, key2 (2 + k) (by omega), if_neg (by omega), if_neg (by omega)]
                    rfl
                · have h1 := hQP p (by omega)
                  refine ⟨?_, ?_, fun k hk => ?_⟩
                  · rw [hM3, if_neg (by omega), if_neg (by omega), if_neg (by omega), h1.1]
                    exact congrArg nI (key 0 (by omega) e).symm
                  · rw [hM3, if_neg (by omega), if_neg (by omega), if_neg (by omega), h1.2.1, show 325 + 10 * q_r r (T 407) pl p = 324 + 10 * q_r r (T 407) pl p + 1 by omega, key 1 (by omega) e]
                    exact congrArg nI (congrArg T (by omega))
                  · rw [hM3, if_neg (by omega), if_neg (by omega), if_neg (by omega), h1.2.2 k hk, show 326 + 10 * q_r r (T 407) pl p + k = 324 + 10 * q_r r (T 407) pl p + (2 + k) by omega, key (2 + k) (by omega) e]
                    exact congrArg nI (congrArg T (by omega))
              have hpw3 : pw T' := hw2.1.1.1.2.2.2.2.2.1
              refine px_iload dL_port_146 rfl ?_
              refine px_aload_n dL_port_148 rfl ?_
              refine px_aload dL_port_149 rfl ?_
              refine c_L_number dL_port_151 mlL_47 (by omega) hD3 hP3 hR' hpw3 (by omega) (by omega) (Nat.le_of_ble_eq_true rfl) ?_
              rw [show q_r r (T 407) pl (T 407) = pl from if_pos rfl]
              refine px_icmp_ne (tgt := 161) dL_port_154 (by decide) (fun h9 => absurd rfl h9) (fun _ => ?_)
              refine px_iconst (v := nI 1) dL_port_157 (by decide) ?_
              refine px_goto (tgt := 162) dL_port_158 (by decide) ?_
              refine px_zret dL_port_162 rfl rfl (Or.inl rfl) (h I3 ((T', L), h_push H (T, L), B) ⟨hCA3, hw2, ⟨_, _, hD3, qK_of hQK ((hG3 366 (by omega)).trans ((hF2 366 (by omega)).trans (hF1 366 (by omega) (by omega)))) (eT 405 (by omega) (by omega)) hn8 (fun i hi => eT i (by omega) (by omega)), qL_of hQL ((hG3 367 (by omega)).trans ((hF2 367 (by omega)).trans (hF1 367 (by omega) (by omega)))), qM_of hQM ((hG3 368 (by omega)).trans ((hF2 368 (by omega)).trans (hF1 368 (by omega) (by omega)))) h10 (fun m hm => (htb.2.2.2.2.2.2.2.2 m hm).1) (fun i hi => eT i (by omega) (by omega)), hP3, hR'⟩, ⟨?_, q11, ?_, ?_, ?_⟩, ?_, ?_, ?_, ?_⟩)
              · show T' 405 ≤ 4
                rw [eT 405 (by omega) (by omega)]; exact q4
              · show T' 408 ≤ 3
                rw [eT 408 (by omega) (by omega)]; exact q3
              · intro m hm
                replace hm : m < T' 408 := hm
                rw [eT 408 (by omega) (by omega)] at hm
                show T' (314 + m) ≤ 3
                rw [eT _ (by omega) (by omega)]; exact qm3 m hm
              · show T' 407 ≤ 4
                omega
              · intro s hs
                show ps_in L s ≤ T' (64 + s)
                rw [eT _ (by omega) (by omega)]; exact hin s hs
              · intro k hk
                replace hk : k < T' 405 := hk
                rw [eT 405 (by omega) (by omega)] at hk
                show T' (24 + 5 * k) = T' (25 + 5 * k) + T' (26 + 5 * k) + T' (27 + 5 * k) + ps_of L k
                rw [eT _ (by omega) (by omega), eT _ (by omega) (by omega), eT _ (by omega) (by omega), eT _ (by omega) (by omega)]
                exact hacc k hk
              · show T' 404 ≤ 20 * (n + 1 - 6)
                rw [eT 404 (by omega) (by omega)]; omega
              · show T' 410 ≤ 10000 + 2000 * (n + 1)
                rw [eT 410 (by omega) (by omega)]; omega
            · intro i hi K9 I2 hF2 hZ
              refine px_iload dL_port_104 rfl ?_
              refine px_iconst (v := nI 4) dL_port_106 (by decide) ?_
              refine px_icmp_geN (tgt := 130) dL_port_107 (by decide) (by omega) (by omega) (fun h0 => absurd h0 (by omega)) (fun _ => ?_)
              refine px_aload dL_port_110 rfl ?_
              refine px_bipush (v := nI 6) dL_port_112 (by decide) ?_
              refine px_iload dL_port_114 rfl ?_
              refine px_imulN dL_port_116 ?_
              refine px_iconst (v := nI 2) dL_port_117 (by decide) ?_
              refine px_iaddN dL_port_118 ?_
              refine px_iload dL_port_119 rfl ?_
              refine px_iaddN dL_port_121 ?_
              refine px_iconst (v := nI 0) dL_port_122 (by decide) ?_
              refine px_iast (j := (((6 * T 407) + 2) + i)) dL_port_123 pv_a_po.1 rfl (by omega) pv_a_po.2.2 pv_a_po.2.1 ?_
              refine px_iincN (c := 1) (by decide) dL_port_124 rfl (by decide) ?_
              refine px_goto (tgt := 104) dL_port_127 (by decide) ?_
              refine px_keep [0, 1, 2, 3, 4, 5, 6, 7] ?_
              refine K9 _ (fun j hj => (pv_uI_ne hj).trans (hF2 j hj)) (fun j => ?_)
              rw [pv_uI_at]
              by_cases e : j = 6 * T 407 + 2 + i
              · subst e
                rw [if_pos ⟨rfl, rfl⟩, if_pos (by omega)]
                rfl
              · rw [if_neg (fun q => e q.2), hZ]
                by_cases e2 : 6 * T 407 + 2 ≤ j ∧ j < 6 * T 407 + 2 + i
                · rw [if_pos e2, if_pos (by omega)]
                · rw [if_neg e2, if_neg (by omega)]
          exact key 0 (by omega) I1 (fun _ _ => rfl) (fun j => by rw [if_neg (by omega)])
  · refine px_iconst (v := nI 2) dL_port_12 (by decide) ?_
    refine px_goto (tgt := 18) dL_port_13 (by decide) ?_
    refine c_L_at dL_port_18 mlL_30 (by omega) (by omega) (by omega) (Nat.le_of_ble_eq_true rfl) (fun j2 hj2 => ?_)
    refine px_iaddN dL_port_21 ?_
    refine px_istore dL_port_22 (by decide) ?_
    refine px_aload_n dL_port_24 rfl ?_
    refine px_bipush (v := nI 14) dL_port_25 (by decide) ?_
    refine px_iald (j := 14) dL_port_27 pv_a_d.1 rfl (by omega) pv_a_d.2.2 pv_a_d.2.1 ?_
    refine px_iv (y := nI (T 407)) (qD_14 hQD) ?_
    refine px_iconst (v := nI 4) dL_port_28 (by decide) ?_
    refine px_icmp_eqN (tgt := 43) dL_port_29 (by decide) (by omega) (by omega) (fun h5 => ?_) (fun h5 => ?_)
    · refine px_iconst (v := nI 1) dL_port_43 (by decide) ?_
      exact px_zret dL_port_44 rfl rfl (Or.inl rfl) (h I ((T, L), H, B) (qW_mono hW))
    · refine px_iload dL_port_32 rfl ?_
      refine px_aload_n dL_port_34 rfl ?_
      refine px_aload dL_port_35 rfl ?_
      refine c_L_portOf dL_port_37 mlL_40 (by omega) hQD hQP hQR hpw qp4 (by omega) (Nat.le_of_ble_eq_true rfl) ?_
      cases e : q_at T r (T 404 + j2) with
      | some p9 =>
        have hp9 := (pf_is e).1
        refine px_if_lt (tgt := 45) dL_port_40 (by decide) (fun h9 => absurd h9 (nI_pos (n := p9) (by omega))) (fun _ => ?_)
        refine px_iconst (v := nI 1) dL_port_43 (by decide) ?_
        exact px_zret dL_port_44 rfl rfl (Or.inl rfl) (h I ((T, L), H, B) (qW_mono hW))
      | none =>
        refine px_if_lt (tgt := 45) dL_port_40 (by decide) (fun _ => ?_) (fun h9 => absurd (by decide) h9)
        have hon : pt_on T (T 404 + j2) = none := q_at_none hQR e
        have hpl : pt_place T (T 404 + j2) ≤ T 407 := qt_place (L := L) hpw _
        refine px_aload_n dL_port_45 rfl ?_
        refine px_bipush (v := nI 14) dL_port_46 (by decide) ?_
        refine px_dup2 dL_port_48 rfl rfl ?_
        refine px_iald (j := 14) dL_port_49 pv_a_d.1 rfl (by omega) pv_a_d.2.2 pv_a_d.2.1 ?_
        refine px_iv (y := nI (T 407)) (qD_14 hQD) ?_
        refine px_dup_x2 dL_port_50 rfl rfl rfl ?_
        refine px_iconst (v := nI 1) dL_port_51 (by decide) ?_
        refine px_iaddN dL_port_52 ?_
        refine px_iast (j := 14) dL_port_53 pv_a_d.1 rfl (by omega) pv_a_d.2.2 pv_a_d.2.1 ?_
        refine px_istore dL_port_54 (by decide) ?_
        refine px_aload dL_port_56 rfl ?_
        refine px_bipush (v := nI 6) dL_port_58 (by decide) ?_
        refine px_iload dL_port_60 rfl ?_
        refine px_imulN dL_port_62 ?_
        refine px_iload dL_port_63 rfl ?_
        refine px_iast (j := (6 * (T 407))) dL_port_65 pv_a_po.1 rfl (by omega) pv_a_po.2.2 pv_a_po.2.1 ?_
        refine px_aload dL_port_66 rfl ?_
        refine px_bipush (v := nI 6) dL_port_68 (by decide) ?_
        refine px_iload dL_port_70 rfl ?_
        refine px_imulN dL_port_72 ?_
        refine px_iconst (v := nI 1) dL_port_73 (by decide) ?_
        refine px_iaddN dL_port_74 ?_
        refine px_iload_n dL_port_75 rfl ?_
        refine px_iconst (v := nI 3) dL_port_76 (by decide) ?_
        refine px_ishr dL_port_77 ?_
        refine px_iload_n dL_port_78 rfl ?_
        refine px_iconst (v := nI 1) dL_port_79 (by decide) ?_
        refine px_ishr dL_port_80 ?_
        refine px_iconst (v := nI 2) dL_port_81 (by decide) ?_
        refine c_L_at dL_port_82 mlL_30 (by omega) (by omega) (by omega) (Nat.le_of_ble_eq_true rfl) (fun j3 hj3 => ?_)
        refine px_if_neN (tgt := 94) dL_port_85 (by decide) (by omega) (fun h6 => ?_) (fun h6 => ?_)
        · refine px_sipush (v := nI 200) dL_port_94 (by decide) ?_
          refine c_L_at dL_port_97 mlL_30 (by omega) (by omega) (by omega) (Nat.le_of_ble_eq_true rfl) (fun j4 hj4 => ?_)
          refine px_iast (j := ((6 * (T 407)) + 1)) dL_port_100 pv_a_po.1 rfl (by omega) pv_a_po.2.2 pv_a_po.2.1 ?_
          refine px_iconst (v := nI 0) dL_port_101 (by decide) ?_
          refine px_istore dL_port_102 (by decide) ?_
          generalize hI1 : pv_uI (pv_uI (pv_uI I 365 14 (nI (T 407 + 1))) 369 (6 * T 407) (nI (T 404 + j2))) 369 (6 * T 407 + 1) (nI j4) = I1
          have hD1 : qD I1 (pt_up T 407 (T 407 + 1)) L.length := qD_of (qD_put (j := 14) (v := T 407 + 1) hQD (by omega) (by omega) (by omega)) (by rw [← hI1, pv_uI_ne (by omega), pv_uI_ne (by omega)]) (fun _ _ => rfl)
          have hF1 : ∀ j, j ≠ 365 → j ≠ 369 → I1 j = I j := fun j h1 h2 => by rw [← hI1, pv_uI_ne h2, pv_uI_ne h2, pv_uI_ne h1]
          have hP1 : ∀ j, I1 369 j = if j = 6 * T 407 + 1 then nI j4 else if j = 6 * T 407 then nI (T 404 + j2) else I 369 j := fun j => by
            rw [← hI1, pv_uI_at, pv_uI_at, pv_uI_at]
            by_cases e1 : j = 6 * T 407 + 1
            · rw [if_pos ⟨rfl, e1⟩, if_pos e1]
            · rw [if_neg (fun q => e1 q.2), if_neg e1]
              by_cases e2 : j = 6 * T 407
              · rw [if_pos ⟨rfl, e2⟩, if_pos e2]
              · rw [if_neg (fun q => e2 q.2), if_neg e2, if_neg (by omega)]
          have key : ∀ i : Nat, i ≤ 4 → ∀ I2 : pv_IT, (∀ j, j ≠ 369 → I2 j = I1 j) → (∀ j, I2 369 j = if 6 * T 407 + 2 ≤ j ∧ j < 6 * T 407 + 2 + i then 0 else I1 369 j) → pv_X (pv_ZQ E Q) E d bc bs mL_port 104 [(0, .ref 0), (1, .int x), (2, .int y), (3, .ref 365), (4, .ref 369), (5, .int (nI (T 404 + j2))), (6, .int (nI (T 407))), (7, .int (nI (i)))] [] pv_K0 pv_P0 (I2) (J) := by
            refine pv_up (4) ?_ ?_
            · intro I2 hF2 hZ
              refine px_iload dL_port_104 rfl ?_
              refine px_iconst (v := nI 4) dL_port_106 (by decide) ?_
              refine px_icmp_geN (tgt := 130) dL_port_107 (by decide) (by omega) (by omega) (fun _ => ?_) (fun h0 => absurd h0 (by omega))
              refine px_aload_n dL_port_130 rfl ?_
              refine px_iload dL_port_131 rfl ?_
              refine px_aload dL_port_133 rfl ?_
              refine px_bipush (v := nI 6) dL_port_135 (by decide) ?_
              refine px_iload dL_port_137 rfl ?_
              refine px_imulN dL_port_139 ?_
              refine px_iconst (v := nI 1) dL_port_140 (by decide) ?_
              refine px_iaddN dL_port_141 ?_
              refine px_iald (j := ((6 * T 407) + 1)) dL_port_142 pv_a_po.1 rfl (by omega) pv_a_po.2.2 pv_a_po.2.1 ?_
              refine px_iv (y := nI (j4)) (by rw [hZ, if_neg (by omega), hP1, if_pos rfl]) ?_
              have hCA2 : CA I2 ((T, L), H, B) := CA_far hCA (fun j hj => (hF2 j (by omega)).trans (hF1 j (by omega) (by omega)))
              refine c_X9_addPort dL_port_143 mlL_44 (by omega) hCA2 hw (by omega) (by omega) (by omega) (Nat.le_of_ble_eq_true rfl) (dz_ok (qt_addPort (d := T 404 + j2) (s := j4) (by omega) (by omega) (by omega) hon) fun I3 hCA3 hG3 => ?_)
              have hpo := qt_addPort (T := T) (L := L) (H := H) (B := B) (d := T 404 + j2) (s := j4) (by omega) (by omega) (by omega) hon
              have hw2 := wx_addPort (d := nI (T 404 + j2)) (s := nI j4) hw
              rw [hpo] at hw2
              generalize hpl9 : pt_place T (T 404 + j2) = pl at hCA3 hw2 hpl
              have e407 : pt_ins T pl (T 404 + j2) j4 407 = T 407 + 1 := by unfold pt_ins; rw [if_pos rfl]
              have eT : ∀ i, i < 324 ∨ 404 ≤ i → i ≠ 407 → pt_ins T pl (T 404 + j2) j4 i = T i := fun i h1 h2 => qt_ins_out h1 h2 (by omega) hpl
              have eP : ∀ p z, z < 10 → p ≤ T 407 → pt_ins T pl (T 404 + j2) j4 (324 + 10 * p + z) = if p < pl then T (324 + 10 * p + z) else if p = pl then (if z = 0 then T 404 + j2 else if z = 1 then j4 else 0) else T (314 + 10 * p + z) := fun p z h1 h2 => pt_ins_at h1 h2 (by omega) hpl
              generalize hT' : pt_ins T pl (T 404 + j2) j4 = T' at hCA3 hw2 e407 eT eP
              have hR' : qR (T' 407) (q_r r (T 407) pl) (q_g g (T 407) pl) := by rw [e407]; exact q_ins hQR hpl
              have hD3 : qD I3 T' L.length := qD_of hD1 ((hG3 365 (by omega)).trans (hF2 365 (by omega))) (fun j hj => by
                unfold pt_up
                by_cases e : dT j = 407
                · rw [if_pos e, e]; exact e407
                · rw [if_neg e]
                  exact eT _ (by have := dT_ge hj; omega) e)
              have hM3 : ∀ j, I3 369 j = if 6 * T 407 + 2 ≤ j ∧ j < 6 * T 407 + 2 + 4 then 0 else if j = 6 * T 407 + 1 then nI j4 else if j = 6 * T 407 then nI (T 404 + j2) else I 369 j := fun j => by rw [hG3 369 (by omega), hZ, hP1]
              have hP3 : qP I3 T' (q_r r (T 407) pl) := by
                intro p hp
                rw [e407] at hp
                have key : ∀ z, z < 10 → p ≠ T 407 → T' (324 + 10 * q_r r (T 407) pl p + z) = T (324 + 10 * r p + z) := fun z hz hpn => by
                  have h2 := (hQR.1 p (by omega)).1
                  unfold q_r
                  rw [if_neg hpn]
                  by_cases e2 : r p < pl
                  · rw [if_pos e2, eP _ _ hz (by omega), if_pos e2]
                  · rw [if_neg e2, eP _ _ hz (by omega), if_neg (by omega), if_neg (by omega)]
                    exact congrArg T (by omega)
                have key2 : ∀ z, z < 10 → T' (324 + 10 * q_r r (T 407) pl (T 407) + z) = if z = 0 then T 404 + j2 else if z = 1 then j4 else 0 := fun z hz => by
                  unfold q_r
                  rw [if_pos rfl, eP _ _ hz hpl, if_neg (by omega), if_pos rfl]
                by_cases e : p = T 407
                · subst e
                  refine ⟨?_, ?_, fun k hk => ?_⟩
                  · rw [hM3, if_neg (by omega), if_neg (by omega), if_pos rfl]
                    exact congrArg nI (key2 0 (by omega)).symm
                  · rw [hM3, if_neg (by omega), if_pos rfl, show 325 + 10 * q_r r (T 407) pl (T 407) = 324 + 10 * q_r r (T 407) pl (T 407) + 1 by omega, key2 1 (by omega)]
                    rfl
                  · rw [hM3, if_pos (by omega), show 326 + 10 * q_r r (T 407) pl (T 407) + k = 324 + 10 * q_r r (T 407) pl (T 407) + (2 + k) by omega, key2 (2 + k) (by omega), if_neg (by omega), if_neg (by omega)]
                    rfl
                · have h1 := hQP p (by omega)
                  refine ⟨?_, ?_, fun k hk => ?_⟩
                  · rw [hM3, if_neg (by omega), if_neg (by omega), if_neg (by omega), h1.1]
                    exact congrArg nI (key 0 (by omega) e).symm
                  · rw [hM3, if_neg (by omega), if_neg (by omega), if_neg (by omega), h1.2.1, show 325 + 10 * q_r r (T 407) pl p = 324 + 10 * q_r r (T 407) pl p + 1 by omega, key 1 (by omega) e]
                    exact congrArg nI (congrArg T (by omega))
                  · rw [hM3, if_neg (by omega), if_neg (by omega), if_neg (by omega), h1.2.2 k hk, show 326 + 10 * q_r r (T 407) pl p + k = 324 + 10 * q_r r (T 407) pl p + (2 + k) by omega, key (2 + k) (by omega) e]
                    exact congrArg nI (congrArg T (by omega))
              have hpw3 : pw T' := hw2.1.1.1.2.2.2.2.2.1
              refine px_iload dL_port_146 rfl ?_
              refine px_aload_n dL_port_148 rfl ?_
              refine px_aload dL_port_149 rfl ?_
              refine c_L_number dL_port_151 mlL_47 (by omega) hD3 hP3 hR' hpw3 (by omega) (by omega) (Nat.le_of_ble_eq_true rfl) ?_
              rw [show q_r r (T 407) pl (T 407) = pl from if_pos rfl]
              refine px_icmp_ne (tgt := 161) dL_port_154 (by decide) (fun h9 => absurd rfl h9) (fun _ => ?_)
              refine px_iconst (v := nI 1) dL_port_157 (by decide) ?_
              refine px_goto (tgt := 162) dL_port_158 (by decide) ?_
              refine px_zret dL_port_162 rfl rfl (Or.inl rfl) (h I3 ((T', L), h_push H (T, L), B) ⟨hCA3, hw2, ⟨_, _, hD3, qK_of hQK ((hG3 366 (by omega)).trans ((hF2 366 (by omega)).trans (hF1 366 (by omega) (by omega)))) (eT 405 (by omega) (by omega)) hn8 (fun i hi => eT i (by omega) (by omega)), qL_of hQL ((hG3 367 (by omega)).trans ((hF2 367 (by omega)).trans (hF1 367 (by omega) (by omega)))), qM_of hQM ((hG3 368 (by omega)).trans ((hF2 368 (by omega)).trans (hF1 368 (by omega) (by omega)))) h10 (fun m hm => (htb.2.2.2.2.2.2.2.2 m hm).1) (fun i hi => eT i (by omega) (by omega)), hP3, hR'⟩, ⟨?_, q11, ?_, ?_, ?_⟩, ?_, ?_, ?_, ?_⟩)
              · show T' 405 ≤ 4
                rw [eT 405 (by omega) (by omega)]; exact q4
              · show T' 408 ≤ 3
                rw [eT 408 (by omega) (by omega)]; exact q3
              · intro m hm
                replace hm : m < T' 408 := hm
                rw [eT 408 (by omega) (by omega)] at hm
                show T' (314 + m) ≤ 3
                rw [eT _ (by omega) (by omega)]; exact qm3 m hm
              · show T' 407 ≤ 4
                omega
              · intro s hs
                show ps_in L s ≤ T' (64 + s)
                rw [eT _ (by omega) (by omega)]; exact hin s hs
              · intro k hk
                replace hk : k < T' 405 := hk
                rw [eT 405 (by omega) (by omega)] at hk
                show T' (24 + 5 * k) = T' (25 + 5 * k) + T' (26 + 5 * k) + T' (27 + 5 * k) + ps_of L k
                rw [eT _ (by omega) (by omega), eT _ (by omega) (by omega), eT _ (by omega) (by omega), eT _ (by omega) (by omega)]
                exact hacc k hk
              · show T' 404 ≤ 20 * (n + 1 - 6)
                rw [eT 404 (by omega) (by omega)]; omega
              · show T' 410 ≤ 10000 + 2000 * (n + 1)
                rw [eT 410 (by omega) (by omega)]; omega
            · intro i hi K9 I2 hF2 hZ
              refine px_iload dL_port_104 rfl ?_
              refine px_iconst (v := nI 4) dL_port_106 (by decide) ?_
              refine px_icmp_geN (tgt := 130) dL_port_107 (by decide) (by omega) (by omega) (fun h0 => absurd h0 (by omega)) (fun _ => ?_)
              refine px_aload dL_port_110 rfl ?_
              refine px_bipush (v := nI 6) dL_port_112 (by decide) ?_
              refine px_iload dL_port_114 rfl ?_
              refine px_imulN dL_port_116 ?_
              refine px_iconst (v := nI 2) dL_port_117 (by decide) ?_
              refine px_iaddN dL_port_118 ?_
              refine px_iload dL_port_119 rfl ?_
              refine px_iaddN dL_port_121 ?_
              refine px_iconst (v := nI 0) dL_port_122 (by decide) ?_
              refine px_iast (j := (((6 * T 407) + 2) + i)) dL_port_123 pv_a_po.1 rfl (by omega) pv_a_po.2.2 pv_a_po.2.1 ?_
              refine px_iincN (c := 1) (by decide) dL_port_124 rfl (by decide) ?_
              refine px_goto (tgt := 104) dL_port_127 (by decide) ?_
              refine px_keep [0, 1, 2, 3, 4, 5, 6, 7] ?_
              refine K9 _ (fun j hj => (pv_uI_ne hj).trans (hF2 j hj)) (fun j => ?_)
              rw [pv_uI_at]
              by_cases e : j = 6 * T 407 + 2 + i
              · subst e
                rw [if_pos ⟨rfl, rfl⟩, if_pos (by omega)]
                rfl
              · rw [if_neg (fun q => e q.2), hZ]
                by_cases e2 : 6 * T 407 + 2 ≤ j ∧ j < 6 * T 407 + 2 + i
                · rw [if_pos e2, if_pos (by omega)]
                · rw [if_neg e2, if_neg (by omega)]
          exact key 0 (by omega) I1 (fun _ _ => rfl) (fun j => by rw [if_neg (by omega)])
        · refine px_sipush (v := nI 901) dL_port_88 (by decide) ?_
          refine px_goto (tgt := 97) dL_port_91 (by decide) ?_
          refine c_L_at dL_port_97 mlL_30 (by omega) (by omega) (by omega) (Nat.le_of_ble_eq_true rfl) (fun j4 hj4 => ?_)
          refine px_iast (j := ((6 * (T 407)) + 1)) dL_port_100 pv_a_po.1 rfl (by omega) pv_a_po.2.2 pv_a_po.2.1 ?_
          refine px_iconst (v := nI 0) dL_port_101 (by decide) ?_
          refine px_istore dL_port_102 (by decide) ?_
          generalize hI1 : pv_uI (pv_uI (pv_uI I 365 14 (nI (T 407 + 1))) 369 (6 * T 407) (nI (T 404 + j2))) 369 (6 * T 407 + 1) (nI j4) = I1
          have hD1 : qD I1 (pt_up T 407 (T 407 + 1)) L.length := qD_of (qD_put (j := 14) (v := T 407 + 1) hQD (by omega) (by omega) (by omega)) (by rw [← hI1, pv_uI_ne (by omega), pv_uI_ne (by omega)]) (fun _ _ => rfl)
          have hF1 : ∀ j, j ≠ 365 → j ≠ 369 → I1 j = I j := fun j h1 h2 => by rw [← hI1, pv_uI_ne h2, pv_uI_ne h2, pv_uI_ne h1]
          have hP1 : ∀ j, I1 369 j = if j = 6 * T 407 + 1 then nI j4 else if j = 6 * T 407 then nI (T 404 + j2) else I 369 j := fun j => by
            rw [← hI1, pv_uI_at, pv_uI_at, pv_uI_at]
            by_cases e1 : j = 6 * T 407 + 1
            · rw [if_pos ⟨rfl, e1⟩, if_pos e1]
            · rw [if_neg (fun q => e1 q.2), if_neg e1]
              by_cases e2 : j = 6 * T 407
              · rw [if_pos ⟨rfl, e2⟩, if_pos e2]
              · rw [if_neg (fun q => e2 q.2), if_neg e2, if_neg (by omega)]
          have key : ∀ i : Nat, i ≤ 4 → ∀ I2 : pv_IT, (∀ j, j ≠ 369 → I2 j = I1 j) → (∀ j, I2 369 j = if 6 * T 407 + 2 ≤ j ∧ j < 6 * T 407 + 2 + i then 0 else I1 369 j) → pv_X (pv_ZQ E Q) E d bc bs mL_port 104 [(0, .ref 0), (1, .int x), (2, .int y), (3, .ref 365), (4, .ref 369), (5, .int (nI (T 404 + j2))), (6, .int (nI (T 407))), (7, .int (nI (i)))] [] pv_K0 pv_P0 (I2) (J) := by
            refine pv_up (4) ?_ ?_
            · intro I2 hF2 hZ
              refine px_iload dL_port_104 rfl ?_
              refine px_iconst (v := nI 4) dL_port_106 (by decide) ?_
              refine px_icmp_geN (tgt := 130) dL_port_107 (by decide) (by omega) (by omega) (fun _ => ?_) (fun h0 => absurd h0 (by omega))
              refine px_aload_n dL_port_130 rfl ?_
              refine px_iload dL_port_131 rfl ?_
              refine px_aload dL_port_133 rfl ?_
              refine px_bipush (v := nI 6) dL_port_135 (by decide) ?_
              refine px_iload dL_port_137 rfl ?_
              refine px_imulN dL_port_139 ?_
              refine px_iconst (v := nI 1) dL_port_140 (by decide) ?_
              refine px_iaddN dL_port_141 ?_
              refine px_iald (j := ((6 * T 407) + 1)) dL_port_142 pv_a_po.1 rfl (by omega) pv_a_po.2.2 pv_a_po.2.1 ?_
              refine px_iv (y := nI (j4)) (by rw [hZ, if_neg (by omega), hP1, if_pos rfl]) ?_
              have hCA2 : CA I2 ((T, L), H, B) := CA_far hCA (fun j hj => (hF2 j (by omega)).trans (hF1 j (by omega) (by omega)))
              refine c_X9_addPort dL_port_143 mlL_44 (by omega) hCA2 hw (by omega) (by omega) (by omega) (Nat.le_of_ble_eq_true rfl) (dz_ok (qt_addPort (d := T 404 + j2) (s := j4) (by omega) (by omega) (by omega) hon) fun I3 hCA3 hG3 => ?_)
              have hpo := qt_addPort (T := T) (L := L) (H := H) (B := B) (d := T 404 + j2) (s := j4) (by omega) (by omega) (by omega) hon
              have hw2 := wx_addPort (d := nI (T 404 + j2)) (s := nI j4) hw
              rw [hpo] at hw2
              generalize hpl9 : pt_place T (T 404 + j2) = pl at hCA3 hw2 hpl
              have e407 : pt_ins T pl (T 404 + j2) j4 407 = T 407 + 1 := by unfold pt_ins; rw [if_pos rfl]
              have eT : ∀ i, i < 324 ∨ 404 ≤ i → i ≠ 407 → pt_ins T pl (T 404 + j2) j4 i = T i := fun i h1 h2 => qt_ins_out h1 h2 (by omega) hpl
              have eP : ∀ p z, z < 10 → p ≤ T 407 → pt_ins T pl (T 404 + j2) j4 (324 + 10 * p + z) = if p < pl then T (324 + 10 * p + z) else if p = pl then (if z = 0 then T 404 + j2 else if z = 1 then j4 else 0) else T (314 + 10 * p + z) := fun p z h1 h2 => pt_ins_at h1 h2 (by omega) hpl
              generalize hT' : pt_ins T pl (T 404 + j2) j4 = T' at hCA3 hw2 e407 eT eP
              have hR' : qR (T' 407) (q_r r (T 407) pl) (q_g g (T 407) pl) := by rw [e407]; exact q_ins hQR hpl
              have hD3 : qD I3 T' L.length := qD_of hD1 ((hG3 365 (by omega)).trans (hF2 365 (by omega))) (fun j hj => by
                unfold pt_up
                by_cases e : dT j = 407
                · rw [if_pos e, e]; exact e407
                · rw [if_neg e]
                  exact eT _ (by have := dT_ge hj; omega) e)
              have hM3 : ∀ j, I3 369 j = if 6 * T 407 + 2 ≤ j ∧ j < 6 * T 407 + 2 + 4 then 0 else if j = 6 * T 407 + 1 then nI j4 else if j = 6 * T 407 then nI (T 404 + j2) else I 369 j := fun j => by rw [hG3 369 (by omega), hZ, hP1]
              have hP3 : qP I3 T' (q_r r (T 407) pl) := by
                intro p hp
                rw [e407] at hp
                have key : ∀ z, z < 10 → p ≠ T 407 → T' (324 + 10 * q_r r (T 407) pl p + z) = T (324 + 10 * r p + z) := fun z hz hpn => by
                  have h2 := (hQR.1 p (by omega)).1
                  unfold q_r
                  rw [if_neg hpn]
                  by_cases e2 : r p < pl
                  · rw [if_pos e2, eP _ _ hz (by omega), if_pos e2]
                  · rw [if_neg e2, eP _ _ hz (by omega), if_neg (by omega), if_neg (by omega)]
                    exact congrArg T (by omega)
                have key2 : ∀ z, z < 10 → T' (324 + 10 * q_r r (T 407) pl (T 407) + z) = if z = 0 then T 404 + j2 else if z = 1 then j4 else 0 := fun z hz => by
                  unfold q_r
                  rw [if_pos rfl, eP _ _ hz hpl, if_neg (by omega), if_pos rfl]
                by_cases e : p = T 407
                · subst e
                  refine ⟨?_, ?_, fun k hk => ?_⟩
                  · rw [hM3, if_neg (by omega), if_neg (by omega), if_pos rfl]
                    exact congrArg nI (key2 0 (by omega)).symm
                  · rw [hM3, if_neg (by omega), if_pos rfl, show 325 + 10 * q_r r (T 407) pl (T 407) = 324 + 10 * q_r r (T 407) pl (T 407) + 1 by omega, key2 1 (by omega)]
                    rfl
                  · rw [hM3, if_pos (by omega), show 326 + 10 * q_r r (T 407) pl (T 407) + k = 324 + 10 * q_r r (T 407) pl (T 407) + (2 + k) by omega, key2 (2 + k) (by omega), if_neg (by omega), if_neg (by omega)]
                    rfl
                · have h1 := hQP p (by omega)
                  refine ⟨?_, ?_, fun k hk => ?_⟩
                  · rw [hM3, if_neg (by omega), if_neg (by omega), if_neg (by omega), h1.1]
                    exact congrArg nI (key 0 (by omega) e).symm
                  · rw [hM3, if_neg (by omega), if_neg (by omega), if_neg (by omega), h1.2.1, show 325 + 10 * q_r r (T 407) pl p = 324 + 10 * q_r r (T 407) pl p + 1 by omega, key 1 (by omega) e]
                    exact congrArg nI (congrArg T (by omega))
                  · rw [hM3, if_neg (by omega), if_neg (by omega), if_neg (by omega), h1.2.2 k hk, show 326 + 10 * q_r r (T 407) pl p + k = 324 + 10 * q_r r (T 407) pl p + (2 + k) by omega, key (2 + k) (by omega) e]
                    exact congrArg nI (congrArg T (by omega))
              have hpw3 : pw T' := hw2.1.1.1.2.2.2.2.2.1
              refine px_iload dL_port_146 rfl ?_
              refine px_aload_n dL_port_148 rfl ?_
              refine px_aload dL_port_149 rfl ?_
              refine c_L_number dL_port_151 mlL_47 (by omega) hD3 hP3 hR' hpw3 (by omega) (by omega) (Nat.le_of_ble_eq_true rfl) ?_
              rw [show q_r r (T 407) pl (T 407) = pl from if_pos rfl]
              refine px_icmp_ne (tgt := 161) dL_port_154 (by decide) (fun h9 => absurd rfl h9) (fun _ => ?_)
              refine px_iconst (v := nI 1) dL_port_157 (by decide) ?_
              refine px_goto (tgt := 162) dL_port_158 (by decide) ?_
              refine px_zret dL_port_162 rfl rfl (Or.inl rfl) (h I3 ((T', L), h_push H (T, L), B) ⟨hCA3, hw2, ⟨_, _, hD3, qK_of hQK ((hG3 366 (by omega)).trans ((hF2 366 (by omega)).trans (hF1 366 (by omega) (by omega)))) (eT 405 (by omega) (by omega)) hn8 (fun i hi => eT i (by omega) (by omega)), qL_of hQL ((hG3 367 (by omega)).trans ((hF2 367 (by omega)).trans (hF1 367 (by omega) (by omega)))), qM_of hQM ((hG3 368 (by omega)).trans ((hF2 368 (by omega)).trans (hF1 368 (by omega) (by omega)))) h10 (fun m hm => (htb.2.2.2.2.2.2.2.2 m hm).1) (fun i hi => eT i (by omega) (by omega)), hP3, hR'⟩, ⟨?_, q11, ?_, ?_, ?_⟩, ?_, ?_, ?_, ?_⟩)
              · show T' 405 ≤ 4
                rw [eT 405 (by omega) (by omega)]; exact q4
              · show T' 408 ≤ 3
                rw [eT 408 (by omega) (by omega)]; exact q3
              · intro m hm
                replace hm : m < T' 408 := hm
                rw [eT 408 (by omega) (by omega)] at hm
                show T' (314 + m) ≤ 3
                rw [eT _ (by omega) (by omega)]; exact qm3 m hm
              · show T' 407 ≤ 4
                omega
              · intro s hs
                show ps_in L s ≤ T' (64 + s)
                rw [eT _ (by omega) (by omega)]; exact hin s hs
              · intro k hk
                replace hk : k < T' 405 := hk
                rw [eT 405 (by omega) (by omega)] at hk
                show T' (24 + 5 * k) = T' (25 + 5 * k) + T' (26 + 5 * k) + T' (27 + 5 * k) + ps_of L k
                rw [eT _ (by omega) (by omega), eT _ (by omega) (by omega), eT _ (by omega) (by omega), eT _ (by omega) (by omega)]
                exact hacc k hk
              · show T' 404 ≤ 20 * (n + 1 - 6)
                rw [eT 404 (by omega) (by omega)]; omega
              · show T' 410 ≤ 10000 + 2000 * (n + 1)
                rw [eT 410 (by omega) (by omega)]; omega
            · intro i hi K9 I2 hF2 hZ
              refine px_iload dL_port_104 rfl ?_
              refine px_iconst (v := nI 4) dL_port_106 (by decide) ?_
              refine px_icmp_geN (tgt := 130) dL_port_107 (by decide) (by omega) (by omega) (fun h0 => absurd h0 (by omega)) (fun _ => ?_)
              refine px_aload dL_port_110 rfl ?_
              refine px_bipush (v := nI 6) dL_port_112 (by decide) ?_
              refine px_iload dL_port_114 rfl ?_
              refine px_imulN dL_port_116 ?_
              refine px_iconst (v := nI 2) dL_port_117 (by decide) ?_
              refine px_iaddN dL_port_118 ?_
              refine px_iload dL_port_119 rfl ?_
              refine px_iaddN dL_port_121 ?_
              refine px_iconst (v := nI 0) dL_port_122 (by decide) ?_
              refine px_iast (j := (((6 * T 407) + 2) + i)) dL_port_123 pv_a_po.1 rfl (by omega) pv_a_po.2.2 pv_a_po.2.1 ?_
              refine px_iincN (c := 1) (by decide) dL_port_124 rfl (by decide) ?_
              refine px_goto (tgt := 104) dL_port_127 (by decide) ?_
              refine px_keep [0, 1, 2, 3, 4, 5, 6, 7] ?_
              refine K9 _ (fun j hj => (pv_uI_ne hj).trans (hF2 j hj)) (fun j => ?_)
              rw [pv_uI_at]
              by_cases e : j = 6 * T 407 + 2 + i
              · subst e
                rw [if_pos ⟨rfl, rfl⟩, if_pos (by omega)]
                rfl
              · rw [if_neg (fun q => e q.2), hZ]
                by_cases e2 : 6 * T 407 + 2 ≤ j ∧ j < 6 * T 407 + 2 + i
                · rw [if_pos e2, if_pos (by omega)]
                · rw [if_neg e2, if_neg (by omega)]
          exact key 0 (by omega) I1 (fun _ _ => rfl) (fun j => by rw [if_neg (by omega)])
theorem c_L_port {z : pv_Z} {E : pv_E} {d bc bs : Nat} {J : pv_JT} {I : pv_IT} {mi : pv_MI} {pc idx : Nat} {lv : pv_LV} {st : List Value} {T : pv_T} {L : List pv_Lot} {H : List pv_S} {B : List Nat} {n : Nat} {x y : Int32} (hd : decode mi.2.1 pc = .ok (.invokestatic idx, 3)) (hlk : Cond.methodLink mi.1.cls idx mL_port.1 ∈ pv_W) (hDep : 9+1 ≤ d) (hW : qW n I ((T, L), H, B)) (hn : n ≤ 29) (hbc : 6 ≤ bc) (hbs : 36 ≤ bs) (hcat : (st.map fun v => v.category).sum ≤ 8) (K : ∀ (I' : pv_IT) (X' : pv_XS), qW (n + 1) I' X' → pv_X z E d (bc - 6) (bs - 36) mi (pc + 3) lv ((.int (nI 1)) :: st) pv_K0 pv_P0 (I') (J)) : pv_X z E d bc bs mi pc lv (.ref (369) :: .ref (365) :: .int (y) :: .int (x) :: .ref 0 :: st) pv_K0 pv_P0 I J := by
  obtain ⟨bc, rfl⟩ : ∃ b0, bc = 6 + b0 := ⟨bc - 6, by omega⟩
  obtain ⟨bs, rfl⟩ : ∃ b0, bs = 36 + b0 := ⟨bs - 36, by omega⟩
  rw [show 6 + bc - 6 = bc by omega, show 36 + bs - 36 = bs by omega] at K
  obtain ⟨d, rfl⟩ : ∃ d0, d = d0 + 1 := ⟨d - 1, by omega⟩
  have key := px_callS (bc := bc) (bs := bs) (bc1 := 6) (bs1 := 36) (as := [.ref 0, .int (x), .int (y), .ref (365), .ref (369)]) (E := E) (z := z) (lv := lv) hd msL_port hlk rfl rfl hcat (by exact Nat.le_of_ble_eq_true rfl) (s_L_port (by omega) hW hn (Nat.le_refl _) (Nat.le_refl _) K)
  exact key
theorem qt_setPrice {T : pv_T} {L : List pv_Lot} {H : List pv_S} {B : List Nat} {p k v : Nat} (hp : p < T 407) (hp8 : T 407 ≤ 8) (hk : k < T 405) (hk8 : T 405 ≤ 8) (hv : v ≤ 100) : po_setPrice ((T, L), H, B) (nI p) (nI k) (nI v) = (0, nI (pt_price T p k), po_push ((T, L), H, B) (pt_up T (326 + 10 * p + k) v, L)) := by
  unfold po_setPrice
  rw [if_pos ⟨(pu_hasN (by omega) (by show T 407 < _; omega)).mpr hp, (pu_hasN (by omega) (by show T 405 < _; omega)).mpr hk⟩, if_pos (dz_in hv (by decide)), dz_tn (by omega), dz_tn (by omega), dz_tn (by omega)]
set_option maxRecDepth 100000 in
set_option maxHeartbeats 4000000 in
theorem s_L_price {Q : pv_Q} {E : pv_E} {d bc bs : Nat} {J : pv_JT} {I : pv_IT} {T : pv_T} {L : List pv_Lot} {H : List pv_S} {B : List Nat} {n : Nat} {x y : Int32} (hDep : 9 ≤ d) (hW : qW n I ((T, L), H, B)) (hn : n ≤ 29) (hbc : 6 ≤ bc) (hbs : 36 ≤ bs) (h : ∀ (I' : pv_IT) (X' : pv_XS), qW (n + 1) I' X' → Q (.inl (some (.int (nI 1)))) pv_K0 pv_P0 (I') (J)) : pv_X (pv_ZQ E Q) E d bc bs mL_price 0 [(0, .ref 0), (1, .int (x)), (2, .int (y)), (3, .ref (365)), (4, .ref (369))] [] pv_K0 pv_P0 I J := by
  obtain ⟨hCA, hw, ⟨r, g, hQD, hQK, hQL, hQM, hQP, hQR⟩, ⟨q4, q11, q3, qm3, qp4⟩, hin, hacc, hq404, hq410⟩ := id hW
  replace hQD : qD I T L.length := hQD
  replace hQK : qK I T := hQK
  replace hQL : qL I L := hQL
  replace hQM : qM I T := hQM
  replace hQP : qP I T r := hQP
  replace hQR : qR (T 407) r g := hQR
  replace q4 : T 405 ≤ 4 := q4
  replace q11 : L.length ≤ 11 := q11
  replace q3 : T 408 ≤ 3 := q3
  replace qm3 : ∀ m, m < T 408 → T (314 + m) ≤ 3 := qm3
  replace qp4 : T 407 ≤ 4 := qp4
  replace hin : qin T L := hin
  replace hacc : qacc T L := hacc
  replace hq404 : T 404 ≤ 20 * (n - 6) := hq404
  replace hq410 : T 410 ≤ 10000 + 2000 * n := hq410
  have hdy : dy (T, L) := hw.1.1
  have htb : tb T := hdy.1
  have hlb : lbs L := hdy.2.1
  have hlo : lo_ok L := hdy.2.2
  have hpw : pw T := htb.2.2.2.2.2.1
  have hkk : ∀ l, l < L.length → (pl_g L l).1 < T 405 := hw.1.2.2.2.2.2.1
  have h31 : L.length ≤ 31 := hlb.1
  have hn8 : T 405 ≤ 8 := htb.2.2.1
  have h10 : T 408 ≤ 10 := htb.2.2.2.2.2.2.2.1
  refine px_aload_n dL_price_0 rfl ?_
  refine px_bipush (v := nI 14) dL_price_1 (by decide) ?_
  refine px_iald (j := 14) dL_price_3 pv_a_d.1 rfl (by omega) pv_a_d.2.2 pv_a_d.2.1 ?_
  refine px_iv (y := nI (T 407)) (qD_14 hQD) ?_
  refine px_if_eqN (tgt := 13) dL_price_4 (by decide) (by omega) (fun h4 => ?_) (fun h4 => ?_)
  · refine px_iconst (v := nI 1) dL_price_13 (by decide) ?_
    exact px_zret dL_price_14 rfl rfl (Or.inl rfl) (h I ((T, L), H, B) (qW_mono hW))
  · refine px_aload_n dL_price_7 rfl ?_
    refine px_iconst (v := nI 0) dL_price_8 (by decide) ?_
    refine px_iald (j := 0) dL_price_9 pv_a_d.1 rfl (by omega) pv_a_d.2.2 pv_a_d.2.1 ?_
    refine px_iv (y := nI (T 405)) (qD_0 hQD) ?_
    refine px_if_neN (tgt := 15) dL_price_10 (by decide) (by omega) (fun h5 => ?_) (fun h5 => ?_)
    · refine px_iload_n dL_price_15 rfl ?_
      refine px_aload_n dL_price_16 rfl ?_
      refine px_bipush (v := nI 14) dL_price_17 (by decide) ?_
      refine px_iald (j := 14) dL_price_19 pv_a_d.1 rfl (by omega) pv_a_d.2.2 pv_a_d.2.1 ?_
      refine px_iv (y := nI (T 407)) (qD_14 hQD) ?_
      refine c_L_at dL_price_20 mlL_30 (by omega) (by omega) (by omega) (Nat.le_of_ble_eq_true rfl) (fun p hp => ?_)
      refine px_istore dL_price_23 (by decide) ?_
      refine px_iload_n dL_price_25 rfl ?_
      refine px_iconst (v := nI 4) dL_price_26 (by decide) ?_
      refine px_ishr dL_price_27 ?_
      refine px_aload_n dL_price_28 rfl ?_
      refine px_iconst (v := nI 0) dL_price_29 (by decide) ?_
      refine px_iald (j := 0) dL_price_30 pv_a_d.1 rfl (by omega) pv_a_d.2.2 pv_a_d.2.1 ?_
      refine px_iv (y := nI (T 405)) (qD_0 hQD) ?_
      refine c_L_at dL_price_31 mlL_30 (by omega) (by omega) (by omega) (Nat.le_of_ble_eq_true rfl) (fun k hk => ?_)
      refine px_istore dL_price_34 (by decide) ?_
      refine px_aload dL_price_36 rfl ?_
      refine px_bipush (v := nI 6) dL_price_38 (by decide) ?_
      refine px_iload dL_price_40 rfl ?_
      refine px_imulN dL_price_42 ?_
      refine px_iconst (v := nI 2) dL_price_43 (by decide) ?_
      refine px_iaddN dL_price_44 ?_
      refine px_iload dL_price_45 rfl ?_
      refine px_iaddN dL_price_47 ?_
      have hqp := hQP p hp
      have hrp := (hQR.1 p hp).1
      refine px_iald (j := (((6 * p) + 2) + k)) dL_price_48 pv_a_po.1 rfl (by omega) pv_a_po.2.2 pv_a_po.2.1 ?_
      refine px_iv (y := nI (T (326 + 10 * r p + k))) (hqp.2.2 k (by omega)) ?_
      refine px_istore dL_price_49 (by decide) ?_
      refine px_aload dL_price_51 rfl ?_
      refine px_bipush (v := nI 6) dL_price_53 (by decide) ?_
      refine px_iload dL_price_55 rfl ?_
      refine px_imulN dL_price_57 ?_
      refine px_iconst (v := nI 2) dL_price_58 (by decide) ?_
      refine px_iaddN dL_price_59 ?_
      refine px_iload dL_price_60 rfl ?_
      refine px_iaddN dL_price_62 ?_
      refine px_iload_n dL_price_63 rfl ?_
      refine px_iload_n dL_price_64 rfl ?_
      refine px_bipush (v := nI 8) dL_price_65 (by decide) ?_
      refine px_ishr dL_price_67 ?_
      refine px_iconst (v := nI 4) dL_price_68 (by decide) ?_
      refine c_L_at dL_price_69 mlL_30 (by omega) (by omega) (by omega) (Nat.le_of_ble_eq_true rfl) (fun j1 hj1 => ?_)
      have hpo9 : ∀ v, v ≤ 100 → po_setPrice ((T, L), H, B) (nI (r p)) (nI k) (nI v) = (0, nI (T (326 + 10 * r p + k)), po_push ((T, L), H, B) (pt_up T (326 + 10 * r p + k) v, L)) := fun v hv => qt_setPrice hrp hpw.1 hk hn8 hv
      have hw9 : ∀ v, v ≤ 100 → wx (n + 1) (po_push ((T, L), H, B) (pt_up T (326 + 10 * r p + k) v, L)) := fun v hv => by
        have h1 := wx_setPrice (p := nI (r p)) (k := nI k) (v := nI v) hw
        rw [hpo9 v hv] at h1
        exact h1
      refine px_if_neN (tgt := 79) dL_price_72 (by decide) (by omega) (fun h6 => ?_) (fun h6 => ?_)
      · refine px_bipush (v := nI 40) dL_price_79 (by decide) ?_
        refine c_L_at dL_price_81 mlL_30 (by omega) (by omega) (by omega) (Nat.le_of_ble_eq_true rfl) (fun v hv => ?_)
        have hpo := hpo9 v (by omega)
        have hw2 := hw9 v (by omega)
        have hpw1 : pw (pt_up T (326 + 10 * r p + k) v) := hw2.1.1.1.2.2.2.2.2.1
        refine px_iast (j := (((6 * p) + 2) + k)) dL_price_84 pv_a_po.1 rfl (by omega) pv_a_po.2.2 pv_a_po.2.1 ?_
        generalize hI1 : pv_uI I 369 (6 * p + 2 + k) (nI v) = I1
        have hF1 : ∀ j, j ≠ 369 → I1 j = I j := fun j hj => by rw [← hI1]; exact pv_uI_ne hj
        have hCA1 : CA I1 ((T, L), H, B) := CA_far hCA (fun j hj => hF1 j (by omega))
        have hP1 : ∀ j, I1 369 j = if j = 6 * p + 2 + k then nI v else I 369 j := fun j => by
          rw [← hI1, pv_uI_at]
          by_cases e : j = 6 * p + 2 + k
          · rw [if_pos ⟨rfl, e⟩, if_pos e]
          · rw [if_neg (fun q => e q.2), if_neg e]
        have hQ1 : qP I1 (pt_up T (326 + 10 * r p + k) v) r := by
          intro q hq
          rw [pt_un (by omega)] at hq
          have h1 := hQP q hq
          have h2 := (hQR.1 q hq).1
          rw [hP1, hP1, if_neg (by omega), if_neg (by omega), pt_un (by omega), pt_un (by omega)]
          refine ⟨h1.1, h1.2.1, fun k' hk' => ?_⟩
          rw [hP1, pt_at]
          by_cases e : q = p ∧ k' = k
          · obtain ⟨rfl, rfl⟩ := e
            rw [if_pos rfl, if_pos rfl]
          · have hne : r q = r p → q = p := fun e2 => by rw [← (hQR.1 q hq).2, e2, (hQR.1 p hp).2]
            rw [if_neg (fun z => e (by omega)), if_neg (fun z => e ⟨hne (by omega), by have := hne (by omega); subst this; omega⟩)]
            exact h1.2.2 k' hk'
        have hD1 : qD I1 T L.length := qD_of hQD (hF1 365 (by omega)) (fun _ _ => rfl)
        refine px_aload_n dL_price_85 rfl ?_
        refine px_iload dL_price_86 rfl ?_
        refine px_aload_n dL_price_88 rfl ?_
        refine px_aload dL_price_89 rfl ?_
        refine c_L_number dL_price_91 mlL_47 (by omega) (qD_of hD1 rfl (T' := pt_up T (326 + 10 * r p + k) v) (fun j hj => pt_un (by have := dT_ge hj; omega))) hQ1 (by rw [pt_un (by omega)]; exact hQR) hpw1 (by rw [pt_un (by omega)]; exact qp4) (by rw [pt_un (by omega)]; exact hp) (Nat.le_of_ble_eq_true rfl) ?_
        refine px_iload dL_price_94 rfl ?_
        refine px_aload dL_price_96 rfl ?_
        refine px_bipush (v := nI 6) dL_price_98 (by decide) ?_
        refine px_iload dL_price_100 rfl ?_
        refine px_imulN dL_price_102 ?_
        refine px_iconst (v := nI 2) dL_price_103 (by decide) ?_
        refine px_iaddN dL_price_104 ?_
        refine px_iload dL_price_105 rfl ?_
        refine px_iaddN dL_price_107 ?_
        refine px_iald (j := (((6 * p) + 2) + k)) dL_price_108 pv_a_po.1 rfl (by omega) pv_a_po.2.2 pv_a_po.2.1 ?_
        refine px_iv (y := nI (v)) (by rw [hP1, if_pos rfl]) ?_
        refine c_X9_setPrice dL_price_109 mlL_50 (by omega) hCA1 hw (by omega) (by omega) (by omega) (Nat.le_of_ble_eq_true rfl) (dz_ok hpo fun I2 hCA2 hG2 => ?_)
        refine px_iload dL_price_112 rfl ?_
        refine px_icmp_ne (tgt := 121) dL_price_114 (by decide) (fun h9 => absurd rfl h9) (fun _ => ?_)
        refine px_iconst (v := nI 1) dL_price_117 (by decide) ?_
        refine px_goto (tgt := 122) dL_price_118 (by decide) ?_
        have eT : ∀ i, i < 324 ∨ 404 ≤ i → pt_up T (326 + 10 * r p + k) v i = T i := fun i hi => pt_un (by omega)
        refine px_zret dL_price_122 rfl rfl (Or.inl rfl) (h I2 ((pt_up T (326 + 10 * r p + k) v, L), h_push H (T, L), B) ⟨hCA2, hw2, ⟨r, g, qD_of hD1 (hG2 365 (by omega)) (fun j hj => eT _ (by have := dT_ge hj; omega)), qK_of hQK ((hG2 366 (by omega)).trans (hF1 366 (by omega))) (eT 405 (by omega)) hn8 (fun i hi => eT i (by omega)), qL_of hQL ((hG2 367 (by omega)).trans (hF1 367 (by omega))), qM_of hQM ((hG2 368 (by omega)).trans (hF1 368 (by omega))) h10 (fun m hm => (htb.2.2.2.2.2.2.2.2 m hm).1) (fun i hi => eT i (by omega)), qP_of hQ1 (hG2 369 (by omega)) (by rw [eT 407 (by omega)]; omega) (fun q hq => by rw [eT 407 (by omega)] at hq ⊢; exact (hQR.1 q hq).1) (fun _ _ => rfl), (by show qR (pt_up T (326 + 10 * r p + k) v 407) r g; rw [eT 407 (by omega)]; exact hQR)⟩, ⟨?_, q11, ?_, ?_, ?_⟩, ?_, ?_, ?_, ?_⟩)
        · show pt_up T (326 + 10 * r p + k) v 405 ≤ 4
          rw [eT 405 (by omega)]; exact q4
        · show pt_up T (326 + 10 * r p + k) v 408 ≤ 3
          rw [eT 408 (by omega)]; exact q3
        · intro m hm
          replace hm : m < pt_up T (326 + 10 * r p + k) v 408 := hm
          rw [eT 408 (by omega)] at hm
          show pt_up T (326 + 10 * r p + k) v (314 + m) ≤ 3
          rw [eT _ (by omega)]; exact qm3 m hm
        · show pt_up T (326 + 10 * r p + k) v 407 ≤ 4
          rw [eT 407 (by omega)]; exact qp4
        · intro s hs
          show ps_in L s ≤ pt_up T (326 + 10 * r p + k) v (64 + s)
          rw [eT _ (by omega)]; exact hin s hs
        · intro k9 hk9
          replace hk9 : k9 < pt_up T (326 + 10 * r p + k) v 405 := hk9
          rw [eT 405 (by omega)] at hk9
          show pt_up T (326 + 10 * r p + k) v (24 + 5 * k9) = pt_up T (326 + 10 * r p + k) v (25 + 5 * k9) + pt_up T (326 + 10 * r p + k) v (26 + 5 * k9) + pt_up T (326 + 10 * r p + k) v (27 + 5 * k9) + ps_of L k9
          rw [eT _ (by omega), eT _ (by omega), eT _ (by omega), eT _ (by omega)]
          exact hacc k9 hk9
        · show pt_up T (326 + 10 * r p + k) v 404 ≤ 20 * (n + 1 - 6)
          rw [eT 404 (by omega)]; omega
        · show pt_up T (326 + 10 * r p + k) v 410 ≤ 10000 + 2000 * (n + 1)
          rw [eT 410 (by omega)]; omega
      · refine px_iconst (v := nI 1) dL_price_75 (by decide) ?_
        refine px_goto (tgt := 81) dL_price_76 (by decide) ?_
        refine c_L_at dL_price_81 mlL_30 (by omega) (by omega) (by omega) (Nat.le_of_ble_eq_true rfl) (fun v hv => ?_)
        have hpo := hpo9 v (by omega)
        have hw2 := hw9 v (by omega)
        have hpw1 : pw (pt_up T (326 + 10 * r p + k) v) := hw2.1.1.1.2.2.2.2.2.1
        refine px_iast (j := (((6 * p) + 2) + k)) dL_price_84 pv_a_po.1 rfl (by omega) pv_a_po.2.2 pv_a_po.2.1 ?_
        generalize hI1 : pv_uI I 369 (6 * p + 2 + k) (nI v) = I1
        have hF1 : ∀ j, j ≠ 369 → I1 j = I j := fun j hj => by rw [← hI1]; exact pv_uI_ne hj
        have hCA1 : CA I1 ((T, L), H, B) := CA_far hCA (fun j hj => hF1 j (by omega))
        have hP1 : ∀ j, I1 369 j = if j = 6 * p + 2 + k then nI v else I 369 j := fun j => by
          rw [← hI1, pv_uI_at]
          by_cases e : j = 6 * p + 2 + k
          · rw [if_pos ⟨rfl, e⟩, if_pos e]
          · rw [if_neg (fun q => e q.2), if_neg e]
        have hQ1 : qP I1 (pt_up T (326 + 10 * r p + k) v) r := by
          intro q hq
          rw [pt_un (by omega)] at hq
          have h1 := hQP q hq
          have h2 := (hQR.1 q hq).1
          rw [hP1, hP1, if_neg (by omega), if_neg (by omega), pt_un (by omega), pt_un (by omega)]
          refine ⟨h1.1, h1.2.1, fun k' hk' => ?_⟩
          rw [hP1, pt_at]
          by_cases e : q = p ∧ k' = k
          · obtain ⟨rfl, rfl⟩ := e
            rw [if_pos rfl, if_pos rfl]
          · have hne : r q = r p → q = p := fun e2 => by rw [← (hQR.1 q hq).2, e2, (hQR.1 p hp).2]
            rw [if_neg (fun z => e (by omega)), if_neg (fun z => e ⟨hne (by omega), by have := hne (by omega); subst this; omega⟩)]
            exact h1.2.2 k' hk'
        have hD1 : qD I1 T L.length := qD_of hQD (hF1 365 (by omega)) (fun _ _ => rfl)
        refine px_aload_n dL_price_85 rfl ?_
        refine px_iload dL_price_86 rfl ?_
        refine px_aload_n dL_price_88 rfl ?_
        refine px_aload dL_price_89 rfl ?_
        refine c_L_number dL_price_91 mlL_47 (by omega) (qD_of hD1 rfl (T' := pt_up T (326 + 10 * r p + k) v) (fun j hj => pt_un (by have := dT_ge hj; omega))) hQ1 (by rw [pt_un (by omega)]; exact hQR) hpw1 (by rw [pt_un (by omega)]; exact qp4) (by rw [pt_un (by omega)]; exact hp) (Nat.le_of_ble_eq_true rfl) ?_
        refine px_iload dL_price_94 rfl ?_
        refine px_aload dL_price_96 rfl ?_
        refine px_bipush (v := nI 6) dL_price_98 (by decide) ?_
        refine px_iload dL_price_100 rfl ?_
        refine px_imulN dL_price_102 ?_
        refine px_iconst (v := nI 2) dL_price_103 (by decide) ?_
        refine px_iaddN dL_price_104 ?_
        refine px_iload dL_price_105 rfl ?_
        refine px_iaddN dL_price_107 ?_
        refine px_iald (j := (((6 * p) + 2) + k)) dL_price_108 pv_a_po.1 rfl (by omega) pv_a_po.2.2 pv_a_po.2.1 ?_
        refine px_iv (y := nI (v)) (by rw [hP1, if_pos rfl]) ?_
        refine c_X9_setPrice dL_price_109 mlL_50 (by omega) hCA1 hw (by omega) (by omega) (by omega) (Nat.le_of_ble_eq_true rfl) (dz_ok hpo fun I2 hCA2 hG2 => ?_)
        refine px_iload dL_price_112 rfl ?_
        refine px_icmp_ne (tgt := 121) dL_price_114 (by decide) (fun h9 => absurd rfl h9) (fun _ => ?_)
        refine px_iconst (v := nI 1) dL_price_117 (by decide) ?_
        refine px_goto (tgt := 122) dL_price_118 (by decide) ?_
        have eT : ∀ i, i < 324 ∨ 404 ≤ i → pt_up T (326 + 10 * r p + k) v i = T i := fun i hi => pt_un (by omega)
        refine px_zret dL_price_122 rfl rfl (Or.inl rfl) (h I2 ((pt_up T (326 + 10 * r p + k) v, L), h_push H (T, L), B) ⟨hCA2, hw2, ⟨r, g, qD_of hD1 (hG2 365 (by omega)) (fun j hj => eT _ (by have := dT_ge hj; omega)), qK_of hQK ((hG2 366 (by omega)).trans (hF1 366 (by omega))) (eT 405 (by omega)) hn8 (fun i hi => eT i (by omega)), qL_of hQL ((hG2 367 (by omega)).trans (hF1 367 (by omega))), qM_of hQM ((hG2 368 (by omega)).trans (hF1 368 (by omega))) h10 (fun m hm => (htb.2.2.2.2.2.2.2.2 m hm).1) (fun i hi => eT i (by omega)), qP_of hQ1 (hG2 369 (by omega)) (by rw [eT 407 (by omega)]; omega) (fun q hq => by rw [eT 407 (by omega)] at hq ⊢; exact (hQR.1 q hq).1) (fun _ _ => rfl), (by show qR (pt_up T (326 + 10 * r p + k) v 407) r g; rw [eT 407 (by omega)]; exact hQR)⟩, ⟨?_, q11, ?_, ?_, ?_⟩, ?_, ?_, ?_, ?_⟩)
        · show pt_up T (326 + 10 * r p + k) v 405 ≤ 4
          rw [eT 405 (by omega)]; exact q4
        · show pt_up T (326 + 10 * r p + k) v 408 ≤ 3
          rw [eT 408 (by omega)]; exact q3
        · intro m hm
          replace hm : m < pt_up T (326 + 10 * r p + k) v 408 := hm
          rw [eT 408 (by omega)] at hm
          show pt_up T (326 + 10 * r p + k) v (314 + m) ≤ 3
          rw [eT _ (by omega)]; exact qm3 m hm
        · show pt_up T (326 + 10 * r p + k) v 407 ≤ 4
          rw [eT 407 (by omega)]; exact qp4
        · intro s hs
          show ps_in L s ≤ pt_up T (326 + 10 * r p + k) v (64 + s)
          rw [eT _ (by omega)]; exact hin s hs
        · intro k9 hk9
          replace hk9 : k9 < pt_up T (326 + 10 * r p + k) v 405 := hk9
          rw [eT 405 (by omega)] at hk9
          show pt_up T (326 + 10 * r p + k) v (24 + 5 * k9) = pt_up T (326 + 10 * r p + k) v (25 + 5 * k9) + pt_up T (326 + 10 * r p + k) v (26 + 5 * k9) + pt_up T (326 + 10 * r p + k) v (27 + 5 * k9) + ps_of L k9
          rw [eT _ (by omega), eT _ (by omega), eT _ (by omega), eT _ (by omega)]
          exact hacc k9 hk9
        · show pt_up T (326 + 10 * r p + k) v 404 ≤ 20 * (n + 1 - 6)
          rw [eT 404 (by omega)]; omega
        · show pt_up T (326 + 10 * r p + k) v 410 ≤ 10000 + 2000 * (n + 1)
          rw [eT 410 (by omega)]; omega
    · refine px_iconst (v := nI 1) dL_price_13 (by decide) ?_
      exact px_zret dL_price_14 rfl rfl (Or.inl rfl) (h I ((T, L), H, B) (qW_mono hW))
theorem c_L_price {z : pv_Z} {E : pv_E} {d bc bs : Nat} {J : pv_JT} {I : pv_IT} {mi : pv_MI} {pc idx : Nat} {lv : pv_LV} {st : List Value} {T : pv_T} {L : List pv_Lot} {H : List pv_S} {B : List Nat} {n : Nat} {x y : Int32} (hd : decode mi.2.1 pc = .ok (.invokestatic idx, 3)) (hlk : Cond.methodLink mi.1.cls idx mL_price.1 ∈ pv_W) (hDep : 9+1 ≤ d) (hW : qW n I ((T, L), H, B)) (hn : n ≤ 29) (hbc : 6 ≤ bc) (hbs : 36 ≤ bs) (hcat : (st.map fun v => v.category).sum ≤ 8) (K : ∀ (I' : pv_IT) (X' : pv_XS), qW (n + 1) I' X' → pv_X z E d (bc - 6) (bs - 36) mi (pc + 3) lv ((.int (nI 1)) :: st) pv_K0 pv_P0 (I') (J)) : pv_X z E d bc bs mi pc lv (.ref (369) :: .ref (365) :: .int (y) :: .int (x) :: .ref 0 :: st) pv_K0 pv_P0 I J := by
  obtain ⟨bc, rfl⟩ : ∃ b0, bc = 6 + b0 := ⟨bc - 6, by omega⟩
  obtain ⟨bs, rfl⟩ : ∃ b0, bs = 36 + b0 := ⟨bs - 36, by omega⟩
  rw [show 6 + bc - 6 = bc by omega, show 36 + bs - 36 = bs by omega] at K
  obtain ⟨d, rfl⟩ : ∃ d0, d = d0 + 1 := ⟨d - 1, by omega⟩
  have key := px_callS (bc := bc) (bs := bs) (bc1 := 6) (bs1 := 36) (as := [.ref 0, .int (x), .int (y), .ref (365), .ref (369)]) (E := E) (z := z) (lv := lv) hd msL_price hlk rfl rfl hcat (by exact Nat.le_of_ble_eq_true rfl) (s_L_price (by omega) hW hn (Nat.le_refl _) (Nat.le_refl _) K)
  exact key
