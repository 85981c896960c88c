/-! The law: rations are thrown away. -/
theorem qt_discard {T : pv_T} {L : List pv_Lot} {H : List pv_S} {B : List Nat} {l a : Nat} (hl : l < L.length) (h31 : L.length ≤ 31) (ha : 1 ≤ a ∧ a ≤ (pl_g L l).2.2.1) (hb : (pl_g L l).2.2.1 ≤ 2000) : po_discard ((T, L), H, B) (nI l) (nI a) = (0, nI (ps_all (pl_drop (pl_amt L l ((pl_g L l).2.2.1 - a)))), po_push ((T, L), H, B) (pt_up T (27 + 5 * (pl_g L l).1) (T (27 + 5 * (pl_g L l).1) + a), pl_drop (pl_amt L l ((pl_g L l).2.2.1 - a)))) := by
  unfold po_discard
  rw [if_pos ((pu_hasN (by omega) (by show L.length < _; omega)).mpr hl), dz_tn (by omega), dz_tn (by omega)]
  exact if_pos ((pu_c (by omega) (by decide) (by show (pl_g L l).2.2.1 < _; omega)).mpr ha)
/-- sums over the lots by what is in them -/
def qs (f : pv_Lot → Nat) (L : List pv_Lot) : Nat := pn_sum (fun l => f (pl_g L l)) L.length
theorem qs_cons {f : pv_Lot → Nat} {x : pv_Lot} {L : List pv_Lot} : qs f (x :: L) = f x + qs f L := by
  unfold qs
  have key : ∀ n, pn_sum (fun l => f (pl_g (x :: L) l)) (n + 1) = f x + pn_sum (fun l => f (pl_g L l)) n := by
    intro n
    induction n with
    | zero => show 0 + f x = f x + 0; omega
    | succ n ih =>
      show pn_sum (fun l => f (pl_g (x :: L) l)) (n + 1) + f (pl_g (x :: L) (n + 1)) = f x + (pn_sum (fun l => f (pl_g L l)) n + f (pl_g L n))
      rw [ih]
      have e : pl_g (x :: L) (n + 1) = pl_g L n := rfl
      rw [e]
      omega
  exact key L.length
theorem qs_drop {f : pv_Lot → Nat} (hf : ∀ x : pv_Lot, x.2.2.1 = 0 → f x = 0) : ∀ {L : List pv_Lot}, qs f (pl_drop L) = qs f L
  | [] => rfl
  | x :: L => by
    have ih := qs_drop hf (L := L)
    unfold pl_drop at ih ⊢
    by_cases h : pl_pos x = true
    · rw [List.filter_cons_of_pos h, qs_cons, qs_cons, ih]
    · rw [List.filter_cons_of_neg h, qs_cons, hf x (pl_pos_0 h), ih, Nat.zero_add]
theorem qs_amt {f : pv_Lot → Nat} {L : List pv_Lot} {l v : Nat} (hl : l < L.length) : qs f (pl_amt L l v) + f (pl_g L l) = qs f L + f ((pl_g L l).1, (pl_g L l).2.1, v, (pl_g L l).2.2.2) := by
  unfold qs
  rw [pl_amt_len]
  have key : ∀ n, n ≤ L.length → pn_sum (fun i => f (pl_g (pl_amt L l v) i)) n + (if l < n then f (pl_g L l) else 0) = pn_sum (fun i => f (pl_g L i)) n + (if l < n then f ((pl_g L l).1, (pl_g L l).2.1, v, (pl_g L l).2.2.2) else 0) := by
    intro n
    induction n with
    | zero => intro _; rfl
    | succ n ih =>
      intro hn
      have h1 := ih (by omega)
      show pn_sum (fun i => f (pl_g (pl_amt L l v) i)) n + f (pl_g (pl_amt L l v) n) + _ = pn_sum (fun i => f (pl_g L i)) n + f (pl_g L n) + _
      have e : pl_g (pl_amt L l v) n = if n = l then ((pl_g L l).1, (pl_g L l).2.1, v, (pl_g L l).2.2.2) else pl_g L n := by
        unfold pl_amt
        rw [pl_g_set hl]
      rw [e]
      by_cases e1 : n = l
      · subst e1
        rw [if_neg (Nat.lt_irrefl _), if_neg (Nat.lt_irrefl _)] at h1
        rw [if_pos rfl, if_pos (by omega), if_pos (by omega)]
        omega
      · rw [if_neg e1]
        by_cases e2 : l < n
        · rw [if_pos e2, if_pos e2] at h1
          rw [if_pos (by omega), if_pos (by omega)]
          omega
        · rw [if_neg e2, if_neg e2] at h1
          rw [if_neg (by omega), if_neg (by omega)]
          omega
  have := key L.length (Nat.le_refl _)
  rw [if_pos hl, if_pos hl] at this
  exact this
theorem qs_in {L : List pv_Lot} {s : Nat} : ps_in L s = qs (fun x => if x.2.1 = s then x.2.2.1 else 0) L := rfl
theorem qs_of {L : List pv_Lot} {k : Nat} : ps_of L k = qs (fun x => if x.1 = k then x.2.2.1 else 0) L := rfl
theorem qs_in_drop {L : List pv_Lot} {s : Nat} : ps_in (pl_drop L) s = ps_in L s := qs_drop (f := fun x => if x.2.1 = s then x.2.2.1 else 0) (fun x h => by show (if x.2.1 = s then x.2.2.1 else 0) = 0; rw [h]; split <;> rfl)
theorem qs_of_drop {L : List pv_Lot} {k : Nat} : ps_of (pl_drop L) k = ps_of L k := qs_drop (f := fun x => if x.1 = k then x.2.2.1 else 0) (fun x h => by show (if x.1 = k then x.2.2.1 else 0) = 0; rw [h]; split <;> rfl)
theorem qs_in_amt {L : List pv_Lot} {l v s : Nat} (hl : l < L.length) : ps_in (pl_amt L l v) s + (if (pl_g L l).2.1 = s then (pl_g L l).2.2.1 else 0) = ps_in L s + (if (pl_g L l).2.1 = s then v else 0) := qs_amt (f := fun x => if x.2.1 = s then x.2.2.1 else 0) hl
theorem qs_of_amt {L : List pv_Lot} {l v k : Nat} (hl : l < L.length) : ps_of (pl_amt L l v) k + (if (pl_g L l).1 = k then (pl_g L l).2.2.1 else 0) = ps_of L k + (if (pl_g L l).1 = k then v else 0) := qs_amt (f := fun x => if x.1 = k then x.2.2.1 else 0) hl
set_option maxRecDepth 100000 in
set_option maxHeartbeats 4000000 in
theorem s_L_discard {Q : pv_Q} {E : pv_E} {d bc bs : Nat} {J : pv_JT} {I : pv_IT} {T : pv_T} {L : List pv_Lot} {H : List pv_S} {B : List Nat} {n : Nat} {x y : Int32} (hDep : 9 ≤ d) (hW : qW n I ((T, L), H, B)) (hn : n ≤ 29) (hbc : 6 ≤ bc) (hbs : 36 ≤ bs) (h : ∀ (I' : pv_IT) (X' : pv_XS), qW (n + 1) I' X' → Q (.inl (some (.int (nI 1)))) pv_K0 pv_P0 (I') (J)) : pv_X (pv_ZQ E Q) E d bc bs mL_discard 0 [(0, .ref 0), (1, .int (x)), (2, .int (y)), (3, .ref (365)), (4, .ref (366)), (5, .ref (367))] [] pv_K0 pv_P0 I J := by
  obtain ⟨hCA, hw, ⟨r, g, hQD, hQK, hQL, hQM, hQP, hQR⟩, ⟨q4, q11, q3, qm3, qp4⟩, hin, hacc, hq404, hq410⟩ := id hW
  replace hQD : qD I T L.length := hQD
  replace hQK : qK I T := hQK
  replace hQL : qL I L := hQL
  replace hQM : qM I T := hQM
  replace hQP : qP I T r := hQP
  replace hQR : qR (T 407) r g := hQR
  replace q4 : T 405 ≤ 4 := q4
  replace q11 : L.length ≤ 11 := q11
  replace q3 : T 408 ≤ 3 := q3
  replace qm3 : ∀ m, m < T 408 → T (314 + m) ≤ 3 := qm3
  replace qp4 : T 407 ≤ 4 := qp4
  replace hin : qin T L := hin
  replace hacc : qacc T L := hacc
  replace hq404 : T 404 ≤ 20 * (n - 6) := hq404
  replace hq410 : T 410 ≤ 10000 + 2000 * n := hq410
  have hdy : dy (T, L) := hw.1.1
  have htb : tb T := hdy.1
  have hlb : lbs L := hdy.2.1
  have hlo : lo_ok L := hdy.2.2
  have hpw : pw T := htb.2.2.2.2.2.1
  have hkk : ∀ l, l < L.length → (pl_g L l).1 < T 405 := hw.1.2.2.2.2.2.1
  have h31 : L.length ≤ 31 := hlb.1
  have hn8 : T 405 ≤ 8 := htb.2.2.1
  have h10 : T 408 ≤ 10 := htb.2.2.2.2.2.2.2.1
  refine px_aload_n dL_discard_0 rfl ?_
  refine px_iconst (v := nI 1) dL_discard_1 (by decide) ?_
  refine px_iald (j := 1) dL_discard_2 pv_a_d.1 rfl (by omega) pv_a_d.2.2 pv_a_d.2.1 ?_
  refine px_iv (y := nI (L.length)) (hQD.1) ?_
  refine px_if_neN (tgt := 8) dL_discard_3 (by decide) (by omega) (fun h4 => ?_) (fun h4 => ?_)
  · refine px_iload_n dL_discard_8 rfl ?_
    refine px_aload_n dL_discard_9 rfl ?_
    refine px_iconst (v := nI 1) dL_discard_10 (by decide) ?_
    refine px_iald (j := 1) dL_discard_11 pv_a_d.1 rfl (by omega) pv_a_d.2.2 pv_a_d.2.1 ?_
    refine px_iv (y := nI (L.length)) (hQD.1) ?_
    refine c_L_at dL_discard_12 mlL_30 (by omega) (by omega) (by omega) (Nat.le_of_ble_eq_true rfl) (fun l hl => ?_)
    have hr := hQL l hl
    have hx := hlb.2 l hl
    unfold lb at hx
    have hol := hlo l hl
    unfold lv_ok at hol
    have hkl := hkk l hl
    refine px_istore dL_discard_15 (by decide) ?_
    refine px_iconst (v := nI 1) dL_discard_17 (by decide) ?_
    refine px_iload_n dL_discard_18 rfl ?_
    refine px_iload_n dL_discard_19 rfl ?_
    refine px_bipush (v := nI 6) dL_discard_20 (by decide) ?_
    refine px_ishr dL_discard_22 ?_
    refine px_iconst (v := nI 3) dL_discard_23 (by decide) ?_
    refine c_L_at dL_discard_24 mlL_30 (by omega) (by omega) (by omega) (Nat.le_of_ble_eq_true rfl) (fun j1 hj1 => ?_)
    have kx : ∀ am : Nat, 1 ≤ am → am ≤ (pl_g L l).2.2.1 → pv_X (pv_ZQ E Q) E d bc bs mL_discard 86 [(0, .ref 0), (1, .int x), (2, .int y), (3, .ref 365), (4, .ref 366), (5, .ref 367), (6, .int (nI l)), (7, .int (nI am))] [] pv_K0 pv_P0 (I) (J) := by
      intro am ha1 ha2
      refine px_aload dL_discard_86 rfl ?_
      refine px_iconst (v := nI 4) dL_discard_88 (by decide) ?_
      refine px_iload dL_discard_89 rfl ?_
      refine px_imulN dL_discard_91 ?_
      refine px_iconst (v := nI 2) dL_discard_92 (by decide) ?_
      refine px_iaddN dL_discard_93 ?_
      refine px_dup2 dL_discard_94 rfl rfl ?_
      refine px_iald (j := ((4 * l) + 2)) dL_discard_95 pv_a_lo.1 rfl (by omega) pv_a_lo.2.2 pv_a_lo.2.1 ?_
      refine px_iv (y := nI ((pl_g L l).2.2.1)) (hr.2.2.1) ?_
      refine px_iload dL_discard_96 rfl ?_
      refine px_isubN (by omega) dL_discard_98 ?_
      refine px_iast (j := ((4 * l) + 2)) dL_discard_99 pv_a_lo.1 rfl (by omega) pv_a_lo.2.2 pv_a_lo.2.1 ?_
      have hL1 := qL_amt (v := (pl_g L l).2.2.1 - am) hQL hl
      generalize hI1 : pv_uI I 367 (4 * l + 2) (nI ((pl_g L l).2.2.1 - am)) = I1 at hL1
      have hF1 : ∀ j, j ≠ 367 → I1 j = I j := fun j hj => by rw [← hI1]; exact pv_uI_ne hj
      have hr1 := hL1 l (by rw [pl_amt_len]; exact hl)
      have hg1 : (pl_g (pl_amt L l ((pl_g L l).2.2.1 - am)) l).1 = (pl_g L l).1 := by
        unfold pl_amt
        rw [pl_g_set hl, if_pos rfl]
      have hK1 := qK_add (x := am) (w := 6) (qK_of (I' := I1) (T' := T) hQK (hF1 366 (by omega)) rfl hn8 (fun _ _ => rfl)) (k := (pl_g L l).1) hkl (by omega) (by omega) hn8
      refine px_aload dL_discard_100 rfl ?_
      refine px_bipush (v := nI 8) dL_discard_102 (by decide) ?_
      refine px_aload dL_discard_104 rfl ?_
      refine px_iconst (v := nI 4) dL_discard_106 (by decide) ?_
      refine px_iload dL_discard_107 rfl ?_
      refine px_imulN dL_discard_109 ?_
      refine px_iald (j := (4 * l)) dL_discard_110 pv_a_lo.1 rfl (by omega) pv_a_lo.2.2 pv_a_lo.2.1 ?_
      refine px_iv (y := nI ((pl_g L l).1)) (hr1.1.trans (congrArg nI hg1)) ?_
      refine px_imulN dL_discard_111 ?_
      refine px_bipush (v := nI 6) dL_discard_112 (by decide) ?_
      refine px_iaddN dL_discard_114 ?_
      refine px_dup2 dL_discard_115 rfl rfl ?_
      refine px_iald (j := ((8 * ((pl_g L l).1)) + 6)) dL_discard_116 pv_a_ki.1 rfl (by omega) pv_a_ki.2.2 pv_a_ki.2.1 ?_
      refine px_iload dL_discard_117 rfl ?_
      refine px_iadd dL_discard_119 ?_
      refine px_iast (j := ((8 * ((pl_g L l).1)) + 6)) dL_discard_120 pv_a_ki.1 rfl (by omega) pv_a_ki.2.2 pv_a_ki.2.1 ?_
      rw [show 21 + 5 * (pl_g L l).1 + 6 = 27 + 5 * (pl_g L l).1 by omega] at hK1
      generalize hI2 : pv_uI I1 366 (8 * (pl_g L l).1 + 6) (I1 366 (8 * (pl_g L l).1 + 6) + nI am) = I2 at hK1
      have hF2 : ∀ j, j ≠ 366 → I2 j = I1 j := fun j hj => by rw [← hI2]; exact pv_uI_ne hj
      have hla : (pl_amt L l ((pl_g L l).2.2.1 - am)).length = L.length := pl_amt_len
      have hlbA : lbs (pl_amt L l ((pl_g L l).2.2.1 - am)) := lbs_amt hlb hl (by omega)
      have eT : ∀ i, i ≠ 27 + 5 * (pl_g L l).1 → pt_up T (27 + 5 * (pl_g L l).1) (T (27 + 5 * (pl_g L l).1) + am) i = T i := fun i hi => pt_un hi
      have hD2 : qD I2 (pt_up T (27 + 5 * (pl_g L l).1) (T (27 + 5 * (pl_g L l).1) + am)) (pl_amt L l ((pl_g L l).2.2.1 - am)).length := by
        rw [hla]
        exact qD_of hQD ((hF2 365 (by omega)).trans (hF1 365 (by omega))) (fun j hj => eT _ (by have := dT_ge hj; omega))
      refine px_aload_n dL_discard_121 rfl ?_
      refine px_aload dL_discard_122 rfl ?_
      refine c_L_drop dL_discard_124 mlL_26 (by omega) hD2 (qL_of hL1 (hF2 367 (by omega))) (by omega) (fun i hi => Nat.lt_of_le_of_lt (hlbA.2 i hi).2.2.1 (by omega)) (Nat.le_of_ble_eq_true rfl) (fun I3 hD3 hL3 hF3 => ?_)
      have hFF : ∀ j, 365 ≤ j → j ≠ 365 → j ≠ 366 → j ≠ 367 → I3 j = I j := fun j _ h1 h2 h3 => (hF3 j h1 h3).trans ((hF2 j h2).trans (hF1 j h3))
      have hCA3 : CA I3 ((T, L), H, B) := CA_far hCA (fun j hj => (hF3 j (by omega) (by omega)).trans ((hF2 j (by omega)).trans (hF1 j (by omega))))
      have hpo := qt_discard (T := T) (L := L) (H := H) (B := B) hl h31 ⟨ha1, ha2⟩ (by omega)
      have hw2 := wx_discard (l := nI l) (a := nI am) hw
      rw [hpo] at hw2
      have hK3 := qK_of (I' := I3) (T' := pt_up T (27 + 5 * (pl_g L l).1) (T (27 + 5 * (pl_g L l).1) + am)) hK1 (hF3 366 (by omega) (by omega)) rfl (by rw [eT 405 (by omega)]; exact hn8) (fun _ _ => rfl)
      refine px_aload_n dL_discard_127 rfl ?_
      refine px_iload dL_discard_128 rfl ?_
      refine px_iload dL_discard_130 rfl ?_
      refine c_X9_discard dL_discard_132 mlL_103 (by omega) hCA3 hw (by omega) (by omega) (by omega) (Nat.le_of_ble_eq_true rfl) (dz_ok hpo fun I4 hCA4 hG4 => ?_)
      refine px_iconst (v := -1) dL_discard_135 (by decide) ?_
      refine px_iconst (v := nI 0) dL_discard_136 (by decide) ?_
      refine px_aload_n dL_discard_137 rfl ?_
      refine px_aload dL_discard_138 rfl ?_
      have hD4 := qD_of hD3 (hG4 365 (by omega)) (fun _ _ => rfl)
      have hL4 := qL_of hL3 (hG4 367 (by omega))
      have hdl := pl_drop_le (pl_amt L l ((pl_g L l).2.2.1 - am))
      refine c_L_held_all dL_discard_140 mlL_53 (by omega) hD4 hL4 (by omega) (lbs_drop hlbA) (Nat.le_of_ble_eq_true rfl) ?_
      refine px_icmp_ne (tgt := 150) dL_discard_143 (by decide) (fun h9 => absurd rfl h9) (fun _ => ?_)
      refine px_iconst (v := nI 1) dL_discard_146 (by decide) ?_
      refine px_goto (tgt := 151) dL_discard_147 (by decide) ?_
      refine px_zret dL_discard_151 rfl rfl (Or.inl rfl) (h I4 (((pt_up T (27 + 5 * (pl_g L l).1) (T (27 + 5 * (pl_g L l).1) + am)), (pl_drop (pl_amt L l ((pl_g L l).2.2.1 - am)))), h_push H (T, L), B) ⟨hCA4, hw2, ⟨r, g, hD4, qK_of hK3 (hG4 366 (by omega)) rfl (by rw [eT 405 (by omega)]; exact hn8) (fun _ _ => rfl), hL4, qM_of hQM ((hG4 368 (by omega)).trans (hFF 368 (by omega) (by omega) (by omega) (by omega))) h10 (fun m hm => (htb.2.2.2.2.2.2.2.2 m hm).1) (fun i hi => eT i (by omega)), qP_of hQP ((hG4 369 (by omega)).trans (hFF 369 (by omega) (by omega) (by omega) (by omega))) hpw.1 (fun q hq => (hQR.1 q hq).1) (fun i hi => eT i (by omega)), (by show qR ((pt_up T (27 + 5 * (pl_g L l).1) (T (27 + 5 * (pl_g L l).1) + am)) 407) r g; rw [eT 407 (by omega)]; exact hQR)⟩, ⟨?_, ?_, ?_, ?_, ?_⟩, ?_, ?_, ?_, ?_⟩)
      · show (pt_up T (27 + 5 * (pl_g L l).1) (T (27 + 5 * (pl_g L l).1) + am)) 405 ≤ 4
        rw [eT 405 (by omega)]; exact q4
      · show (pl_drop (pl_amt L l ((pl_g L l).2.2.1 - am))).length ≤ 11
        omega
      · show (pt_up T (27 + 5 * (pl_g L l).1) (T (27 + 5 * (pl_g L l).1) + am)) 408 ≤ 3
        rw [eT 408 (by omega)]; exact q3
      · intro m hm
        replace hm : m < (pt_up T (27 + 5 * (pl_g L l).1) (T (27 + 5 * (pl_g L l).1) + am)) 408 := hm
        rw [eT 408 (by omega)] at hm
        show (pt_up T (27 + 5 * (pl_g L l).1) (T (27 + 5 * (pl_g L l).1) + am)) (314 + m) ≤ 3
        rw [eT _ (by omega)]; exact qm3 m hm
      · show (pt_up T (27 + 5 * (pl_g L l).1) (T (27 + 5 * (pl_g L l).1) + am)) 407 ≤ 4
        rw [eT 407 (by omega)]; exact qp4
      · intro s hs
        show ps_in (pl_drop (pl_amt L l ((pl_g L l).2.2.1 - am))) s ≤ (pt_up T (27 + 5 * (pl_g L l).1) (T (27 + 5 * (pl_g L l).1) + am)) (64 + s)
        rw [eT _ (by omega), qs_in_drop]
        have h1 := qs_in_amt (v := (pl_g L l).2.2.1 - am) (s := s) hl
        have h2 := hin s hs
        by_cases e : (pl_g L l).2.1 = s
        · rw [if_pos e, if_pos e] at h1; omega
        · rw [if_neg e, if_neg e] at h1; omega
      · intro k hk
        replace hk : k < (pt_up T (27 + 5 * (pl_g L l).1) (T (27 + 5 * (pl_g L l).1) + am)) 405 := hk
        rw [eT 405 (by omega)] at hk
        show (pt_up T (27 + 5 * (pl_g L l).1) (T (27 + 5 * (pl_g L l).1) + am)) (24 + 5 * k) = (pt_up T (27 + 5 * (pl_g L l).1) (T (27 + 5 * (pl_g L l).1) + am)) (25 + 5 * k) + (pt_up T (27 + 5 * (pl_g L l).1) (T (27 + 5 * (pl_g L l).1) + am)) (26 + 5 * k) + (pt_up T (27 + 5 * (pl_g L l).1) (T (27 + 5 * (pl_g L l).1) + am)) (27 + 5 * k) + ps_of (pl_drop (pl_amt L l ((pl_g L l).2.2.1 - am))) k
        rw [eT (24 + 5 * k) (by omega), eT (25 + 5 * k) (by omega), eT (26 + 5 * k) (by omega), qs_of_drop]
        have h1 := qs_of_amt (v := (pl_g L l).2.2.1 - am) (k := k) hl
        have h2 := hacc k hk
        by_cases e : (pl_g L l).1 = k
        · rw [if_pos e, if_pos e] at h1
          rw [e, pt_us]
          omega
        · rw [if_neg e, if_neg e] at h1
          rw [eT _ (by omega)]
          omega
      · show (pt_up T (27 + 5 * (pl_g L l).1) (T (27 + 5 * (pl_g L l).1) + am)) 404 ≤ 20 * (n + 1 - 6)
        rw [eT 404 (by omega)]; omega
      · show (pt_up T (27 + 5 * (pl_g L l).1) (T (27 + 5 * (pl_g L l).1) + am)) 410 ≤ 10000 + 2000 * (n + 1)
        rw [eT 410 (by omega)]; omega
    refine px_if_neN (tgt := 42) dL_discard_27 (by decide) (by omega) (fun h5 => ?_) (fun h5 => ?_)
    · refine px_iconst (v := nI 1) dL_discard_42 (by decide) ?_
      refine px_aload dL_discard_43 rfl ?_
      refine px_iconst (v := nI 4) dL_discard_45 (by decide) ?_
      refine px_iload dL_discard_46 rfl ?_
      refine px_imulN dL_discard_48 ?_
      refine px_iconst (v := nI 2) dL_discard_49 (by decide) ?_
      refine px_iaddN dL_discard_50 ?_
      refine px_iald (j := ((4 * l) + 2)) dL_discard_51 pv_a_lo.1 rfl (by omega) pv_a_lo.2.2 pv_a_lo.2.1 ?_
      refine px_iv (y := nI ((pl_g L l).2.2.1)) (hr.2.2.1) ?_
      refine px_iconst (v := nI 2) dL_discard_52 (by decide) ?_
      refine px_idivN (by omega) (by omega) (by omega) dL_discard_53 ?_
      refine px_iaddN dL_discard_54 ?_
      refine c_L_at dL_discard_55 mlL_30 (by omega) (by omega) (by omega) (Nat.le_of_ble_eq_true rfl) (fun j2 hj2 => ?_)
      refine px_iaddN dL_discard_58 ?_
      refine px_istore dL_discard_59 (by decide) ?_
      refine px_iload dL_discard_61 rfl ?_
      refine px_aload dL_discard_63 rfl ?_
      refine px_iconst (v := nI 4) dL_discard_65 (by decide) ?_
      refine px_iload dL_discard_66 rfl ?_
      refine px_imulN dL_discard_68 ?_
      refine px_iconst (v := nI 2) dL_discard_69 (by decide) ?_
      refine px_iaddN dL_discard_70 ?_
      refine px_iald (j := ((4 * l) + 2)) dL_discard_71 pv_a_lo.1 rfl (by omega) pv_a_lo.2.2 pv_a_lo.2.1 ?_
      refine px_iv (y := nI ((pl_g L l).2.2.1)) (hr.2.2.1) ?_
      refine px_icmp_leN (tgt := 86) dL_discard_72 (by decide) (by omega) (by omega) (fun h6 => ?_) (fun h6 => ?_)
      · obtain ⟨am, ham, hamE⟩ : ∃ am : Nat, (1 ≤ am ∧ am ≤ (pl_g L l).2.2.1) ∧ 1 + j2 = am := ⟨_, ⟨by omega, by omega⟩, rfl⟩
        refine px_lvs (lv' := [(0, .ref 0), (1, .int x), (2, .int y), (3, .ref 365), (4, .ref 366), (5, .ref 367), (6, .int (nI l)), (7, .int (nI am))]) (by rw [← hamE]; rfl) ?_
        obtain ⟨ha1, ha2⟩ := ham
        exact kx am ha1 ha2
      · refine px_aload dL_discard_75 rfl ?_
        refine px_iconst (v := nI 4) dL_discard_77 (by decide) ?_
        refine px_iload dL_discard_78 rfl ?_
        refine px_imulN dL_discard_80 ?_
        refine px_iconst (v := nI 2) dL_discard_81 (by decide) ?_
        refine px_iaddN dL_discard_82 ?_
        refine px_iald (j := ((4 * l) + 2)) dL_discard_83 pv_a_lo.1 rfl (by omega) pv_a_lo.2.2 pv_a_lo.2.1 ?_
        refine px_iv (y := nI ((pl_g L l).2.2.1)) (hr.2.2.1) ?_
        refine px_istore dL_discard_84 (by decide) ?_
        obtain ⟨am, ham, hamE⟩ : ∃ am : Nat, (1 ≤ am ∧ am ≤ (pl_g L l).2.2.1) ∧ (pl_g L l).2.2.1 = am := ⟨_, ⟨by omega, by omega⟩, rfl⟩
        refine px_lvs (lv' := [(0, .ref 0), (1, .int x), (2, .int y), (3, .ref 365), (4, .ref 366), (5, .ref 367), (6, .int (nI l)), (7, .int (nI am))]) (by rw [← hamE]; rfl) ?_
        obtain ⟨ha1, ha2⟩ := ham
        exact kx am ha1 ha2
    · refine px_aload dL_discard_30 rfl ?_
      refine px_iconst (v := nI 4) dL_discard_32 (by decide) ?_
      refine px_iload dL_discard_33 rfl ?_
      refine px_imulN dL_discard_35 ?_
      refine px_iconst (v := nI 2) dL_discard_36 (by decide) ?_
      refine px_iaddN dL_discard_37 ?_
      refine px_iald (j := ((4 * l) + 2)) dL_discard_38 pv_a_lo.1 rfl (by omega) pv_a_lo.2.2 pv_a_lo.2.1 ?_
      refine px_iv (y := nI ((pl_g L l).2.2.1)) (hr.2.2.1) ?_
      refine px_goto (tgt := 55) dL_discard_39 (by decide) ?_
      refine c_L_at dL_discard_55 mlL_30 (by omega) (by omega) (by omega) (Nat.le_of_ble_eq_true rfl) (fun j2 hj2 => ?_)
      refine px_iaddN dL_discard_58 ?_
      refine px_istore dL_discard_59 (by decide) ?_
      refine px_iload dL_discard_61 rfl ?_
      refine px_aload dL_discard_63 rfl ?_
      refine px_iconst (v := nI 4) dL_discard_65 (by decide) ?_
      refine px_iload dL_discard_66 rfl ?_
      refine px_imulN dL_discard_68 ?_
      refine px_iconst (v := nI 2) dL_discard_69 (by decide) ?_
      refine px_iaddN dL_discard_70 ?_
      refine px_iald (j := ((4 * l) + 2)) dL_discard_71 pv_a_lo.1 rfl (by omega) pv_a_lo.2.2 pv_a_lo.2.1 ?_
      refine px_iv (y := nI ((pl_g L l).2.2.1)) (hr.2.2.1) ?_
      refine px_icmp_leN (tgt := 86) dL_discard_72 (by decide) (by omega) (by omega) (fun h6 => ?_) (fun h6 => ?_)
      · obtain ⟨am, ham, hamE⟩ : ∃ am : Nat, (1 ≤ am ∧ am ≤ (pl_g L l).2.2.1) ∧ 1 + j2 = am := ⟨_, ⟨by omega, by omega⟩, rfl⟩
        refine px_lvs (lv' := [(0, .ref 0), (1, .int x), (2, .int y), (3, .ref 365), (4, .ref 366), (5, .ref 367), (6, .int (nI l)), (7, .int (nI am))]) (by rw [← hamE]; rfl) ?_
        obtain ⟨ha1, ha2⟩ := ham
        exact kx am ha1 ha2
      · refine px_aload dL_discard_75 rfl ?_
        refine px_iconst (v := nI 4) dL_discard_77 (by decide) ?_
        refine px_iload dL_discard_78 rfl ?_
        refine px_imulN dL_discard_80 ?_
        refine px_iconst (v := nI 2) dL_discard_81 (by decide) ?_
        refine px_iaddN dL_discard_82 ?_
        refine px_iald (j := ((4 * l) + 2)) dL_discard_83 pv_a_lo.1 rfl (by omega) pv_a_lo.2.2 pv_a_lo.2.1 ?_
        refine px_iv (y := nI ((pl_g L l).2.2.1)) (hr.2.2.1) ?_
        refine px_istore dL_discard_84 (by decide) ?_
        obtain ⟨am, ham, hamE⟩ : ∃ am : Nat, (1 ≤ am ∧ am ≤ (pl_g L l).2.2.1) ∧ (pl_g L l).2.2.1 = am := ⟨_, ⟨by omega, by omega⟩, rfl⟩
        refine px_lvs (lv' := [(0, .ref 0), (1, .int x), (2, .int y), (3, .ref 365), (4, .ref 366), (5, .ref 367), (6, .int (nI l)), (7, .int (nI am))]) (by rw [← hamE]; rfl) ?_
        obtain ⟨ha1, ha2⟩ := ham
        exact kx am ha1 ha2
  · refine px_iconst (v := nI 1) dL_discard_6 (by decide) ?_
    exact px_zret dL_discard_7 rfl rfl (Or.inl rfl) (h I ((T, L), H, B) (qW_mono hW))
theorem c_L_discard {z : pv_Z} {E : pv_E} {d bc bs : Nat} {J : pv_JT} {I : pv_IT} {mi : pv_MI} {pc idx : Nat} {lv : pv_LV} {st : List Value} {T : pv_T} {L : List pv_Lot} {H : List pv_S} {B : List Nat} {n : Nat} {x y : Int32} (hd : decode mi.2.1 pc = .ok (.invokestatic idx, 3)) (hlk : Cond.methodLink mi.1.cls idx mL_discard.1 ∈ pv_W) (hDep : 9+1 ≤ d) (hW : qW n I ((T, L), H, B)) (hn : n ≤ 29) (hbc : 6 ≤ bc) (hbs : 36 ≤ bs) (hcat : (st.map fun v => v.category).sum ≤ 8) (K : ∀ (I' : pv_IT) (X' : pv_XS), qW (n + 1) I' X' → pv_X z E d (bc - 6) (bs - 36) mi (pc + 3) lv ((.int (nI 1)) :: st) pv_K0 pv_P0 (I') (J)) : pv_X z E d bc bs mi pc lv (.ref (367) :: .ref (366) :: .ref (365) :: .int (y) :: .int (x) :: .ref 0 :: st) pv_K0 pv_P0 I J := by
  obtain ⟨bc, rfl⟩ : ∃ b0, bc = 6 + b0 := ⟨bc - 6, by omega⟩
  obtain ⟨bs, rfl⟩ : ∃ b0, bs = 36 + b0 := ⟨bs - 36, by omega⟩
  rw [show 6 + bc - 6 = bc by omega, show 36 + bs - 36 = bs by omega] at K
  obtain ⟨d, rfl⟩ : ∃ d0, d = d0 + 1 := ⟨d - 1, by omega⟩
  have key := px_callS (bc := bc) (bs := bs) (bc1 := 6) (bs1 := 36) (as := [.ref 0, .int (x), .int (y), .ref (365), .ref (366), .ref (367)]) (E := E) (z := z) (lv := lv) hd msL_discard hlk rfl rfl hcat (by exact Nat.le_of_ble_eq_true rfl) (s_L_discard (by omega) hW hn (Nat.le_refl _) (Nat.le_refl _) K)
  exact key
