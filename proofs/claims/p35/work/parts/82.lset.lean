/-! The law: warm stores, the crew, rooms, coins. -/
theorem qt_warm {T : pv_T} {L : List pv_Lot} {H : List pv_S} {B : List Nat} {s d : Nat} (hs : 1 ≤ s ∧ s ≤ 2) (hd : d ≤ 30) : po_warm ((T, L), H, B) (nI s) (nI d) = (0, nI (T (67 + s)), po_push ((T, L), H, B) (pt_up T (67 + s) d, L)) := by
  unfold po_warm
  rw [if_pos ((pu_c (by omega) (by decide) (by decide)).mpr hs), if_pos (dz_in hd (by decide)), dz_tn (by omega), dz_tn (by omega)]
theorem qt_setCrew {T : pv_T} {L : List pv_Lot} {H : List pv_S} {B : List Nat} {a : Nat} (ha : 1 ≤ a ∧ a ≤ 100) : po_setCrew ((T, L), H, B) (nI a) = (0, nI (T 409), po_push ((T, L), H, B) (pt_up T 409 a, L)) := by
  unfold po_setCrew
  rw [if_pos ((pu_c (by omega) (by decide) (by decide)).mpr ha), dz_tn (by omega)]
theorem qt_setRoom {T : pv_T} {L : List pv_Lot} {H : List pv_S} {B : List Nat} {s r : Nat} (hs : s < 3) (hr : r ≤ 5000) (h : ps_in L s ≤ r) : po_setRoom ((T, L), H, B) (nI s) (nI r) = (0, nI (T (64 + s)), po_push ((T, L), H, B) (pt_up T (64 + s) r, L)) := by
  unfold po_setRoom
  rw [if_pos ((pu_hasN (by omega) (by decide)).mpr hs), if_pos (dz_in hr (by decide)), dz_tn (by omega), dz_tn (by omega)]
  exact if_pos h
theorem qt_pay {T : pv_T} {L : List pv_Lot} {H : List pv_S} {B : List Nat} {c : Int32} {v : Nat} (h : (T 410 : Int) + c.toInt = (v : Int)) (hv : v ≤ 1000000) : po_pay ((T, L), H, B) c = (0, nI v, po_push ((T, L), H, B) (pt_up T 410 v, L)) := by
  unfold po_pay
  show (if 0 ≤ (T 410 : Int) + c.toInt ∧ (T 410 : Int) + c.toInt ≤ 1000000 then (0, nI ((T 410 : Int) + c.toInt).toNat, po_push ((T, L), H, B) (pt_up T 410 ((T 410 : Int) + c.toInt).toNat, L)) else (1, 0, ((T, L), H, B))) = _
  rw [h, if_pos (by omega)]
  rfl
/-- a change of one number that the law keeps in d -/
theorem qW_set {n j v : Nat} {I I1 I2 : pv_IT} {T : pv_T} {L : List pv_Lot} {H : List pv_S} {B : List Nat} (hW : qW n I ((T, L), H, B)) (hj : j = 4 ∨ j = 5 ∨ (8 ≤ j ∧ j < 14)) (hw2 : wx (n + 1) (po_push ((T, L), H, B) (pt_up T (dT j) v, L))) (hCA2 : CA I2 (po_push ((T, L), H, B) (pt_up T (dT j) v, L))) (hI1 : I1 = pv_uI I 365 j (nI v)) (hG : ∀ k, 365 ≤ k → I2 k = I1 k) (hin : ∀ s, s < 3 → 8 + s = j → ps_in L s ≤ v) (hp : j = 5 → v ≤ 10000 + 2000 * (n + 1)) : qW (n + 1) I2 (po_push ((T, L), H, B) (pt_up T (dT j) v, L)) := by
  obtain ⟨hCA, hw, ⟨r, g, hQD, hQK, hQL, hQM, hQP, hQR⟩, ⟨q4, q11, q3, qm3, qp4⟩, hin0, hacc, hq404, hq410⟩ := hW
  have hdy : dy (T, L) := hw.1.1
  have htb : tb T := hdy.1
  have h10 : T 408 ≤ 10 := htb.2.2.2.2.2.2.2.1
  have hF : ∀ k, 365 ≤ k → k ≠ 365 → I2 k = I k := fun k h1 h2 => by rw [hG k h1, hI1]; exact pv_uI_ne h2
  have hj18 : j < 18 := by omega
  have hdj : dT j = 409 ∨ dT j = 410 ∨ (64 ≤ dT j ∧ dT j < 70) := by unfold dT; rcases hj with rfl | rfl | h <;> repeat' (first | omega | split)
  have eT : ∀ i, ¬ (i = 409 ∨ i = 410 ∨ (64 ≤ i ∧ i < 70)) → pt_up T (dT j) v i = T i := fun i hi => pt_un (by omega)
  refine ⟨hCA2, hw2, ⟨r, g, ?_, qK_of hQK (hF 366 (by omega) (by omega)) (eT 405 (by omega)) htb.2.2.1 (fun i hi => eT i (by omega)), qL_of hQL (hF 367 (by omega) (by omega)), qM_of hQM (hF 368 (by omega) (by omega)) h10 (fun m hm => (htb.2.2.2.2.2.2.2.2 m hm).1) (fun i hi => eT i (by omega)), qP_of hQP (hF 369 (by omega) (by omega)) htb.2.2.2.2.2.1.1 (fun q hq => (hQR.1 q hq).1) (fun i hi => eT i (by omega)), (by show qR (pt_up T (dT j) v 407) r g; rw [eT 407 (by omega)]; exact hQR)⟩, ⟨?_, q11, ?_, ?_, ?_⟩, ?_, ?_, ?_, ?_⟩
  · have h1 : qD I1 (pt_up T (dT j) v) L.length := by rw [hI1]; exact qD_put hQD hj18 (by omega) (by omega)
    exact qD_of h1 (hG 365 (by omega)) (fun _ _ => rfl)
  · show pt_up T (dT j) v 405 ≤ 4
    rw [eT 405 (by omega)]; exact q4
  · show pt_up T (dT j) v 408 ≤ 3
    rw [eT 408 (by omega)]; exact q3
  · intro m hm
    replace hm : m < pt_up T (dT j) v 408 := hm
    rw [eT 408 (by omega)] at hm
    show pt_up T (dT j) v (314 + m) ≤ 3
    rw [eT _ (by omega)]; exact qm3 m hm
  · show pt_up T (dT j) v 407 ≤ 4
    rw [eT 407 (by omega)]; exact qp4
  · intro s hs
    show ps_in L s ≤ pt_up T (dT j) v (64 + s)
    by_cases e : 8 + s = j
    · subst e
      rw [dT_8 hs, pt_us]; exact hin s hs rfl
    · rw [pt_un (fun e2 => e (dT_inj (by omega) hj18 (by rw [dT_8 hs]; exact e2)))]; exact hin0 s hs
  · intro k hk
    replace hk : k < pt_up T (dT j) v 405 := hk
    rw [eT 405 (by omega)] at hk
    replace q4 : T 405 ≤ 4 := q4
    show pt_up T (dT j) v (24 + 5 * k) = pt_up T (dT j) v (25 + 5 * k) + pt_up T (dT j) v (26 + 5 * k) + pt_up T (dT j) v (27 + 5 * k) + ps_of L k
    rw [eT _ (by omega), eT _ (by omega), eT _ (by omega), eT _ (by omega)]
    exact hacc k hk
  · show pt_up T (dT j) v 404 ≤ 20 * (n + 1 - 6)
    replace hq404 : T 404 ≤ 20 * (n - 6) := hq404
    rw [eT 404 (by omega)]; omega
  · show pt_up T (dT j) v 410 ≤ 10000 + 2000 * (n + 1)
    replace hq410 : T 410 ≤ 10000 + 2000 * n := hq410
    by_cases e : j = 5
    · subst e
      rw [show dT 5 = 410 from rfl, pt_us]; exact hp rfl
    · rw [pt_un (show (410 : Nat) ≠ dT j from fun e2 => e (dT_inj hj18 (by omega) (j := 5) e2.symm))]; omega
set_option maxRecDepth 100000 in
set_option maxHeartbeats 4000000 in
theorem s_L_set {Q : pv_Q} {E : pv_E} {d bc bs : Nat} {J : pv_JT} {I : pv_IT} {T : pv_T} {L : List pv_Lot} {H : List pv_S} {B : List Nat} {n : Nat} {x y : Int32} (hDep : 9 ≤ d) (hW : qW n I ((T, L), H, B)) (hn : n ≤ 29) (hbc : 6 ≤ bc) (hbs : 36 ≤ bs) (h : ∀ (I' : pv_IT) (X' : pv_XS), qW (n + 1) I' X' → Q (.inl (some (.int (nI 1)))) pv_K0 pv_P0 (I') (J)) : pv_X (pv_ZQ E Q) E d bc bs mL_set 0 [(0, .ref 0), (1, .int (x)), (2, .int (y)), (3, .ref (365)), (4, .ref (367))] [] pv_K0 pv_P0 I J := by
  obtain ⟨hCA, hw, ⟨r, g, hQD, hQK, hQL, hQM, hQP, hQR⟩, ⟨q4, q11, q3, qm3, qp4⟩, hin, hacc, hq404, hq410⟩ := id hW
  replace hQD : qD I T L.length := hQD
  replace hQK : qK I T := hQK
  replace hQL : qL I L := hQL
  replace hQM : qM I T := hQM
  replace hQP : qP I T r := hQP
  replace hQR : qR (T 407) r g := hQR
  replace q4 : T 405 ≤ 4 := q4
  replace q11 : L.length ≤ 11 := q11
  replace q3 : T 408 ≤ 3 := q3
  replace qm3 : ∀ m, m < T 408 → T (314 + m) ≤ 3 := qm3
  replace qp4 : T 407 ≤ 4 := qp4
  replace hin : qin T L := hin
  replace hacc : qacc T L := hacc
  replace hq404 : T 404 ≤ 20 * (n - 6) := hq404
  replace hq410 : T 410 ≤ 10000 + 2000 * n := hq410
  have hdy : dy (T, L) := hw.1.1
  have htb : tb T := hdy.1
  have hlb : lbs L := hdy.2.1
  have hlo : lo_ok L := hdy.2.2
  have hpw : pw T := htb.2.2.2.2.2.1
  have hkk : ∀ l, l < L.length → (pl_g L l).1 < T 405 := hw.1.2.2.2.2.2.1
  have h31 : L.length ≤ 31 := hlb.1
  have hn8 : T 405 ≤ 8 := htb.2.2.1
  have h10 : T 408 ≤ 10 := htb.2.2.2.2.2.2.2.1
  refine px_iload_n dL_set_0 rfl ?_
  refine px_iconst (v := nI 4) dL_set_1 (by decide) ?_
  refine c_L_at dL_set_2 mlL_30 (by omega) (by omega) (by omega) (Nat.le_of_ble_eq_true rfl) (fun q hq => ?_)
  refine px_istore dL_set_5 (by decide) ?_
  refine px_iload dL_set_7 rfl ?_
  refine px_if_neN (tgt := 69) dL_set_9 (by decide) (by omega) (fun h4 => ?_) (fun h4 => ?_)
  · refine px_iload dL_set_69 rfl ?_
    refine px_iconst (v := nI 1) dL_set_71 (by decide) ?_
    refine px_icmp_neN (tgt := 124) dL_set_72 (by decide) (by omega) (by omega) (fun h5 => ?_) (fun h5 => ?_)
    · refine px_iload dL_set_124 rfl ?_
      refine px_iconst (v := nI 2) dL_set_126 (by decide) ?_
      refine px_icmp_neN (tgt := 219) dL_set_127 (by decide) (by omega) (by omega) (fun h6 => ?_) (fun h6 => ?_)
      · refine px_iload_n dL_set_219 rfl ?_
        refine px_sipush (v := nI 2000) dL_set_220 (by decide) ?_
        refine c_L_at dL_set_223 mlL_30 (by omega) (by omega) (by omega) (Nat.le_of_ble_eq_true rfl) (fun j1 hj1 => ?_)
        refine px_aload_n dL_set_226 rfl ?_
        refine px_iconst (v := nI 5) dL_set_227 (by decide) ?_
        have hpur := htb.2.2.2.2.1
        refine px_iald (j := 5) dL_set_228 pv_a_d.1 rfl (by omega) pv_a_d.2.2 pv_a_d.2.1 ?_
        refine px_iv (y := nI (T 410)) (qD_5 hQD) ?_
        refine px_sipush (v := nI 1000) dL_set_229 (by decide) ?_
        refine px_icmp_geN (tgt := 241) dL_set_232 (by decide) (by omega) (by omega) (fun h7 => ?_) (fun h7 => ?_)
        · refine px_sipush (v := nI 1000) dL_set_241 (by decide) ?_
          refine px_isub dL_set_244 ?_
          refine px_istore dL_set_245 (by decide) ?_
          refine px_aload_n dL_set_247 rfl ?_
          refine px_iconst (v := nI 5) dL_set_248 (by decide) ?_
          refine px_dup2 dL_set_249 rfl rfl ?_
          refine px_iald (j := 5) dL_set_250 pv_a_d.1 rfl (by omega) pv_a_d.2.2 pv_a_d.2.1 ?_
          refine px_iv (y := nI (T 410)) (qD_5 hQD) ?_
          refine px_iload dL_set_251 rfl ?_
          refine px_iadd dL_set_253 ?_
          refine px_iast (j := 5) dL_set_254 pv_a_d.1 rfl (by omega) pv_a_d.2.2 pv_a_d.2.1 ?_
          have hby : (nI j1 - nI (1000)).toInt = (j1 : Int) - (1000 : Nat) := pk_sub_toInt (by omega) (by omega)
          have hval : nI (T 410) + (nI j1 - nI (1000)) = nI (T 410 + j1 - (1000)) := by
            rw [Int32.sub_eq_add_neg, ← Int32.add_assoc, nI_add, ← Int32.sub_eq_add_neg]
            exact pk_sub (by omega)
          refine px_mem (I' := pv_uI I 365 5 (nI (T 410 + j1 - (1000)))) (by rw [hval]) ?_
          generalize hI1 : pv_uI I 365 (5) (nI (T 410 + j1 - (1000))) = I1
          have hv1 : I1 365 (5) = nI (T 410 + j1 - (1000)) := by rw [← hI1, pv_uI_self]; exact pk_us
          have hF1 : ∀ k, k ≠ 365 → I1 k = I k := fun k hk => by rw [← hI1]; exact pv_uI_ne hk
          have hCA1 : CA I1 ((T, L), H, B) := CA_far hCA (fun k hk => hF1 k (by omega))
          refine px_aload_n dL_set_255 rfl ?_
          refine px_iload dL_set_256 rfl ?_
          have hpo := qt_pay (T := T) (L := L) (H := H) (B := B) (c := nI j1 - nI (1000)) (v := T 410 + j1 - (1000)) (by rw [hby]; omega) (by omega)
          refine c_X9_pay dL_set_258 mlL_80 (by omega) hCA1 hw (by omega) (by omega) (by omega) (Nat.le_of_ble_eq_true rfl) (dz_ok hpo fun I2 hCA2 hG2 => ?_)
          refine px_aload_n dL_set_261 rfl ?_
          refine px_iconst (v := nI 5) dL_set_262 (by decide) ?_
          refine px_iald (j := 5) dL_set_263 pv_a_d.1 rfl (by omega) pv_a_d.2.2 pv_a_d.2.1 ?_
          refine px_iv (y := nI (T 410 + j1 - (1000))) ((congrFun (hG2 365 (by omega)) _).trans hv1) ?_
          have hw2 := wx_pay (c := nI j1 - nI (1000)) hw
          rw [hpo] at hw2
          refine px_icmp_ne (tgt := 271) dL_set_264 (by decide) (fun h9 => absurd rfl h9) (fun _ => ?_)
          refine px_iconst (v := nI 1) dL_set_267 (by decide) ?_
          refine px_goto (tgt := 272) dL_set_268 (by decide) ?_
          exact px_zret dL_set_272 rfl rfl (Or.inl rfl) (h I2 _ (qW_set (j := 5) hW (by omega) hw2 hCA2 hI1.symm (fun k hk => hG2 k hk) (fun s9 h1 h2 => absurd h2 (by omega)) (fun _ => by omega)))
        · refine px_aload_n dL_set_235 rfl ?_
          refine px_iconst (v := nI 5) dL_set_236 (by decide) ?_
          refine px_iald (j := 5) dL_set_237 pv_a_d.1 rfl (by omega) pv_a_d.2.2 pv_a_d.2.1 ?_
          refine px_iv (y := nI (T 410)) (qD_5 hQD) ?_
          refine px_goto (tgt := 244) dL_set_238 (by decide) ?_
          refine px_isub dL_set_244 ?_
          refine px_istore dL_set_245 (by decide) ?_
          refine px_aload_n dL_set_247 rfl ?_
          refine px_iconst (v := nI 5) dL_set_248 (by decide) ?_
          refine px_dup2 dL_set_249 rfl rfl ?_
          refine px_iald (j := 5) dL_set_250 pv_a_d.1 rfl (by omega) pv_a_d.2.2 pv_a_d.2.1 ?_
          refine px_iv (y := nI (T 410)) (qD_5 hQD) ?_
          refine px_iload dL_set_251 rfl ?_
          refine px_iadd dL_set_253 ?_
          refine px_iast (j := 5) dL_set_254 pv_a_d.1 rfl (by omega) pv_a_d.2.2 pv_a_d.2.1 ?_
          have hby : (nI j1 - nI (T 410)).toInt = (j1 : Int) - (T 410 : Nat) := pk_sub_toInt (by omega) (by omega)
          have hval : nI (T 410) + (nI j1 - nI (T 410)) = nI (T 410 + j1 - (T 410)) := by
            rw [Int32.sub_eq_add_neg, ← Int32.add_assoc, nI_add, ← Int32.sub_eq_add_neg]
            exact pk_sub (by omega)
          refine px_mem (I' := pv_uI I 365 5 (nI (T 410 + j1 - (T 410)))) (by rw [hval]) ?_
          generalize hI1 : pv_uI I 365 (5) (nI (T 410 + j1 - (T 410))) = I1
          have hv1 : I1 365 (5) = nI (T 410 + j1 - (T 410)) := by rw [← hI1, pv_uI_self]; exact pk_us
          have hF1 : ∀ k, k ≠ 365 → I1 k = I k := fun k hk => by rw [← hI1]; exact pv_uI_ne hk
          have hCA1 : CA I1 ((T, L), H, B) := CA_far hCA (fun k hk => hF1 k (by omega))
          refine px_aload_n dL_set_255 rfl ?_
          refine px_iload dL_set_256 rfl ?_
          have hpo := qt_pay (T := T) (L := L) (H := H) (B := B) (c := nI j1 - nI (T 410)) (v := T 410 + j1 - (T 410)) (by rw [hby]; omega) (by omega)
          refine c_X9_pay dL_set_258 mlL_80 (by omega) hCA1 hw (by omega) (by omega) (by omega) (Nat.le_of_ble_eq_true rfl) (dz_ok hpo fun I2 hCA2 hG2 => ?_)
          refine px_aload_n dL_set_261 rfl ?_
          refine px_iconst (v := nI 5) dL_set_262 (by decide) ?_
          refine px_iald (j := 5) dL_set_263 pv_a_d.1 rfl (by omega) pv_a_d.2.2 pv_a_d.2.1 ?_
          refine px_iv (y := nI (T 410 + j1 - (T 410))) ((congrFun (hG2 365 (by omega)) _).trans hv1) ?_
          have hw2 := wx_pay (c := nI j1 - nI (T 410)) hw
          rw [hpo] at hw2
          refine px_icmp_ne (tgt := 271) dL_set_264 (by decide) (fun h9 => absurd rfl h9) (fun _ => ?_)
          refine px_iconst (v := nI 1) dL_set_267 (by decide) ?_
          refine px_goto (tgt := 272) dL_set_268 (by decide) ?_
          exact px_zret dL_set_272 rfl rfl (Or.inl rfl) (h I2 _ (qW_set (j := 5) hW (by omega) hw2 hCA2 hI1.symm (fun k hk => hG2 k hk) (fun s9 h1 h2 => absurd h2 (by omega)) (fun _ => by omega)))
      · refine px_iload_n dL_set_130 rfl ?_
        refine px_iconst (v := nI 4) dL_set_131 (by decide) ?_
        refine px_ishr dL_set_132 ?_
        refine px_iconst (v := nI 3) dL_set_133 (by decide) ?_
        refine c_L_at dL_set_134 mlL_30 (by omega) (by omega) (by omega) (Nat.le_of_ble_eq_true rfl) (fun s hs => ?_)
        refine px_istore dL_set_137 (by decide) ?_
        refine px_aload_n dL_set_139 rfl ?_
        refine px_bipush (v := nI 8) dL_set_140 (by decide) ?_
        refine px_iload dL_set_142 rfl ?_
        refine px_iaddN dL_set_144 ?_
        have hds : dT (8 + s) = 64 + s := dT_8 hs
        have hal := ps_in_le (s := s) hlb
        have hrm := (htb.2.1 s hs).1
        have hi9 := hin s hs
        refine px_iald (j := (8 + s)) dL_set_145 pv_a_d.1 rfl (by omega) pv_a_d.2.2 pv_a_d.2.1 ?_
        refine px_iv (y := nI (T (64 + s))) (qD_8 hQD hs) ?_
        refine px_istore dL_set_146 (by decide) ?_
        refine px_aload_n dL_set_148 rfl ?_
        refine px_bipush (v := nI 8) dL_set_149 (by decide) ?_
        refine px_iload dL_set_151 rfl ?_
        refine px_iaddN dL_set_153 ?_
        refine px_iconst (v := nI 1) dL_set_154 (by decide) ?_
        refine px_iload dL_set_155 rfl ?_
        refine px_aload_n dL_set_157 rfl ?_
        refine px_aload dL_set_158 rfl ?_
        refine c_L_held_in dL_set_160 mlL_53 (by omega) hQD hQL (by omega) hlb (by omega) (Nat.le_of_ble_eq_true rfl) ?_
        refine px_iload_n dL_set_163 rfl ?_
        refine px_sipush (v := nI 600) dL_set_164 (by decide) ?_
        refine c_L_at dL_set_167 mlL_30 (by omega) (by omega) (by omega) (Nat.le_of_ble_eq_true rfl) (fun j2 hj2 => ?_)
        refine px_iaddN dL_set_170 ?_
        refine px_iast (j := (8 + s)) dL_set_171 pv_a_d.1 rfl (by omega) pv_a_d.2.2 pv_a_d.2.1 ?_
        have hv9 : pv_uI I 365 (8 + s) (nI (ps_in L s + j2)) 365 (8 + s) = nI (ps_in L s + j2) := by rw [pv_uI_self]; exact pk_us
        refine px_aload_n dL_set_172 rfl ?_
        refine px_bipush (v := nI 8) dL_set_173 (by decide) ?_
        refine px_iload dL_set_175 rfl ?_
        refine px_iaddN dL_set_177 ?_
        refine px_iald (j := (8 + s)) dL_set_178 pv_a_d.1 rfl (by omega) pv_a_d.2.2 pv_a_d.2.1 ?_
        refine px_iv (y := nI ((ps_in L s + j2))) (hv9) ?_
        refine px_sipush (v := nI 5000) dL_set_179 (by decide) ?_
        refine px_icmp_leN (tgt := 195) dL_set_182 (by decide) (by omega) (by omega) (fun h7 => ?_) (fun h7 => ?_)
        · refine px_aload_n dL_set_195 rfl ?_
          refine px_iload dL_set_196 rfl ?_
          refine px_aload_n dL_set_198 rfl ?_
          refine px_bipush (v := nI 8) dL_set_199 (by decide) ?_
          refine px_iload dL_set_201 rfl ?_
          refine px_iaddN dL_set_203 ?_
          generalize hI1 : pv_uI I 365 (8 + s) (nI ((ps_in L s + j2))) = I1
          have hv1 : I1 365 (8 + s) = nI ((ps_in L s + j2)) := by rw [← hI1, pv_uI_self]; exact pk_us
          have hF1 : ∀ k, k ≠ 365 → I1 k = I k := fun k hk => by rw [← hI1]; exact pv_uI_ne hk
          have hCA1 : CA I1 ((T, L), H, B) := CA_far hCA (fun k hk => hF1 k (by omega))
          refine px_iald (j := (8 + s)) dL_set_204 pv_a_d.1 rfl (by omega) pv_a_d.2.2 pv_a_d.2.1 ?_
          refine px_iv (y := nI ((ps_in L s + j2))) (hv1) ?_
          have hpo := qt_setRoom (T := T) (L := L) (H := H) (B := B) (s := s) (r := (ps_in L s + j2)) hs (by omega) (by omega)
          rw [← hds] at hpo
          refine c_X9_setRoom dL_set_205 mlL_77 (by omega) hCA1 hw (by omega) (by omega) (by omega) (Nat.le_of_ble_eq_true rfl) (dz_ok hpo fun I2 hCA2 hG2 => ?_)
          rw [hds]
          have hw2 := wx_setRoom (s := nI s) (r := nI (ps_in L s + j2)) hw
          rw [hpo] at hw2
          refine px_iload dL_set_208 rfl ?_
          refine px_icmp_ne (tgt := 217) dL_set_210 (by decide) (fun h9 => absurd rfl h9) (fun _ => ?_)
          refine px_iconst (v := nI 1) dL_set_213 (by decide) ?_
          refine px_goto (tgt := 218) dL_set_214 (by decide) ?_
          exact px_zret dL_set_218 rfl rfl (Or.inl rfl) (h I2 _ (qW_set (j := 8 + s) hW (by omega) hw2 hCA2 hI1.symm (fun k hk => hG2 k hk) (fun s9 h1 h2 => (show s9 = s by omega) ▸ (by omega)) (fun h9 => absurd h9 (by omega))))
        · refine px_aload_n dL_set_185 rfl ?_
          refine px_bipush (v := nI 8) dL_set_186 (by decide) ?_
          refine px_iload dL_set_188 rfl ?_
          refine px_iaddN dL_set_190 ?_
          refine px_sipush (v := nI 5000) dL_set_191 (by decide) ?_
          refine px_iast (j := (8 + s)) dL_set_194 pv_a_d.1 rfl (by omega) pv_a_d.2.2 pv_a_d.2.1 ?_
          refine px_mem (I' := pv_uI I 365 (8 + s) (nI 5000)) (by funext a i; rw [pv_uI_at, pv_uI_at, pv_uI_at]; split <;> rfl) ?_
          generalize hI1 : pv_uI I 365 (8 + s) (nI (5000)) = I1
          have hv1 : I1 365 (8 + s) = nI (5000) := by rw [← hI1, pv_uI_self]; exact pk_us
          have hF1 : ∀ k, k ≠ 365 → I1 k = I k := fun k hk => by rw [← hI1]; exact pv_uI_ne hk
          have hCA1 : CA I1 ((T, L), H, B) := CA_far hCA (fun k hk => hF1 k (by omega))
          refine px_aload_n dL_set_195 rfl ?_
          refine px_iload dL_set_196 rfl ?_
          refine px_aload_n dL_set_198 rfl ?_
          refine px_bipush (v := nI 8) dL_set_199 (by decide) ?_
          refine px_iload dL_set_201 rfl ?_
          refine px_iaddN dL_set_203 ?_
          refine px_iald (j := (8 + s)) dL_set_204 pv_a_d.1 rfl (by omega) pv_a_d.2.2 pv_a_d.2.1 ?_
          refine px_iv (y := nI (5000)) (hv1) ?_
          have hpo := qt_setRoom (T := T) (L := L) (H := H) (B := B) (s := s) (r := 5000) hs (by omega) (by omega)
          rw [← hds] at hpo
          refine c_X9_setRoom dL_set_205 mlL_77 (by omega) hCA1 hw (by omega) (by omega) (by omega) (Nat.le_of_ble_eq_true rfl) (dz_ok hpo fun I2 hCA2 hG2 => ?_)
          rw [hds]
          have hw2 := wx_setRoom (s := nI s) (r := nI 5000) hw
          rw [hpo] at hw2
          refine px_iload dL_set_208 rfl ?_
          refine px_icmp_ne (tgt := 217) dL_set_210 (by decide) (fun h9 => absurd rfl h9) (fun _ => ?_)
          refine px_iconst (v := nI 1) dL_set_213 (by decide) ?_
          refine px_goto (tgt := 218) dL_set_214 (by decide) ?_
          exact px_zret dL_set_218 rfl rfl (Or.inl rfl) (h I2 _ (qW_set (j := 8 + s) hW (by omega) hw2 hCA2 hI1.symm (fun k hk => hG2 k hk) (fun s9 h1 h2 => (show s9 = s by omega) ▸ (by omega)) (fun h9 => absurd h9 (by omega))))
    · refine px_aload_n dL_set_75 rfl ?_
      refine px_iconst (v := nI 4) dL_set_76 (by decide) ?_
      refine px_iald (j := 4) dL_set_77 pv_a_d.1 rfl (by omega) pv_a_d.2.2 pv_a_d.2.1 ?_
      refine px_iv (y := nI (T 409)) (qD_4 hQD) ?_
      refine px_istore dL_set_78 (by decide) ?_
      refine px_aload_n dL_set_80 rfl ?_
      refine px_iconst (v := nI 4) dL_set_81 (by decide) ?_
      refine px_iconst (v := nI 1) dL_set_82 (by decide) ?_
      refine px_iload_n dL_set_83 rfl ?_
      refine px_iload_n dL_set_84 rfl ?_
      refine px_iconst (v := nI 5) dL_set_85 (by decide) ?_
      refine px_ishr dL_set_86 ?_
      refine px_iconst (v := nI 4) dL_set_87 (by decide) ?_
      refine c_L_at dL_set_88 mlL_30 (by omega) (by omega) (by omega) (Nat.le_of_ble_eq_true rfl) (fun j1 hj1 => ?_)
      refine px_if_neN (tgt := 99) dL_set_91 (by decide) (by omega) (fun h6 => ?_) (fun h6 => ?_)
      · refine px_bipush (v := nI 12) dL_set_99 (by decide) ?_
        refine c_L_at dL_set_101 mlL_30 (by omega) (by omega) (by omega) (Nat.le_of_ble_eq_true rfl) (fun j2 hj2 => ?_)
        refine px_iaddN dL_set_104 ?_
        refine px_iast (j := 4) dL_set_105 pv_a_d.1 rfl (by omega) pv_a_d.2.2 pv_a_d.2.1 ?_
        generalize hI1 : pv_uI I 365 (4) (nI (1 + j2)) = I1
        have hv1 : I1 365 (4) = nI (1 + j2) := by rw [← hI1, pv_uI_self]; exact pk_us
        have hF1 : ∀ k, k ≠ 365 → I1 k = I k := fun k hk => by rw [← hI1]; exact pv_uI_ne hk
        have hCA1 : CA I1 ((T, L), H, B) := CA_far hCA (fun k hk => hF1 k (by omega))
        refine px_aload_n dL_set_106 rfl ?_
        refine px_aload_n dL_set_107 rfl ?_
        refine px_iconst (v := nI 4) dL_set_108 (by decide) ?_
        refine px_iald (j := 4) dL_set_109 pv_a_d.1 rfl (by omega) pv_a_d.2.2 pv_a_d.2.1 ?_
        refine px_iv (y := nI (1 + j2)) (hv1) ?_
        have hpo := qt_setCrew (T := T) (L := L) (H := H) (B := B) (a := 1 + j2) ⟨by omega, by omega⟩
        refine c_X9_setCrew dL_set_110 mlL_73 (by omega) hCA1 hw (by omega) (by omega) (by omega) (Nat.le_of_ble_eq_true rfl) (dz_ok hpo fun I2 hCA2 hG2 => ?_)
        have hw2 := wx_setCrew (a := nI (1 + j2)) hw
        rw [hpo] at hw2
        refine px_iload dL_set_113 rfl ?_
        refine px_icmp_ne (tgt := 122) dL_set_115 (by decide) (fun h9 => absurd rfl h9) (fun _ => ?_)
        refine px_iconst (v := nI 1) dL_set_118 (by decide) ?_
        refine px_goto (tgt := 123) dL_set_119 (by decide) ?_
        exact px_zret dL_set_123 rfl rfl (Or.inl rfl) (h I2 _ (qW_set (j := 4) hW (by omega) hw2 hCA2 hI1.symm (fun k hk => hG2 k hk) (fun s9 h1 h2 => absurd h2 (by omega)) (fun h9 => absurd h9 (by omega))))
      · refine px_bipush (v := nI 100) dL_set_94 (by decide) ?_
        refine px_goto (tgt := 101) dL_set_96 (by decide) ?_
        refine c_L_at dL_set_101 mlL_30 (by omega) (by omega) (by omega) (Nat.le_of_ble_eq_true rfl) (fun j2 hj2 => ?_)
        refine px_iaddN dL_set_104 ?_
        refine px_iast (j := 4) dL_set_105 pv_a_d.1 rfl (by omega) pv_a_d.2.2 pv_a_d.2.1 ?_
        generalize hI1 : pv_uI I 365 (4) (nI (1 + j2)) = I1
        have hv1 : I1 365 (4) = nI (1 + j2) := by rw [← hI1, pv_uI_self]; exact pk_us
        have hF1 : ∀ k, k ≠ 365 → I1 k = I k := fun k hk => by rw [← hI1]; exact pv_uI_ne hk
        have hCA1 : CA I1 ((T, L), H, B) := CA_far hCA (fun k hk => hF1 k (by omega))
        refine px_aload_n dL_set_106 rfl ?_
        refine px_aload_n dL_set_107 rfl ?_
        refine px_iconst (v := nI 4) dL_set_108 (by decide) ?_
        refine px_iald (j := 4) dL_set_109 pv_a_d.1 rfl (by omega) pv_a_d.2.2 pv_a_d.2.1 ?_
        refine px_iv (y := nI (1 + j2)) (hv1) ?_
        have hpo := qt_setCrew (T := T) (L := L) (H := H) (B := B) (a := 1 + j2) ⟨by omega, by omega⟩
        refine c_X9_setCrew dL_set_110 mlL_73 (by omega) hCA1 hw (by omega) (by omega) (by omega) (Nat.le_of_ble_eq_true rfl) (dz_ok hpo fun I2 hCA2 hG2 => ?_)
        have hw2 := wx_setCrew (a := nI (1 + j2)) hw
        rw [hpo] at hw2
        refine px_iload dL_set_113 rfl ?_
        refine px_icmp_ne (tgt := 122) dL_set_115 (by decide) (fun h9 => absurd rfl h9) (fun _ => ?_)
        refine px_iconst (v := nI 1) dL_set_118 (by decide) ?_
        refine px_goto (tgt := 123) dL_set_119 (by decide) ?_
        exact px_zret dL_set_123 rfl rfl (Or.inl rfl) (h I2 _ (qW_set (j := 4) hW (by omega) hw2 hCA2 hI1.symm (fun k hk => hG2 k hk) (fun s9 h1 h2 => absurd h2 (by omega)) (fun h9 => absurd h9 (by omega))))
  · refine px_iconst (v := nI 1) dL_set_12 (by decide) ?_
    refine px_iload_n dL_set_13 rfl ?_
    refine px_iconst (v := nI 4) dL_set_14 (by decide) ?_
    refine px_ishr dL_set_15 ?_
    refine px_iconst (v := nI 2) dL_set_16 (by decide) ?_
    refine c_L_at dL_set_17 mlL_30 (by omega) (by omega) (by omega) (Nat.le_of_ble_eq_true rfl) (fun j1 hj1 => ?_)
    refine px_iaddN dL_set_20 ?_
    refine px_istore dL_set_21 (by decide) ?_
    refine px_aload_n dL_set_23 rfl ?_
    refine px_bipush (v := nI 11) dL_set_24 (by decide) ?_
    refine px_iload dL_set_26 rfl ?_
    refine px_iaddN dL_set_28 ?_
    have hdw : dT (11 + (1 + j1)) = 67 + (1 + j1) := dT_11 (by omega)
    refine px_iald (j := (11 + (1 + j1))) dL_set_29 pv_a_d.1 rfl (by omega) pv_a_d.2.2 pv_a_d.2.1 ?_
    refine px_iv (y := nI (T (67 + (1 + j1)))) (qD_11 hQD (by omega)) ?_
    refine px_istore dL_set_30 (by decide) ?_
    refine px_aload_n dL_set_32 rfl ?_
    refine px_bipush (v := nI 11) dL_set_33 (by decide) ?_
    refine px_iload dL_set_35 rfl ?_
    refine px_iaddN dL_set_37 ?_
    refine px_iload_n dL_set_38 rfl ?_
    refine px_bipush (v := nI 12) dL_set_39 (by decide) ?_
    refine c_L_at dL_set_41 mlL_30 (by omega) (by omega) (by omega) (Nat.le_of_ble_eq_true rfl) (fun j2 hj2 => ?_)
    refine px_iast (j := (11 + (1 + j1))) dL_set_44 pv_a_d.1 rfl (by omega) pv_a_d.2.2 pv_a_d.2.1 ?_
    generalize hI1 : pv_uI I 365 (11 + (1 + j1)) (nI (j2)) = I1
    have hv1 : I1 365 (11 + (1 + j1)) = nI (j2) := by rw [← hI1, pv_uI_self]; exact pk_us
    have hF1 : ∀ k, k ≠ 365 → I1 k = I k := fun k hk => by rw [← hI1]; exact pv_uI_ne hk
    have hCA1 : CA I1 ((T, L), H, B) := CA_far hCA (fun k hk => hF1 k (by omega))
    refine px_aload_n dL_set_45 rfl ?_
    refine px_iload dL_set_46 rfl ?_
    refine px_aload_n dL_set_48 rfl ?_
    refine px_bipush (v := nI 11) dL_set_49 (by decide) ?_
    refine px_iload dL_set_51 rfl ?_
    refine px_iaddN dL_set_53 ?_
    refine px_iald (j := (11 + (1 + j1))) dL_set_54 pv_a_d.1 rfl (by omega) pv_a_d.2.2 pv_a_d.2.1 ?_
    refine px_iv (y := nI (j2)) (hv1) ?_
    have hpo := qt_warm (T := T) (L := L) (H := H) (B := B) (s := 1 + j1) (d := j2) ⟨by omega, by omega⟩ (by omega)
    rw [← hdw] at hpo
    refine c_X9_warm dL_set_55 mlL_70 (by omega) hCA1 hw (by omega) (by omega) (by omega) (Nat.le_of_ble_eq_true rfl) (dz_ok hpo fun I2 hCA2 hG2 => ?_)
    rw [hdw]
    have hw2 := wx_warm (s := nI (1 + j1)) (d := nI j2) hw
    rw [hpo] at hw2
    refine px_iload dL_set_58 rfl ?_
    refine px_icmp_ne (tgt := 67) dL_set_60 (by decide) (fun h9 => absurd rfl h9) (fun _ => ?_)
    refine px_iconst (v := nI 1) dL_set_63 (by decide) ?_
    refine px_goto (tgt := 68) dL_set_64 (by decide) ?_
    exact px_zret dL_set_68 rfl rfl (Or.inl rfl) (h I2 _ (qW_set (j := 11 + (1 + j1)) hW (by omega) hw2 hCA2 hI1.symm (fun k hk => hG2 k hk) (fun s9 h1 h2 => absurd h2 (by omega)) (fun h9 => absurd h9 (by omega))))
theorem c_L_set {z : pv_Z} {E : pv_E} {d bc bs : Nat} {J : pv_JT} {I : pv_IT} {mi : pv_MI} {pc idx : Nat} {lv : pv_LV} {st : List Value} {T : pv_T} {L : List pv_Lot} {H : List pv_S} {B : List Nat} {n : Nat} {x y : Int32} (hd : decode mi.2.1 pc = .ok (.invokestatic idx, 3)) (hlk : Cond.methodLink mi.1.cls idx mL_set.1 ∈ pv_W) (hDep : 9+1 ≤ d) (hW : qW n I ((T, L), H, B)) (hn : n ≤ 29) (hbc : 6 ≤ bc) (hbs : 36 ≤ bs) (hcat : (st.map fun v => v.category).sum ≤ 8) (K : ∀ (I' : pv_IT) (X' : pv_XS), qW (n + 1) I' X' → pv_X z E d (bc - 6) (bs - 36) mi (pc + 3) lv ((.int (nI 1)) :: st) pv_K0 pv_P0 (I') (J)) : pv_X z E d bc bs mi pc lv (.ref (367) :: .ref (365) :: .int (y) :: .int (x) :: .ref 0 :: st) pv_K0 pv_P0 I J := by
  obtain ⟨bc, rfl⟩ : ∃ b0, bc = 6 + b0 := ⟨bc - 6, by omega⟩
  obtain ⟨bs, rfl⟩ : ∃ b0, bs = 36 + b0 := ⟨bs - 36, by omega⟩
  rw [show 6 + bc - 6 = bc by omega, show 36 + bs - 36 = bs by omega] at K
  obtain ⟨d, rfl⟩ : ∃ d0, d = d0 + 1 := ⟨d - 1, by omega⟩
  have key := px_callS (bc := bc) (bs := bs) (bc1 := 6) (bs1 := 36) (as := [.ref 0, .int (x), .int (y), .ref (365), .ref (367)]) (E := E) (z := z) (lv := lv) hd msL_set hlk rfl rfl hcat (by exact Nat.le_of_ble_eq_true rfl) (s_L_set (by omega) hW hn (Nat.le_refl _) (Nat.le_refl _) K)
  exact key
