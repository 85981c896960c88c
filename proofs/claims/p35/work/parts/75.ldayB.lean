/-! The law: a day, what else passes. -/
set_option maxRecDepth 100000 in
set_option maxHeartbeats 4000000 in
theorem s_L_day_B {Q : pv_Q} {E : pv_E} {off : Nat} {d bc bs : Nat} {J : pv_JT} {I : pv_IT} {T : pv_T} {L : List pv_Lot} {m r : Nat} (hD9 : 1 ≤ d) (hQD : qD I T L.length) (hQK : qK I T) (hQL : qL I L) (h11 : L.length ≤ 12) (hma : ∀ l, l < L.length → (pl_g L l).2.2.1 < 2147483648) (hr : r < 2147483648) (h4 : T 405 ≤ 8) (K : ∀ I' : pv_IT, qD I' (pd_hungry (r, (T, L))).1 (pl_drop L).length → qK I' (pd_hungry (r, (T, L))).1 → qL I' (pl_drop L) → (∀ j, j ≠ 365 → j ≠ 367 → I' j = I j) → pv_X (pv_ZD E Q) (pv_of E off) d bc bs mL_day 174 [(0, .ref 365), (1, .ref 366), (2, .ref 367), (3, .ref 368), (4, .ref 370)] [] pv_K0 pv_P0 (I') (J)) : pv_X (pv_ZD E Q) (pv_of E off) d bc bs mL_day 156 [(0, .ref 365), (1, .ref 366), (2, .ref 367), (3, .ref 368), (4, .ref 370), (5, .int (nI m)), (6, .int (nI r))] [] pv_K0 pv_P0 (I) (J) := by
  refine px_iload dL_day_156 rfl ?_
  refine px_if_leN (tgt := 169) dL_day_158 (by decide) (by omega) (fun h0 => ?_) (fun h0 => ?_)
  · refine px_aload_n dL_day_169 rfl ?_
    refine px_aload_n dL_day_170 rfl ?_
    refine c_L_drop dL_day_171 mlL_26 (by omega) hQD hQL h11 hma (Nat.le_of_ble_eq_true rfl) (fun I' hD' hL' hF' => ?_)
    refine px_keep [0, 1, 2, 3, 4] ?_
    have e : pd_hungry (r, (T, L)) = (T, L) := by unfold pd_hungry; rw [if_neg (by show ¬ 0 < r; omega)]
    rw [e] at K
    exact K I' hD' (qK_of hQK (hF' 366 (by omega) (by omega)) rfl h4 (fun _ _ => rfl)) hL' hF'
  · refine px_aload_n dL_day_161 rfl ?_
    refine px_bipush (v := nI 7) dL_day_162 (by decide) ?_
    refine px_dup2 dL_day_164 rfl rfl ?_
    refine px_iald (j := 7) dL_day_165 pv_a_d.1 rfl (by omega) pv_a_d.2.2 pv_a_d.2.1 ?_
    refine px_iv (y := nI (T 412)) (qD_7 hQD) ?_
    refine px_iconst (v := nI 1) dL_day_166 (by decide) ?_
    refine px_iaddN dL_day_167 ?_
    refine px_iast (j := 7) dL_day_168 pv_a_d.1 rfl (by omega) pv_a_d.2.2 pv_a_d.2.1 ?_
    have hD2 : qD (pv_uI I 365 7 (nI (T 412 + 1))) (pt_up T 412 (T 412 + 1)) L.length := qD_put (j := 7) hQD (by omega) (by omega) (by omega)
    refine px_aload_n dL_day_169 rfl ?_
    refine px_aload_n dL_day_170 rfl ?_
    refine c_L_drop dL_day_171 mlL_26 (by omega) hD2 (qL_of hQL (pv_uI_ne (by omega))) h11 hma (Nat.le_of_ble_eq_true rfl) (fun I' hD' hL' hF' => ?_)
    refine px_keep [0, 1, 2, 3, 4] ?_
    have e : pd_hungry (r, (T, L)) = (pt_up T 412 (T 412 + 1), L) := by unfold pd_hungry; rw [if_pos (show 0 < r by omega)]
    rw [e] at K
    exact K I' hD' (qK_of hQK ((hF' 366 (by omega) (by omega)).trans (pv_uI_ne (by omega))) (show pt_up T 412 (T 412 + 1) 405 = T 405 from pt_un (by omega)) h4 (fun i hi => show pt_up T 412 (T 412 + 1) i = T i from pt_un (by omega))) hL' (fun j h1 h2 => (hF' j h1 h2).trans (pv_uI_ne h1))
theorem pd_mix_keep {T : pv_T} {L : List pv_Lot} {i : Nat} (hi : i < L.length) (hg : ¬ 1000 ≤ pd_grown T (pl_g L i)) : pl_aged (pd_mix T L i) i (pd_grown T (pl_g L i)) = pd_mix T L (i + 1) := by
  have hl : (pd_mix T L i).length = L.length := pd_mix_len (by omega)
  refine pl_ext (by rw [pl_aged_len, hl, pd_mix_len (by omega)]) fun j hj => ?_
  rw [pl_aged_len, hl] at hj
  unfold pl_aged
  rw [pl_g_set (by omega), pd_mix_g (by omega) hj, pd_mix_g (by omega) hi, pd_mix_g (by omega) hj, if_neg (Nat.lt_irrefl i)]
  by_cases e : j = i
  · subst e
    rw [if_pos rfl, if_pos (by omega)]
    unfold pd_old
    rw [if_neg hg]
  · rw [if_neg e]
    by_cases e2 : j < i
    · rw [if_pos e2, if_pos (by omega)]
    · rw [if_neg e2, if_neg (by omega)]
theorem pd_mix_spoil {T : pv_T} {L : List pv_Lot} {i : Nat} (hi : i < L.length) (hg : 1000 ≤ pd_grown T (pl_g L i)) : pl_amt (pl_aged (pd_mix T L i) i (pd_grown T (pl_g L i))) i 0 = pd_mix T L (i + 1) := by
  have hl : (pd_mix T L i).length = L.length := pd_mix_len (by omega)
  refine pl_ext (by rw [pl_amt_len, pl_aged_len, hl, pd_mix_len (by omega)]) fun j hj => ?_
  rw [pl_amt_len, pl_aged_len, hl] at hj
  unfold pl_amt pl_aged
  rw [pl_g_set (by rw [List.length_set]; omega), pl_g_set (by omega), pl_g_set (by omega), pd_mix_g (by omega) hj, pd_mix_g (by omega) hi, pd_mix_g (by omega) hj, if_neg (Nat.lt_irrefl i), if_pos rfl]
  by_cases e : j = i
  · subst e
    rw [if_pos rfl, if_pos (by omega)]
    unfold pd_old
    rw [if_pos hg]
  · rw [if_neg e, if_neg e]
    by_cases e2 : j < i
    · rw [if_pos e2, if_pos (by omega)]
    · rw [if_neg e2, if_neg (by omega)]
theorem q_now {T T' : pv_T} {k s : Nat} (hT : ∀ i, i < 24 → T' i = T i) (hk : k < 8) (hs : s < 3) : (0 < T (67 + s) → T' (3 * k + (if 0 < 1 then 0 else s)) = pt_now T k s) ∧ (T (67 + s) = 0 → T' (3 * k + (if 0 < 0 then 0 else s)) = pt_now T k s) := by
  unfold pt_now
  refine ⟨fun h => ?_, fun h => ?_⟩
  · rw [if_pos (by omega), if_pos h, hT _ (by omega)]
    exact congrArg T (by omega)
  · rw [if_neg (by omega), if_neg (by omega), hT _ (by omega)]
    exact congrArg T (by omega)
set_option maxRecDepth 100000 in
set_option maxHeartbeats 4000000 in
theorem s_L_day_C {Q : pv_Q} {E : pv_E} {off : Nat} {d bc bs : Nat} {J : pv_JT} {I : pv_IT} {T : pv_T} {L : List pv_Lot} (hD9 : 1 ≤ d) (hQD : qD I T L.length) (hQK : qK I T) (hQL : qL I L) (h11 : L.length ≤ 12) (hb : tb T) (h4 : T 405 ≤ 4) (hlb : lbs L) (hag : ∀ l, l < L.length → (pl_g L l).2.2.2 < 1000) (hkk : ∀ l, l < L.length → (pl_g L l).1 < T 405) (K : ∀ I' : pv_IT, qK I' (L.foldl (pd_spoil T) T) → qL I' (L.map (pd_old T)) → (∀ j, j ≠ 366 → j ≠ 367 → I' j = I j) → pv_X (pv_ZD E Q) (pv_of E off) d bc bs mL_day 278 [(0, .ref 365), (1, .ref 366), (2, .ref 367), (3, .ref 368), (4, .ref 370)] [] pv_K0 pv_P0 (I') (J)) : pv_X (pv_ZD E Q) (pv_of E off) d bc bs mL_day 174 [(0, .ref 365), (1, .ref 366), (2, .ref 367), (3, .ref 368), (4, .ref 370)] [] pv_K0 pv_P0 (I) (J) := by
  have key : ∀ i : Nat, i ≤ L.length → ∀ I1 : pv_IT, qK I1 (pd_foldT T L (i)) → qL I1 (pd_mix T L (i)) → (∀ j, j ≠ 366 → j ≠ 367 → I1 j = I j) → pv_X (pv_ZD E Q) (pv_of E off) d bc bs mL_day 177 [(0, .ref 365), (1, .ref 366), (2, .ref 367), (3, .ref 368), (4, .ref 370), (7, .int (nI (i)))] [] pv_K0 pv_P0 (I1) (J) := by
    refine pv_up (L.length) ?_ ?_
    · intro I1 hK1 hL1 hF
      refine px_iload dL_day_177 rfl ?_
      refine px_aload_n dL_day_179 rfl ?_
      refine px_iconst (v := nI 1) dL_day_180 (by decide) ?_
      refine px_iald (j := 1) dL_day_181 pv_a_d.1 rfl (by omega) pv_a_d.2.2 pv_a_d.2.1 ?_
      refine px_iv (y := nI (L.length)) ((qD_of hQD (hF 365 (by omega) (by omega)) (fun _ _ => rfl)).1) ?_
      refine px_icmp_geN (tgt := 278) dL_day_182 (by decide) (by omega) (by omega) (fun _ => ?_) (fun h0 => absurd h0 (by omega))
      refine px_keep [0, 1, 2, 3, 4] ?_
      rw [pd_mixN] at hL1
      have e : pd_foldT T L L.length = L.foldl (pd_spoil T) T := by unfold pd_foldT; rw [List.take_length]
      rw [e] at hK1
      exact K I1 hK1 hL1 hF
    · intro i hi K9 I1 hK1 hL1 hF
      have hml : (pd_mix T L (i)).length = L.length := pd_mix_len (by omega)
      have hmg : pl_g (pd_mix T L (i)) i = pl_g L i := by rw [pd_mix_g (by omega) hi, if_neg (Nat.lt_irrefl i)]
      have hr := hL1 i (by omega)
      rw [hmg] at hr
      have hx := hlb.2 i hi
      unfold lb at hx
      have hg9 := hag i hi
      have hk9 := hkk i hi
      have hfo : ∀ j, ¬ (24 ≤ j ∧ j < 64) → (pd_foldT T L (i)) j = T j := fun j hj => pd_foldT_out hlb hj
      have e405 : (pd_foldT T L (i)) 405 = T 405 := hfo 405 (by omega)
      obtain ⟨hn1, hn0⟩ := q_now (T' := (pd_foldT T L (i))) (T := T) (k := (pl_g L i).1) (s := (pl_g L i).2.1) (fun j hj => hfo j (by omega)) hx.1 hx.2.1
      have hnw := pt_now_le hb hx.1 hx.2.1
      have hw9 := (hb.2.1 _ hx.2.1).2
      have hst9 := @pt_step_le (pt_now T (pl_g L i).1 (pl_g L i).2.1)
      have hgr : pd_grown T (pl_g L i) = (pl_g L i).2.2.2 + pt_step (pt_now T (pl_g L i).1 (pl_g L i).2.1) := rfl
      refine px_iload dL_day_177 rfl ?_
      refine px_aload_n dL_day_179 rfl ?_
      refine px_iconst (v := nI 1) dL_day_180 (by decide) ?_
      refine px_iald (j := 1) dL_day_181 pv_a_d.1 rfl (by omega) pv_a_d.2.2 pv_a_d.2.1 ?_
      refine px_iv (y := nI (L.length)) ((qD_of hQD (hF 365 (by omega) (by omega)) (fun _ _ => rfl)).1) ?_
      refine px_icmp_geN (tgt := 278) dL_day_182 (by decide) (by omega) (by omega) (fun h0 => absurd h0 (by omega)) (fun _ => ?_)
      refine px_iconst (v := nI 4) dL_day_185 (by decide) ?_
      refine px_iload dL_day_186 rfl ?_
      refine px_imulN dL_day_188 ?_
      refine px_istore dL_day_189 (by decide) ?_
      refine px_aload_n dL_day_191 rfl ?_
      refine px_iload dL_day_192 rfl ?_
      refine px_iconst (v := nI 3) dL_day_194 (by decide) ?_
      refine px_iaddN dL_day_195 ?_
      refine px_dup2 dL_day_196 rfl rfl ?_
      refine px_iald (j := ((4 * i) + 3)) dL_day_197 pv_a_lo.1 rfl (by omega) pv_a_lo.2.2 pv_a_lo.2.1 ?_
      refine px_iv (y := nI ((pl_g L i).2.2.2)) (hr.2.2.2) ?_
      refine px_aload_n dL_day_198 rfl ?_
      refine px_iload dL_day_199 rfl ?_
      refine px_iald (j := (4 * i)) dL_day_201 pv_a_lo.1 rfl (by omega) pv_a_lo.2.2 pv_a_lo.2.1 ?_
      refine px_iv (y := nI ((pl_g L i).1)) (hr.1) ?_
      refine px_aload_n dL_day_202 rfl ?_
      refine px_iload dL_day_203 rfl ?_
      refine px_iconst (v := nI 1) dL_day_205 (by decide) ?_
      refine px_iaddN dL_day_206 ?_
      refine px_iald (j := ((4 * i) + 1)) dL_day_207 pv_a_lo.1 rfl (by omega) pv_a_lo.2.2 pv_a_lo.2.1 ?_
      refine px_iv (y := nI ((pl_g L i).2.1)) (hr.2.1) ?_
      refine px_aload_n dL_day_208 rfl ?_
      refine px_bipush (v := nI 11) dL_day_209 (by decide) ?_
      refine px_aload_n dL_day_211 rfl ?_
      refine px_iload dL_day_212 rfl ?_
      refine px_iconst (v := nI 1) dL_day_214 (by decide) ?_
      refine px_iaddN dL_day_215 ?_
      refine px_iald (j := ((4 * i) + 1)) dL_day_216 pv_a_lo.1 rfl (by omega) pv_a_lo.2.2 pv_a_lo.2.1 ?_
      refine px_iv (y := nI ((pl_g L i).2.1)) (hr.2.1) ?_
      refine px_iaddN dL_day_217 ?_
      refine px_iald (j := (11 + ((pl_g L i).2.1))) dL_day_218 pv_a_d.1 rfl (by omega) pv_a_d.2.2 pv_a_d.2.1 ?_
      refine px_iv (y := nI (T (67 + (pl_g L i).2.1))) (qD_11 (qD_of hQD (hF 365 (by omega) (by omega)) (fun _ _ => rfl)) hx.2.1) ?_
      refine px_if_leN (tgt := 226) dL_day_219 (by decide) (by omega) (fun h5 => ?_) (fun h5 => ?_)
      · refine px_iconst (v := nI 0) dL_day_226 (by decide) ?_
        refine px_aload_n dL_day_227 rfl ?_
        refine c_L_step dL_day_228 mlL_8 (by omega) hK1 (by rw [e405]; exact h4) (by rw [e405]; exact hk9) hx.2.1 (by omega) (fun j hj => by rw [hfo j (by omega)]; exact hb.1 j hj) (Nat.le_of_ble_eq_true rfl) ?_
        refine px_iv (y := nI (pt_step (pt_now T (pl_g L i).1 (pl_g L i).2.1))) (congrArg nI (congrArg pt_step (hn0 h5))) ?_
        refine px_iaddN dL_day_231 ?_
        refine px_iast (j := ((4 * i) + 3)) dL_day_232 pv_a_lo.1 rfl (by omega) pv_a_lo.2.2 pv_a_lo.2.1 ?_
        have hL2 := qL_age (v := (pl_g L i).2.2.2 + pt_step (pt_now T (pl_g L i).1 (pl_g L i).2.1)) hL1 (l := i) (by omega)
        rw [← hgr] at hL2
        refine px_mem (I' := pv_uI I1 367 (4 * i + 3) (nI (pd_grown T (pl_g L i)))) rfl ?_
        have hr2 := hL2 i (by rw [pl_aged_len]; omega)
        have hg2 : pl_g (pl_aged (pd_mix T L (i)) i (pd_grown T (pl_g L i))) i = ((pl_g L i).1, (pl_g L i).2.1, (pl_g L i).2.2.1, pd_grown T (pl_g L i)) := by
          unfold pl_aged
          rw [pl_g_set (by omega), if_pos rfl, hmg]
        rw [hg2] at hr2
        generalize hI2 : pv_uI I1 367 (4 * i + 3) (nI (pd_grown T (pl_g L i))) = I2 at hL2 hr2
        have hF2 : ∀ j, j ≠ 367 → I2 j = I1 j := fun j hj => by rw [← hI2]; exact pv_uI_ne hj
        refine px_aload_n dL_day_233 rfl ?_
        refine px_iload dL_day_234 rfl ?_
        refine px_iconst (v := nI 3) dL_day_236 (by decide) ?_
        refine px_iaddN dL_day_237 ?_
        refine px_iald (j := ((4 * i) + 3)) dL_day_238 pv_a_lo.1 rfl (by omega) pv_a_lo.2.2 pv_a_lo.2.1 ?_
        refine px_iv (y := nI (pd_grown T (pl_g L i))) (hr2.2.2.2) ?_
        refine px_sipush (v := nI 999) dL_day_239 (by decide) ?_
        refine px_icmp_leN (tgt := 272) dL_day_242 (by decide) (by omega) (by omega) (fun h7 => ?_) (fun h7 => ?_)
        · refine px_iincN (c := 1) (by decide) dL_day_272 rfl (by decide) ?_
          refine px_goto (tgt := 177) dL_day_275 (by decide) ?_
          refine px_keep [0, 1, 2, 3, 4, 7] ?_
          have hng : ¬ 1000 ≤ pd_grown T (pl_g L i) := by omega
          rw [pd_mix_keep hi hng] at hL2
          have e9 : (pd_foldT T L (i + 1)) = (pd_foldT T L (i)) := by
            rw [pd_foldT1 hi]
            unfold pd_spoil
            rw [if_neg hng]
          refine K9 I2 ?_ hL2 (fun j h1 h2 => (hF2 j h2).trans (hF j h1 h2))
          rw [e9]
          exact qK_of hK1 (hF2 366 (by omega)) rfl (by omega) (fun _ _ => rfl)
        · refine px_aload_n dL_day_245 rfl ?_
          refine px_bipush (v := nI 8) dL_day_246 (by decide) ?_
          refine px_aload_n dL_day_248 rfl ?_
          refine px_iload dL_day_249 rfl ?_
          refine px_iald (j := (4 * i)) dL_day_251 pv_a_lo.1 rfl (by omega) pv_a_lo.2.2 pv_a_lo.2.1 ?_
          refine px_iv (y := nI ((pl_g L i).1)) (hr2.1) ?_
          refine px_imulN dL_day_252 ?_
          refine px_iconst (v := nI 5) dL_day_253 (by decide) ?_
          refine px_iaddN dL_day_254 ?_
          refine px_dup2 dL_day_255 rfl rfl ?_
          refine px_iald (j := ((8 * ((pl_g L i).1)) + 5)) dL_day_256 pv_a_ki.1 rfl (by omega) pv_a_ki.2.2 pv_a_ki.2.1 ?_
          refine px_iv (y := I1 366 (8 * (pl_g L i).1 + 5)) (congrFun (hF2 366 (by omega)) _) ?_
          refine px_aload_n dL_day_257 rfl ?_
          refine px_iload dL_day_258 rfl ?_
          refine px_iconst (v := nI 2) dL_day_260 (by decide) ?_
          refine px_iaddN dL_day_261 ?_
          refine px_iald (j := ((4 * i) + 2)) dL_day_262 pv_a_lo.1 rfl (by omega) pv_a_lo.2.2 pv_a_lo.2.1 ?_
          refine px_iv (y := nI ((pl_g L i).2.2.1)) (hr2.2.2.1) ?_
          refine px_iadd dL_day_263 ?_
          refine px_iast (j := ((8 * ((pl_g L i).1)) + 5)) dL_day_264 pv_a_ki.1 rfl (by omega) pv_a_ki.2.2 pv_a_ki.2.1 ?_
          have hK2 := qK_add (x := (pl_g L i).2.2.1) (w := 5) (qK_of (I' := I2) (T' := (pd_foldT T L (i))) hK1 (hF2 366 (by omega)) rfl (by omega) (fun _ _ => rfl)) (k := (pl_g L i).1) (by rw [e405]; exact hk9) (by omega) (by omega) (by omega)
          rw [show I2 366 (8 * (pl_g L i).1 + 5) = I1 366 (8 * (pl_g L i).1 + 5) from congrFun (hF2 366 (by omega)) _] at hK2
          generalize hI3 : pv_uI I2 366 (8 * (pl_g L i).1 + 5) (I1 366 (8 * (pl_g L i).1 + 5) + nI (pl_g L i).2.2.1) = I3 at hK2
          have hF3 : ∀ j, j ≠ 366 → I3 j = I2 j := fun j hj => by rw [← hI3]; exact pv_uI_ne hj
          have hL3 := qL_amt (v := 0) (qL_of hL2 (hF3 367 (by omega))) (l := i) (by rw [pl_aged_len]; omega)
          refine px_aload_n dL_day_265 rfl ?_
          refine px_iload dL_day_266 rfl ?_
          refine px_iconst (v := nI 2) dL_day_268 (by decide) ?_
          refine px_iaddN dL_day_269 ?_
          refine px_iconst (v := nI 0) dL_day_270 (by decide) ?_
          refine px_iast (j := ((4 * i) + 2)) dL_day_271 pv_a_lo.1 rfl (by omega) pv_a_lo.2.2 pv_a_lo.2.1 ?_
          refine px_iincN (c := 1) (by decide) dL_day_272 rfl (by decide) ?_
          refine px_goto (tgt := 177) dL_day_275 (by decide) ?_
          refine px_keep [0, 1, 2, 3, 4, 7] ?_
          have hng : 1000 ≤ pd_grown T (pl_g L i) := by omega
          rw [pd_mix_spoil hi hng] at hL3
          have e9 : (pd_foldT T L (i + 1)) = pt_up (pd_foldT T L (i)) (26 + 5 * (pl_g L i).1) ((pd_foldT T L (i)) (26 + 5 * (pl_g L i).1) + (pl_g L i).2.2.1) := by
            rw [pd_foldT1 hi]
            unfold pd_spoil
            rw [if_pos hng]
          refine K9 _ ?_ hL3 (fun j h1 h2 => (pv_uI_ne h2).trans ((hF3 j h1).trans ((hF2 j h2).trans (hF j h1 h2))))
          rw [e9]
          rw [show 21 + 5 * (pl_g L i).1 + 5 = 26 + 5 * (pl_g L i).1 by omega] at hK2
          exact qK_of hK2 (pv_uI_ne (by omega)) rfl (by rw [pt_un (by omega)]; omega) (fun _ _ => rfl)
      · refine px_iconst (v := nI 1) dL_day_222 (by decide) ?_
        refine px_goto (tgt := 227) dL_day_223 (by decide) ?_
        refine px_aload_n dL_day_227 rfl ?_
        refine c_L_step dL_day_228 mlL_8 (by omega) hK1 (by rw [e405]; exact h4) (by rw [e405]; exact hk9) hx.2.1 (by omega) (fun j hj => by rw [hfo j (by omega)]; exact hb.1 j hj) (Nat.le_of_ble_eq_true rfl) ?_
        refine px_iv (y := nI (pt_step (pt_now T (pl_g L i).1 (pl_g L i).2.1))) (congrArg nI (congrArg pt_step (hn1 h5))) ?_
        refine px_iaddN dL_day_231 ?_
        refine px_iast (j := ((4 * i) + 3)) dL_day_232 pv_a_lo.1 rfl (by omega) pv_a_lo.2.2 pv_a_lo.2.1 ?_
        have hL2 := qL_age (v := (pl_g L i).2.2.2 + pt_step (pt_now T (pl_g L i).1 (pl_g L i).2.1)) hL1 (l := i) (by omega)
        rw [← hgr] at hL2
        refine px_mem (I' := pv_uI I1 367 (4 * i + 3) (nI (pd_grown T (pl_g L i)))) rfl ?_
        have hr2 := hL2 i (by rw [pl_aged_len]; omega)
        have hg2 : pl_g (pl_aged (pd_mix T L (i)) i (pd_grown T (pl_g L i))) i = ((pl_g L i).1, (pl_g L i).2.1, (pl_g L i).2.2.1, pd_grown T (pl_g L i)) := by
          unfold pl_aged
          rw [pl_g_set (by omega), if_pos rfl, hmg]
        rw [hg2] at hr2
        generalize hI2 : pv_uI I1 367 (4 * i + 3) (nI (pd_grown T (pl_g L i))) = I2 at hL2 hr2
        have hF2 : ∀ j, j ≠ 367 → I2 j = I1 j := fun j hj => by rw [← hI2]; exact pv_uI_ne hj
        refine px_aload_n dL_day_233 rfl ?_
        refine px_iload dL_day_234 rfl ?_
        refine px_iconst (v := nI 3) dL_day_236 (by decide) ?_
        refine px_iaddN dL_day_237 ?_
        refine px_iald (j := ((4 * i) + 3)) dL_day_238 pv_a_lo.1 rfl (by omega) pv_a_lo.2.2 pv_a_lo.2.1 ?_
        refine px_iv (y := nI (pd_grown T (pl_g L i))) (hr2.2.2.2) ?_
        refine px_sipush (v := nI 999) dL_day_239 (by decide) ?_
        refine px_icmp_leN (tgt := 272) dL_day_242 (by decide) (by omega) (by omega) (fun h7 => ?_) (fun h7 => ?_)
        · refine px_iincN (c := 1) (by decide) dL_day_272 rfl (by decide) ?_
          refine px_goto (tgt := 177) dL_day_275 (by decide) ?_
          refine px_keep [0, 1, 2, 3, 4, 7] ?_
          have hng : ¬ 1000 ≤ pd_grown T (pl_g L i) := by omega
          rw [pd_mix_keep hi hng] at hL2
          have e9 : (pd_foldT T L (i + 1)) = (pd_foldT T L (i)) := by
            rw [pd_foldT1 hi]
            unfold pd_spoil
            rw [if_neg hng]
          refine K9 I2 ?_ hL2 (fun j h1 h2 => (hF2 j h2).trans (hF j h1 h2))
          rw [e9]
          exact qK_of hK1 (hF2 366 (by omega)) rfl (by omega) (fun _ _ => rfl)
        · refine px_aload_n dL_day_245 rfl ?_
          refine px_bipush (v := nI 8) dL_day_246 (by decide) ?_
          refine px_aload_n dL_day_248 rfl ?_
          refine px_iload dL_day_249 rfl ?_
          refine px_iald (j := (4 * i)) dL_day_251 pv_a_lo.1 rfl (by omega) pv_a_lo.2.2 pv_a_lo.2.1 ?_
          refine px_iv (y := nI ((pl_g L i).1)) (hr2.1) ?_
          refine px_imulN dL_day_252 ?_
          refine px_iconst (v := nI 5) dL_day_253 (by decide) ?_
          refine px_iaddN dL_day_254 ?_
          refine px_dup2 dL_day_255 rfl rfl ?_
          refine px_iald (j := ((8 * ((pl_g L i).1)) + 5)) dL_day_256 pv_a_ki.1 rfl (by omega) pv_a_ki.2.2 pv_a_ki.2.1 ?_
          refine px_iv (y := I1 366 (8 * (pl_g L i).1 + 5)) (congrFun (hF2 366 (by omega)) _) ?_
          refine px_aload_n dL_day_257 rfl ?_
          refine px_iload dL_day_258 rfl ?_
          refine px_iconst (v := nI 2) dL_day_260 (by decide) ?_
          refine px_iaddN dL_day_261 ?_
          refine px_iald (j := ((4 * i) + 2)) dL_day_262 pv_a_lo.1 rfl (by omega) pv_a_lo.2.2 pv_a_lo.2.1 ?_
          refine px_iv (y := nI ((pl_g L i).2.2.1)) (hr2.2.2.1) ?_
          refine px_iadd dL_day_263 ?_
          refine px_iast (j := ((8 * ((pl_g L i).1)) + 5)) dL_day_264 pv_a_ki.1 rfl (by omega) pv_a_ki.2.2 pv_a_ki.2.1 ?_
          have hK2 := qK_add (x := (pl_g L i).2.2.1) (w := 5) (qK_of (I' := I2) (T' := (pd_foldT T L (i))) hK1 (hF2 366 (by omega)) rfl (by omega) (fun _ _ => rfl)) (k := (pl_g L i).1) (by rw [e405]; exact hk9) (by omega) (by omega) (by omega)
          rw [show I2 366 (8 * (pl_g L i).1 + 5) = I1 366 (8 * (pl_g L i).1 + 5) from congrFun (hF2 366 (by omega)) _] at hK2
          generalize hI3 : pv_uI I2 366 (8 * (pl_g L i).1 + 5) (I1 366 (8 * (pl_g L i).1 + 5) + nI (pl_g L i).2.2.1) = I3 at hK2
          have hF3 : ∀ j, j ≠ 366 → I3 j = I2 j := fun j hj => by rw [← hI3]; exact pv_uI_ne hj
          have hL3 := qL_amt (v := 0) (qL_of hL2 (hF3 367 (by omega))) (l := i) (by rw [pl_aged_len]; omega)
          refine px_aload_n dL_day_265 rfl ?_
          refine px_iload dL_day_266 rfl ?_
          refine px_iconst (v := nI 2) dL_day_268 (by decide) ?_
          refine px_iaddN dL_day_269 ?_
          refine px_iconst (v := nI 0) dL_day_270 (by decide) ?_
          refine px_iast (j := ((4 * i) + 2)) dL_day_271 pv_a_lo.1 rfl (by omega) pv_a_lo.2.2 pv_a_lo.2.1 ?_
          refine px_iincN (c := 1) (by decide) dL_day_272 rfl (by decide) ?_
          refine px_goto (tgt := 177) dL_day_275 (by decide) ?_
          refine px_keep [0, 1, 2, 3, 4, 7] ?_
          have hng : 1000 ≤ pd_grown T (pl_g L i) := by omega
          rw [pd_mix_spoil hi hng] at hL3
          have e9 : (pd_foldT T L (i + 1)) = pt_up (pd_foldT T L (i)) (26 + 5 * (pl_g L i).1) ((pd_foldT T L (i)) (26 + 5 * (pl_g L i).1) + (pl_g L i).2.2.1) := by
            rw [pd_foldT1 hi]
            unfold pd_spoil
            rw [if_pos hng]
          refine K9 _ ?_ hL3 (fun j h1 h2 => (pv_uI_ne h2).trans ((hF3 j h1).trans ((hF2 j h2).trans (hF j h1 h2))))
          rw [e9]
          rw [show 21 + 5 * (pl_g L i).1 + 5 = 26 + 5 * (pl_g L i).1 by omega] at hK2
          exact qK_of hK2 (pv_uI_ne (by omega)) rfl (by rw [pt_un (by omega)]; omega) (fun _ _ => rfl)
  refine px_iconst (v := nI 0) dL_day_174 (by decide) ?_
  refine px_istore dL_day_175 (by decide) ?_
  refine key 0 (by omega) I hQK ?_ (fun _ _ _ => rfl)
  rw [pd_mix0]
  exact hQL
def pd_cold (T : pv_T) (s : Nat) : pv_T := fun i => if 67 ≤ i ∧ i < 67 + s then T i - 1 else T i
theorem pd_cold_night {T : pv_T} : pt_up (pd_cold T 3) 404 (pd_cold T 3 404 + 1) = pd_night T := by
  funext i
  unfold pt_up pd_night pd_cold
  by_cases e : i = 404
  · rw [if_pos e, if_pos e, if_neg (by omega)]
  · rw [if_neg e, if_neg e]
theorem pd_cold_up {T : pv_T} {s : Nat} : pt_up (pd_cold T s) (67 + s) (T (67 + s) - 1) = pd_cold T (s + 1) := by
  funext i
  unfold pt_up pd_cold
  by_cases e : i = 67 + s
  · rw [if_pos e, if_pos (by omega), e]
  · rw [if_neg e]
    by_cases e2 : 67 ≤ i ∧ i < 67 + s
    · rw [if_pos e2, if_pos (by omega)]
    · rw [if_neg e2, if_neg (by omega)]
theorem pd_cold_same {T : pv_T} {s : Nat} (h : T (67 + s) = 0) : pd_cold T s = pd_cold T (s + 1) := by
  rw [← pd_cold_up, h]
  funext i
  unfold pt_up pd_cold
  by_cases e : i = 67 + s
  · rw [if_pos e, if_neg (by omega), e, h]
  · rw [if_neg e]
set_option maxRecDepth 100000 in
set_option maxHeartbeats 4000000 in
theorem s_L_day_D {Q : pv_Q} {E : pv_E} {off : Nat} {d bc bs : Nat} {J : pv_JT} {I : pv_IT} {T : pv_T} {L : List pv_Lot} (hD9 : 1 ≤ d) (hQD : qD I T L.length) (hQK : qK I T) (hQL : qL I L) (h11 : L.length ≤ 12) (hma : ∀ l, l < L.length → (pl_g L l).2.2.1 < 2147483648) (h4 : T 405 ≤ 8) (hwd : ∀ s, s < 3 → T (67 + s) ≤ 30) (h : ∀ I' : pv_IT, qD I' (pd_night T) (pl_drop L).length → qK I' (pd_night T) → qL I' (pl_drop L) → (∀ j, j ≠ 365 → j ≠ 367 → I' j = I j) → Q (.inl none) pv_K0 pv_P0 I' J) : pv_X (pv_ZD E Q) (pv_of E off) d bc bs mL_day 278 [(0, .ref 365), (1, .ref 366), (2, .ref 367), (3, .ref 368), (4, .ref 370)] [] pv_K0 pv_P0 (I) (J) := by
  refine px_aload_n dL_day_278 rfl ?_
  refine px_aload_n dL_day_279 rfl ?_
  refine c_L_drop dL_day_280 mlL_26 (by omega) hQD hQL h11 hma (Nat.le_of_ble_eq_true rfl) (fun I2 hD2 hL2 hF2 => ?_)
  have key : ∀ s : Nat, s ≤ 3 → ∀ I1 : pv_IT, qD I1 (pd_cold T (s)) (pl_drop L).length → (∀ j, j ≠ 365 → I1 j = I2 j) → pv_X (pv_ZD E Q) (pv_of E off) d bc bs mL_day 287 [(0, .ref 365), (1, .ref 366), (2, .ref 367), (3, .ref 368), (4, .ref 370), (7, .int (nI (11 + s)))] [] pv_K0 pv_P0 (I1) (J) := by
    refine pv_up (3) ?_ ?_
    · intro I1 hD1 hF1
      refine px_iload dL_day_287 rfl ?_
      refine px_bipush (v := nI 14) dL_day_289 (by decide) ?_
      refine px_icmp_geN (tgt := 315) dL_day_291 (by decide) (by omega) (by omega) (fun _ => ?_) (fun h0 => absurd h0 (by omega))
      refine px_aload_n dL_day_315 rfl ?_
      refine px_iconst (v := nI 3) dL_day_316 (by decide) ?_
      refine px_dup2 dL_day_317 rfl rfl ?_
      refine px_iald (j := 3) dL_day_318 pv_a_d.1 rfl (by omega) pv_a_d.2.2 pv_a_d.2.1 ?_
      refine px_iv (y := nI (pd_cold T 3 404)) (qD_3 hD1) ?_
      refine px_iconst (v := nI 1) dL_day_319 (by decide) ?_
      refine px_iaddN dL_day_320 ?_
      refine px_iast (j := 3) dL_day_321 pv_a_d.1 rfl (by omega) pv_a_d.2.2 pv_a_d.2.1 ?_
      have hD3 : qD (pv_uI I1 365 3 (nI (pd_cold T 3 404 + 1))) (pt_up (pd_cold T 3) 404 (pd_cold T 3 404 + 1)) (pl_drop L).length := qD_put (j := 3) hD1 (by omega) (by omega) (by omega)
      rw [pd_cold_night] at hD3
      exact px_vretD dL_day_322 rfl (Or.inl rfl) (h _ hD3 (qK_of hQK ((pv_uI_ne (by omega)).trans ((hF1 366 (by omega)).trans (hF2 366 (by omega) (by omega)))) (by unfold pd_night; rw [if_neg (by omega), if_neg (by omega)]) h4 (fun i hi => by unfold pd_night; rw [if_neg (by omega), if_neg (by omega)])) (qL_of hL2 ((pv_uI_ne (by omega)).trans (hF1 367 (by omega)))) (fun j h1 h2 => (pv_uI_ne h1).trans ((hF1 j h1).trans (hF2 j h1 h2))))
    · intro s hs K9 I1 hD1 hF1
      have hw := hwd s hs
      have hcs : pd_cold T s (67 + s) = T (67 + s) := by unfold pd_cold; rw [if_neg (by omega)]
      refine px_iload dL_day_287 rfl ?_
      refine px_bipush (v := nI 14) dL_day_289 (by decide) ?_
      refine px_icmp_geN (tgt := 315) dL_day_291 (by decide) (by omega) (by omega) (fun h0 => absurd h0 (by omega)) (fun _ => ?_)
      refine px_aload_n dL_day_294 rfl ?_
      refine px_iload dL_day_295 rfl ?_
      refine px_iald (j := (11 + s)) dL_day_297 pv_a_d.1 rfl (by omega) pv_a_d.2.2 pv_a_d.2.1 ?_
      refine px_iv (y := nI (T (67 + s))) ((qD_11 hD1 hs).trans (congrArg nI hcs)) ?_
      refine px_if_leN (tgt := 309) dL_day_298 (by decide) (by omega) (fun h5 => ?_) (fun h5 => ?_)
      · refine px_iincN (c := 1) (by decide) dL_day_309 rfl (by decide) ?_
        refine px_goto (tgt := 287) dL_day_312 (by decide) ?_
        refine px_keep [0, 1, 2, 3, 4, 7] ?_
        rw [pd_cold_same h5] at hD1
        exact K9 I1 hD1 hF1
      · refine px_aload_n dL_day_301 rfl ?_
        refine px_iload dL_day_302 rfl ?_
        refine px_dup2 dL_day_304 rfl rfl ?_
        refine px_iald (j := (11 + s)) dL_day_305 pv_a_d.1 rfl (by omega) pv_a_d.2.2 pv_a_d.2.1 ?_
        refine px_iv (y := nI (T (67 + s))) ((qD_11 hD1 hs).trans (congrArg nI hcs)) ?_
        refine px_iconst (v := nI 1) dL_day_306 (by decide) ?_
        refine px_isubN (by omega) dL_day_307 ?_
        refine px_iast (j := (11 + s)) dL_day_308 pv_a_d.1 rfl (by omega) pv_a_d.2.2 pv_a_d.2.1 ?_
        refine px_iincN (c := 1) (by decide) dL_day_309 rfl (by decide) ?_
        refine px_goto (tgt := 287) dL_day_312 (by decide) ?_
        refine px_keep [0, 1, 2, 3, 4, 7] ?_
        have hD3 := qD_put (j := 11 + s) (v := T (67 + s) - 1) hD1 (by omega) (by omega) (by omega)
        rw [dT_11 hs, pd_cold_up] at hD3
        exact K9 _ hD3 (fun j hj => (pv_uI_ne hj).trans (hF1 j hj))
  refine px_bipush (v := nI 11) dL_day_283 (by decide) ?_
  refine px_istore dL_day_285 (by decide) ?_
  refine key 0 (by omega) I2 ?_ (fun _ _ => rfl)
  have e : pd_cold T 0 = T := by funext i; unfold pd_cold; rw [if_neg (by omega)]
  rw [e]
  exact hD2
