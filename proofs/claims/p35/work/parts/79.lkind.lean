/-! The law: ports found and numbered; a kind is added. -/
def q_upd (a : Nat → Nat) (i v : Nat) : Nat → Nat := fun q => if q = i then v else a q
theorem q_one {c N : Nat} (h : c < N) : pn_sum (fun q => if q = c then 1 else 0) N = 1 := by
  have h0 : ∀ M, M ≤ c → pn_sum (fun q => if q = c then 1 else 0) M = 0 := by
    intro M
    induction M with
    | zero => intro _; rfl
    | succ M ih =>
      intro hM
      show pn_sum (fun q => if q = c then 1 else 0) M + (if M = c then 1 else 0) = 0
      rw [ih (by omega), if_neg (by omega)]
  induction N with
  | zero => omega
  | succ N ih =>
    show pn_sum (fun q => if q = c then 1 else 0) N + (if N = c then 1 else 0) = 1
    by_cases e : N = c
    · rw [h0 N (by omega), if_pos e]
    · rw [ih (by omega), if_neg e]
theorem q_cnt {N : Nat} {r g : Nat → Nat} (h : qR N r g) : ∀ m, m ≤ N → pn_sum (fun q => if r q < m then 1 else 0) N = m := by
  intro m
  induction m with
  | zero =>
    intro _
    have := pn_sum_le (f := fun q => if r q < 0 then 1 else 0) (c := 0) (n := N) (fun i _ => by simp)
    omega
  | succ m ih =>
    intro hm
    have e : pn_sum (fun q => if r q < m + 1 then 1 else 0) N = pn_sum (fun q => (if r q < m then 1 else 0) + (if q = g m then 1 else 0)) N := pn_sum_congr fun q hq => by
      have h1 := h.1 q hq
      have h2 := h.2 m (by omega)
      by_cases e1 : r q = m
      · have e2 : q = g m := by rw [← e1]; exact h1.2.symm
        rw [if_pos (by omega), if_neg (by omega), if_pos e2]
      · have e2 : ¬ q = g m := fun e3 => e1 (by rw [e3]; exact h2.2)
        rw [if_neg e2, Nat.add_zero]
        by_cases e3 : r q < m
        · rw [if_pos e3, if_pos (by omega)]
        · rw [if_neg e3, if_neg (by omega)]
    rw [e, pn_sum_add, ih (by omega), q_one (h.2 m (by omega)).1]
theorem q_lt {T : pv_T} (h : pw T) {a b : Nat} (ha : a < T 407) (hb : b < T 407) : T (324 + 10 * a) < T (324 + 10 * b) ↔ a < b := by
  constructor
  · intro h1
    refine Nat.lt_of_not_le fun h2 => ?_
    rcases Nat.lt_or_ge b a with h3 | h3
    · have := h.2.2 b a h3 ha
      omega
    · have e : a = b := by omega
      rw [e] at h1
      omega
  · intro h1
    exact h.2.2 a b h1 hb
theorem q_rank {T : pv_T} {r g : Nat → Nat} (h : pw T) (hR : qR (T 407) r g) {p : Nat} (hp : p < T 407) : pn_sum (fun q => if T (324 + 10 * r q) < T (324 + 10 * r p) then 1 else 0) (T 407) = r p := by
  have e : pn_sum (fun q => if T (324 + 10 * r q) < T (324 + 10 * r p) then 1 else 0) (T 407) = pn_sum (fun q => if r q < r p then 1 else 0) (T 407) := pn_sum_congr fun q hq => by
    by_cases e1 : r q < r p
    · rw [if_pos e1, if_pos ((q_lt h (hR.1 q hq).1 (hR.1 p hp).1).mpr e1)]
    · rw [if_neg e1, if_neg (fun h2 => e1 ((q_lt h (hR.1 q hq).1 (hR.1 p hp).1).mp h2))]
  rw [e]
  exact q_cnt hR _ (Nat.le_of_lt (hR.1 p hp).1)
/-- the port of a day, by the law's numbers -/
def q_at (T : pv_T) (r : Nat → Nat) (d : Nat) : Option Nat := pf_first (fun p => Nat.beq (T (324 + 10 * r p)) d) (T 407)
theorem q_at_none {T : pv_T} {r g : Nat → Nat} {d : Nat} (hR : qR (T 407) r g) (h : q_at T r d = none) : pt_on T d = none := by
  unfold pt_on
  refine pf_none fun j hj => ?_
  have h1 := pf_isnone h (g j) (hR.2 j hj).1
  rw [(hR.2 j hj).2] at h1
  exact h1
theorem q_at_some {T : pv_T} {r g : Nat → Nat} {d p : Nat} (hw : pw T) (hR : qR (T 407) r g) (h : q_at T r d = some p) : p < T 407 ∧ T (324 + 10 * r p) = d ∧ pt_on T d = some (r p) := by
  obtain ⟨h1, h2, -⟩ := pf_is h
  have e : T (324 + 10 * r p) = d := by
    rw [pv_beq] at h2
    simpa using h2
  refine ⟨h1, e, ?_⟩
  unfold pt_on
  refine pf_some (hR.1 p h1).1 (fun j hj => ?_) (pb_t e)
  refine pb_f fun e2 => ?_
  have := hw.2.2 j (r p) hj (hR.1 p h1).1
  omega
set_option maxRecDepth 100000 in
set_option maxHeartbeats 4000000 in
theorem s_L_portOf {Q : pv_Q} {E : pv_E} {d bc bs : Nat} {J : pv_JT} {I : pv_IT} {T : pv_T} {r g : Nat → Nat} {m dd : Nat} (hDep : 0 ≤ d) (hD : qD I T m) (hP : qP I T r) (hR : qR (T 407) r g) (hpw : pw T) (h4 : T 407 ≤ 4) (hdd : dd < 2147483648) (h : Q (.inl (some (.int (oI (q_at T r dd))))) pv_K0 pv_P0 (I) (J)) : pv_X (pv_ZQ E Q) E d bc bs mL_portOf 0 [(0, .int (nI (dd))), (1, .ref (365)), (2, .ref (369))] [] pv_K0 pv_P0 I J := by
  have hp4 := h4
  have key : ∀ i : Nat, i ≤ (T 407) → (∀ j, j < i → ¬ T (324 + 10 * r j) = dd) → pv_X (pv_ZQ E Q) E d bc bs mL_portOf 2 [(0, .int (nI dd)), (1, .ref 365), (2, .ref 369), (3, .int (nI (i)))] [] pv_K0 pv_P0 (I) (J) := by
    refine pv_up ((T 407)) ?_ ?_
    · intro hA
      refine px_iload_n dL_portOf_2 rfl ?_
      refine px_aload_n dL_portOf_3 rfl ?_
      refine px_bipush (v := nI 14) dL_portOf_4 (by decide) ?_
      refine px_iald (j := 14) dL_portOf_6 pv_a_d.1 rfl (by omega) pv_a_d.2.2 pv_a_d.2.1 ?_
      refine px_iv (y := nI (T 407)) (qD_14 hD) ?_
      refine px_icmp_geN (tgt := 28) dL_portOf_7 (by decide) (by omega) (by omega) (fun _ => ?_) (fun h0 => absurd h0 (by omega))
      refine px_iconst (v := -1) dL_portOf_28 (by decide) ?_
      have e : q_at T r dd = none := pf_none fun j hj => pb_f (hA j hj)
      rw [e] at h
      exact px_iret dL_portOf_29 rfl (Or.inl rfl) (h)
    · intro i hi K9 hA
      have hr := (hP i hi).1
      have hday := (hpw.2.1 (r i) (hR.1 i hi).1).1
      refine px_iload_n dL_portOf_2 rfl ?_
      refine px_aload_n dL_portOf_3 rfl ?_
      refine px_bipush (v := nI 14) dL_portOf_4 (by decide) ?_
      refine px_iald (j := 14) dL_portOf_6 pv_a_d.1 rfl (by omega) pv_a_d.2.2 pv_a_d.2.1 ?_
      refine px_iv (y := nI (T 407)) (qD_14 hD) ?_
      refine px_icmp_geN (tgt := 28) dL_portOf_7 (by decide) (by omega) (by omega) (fun h0 => absurd h0 (by omega)) (fun _ => ?_)
      refine px_aload_n dL_portOf_10 rfl ?_
      refine px_bipush (v := nI 6) dL_portOf_11 (by decide) ?_
      refine px_iload_n dL_portOf_13 rfl ?_
      refine px_imulN dL_portOf_14 ?_
      refine px_iald (j := (6 * i)) dL_portOf_15 pv_a_po.1 rfl (by omega) pv_a_po.2.2 pv_a_po.2.1 ?_
      refine px_iv (y := nI (T (324 + 10 * r i))) (hr) ?_
      refine px_iload_n dL_portOf_16 rfl ?_
      refine px_icmp_neN (tgt := 22) dL_portOf_17 (by decide) (by omega) (by omega) (fun h0 => ?_) (fun h0 => ?_)
      · refine px_iincN (c := 1) (by decide) dL_portOf_22 rfl (by decide) ?_
        refine px_goto (tgt := 2) dL_portOf_25 (by decide) ?_
        refine px_keep [0, 1, 2, 3] ?_
        refine K9 (fun j hj => ?_)
        by_cases e : j = i
        · rw [e]; omega
        · exact hA j (by omega)
      · refine px_iload_n dL_portOf_20 rfl ?_
        have e : q_at T r dd = some i := pf_some hi (fun j hj => pb_f (hA j hj)) (pb_t h0)
        rw [e] at h
        exact px_iret dL_portOf_21 rfl (Or.inl rfl) (h)
  refine px_iconst (v := nI 0) dL_portOf_0 (by decide) ?_
  refine px_istore_n dL_portOf_1 (by decide) ?_
  exact key 0 (by omega) (fun j hj => absurd hj (Nat.not_lt_zero _))
theorem c_L_portOf {z : pv_Z} {E : pv_E} {d bc bs : Nat} {J : pv_JT} {I : pv_IT} {mi : pv_MI} {pc idx : Nat} {lv : pv_LV} {st : List Value} {T : pv_T} {r g : Nat → Nat} {m dd : Nat} (hd : decode mi.2.1 pc = .ok (.invokestatic idx, 3)) (hlk : Cond.methodLink mi.1.cls idx mL_portOf.1 ∈ pv_W) (hDep : 0+1 ≤ d) (hD : qD I T m) (hP : qP I T r) (hR : qR (T 407) r g) (hpw : pw T) (h4 : T 407 ≤ 4) (hdd : dd < 2147483648) (hcat : (st.map fun v => v.category).sum ≤ 8) (K : pv_X z E d bc bs mi (pc + 3) lv ((.int (oI (q_at T r dd))) :: st) pv_K0 pv_P0 (I) (J)) : pv_X z E d bc bs mi pc lv (.ref (369) :: .ref (365) :: .int (nI (dd)) :: st) pv_K0 pv_P0 I J := by
  obtain ⟨d, rfl⟩ : ∃ d0, d = d0 + 1 := ⟨d - 1, by omega⟩
  have key := px_callS (bc := bc) (bs := bs) (bc1 := 0) (bs1 := 0) (as := [.int (nI (dd)), .ref (365), .ref (369)]) (E := E) (z := z) (lv := lv) hd msL_portOf hlk rfl rfl hcat (by exact Nat.le_of_ble_eq_true rfl) (s_L_portOf (by omega) hD hP hR hpw h4 hdd K)
  rw [Nat.zero_add, Nat.zero_add] at key
  exact key
set_option maxRecDepth 100000 in
set_option maxHeartbeats 4000000 in
theorem s_L_number {Q : pv_Q} {E : pv_E} {d bc bs : Nat} {J : pv_JT} {I : pv_IT} {T : pv_T} {r g : Nat → Nat} {m p : Nat} (hDep : 0 ≤ d) (hD : qD I T m) (hP : qP I T r) (hR : qR (T 407) r g) (hpw : pw T) (h4 : T 407 ≤ 4) (hp : p < T 407) (h : Q (.inl (some (.int (nI (r p))))) pv_K0 pv_P0 (I) (J)) : pv_X (pv_ZQ E Q) E d bc bs mL_number 0 [(0, .int (nI (p))), (1, .ref (365)), (2, .ref (369))] [] pv_K0 pv_P0 I J := by
  have hp4 := h4
  have hdp := (hpw.2.1 (r p) (hR.1 p hp).1).1
  have key : ∀ i : Nat, i ≤ (T 407) → pv_X (pv_ZQ E Q) E d bc bs mL_number 5 [(0, .int (nI p)), (1, .ref 365), (2, .ref 369), (3, .int (nI (pn_sum (fun q => if T (324 + 10 * r q) < T (324 + 10 * r p) then 1 else 0) (i)))), (4, .int (nI (i)))] [] pv_K0 pv_P0 (I) (J) := by
    refine pv_up ((T 407)) ?_ ?_
    · refine px_iload dL_number_5 rfl ?_
      refine px_aload_n dL_number_7 rfl ?_
      refine px_bipush (v := nI 14) dL_number_8 (by decide) ?_
      refine px_iald (j := 14) dL_number_10 pv_a_d.1 rfl (by omega) pv_a_d.2.2 pv_a_d.2.1 ?_
      refine px_iv (y := nI (T 407)) (qD_14 hD) ?_
      refine px_icmp_geN (tgt := 39) dL_number_11 (by decide) (by omega) (by omega) (fun _ => ?_) (fun h0 => absurd h0 (by omega))
      refine px_iload_n dL_number_39 rfl ?_
      rw [q_rank hpw hR hp]
      exact px_iret dL_number_40 rfl (Or.inl rfl) (h)
    · intro i hi K9 
      have hday := (hpw.2.1 (r i) (hR.1 i hi).1).1
      refine px_iload dL_number_5 rfl ?_
      refine px_aload_n dL_number_7 rfl ?_
      refine px_bipush (v := nI 14) dL_number_8 (by decide) ?_
      refine px_iald (j := 14) dL_number_10 pv_a_d.1 rfl (by omega) pv_a_d.2.2 pv_a_d.2.1 ?_
      refine px_iv (y := nI (T 407)) (qD_14 hD) ?_
      refine px_icmp_geN (tgt := 39) dL_number_11 (by decide) (by omega) (by omega) (fun h0 => absurd h0 (by omega)) (fun _ => ?_)
      refine px_aload_n dL_number_14 rfl ?_
      refine px_bipush (v := nI 6) dL_number_15 (by decide) ?_
      refine px_iload dL_number_17 rfl ?_
      refine px_imulN dL_number_19 ?_
      refine px_iald (j := (6 * i)) dL_number_20 pv_a_po.1 rfl (by omega) pv_a_po.2.2 pv_a_po.2.1 ?_
      refine px_iv (y := nI (T (324 + 10 * r i))) ((hP i hi).1) ?_
      refine px_aload_n dL_number_21 rfl ?_
      refine px_bipush (v := nI 6) dL_number_22 (by decide) ?_
      refine px_iload_n dL_number_24 rfl ?_
      refine px_imulN dL_number_25 ?_
      refine px_iald (j := (6 * p)) dL_number_26 pv_a_po.1 rfl (by omega) pv_a_po.2.2 pv_a_po.2.1 ?_
      refine px_iv (y := nI (T (324 + 10 * r p))) ((hP p hp).1) ?_
      refine px_icmp_geN (tgt := 33) dL_number_27 (by decide) (by omega) (by omega) (fun h0 => ?_) (fun h0 => ?_)
      · refine px_iincN (c := 1) (by decide) dL_number_33 rfl (by decide) ?_
        refine px_goto (tgt := 5) dL_number_36 (by decide) ?_
        refine px_keep [0, 1, 2, 3, 4] ?_
        unfold pn_sum at K9
        rw [if_neg (by omega)] at K9
        exact K9
      · refine px_iincN (c := 1) (by decide) dL_number_30 rfl (by decide) ?_
        refine px_iincN (c := 1) (by decide) dL_number_33 rfl (by decide) ?_
        refine px_goto (tgt := 5) dL_number_36 (by decide) ?_
        refine px_keep [0, 1, 2, 3, 4] ?_
        unfold pn_sum at K9
        rw [if_pos (by omega)] at K9
        exact K9
  refine px_iconst (v := nI 0) dL_number_0 (by decide) ?_
  refine px_istore_n dL_number_1 (by decide) ?_
  refine px_iconst (v := nI 0) dL_number_2 (by decide) ?_
  refine px_istore dL_number_3 (by decide) ?_
  exact key 0 (by omega)
theorem c_L_number {z : pv_Z} {E : pv_E} {d bc bs : Nat} {J : pv_JT} {I : pv_IT} {mi : pv_MI} {pc idx : Nat} {lv : pv_LV} {st : List Value} {T : pv_T} {r g : Nat → Nat} {m p : Nat} (hd : decode mi.2.1 pc = .ok (.invokestatic idx, 3)) (hlk : Cond.methodLink mi.1.cls idx mL_number.1 ∈ pv_W) (hDep : 0+1 ≤ d) (hD : qD I T m) (hP : qP I T r) (hR : qR (T 407) r g) (hpw : pw T) (h4 : T 407 ≤ 4) (hp : p < T 407) (hcat : (st.map fun v => v.category).sum ≤ 8) (K : pv_X z E d bc bs mi (pc + 3) lv ((.int (nI (r p))) :: st) pv_K0 pv_P0 (I) (J)) : pv_X z E d bc bs mi pc lv (.ref (369) :: .ref (365) :: .int (nI (p)) :: st) pv_K0 pv_P0 I J := by
  obtain ⟨d, rfl⟩ : ∃ d0, d = d0 + 1 := ⟨d - 1, by omega⟩
  have key := px_callS (bc := bc) (bs := bs) (bc1 := 0) (bs1 := 0) (as := [.int (nI (p)), .ref (365), .ref (369)]) (E := E) (z := z) (lv := lv) hd msL_number hlk rfl rfl hcat (by exact Nat.le_of_ble_eq_true rfl) (s_L_number (by omega) hD hP hR hpw h4 hp K)
  rw [Nat.zero_add, Nat.zero_add] at key
  exact key
theorem qt_addKind {T : pv_T} {L : List pv_Lot} {H : List pv_S} {B : List Nat} {a b c : Nat} (ha : a ≤ 200) (hb : b ≤ 200) (hc : c ≤ 200) (h : T 405 < 8) : po_addKind ((T, L), H, B) (nI a) (nI b) (nI c) = (0, nI (T 405), po_push ((T, L), H, B) (pt_kind T a b c, L)) := by
  unfold po_addKind
  rw [if_pos ⟨dz_in ha (by decide), dz_in hb (by decide), dz_in hc (by decide)⟩, if_pos (show T 405 < 8 from h)]
  rw [dz_tn (by omega), dz_tn (by omega), dz_tn (by omega)]
theorem qt_kind_n {T : pv_T} {a b c i : Nat} (h : i ≠ 405) (h2 : ¬ (T 405 * 3 ≤ i ∧ i < T 405 * 3 + 3)) : pt_kind T a b c i = T i := by
  rw [pt_kind_at, if_neg h, if_neg (by omega), if_neg (by omega), if_neg (by omega)]
set_option maxRecDepth 100000 in
set_option maxHeartbeats 4000000 in
theorem s_L_kind {Q : pv_Q} {E : pv_E} {d bc bs : Nat} {J : pv_JT} {I : pv_IT} {T : pv_T} {L : List pv_Lot} {H : List pv_S} {B : List Nat} {n : Nat} {x y : Int32} (hDep : 9 ≤ d) (hW : qW n I ((T, L), H, B)) (hn : n ≤ 29) (hbc : 6 ≤ bc) (hbs : 36 ≤ bs) (h : ∀ (I' : pv_IT) (X' : pv_XS), qW (n + 1) I' X' → Q (.inl (some (.int (nI 1)))) pv_K0 pv_P0 (I') (J)) : pv_X (pv_ZQ E Q) E d bc bs mL_kind 0 [(0, .ref 0), (1, .int (x)), (2, .int (y)), (3, .ref (365)), (4, .ref (366))] [] pv_K0 pv_P0 I J := by
  obtain ⟨hCA, hw, ⟨r, g, hQD, hQK, hQL, hQM, hQP, hQR⟩, ⟨q4, q11, q3, qm3, qp4⟩, hin, hacc, hq404, hq410⟩ := id hW
  replace hQD : qD I T L.length := hQD
  replace hQK : qK I T := hQK
  replace hQL : qL I L := hQL
  replace hQM : qM I T := hQM
  replace hQP : qP I T r := hQP
  replace hQR : qR (T 407) r g := hQR
  replace q4 : T 405 ≤ 4 := q4
  replace q11 : L.length ≤ 11 := q11
  replace q3 : T 408 ≤ 3 := q3
  replace qm3 : ∀ m, m < T 408 → T (314 + m) ≤ 3 := qm3
  replace qp4 : T 407 ≤ 4 := qp4
  replace hin : qin T L := hin
  replace hacc : qacc T L := hacc
  replace hq404 : T 404 ≤ 20 * (n - 6) := hq404
  replace hq410 : T 410 ≤ 10000 + 2000 * n := hq410
  have hdy : dy (T, L) := hw.1.1
  have htb : tb T := hdy.1
  have hlb : lbs L := hdy.2.1
  have hlo : lo_ok L := hdy.2.2
  have hpw : pw T := htb.2.2.2.2.2.1
  have hkk : ∀ l, l < L.length → (pl_g L l).1 < T 405 := hw.1.2.2.2.2.2.1
  have h31 : L.length ≤ 31 := hlb.1
  have hn8 : T 405 ≤ 8 := htb.2.2.1
  have h10 : T 408 ≤ 10 := htb.2.2.2.2.2.2.2.1
  refine px_aload_n dL_kind_0 rfl ?_
  refine px_iconst (v := nI 0) dL_kind_1 (by decide) ?_
  refine px_iald (j := 0) dL_kind_2 pv_a_d.1 rfl (by omega) pv_a_d.2.2 pv_a_d.2.1 ?_
  refine px_iv (y := nI (T 405)) (qD_0 hQD) ?_
  refine px_iconst (v := nI 4) dL_kind_3 (by decide) ?_
  refine px_icmp_neN (tgt := 9) dL_kind_4 (by decide) (by omega) (by omega) (fun h0 => ?_) (fun h0 => ?_)
  · refine px_bipush (v := nI 8) dL_kind_9 (by decide) ?_
    refine px_aload_n dL_kind_11 rfl ?_
    refine px_iconst (v := nI 0) dL_kind_12 (by decide) ?_
    refine px_iald (j := 0) dL_kind_13 pv_a_d.1 rfl (by omega) pv_a_d.2.2 pv_a_d.2.1 ?_
    refine px_iv (y := nI (T 405)) (qD_0 hQD) ?_
    refine px_imulN dL_kind_14 ?_
    refine px_istore dL_kind_15 (by decide) ?_
    refine px_iconst (v := nI 0) dL_kind_17 (by decide) ?_
    refine px_istore dL_kind_18 (by decide) ?_
    have key2 : ∀ i : Nat, i ≤ 3 → ∀ (I1 : pv_IT) (a : Nat → Nat), (∀ q, q < i → a q ≤ 200) → (∀ j, I1 366 j = if 8 * T 405 ≤ j ∧ j < 8 * T 405 + i then nI (a (j - 8 * T 405)) else if 8 * T 405 ≤ j ∧ j < 8 * T 405 + 8 then 0 else I 366 j) → (∀ j, 365 ≤ j → j ≠ 366 → I1 j = I j) → (∀ j, j < 365 → I1 j = I j) → pv_X (pv_ZQ E Q) E d bc bs mL_kind 45 [(0, .ref 0), (1, .int x), (2, .int y), (3, .ref 365), (4, .ref 366), (5, .int (nI (8 * T 405))), (6, .int (nI (i)))] [] pv_K0 pv_P0 (I1) (J) := by
      refine pv_up (3) ?_ ?_
      · intro I1 a ha9 hA hF hFc
        refine px_iload dL_kind_45 rfl ?_
        refine px_iconst (v := nI 3) dL_kind_47 (by decide) ?_
        refine px_icmp_geN (tgt := 93) dL_kind_48 (by decide) (by omega) (by omega) (fun _ => ?_) (fun h0 => absurd h0 (by omega))
        refine px_aload_n dL_kind_93 rfl ?_
        refine px_iconst (v := nI 0) dL_kind_94 (by decide) ?_
        refine px_dup2 dL_kind_95 rfl rfl ?_
        refine px_iald (j := 0) dL_kind_96 pv_a_d.1 rfl (by omega) pv_a_d.2.2 pv_a_d.2.1 ?_
        refine px_iv (y := nI (T 405)) ((congrFun (hF 365 (by omega) (by omega)) 0).trans (qD_0 hQD)) ?_
        refine px_iconst (v := nI 1) dL_kind_97 (by decide) ?_
        refine px_iaddN dL_kind_98 ?_
        refine px_iast (j := 0) dL_kind_99 pv_a_d.1 rfl (by omega) pv_a_d.2.2 pv_a_d.2.1 ?_
        generalize hI2 : pv_uI I1 365 0 (nI (T 405 + 1)) = I2
        have hF2 : ∀ j, j ≠ 365 → I2 j = I1 j := fun j hj => by rw [← hI2]; exact pv_uI_ne hj
        have k0 : I2 366 (8 * T 405) = nI (a 0) := by rw [hF2 366 (by omega), hA, if_pos (by omega), show 8 * T 405 - 8 * T 405 = 0 by omega]
        have k1 : I2 366 (8 * T 405 + 1) = nI (a 1) := by rw [hF2 366 (by omega), hA, if_pos (by omega), show 8 * T 405 + 1 - 8 * T 405 = 1 by omega]
        have k2 : I2 366 (8 * T 405 + 2) = nI (a 2) := by rw [hF2 366 (by omega), hA, if_pos (by omega), show 8 * T 405 + 2 - 8 * T 405 = 2 by omega]
        have hCA2 : CA I2 ((T, L), H, B) := CA_far hCA (fun j hj => (hF2 j (by omega)).trans (hFc j hj))
        refine px_aload_n dL_kind_100 rfl ?_
        refine px_aload dL_kind_101 rfl ?_
        refine px_iload dL_kind_103 rfl ?_
        refine px_iald (j := (8 * T 405)) dL_kind_105 pv_a_ki.1 rfl (by omega) pv_a_ki.2.2 pv_a_ki.2.1 ?_
        refine px_iv (y := nI (a 0)) (k0) ?_
        refine px_aload dL_kind_106 rfl ?_
        refine px_iload dL_kind_108 rfl ?_
        refine px_iconst (v := nI 1) dL_kind_110 (by decide) ?_
        refine px_iaddN dL_kind_111 ?_
        refine px_iald (j := ((8 * T 405) + 1)) dL_kind_112 pv_a_ki.1 rfl (by omega) pv_a_ki.2.2 pv_a_ki.2.1 ?_
        refine px_iv (y := nI (a 1)) (k1) ?_
        refine px_aload dL_kind_113 rfl ?_
        refine px_iload dL_kind_115 rfl ?_
        refine px_iconst (v := nI 2) dL_kind_117 (by decide) ?_
        refine px_iaddN dL_kind_118 ?_
        refine px_iald (j := ((8 * T 405) + 2)) dL_kind_119 pv_a_ki.1 rfl (by omega) pv_a_ki.2.2 pv_a_ki.2.1 ?_
        refine px_iv (y := nI (a 2)) (k2) ?_
        refine c_X9_addKind dL_kind_120 mlL_34 (by omega) hCA2 hw (by omega) (by omega) (by omega) (Nat.le_of_ble_eq_true rfl) (dz_ok (qt_addKind (ha9 0 (by omega)) (ha9 1 (by omega)) (ha9 2 (by omega)) (by omega)) fun I3 hCA3 hG3 => ?_)
        refine px_aload_n dL_kind_123 rfl ?_
        refine px_iconst (v := nI 0) dL_kind_124 (by decide) ?_
        refine px_iald (j := 0) dL_kind_125 pv_a_d.1 rfl (by omega) pv_a_d.2.2 pv_a_d.2.1 ?_
        refine px_iv (y := nI (T 405 + 1)) (by rw [hG3 365 (by omega), ← hI2, pv_uI_self]; exact pk_us) ?_
        refine px_iconst (v := nI 1) dL_kind_126 (by decide) ?_
        refine px_isubN (by omega) dL_kind_127 ?_
        rw [show T 405 + 1 - 1 = T 405 by omega]
        refine px_icmp_ne (tgt := 135) dL_kind_128 (by decide) (fun h9 => absurd rfl h9) (fun _ => ?_)
        refine px_iconst (v := nI 1) dL_kind_131 (by decide) ?_
        refine px_goto (tgt := 136) dL_kind_132 (by decide) ?_
        have hpo := qt_addKind (T := T) (L := L) (H := H) (B := B) (ha9 0 (by omega)) (ha9 1 (by omega)) (ha9 2 (by omega)) (show T 405 < 8 by omega)
        have hw2 := wx_addKind (a := nI (a 0)) (b := nI (a 1)) (c := nI (a 2)) hw
        rw [hpo] at hw2
        generalize hT' : pt_kind T (a 0) (a 1) (a 2) = T' at hCA3 hw2
        have e405 : T' 405 = T 405 + 1 := by rw [← hT', pt_kind_at, if_pos rfl]
        have eT : ∀ i, i ≠ 405 → ¬ (T 405 * 3 ≤ i ∧ i < T 405 * 3 + 3) → T' i = T i := fun i h1 h2 => by rw [← hT']; exact qt_kind_n h1 h2
        have e0 : T' (T 405 * 3) = a 0 := by rw [← hT', pt_kind_at, if_neg (by omega), if_neg (by omega), if_neg (by omega), if_pos rfl]
        have e1 : T' (T 405 * 3 + 1) = a 1 := by rw [← hT', pt_kind_at, if_neg (by omega), if_neg (by omega), if_pos rfl]
        have e2 : T' (T 405 * 3 + 2) = a 2 := by rw [← hT', pt_kind_at, if_neg (by omega), if_pos rfl]
        have hz := hw.1.2.2.2.2.1
        replace hz : ∀ k, T 405 ≤ k → k < 8 → ∀ w, w < 5 → T (24 + w + 5 * k) = 0 := hz
        have hof : ps_of L (T 405) = 0 := by
          have := pn_sum_le (f := fun l => if (pl_g L l).1 = T 405 then (pl_g L l).2.2.1 else 0) (c := 0) (n := L.length) (fun i hi => by have := hkk i hi; simp; omega)
          unfold ps_of
          omega
        have hD9' : qD I2 (pt_up T 405 (T 405 + 1)) L.length := by rw [← hI2]; exact qD_put (j := 0) (qD_of hQD (hF 365 (by omega) (by omega)) (fun _ _ => rfl)) (by omega) (by omega) (by omega)
        refine px_zret dL_kind_136 rfl rfl (Or.inl rfl) (h I3 ((T', L), h_push H (T, L), B) ⟨hCA3, hw2, ⟨r, g, qD_of hD9' (hG3 365 (by omega)) (fun j hj => ?_), fun k w hk hw9 => ?_, qL_of hQL ((hG3 367 (by omega)).trans ((hF2 367 (by omega)).trans (hF 367 (by omega) (by omega)))), qM_of hQM ((hG3 368 (by omega)).trans ((hF2 368 (by omega)).trans (hF 368 (by omega) (by omega)))) h10 (fun m hm => (htb.2.2.2.2.2.2.2.2 m hm).1) (fun i hi => eT i (by omega) (by omega)), qP_of hQP ((hG3 369 (by omega)).trans ((hF2 369 (by omega)).trans (hF 369 (by omega) (by omega)))) hpw.1 (fun p hp => (hQR.1 p hp).1) (fun i hi => eT i (by omega) (by omega)), ?_⟩, ⟨?_, q11, ?_, ?_, ?_⟩, ?_, ?_, ?_, ?_⟩)
        · unfold pt_up
          by_cases e : dT j = 405
          · rw [if_pos e, e]; exact e405
          · rw [if_neg e]
            exact eT _ e (by have := dT_ge hj; omega)
        · replace hk : k < T' 405 := hk
          rw [e405] at hk
          show I3 366 (8 * k + w) = nI (T' (kT k w))
          rw [hG3 366 (by omega), hF2 366 (by omega), hA]
          by_cases e : k = T 405
          · subst e
            unfold kT
            by_cases e3 : w < 3
            · rw [if_pos (by omega), if_pos e3, show 8 * T 405 + w - 8 * T 405 = w by omega]
              match w, e3 with
              | 0, _ => rw [show 3 * T 405 + 0 = T 405 * 3 by omega, e0]
              | 1, _ => rw [show 3 * T 405 + 1 = T 405 * 3 + 1 by omega, e1]
              | 2, _ => rw [show 3 * T 405 + 2 = T 405 * 3 + 2 by omega, e2]
              | w + 3, h9 => exact absurd h9 (by omega)
            · rw [if_neg (by omega), if_pos (by omega), if_neg e3, eT _ (by omega) (by omega), show 21 + 5 * T 405 + w = 24 + (w - 3) + 5 * T 405 by omega, hz (T 405) (Nat.le_refl _) (by omega) (w - 3) (by omega)]
              rfl
          · have hk' : k < T 405 := by omega
            rw [if_neg (by omega), if_neg (by omega), hQK k w hk' hw9]
            have := kT_lt (k := k) (w := w) (by omega) hw9
            rw [eT _ (by omega) (by unfold kT; split <;> omega)]
        · show qR (T' 407) r g
          rw [eT 407 (by omega) (by omega)]; exact hQR
        · show T' 405 ≤ 4
          omega
        · show T' 408 ≤ 3
          rw [eT 408 (by omega) (by omega)]; exact q3
        · intro m hm
          replace hm : m < T' 408 := hm
          rw [eT 408 (by omega) (by omega)] at hm
          show T' (314 + m) ≤ 3
          rw [eT _ (by omega) (by omega)]; exact qm3 m hm
        · show T' 407 ≤ 4
          rw [eT 407 (by omega) (by omega)]; exact qp4
        · intro s hs
          show ps_in L s ≤ T' (64 + s)
          rw [eT _ (by omega) (by omega)]; exact hin s hs
        · intro k hk
          replace hk : k < T' 405 := hk
          show T' (24 + 5 * k) = T' (25 + 5 * k) + T' (26 + 5 * k) + T' (27 + 5 * k) + ps_of L k
          rw [eT _ (by omega) (by omega), eT _ (by omega) (by omega), eT _ (by omega) (by omega), eT _ (by omega) (by omega)]
          by_cases e : k = T 405
          · subst e
            rw [hof, show 24 + 5 * T 405 = 24 + 0 + 5 * T 405 by omega, show 25 + 5 * T 405 = 24 + 1 + 5 * T 405 by omega, show 26 + 5 * T 405 = 24 + 2 + 5 * T 405 by omega, show 27 + 5 * T 405 = 24 + 3 + 5 * T 405 by omega]
            rw [hz _ (Nat.le_refl _) (by omega) 0 (by omega), hz _ (Nat.le_refl _) (by omega) 1 (by omega), hz _ (Nat.le_refl _) (by omega) 2 (by omega), hz _ (Nat.le_refl _) (by omega) 3 (by omega)]
          · exact hacc k (by omega)
        · show T' 404 ≤ 20 * (n + 1 - 6)
          rw [eT 404 (by omega) (by omega)]; omega
        · show T' 410 ≤ 10000 + 2000 * (n + 1)
          rw [eT 410 (by omega) (by omega)]; omega
      · intro i hi K9 I1 a ha9 hA hF hFc
        refine px_iload dL_kind_45 rfl ?_
        refine px_iconst (v := nI 3) dL_kind_47 (by decide) ?_
        refine px_icmp_geN (tgt := 93) dL_kind_48 (by decide) (by omega) (by omega) (fun h0 => absurd h0 (by omega)) (fun _ => ?_)
        refine px_aload dL_kind_51 rfl ?_
        refine px_iload dL_kind_53 rfl ?_
        refine px_iload dL_kind_55 rfl ?_
        refine px_iaddN dL_kind_57 ?_
        refine px_iload_n dL_kind_58 rfl ?_
        refine px_iconst (v := nI 5) dL_kind_59 (by decide) ?_
        refine px_iload dL_kind_60 rfl ?_
        refine px_imulN dL_kind_62 ?_
        refine px_ishr dL_kind_63 ?_
        refine px_iload_n dL_kind_64 rfl ?_
        refine px_iload dL_kind_65 rfl ?_
        refine px_ishr dL_kind_67 ?_
        refine px_iconst (v := nI 3) dL_kind_68 (by decide) ?_
        refine c_L_at dL_kind_69 mlL_30 (by omega) (by omega) (by omega) (Nat.le_of_ble_eq_true rfl) (fun j1 hj1 => ?_)
        refine px_if_neN (tgt := 81) dL_kind_72 (by decide) (by omega) (fun h5 => ?_) (fun h5 => ?_)
        · refine px_bipush (v := nI 20) dL_kind_81 (by decide) ?_
          refine c_L_at dL_kind_83 mlL_30 (by omega) (by omega) (by omega) (Nat.le_of_ble_eq_true rfl) (fun j2 hj2 => ?_)
          refine px_iast (j := ((8 * T 405) + i)) dL_kind_86 pv_a_ki.1 rfl (by omega) pv_a_ki.2.2 pv_a_ki.2.1 ?_
          refine px_iincN (c := 1) (by decide) dL_kind_87 rfl (by decide) ?_
          refine px_goto (tgt := 45) dL_kind_90 (by decide) ?_
          refine px_keep [0, 1, 2, 3, 4, 5, 6] ?_
          refine K9 _ (q_upd a i j2) (fun q hq => ?_) (fun j => ?_) (fun j h1 h2 => (pv_uI_ne h2).trans (hF j h1 h2)) (fun j hj => (pv_uI_ne (by omega)).trans (hFc j hj))
          · unfold q_upd
            by_cases e : q = i
            · rw [if_pos e]; omega
            · rw [if_neg e]; exact ha9 q (by omega)
          · rw [pv_uI_at]
            by_cases e : j = 8 * T 405 + i
            · subst e
              rw [if_pos ⟨rfl, rfl⟩, if_pos (by omega), show 8 * T 405 + i - 8 * T 405 = i by omega]
              unfold q_upd
              rw [if_pos rfl]
            · rw [if_neg (fun q => e q.2), hA]
              by_cases e2 : 8 * T 405 ≤ j ∧ j < 8 * T 405 + i
              · rw [if_pos e2, if_pos (by omega)]
                unfold q_upd
                rw [if_neg (by omega)]
              · rw [if_neg e2, if_neg (show ¬ (8 * T 405 ≤ j ∧ j < 8 * T 405 + (i + 1)) by omega)]
        · refine px_sipush (v := nI 201) dL_kind_75 (by decide) ?_
          refine px_goto (tgt := 83) dL_kind_78 (by decide) ?_
          refine c_L_at dL_kind_83 mlL_30 (by omega) (by omega) (by omega) (Nat.le_of_ble_eq_true rfl) (fun j2 hj2 => ?_)
          refine px_iast (j := ((8 * T 405) + i)) dL_kind_86 pv_a_ki.1 rfl (by omega) pv_a_ki.2.2 pv_a_ki.2.1 ?_
          refine px_iincN (c := 1) (by decide) dL_kind_87 rfl (by decide) ?_
          refine px_goto (tgt := 45) dL_kind_90 (by decide) ?_
          refine px_keep [0, 1, 2, 3, 4, 5, 6] ?_
          refine K9 _ (q_upd a i j2) (fun q hq => ?_) (fun j => ?_) (fun j h1 h2 => (pv_uI_ne h2).trans (hF j h1 h2)) (fun j hj => (pv_uI_ne (by omega)).trans (hFc j hj))
          · unfold q_upd
            by_cases e : q = i
            · rw [if_pos e]; omega
            · rw [if_neg e]; exact ha9 q (by omega)
          · rw [pv_uI_at]
            by_cases e : j = 8 * T 405 + i
            · subst e
              rw [if_pos ⟨rfl, rfl⟩, if_pos (by omega), show 8 * T 405 + i - 8 * T 405 = i by omega]
              unfold q_upd
              rw [if_pos rfl]
            · rw [if_neg (fun q => e q.2), hA]
              by_cases e2 : 8 * T 405 ≤ j ∧ j < 8 * T 405 + i
              · rw [if_pos e2, if_pos (by omega)]
                unfold q_upd
                rw [if_neg (by omega)]
              · rw [if_neg e2, if_neg (show ¬ (8 * T 405 ≤ j ∧ j < 8 * T 405 + (i + 1)) by omega)]
    have key1 : ∀ i : Nat, i ≤ 8 → ∀ I1 : pv_IT, (∀ j, I1 366 j = if 8 * T 405 ≤ j ∧ j < 8 * T 405 + i then 0 else I 366 j) → (∀ j, 365 ≤ j → j ≠ 366 → I1 j = I j) → (∀ j, j < 365 → I1 j = I j) → pv_X (pv_ZQ E Q) E d bc bs mL_kind 20 [(0, .ref 0), (1, .int x), (2, .int y), (3, .ref 365), (4, .ref 366), (5, .int (nI (8 * T 405))), (6, .int (nI (i)))] [] pv_K0 pv_P0 (I1) (J) := by
      refine pv_up (8) ?_ ?_
      · intro I1 hZ hF hFc
        refine px_iload dL_kind_20 rfl ?_
        refine px_bipush (v := nI 8) dL_kind_22 (by decide) ?_
        refine px_icmp_geN (tgt := 42) dL_kind_24 (by decide) (by omega) (by omega) (fun _ => ?_) (fun h0 => absurd h0 (by omega))
        refine px_iconst (v := nI 0) dL_kind_42 (by decide) ?_
        refine px_istore dL_kind_43 (by decide) ?_
        refine px_keep [0, 1, 2, 3, 4, 5, 6] ?_
        refine key2 0 (by omega) I1 (fun _ => 0) (fun q hq => absurd hq (Nat.not_lt_zero _)) (fun j => ?_) hF hFc
        rw [if_neg (by omega)]
        exact hZ j
      · intro i hi K9 I1 hZ hF hFc
        refine px_iload dL_kind_20 rfl ?_
        refine px_bipush (v := nI 8) dL_kind_22 (by decide) ?_
        refine px_icmp_geN (tgt := 42) dL_kind_24 (by decide) (by omega) (by omega) (fun h0 => absurd h0 (by omega)) (fun _ => ?_)
        refine px_aload dL_kind_27 rfl ?_
        refine px_iload dL_kind_29 rfl ?_
        refine px_iload dL_kind_31 rfl ?_
        refine px_iaddN dL_kind_33 ?_
        refine px_iconst (v := nI 0) dL_kind_34 (by decide) ?_
        refine px_iast (j := ((8 * T 405) + i)) dL_kind_35 pv_a_ki.1 rfl (by omega) pv_a_ki.2.2 pv_a_ki.2.1 ?_
        refine px_iincN (c := 1) (by decide) dL_kind_36 rfl (by decide) ?_
        refine px_goto (tgt := 20) dL_kind_39 (by decide) ?_
        refine px_keep [0, 1, 2, 3, 4, 5, 6] ?_
        refine K9 _ (fun j => ?_) (fun j h1 h2 => (pv_uI_ne h2).trans (hF j h1 h2)) (fun j hj => (pv_uI_ne (by omega)).trans (hFc j hj))
        rw [pv_uI_at]
        by_cases e : j = 8 * T 405 + i
        · subst e
          rw [if_pos ⟨rfl, rfl⟩, if_pos (by omega)]
          rfl
        · rw [if_neg (fun q => e q.2), hZ]
          by_cases e2 : 8 * T 405 ≤ j ∧ j < 8 * T 405 + i
          · rw [if_pos e2, if_pos (by omega)]
          · rw [if_neg e2, if_neg (show ¬ (8 * T 405 ≤ j ∧ j < 8 * T 405 + (i + 1)) by omega)]
    exact key1 0 (by omega) I (fun j => by rw [if_neg (by omega)]) (fun _ _ _ => rfl) (fun _ _ => rfl)
  · refine px_iconst (v := nI 1) dL_kind_7 (by decide) ?_
    exact px_zret dL_kind_8 rfl rfl (Or.inl rfl) (h I ((T, L), H, B) (qW_mono hW))
theorem c_L_kind {z : pv_Z} {E : pv_E} {d bc bs : Nat} {J : pv_JT} {I : pv_IT} {mi : pv_MI} {pc idx : Nat} {lv : pv_LV} {st : List Value} {T : pv_T} {L : List pv_Lot} {H : List pv_S} {B : List Nat} {n : Nat} {x y : Int32} (hd : decode mi.2.1 pc = .ok (.invokestatic idx, 3)) (hlk : Cond.methodLink mi.1.cls idx mL_kind.1 ∈ pv_W) (hDep : 9+1 ≤ d) (hW : qW n I ((T, L), H, B)) (hn : n ≤ 29) (hbc : 6 ≤ bc) (hbs : 36 ≤ bs) (hcat : (st.map fun v => v.category).sum ≤ 8) (K : ∀ (I' : pv_IT) (X' : pv_XS), qW (n + 1) I' X' → pv_X z E d (bc - 6) (bs - 36) mi (pc + 3) lv ((.int (nI 1)) :: st) pv_K0 pv_P0 (I') (J)) : pv_X z E d bc bs mi pc lv (.ref (366) :: .ref (365) :: .int (y) :: .int (x) :: .ref 0 :: st) pv_K0 pv_P0 I J := by
  obtain ⟨bc, rfl⟩ : ∃ b0, bc = 6 + b0 := ⟨bc - 6, by omega⟩
  obtain ⟨bs, rfl⟩ : ∃ b0, bs = 36 + b0 := ⟨bs - 36, by omega⟩
  rw [show 6 + bc - 6 = bc by omega, show 36 + bs - 36 = bs by omega] at K
  obtain ⟨d, rfl⟩ : ∃ d0, d = d0 + 1 := ⟨d - 1, by omega⟩
  have key := px_callS (bc := bc) (bs := bs) (bc1 := 6) (bs1 := 36) (as := [.ref 0, .int (x), .int (y), .ref (365), .ref (366)]) (E := E) (z := z) (lv := lv) hd msL_kind hlk rfl rfl hcat (by exact Nat.le_of_ble_eq_true rfl) (s_L_kind (by omega) hW hn (Nat.le_refl _) (Nat.le_refl _) K)
  exact key
