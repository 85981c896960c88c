/-! The law: days pass. -/
theorem pe_eat_bal {D : Nat → Nat} {k : Nat} : ∀ {f a : Nat} {L : List pv_Lot}, (∀ kk, ps_of (pe_eat D k f a L).2 kk + (if kk = k then a - (pe_eat D k f a L).1 else 0) = ps_of L kk) ∧ (pe_eat D k f a L).1 ≤ a ∧ ∀ s, ps_in (pe_eat D k f a L).2 s ≤ ps_in L s
  | 0, a, L => by
    unfold pe_eat
    refine ⟨fun kk => ?_, Nat.le_refl _, fun _ => Nat.le_refl _⟩
    show ps_of L kk + (if kk = k then a - a else 0) = ps_of L kk
    rw [Nat.sub_self]
    split <;> rfl
  | f + 1, a, L => by
    have base : (∀ kk, ps_of L kk + (if kk = k then a - a else 0) = ps_of L kk) ∧ a ≤ a ∧ ∀ s, ps_in L s ≤ ps_in L s := by
      refine ⟨fun kk => ?_, Nat.le_refl _, fun _ => Nat.le_refl _⟩
      rw [Nat.sub_self]
      split <;> rfl
    by_cases e : a = 0
    · subst e
      rw [pe_eat0]
      exact base
    · cases e2 : pe_next D k L L.length with
      | none => rw [pe_eat_none e2]; exact base
      | some b =>
        rw [pe_eat_some e2 (by omega)]
        obtain ⟨hb, hbk, hbp⟩ := pe_next_is e2
        have ih := pe_eat_bal (D := D) (k := k) (f := f) (a := a - min a (pl_g L b).2.2.1) (L := pl_amt L b ((pl_g L b).2.2.1 - min a (pl_g L b).2.2.1))
        generalize pe_eat D k f (a - min a (pl_g L b).2.2.1) (pl_amt L b ((pl_g L b).2.2.1 - min a (pl_g L b).2.2.1)) = r at ih
        refine ⟨fun kk => ?_, Nat.le_trans ih.2.1 (Nat.sub_le _ _), fun s => Nat.le_trans (ih.2.2 s) ?_⟩
        · have h1 := ih.1 kk
          have h2 := qs_of_amt (v := (pl_g L b).2.2.1 - min a (pl_g L b).2.2.1) (k := kk) hb
          have h3 := ih.2.1
          rw [hbk] at h2
          by_cases e3 : kk = k
          · subst e3
            rw [if_pos rfl] at h1 ⊢
            rw [if_pos rfl, if_pos rfl] at h2
            omega
          · rw [if_neg e3] at h1 ⊢
            rw [if_neg (fun z => e3 z.symm), if_neg (fun z => e3 z.symm)] at h2
            omega
        · have h2 := qs_in_amt (v := (pl_g L b).2.2.1 - min a (pl_g L b).2.2.1) (s := s) hb
          by_cases e3 : (pl_g L b).2.1 = s
          · rw [if_pos e3, if_pos e3] at h2; omega
          · rw [if_neg e3, if_neg e3] at h2; omega
def qbal (s : pv_S) (k : Nat) : Nat := s.1 (25 + 5 * k) + s.1 (26 + 5 * k) + s.1 (27 + 5 * k) + ps_of s.2 k
/-- what a step keeps: the accounts, and no store has more -/
def qkeep (s t : pv_S) : Prop := (∀ k, k < 8 → qbal t k = qbal s k ∧ t.1 (24 + 5 * k) = s.1 (24 + 5 * k)) ∧ ∀ x, ps_in t.2 x ≤ ps_in s.2 x
theorem qkeep_r (s : pv_S) : qkeep s s := ⟨fun _ _ => ⟨rfl, rfl⟩, fun _ => Nat.le_refl _⟩
theorem qkeep_t {s t u : pv_S} (h : qkeep s t) (g : qkeep t u) : qkeep s u :=
  ⟨fun k hk => ⟨(g.1 k hk).1.trans (h.1 k hk).1, (g.1 k hk).2.trans (h.1 k hk).2⟩, fun x => Nat.le_trans (g.2 x) (h.2 x)⟩
theorem qkeep_eat {D : Nat → Nat} {k a : Nat} {s : pv_S} : qkeep s (pd_eat D k a s).2 := by
  obtain ⟨h1, h2, h3⟩ := pe_eat_bal (D := D) (k := k) (f := s.2.length) (a := a) (L := s.2)
  refine ⟨fun kk _ => ⟨?_, ?_⟩, h3⟩
  · have h4 := h1 kk
    show pt_up s.1 (25 + 5 * k) (s.1 (25 + 5 * k) + (a - (pe_eat D k s.2.length a s.2).1)) (25 + 5 * kk) + pt_up s.1 (25 + 5 * k) (s.1 (25 + 5 * k) + (a - (pe_eat D k s.2.length a s.2).1)) (26 + 5 * kk) + pt_up s.1 (25 + 5 * k) (s.1 (25 + 5 * k) + (a - (pe_eat D k s.2.length a s.2).1)) (27 + 5 * kk) + ps_of (pe_eat D k s.2.length a s.2).2 kk = s.1 (25 + 5 * kk) + s.1 (26 + 5 * kk) + s.1 (27 + 5 * kk) + ps_of s.2 kk
    rw [pt_un (j := 26 + 5 * kk) (by omega), pt_un (j := 27 + 5 * kk) (by omega)]
    by_cases e : kk = k
    · subst e
      rw [if_pos rfl] at h4
      rw [pt_us]
      omega
    · rw [if_neg e] at h4
      rw [pt_un (by omega)]
      omega
  · exact pt_un (by omega)
theorem qkeep_T {T T' : pv_T} {L : List pv_Lot} (h : ∀ k w, k < 8 → w < 4 → T' (24 + 5 * k + w) = T (24 + 5 * k + w)) : qkeep (T, L) (T', L) := by
  refine ⟨fun k hk => ⟨?_, h k 0 hk (by omega)⟩, fun _ => Nat.le_refl _⟩
  show T' (25 + 5 * k) + T' (26 + 5 * k) + T' (27 + 5 * k) + ps_of L k = T (25 + 5 * k) + T (26 + 5 * k) + T (27 + 5 * k) + ps_of L k
  have h1 := h k 1 hk (by omega)
  have h2 := h k 2 hk (by omega)
  have h3 := h k 3 hk (by omega)
  rw [show 24 + 5 * k + 1 = 25 + 5 * k by omega] at h1
  rw [show 24 + 5 * k + 2 = 26 + 5 * k by omega] at h2
  rw [show 24 + 5 * k + 3 = 27 + 5 * k by omega] at h3
  rw [h1, h2, h3]
theorem qkeep_item {D : Nat → Nat} {m i : Nat} {s : pv_S} : qkeep s (pd_item D m i s).2 := by
  unfold pd_item
  by_cases e : i < s.1 (314 + m)
  · rw [if_pos e]
    refine qkeep_t (t := (pd_meal D (s.1 (194 + 12 * m + 3 * i)) (s.1 (195 + 12 * m + 3 * i) * s.1 409) (s.1 (196 + 12 * m + 3 * i)) s).2) ?_ ?_
    · unfold pd_meal
      split
      · exact qkeep_eat
      · exact qkeep_t qkeep_eat qkeep_eat
    · exact qkeep_T fun k w _ hw => pt_un (by omega)
  · rw [if_neg e]
    exact qkeep_r s
theorem qkeep_items {D : Nat → Nat} {m : Nat} {s : pv_S} : ∀ i : Nat, qkeep s (pd_items D m s i).2
  | 0 => qkeep_r s
  | i + 1 => qkeep_t (qkeep_items i) qkeep_item
theorem pd_fold_at {T : pv_T} {j : Nat} : ∀ {L : List pv_Lot} {A : pv_T}, (∀ k : Nat, j ≠ 26 + 5 * k) → L.foldl (pd_spoil T) A j = A j
  | [], A, _ => rfl
  | x :: L, A, h => by
    rw [List.foldl_cons, pd_fold_at h]
    unfold pd_spoil
    split
    · exact pt_un (h _)
    · rfl
theorem pd_fold_bal {T : pv_T} {k : Nat} : ∀ {L : List pv_Lot} {A : pv_T}, L.foldl (pd_spoil T) A (26 + 5 * k) + ps_of (L.map (pd_old T)) k = A (26 + 5 * k) + ps_of L k
  | [], A => rfl
  | x :: L, A => by
    have ih := pd_fold_bal (T := T) (k := k) (L := L) (A := pd_spoil T A x)
    rw [List.foldl_cons, List.map_cons, qs_of, qs_cons, qs_of, qs_cons, ← qs_of, ← qs_of]
    have e1 : (pd_old T x).1 = x.1 := rfl
    have e2 : (pd_old T x).2.2.1 = if 1000 ≤ pd_grown T x then 0 else x.2.2.1 := rfl
    have e3 : pd_spoil T A x (26 + 5 * k) = A (26 + 5 * k) + (if x.1 = k then (if 1000 ≤ pd_grown T x then x.2.2.1 else 0) else 0) := by
      unfold pd_spoil
      by_cases g : 1000 ≤ pd_grown T x
      · rw [if_pos g, if_pos g]
        by_cases ek : x.1 = k
        · rw [if_pos ek, ek, pt_us]
        · rw [if_neg ek, pt_un (by omega), Nat.add_zero]
      · rw [if_neg g, if_neg g]
        split <;> rfl
    rw [e3] at ih
    show _ + ((if (pd_old T x).1 = k then (pd_old T x).2.2.1 else 0) + _) = _ + ((if x.1 = k then x.2.2.1 else 0) + _)
    rw [e1, e2]
    by_cases ek : x.1 = k
    · rw [if_pos ek] at ih ⊢
      rw [if_pos ek]
      by_cases g : 1000 ≤ pd_grown T x
      · rw [if_pos g] at ih ⊢; omega
      · rw [if_neg g] at ih ⊢; omega
    · rw [if_neg ek] at ih ⊢
      rw [if_neg ek]
      omega
theorem ps_in_old {T : pv_T} {s : Nat} : ∀ {L : List pv_Lot}, ps_in (L.map (pd_old T)) s ≤ ps_in L s
  | [] => Nat.le_refl _
  | x :: L => by
    have ih := ps_in_old (T := T) (s := s) (L := L)
    rw [List.map_cons, qs_in, qs_cons, qs_in, qs_cons, ← qs_in, ← qs_in]
    show (if x.2.1 = s then (if 1000 ≤ pd_grown T x then 0 else x.2.2.1) else 0) + _ ≤ (if x.2.1 = s then x.2.2.1 else 0) + _
    by_cases e : x.2.1 = s
    · rw [if_pos e, if_pos e]
      split <;> omega
    · rw [if_neg e, if_neg e]
      omega
theorem qkeep_age {s : pv_S} : qkeep s (pd_age s) := by
  refine ⟨fun k _ => ⟨?_, pd_fold_at (by omega)⟩, fun x => ?_⟩
  · have h1 := pd_fold_bal (T := s.1) (k := k) (L := s.2) (A := s.1)
    show s.2.foldl (pd_spoil s.1) s.1 (25 + 5 * k) + s.2.foldl (pd_spoil s.1) s.1 (26 + 5 * k) + s.2.foldl (pd_spoil s.1) s.1 (27 + 5 * k) + ps_of (pl_drop (s.2.map (pd_old s.1))) k = s.1 (25 + 5 * k) + s.1 (26 + 5 * k) + s.1 (27 + 5 * k) + ps_of s.2 k
    rw [qs_of_drop, pd_fold_at (j := 25 + 5 * k) (by omega), pd_fold_at (j := 27 + 5 * k) (by omega)]
    omega
  · show ps_in (pl_drop (s.2.map (pd_old s.1))) x ≤ _
    rw [qs_in_drop]
    exact ps_in_old
theorem qkeep_day {s : pv_S} : qkeep s (pd_day s) := by
  unfold pd_day
  refine qkeep_t (t := pd_hungry (pd_served s)) (qkeep_t (t := (pd_served s).2) (qkeep_items 4) ?_) (qkeep_t (t := pd_age (pd_hungry (pd_served s))) qkeep_age ?_)
  · exact qkeep_T (L := (pd_served s).2.2) fun k w hk hw => by
      show (if 0 < (pd_served s).1 then pt_up (pd_served s).2.1 412 ((pd_served s).2.1 412 + 1) else (pd_served s).2.1) (24 + 5 * k + w) = _
      split
      · exact pt_un (by omega)
      · rfl
  · exact qkeep_T (L := (pd_age (pd_hungry (pd_served s))).2) fun k w hk hw => by
      unfold pd_night
      rw [if_neg (by omega), if_neg (by omega)]
      rfl
theorem qkeep_days {s : pv_S} : ∀ n : Nat, qkeep s (pd_days s n)
  | 0 => qkeep_r s
  | n + 1 => qkeep_t (qkeep_days n) qkeep_day
theorem q_sum8 {T : pv_T} (h8 : T 405 ≤ 8) (hz : ∀ k, T 405 ≤ k → k < 8 → T (26 + 5 * k) = 0) : pt_sum T 2 8 = pn_sum (fun k => T (26 + 5 * k)) (T 405) := by
  unfold pt_sum
  have key : ∀ n, T 405 ≤ n → n ≤ 8 → pn_sum (fun k => T (24 + 2 + 5 * k)) n = pn_sum (fun k => T (26 + 5 * k)) (T 405) := by
    intro n
    induction n with
    | zero => intro h1 _; rw [show T 405 = 0 by omega]
    | succ n ih =>
      intro h1 h2
      by_cases e : T 405 = n + 1
      · rw [e]
      · show pn_sum (fun k => T (24 + 2 + 5 * k)) n + T (24 + 2 + 5 * n) = _
        rw [ih (by omega) (by omega), show 24 + 2 + 5 * n = 26 + 5 * n by omega, hz n (by omega) (by omega), Nat.add_zero]
  exact key 8 h8 (Nat.le_refl _)
theorem qt_pass {T : pv_T} {L : List pv_Lot} {H : List pv_S} {B : List Nat} {d : Nat} (hd : 1 ≤ d ∧ d ≤ 60) : po_pass ((T, L), H, B) (nI d) = (0, nI (pt_sum (pd_days (T, L) d).1 2 8) - nI (pt_sum T 2 8), po_push ((T, L), H, B) (pd_days (T, L) d)) := by
  unfold po_pass
  rw [if_pos ((pu_c (by omega) (by decide) (by decide)).mpr hd), dz_tn (by omega)]
set_option maxRecDepth 100000 in
set_option maxHeartbeats 4000000 in
theorem s_L_pass {Q : pv_Q} {E : pv_E} {off d bc bs : Nat} {J : pv_JT} {I : pv_IT} {T : pv_T} {L : List pv_Lot} {H : List pv_S} {B : List Nat} {n : Nat} {y : Int32} (hD9 : 9 ≤ d) (hW : qW n I ((T, L), H, B)) (hn : n ≤ 29) (hn6 : 6 ≤ n) (hbc : 26 ≤ bc) (hbs : 296 ≤ bs) (h : ∀ (I' : pv_IT) (X' : pv_XS), qW (n + 1) I' X' → Q (.inl (some (.int (nI 1)))) pv_K0 pv_P0 I' J) : pv_X (pv_ZD E Q) (pv_of E off) d bc bs mL_pass 0 [(0, .ref 0), (1, .int y), (2, .ref 365), (3, .ref 366), (4, .ref 367), (5, .ref 368)] [] pv_K0 pv_P0 (I) (J) := by
  obtain ⟨hCA, hw, ⟨r, g, hQD, hQK, hQL, hQM, hQP, hQR⟩, ⟨q4, q11, q3, qm3, qp4⟩, hin, hacc, hq404, hq410⟩ := id hW
  replace hQD : qD I T L.length := hQD
  replace hQK : qK I T := hQK
  replace hQL : qL I L := hQL
  replace hQM : qM I T := hQM
  replace hQP : qP I T r := hQP
  replace hQR : qR (T 407) r g := hQR
  replace q4 : T 405 ≤ 4 := q4
  replace q11 : L.length ≤ 11 := q11
  replace q3 : T 408 ≤ 3 := q3
  replace qm3 : ∀ m, m < T 408 → T (314 + m) ≤ 3 := qm3
  replace qp4 : T 407 ≤ 4 := qp4
  replace hin : qin T L := hin
  replace hacc : qacc T L := hacc
  replace hq404 : T 404 ≤ 20 * (n - 6) := hq404
  replace hq410 : T 410 ≤ 10000 + 2000 * n := hq410
  have hdy : dy (T, L) := hw.1.1
  have htb : tb T := hdy.1
  have hlb : lbs L := hdy.2.1
  have hlo : lo_ok L := hdy.2.2
  have hpw : pw T := htb.2.2.2.2.2.1
  have hkk : ∀ l, l < L.length → (pl_g L l).1 < T 405 := hw.1.2.2.2.2.2.1
  have h31 : L.length ≤ 31 := hlb.1
  have hn8 : T 405 ≤ 8 := htb.2.2.1
  have h10 : T 408 ≤ 10 := htb.2.2.2.2.2.2.2.1
  have hwk : wk (T, L) := ⟨hw.1.2.2.2.2.1, hw.1.2.2.2.2.2.1, hw.1.2.2.2.2.2.2⟩
  refine px_iconst (v := nI 1) dL_pass_0 (by decide) ?_
  refine px_iload_n dL_pass_1 rfl ?_
  refine px_iload_n dL_pass_2 rfl ?_
  refine px_bipush (v := nI 8) dL_pass_3 (by decide) ?_
  refine px_ishr dL_pass_5 ?_
  refine px_iconst (v := nI 4) dL_pass_6 (by decide) ?_
  refine c_L_at dL_pass_7 mlL_30 (by omega) (by omega) (by omega) (Nat.le_of_ble_eq_true rfl) (fun j1 hj1 => ?_)
  have kp : ∀ (off j2 : Nat), j2 < 20 → pv_X (pv_ZD E Q) (pv_of E off) d bc bs mL_pass 36 [(0, .ref 0), (1, .int y), (2, .ref 365), (3, .ref 366), (4, .ref 367), (5, .ref 368), (6, .int (nI (1 + j2))), (7, .int (nI (pn_sum (fun k => T (26 + 5 * k)) (T 405)))), (8, .int (nI (0)))] [] pv_K0 pv_P0 (I) (J) := by
    intro off j2 hj2
    refine px_weak rfl (Nat.le_refl _) (c1 := 6 + ((1 + j2) - 0)) (s1 := 36 + 13 * ((1 + j2) - 0)) (by omega) (by omega) ?_
    have key : ∀ i : Nat, i ≤ 1 + j2 → ∀ (off : Nat) (I1 : pv_IT), qD I1 (pd_days (T, L) (i)).1 (pd_days (T, L) (i)).2.length → qK I1 (pd_days (T, L) (i)).1 → qL I1 (pd_days (T, L) (i)).2 → (∀ j, j < 365 ∨ j = 368 ∨ j = 369 → I1 j = I j) → pv_X (pv_ZD E Q) (pv_of E off) d (6 + ((1 + j2) - (i))) (36 + 13 * ((1 + j2) - (i))) mL_pass 36 [(0, .ref 0), (1, .int y), (2, .ref 365), (3, .ref 366), (4, .ref 367), (5, .ref 368), (6, .int (nI (1 + j2))), (7, .int (nI (pn_sum (fun k => T (26 + 5 * k)) (T 405)))), (8, .int (nI (i)))] [] pv_K0 pv_P0 (I1) (J) := by
      refine pv_up (1 + j2) ?_ ?_
      · intro off I1 hD1 hK1 hL1 hF1
        obtain ⟨hdy1, h404', -⟩ := pd_days_ok hdy (1 + j2)
        obtain ⟨hwk1, hun⟩ := wk_days hdy hwk (1 + j2)
        have hlen1 := pd_days_len hdy (1 + j2)
        replace h404' : (pd_days (T, L) (1 + j2)).1 404 = T 404 + (1 + j2) := h404'
        replace hun : ∀ j, ¬ (24 ≤ j ∧ j < 64) → ¬ (67 ≤ j ∧ j < 70) → j ≠ 404 → j ≠ 412 → (pd_days (T, L) (1 + j2)).1 j = T j := hun
        replace hlen1 : (pd_days (T, L) (1 + j2)).2.length ≤ L.length := hlen1
        have e405 : (pd_days (T, L) (1 + j2)).1 405 = T 405 := hun 405 (by omega) (by omega) (by omega) (by omega)
        have e408 : (pd_days (T, L) (1 + j2)).1 408 = T 408 := hun 408 (by omega) (by omega) (by omega) (by omega)
        have hpo := qt_pass (T := T) (L := L) (H := H) (B := B) (d := 1 + j2) ⟨by omega, by omega⟩
        have hw2 := wx_pass (d := nI (1 + j2)) hw
        rw [hpo] at hw2
        have hCA1 : CA I1 ((T, L), H, B) := CA_far hCA (fun j hj => hF1 j (by omega))
        have hs0 : pt_sum T 2 8 = pn_sum (fun k => T (26 + 5 * k)) (T 405) := q_sum8 hn8 (fun k h1 h2 => hwk.1 k h1 h2 2 (by omega))
        have hs1 : pt_sum (pd_days (T, L) (1 + j2)).1 2 8 = pn_sum (fun k => (pd_days (T, L) (1 + j2)).1 (26 + 5 * k)) ((pd_days (T, L) (1 + j2)).1 405) := q_sum8 (by omega) (fun k h1 h2 => hwk1.1 k h1 h2 2 (by omega))
        rw [hs0, hs1] at hpo
        refine px_bud (bc' := 6) (bs' := 36) (by omega) (by omega) ?_
        refine px_iload dL_pass_36 rfl ?_
        refine px_iload dL_pass_38 rfl ?_
        refine px_icmp_geN (tgt := 58) dL_pass_40 (by decide) (by omega) (by omega) (fun _ => ?_) (fun h0 => absurd h0 (by omega))
        refine px_aload_n dL_pass_58 rfl ?_
        refine px_iload dL_pass_59 rfl ?_
        refine c_X9_pass dL_pass_61 mlL_100 (by omega) hCA1 hw (by omega) (by omega) (by omega) (Nat.le_of_ble_eq_true rfl) (dz_ok hpo fun I2 hCA2 hG2 => ?_)
        have hD2 := qD_of hD1 (hG2 365 (by omega)) (fun _ _ => rfl)
        have hK2 := qK_of (T' := (pd_days (T, L) (1 + j2)).1) hK1 (hG2 366 (by omega)) rfl (by omega) (fun _ _ => rfl)
        refine px_iconst (v := nI 5) dL_pass_64 (by decide) ?_
        refine px_aload_n dL_pass_65 rfl ?_
        refine px_aload_n dL_pass_66 rfl ?_
        refine c_L_sum dL_pass_67 mlL_93 (by omega) hD2 hK2 (by omega) (Nat.le_of_ble_eq_true rfl) ?_
        refine px_iload dL_pass_70 rfl ?_
        refine px_isub dL_pass_72 ?_
        refine px_icmp_ne (tgt := 80) dL_pass_73 (by decide) (fun h9 => absurd rfl h9) (fun _ => ?_)
        refine px_iconst (v := nI 1) dL_pass_76 (by decide) ?_
        refine px_goto (tgt := 81) dL_pass_77 (by decide) ?_
        obtain ⟨hkb, hki⟩ := qkeep_days (s := (T, L)) (1 + j2)
        refine px_zretD dL_pass_81 rfl rfl (Or.inl rfl) (h I2 _ ⟨hCA2, hw2, ⟨r, g, hD2, hK2, qL_of hL1 (hG2 367 (by omega)), qM_of hQM ((hG2 368 (by omega)).trans (hF1 368 (by omega))) h10 (fun m hm => (htb.2.2.2.2.2.2.2.2 m hm).1) (fun i hi => hun i (by omega) (by omega) (by omega) (by omega)), qP_of hQP ((hG2 369 (by omega)).trans (hF1 369 (by omega))) hpw.1 (fun q hq => (hQR.1 q hq).1) (fun i hi => hun i (by omega) (by omega) (by omega) (by omega)), (by show qR ((pd_days (T, L) (1 + j2)).1 407) r g; rw [hun 407 (by omega) (by omega) (by omega) (by omega)]; exact hQR)⟩, ⟨?_, ?_, ?_, ?_, ?_⟩, ?_, ?_, ?_, ?_⟩)
        · show (pd_days (T, L) (1 + j2)).1 405 ≤ 4
          omega
        · show (pd_days (T, L) (1 + j2)).2.length ≤ 11
          omega
        · show (pd_days (T, L) (1 + j2)).1 408 ≤ 3
          omega
        · intro m hm
          replace hm : m < (pd_days (T, L) (1 + j2)).1 408 := hm
          rw [e408] at hm
          show (pd_days (T, L) (1 + j2)).1 (314 + m) ≤ 3
          rw [hun _ (by omega) (by omega) (by omega) (by omega)]; exact qm3 m hm
        · show (pd_days (T, L) (1 + j2)).1 407 ≤ 4
          rw [hun 407 (by omega) (by omega) (by omega) (by omega)]; exact qp4
        · intro s hs
          show ps_in (pd_days (T, L) (1 + j2)).2 s ≤ (pd_days (T, L) (1 + j2)).1 (64 + s)
          rw [hun _ (by omega) (by omega) (by omega) (by omega)]
          exact Nat.le_trans (hki s) (hin s hs)
        · intro k hk
          replace hk : k < (pd_days (T, L) (1 + j2)).1 405 := hk
          rw [e405] at hk
          obtain ⟨h1, h2⟩ := hkb k (by omega)
          have h3 := hacc k hk
          show (pd_days (T, L) (1 + j2)).1 (24 + 5 * k) = (pd_days (T, L) (1 + j2)).1 (25 + 5 * k) + (pd_days (T, L) (1 + j2)).1 (26 + 5 * k) + (pd_days (T, L) (1 + j2)).1 (27 + 5 * k) + ps_of (pd_days (T, L) (1 + j2)).2 k
          replace h1 : (pd_days (T, L) (1 + j2)).1 (25 + 5 * k) + (pd_days (T, L) (1 + j2)).1 (26 + 5 * k) + (pd_days (T, L) (1 + j2)).1 (27 + 5 * k) + ps_of (pd_days (T, L) (1 + j2)).2 k = T (25 + 5 * k) + T (26 + 5 * k) + T (27 + 5 * k) + ps_of L k := h1
          replace h2 : (pd_days (T, L) (1 + j2)).1 (24 + 5 * k) = T (24 + 5 * k) := h2
          omega
        · show (pd_days (T, L) (1 + j2)).1 404 ≤ 20 * (n + 1 - 6)
          omega
        · show (pd_days (T, L) (1 + j2)).1 410 ≤ 10000 + 2000 * (n + 1)
          rw [hun 410 (by omega) (by omega) (by omega) (by omega)]; omega
      · intro i hi K9 off I1 hD1 hK1 hL1 hF1
        obtain ⟨hdy1, h404', -⟩ := pd_days_ok hdy (i)
        obtain ⟨hwk1, hun⟩ := wk_days hdy hwk (i)
        have hlen1 := pd_days_len hdy (i)
        replace h404' : (pd_days (T, L) (i)).1 404 = T 404 + (i) := h404'
        replace hun : ∀ j, ¬ (24 ≤ j ∧ j < 64) → ¬ (67 ≤ j ∧ j < 70) → j ≠ 404 → j ≠ 412 → (pd_days (T, L) (i)).1 j = T j := hun
        replace hlen1 : (pd_days (T, L) (i)).2.length ≤ L.length := hlen1
        have e405 : (pd_days (T, L) (i)).1 405 = T 405 := hun 405 (by omega) (by omega) (by omega) (by omega)
        have e408 : (pd_days (T, L) (i)).1 408 = T 408 := hun 408 (by omega) (by omega) (by omega) (by omega)
        refine px_bud (bc' := 1 + (6 + ((1 + j2) - (i + 1)))) (bs' := 13 + (36 + 13 * ((1 + j2) - (i + 1)))) (by omega) (by omega) ?_
        refine px_iload dL_pass_36 rfl ?_
        refine px_iload dL_pass_38 rfl ?_
        refine px_icmp_geN (tgt := 58) dL_pass_40 (by decide) (by omega) (by omega) (fun h0 => absurd h0 (by omega)) (fun _ => ?_)
        refine px_aload_n dL_pass_43 rfl ?_
        refine px_aload_n dL_pass_44 rfl ?_
        refine px_aload dL_pass_45 rfl ?_
        refine px_aload dL_pass_47 rfl ?_
        refine c_L_day dL_pass_49 mlL_96 (by omega) rfl rfl hD1 hK1 hL1 (qM_of (T := T) hQM (hF1 368 (by omega)) h10 (fun m hm => (htb.2.2.2.2.2.2.2.2 m hm).1) (fun i hi => hun i (by omega) (by omega) (by omega) (by omega))) hdy1 ⟨by omega, by omega, by omega, (fun m hm => by rw [e408] at hm; rw [hun _ (by omega) (by omega) (by omega) (by omega)]; exact qm3 m hm), (by rw [hun 407 (by omega) (by omega) (by omega) (by omega)]; exact qp4)⟩ hwk1.2.2 hwk1.2.1 (by omega) (Nat.le_of_ble_eq_true rfl) (fun I2 hD2 hK2 hL2 hF2 off2 => ?_)
        refine px_iincN (c := 1) (by decide) dL_pass_52 rfl (by decide) ?_
        refine px_goto (tgt := 36) dL_pass_55 (by decide) ?_
        refine px_keep [0, 1, 2, 3, 4, 5, 6, 7, 8] ?_
        exact K9 off2 I2 hD2 hK2 hL2 (fun j hj => (hF2 j hj).trans (hF1 j hj))
    exact key 0 (by omega) off I hQD hQK hQL (fun _ _ => rfl)
  refine px_if_neN (tgt := 18) dL_pass_10 (by decide) (by omega) (fun h4 => ?_) (fun h4 => ?_)
  · refine px_iconst (v := nI 4) dL_pass_18 (by decide) ?_
    refine c_L_at dL_pass_19 mlL_30 (by omega) (by omega) (by omega) (Nat.le_of_ble_eq_true rfl) (fun j2 hj2 => ?_)
    refine px_iaddN dL_pass_22 ?_
    refine px_istore dL_pass_23 (by decide) ?_
    refine px_iconst (v := nI 5) dL_pass_25 (by decide) ?_
    refine px_aload_n dL_pass_26 rfl ?_
    refine px_aload_n dL_pass_27 rfl ?_
    refine c_L_sum dL_pass_28 mlL_93 (by omega) hQD hQK q4 (Nat.le_of_ble_eq_true rfl) ?_
    refine px_istore dL_pass_31 (by decide) ?_
    refine px_iconst (v := nI 0) dL_pass_33 (by decide) ?_
    refine px_istore dL_pass_34 (by decide) ?_
    exact kp off j2 (by omega)
  · refine px_bipush (v := nI 20) dL_pass_13 (by decide) ?_
    refine px_goto (tgt := 19) dL_pass_15 (by decide) ?_
    refine c_L_at dL_pass_19 mlL_30 (by omega) (by omega) (by omega) (Nat.le_of_ble_eq_true rfl) (fun j2 hj2 => ?_)
    refine px_iaddN dL_pass_22 ?_
    refine px_istore dL_pass_23 (by decide) ?_
    refine px_iconst (v := nI 5) dL_pass_25 (by decide) ?_
    refine px_aload_n dL_pass_26 rfl ?_
    refine px_aload_n dL_pass_27 rfl ?_
    refine c_L_sum dL_pass_28 mlL_93 (by omega) hQD hQK q4 (Nat.le_of_ble_eq_true rfl) ?_
    refine px_istore dL_pass_31 (by decide) ?_
    refine px_iconst (v := nI 0) dL_pass_33 (by decide) ?_
    refine px_istore dL_pass_34 (by decide) ?_
    exact kp off j2 (by omega)
theorem c_L_pass {z : pv_Z} {E : pv_E} {off d bc bs : Nat} {J : pv_JT} {I : pv_IT} {mi : pv_MI} {pc idx : Nat} {lv : pv_LV} {st : List Value} {T : pv_T} {L : List pv_Lot} {H : List pv_S} {B : List Nat} {n : Nat} {y : Int32} (hd : decode mi.2.1 pc = .ok (.invokestatic idx, 3)) (hlk : Cond.methodLink mi.1.cls idx mL_pass.1 ∈ pv_W) (hD9 : 9 + 1 ≤ d) (hlv : lv.all (fun q => pv_nr q.2) = true) (hst : st.all pv_nr = true) (hW : qW n I ((T, L), H, B)) (hn : n ≤ 29) (hn6 : 6 ≤ n) (hcat : (st.map fun v => v.category).sum ≤ 8) (K : ∀ (I' : pv_IT) (X' : pv_XS), qW (n + 1) I' X' → ∀ off1 : Nat, pv_X z (pv_of E off1) d bc bs mi (pc + 3) lv (.int (nI 1) :: st) pv_K0 pv_P0 I' J) : pv_X z (pv_of E off) d (26 + bc) (296 + bs) mi pc lv (.ref 368 :: .ref 367 :: .ref 366 :: .ref 365 :: .int y :: .ref 0 :: st) pv_K0 pv_P0 I J := by
  obtain ⟨d, rfl⟩ : ∃ d0, d = d0 + 1 := ⟨d - 1, by omega⟩
  exact px_callSD (bc1 := 26) (bs1 := 296) (as := [.ref 0, .int y, .ref 365, .ref 366, .ref 367, .ref 368]) hd msL_pass hlk rfl rfl hcat (by exact Nat.le_of_ble_eq_true rfl) hlv hst (s_L_pass (by omega) hW hn hn6 (Nat.le_refl _) (Nat.le_refl _) K)
