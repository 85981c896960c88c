/-! A day, as numbers: the reference's way is the same. -/
theorem pn_sum_one {f g : Nat → Nat} {b c : Nat} : ∀ {n : Nat}, b < n → f b = g b + c → (∀ i, i ≠ b → f i = g i) → pn_sum f n = pn_sum g n + c
  | 0, h, _, _ => absurd h (Nat.not_lt_zero _)
  | n + 1, h, h1, h2 => by
    unfold pn_sum
    by_cases e : b = n
    · subst e
      rw [pn_sum_congr (fun i hi => h2 i (by omega)), h1]
      omega
    · rw [pn_sum_one (by omega) h1 h2, h2 n (fun z => e z.symm)]
      omega
theorem pn_sum_ge {f : Nat → Nat} {b : Nat} : ∀ {n : Nat}, b < n → f b ≤ pn_sum f n
  | 0, h => absurd h (Nat.not_lt_zero _)
  | n + 1, h => by
    unfold pn_sum
    by_cases e : b = n
    · subst e; omega
    · have := pn_sum_ge (f := f) (b := b) (n := n) (by omega)
      omega
def pe_cnt (k : Nat) (L : List pv_Lot) : Nat := pn_sum (fun l => if (pl_g L l).1 = k ∧ 0 < (pl_g L l).2.2.1 then 1 else 0) L.length
theorem pe_cnt_le {k : Nat} {L : List pv_Lot} : pe_cnt k L ≤ L.length := by
  have := pn_sum_le (f := fun l => if (pl_g L l).1 = k ∧ 0 < (pl_g L l).2.2.1 then 1 else 0) (c := 1) (n := L.length) (fun i _ => by show (if _ then 1 else 0) ≤ 1; split <;> omega)
  unfold pe_cnt
  omega
theorem pe_cnt_none {D : Nat → Nat} {k : Nat} {L : List pv_Lot} (h : pe_cnt k L = 0) : pe_next D k L L.length = none := by
  cases e : pe_next D k L L.length with
  | none => rfl
  | some b =>
    have hb := pe_next_is e
    have := pn_sum_ge (f := fun l => if (pl_g L l).1 = k ∧ 0 < (pl_g L l).2.2.1 then 1 else 0) hb.1
    unfold pe_cnt at h
    rw [h] at this
    replace this : (if (pl_g L b).1 = k ∧ 0 < (pl_g L b).2.2.1 then 1 else 0) ≤ 0 := this
    rw [if_pos hb.2] at this
    omega
theorem pe_cnt_zero {k b : Nat} {L : List pv_Lot} (hb : b < L.length) (h : (pl_g L b).1 = k ∧ 0 < (pl_g L b).2.2.1) : pe_cnt k L = pe_cnt k (pl_amt L b 0) + 1 := by
  unfold pe_cnt
  rw [pl_amt_len]
  refine pn_sum_one hb ?_ fun i hi => ?_
  · show (if _ then 1 else 0) = (if _ then 1 else 0) + 1
    rw [if_pos h, if_neg]
    unfold pl_amt
    rw [pl_g_set hb, if_pos rfl]
    exact fun z => absurd z.2 (Nat.lt_irrefl 0)
  · show (if (pl_g L i).1 = k ∧ 0 < (pl_g L i).2.2.1 then 1 else 0) = (if (pl_g (pl_amt L b 0) i).1 = k ∧ 0 < (pl_g (pl_amt L b 0) i).2.2.1 then 1 else 0)
    unfold pl_amt
    rw [pl_g_set hb, if_neg hi]
theorem pd_items_stop {D : Nat → Nat} {m : Nat} {s : pv_S} (hm : m < s.1 408) (hb : tb s.1) (h : lbs s.2) : ∀ j, pd_items D m s (s.1 (314 + m) + j) = pd_items D m s (s.1 (314 + m))
  | 0 => rfl
  | j + 1 => by
    have ih := pd_items_stop (D := D) hm hb h j
    have hl := (pd_items_like (D := D) hm hb h (s.1 (314 + m) + j)).1.1 (314 + m) (by omega)
    show ((pd_items D m s (s.1 (314 + m) + j)).1 + (pd_item D m (s.1 (314 + m) + j) (pd_items D m s (s.1 (314 + m) + j)).2).1, (pd_item D m (s.1 (314 + m) + j) (pd_items D m s (s.1 (314 + m) + j)).2).2) = _
    have e : pd_item D m (s.1 (314 + m) + j) (pd_items D m s (s.1 (314 + m) + j)).2 = (0, (pd_items D m s (s.1 (314 + m) + j)).2) := by
      unfold pd_item
      rw [if_neg (by rw [hl]; omega)]
    rw [e, ih]
    rfl
theorem pd_fold_drop {T : pv_T} : ∀ {L : List pv_Lot} {A : pv_T}, (pl_drop L).foldl (pd_spoil T) A = L.foldl (pd_spoil T) A
  | [], A => rfl
  | x :: L, A => by
    unfold pl_drop
    by_cases h : pl_pos x = true
    · rw [List.filter_cons_of_pos h, List.foldl_cons, List.foldl_cons]
      exact pd_fold_drop
    · rw [List.filter_cons_of_neg h, List.foldl_cons]
      have e : pd_spoil T A x = A := by
        have h0 : x.2.2.1 = 0 := by
          unfold pl_pos at h
          rw [Nat.blt_eq] at h
          omega
        unfold pd_spoil
        split
        · rw [h0]
          funext j
          unfold pt_up
          split
          · rename_i e; rw [e]; rfl
          · rfl
        · rfl
      rw [e]
      exact pd_fold_drop
theorem pl_drop_old {T : pv_T} : ∀ {L : List pv_Lot}, pl_drop ((pl_drop L).map (pd_old T)) = pl_drop (L.map (pd_old T))
  | [] => rfl
  | x :: L => by
    have ih := pl_drop_old (T := T) (L := L)
    unfold pl_drop at ih ⊢
    by_cases h : pl_pos x = true
    · rw [List.filter_cons_of_pos h, List.map_cons, List.map_cons]
      by_cases h2 : pl_pos (pd_old T x) = true
      · rw [List.filter_cons_of_pos h2, List.filter_cons_of_pos h2, ih]
      · rw [List.filter_cons_of_neg h2, List.filter_cons_of_neg h2, ih]
    · rw [List.filter_cons_of_neg h, List.map_cons]
      have h2 : ¬ pl_pos (pd_old T x) = true := by
        unfold pl_pos at h ⊢
        rw [Nat.blt_eq] at h ⊢
        show ¬ 0 < (if 1000 ≤ pd_grown T x then 0 else x.2.2.1)
        split <;> omega
      rw [List.filter_cons_of_neg h2, ih]
theorem pd_age_drop {T : pv_T} {L : List pv_Lot} : pd_age (T, pl_drop L) = pd_age (T, L) := by
  unfold pd_age
  rw [show ((T, pl_drop L) : pv_S).2 = pl_drop L from rfl, show ((T, pl_drop L) : pv_S).1 = T from rfl, pd_fold_drop, pl_drop_old]
