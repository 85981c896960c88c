/-! A day, as numbers: what stays in its bounds. -/
theorem pe_eat_g {D : Nat → Nat} {k : Nat} : ∀ {f a : Nat} {L : List pv_Lot} (l : Nat), (pl_g (pe_eat D k f a L).2 l).1 = (pl_g L l).1 ∧ (pl_g (pe_eat D k f a L).2 l).2.1 = (pl_g L l).2.1 ∧ (pl_g (pe_eat D k f a L).2 l).2.2.2 = (pl_g L l).2.2.2
  | 0, a, L, l => ⟨rfl, rfl, rfl⟩
  | f + 1, a, L, l => by
    by_cases e : a = 0
    · subst e
      rw [pe_eat0]
      exact ⟨rfl, rfl, rfl⟩
    · cases e2 : pe_next D k L L.length with
      | none => rw [pe_eat_none e2]; exact ⟨rfl, rfl, rfl⟩
      | some b =>
        rw [pe_eat_some e2 (by omega)]
        have hb := (pe_next_is e2).1
        have h3 := pe_eat_g (D := D) (k := k) (f := f) (a := a - min a (pl_g L b).2.2.1) (L := pl_amt L b ((pl_g L b).2.2.1 - min a (pl_g L b).2.2.1)) l
        have h4 : (pl_g (pl_amt L b ((pl_g L b).2.2.1 - min a (pl_g L b).2.2.1)) l).1 = (pl_g L l).1 ∧ (pl_g (pl_amt L b ((pl_g L b).2.2.1 - min a (pl_g L b).2.2.1)) l).2.1 = (pl_g L l).2.1 ∧ (pl_g (pl_amt L b ((pl_g L b).2.2.1 - min a (pl_g L b).2.2.1)) l).2.2.2 = (pl_g L l).2.2.2 := by
          unfold pl_amt
          rw [pl_g_set hb]
          by_cases e3 : l = b
          · rw [if_pos e3, e3]; exact ⟨rfl, rfl, rfl⟩
          · rw [if_neg e3]; exact ⟨rfl, rfl, rfl⟩
        exact ⟨h3.1.trans h4.1, h3.2.1.trans h4.2.1, h3.2.2.trans h4.2.2⟩
/-- what a part of a day leaves as it was: all but the accounts and the lots' amounts -/
def pd_like (s t : pv_S) : Prop := (∀ i, ¬ (24 ≤ i ∧ i < 64) → t.1 i = s.1 i) ∧ t.2.length = s.2.length ∧ (∀ l, (pl_g t.2 l).1 = (pl_g s.2 l).1 ∧ (pl_g t.2 l).2.1 = (pl_g s.2 l).2.1 ∧ (pl_g t.2 l).2.2.2 = (pl_g s.2 l).2.2.2)
theorem pd_like_r (s : pv_S) : pd_like s s := ⟨fun _ _ => rfl, rfl, fun _ => ⟨rfl, rfl, rfl⟩⟩
theorem pd_like_t {s t u : pv_S} (h : pd_like s t) (g : pd_like t u) : pd_like s u :=
  ⟨fun i hi => (g.1 i hi).trans (h.1 i hi), g.2.1.trans h.2.1, fun l => ⟨(g.2.2 l).1.trans (h.2.2 l).1, (g.2.2 l).2.1.trans (h.2.2 l).2.1, (g.2.2 l).2.2.trans (h.2.2 l).2.2⟩⟩
theorem pd_eat_like {D : Nat → Nat} {k a : Nat} {s : pv_S} (hk : k < 8) (h : lbs s.2) : pd_like s (pd_eat D k a s).2 ∧ lbs (pd_eat D k a s).2.2 ∧ (pd_eat D k a s).1 ≤ a := by
  have h1 := pe_eat_ok (D := D) (k := k) (f := s.2.length) (a := a) h
  exact ⟨⟨fun i hi => pt_un (by omega), h1.2.2, fun l => pe_eat_g l⟩, h1.1, h1.2.1⟩
theorem pd_meal_like {D : Nat → Nat} {k a b : Nat} {s : pv_S} (hk : k < 8) (hb : b = 4294967295 ∨ b < 8) (h : lbs s.2) : pd_like s (pd_meal D k a b s).2 ∧ lbs (pd_meal D k a b s).2.2 ∧ (pd_meal D k a b s).1 ≤ a := by
  have h1 := pd_eat_like (D := D) (a := a) hk h
  unfold pd_meal
  by_cases e : b = 4294967295
  · rw [if_pos e]; exact h1
  · rw [if_neg e]
    have h2 := pd_eat_like (D := D) (k := b) (a := (pd_eat D k a s).1) (by omega) h1.2.1
    exact ⟨pd_like_t h1.1 h2.1, h2.2.1, Nat.le_trans h2.2.2 h1.2.2⟩
theorem pd_item_like {D : Nat → Nat} {m i : Nat} {s : pv_S} (hm : m < s.1 408) (hb : tb s.1) (h : lbs s.2) : pd_like s (pd_item D m i s).2 ∧ lbs (pd_item D m i s).2.2 ∧ (pd_item D m i s).1 ≤ 900 := by
  unfold pd_item
  by_cases e : i < s.1 (314 + m)
  · rw [if_pos e]
    have h3 := (hb.2.2.2.2.2.2.2.2 m hm).2 i e
    have h4 := pd_meal_like (D := D) (a := s.1 (195 + 12 * m + 3 * i) * s.1 409) (s := s) h3.1 h3.2.2.2 h
    have h5 := Nat.mul_le_mul h3.2.2.1 hb.2.2.2.1.2
    exact ⟨⟨fun j hj => (pt_un (by have := h3.1; omega)).trans (h4.1.1 j hj), h4.1.2.1, h4.1.2.2⟩, h4.2.1, Nat.le_trans h4.2.2 h5⟩
  · rw [if_neg e]
    exact ⟨pd_like_r s, h, Nat.zero_le _⟩
theorem tb_like {s t : pv_S} (h : pd_like s t) (hb : tb s.1) : tb t.1 := tb_of hb fun i hi _ _ _ _ => h.1 i hi
theorem pd_items_like {D : Nat → Nat} {m : Nat} {s : pv_S} (hm : m < s.1 408) (hb : tb s.1) (h : lbs s.2) : ∀ i : Nat, pd_like s (pd_items D m s i).2 ∧ lbs (pd_items D m s i).2.2 ∧ (pd_items D m s i).1 ≤ 900 * i
  | 0 => ⟨pd_like_r s, h, Nat.zero_le _⟩
  | i + 1 => by
    have h1 := pd_items_like (D := D) hm hb h i
    have h2 := pd_item_like (D := D) (m := m) (i := i) (s := (pd_items D m s i).2) (by rw [h1.1.1 408 (by omega)]; exact hm) (tb_like h1.1 hb) h1.2.1
    refine ⟨pd_like_t h1.1 h2.1, h2.2.1, ?_⟩
    have h3 := h2.2.2
    have h4 := h1.2.2
    show (pd_items D m s i).1 + (pd_item D m i (pd_items D m s i).2).1 ≤ 900 * (i + 1)
    omega
/-- what is short grows, and by no more than what is lacking -/
theorem pd_item_short {D : Nat → Nat} {m i k : Nat} {s : pv_S} (hm : m < s.1 408) (hb : tb s.1) (hk : k < 8) : s.1 (28 + 5 * k) ≤ (pd_item D m i s).2.1 (28 + 5 * k) ∧ (pd_item D m i s).2.1 (28 + 5 * k) ≤ s.1 (28 + 5 * k) + (pd_item D m i s).1 := by
  unfold pd_item
  by_cases e : i < s.1 (314 + m)
  · rw [if_pos e]
    have e2 : ∀ kk a (u : pv_S), (pd_eat D kk a u).2.1 (28 + 5 * k) = u.1 (28 + 5 * k) := fun kk a u => pt_un (by omega)
    have e3 : (pd_meal D (s.1 (194 + 12 * m + 3 * i)) (s.1 (195 + 12 * m + 3 * i) * s.1 409) (s.1 (196 + 12 * m + 3 * i)) s).2.1 (28 + 5 * k) = s.1 (28 + 5 * k) := by
      unfold pd_meal
      split
      · exact e2 _ _ _
      · exact (e2 _ _ _).trans (e2 _ _ _)
    unfold pd_lack
    show _ ≤ pt_up _ _ _ _ ∧ pt_up _ _ _ _ ≤ _ + _
    rw [pt_at]
    split
    · rename_i e4
      rw [← e4, e3]
      omega
    · rw [e3]; omega
  · rw [if_neg e]
    exact ⟨Nat.le_refl _, Nat.le_refl _⟩
theorem pd_items_short {D : Nat → Nat} {m k : Nat} {s : pv_S} (hm : m < s.1 408) (hb : tb s.1) (h : lbs s.2) (hk : k < 8) : ∀ i : Nat, s.1 (28 + 5 * k) ≤ (pd_items D m s i).2.1 (28 + 5 * k) ∧ (pd_items D m s i).2.1 (28 + 5 * k) ≤ s.1 (28 + 5 * k) + (pd_items D m s i).1
  | 0 => ⟨Nat.le_refl _, Nat.le_refl _⟩
  | i + 1 => by
    have h1 := pd_items_like (D := D) hm hb h i
    have h0 := pd_items_short (D := D) hm hb h hk i
    have h2 := pd_item_short (D := D) (m := m) (i := i) (s := (pd_items D m s i).2) (by rw [h1.1.1 408 (by omega)]; exact hm) (tb_like h1.1 hb) hk
    have e1 : (pd_items D m s (i + 1)).2 = (pd_item D m i (pd_items D m s i).2).2 := rfl
    have e2 : (pd_items D m s (i + 1)).1 = (pd_items D m s i).1 + (pd_item D m i (pd_items D m s i).2).1 := rfl
    rw [e1, e2]
    omega
-- ageing
def pd_mix (T : pv_T) (L : List pv_Lot) (i : Nat) : List pv_Lot := (L.take i).map (pd_old T) ++ L.drop i
theorem pd_mix_len {T : pv_T} {L : List pv_Lot} {i : Nat} (h : i ≤ L.length) : (pd_mix T L i).length = L.length := by
  unfold pd_mix
  rw [List.length_append, List.length_map, List.length_take, List.length_drop]
  omega
theorem pd_mix0 {T : pv_T} {L : List pv_Lot} : pd_mix T L 0 = L := rfl
theorem pd_mixN {T : pv_T} {L : List pv_Lot} : pd_mix T L L.length = L.map (pd_old T) := by
  unfold pd_mix
  rw [List.take_length, List.drop_length, List.append_nil]
theorem pd_mix_g {T : pv_T} {L : List pv_Lot} {i l : Nat} (h : i ≤ L.length) (hl : l < L.length) : pl_g (pd_mix T L i) l = if l < i then pd_old T (pl_g L l) else pl_g L l := by
  unfold pd_mix pl_g
  rw [List.getD_eq_getElem?_getD, List.getD_eq_getElem?_getD]
  by_cases e : l < i
  · rw [if_pos e, List.getElem?_append_left (by rw [List.length_map, List.length_take]; omega), List.getElem?_map, List.getElem?_take, if_pos e, List.getElem?_eq_getElem hl]
    rfl
  · rw [if_neg e, List.getElem?_append_right (by rw [List.length_map, List.length_take]; omega), List.getElem?_drop, List.length_map, List.length_take]
    rw [show i + (l - min i L.length) = l by omega]
theorem pd_spoil_out {T A : pv_T} {x : pv_Lot} {i : Nat} (hx : x.1 < 8) (hi : ¬ (24 ≤ i ∧ i < 64)) : pd_spoil T A x i = A i := by
  unfold pd_spoil
  split
  · exact pt_un (by omega)
  · rfl
theorem pd_fold_out {T : pv_T} : ∀ {L : List pv_Lot} {A : pv_T} {i : Nat}, (∀ x ∈ L, x.1 < 8) → ¬ (24 ≤ i ∧ i < 64) → L.foldl (pd_spoil T) A i = A i
  | [], A, i, _, _ => rfl
  | x :: L, A, i, h, hi => by
    rw [List.foldl_cons, pd_fold_out (fun y hy => h y (List.mem_cons_of_mem _ hy)) hi, pd_spoil_out (h x List.mem_cons_self) hi]
theorem pd_fold_short {T : pv_T} {k : Nat} : ∀ {L : List pv_Lot} {A : pv_T}, L.foldl (pd_spoil T) A (28 + 5 * k) = A (28 + 5 * k)
  | [], A => rfl
  | x :: L, A => by
    rw [List.foldl_cons, pd_fold_short]
    unfold pd_spoil
    split
    · exact pt_un (by omega)
    · rfl
def pd_foldT (T : pv_T) (L : List pv_Lot) (i : Nat) : pv_T := (L.take i).foldl (pd_spoil T) T
theorem pd_foldT1 {T : pv_T} {L : List pv_Lot} {i : Nat} (h : i < L.length) : pd_foldT T L (i + 1) = pd_spoil T (pd_foldT T L i) (pl_g L i) := by
  unfold pd_foldT
  rw [pl_take h, List.foldl_append]
  rfl
theorem pd_foldT_out {T : pv_T} {L : List pv_Lot} {i j : Nat} (h : lbs L) (hj : ¬ (24 ≤ j ∧ j < 64)) : pd_foldT T L i j = T j :=
  pd_fold_out (fun x hx => ((lbs_mem.mp h).2 x (List.mem_of_mem_take hx)).1) hj
theorem pt_now_of {T T' : pv_T} {k s : Nat} (h : ∀ j, ¬ (24 ≤ j ∧ j < 64) → T' j = T j) (hk : k < 8) (hs : s < 3) : pt_now T' k s = pt_now T k s := by
  unfold pt_now
  rw [h (67 + s) (by omega), h (k * 3 + 0) (by omega), h (k * 3 + s) (by omega)]
theorem pd_age_ok {s : pv_S} (h : lbs s.2) (hag : ∀ l, l < s.2.length → (pl_g s.2 l).2.2.2 < 1000) : lbs (pd_age s).2 ∧ lo_ok (pd_age s).2 ∧ (∀ i, ¬ (24 ≤ i ∧ i < 64) → (pd_age s).1 i = s.1 i) := by
  have hm := lbs_mem.mp h
  have h1 : lbs (s.2.map (pd_old s.1)) := by
    rw [lbs_mem]
    refine ⟨by rw [List.length_map]; exact hm.1, fun y hy => ?_⟩
    obtain ⟨x, hx, rfl⟩ := List.mem_map.mp hy
    obtain ⟨l, hl, e⟩ := pl_mem_g hx
    have h2 := hm.2 x hx
    have h3 := hag l hl
    rw [e] at h3
    have h4 := @pt_step_le (pt_now s.1 x.1 x.2.1)
    refine ⟨h2.1, h2.2.1, ?_, ?_⟩
    · show (if 1000 ≤ pd_grown s.1 x then 0 else x.2.2.1) ≤ 2000
      have := h2.2.2.1
      split <;> omega
    · show pd_grown s.1 x ≤ 2000
      unfold pd_grown
      omega
  refine ⟨lbs_drop h1, fun l hl => ?_, fun i hi => pd_fold_out (fun x hx => (hm.2 x hx).1) hi⟩
  have h5 := pl_g_mem hl
  obtain ⟨h6, h7⟩ := List.mem_filter.mp h5
  obtain ⟨x, hx, e⟩ := List.mem_map.mp h6
  have h8 : 0 < (pl_g (pd_age s).2 l).2.2.1 := Nat.blt_eq.mp h7
  refine ⟨h8, ?_⟩
  have h9 : pd_old s.1 x = pl_g (pd_age s).2 l := e
  rw [← h9] at h8 ⊢
  replace h8 : 0 < (if 1000 ≤ pd_grown s.1 x then 0 else x.2.2.1) := h8
  show pd_grown s.1 x < 1000
  by_cases e3 : 1000 ≤ pd_grown s.1 x
  · rw [if_pos e3] at h8; omega
  · omega
theorem tb_night {T : pv_T} (h : tb T) : tb (pd_night T) := by
  have e : ∀ i, i ≠ 404 → ¬ (67 ≤ i ∧ i < 70) → pd_night T i = T i := fun i h1 h2 => by unfold pd_night; rw [if_neg h1, if_neg h2]
  obtain ⟨h1, h2, h3, h4, h5, ⟨p1, p2, p3⟩, m1, m2, m3⟩ := h
  refine ⟨fun i hi => ?_, fun s hs => ?_, ?_, ?_, ?_, ⟨?_, fun p hp => ?_, fun a b hab hbn => ?_⟩, ?_, ?_, fun m hm => ?_⟩
  · rw [e i (by omega) (by omega)]; exact h1 i hi
  · rw [e (64 + s) (by omega) (by omega)]
    refine ⟨(h2 s hs).1, ?_⟩
    unfold pd_night
    rw [if_neg (by omega), if_pos (by omega)]
    have := (h2 s hs).2
    omega
  · rw [e 405 (by omega) (by omega)]; exact h3
  · rw [e 409 (by omega) (by omega)]; exact h4
  · rw [e 410 (by omega) (by omega)]; exact h5
  · rw [e 407 (by omega) (by omega)]; exact p1
  · rw [e 407 (by omega) (by omega)] at hp
    have h9 := p2 p hp
    rw [e (324 + 10 * p) (by omega) (by omega), e (325 + 10 * p) (by omega) (by omega)]
    refine ⟨h9.1, h9.2.1, fun k hk => ?_⟩
    rw [e (326 + 10 * p + k) (by omega) (by omega)]
    exact h9.2.2 k hk
  · rw [e 407 (by omega) (by omega)] at hbn
    rw [e (324 + 10 * a) (by omega) (by omega), e (324 + 10 * b) (by omega) (by omega)]
    exact p3 a b hab hbn
  · rw [e 408 (by omega) (by omega)]; exact m1
  · rw [e 408 (by omega) (by omega)]; exact m2
  · rw [e 408 (by omega) (by omega)] at hm
    have h9 := m3 m hm
    rw [e (314 + m) (by omega) (by omega)]
    refine ⟨h9.1, fun i hi => ?_⟩
    rw [e (194 + 12 * m + 3 * i) (by omega) (by omega), e (195 + 12 * m + 3 * i) (by omega) (by omega), e (196 + 12 * m + 3 * i) (by omega) (by omega)]
    exact h9.2 i hi
/-- a state in the morning -/
def dy (s : pv_S) : Prop := tb s.1 ∧ lbs s.2 ∧ lo_ok s.2
theorem pd_menu_lt {s : pv_S} (h : dy s) : s.1 404 % s.1 408 < s.1 408 := Nat.mod_lt _ h.1.2.2.2.2.2.2.1
theorem pd_served_ok {s : pv_S} (h : dy s) : pd_like s (pd_served s).2 ∧ lbs (pd_served s).2.2 ∧ (pd_served s).1 ≤ 3600 := pd_items_like (pd_menu_lt h) h.1 h.2.1 4
theorem pd_hungry_out {r : Nat × pv_S} {i : Nat} (h : i ≠ 412) : (pd_hungry r).1 i = r.2.1 i := by
  unfold pd_hungry
  show (if 0 < r.1 then pt_up r.2.1 412 (r.2.1 412 + 1) else r.2.1) i = _
  split
  · exact pt_un h
  · rfl
theorem tb_hungry {s : pv_S} (h : dy s) : tb (pd_hungry (pd_served s)).1 :=
  tb_of (tb_like (pd_served_ok h).1 h.1) fun i _ _ _ h4 _ => pd_hungry_out h4
theorem pd_day_ok {s : pv_S} (h : dy s) : dy (pd_day s) ∧ (pd_day s).1 404 = s.1 404 + 1 ∧ (∀ k, k < 8 → s.1 (28 + 5 * k) ≤ (pd_day s).1 (28 + 5 * k) ∧ (pd_day s).1 (28 + 5 * k) ≤ s.1 (28 + 5 * k) + 3600) := by
  have h1 := pd_served_ok h
  have h2 : ∀ l, l < (pd_hungry (pd_served s)).2.length → (pl_g (pd_hungry (pd_served s)).2 l).2.2.2 < 1000 := fun l hl => by
    rw [show (pl_g (pd_hungry (pd_served s)).2 l).2.2.2 = (pl_g s.2 l).2.2.2 from (h1.1.2.2 l).2.2]
    refine (h.2.2 l ?_).2
    rw [← h1.1.2.1]
    exact hl
  have h3 := pd_age_ok (s := pd_hungry (pd_served s)) h1.2.1 h2
  refine ⟨⟨tb_night (tb_of (tb_hungry h) fun i hi _ _ _ _ => h3.2.2 i hi), h3.1, h3.2.1⟩, ?_, fun k hk => ?_⟩
  · show pd_night (pd_age (pd_hungry (pd_served s))).1 404 = _
    unfold pd_night
    rw [if_pos rfl, h3.2.2 404 (by omega), pd_hungry_out (by omega), h1.1.1 404 (by omega)]
  · have e : (pd_day s).1 (28 + 5 * k) = (pd_served s).2.1 (28 + 5 * k) := by
      show pd_night (pd_age (pd_hungry (pd_served s))).1 (28 + 5 * k) = _
      unfold pd_night
      rw [if_neg (by omega), if_neg (by omega)]
      exact pd_fold_short.trans (pd_hungry_out (by omega))
    rw [e]
    have h5 := pd_items_short (D := pd_mornings s) (pd_menu_lt h) h.1 h.2.1 hk 4
    have h6 := h1.2.2
    unfold pd_served at h6 ⊢
    omega
theorem pd_days_ok {s : pv_S} (h : dy s) : ∀ n : Nat, dy (pd_days s n) ∧ (pd_days s n).1 404 = s.1 404 + n ∧ (∀ k, k < 8 → s.1 (28 + 5 * k) ≤ (pd_days s n).1 (28 + 5 * k) ∧ (pd_days s n).1 (28 + 5 * k) ≤ s.1 (28 + 5 * k) + 3600 * n)
  | 0 => ⟨h, rfl, fun _ _ => ⟨Nat.le_refl _, Nat.le_refl _⟩⟩
  | n + 1 => by
    have h1 := pd_days_ok h n
    have h2 := pd_day_ok h1.1
    refine ⟨h2.1, ?_, fun k hk => ?_⟩
    · have e := h2.2.1
      have e2 := h1.2.1
      show (pd_day (pd_days s n)).1 404 = _
      omega
    · have e := h2.2.2 k hk
      have e2 := h1.2.2 k hk
      show _ ≤ (pd_day (pd_days s n)).1 (28 + 5 * k) ∧ (pd_day (pd_days s n)).1 (28 + 5 * k) ≤ _
      omega
def pt_short (s : pv_S) (k n : Nat) : Option Nat := pf_first (fun j => !(Nat.beq ((pd_days s (j + 1)).1 (28 + 5 * k)) (s.1 (28 + 5 * k)))) n
