/-- kinds that there are: lots and menus name no others, the others' accounts are empty -/
def wk (s : pv_S) : Prop := (∀ k, s.1 405 ≤ k → k < 8 → ∀ w, w < 5 → s.1 (24 + w + 5 * k) = 0) ∧ (∀ l, l < s.2.length → (pl_g s.2 l).1 < s.1 405) ∧ (∀ m, m < s.1 408 → ∀ i, i < s.1 (314 + m) → s.1 (194 + 12 * m + 3 * i) < s.1 405 ∧ (s.1 (196 + 12 * m + 3 * i) = 4294967295 ∨ s.1 (196 + 12 * m + 3 * i) < s.1 405))
theorem pd_eat_z {D : Nat → Nat} {k a kk w : Nat} {s : pv_S} (h : kk ≠ k) (hw : w < 5) : (pd_eat D k a s).2.1 (24 + w + 5 * kk) = s.1 (24 + w + 5 * kk) := pt_un (by omega)
theorem pd_item_z {D : Nat → Nat} {m i kk w : Nat} {s : pv_S} (hm : m < s.1 408) (hk : wk s) (hkk : s.1 405 ≤ kk) (hw : w < 5) (h8 : s.1 405 ≤ 8) : (pd_item D m i s).2.1 (24 + w + 5 * kk) = s.1 (24 + w + 5 * kk) := by
  unfold pd_item
  by_cases e : i < s.1 (314 + m)
  · rw [if_pos e]
    have h3 := hk.2.2 m hm i e
    show pt_up _ _ _ _ = _
    rw [pt_un (by omega)]
    unfold pd_meal
    by_cases e2 : s.1 (196 + 12 * m + 3 * i) = 4294967295
    · rw [if_pos e2]; exact pd_eat_z (by omega) hw
    · rw [if_neg e2]
      exact (pd_eat_z (by omega) hw).trans (pd_eat_z (by omega) hw)
  · rw [if_neg e]
theorem wk_like {s t : pv_S} (h : wk s) (hl : pd_like s t) (hz : ∀ k, s.1 405 ≤ k → k < 8 → ∀ w, w < 5 → t.1 (24 + w + 5 * k) = s.1 (24 + w + 5 * k)) (hb : mb s.1) : wk t := by
  have e5 := hl.1 405 (by omega)
  have e8 := hl.1 408 (by omega)
  have h10 := hb.2.1
  refine ⟨fun k h1 h2 w h3 => ?_, fun l hl2 => ?_, fun m hm i hi => ?_⟩
  · rw [e5] at h1
    rw [hz k h1 h2 w h3]
    exact h.1 k h1 h2 w h3
  · rw [(hl.2.2 l).1, e5]
    exact h.2.1 l (by rw [← hl.2.1]; exact hl2)
  · rw [e8] at hm
    rw [hl.1 (314 + m) (by omega)] at hi
    rw [hl.1 (194 + 12 * m + 3 * i) (by omega), hl.1 (196 + 12 * m + 3 * i) (by omega), e5]
    exact h.2.2 m hm i hi
theorem pd_items_z {D : Nat → Nat} {m : Nat} {s : pv_S} (hm : m < s.1 408) (hb : tb s.1) (h : lbs s.2) (hk : wk s) : ∀ i : Nat, ∀ kk, s.1 405 ≤ kk → kk < 8 → ∀ w, w < 5 → (pd_items D m s i).2.1 (24 + w + 5 * kk) = s.1 (24 + w + 5 * kk)
  | 0 => fun _ _ _ _ _ => rfl
  | i + 1 => fun kk h1 h8 w hw => by
    have hl := (pd_items_like (D := D) hm hb h i).1
    have ih := pd_items_z (D := D) hm hb h hk i
    have hk2 := wk_like hk hl ih hb.2.2.2.2.2.2
    have h5 := hl.1 405 (by omega)
    have := pd_item_z (D := D) (m := m) (i := i) (s := (pd_items D m s i).2) (by rw [hl.1 408 (by omega)]; exact hm) hk2 (kk := kk) (by rw [h5]; exact h1) hw (by rw [h5]; exact hb.2.2.1)
    exact this.trans (ih kk h1 h8 w hw)
theorem pd_fold_z {T : pv_T} {n kk w : Nat} (hkk : n ≤ kk) (hw : w < 5) : ∀ {L : List pv_Lot} {A : pv_T}, (∀ x ∈ L, x.1 < n) → L.foldl (pd_spoil T) A (24 + w + 5 * kk) = A (24 + w + 5 * kk)
  | [], A, _ => rfl
  | x :: L, A, h => by
    rw [List.foldl_cons, pd_fold_z hkk hw (fun y hy => h y (List.mem_cons_of_mem _ hy))]
    have := h x List.mem_cons_self
    unfold pd_spoil
    split
    · exact pt_un (by omega)
    · rfl
theorem pd_age_kind {r : pv_S} {n : Nat} (h : ∀ x ∈ r.2, x.1 < n) : ∀ x ∈ (pd_age r).2, x.1 < n := by
  intro y hy
  obtain ⟨h6, -⟩ := List.mem_filter.mp hy
  obtain ⟨x, hx, e⟩ := List.mem_map.mp h6
  rw [← e]
  exact h x hx
theorem wk_day {s : pv_S} (h : dy s) (hk : wk s) : wk (pd_day s) ∧ ∀ i, ¬ (24 ≤ i ∧ i < 64) → ¬ (67 ≤ i ∧ i < 70) → i ≠ 404 → i ≠ 412 → (pd_day s).1 i = s.1 i := by
  have hsv := pd_served_ok h
  have hkz := pd_items_z (D := pd_mornings s) (pd_menu_lt h) h.1 h.2.1 hk 4
  have hk1 : wk (pd_served s).2 := wk_like hk hsv.1 hkz h.1.2.2.2.2.2.2
  have hag : ∀ l, l < (pd_hungry (pd_served s)).2.length → (pl_g (pd_hungry (pd_served s)).2 l).2.2.2 < 1000 := fun l hl => by
    rw [show (pl_g (pd_hungry (pd_served s)).2 l).2.2.2 = (pl_g s.2 l).2.2.2 from (hsv.1.2.2 l).2.2]
    refine (h.2.2 l ?_).2
    rw [← hsv.1.2.1]
    exact hl
  have hao := pd_age_ok (s := pd_hungry (pd_served s)) hsv.2.1 hag
  have hT : ∀ i, ¬ (24 ≤ i ∧ i < 64) → ¬ (67 ≤ i ∧ i < 70) → i ≠ 404 → i ≠ 412 → (pd_day s).1 i = s.1 i := fun i h1 h2 h3 h4 => by
    show pd_night (pd_age (pd_hungry (pd_served s))).1 i = _
    unfold pd_night
    rw [if_neg h3, if_neg h2, hao.2.2 i h1, pd_hungry_out h4, hsv.1.1 i h1]
  have h10 := h.1.2.2.2.2.2.2.2.1
  have e5 := hT 405 (by omega) (by omega) (by omega) (by omega)
  have e8 := hT 408 (by omega) (by omega) (by omega) (by omega)
  have hkn : ∀ x ∈ (pd_hungry (pd_served s)).2, x.1 < s.1 405 := fun x hx => by
    obtain ⟨l, hl, rfl⟩ := pl_mem_g hx
    have := hk1.2.1 l hl
    rw [hsv.1.1 405 (by omega)] at this
    exact this
  refine ⟨⟨fun k h1 h2 w h3 => ?_, fun l hl => ?_, fun m hm i hi => ?_⟩, hT⟩
  · rw [e5] at h1
    show pd_night (pd_age (pd_hungry (pd_served s))).1 (24 + w + 5 * k) = 0
    unfold pd_night
    rw [if_neg (by omega), if_neg (by omega)]
    refine (pd_fold_z (n := s.1 405) h1 h3 hkn).trans ?_
    rw [pd_hungry_out (by omega)]
    exact (hkz k h1 h2 w h3).trans (hk.1 k h1 h2 w h3)
  · rw [e5]
    exact pd_age_kind (r := pd_hungry (pd_served s)) hkn _ (pl_g_mem hl)
  · rw [e8] at hm
    rw [hT (314 + m) (by omega) (by omega) (by omega) (by omega)] at hi
    have hi4 := (h.1.2.2.2.2.2.2.2.2 m hm).1
    rw [hT (194 + 12 * m + 3 * i) (by omega) (by omega) (by omega) (by omega), hT (196 + 12 * m + 3 * i) (by omega) (by omega) (by omega) (by omega), e5]
    exact hk.2.2 m hm i hi
theorem wk_days {s : pv_S} (h : dy s) (hk : wk s) : ∀ n : Nat, wk (pd_days s n) ∧ ∀ i, ¬ (24 ≤ i ∧ i < 64) → ¬ (67 ≤ i ∧ i < 70) → i ≠ 404 → i ≠ 412 → (pd_days s n).1 i = s.1 i
  | 0 => ⟨hk, fun _ _ _ _ _ => rfl⟩
  | n + 1 => by
    have ih := wk_days h hk n
    have h1 := wk_day (pd_days_ok h n).1 ih.1
    exact ⟨h1.1, fun i a b c e => (h1.2 i a b c e).trans (ih.2 i a b c e)⟩
