/-! The text of menus, as numbers. -/
/-- the reader of menus: place, menu, item, highest kind and 1, what was read (items by 12 a menu and 3 an item; from 120 on how many items are whole) -/
abbrev pv_Zp : Type := Nat × Nat × Nat × Nat × (Nat → Nat)
def pz_item (Z : pv_Zp) (c : Nat) : Option pv_Zp := if 48 ≤ c ∧ c ≤ 55 then some (3, Z.2.1, Z.2.2.1, max Z.2.2.2.1 (c - 48 + 1), pt_up (pt_up (pt_up Z.2.2.2.2 (12 * Z.2.1 + 3 * Z.2.2.1) (c - 48)) (12 * Z.2.1 + 3 * Z.2.2.1 + 1) 0) (12 * Z.2.1 + 3 * Z.2.2.1 + 2) 4294967295) else none
def pz_menu (Z : pv_Zp) : Option pv_Zp := if Z.2.1 < 9 then some (0, Z.2.1 + 1, 0, Z.2.2.2.1, pt_up Z.2.2.2.2 (120 + (Z.2.1 + 1)) 0) else none
def pz_sep (Z : pv_Zp) (c : Nat) : Option pv_Zp := if c = 59 then pz_menu Z else if c = 44 ∧ Z.2.2.1 < 3 then some (2, Z.2.1, Z.2.2.1 + 1, Z.2.2.2.1, Z.2.2.2.2) else none
def pz_amt (Z : pv_Zp) (c : Nat) : Option pv_Zp := if 49 ≤ c ∧ c ≤ 57 then some (5, Z.2.1, Z.2.2.1, Z.2.2.2.1, pt_up (pt_up Z.2.2.2.2 (12 * Z.2.1 + 3 * Z.2.2.1 + 1) (c - 48)) (120 + Z.2.1) (Z.2.2.1 + 1)) else none
def pz_sub (Z : pv_Zp) (c : Nat) : Option pv_Zp := if (48 ≤ c ∧ c ≤ 55) ∧ ¬ c - 48 = Z.2.2.2.2 (12 * Z.2.1 + 3 * Z.2.2.1) then some (7, Z.2.1, Z.2.2.1, max Z.2.2.2.1 (c - 48 + 1), pt_up Z.2.2.2.2 (12 * Z.2.1 + 3 * Z.2.2.1 + 2) (c - 48)) else none
def pz_to (Z : pv_Zp) (p : Nat) : pv_Zp := (p, Z.2)
def pz_step (Z : pv_Zp) (c : Nat) : Option pv_Zp :=
  if Z.1 = 0 then (if c = 45 then some (pz_to Z 1) else pz_item Z c)
  else if Z.1 = 1 then (if c = 59 then pz_menu Z else none)
  else if Z.1 = 2 then pz_item Z c
  else if Z.1 = 3 then (if c = 42 then some (pz_to Z 4) else none)
  else if Z.1 = 4 then pz_amt Z c
  else if Z.1 = 5 then (if c = 47 then some (pz_to Z 6) else pz_sep Z c)
  else if Z.1 = 6 then pz_sub Z c
  else pz_sep Z c
def pz_0 : pv_Zp := (0, 0, 0, 0, fun _ => 0)
def pz_run (B : Nat → Nat) : Nat → Option pv_Zp
  | 0 => some pz_0
  | k + 1 => match pz_run B k with
    | none => none
    | some Z => pz_step Z (B k)
def pz_err (B : Nat → Nat) (n : Nat) : Nat := match pf_first (fun j => (pz_run B (j + 1)).isNone) n with
  | some j => j
  | none => n
theorem pz_run1 {B : Nat → Nat} {k : Nat} {Z : pv_Zp} (h : pz_run B k = some Z) : pz_run B (k + 1) = pz_step Z (B k) := by
  show (match pz_run B k with
    | none => none
    | some Z => pz_step Z (B k)) = _
  rw [h]
theorem pz_run_none {B : Nat → Nat} {k : Nat} (h : pz_run B k = none) : ∀ j : Nat, pz_run B (k + j) = none
  | 0 => h
  | j + 1 => by
    show (match pz_run B (k + j) with
      | none => none
      | some Z => pz_step Z (B (k + j))) = _
    rw [pz_run_none h j]
/-- what holds of every state of the reader -/
def pz_in (W : Nat → Nat) (m i : Nat) : Prop := W (12 * m + 3 * i) < 8 ∧ 1 ≤ W (12 * m + 3 * i + 1) ∧ W (12 * m + 3 * i + 1) ≤ 9 ∧ (W (12 * m + 3 * i + 2) = 4294967295 ∨ W (12 * m + 3 * i + 2) < 8)
def PZ (Z : pv_Zp) : Prop := Z.1 ≤ 7 ∧ Z.2.1 ≤ 9 ∧ Z.2.2.1 ≤ 3 ∧ Z.2.2.2.1 ≤ 8 ∧ Z.2.2.2.2 (120 + Z.2.1) = (if 5 ≤ Z.1 then Z.2.2.1 + 1 else Z.2.2.1) ∧ (Z.1 ≤ 1 → Z.2.2.1 = 0) ∧ (∀ m, m ≤ Z.2.1 → Z.2.2.2.2 (120 + m) ≤ 4 ∧ ∀ i, i < Z.2.2.2.2 (120 + m) → pz_in Z.2.2.2.2 m i) ∧ (Z.1 = 3 ∨ Z.1 = 4 → Z.2.2.2.2 (12 * Z.2.1 + 3 * Z.2.2.1) < 8) ∧ (3 ≤ Z.1 ∧ Z.1 ≤ 6 → Z.2.2.2.2 (12 * Z.2.1 + 3 * Z.2.2.1 + 2) = 4294967295)
/-- which kinds it has named so far -/
def pz_low (Z : pv_Zp) (n : Nat) : Prop := (∀ m, m ≤ Z.2.1 → ∀ i, i < Z.2.2.2.2 (120 + m) → Z.2.2.2.2 (12 * m + 3 * i) < n ∧ (Z.2.2.2.2 (12 * m + 3 * i + 2) = 4294967295 ∨ Z.2.2.2.2 (12 * m + 3 * i + 2) < n)) ∧ (Z.1 = 3 ∨ Z.1 = 4 → Z.2.2.2.2 (12 * Z.2.1 + 3 * Z.2.2.1) < n)
theorem PZ_0 : PZ pz_0 ∧ ∀ n, pz_0.2.2.2.1 ≤ n ↔ pz_low pz_0 n := by
  refine ⟨⟨by decide, by decide, by decide, by decide, rfl, fun _ => rfl, fun m hm => ⟨Nat.zero_le _, fun i hi => absurd hi (Nat.not_lt_zero _)⟩, fun h => absurd h (by decide), fun h => absurd h (by decide)⟩, fun n => ⟨fun _ => ⟨fun m hm i hi => absurd hi (Nat.not_lt_zero _), fun h => absurd h (by decide)⟩, fun _ => Nat.zero_le _⟩⟩
def pz_good (Z : pv_Zp) : Prop := PZ Z ∧ ∀ n, n ≤ 8 → (Z.2.2.2.1 ≤ n ↔ pz_low Z n)
theorem pz_item_ok {Z Z' : pv_Zp} {c : Nat} (h : pz_good Z) (hp : Z.1 = 0 ∨ Z.1 = 2) (e : pz_item Z c = some Z') : pz_good Z' := by
  obtain ⟨p, m, t, hi, W⟩ := Z
  obtain ⟨⟨h1, h2, h3, h4, h5, h6, h7, h8, h8b⟩, h9⟩ := h
  simp only at h1 h2 h3 h4 h5 h6 h7 h8 h8b hp
  unfold pz_item at e
  simp only at e
  by_cases hc : 48 ≤ c ∧ c ≤ 55
  · rw [if_pos hc] at e
    have e' := Option.some.inj e
    subst e'
    have h5' : W (120 + m) = t := by rw [h5, if_neg (by omega)]
    generalize hW : pt_up (pt_up (pt_up W (12 * m + 3 * t) (c - 48)) (12 * m + 3 * t + 1) 0) (12 * m + 3 * t + 2) 4294967295 = W'
    have w0 : W' (12 * m + 3 * t) = c - 48 := by rw [← hW, pt_un (by omega), pt_un (by omega), pt_us]
    have w2 : W' (12 * m + 3 * t + 2) = 4294967295 := by rw [← hW, pt_us]
    have wo : ∀ j, j < 12 * m + 3 * t ∨ 12 * m + 3 * t + 2 < j → W' j = W j := fun j hj => by rw [← hW, pt_un (by omega), pt_un (by omega), pt_un (by omega)]
    have hl : ∀ m', m' ≤ m → W' (120 + m') = W (120 + m') := fun m' hm => wo _ (by omega)
    have hin : ∀ m', m' ≤ m → ∀ i, i < W (120 + m') → W' (12 * m' + 3 * i) = W (12 * m' + 3 * i) ∧ W' (12 * m' + 3 * i + 1) = W (12 * m' + 3 * i + 1) ∧ W' (12 * m' + 3 * i + 2) = W (12 * m' + 3 * i + 2) := fun m' hm i hi => by
      have hb : 12 * m' + 3 * i + 2 < 12 * m + 3 * t ∨ 12 * m + 3 * t + 2 < 12 * m' + 3 * i := by
        rcases Nat.lt_or_ge m' m with hlt | hge
        · have := (h7 m' hm).1
          omega
        · have : m' = m := by omega
          subst this
          omega
      exact ⟨wo _ (by omega), wo _ (by omega), wo _ (by omega)⟩
    refine ⟨⟨by show 3 ≤ 7; decide, h2, h3, ?_, ?_, fun hx => absurd hx (by simp), fun m' hm => ?_, fun _ => ?_, fun _ => w2⟩, fun n hn => ?_⟩
    · show max hi (c - 48 + 1) ≤ 8
      omega
    · show W' (120 + m) = _
      rw [hl m (Nat.le_refl _), h5']
      rfl
    · show W' (120 + m') ≤ 4 ∧ ∀ i, i < W' (120 + m') → pz_in W' m' i
      rw [hl m' hm]
      refine ⟨(h7 m' hm).1, fun i hi => ?_⟩
      have q := hin m' hm i hi
      have r := (h7 m' hm).2 i hi
      unfold pz_in at r ⊢
      rw [q.1, q.2.1, q.2.2]
      exact r
    · show W' (12 * m + 3 * t) < 8
      omega
    · show max hi (c - 48 + 1) ≤ n ↔ pz_low (3, m, t, max hi (c - 48 + 1), W') n
      have h9n := h9 n hn
      unfold pz_low at h9n ⊢
      simp only at h9n ⊢
      constructor
      · intro hx
        obtain ⟨q, -⟩ := h9n.mp (by omega)
        refine ⟨fun m' hm i hi => ?_, fun _ => by rw [w0]; omega⟩
        rw [hl m' hm] at hi
        have q2 := hin m' hm i hi
        rw [q2.1, q2.2.2]
        exact q m' hm i hi
      · intro hx
        have q3 := hx.2 (by simp)
        rw [w0] at q3
        have q4 : hi ≤ n := h9n.mpr ⟨fun m' hm i hi => by
          have q2 := hin m' hm i hi
          have q5 := hx.1 m' hm i (by rw [hl m' hm]; exact hi)
          rw [q2.1, q2.2.2] at q5
          exact q5, fun hz => absurd hz (by omega)⟩
        omega
  · rw [if_neg hc] at e
    cases e
theorem pz_menu_ok {Z Z' : pv_Zp} (h : pz_good Z) (hp : Z.1 = 1 ∨ 5 ≤ Z.1) (e : pz_menu Z = some Z') : pz_good Z' := by
  obtain ⟨p, m, t, hi, W⟩ := Z
  obtain ⟨⟨h1, h2, h3, h4, h5, h6, h7, h8, h8b⟩, h9⟩ := h
  simp only at h1 h2 h3 h4 h5 h6 h7 h8 h8b hp
  unfold pz_menu at e
  simp only at e
  by_cases hc : m < 9
  · rw [if_pos hc] at e
    have e' := Option.some.inj e
    subst e'
    have wo : ∀ j, j ≠ 120 + (m + 1) → pt_up W (120 + (m + 1)) 0 j = W j := fun j hj => pt_un hj
    refine ⟨⟨by show 0 ≤ 7; decide, by show m + 1 ≤ 9; omega, by show 0 ≤ 3; decide, h4, ?_, fun _ => rfl, fun m' hm => ?_, fun hx => absurd hx (by simp), fun hx => absurd hx (by simp)⟩, fun n hn => ?_⟩
    · show pt_up W (120 + (m + 1)) 0 (120 + (m + 1)) = _
      rw [pt_us]
      rfl
    · replace hm : m' ≤ m + 1 := hm
      show pt_up W (120 + (m + 1)) 0 (120 + m') ≤ 4 ∧ ∀ i, i < pt_up W (120 + (m + 1)) 0 (120 + m') → pz_in (pt_up W (120 + (m + 1)) 0) m' i
      by_cases e2 : m' = m + 1
      · rw [e2, pt_us]
        exact ⟨by decide, fun i hi => absurd hi (Nat.not_lt_zero _)⟩
      · rw [wo _ (by omega)]
        refine ⟨(h7 m' (by omega)).1, fun i hi => ?_⟩
        have r := (h7 m' (by omega)).2 i hi
        have r4 := (h7 m' (by omega)).1
        unfold pz_in at r ⊢
        rw [wo _ (by omega), wo _ (by omega), wo _ (by omega)]
        exact r
    · show hi ≤ n ↔ pz_low (0, m + 1, 0, hi, pt_up W (120 + (m + 1)) 0) n
      have h9n := h9 n hn
      unfold pz_low at h9n ⊢
      simp only at h9n ⊢
      rw [h9n]
      constructor
      · rintro ⟨q, -⟩
        refine ⟨fun m' hm i hi => ?_, fun hz => absurd hz (by simp)⟩
        by_cases e2 : m' = m + 1
        · rw [e2, pt_us] at hi
          exact absurd hi (Nat.not_lt_zero _)
        · rw [wo _ (by omega)] at hi
          have r4 := (h7 m' (by omega)).1
          rw [wo _ (by omega), wo _ (by omega)]
          exact q m' (by omega) i hi
      · rintro ⟨q, -⟩
        refine ⟨fun m' hm i hi => ?_, fun hz => absurd hz (by omega)⟩
        have r4 := (h7 m' hm).1
        have q5 := q m' (by omega) i (by rw [wo _ (by omega)]; exact hi)
        rw [wo _ (by omega), wo _ (by omega)] at q5
        exact q5
  · rw [if_neg hc] at e
    cases e
theorem pz_to_ok {Z : pv_Zp} {p : Nat} (h : pz_good Z) (hp : (Z.1 = 0 ∧ p = 1) ∨ (Z.1 = 3 ∧ p = 4) ∨ (Z.1 = 5 ∧ p = 6)) : pz_good (pz_to Z p) := by
  obtain ⟨p0, m, t, hi, W⟩ := Z
  obtain ⟨⟨h1, h2, h3, h4, h5, h6, h7, h8, h8b⟩, h9⟩ := h
  simp only at h1 h2 h3 h4 h5 h6 h7 h8 h8b hp
  refine ⟨⟨?_, h2, h3, h4, ?_, ?_, h7, ?_, ?_⟩, fun n hn => ?_⟩
  · show p ≤ 7
    omega
  · show W (120 + m) = if 5 ≤ p then t + 1 else t
    rw [h5]
    by_cases e : 5 ≤ p0
    · rw [if_pos e, if_pos (by omega)]
    · rw [if_neg e, if_neg (by omega)]
  · show p ≤ 1 → t = 0
    intro _
    exact h6 (by omega)
  · show p = 3 ∨ p = 4 → _
    intro _
    exact h8 (by omega)
  · show 3 ≤ p ∧ p ≤ 6 → _
    intro _
    exact h8b (by omega)
  · have h9n := h9 n hn
    show hi ≤ n ↔ pz_low (p, m, t, hi, W) n
    unfold pz_low at h9n ⊢
    simp only at h9n ⊢
    rw [h9n]
    constructor
    · rintro ⟨q, r⟩
      exact ⟨q, fun _ => r (by omega)⟩
    · rintro ⟨q, r⟩
      exact ⟨q, fun _ => r (by omega)⟩
theorem pz_sep_ok {Z Z' : pv_Zp} {c : Nat} (h : pz_good Z) (hp : 5 ≤ Z.1) (e : pz_sep Z c = some Z') : pz_good Z' := by
  unfold pz_sep at e
  by_cases hc : c = 59
  · rw [if_pos hc] at e
    exact pz_menu_ok h (Or.inr hp) e
  · rw [if_neg hc] at e
    by_cases hd : c = 44 ∧ Z.2.2.1 < 3
    · rw [if_pos hd] at e
      have e' := Option.some.inj e
      subst e'
      obtain ⟨p0, m, t, hi, W⟩ := Z
      obtain ⟨⟨h1, h2, h3, h4, h5, h6, h7, h8, h8b⟩, h9⟩ := h
      simp only at h1 h2 h3 h4 h5 h6 h7 h8 h8b hp hd
      refine ⟨⟨by show 2 ≤ 7; decide, h2, by show t + 1 ≤ 3; omega, h4, ?_, fun hx => absurd hx (by simp), h7, fun hx => absurd hx (by simp), fun hx => absurd hx (by simp)⟩, fun n hn => ?_⟩
      · show W (120 + m) = if 5 ≤ 2 then t + 1 + 1 else t + 1
        rw [h5, if_pos hp, if_neg (by decide)]
      · have h9n := h9 n hn
        show hi ≤ n ↔ pz_low (2, m, t + 1, hi, W) n
        unfold pz_low at h9n ⊢
        simp only at h9n ⊢
        rw [h9n]
        constructor
        · rintro ⟨q, r⟩
          exact ⟨q, fun hz => absurd hz (by simp)⟩
        · rintro ⟨q, r⟩
          exact ⟨q, fun hz => absurd hz (by omega)⟩
    · rw [if_neg hd] at e
      cases e
theorem pz_amt_ok {Z Z' : pv_Zp} {c : Nat} (h : pz_good Z) (hp : Z.1 = 4) (e : pz_amt Z c = some Z') : pz_good Z' := by
  obtain ⟨p, m, t, hi, W⟩ := Z
  obtain ⟨⟨h1, h2, h3, h4, h5, h6, h7, h8, h8b⟩, h9⟩ := h
  simp only at h1 h2 h3 h4 h5 h6 h7 h8 h8b hp
  unfold pz_amt at e
  simp only at e
  by_cases hc : 49 ≤ c ∧ c ≤ 57
  · rw [if_pos hc] at e
    have e' := Option.some.inj e
    subst e'
    have h5' : W (120 + m) = t := by rw [h5, if_neg (by omega)]
    have h8' : W (12 * m + 3 * t) < 8 ∧ W (12 * m + 3 * t + 2) = 4294967295 := ⟨h8 (Or.inr hp), h8b (by omega)⟩
    generalize hW : pt_up (pt_up W (12 * m + 3 * t + 1) (c - 48)) (120 + m) (t + 1) = W'
    have wl : W' (120 + m) = t + 1 := by rw [← hW, pt_us]
    have w1 : W' (12 * m + 3 * t + 1) = c - 48 := by rw [← hW, pt_un (by omega), pt_us]
    have wo : ∀ j, j ≠ 12 * m + 3 * t + 1 → j ≠ 120 + m → W' j = W j := fun j hj hj2 => by rw [← hW, pt_un hj2, pt_un hj]
    refine ⟨⟨by show 5 ≤ 7; decide, h2, h3, h4, ?_, fun hx => absurd hx (by simp), fun m' hm => ?_, fun hx => absurd hx (by simp), fun _ => (wo (12 * m + 3 * t + 2) (by omega) (by omega)).trans h8'.2⟩, fun n hn => ?_⟩
    · show W' (120 + m) = if 5 ≤ 5 then t + 1 else t
      rw [wl]
      rfl
    · replace hm : m' ≤ m := hm
      show W' (120 + m') ≤ 4 ∧ ∀ i, i < W' (120 + m') → pz_in W' m' i
      have h4' := (h7 m' hm).1
      by_cases e2 : m' = m
      · subst e2
        rw [wl]
        refine ⟨by omega, fun i hi => ?_⟩
        by_cases e3 : i = t
        · subst e3
          unfold pz_in
          rw [w1, wo _ (by omega) (by omega), wo _ (by omega) (by omega)]
          exact ⟨h8'.1, by omega, by omega, Or.inl h8'.2⟩
        · have r := (h7 m' hm).2 i (by omega)
          unfold pz_in at r ⊢
          rw [wo _ (by omega) (by omega), wo _ (by omega) (by omega), wo _ (by omega) (by omega)]
          exact r
      · rw [wo _ (by omega) (by omega)]
        refine ⟨h4', fun i hi => ?_⟩
        have r := (h7 m' hm).2 i hi
        unfold pz_in at r ⊢
        rw [wo _ (by omega) (by omega), wo _ (by omega) (by omega), wo _ (by omega) (by omega)]
        exact r
    · show hi ≤ n ↔ pz_low (5, m, t, hi, W') n
      have h9n := h9 n hn
      unfold pz_low at h9n ⊢
      simp only at h9n ⊢
      rw [h9n]
      constructor
      · rintro ⟨q, r⟩
        refine ⟨fun m' hm i hi => ?_, fun hz => absurd hz (by simp)⟩
        have h4' := (h7 m' hm).1
        by_cases e2 : m' = m
        · subst e2
          rw [wl] at hi
          rw [wo _ (by omega) (by omega), wo _ (by omega) (by omega)]
          by_cases e3 : i = t
          · subst e3
            exact ⟨r (Or.inr hp), Or.inl h8'.2⟩
          · exact q m' hm i (by omega)
        · rw [wo _ (by omega) (by omega)] at hi
          rw [wo _ (by omega) (by omega), wo _ (by omega) (by omega)]
          exact q m' hm i hi
      · rintro ⟨q, r⟩
        refine ⟨fun m' hm i hi => ?_, fun hz => ?_⟩
        · have h4' := (h7 m' hm).1
          have q5 := q m' hm i (by
            by_cases e2 : m' = m
            · subst e2; rw [wl]; omega
            · rw [wo _ (by omega) (by omega)]; exact hi)
          rw [wo _ (by omega) (by omega), wo _ (by omega) (by omega)] at q5
          exact q5
        · have q5 := q m (Nat.le_refl _) t (by rw [wl]; omega)
          rw [wo _ (by omega) (by omega)] at q5
          exact q5.1
  · rw [if_neg hc] at e
    cases e
theorem pz_sub_ok {Z Z' : pv_Zp} {c : Nat} (h : pz_good Z) (hp : Z.1 = 6) (e : pz_sub Z c = some Z') : pz_good Z' := by
  obtain ⟨p, m, t, hi, W⟩ := Z
  obtain ⟨⟨h1, h2, h3, h4, h5, h6, h7, h8, h8b⟩, h9⟩ := h
  simp only at h1 h2 h3 h4 h5 h6 h7 h8 h8b hp
  unfold pz_sub at e
  simp only at e
  by_cases hc : (48 ≤ c ∧ c ≤ 55) ∧ ¬ c - 48 = W (12 * m + 3 * t)
  · rw [if_pos hc] at e
    have e' := Option.some.inj e
    subst e'
    have h5' : W (120 + m) = t + 1 := by rw [h5, if_pos (by omega)]
    generalize hW : pt_up W (12 * m + 3 * t + 2) (c - 48) = W'
    have w2 : W' (12 * m + 3 * t + 2) = c - 48 := by rw [← hW, pt_us]
    have wo : ∀ j, j ≠ 12 * m + 3 * t + 2 → W' j = W j := fun j hj => by rw [← hW, pt_un hj]
    refine ⟨⟨by show 7 ≤ 7; decide, h2, h3, by show max hi (c - 48 + 1) ≤ 8; omega, ?_, fun hx => absurd hx (by simp), fun m' hm => ?_, fun hx => absurd hx (by simp), fun hx => absurd hx (by simp)⟩, fun n hn => ?_⟩
    · show W' (120 + m) = if 5 ≤ 7 then t + 1 else t
      rw [wo _ (by omega), h5']
      rfl
    · replace hm : m' ≤ m := hm
      show W' (120 + m') ≤ 4 ∧ ∀ i, i < W' (120 + m') → pz_in W' m' i
      rw [wo _ (by omega)]
      refine ⟨(h7 m' hm).1, fun i hi => ?_⟩
      have r := (h7 m' hm).2 i hi
      have r4 := (h7 m' hm).1
      unfold pz_in at r ⊢
      rw [wo _ (by omega), wo _ (by omega)]
      by_cases e3 : 12 * m' + 3 * i + 2 = 12 * m + 3 * t + 2
      · rw [e3, w2]
        exact ⟨r.1, r.2.1, r.2.2.1, Or.inr (by omega)⟩
      · rw [wo _ e3]
        exact r
    · show max hi (c - 48 + 1) ≤ n ↔ pz_low (7, m, t, max hi (c - 48 + 1), W') n
      have h9n := h9 n hn
      have rt := (h7 m (Nat.le_refl _)).2 t (by omega)
      unfold pz_low at h9n ⊢
      simp only at h9n ⊢
      constructor
      · intro hx
        obtain ⟨q, -⟩ := h9n.mp (by omega)
        refine ⟨fun m' hm i hi => ?_, fun hz => absurd hz (by simp)⟩
        rw [wo _ (by omega)] at hi
        rw [wo _ (by omega)]
        have q2 := q m' hm i hi
        refine ⟨q2.1, ?_⟩
        by_cases e3 : 12 * m' + 3 * i + 2 = 12 * m + 3 * t + 2
        · rw [e3, w2]; right; omega
        · rw [wo _ e3]; exact q2.2
      · rintro ⟨q, -⟩
        have q3 := (q m (Nat.le_refl _) t (by rw [wo _ (by omega)]; omega)).2
        rw [w2] at q3
        have q4 : hi ≤ n := h9n.mpr ⟨fun m' hm i hi => by
          have q5 := q m' hm i (by rw [wo _ (by omega)]; exact hi)
          rw [wo _ (by omega)] at q5
          refine ⟨q5.1, ?_⟩
          by_cases e3 : 12 * m' + 3 * i + 2 = 12 * m + 3 * t + 2
          · rw [e3]; exact Or.inl (h8b (by omega))
          · rw [wo _ e3] at q5
            exact q5.2, fun hz => absurd hz (by omega)⟩
        omega
  · rw [if_neg hc] at e
    cases e
theorem pz_step_ok {Z Z' : pv_Zp} {c : Nat} (h : pz_good Z) (e : pz_step Z c = some Z') : pz_good Z' := by
  unfold pz_step at e
  have h7 := h.1.1
  by_cases p0 : Z.1 = 0
  · rw [if_pos p0] at e
    by_cases hc : c = 45
    · rw [if_pos hc] at e
      rw [← Option.some.inj e]
      exact pz_to_ok h (Or.inl ⟨p0, rfl⟩)
    · rw [if_neg hc] at e
      exact pz_item_ok h (Or.inl p0) e
  rw [if_neg p0] at e
  by_cases p1 : Z.1 = 1
  · rw [if_pos p1] at e
    by_cases hc : c = 59
    · rw [if_pos hc] at e
      exact pz_menu_ok h (Or.inl p1) e
    · rw [if_neg hc] at e
      cases e
  rw [if_neg p1] at e
  by_cases p2 : Z.1 = 2
  · rw [if_pos p2] at e
    exact pz_item_ok h (Or.inr p2) e
  rw [if_neg p2] at e
  by_cases p3 : Z.1 = 3
  · rw [if_pos p3] at e
    by_cases hc : c = 42
    · rw [if_pos hc] at e
      rw [← Option.some.inj e]
      exact pz_to_ok h (Or.inr (Or.inl ⟨p3, rfl⟩))
    · rw [if_neg hc] at e
      cases e
  rw [if_neg p3] at e
  by_cases p4 : Z.1 = 4
  · rw [if_pos p4] at e
    exact pz_amt_ok h p4 e
  rw [if_neg p4] at e
  by_cases p5 : Z.1 = 5
  · rw [if_pos p5] at e
    by_cases hc : c = 47
    · rw [if_pos hc] at e
      rw [← Option.some.inj e]
      exact pz_to_ok h (Or.inr (Or.inr ⟨p5, rfl⟩))
    · rw [if_neg hc] at e
      exact pz_sep_ok h (by omega) e
  rw [if_neg p5] at e
  by_cases p6 : Z.1 = 6
  · rw [if_pos p6] at e
    exact pz_sub_ok h p6 e
  rw [if_neg p6] at e
  exact pz_sep_ok h (by omega) e
theorem pz_run_ok {B : Nat → Nat} : ∀ {k : Nat} {Z : pv_Zp}, pz_run B k = some Z → pz_good Z
  | 0, Z, h => by
    rw [← Option.some.inj h]
    exact ⟨PZ_0.1, fun n _ => PZ_0.2 n⟩
  | k + 1, Z, h => by
    cases e : pz_run B k with
    | none =>
      have := pz_run_none e 1
      rw [this] at h
      cases h
    | some Z0 =>
      rw [pz_run1 e] at h
      exact pz_step_ok (pz_run_ok e) h
