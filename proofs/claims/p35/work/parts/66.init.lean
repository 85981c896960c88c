/-! The first state: both sides hold it once they are made. -/
def T0 : pv_T := fun i => if 64 ≤ i ∧ i < 67 then 1000 else if i = 408 then 1 else if i = 409 then 10 else if i = 410 then 10000 else 0
def X0 : pv_XS := ((T0, []), [], [])
theorem T0_0 {i : Nat} (h1 : ¬ (64 ≤ i ∧ i < 67)) (h2 : i ≠ 408) (h3 : i ≠ 409) (h4 : i ≠ 410) : T0 i = 0 := by
  unfold T0
  rw [if_neg h1, if_neg h2, if_neg h3, if_neg h4]
theorem T0_r {i : Nat} (h1 : 64 ≤ i ∧ i < 67) : T0 i = 1000 := by
  unfold T0
  rw [if_pos h1]
theorem gS_0 {i j : Nat} (h0 : i ≠ 0) (h1 : i ≠ 16) (h2 : i ≠ 35) : gS i j = 0 := by
  unfold gS
  rw [if_neg h0]
  by_cases e : 14 ≤ i ∧ i < 19
  · rw [if_pos e]
    unfold gT
    rw [if_neg (by omega)]
  · rw [if_neg e]
    by_cases e2 : 35 ≤ i ∧ i < 42
    · rw [if_pos e2]
      unfold gM
      rw [if_neg (by omega)]
    · rw [if_neg e2]
theorem CR_init {I : pv_IT} {q : Nat} (h : ∀ i, i < 44 → I (q + i) = gS i) : CR I q T0 [] := by
  have z : ∀ i j, i < 44 → i ≠ 0 → i ≠ 16 → i ≠ 35 → I (q + i) j = 0 := fun i j h1 h2 h3 h4 => by rw [h i h1, gS_0 h2 h3 h4]
  have h0 : I q = gS 0 := h 0 (by omega)
  refine ⟨⟨?_, ?_, ?_, ?_, ?_⟩, ⟨?_, fun i hi => ?_, fun k hk => ⟨?_, ?_, ?_, ?_, ?_⟩⟩, fun s hs => ⟨?_, ?_⟩, ⟨?_, ⟨Nat.zero_le _, fun l hl => absurd hl (Nat.not_lt_zero _)⟩, fun l hl => absurd hl (Nat.not_lt_zero _)⟩, ⟨?_, fun p hp => ⟨?_, ?_, fun k hk => ?_⟩⟩, ⟨?_, ?_, fun m hm i hi => ⟨fun h9 => ?_, fun _ => ?_⟩⟩⟩
  · rw [h0]; rfl
  · rw [h0]; rfl
  · rw [h0]; rfl
  · rw [h0]; rfl
  · rw [h0]; rfl
  · exact z 1 0 (by omega) (by omega) (by omega) (by omega)
  · rw [T0_0 (by omega) (by omega) (by omega) (by omega)]; exact z 3 i (by omega) (by omega) (by omega) (by omega)
  · rw [T0_0 (by omega) (by omega) (by omega) (by omega)]; exact z 5 k (by omega) (by omega) (by omega) (by omega)
  · rw [T0_0 (by omega) (by omega) (by omega) (by omega)]; exact z 7 k (by omega) (by omega) (by omega) (by omega)
  · rw [T0_0 (by omega) (by omega) (by omega) (by omega)]; exact z 9 k (by omega) (by omega) (by omega) (by omega)
  · rw [T0_0 (by omega) (by omega) (by omega) (by omega)]; exact z 11 k (by omega) (by omega) (by omega) (by omega)
  · rw [T0_0 (by omega) (by omega) (by omega) (by omega)]; exact z 13 k (by omega) (by omega) (by omega) (by omega)
  · rw [T0_r (by omega), show q + 14 + 2 = q + 16 from rfl, h 16 (by omega)]
    show (if s < 3 then (1000 : Int32) else 0) = _
    rw [if_pos hs]; rfl
  · rw [T0_0 (by omega) (by omega) (by omega) (by omega)]; exact z 18 s (by omega) (by omega) (by omega) (by omega)
  · exact z 19 0 (by omega) (by omega) (by omega) (by omega)
  · exact z 28 0 (by omega) (by omega) (by omega) (by omega)
  · exact (z 30 p (by omega) (by omega) (by omega) (by omega)).trans (congrArg nI (T0_0 (by omega) (by omega) (by omega) (by omega)).symm)
  · exact (z 32 p (by omega) (by omega) (by omega) (by omega)).trans (congrArg nI (T0_0 (by omega) (by omega) (by omega) (by omega)).symm)
  · exact (z 34 (p * 8 + k) (by omega) (by omega) (by omega) (by omega)).trans (congrArg nI (T0_0 (by omega) (by omega) (by omega) (by omega)).symm)
  · rw [h 35 (by omega)]; rfl
  · decide
  · have h8 : T0 408 = 1 := rfl
    rw [T0_0 (by omega) (by omega) (by omega) (by omega)] at h9
    exact absurd h9 (Nat.not_lt_zero _)
  · exact z 39 (m * 4 + i) (by omega) (by omega) (by omega) (by omega)
theorem CA_init {I : pv_IT} (h : ∀ a, a < 365 → I a = gA a) : CA I X0 := by
  refine ⟨CR_init fun i hi => ?_, ⟨0, ?_, ?_, by decide, Nat.zero_le _, fun j hj => absurd hj (Nat.not_lt_zero _)⟩, ⟨?_, Nat.zero_le _, fun j hj => absurd hj (Nat.not_lt_zero _)⟩⟩
  · rw [h _ (by omega)]
    funext j
    unfold gA
    rw [if_pos (by omega), show 1 + i - 1 = i by omega]
  · rw [h _ (by omega)]; rfl
  · rw [h _ (by omega)]; rfl
  · rw [h _ (by omega)]; rfl
theorem wx_init : wx 0 X0 := by
  have h8 : T0 408 = 1 := rfl
  refine ⟨⟨⟨⟨fun i hi => ?_, fun s hs => ⟨?_, ?_⟩, by decide, by decide, by decide, ⟨by decide, fun p hp => absurd hp (Nat.not_lt_zero _), fun a b _ hb => absurd hb (Nat.not_lt_zero _)⟩, ⟨by decide, by decide, fun m hm => ⟨?_, fun i hi => ?_⟩⟩⟩, ⟨Nat.zero_le _, fun l hl => absurd hl (Nat.not_lt_zero _)⟩, fun l hl => absurd hl (Nat.not_lt_zero _)⟩, Nat.zero_le _, Nat.le_refl _, fun k hk => ?_, fun k _ hk w hw => ?_, fun l hl => absurd hl (Nat.not_lt_zero _), fun m hm i hi => ?_⟩, fun j hj => absurd hj (Nat.not_lt_zero _), Nat.zero_le _, Nat.zero_le _, fun j hj => absurd hj (Nat.not_lt_zero _)⟩
  · show T0 i ≤ 200
    rw [T0_0 (by omega) (by omega) (by omega) (by omega)]; omega
  · show T0 (64 + s) ≤ 5000
    rw [T0_r (by omega)]; omega
  · show T0 (67 + s) ≤ 30
    rw [T0_0 (by omega) (by omega) (by omega) (by omega)]; omega
  · replace hm : m < T0 408 := hm
    show T0 (314 + m) ≤ 4
    rw [T0_0 (by omega) (by omega) (by omega) (by omega)]; omega
  · replace hm : m < T0 408 := hm
    replace hi : i < T0 (314 + m) := hi
    rw [T0_0 (by omega) (by omega) (by omega) (by omega)] at hi
    exact absurd hi (Nat.not_lt_zero _)
  · show T0 (28 + 5 * k) ≤ _
    rw [T0_0 (by omega) (by omega) (by omega) (by omega)]; omega
  · show T0 (24 + w + 5 * k) = 0
    exact T0_0 (by omega) (by omega) (by omega) (by omega)
  · replace hm : m < T0 408 := hm
    replace hi : i < T0 (314 + m) := hi
    rw [T0_0 (by omega) (by omega) (by omega) (by omega)] at hi
    exact absurd hi (Nat.not_lt_zero _)
