theorem pt_place_is {T : pv_T} {d : Nat} (hw : pw T) : pt_place T d ≤ T 407 ∧ (∀ p, p < pt_place T d → T (324 + 10 * p) ≤ d) ∧ ∀ p, pt_place T d ≤ p → p < T 407 → d < T (324 + 10 * p) := by
  unfold pt_place
  cases e : pt_aft T d with
  | none =>
    refine ⟨Nat.le_refl _, fun p hp => ?_, fun p h1 h2 => absurd h2 (Nat.not_lt.mpr h1)⟩
    have h1 := pf_isnone e p hp
    exact Nat.le_of_not_lt fun hlt => by rw [pl_t hlt] at h1; cases h1
  | some p =>
    obtain ⟨h1, h2, h3⟩ := pf_is e
    refine ⟨Nat.le_of_lt h1, fun q hq => ?_, fun q hq hq2 => ?_⟩
    · have h4 := h3 q hq
      exact Nat.le_of_not_lt fun hlt => by rw [pl_t hlt] at h4; cases h4
    · replace hq : p ≤ q := hq
      have h4 : d < T (324 + 10 * p) := Nat.blt_eq.mp h2
      rcases Nat.lt_or_ge p q with h5 | h5
      · have h6 := hw.2.2 p q h5 hq2
        omega
      · rw [show q = p by omega]; exact h4
