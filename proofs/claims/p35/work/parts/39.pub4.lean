/-! The class: its calls that foresee. -/
def pt_outc (T : pv_T) (s : pv_S) (w : Nat) : Int32 := if w = 0 then nI (pt_sum s.1 1 8) - nI (pt_sum T 1 8) else if w = 1 then nI (pt_sum s.1 2 8) - nI (pt_sum T 2 8) else if w = 2 then nI (pt_sum s.1 4 8) - nI (pt_sum T 4 8) else if w = 3 then nI (s.1 412) - nI (T 412) else nI (ps_all s.2)
theorem pt_ahead_is {s : pv_S} {d w : Nat} : pt_ahead s d w = pt_outc s.1 (pd_days s d) w := rfl
theorem pt_wait_le {T : pv_T} : pt_wait T ≤ 60 := by
  unfold pt_wait
  split
  · exact Nat.le_refl _
  · omega
theorem pt_bestN_le {T : pv_T} {k : Nat} (hb : tb T) (hk : k < 8) : ∀ s, s ≤ 3 → (pt_bestN T k s).2 ≤ 200
  | 0, _ => Nat.zero_le _
  | s + 1, h => by
    unfold pt_bestN
    split
    · exact pt_now_le hb hk (by omega)
    · exact pt_bestN_le hb hk s (by omega)
theorem pt_cheapN_lt {T : pv_T} {k : Nat} : ∀ {n b : Nat}, pt_cheapN T k n = some b → b < n
  | 0, b, h => by cases h
  | n + 1, b, h => by
    rw [pt_cheapN] at h
    by_cases e : T 404 ≤ T (324 + 10 * n) ∧ 0 < pt_price T n k
    · rw [if_pos e] at h
      cases e2 : pt_cheapN T k n with
      | none =>
        rw [e2] at h
        have h9 : n = b := Option.some.inj h
        omega
      | some c =>
        rw [e2] at h
        have h3 := pt_cheapN_lt e2
        by_cases e3 : pt_price T n k < pt_price T c k
        · have h9 : n = b := Option.some.inj (by rw [← h]; exact (if_pos e3).symm)
          omega
        · have h9 : c = b := Option.some.inj (by rw [← h]; exact (if_neg e3).symm)
          omega
    · rw [if_neg e] at h
      have h3 := pt_cheapN_lt h
      omega
