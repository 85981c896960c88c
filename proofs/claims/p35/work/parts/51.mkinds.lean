theorem pu_hasN {v n : Nat} (hv : v < 2147483648) (hn : n < 2147483648) : pu_has (nI v) n ↔ v < n := by
  unfold pu_has
  rw [nI_leI (by omega) hv, Int32.lt_iff_toInt_lt, nI_toInt hv, nI_toInt hn]
  omega
