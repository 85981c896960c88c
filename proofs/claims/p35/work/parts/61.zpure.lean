/-! The class: what its calls answer, for arguments in range. -/
theorem dz_in {i b : Nat} (h : i ≤ b) (hb : b < 2147483648) : pu_in (nI i) 0 b := (pu_c (c := i) (a := 0) (b := b) (by omega) (by omega) hb).mpr ⟨Nat.zero_le _, h⟩
theorem dz_tn {i : Nat} (h : i < 2147483648) : tn (nI i) = i := nI_clamp h
theorem dz_count {X : pv_XS} {i : Nat} (h : i ≤ 12) : po_count X (nI i) = (0, pt_count X i, X) := by
  unfold po_count
  rw [if_pos (dz_in h (by decide)), dz_tn (by omega)]
theorem dz_lot {X : pv_XS} {l i : Nat} (hl : l < X.1.2.length) (hb : X.1.2.length ≤ 31) (h : i ≤ 5) : po_lot X (nI l) (nI i) = (0, nI (pt_lot X.1 l i), X) := by
  unfold po_lot
  rw [if_pos ((pu_hasN (by omega) (by omega)).mpr hl), if_pos (dz_in h (by decide)), dz_tn (by omega), dz_tn (by omega)]
theorem dz_store {X : pv_XS} {l i : Nat} (hl : l < 3) (h : i ≤ 3) : po_store X (nI l) (nI i) = (0, nI (pt_store X.1 l i), X) := by
  unfold po_store
  rw [if_pos ((pu_hasN (by omega) (by omega)).mpr hl), if_pos (dz_in h (by decide)), dz_tn (by omega), dz_tn (by omega)]
theorem dz_kind {X : pv_XS} {l i : Nat} (hl : l < X.1.1 405) (hb : X.1.1 405 ≤ 8) (h : i ≤ 9) : po_kind X (nI l) (nI i) = (0, nI (pt_kindv X.1 l i), X) := by
  unfold po_kind
  rw [if_pos ((pu_hasN (by omega) (by omega)).mpr hl), if_pos (dz_in h (by decide)), dz_tn (by omega), dz_tn (by omega)]
theorem dz_best {X : pv_XS} {l : Nat} (hl : l < X.1.1 405) (hb : X.1.1 405 ≤ 8) : po_best X (nI l) = (0, oI (pt_best X.1.1 l), X) := by
  unfold po_best
  rw [if_pos ((pu_hasN (by omega) (by omega)).mpr hl), dz_tn (by omega)]
theorem dz_menu {X : pv_XS} {m i j : Nat} (hm : m < X.1.1 408) (hb : X.1.1 408 ≤ 10) (hi : i < 4) (h : j ≤ 2) : po_menu X (nI m) (nI i) (nI j) = (0, nI (pt_menu X.1 m i j), X) := by
  unfold po_menu
  rw [if_pos ⟨(pu_hasN (by omega) (by omega)).mpr hm, (pu_hasN (by omega) (by omega)).mpr hi⟩, if_pos (dz_in h (by decide)), dz_tn (by omega), dz_tn (by omega), dz_tn (by omega)]
theorem dz_ok {K : pv_Q} {I : pv_IT} {J : pv_JT} {xs : List String} {r : pv_RS} {v : Int32} {X : pv_XS} (hr : r = (0, v, X)) (h : ∀ I' : pv_IT, CA I' X → (∀ k, 365 ≤ k → I' k = I k) → K (.inl (some (.int v))) pv_K0 pv_P0 I' J) : po_ok K I J xs r := by
  subst hr
  intro I' hC hF
  exact h I' hC hF
