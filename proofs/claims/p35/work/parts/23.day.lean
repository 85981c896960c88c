/-! A day, as numbers; and how a ship changes part by part. -/
theorem CR_sc {I I' : pv_IT} {q : Nat} {T T' : pv_T} {L : List pv_Lot} (h : CR I q T L) (h1 : sc I' q T') (hF : ∀ k, q ≤ k → k < q + 42 → ¬ (q + 0 ≤ k ∧ k < q + 1) → I' k = I k) (hT : ∀ i, ¬ (i = 404 ∨ (409 ≤ i ∧ i ≤ 412)) → T' i = T i) : CR I' q T' L :=
  ⟨h1, ck_T (ck_of h.2.1 (fun k h2 h3 => hF k (by omega) (by omega) (by omega))) (fun i hi => hT i (by omega)), cs_T (cs_of h.2.2.1 (fun k h2 h3 => hF k (by omega) (by omega) (by omega))) (fun i hi hi2 => hT i (by omega)), lt_of h.2.2.2.1 (fun k h2 h3 => hF k (by omega) (by omega) (by omega)), cp_T (cp_of h.2.2.2.2.1 (fun k h2 h3 => hF k (by omega) (by omega) (by omega))) (fun i hi hi2 => hT i (by omega)), cm_T (cm_of h.2.2.2.2.2 (fun k h2 h3 => hF k (by omega) (by omega) (by omega))) (fun i hi => hT i (by omega))⟩
theorem CR_ck {I I' : pv_IT} {q : Nat} {T T' : pv_T} {L : List pv_Lot} (h : CR I q T L) (h1 : ck I' (q + 1) T') (hF : ∀ k, q ≤ k → k < q + 42 → ¬ (q + 1 ≤ k ∧ k < q + 14) → I' k = I k) (hT : ∀ i, ¬ (i < 64 ∨ i = 405) → T' i = T i) : CR I' q T' L :=
  ⟨sc_T (sc_of h.1 (hF q (Nat.le_refl _) (by omega) (by omega))) (fun i hi => hT i (by omega)), h1, cs_T (cs_of h.2.2.1 (fun k h2 h3 => hF k (by omega) (by omega) (by omega))) (fun i hi hi2 => hT i (by omega)), lt_of h.2.2.2.1 (fun k h2 h3 => hF k (by omega) (by omega) (by omega)), cp_T (cp_of h.2.2.2.2.1 (fun k h2 h3 => hF k (by omega) (by omega) (by omega))) (fun i hi hi2 => hT i (by omega)), cm_T (cm_of h.2.2.2.2.2 (fun k h2 h3 => hF k (by omega) (by omega) (by omega))) (fun i hi => hT i (by omega))⟩
theorem CR_cs {I I' : pv_IT} {q : Nat} {T T' : pv_T} {L : List pv_Lot} (h : CR I q T L) (h1 : cs I' (q + 14) T') (hF : ∀ k, q ≤ k → k < q + 42 → ¬ (q + 14 ≤ k ∧ k < q + 19) → I' k = I k) (hT : ∀ i, ¬ (64 ≤ i ∧ i < 70) → T' i = T i) : CR I' q T' L :=
  ⟨sc_T (sc_of h.1 (hF q (Nat.le_refl _) (by omega) (by omega))) (fun i hi => hT i (by omega)), ck_T (ck_of h.2.1 (fun k h2 h3 => hF k (by omega) (by omega) (by omega))) (fun i hi => hT i (by omega)), h1, lt_of h.2.2.2.1 (fun k h2 h3 => hF k (by omega) (by omega) (by omega)), cp_T (cp_of h.2.2.2.2.1 (fun k h2 h3 => hF k (by omega) (by omega) (by omega))) (fun i hi hi2 => hT i (by omega)), cm_T (cm_of h.2.2.2.2.2 (fun k h2 h3 => hF k (by omega) (by omega) (by omega))) (fun i hi => hT i (by omega))⟩
theorem CR_lt {I I' : pv_IT} {q : Nat} {T : pv_T} {L L' : List pv_Lot} (h : CR I q T L) (h1 : lt_c I' (q + 19) L') (hF : ∀ k, q ≤ k → k < q + 42 → ¬ (q + 19 ≤ k ∧ k < q + 28) → I' k = I k) : CR I' q T L' :=
  ⟨sc_of h.1 (hF q (Nat.le_refl _) (by omega) (by omega)), ck_of h.2.1 (fun k h2 h3 => hF k (by omega) (by omega) (by omega)), cs_of h.2.2.1 (fun k h2 h3 => hF k (by omega) (by omega) (by omega)), h1, cp_of h.2.2.2.2.1 (fun k h2 h3 => hF k (by omega) (by omega) (by omega)), cm_of h.2.2.2.2.2 (fun k h2 h3 => hF k (by omega) (by omega) (by omega))⟩
theorem CR_cp {I I' : pv_IT} {q : Nat} {T T' : pv_T} {L : List pv_Lot} (h : CR I q T L) (h1 : cp I' (q + 28) T') (hF : ∀ k, q ≤ k → k < q + 42 → ¬ (q + 28 ≤ k ∧ k < q + 35) → I' k = I k) (hT : ∀ i, ¬ ((324 ≤ i ∧ i < 404) ∨ i = 407) → T' i = T i) : CR I' q T' L :=
  ⟨sc_T (sc_of h.1 (hF q (Nat.le_refl _) (by omega) (by omega))) (fun i hi => hT i (by omega)), ck_T (ck_of h.2.1 (fun k h2 h3 => hF k (by omega) (by omega) (by omega))) (fun i hi => hT i (by omega)), cs_T (cs_of h.2.2.1 (fun k h2 h3 => hF k (by omega) (by omega) (by omega))) (fun i hi hi2 => hT i (by omega)), lt_of h.2.2.2.1 (fun k h2 h3 => hF k (by omega) (by omega) (by omega)), h1, cm_T (cm_of h.2.2.2.2.2 (fun k h2 h3 => hF k (by omega) (by omega) (by omega))) (fun i hi => hT i (by omega))⟩
theorem CR_cm {I I' : pv_IT} {q : Nat} {T T' : pv_T} {L : List pv_Lot} (h : CR I q T L) (h1 : cm I' (q + 35) T') (hF : ∀ k, q ≤ k → k < q + 42 → ¬ (q + 35 ≤ k ∧ k < q + 42) → I' k = I k) (hT : ∀ i, ¬ ((194 ≤ i ∧ i < 324) ∨ i = 408) → T' i = T i) : CR I' q T' L :=
  ⟨sc_T (sc_of h.1 (hF q (Nat.le_refl _) (by omega) (by omega))) (fun i hi => hT i (by omega)), ck_T (ck_of h.2.1 (fun k h2 h3 => hF k (by omega) (by omega) (by omega))) (fun i hi => hT i (by omega)), cs_T (cs_of h.2.2.1 (fun k h2 h3 => hF k (by omega) (by omega) (by omega))) (fun i hi hi2 => hT i (by omega)), lt_of h.2.2.2.1 (fun k h2 h3 => hF k (by omega) (by omega) (by omega)), cp_T (cp_of h.2.2.2.2.1 (fun k h2 h3 => hF k (by omega) (by omega) (by omega))) (fun i hi hi2 => hT i (by omega)), h1⟩
theorem ck_bought {I : pv_IT} {q k x : Nat} {T : pv_T} (h : ck I q T) (hk : k < 8) : ck (pv_uI I (q + 4) k (I (q + 4) k + nI x)) q (pt_up T (24 + 5 * k) (T (24 + 5 * k) + x)) := by
  obtain ⟨h1, h2, h3⟩ := h
  refine ⟨?_, fun i hi => ?_, fun j hj => ?_⟩
  · rw [pv_uI_ne (by omega), pt_un (by omega)]; exact h1
  · rw [pv_uI_ne (by omega), pt_un (by omega)]; exact h2 i hi
  · have h4 := h3 j hj
    have h5 := h3 k hk
    by_cases e : j = k
    · subst e
      simp only [pv_uI_at, pt_at]
      refine ⟨?_, ?_, ?_, ?_, ?_⟩
      · rw [if_pos (by simp), if_pos (by simp)]; rw [h5.1]; exact nI_add _ _
      · rw [if_neg (by omega), if_neg (by omega)]; exact h4.2.1
      · rw [if_neg (by omega), if_neg (by omega)]; exact h4.2.2.1
      · rw [if_neg (by omega), if_neg (by omega)]; exact h4.2.2.2.1
      · rw [if_neg (by omega), if_neg (by omega)]; exact h4.2.2.2.2
    · simp only [pv_uI_at, pt_at]
      rw [if_neg (by omega), if_neg (by omega), if_neg (by omega), if_neg (by omega), if_neg (by omega), if_neg (by omega), if_neg (by omega), if_neg (by omega), if_neg (by omega), if_neg (by omega)]
      exact h4
theorem CR_bought {I : pv_IT} {q k x : Nat} {T : pv_T} {L : List pv_Lot} (h : CR I q T L) (hk : k < 8) : CR (pv_uI I (q + 5) k (I (q + 5) k + nI x)) q (pt_up T (24 + 5 * k) (T (24 + 5 * k) + x)) L := by
  have e : q + 5 = q + 1 + 4 := by omega
  rw [e]
  exact CR_ck h (ck_bought h.2.1 hk) (fun k h1 h2 h3 => pv_uI_ne (by omega)) (fun i hi => pt_un (by omega))
theorem ck_eaten {I : pv_IT} {q k x : Nat} {T : pv_T} (h : ck I q T) (hk : k < 8) : ck (pv_uI I (q + 6) k (I (q + 6) k + nI x)) q (pt_up T (25 + 5 * k) (T (25 + 5 * k) + x)) := by
  obtain ⟨h1, h2, h3⟩ := h
  refine ⟨?_, fun i hi => ?_, fun j hj => ?_⟩
  · rw [pv_uI_ne (by omega), pt_un (by omega)]; exact h1
  · rw [pv_uI_ne (by omega), pt_un (by omega)]; exact h2 i hi
  · have h4 := h3 j hj
    have h5 := h3 k hk
    by_cases e : j = k
    · subst e
      simp only [pv_uI_at, pt_at]
      refine ⟨?_, ?_, ?_, ?_, ?_⟩
      · rw [if_neg (by omega), if_neg (by omega)]; exact h4.1
      · rw [if_pos (by simp), if_pos (by simp)]; rw [h5.2.1]; exact nI_add _ _
      · rw [if_neg (by omega), if_neg (by omega)]; exact h4.2.2.1
      · rw [if_neg (by omega), if_neg (by omega)]; exact h4.2.2.2.1
      · rw [if_neg (by omega), if_neg (by omega)]; exact h4.2.2.2.2
    · simp only [pv_uI_at, pt_at]
      rw [if_neg (by omega), if_neg (by omega), if_neg (by omega), if_neg (by omega), if_neg (by omega), if_neg (by omega), if_neg (by omega), if_neg (by omega), if_neg (by omega), if_neg (by omega)]
      exact h4
theorem CR_eaten {I : pv_IT} {q k x : Nat} {T : pv_T} {L : List pv_Lot} (h : CR I q T L) (hk : k < 8) : CR (pv_uI I (q + 7) k (I (q + 7) k + nI x)) q (pt_up T (25 + 5 * k) (T (25 + 5 * k) + x)) L := by
  have e : q + 7 = q + 1 + 6 := by omega
  rw [e]
  exact CR_ck h (ck_eaten h.2.1 hk) (fun k h1 h2 h3 => pv_uI_ne (by omega)) (fun i hi => pt_un (by omega))
theorem ck_spoiled {I : pv_IT} {q k x : Nat} {T : pv_T} (h : ck I q T) (hk : k < 8) : ck (pv_uI I (q + 8) k (I (q + 8) k + nI x)) q (pt_up T (26 + 5 * k) (T (26 + 5 * k) + x)) := by
  obtain ⟨h1, h2, h3⟩ := h
  refine ⟨?_, fun i hi => ?_, fun j hj => ?_⟩
  · rw [pv_uI_ne (by omega), pt_un (by omega)]; exact h1
  · rw [pv_uI_ne (by omega), pt_un (by omega)]; exact h2 i hi
  · have h4 := h3 j hj
    have h5 := h3 k hk
    by_cases e : j = k
    · subst e
      simp only [pv_uI_at, pt_at]
      refine ⟨?_, ?_, ?_, ?_, ?_⟩
      · rw [if_neg (by omega), if_neg (by omega)]; exact h4.1
      · rw [if_neg (by omega), if_neg (by omega)]; exact h4.2.1
      · rw [if_pos (by simp), if_pos (by simp)]; rw [h5.2.2.1]; exact nI_add _ _
      · rw [if_neg (by omega), if_neg (by omega)]; exact h4.2.2.2.1
      · rw [if_neg (by omega), if_neg (by omega)]; exact h4.2.2.2.2
    · simp only [pv_uI_at, pt_at]
      rw [if_neg (by omega), if_neg (by omega), if_neg (by omega), if_neg (by omega), if_neg (by omega), if_neg (by omega), if_neg (by omega), if_neg (by omega), if_neg (by omega), if_neg (by omega)]
      exact h4
theorem CR_spoiled {I : pv_IT} {q k x : Nat} {T : pv_T} {L : List pv_Lot} (h : CR I q T L) (hk : k < 8) : CR (pv_uI I (q + 9) k (I (q + 9) k + nI x)) q (pt_up T (26 + 5 * k) (T (26 + 5 * k) + x)) L := by
  have e : q + 9 = q + 1 + 8 := by omega
  rw [e]
  exact CR_ck h (ck_spoiled h.2.1 hk) (fun k h1 h2 h3 => pv_uI_ne (by omega)) (fun i hi => pt_un (by omega))
theorem ck_thrown {I : pv_IT} {q k x : Nat} {T : pv_T} (h : ck I q T) (hk : k < 8) : ck (pv_uI I (q + 10) k (I (q + 10) k + nI x)) q (pt_up T (27 + 5 * k) (T (27 + 5 * k) + x)) := by
  obtain ⟨h1, h2, h3⟩ := h
  refine ⟨?_, fun i hi => ?_, fun j hj => ?_⟩
  · rw [pv_uI_ne (by omega), pt_un (by omega)]; exact h1
  · rw [pv_uI_ne (by omega), pt_un (by omega)]; exact h2 i hi
  · have h4 := h3 j hj
    have h5 := h3 k hk
    by_cases e : j = k
    · subst e
      simp only [pv_uI_at, pt_at]
      refine ⟨?_, ?_, ?_, ?_, ?_⟩
      · rw [if_neg (by omega), if_neg (by omega)]; exact h4.1
      · rw [if_neg (by omega), if_neg (by omega)]; exact h4.2.1
      · rw [if_neg (by omega), if_neg (by omega)]; exact h4.2.2.1
      · rw [if_pos (by simp), if_pos (by simp)]; rw [h5.2.2.2.1]; exact nI_add _ _
      · rw [if_neg (by omega), if_neg (by omega)]; exact h4.2.2.2.2
    · simp only [pv_uI_at, pt_at]
      rw [if_neg (by omega), if_neg (by omega), if_neg (by omega), if_neg (by omega), if_neg (by omega), if_neg (by omega), if_neg (by omega), if_neg (by omega), if_neg (by omega), if_neg (by omega)]
      exact h4
theorem CR_thrown {I : pv_IT} {q k x : Nat} {T : pv_T} {L : List pv_Lot} (h : CR I q T L) (hk : k < 8) : CR (pv_uI I (q + 11) k (I (q + 11) k + nI x)) q (pt_up T (27 + 5 * k) (T (27 + 5 * k) + x)) L := by
  have e : q + 11 = q + 1 + 10 := by omega
  rw [e]
  exact CR_ck h (ck_thrown h.2.1 hk) (fun k h1 h2 h3 => pv_uI_ne (by omega)) (fun i hi => pt_un (by omega))
theorem ck_lacking {I : pv_IT} {q k x : Nat} {T : pv_T} (h : ck I q T) (hk : k < 8) : ck (pv_uI I (q + 12) k (I (q + 12) k + nI x)) q (pt_up T (28 + 5 * k) (T (28 + 5 * k) + x)) := by
  obtain ⟨h1, h2, h3⟩ := h
  refine ⟨?_, fun i hi => ?_, fun j hj => ?_⟩
  · rw [pv_uI_ne (by omega), pt_un (by omega)]; exact h1
  · rw [pv_uI_ne (by omega), pt_un (by omega)]; exact h2 i hi
  · have h4 := h3 j hj
    have h5 := h3 k hk
    by_cases e : j = k
    · subst e
      simp only [pv_uI_at, pt_at]
      refine ⟨?_, ?_, ?_, ?_, ?_⟩
      · rw [if_neg (by omega), if_neg (by omega)]; exact h4.1
      · rw [if_neg (by omega), if_neg (by omega)]; exact h4.2.1
      · rw [if_neg (by omega), if_neg (by omega)]; exact h4.2.2.1
      · rw [if_neg (by omega), if_neg (by omega)]; exact h4.2.2.2.1
      · rw [if_pos (by simp), if_pos (by simp)]; rw [h5.2.2.2.2]; exact nI_add _ _
    · simp only [pv_uI_at, pt_at]
      rw [if_neg (by omega), if_neg (by omega), if_neg (by omega), if_neg (by omega), if_neg (by omega), if_neg (by omega), if_neg (by omega), if_neg (by omega), if_neg (by omega), if_neg (by omega)]
      exact h4
theorem CR_lacking {I : pv_IT} {q k x : Nat} {T : pv_T} {L : List pv_Lot} (h : CR I q T L) (hk : k < 8) : CR (pv_uI I (q + 13) k (I (q + 13) k + nI x)) q (pt_up T (28 + 5 * k) (T (28 + 5 * k) + x)) L := by
  have e : q + 13 = q + 1 + 12 := by omega
  rw [e]
  exact CR_ck h (ck_lacking h.2.1 hk) (fun k h1 h2 h3 => pv_uI_ne (by omega)) (fun i hi => pt_un (by omega))
theorem CR_amt {I : pv_IT} {q l v : Nat} {T : pv_T} {L : List pv_Lot} (h : CR I q T L) (hl : l < L.length) (hv : v ≤ 2000) : CR (pv_uI I (q + 25) l (nI v)) q T (L.set l ((pl_g L l).1, (pl_g L l).2.1, v, (pl_g L l).2.2.2)) := by
  have e : q + 25 = q + 19 + 6 := by omega
  rw [e]
  exact CR_lt h (lt_amt h.2.2.2.1 hl hv) (fun k h1 h2 h3 => pv_uI_ne (by omega))
theorem CR_age {I : pv_IT} {q l v : Nat} {T : pv_T} {L : List pv_Lot} (h : CR I q T L) (hl : l < L.length) (hv : v ≤ 2000) : CR (pv_uI I (q + 27) l (nI v)) q T (L.set l ((pl_g L l).1, (pl_g L l).2.1, (pl_g L l).2.2.1, v)) := by
  have e : q + 27 = q + 19 + 8 := by omega
  rw [e]
  exact CR_lt h (lt_age h.2.2.2.1 hl hv) (fun k h1 h2 h3 => pv_uI_ne (by omega))
theorem CR_sto {I : pv_IT} {q l v : Nat} {T : pv_T} {L : List pv_Lot} (h : CR I q T L) (hl : l < L.length) (hv : v < 3) : CR (pv_uI I (q + 23) l (nI v)) q T (L.set l ((pl_g L l).1, v, (pl_g L l).2.2.1, (pl_g L l).2.2.2)) := by
  have e : q + 23 = q + 19 + 4 := by omega
  rw [e]
  exact CR_lt h (lt_sto h.2.2.2.1 hl hv) (fun k h1 h2 h3 => pv_uI_ne (by omega))
/-- weak bounds of all that a day looks at -/
def mb (T : pv_T) : Prop := 1 ≤ T 408 ∧ T 408 ≤ 10 ∧ ∀ m, m < T 408 → T (314 + m) ≤ 4 ∧ ∀ i, i < T (314 + m) → T (194 + 12 * m + 3 * i) < 8 ∧ 1 ≤ T (195 + 12 * m + 3 * i) ∧ T (195 + 12 * m + 3 * i) ≤ 9 ∧ (T (196 + 12 * m + 3 * i) = 4294967295 ∨ T (196 + 12 * m + 3 * i) < 8)
def tb (T : pv_T) : Prop := (∀ i, i < 24 → T i ≤ 200) ∧ (∀ s, s < 3 → T (64 + s) ≤ 5000 ∧ T (67 + s) ≤ 30) ∧ T 405 ≤ 8 ∧ (1 ≤ T 409 ∧ T 409 ≤ 100) ∧ T 410 ≤ 1000000 ∧ pw T ∧ mb T
/-- a lot as it lies over night: not spoiled, not empty -/
def lv_ok (x : pv_Lot) : Prop := 1 ≤ x.2.2.1 ∧ x.2.2.2 < 1000
def lo_ok (L : List pv_Lot) : Prop := ∀ l, l < L.length → lv_ok (pl_g L l)
def pt_step (v : Nat) : Nat := if v < 1 then 1000 else 1000 / v
def pt_steps (m s : Nat) : Nat := (m + s - 1) / s
theorem pt_step_le {v : Nat} : pt_step v ≤ 1000 := by
  unfold pt_step
  split
  · exact Nat.le_refl _
  · exact Nat.div_le_self _ _
theorem pt_step_ge {v : Nat} (h : v ≤ 200) : 5 ≤ pt_step v := by
  unfold pt_step
  split
  · omega
  · exact (Nat.le_div_iff_mul_le (by omega)).mpr (by omega)
def pt_now (T : pv_T) (k s : Nat) : Nat := if 0 < T (67 + s) then T (k * 3 + 0) else T (k * 3 + s)
def pt_left (T : pv_T) (x : pv_Lot) : Nat :=
  if 1000 - x.2.2.2 ≤ T (67 + x.2.1) * pt_step (pt_life T x.1 0) then pt_steps (1000 - x.2.2.2) (pt_step (pt_life T x.1 0))
  else T (67 + x.2.1) + pt_steps (1000 - x.2.2.2 - T (67 + x.2.1) * pt_step (pt_life T x.1 0)) (pt_step (pt_life T x.1 x.2.1))
theorem pt_steps_le {m s : Nat} (h : m ≤ 1000) (hs : 5 ≤ s) (h2 : s ≤ 1000) : pt_steps m s ≤ 1999 := by
  unfold pt_steps
  exact Nat.le_trans (Nat.div_le_self _ _) (by omega)
theorem pt_life_le {T : pv_T} {k s : Nat} (h : tb T) (hk : k < 8) (hs : s < 3) : pt_life T k s ≤ 200 := h.1 _ (by omega)
theorem pt_now_le {T : pv_T} {k s : Nat} (h : tb T) (hk : k < 8) (hs : s < 3) : pt_now T k s ≤ 200 := by
  unfold pt_now
  split
  · exact h.1 _ (by omega)
  · exact h.1 _ (by omega)
theorem pt_left_le {T : pv_T} {x : pv_Lot} (h : tb T) (hx : lb x) : pt_left T x ≤ 2100 := by
  have h1 := (h.2.1 x.2.1 hx.2.1).2
  have h2 := pt_step_ge (pt_life_le h hx.1 (s := 0) (by omega))
  have h3 := pt_step_ge (pt_life_le h hx.1 hx.2.1)
  have h4 := pt_steps_le (m := 1000 - x.2.2.2) (by omega) h2 pt_step_le
  have h5 := pt_steps_le (m := 1000 - x.2.2.2 - T (67 + x.2.1) * pt_step (pt_life T x.1 0)) (by omega) h3 pt_step_le
  unfold pt_left
  split
  · omega
  · omega
/-- the place of a lot in the order in which those of its kind are eaten -/
def pt_place1 (T : pv_T) (L : List pv_Lot) (l j : Nat) : Nat :=
  if (pl_g L j).1 = (pl_g L l).1 then (if pt_left T (pl_g L j) < pt_left T (pl_g L l) ∨ (pt_left T (pl_g L j) = pt_left T (pl_g L l) ∧ j < l) then 1 else 0) else 0
def pt_eatp (T : pv_T) (L : List pv_Lot) (l : Nat) : Nat := pn_sum (pt_place1 T L l) L.length
-- eating
def pe_next (D : Nat → Nat) (k : Nat) (L : List pv_Lot) : Nat → Option Nat
  | 0 => none
  | i + 1 => if (pl_g L i).1 = k ∧ 0 < (pl_g L i).2.2.1 then (match pe_next D k L i with
      | none => some i
      | some b => if D i < D b then some i else some b) else pe_next D k L i
theorem pe_next_is {D : Nat → Nat} {k : Nat} {L : List pv_Lot} : ∀ {n b : Nat}, pe_next D k L n = some b → b < n ∧ (pl_g L b).1 = k ∧ 0 < (pl_g L b).2.2.1
  | 0, b, h => by cases h
  | n + 1, b, h => by
    unfold pe_next at h
    by_cases e : (pl_g L n).1 = k ∧ 0 < (pl_g L n).2.2.1
    · rw [if_pos e] at h
      cases e2 : pe_next D k L n with
      | none =>
        rw [e2] at h
        have h9 : n = b := Option.some.inj h
        rw [← h9]
        exact ⟨by omega, e⟩
      | some c =>
        rw [e2] at h
        have h3 := pe_next_is e2
        by_cases e3 : D n < D c
        · have h9 : n = b := Option.some.inj (by rw [← h]; exact (if_pos e3).symm)
          rw [← h9]
          exact ⟨by omega, e⟩
        · have h9 : c = b := Option.some.inj (by rw [← h]; exact (if_neg e3).symm)
          rw [← h9]
          exact ⟨by omega, h3.2⟩
    · rw [if_neg e] at h
      have h3 := pe_next_is h
      exact ⟨by omega, h3.2⟩
def pl_amt (L : List pv_Lot) (b v : Nat) : List pv_Lot := L.set b ((pl_g L b).1, (pl_g L b).2.1, v, (pl_g L b).2.2.2)
def pe_eat (D : Nat → Nat) (k : Nat) : Nat → Nat → List pv_Lot → Nat × List pv_Lot
  | 0, a, L => (a, L)
  | f + 1, a, L => if a = 0 then (a, L) else (match pe_next D k L L.length with
      | none => (a, L)
      | some b => pe_eat D k f (a - min a (pl_g L b).2.2.1) (pl_amt L b ((pl_g L b).2.2.1 - min a (pl_g L b).2.2.1)))
theorem pl_amt_len {L : List pv_Lot} {b v : Nat} : (pl_amt L b v).length = L.length := List.length_set
theorem pe_eat0 {D : Nat → Nat} {k : Nat} {L : List pv_Lot} : ∀ {f : Nat}, pe_eat D k f 0 L = (0, L)
  | 0 => rfl
  | f + 1 => by unfold pe_eat; exact if_pos rfl
theorem pe_eat_none {D : Nat → Nat} {k a : Nat} {L : List pv_Lot} (h : pe_next D k L L.length = none) : ∀ {f : Nat}, pe_eat D k f a L = (a, L)
  | 0 => rfl
  | f + 1 => by
    unfold pe_eat
    by_cases e : a = 0
    · rw [if_pos e]
    · rw [if_neg e, h]
theorem pe_eat_some {D : Nat → Nat} {k a b f : Nat} {L : List pv_Lot} (h : pe_next D k L L.length = some b) (ha : 0 < a) : pe_eat D k (f + 1) a L = pe_eat D k f (a - min a (pl_g L b).2.2.1) (pl_amt L b ((pl_g L b).2.2.1 - min a (pl_g L b).2.2.1)) := by
  rw [pe_eat, if_neg (by omega), h]
theorem lbs_amt {L : List pv_Lot} {b v : Nat} (h : lbs L) (hb : b < L.length) (hv : v ≤ 2000) : lbs (pl_amt L b v) := by
  have h1 := h.2 b hb
  exact lbs_set h hb ⟨h1.1, h1.2.1, hv, h1.2.2.2⟩
theorem pe_eat_ok {D : Nat → Nat} {k : Nat} : ∀ {f a : Nat} {L : List pv_Lot}, lbs L → lbs (pe_eat D k f a L).2 ∧ (pe_eat D k f a L).1 ≤ a ∧ (pe_eat D k f a L).2.length = L.length
  | 0, a, L, h => ⟨h, Nat.le_refl _, rfl⟩
  | f + 1, a, L, h => by
    by_cases e : a = 0
    · subst e
      rw [pe_eat0]
      exact ⟨h, Nat.le_refl _, rfl⟩
    · cases e2 : pe_next D k L L.length with
      | none => rw [pe_eat_none e2]; exact ⟨h, Nat.le_refl _, rfl⟩
      | some b =>
        rw [pe_eat_some e2 (by omega)]
        have hb := (pe_next_is e2).1
        have h1 := h.2 b hb
        have h3 := pe_eat_ok (D := D) (k := k) (f := f) (a := a - min a (pl_g L b).2.2.1) (lbs_amt h hb (v := (pl_g L b).2.2.1 - min a (pl_g L b).2.2.1) (by have := h1.2.2.1; omega))
        refine ⟨h3.1, Nat.le_trans h3.2.1 (Nat.sub_le _ _), ?_⟩
        rw [h3.2.2, pl_amt_len]
/-- what a meal does: of a kind, so much: what is lacking, the state behind -/
abbrev pv_S : Type := pv_T × List pv_Lot
def pd_eat (D : Nat → Nat) (k a : Nat) (s : pv_S) : Nat × pv_S :=
  ((pe_eat D k s.2.length a s.2).1, pt_up s.1 (25 + 5 * k) (s.1 (25 + 5 * k) + (a - (pe_eat D k s.2.length a s.2).1)), (pe_eat D k s.2.length a s.2).2)
def pd_meal (D : Nat → Nat) (k a b : Nat) (s : pv_S) : Nat × pv_S := if b = 4294967295 then pd_eat D k a s else pd_eat D b (pd_eat D k a s).1 (pd_eat D k a s).2
def pd_lack (k : Nat) (r : Nat × pv_S) : Nat × pv_S := (r.1, pt_up r.2.1 (28 + 5 * k) (r.2.1 (28 + 5 * k) + r.1), r.2.2)
def pd_item (D : Nat → Nat) (m i : Nat) (s : pv_S) : Nat × pv_S :=
  if i < s.1 (314 + m) then pd_lack (s.1 (194 + 12 * m + 3 * i)) (pd_meal D (s.1 (194 + 12 * m + 3 * i)) (s.1 (195 + 12 * m + 3 * i) * s.1 409) (s.1 (196 + 12 * m + 3 * i)) s) else (0, s)
def pd_items (D : Nat → Nat) (m : Nat) (s : pv_S) : Nat → Nat × pv_S
  | 0 => (0, s)
  | i + 1 => ((pd_items D m s i).1 + (pd_item D m i (pd_items D m s i).2).1, (pd_item D m i (pd_items D m s i).2).2)
/-- the lots age -/
def pd_grown (T : pv_T) (x : pv_Lot) : Nat := x.2.2.2 + pt_step (pt_now T x.1 x.2.1)
def pd_old (T : pv_T) (x : pv_Lot) : pv_Lot := (x.1, x.2.1, if 1000 ≤ pd_grown T x then 0 else x.2.2.1, pd_grown T x)
def pd_spoil (T : pv_T) (A : pv_T) (x : pv_Lot) : pv_T := if 1000 ≤ pd_grown T x then pt_up A (26 + 5 * x.1) (A (26 + 5 * x.1) + x.2.2.1) else A
def pd_age (s : pv_S) : pv_S := (s.2.foldl (pd_spoil s.1) s.1, pl_drop (s.2.map (pd_old s.1)))
def pd_night (T : pv_T) : pv_T := fun i => if i = 404 then T 404 + 1 else if 67 ≤ i ∧ i < 70 then T i - 1 else T i
def pd_mornings (s : pv_S) : Nat → Nat := fun l => pt_left s.1 (pl_g s.2 l)
def pd_served (s : pv_S) : Nat × pv_S := pd_items (pd_mornings s) (s.1 404 % s.1 408) s 4
def pd_hungry (r : Nat × pv_S) : pv_S := (if 0 < r.1 then pt_up r.2.1 412 (r.2.1 412 + 1) else r.2.1, r.2.2)
def pd_day (s : pv_S) : pv_S := (pd_night (pd_age (pd_hungry (pd_served s))).1, (pd_age (pd_hungry (pd_served s))).2)
def pd_days (s : pv_S) : Nat → pv_S
  | 0 => s
  | n + 1 => pd_day (pd_days s n)
