/-! The class: the reader's cells. -/
def pcm (I : pv_IT) (W : Nat → Nat) (m i : Nat) : Prop := (i < W (120 + m) → I 360 (m * 4 + i) = nI (W (12 * m + 3 * i)) ∧ I 362 (m * 4 + i) = nI (W (12 * m + 3 * i + 1)) ∧ I 364 (m * 4 + i) = nI (W (12 * m + 3 * i + 2))) ∧ (W (120 + m) ≤ i → I 362 (m * 4 + i) = 0)
def PC (I : pv_IT) (Z : pv_Zp) : Prop := I 355 3 = nI Z.2.2.2.1 - nI 1 ∧ I 355 4 = nI Z.1 ∧ I 355 5 = nI Z.2.2.1 ∧ I 358 0 = nI (Z.2.1 + 1) ∧ (∀ m, m ≤ Z.2.1 → ∀ i, i < 4 → pcm I Z.2.2.2.2 m i) ∧ (∀ m, Z.2.1 < m → m < 10 → ∀ i, i < 4 → I 362 (m * 4 + i) = 0) ∧ (Z.1 = 3 ∨ Z.1 = 4 → I 360 (Z.2.1 * 4 + Z.2.2.1) = nI (Z.2.2.2.2 (12 * Z.2.1 + 3 * Z.2.2.1))) ∧ (3 ≤ Z.1 ∧ Z.1 ≤ 6 → I 364 (Z.2.1 * 4 + Z.2.2.1) = nI 4294967295)
def FT (I I' : pv_IT) : Prop := (∀ k, k ≠ 355 → k ≠ 358 → k ≠ 360 → k ≠ 362 → k ≠ 364 → I' k = I k) ∧ I' 355 0 = I 355 0
theorem FT_r (I : pv_IT) : FT I I := ⟨fun _ _ _ _ _ _ => rfl, rfl⟩
theorem FT_t {I I1 I2 : pv_IT} (h : FT I I1) (g : FT I1 I2) : FT I I2 := ⟨fun k a b c d e => (g.1 k a b c d e).trans (h.1 k a b c d e), g.2.trans h.2⟩
theorem FT_u {I I1 : pv_IT} {k j : Nat} {x : Int32} (h : FT I I1) (hk : k = 355 ∧ j ≠ 0 ∨ k = 358 ∨ k = 360 ∨ k = 362 ∨ k = 364) : FT I (pv_uI I1 k j x) :=
  ⟨fun a h1 h2 h3 h4 h5 => (pv_uI_ne (by omega)).trans (h.1 a h1 h2 h3 h4 h5), by
    simp only [pv_uI_at]
    rw [if_neg (by omega)]
    exact h.2⟩
theorem pn_max {h k : Nat} (hh : h ≤ 8) (hk : k ≤ 8) : (if nI h - nI 1 < nI k then nI k else nI h - nI 1) = nI (max h (k + 1)) - nI 1 := by
  rcases Nat.eq_zero_or_pos h with e | e
  · subst e
    rw [if_pos (by rw [Int32.lt_iff_toInt_lt, pk_sub_toInt (by omega) (by omega), nI_toInt (by omega)]; omega), pk_sub (by omega)]
    exact congrArg nI (by omega)
  · rw [pk_sub e, pk_sub (by omega)]
    by_cases e2 : h - 1 < k
    · rw [if_pos (nI_lt e2 (by omega))]
      exact congrArg nI (by omega)
    · rw [if_neg (nI_nlt (by omega) (by omega))]
      exact congrArg nI (by omega)
theorem PC_to {I : pv_IT} {Z : pv_Zp} {p : Nat} (h : PC I Z) (hp : (Z.1 = 0 ∧ p = 1) ∨ (Z.1 = 3 ∧ p = 4) ∨ (Z.1 = 5 ∧ p = 6)) : PC (pv_uI I 355 4 (nI p)) (pz_to Z p) := by
  obtain ⟨h1, h2, h3, h4, h5, h6, h7, h8⟩ := h
  have e : ∀ k j, ¬ (k = 355 ∧ j = 4) → pv_uI I 355 4 (nI p) k j = I k j := fun k j hk => by simp only [pv_uI_at]; rw [if_neg hk]
  refine ⟨(e _ _ (by omega)).trans h1, ?_, (e _ _ (by omega)).trans h3, (e _ _ (by omega)).trans h4, fun m hm i hi => ?_, fun m hm hm2 i hi => (e _ _ (by omega)).trans (h6 m hm hm2 i hi), fun hx => (e _ _ (by omega)).trans (h7 ?_), fun hx => (e _ _ (by omega)).trans (h8 ?_)⟩
  · simp only [pv_uI_at]; rw [if_pos (by simp)]; rfl
  · have g := h5 m hm i hi
    unfold pcm at g ⊢
    rw [e _ _ (by omega), e _ _ (by omega), e _ _ (by omega)]
    exact g
  · have hx' : p = 3 ∨ p = 4 := hx
    omega
  · have hx' : 3 ≤ p ∧ p ≤ 6 := hx
    omega
theorem PC_item {I : pv_IT} {Z : pv_Zp} {c : Nat} (h : PC I Z) (hz : PZ Z) (hp : Z.1 = 0 ∨ Z.1 = 2) (hc : 48 ≤ c ∧ c ≤ 55) : PC (pv_uI (pv_uI (pv_uI (pv_uI I 360 (Z.2.1 * 4 + Z.2.2.1) (nI (c - 48))) 364 (Z.2.1 * 4 + Z.2.2.1) (-1)) 355 3 (nI (max Z.2.2.2.1 (c - 48 + 1)) - nI 1)) 355 4 (nI 3)) (3, Z.2.1, Z.2.2.1, max Z.2.2.2.1 (c - 48 + 1), pt_up (pt_up (pt_up Z.2.2.2.2 (12 * Z.2.1 + 3 * Z.2.2.1) (c - 48)) (12 * Z.2.1 + 3 * Z.2.2.1 + 1) 0) (12 * Z.2.1 + 3 * Z.2.2.1 + 2) 4294967295) := by
  obtain ⟨p, m, t, hi, W⟩ := Z
  obtain ⟨h1, h2, h3, h4, h5, h6, h7, h8⟩ := h
  obtain ⟨z1, z2, z3, z4, z5, z6, z7, z8, z9⟩ := hz
  simp only at h1 h2 h3 h4 h5 h6 h7 h8 z1 z2 z3 z4 z5 z6 z7 z8 z9 hp ⊢
  have hwl : W (120 + m) = t := by rw [z5, if_neg (by omega)]
  generalize hI : pv_uI (pv_uI (pv_uI (pv_uI I 360 (m * 4 + t) (nI (c - 48))) 364 (m * 4 + t) (-1)) 355 3 (nI (max hi (c - 48 + 1)) - nI 1)) 355 4 (nI 3) = I'
  generalize hW : pt_up (pt_up (pt_up W (12 * m + 3 * t) (c - 48)) (12 * m + 3 * t + 1) 0) (12 * m + 3 * t + 2) 4294967295 = W'
  have e : ∀ k j, ¬ (k = 355 ∧ (j = 3 ∨ j = 4)) → ¬ ((k = 360 ∨ k = 364) ∧ j = m * 4 + t) → I' k j = I k j := fun k j hk hk2 => by
    rw [← hI]; simp only [pv_uI_at]; rw [if_neg (by omega), if_neg (by omega), if_neg (by omega), if_neg (by omega)]
  have w0 : W' (12 * m + 3 * t) = c - 48 := by rw [← hW, pt_un (by omega), pt_un (by omega), pt_us]
  have wo : ∀ j, j < 12 * m + 3 * t ∨ 12 * m + 3 * t + 2 < j → W' j = W j := fun j hj => by rw [← hW, pt_un (by omega), pt_un (by omega), pt_un (by omega)]
  refine ⟨?_, ?_, (e _ _ (by omega) (by omega)).trans h3, (e _ _ (by omega) (by omega)).trans h4, fun m' hm i hi => ?_, fun m' hm hm2 i hi => (e _ _ (by omega) (by omega)).trans (h6 m' hm hm2 i hi), fun hx => ?_, fun hx => ?_⟩
  · rw [← hI]; simp only [pv_uI_at]; rw [if_neg (by omega), if_pos (by simp)]
  · rw [← hI]; simp only [pv_uI_at]; rw [if_pos (by simp)]
  · replace hm : m' ≤ m := hm
    have g := h5 m' hm i hi
    have g4 := (z7 m' hm).1
    show pcm I' W' m' i
    unfold pcm at g ⊢
    rw [wo (120 + m') (by omega)]
    refine ⟨fun hlt => ?_, fun hge => (e _ _ (by omega) (by omega)).trans (g.2 hge)⟩
    have hne : m' * 4 + i ≠ m * 4 + t := by
      rcases Nat.lt_or_ge m' m with h9 | h9
      · omega
      · have : m' = m := by omega
        subst this
        omega
    have hb : 12 * m' + 3 * i + 2 < 12 * m + 3 * t ∨ 12 * m + 3 * t + 2 < 12 * m' + 3 * i := by
      rcases Nat.lt_or_ge m' m with h9 | h9
      · omega
      · have : m' = m := by omega
        subst this
        omega
    have g1 := g.1 hlt
    rw [e _ _ (by omega) (by omega), e _ _ (by omega) (by omega), e _ _ (by omega) (by omega), wo _ (by omega), wo _ (by omega), wo _ (by omega)]
    exact g1
  · show I' 360 (m * 4 + t) = nI (W' (12 * m + 3 * t))
    rw [w0, ← hI]; simp only [pv_uI_at]; rw [if_neg (by omega), if_neg (by omega), if_neg (by omega), if_pos (by simp)]
  · show I' 364 (m * 4 + t) = nI 4294967295
    rw [← hI]; simp only [pv_uI_at]; rw [if_neg (by omega), if_neg (by omega), if_pos (by simp)]; decide
theorem PC_amt {I : pv_IT} {Z : pv_Zp} {c : Nat} (h : PC I Z) (hz : PZ Z) (hp : Z.1 = 4) (hc : 49 ≤ c ∧ c ≤ 57) : PC (pv_uI (pv_uI I 362 (Z.2.1 * 4 + Z.2.2.1) (nI (c - 48))) 355 4 (nI 5)) (5, Z.2.1, Z.2.2.1, Z.2.2.2.1, pt_up (pt_up Z.2.2.2.2 (12 * Z.2.1 + 3 * Z.2.2.1 + 1) (c - 48)) (120 + Z.2.1) (Z.2.2.1 + 1)) := by
  obtain ⟨p, m, t, hi, W⟩ := Z
  obtain ⟨h1, h2, h3, h4, h5, h6, h7, h8⟩ := h
  obtain ⟨z1, z2, z3, z4, z5, z6, z7, z8, z9⟩ := hz
  simp only at h1 h2 h3 h4 h5 h6 h7 h8 z1 z2 z3 z4 z5 z6 z7 z8 z9 hp ⊢
  have hwl : W (120 + m) = t := by rw [z5, if_neg (by omega)]
  generalize hI : pv_uI (pv_uI I 362 (m * 4 + t) (nI (c - 48))) 355 4 (nI 5) = I'
  generalize hW : pt_up (pt_up W (12 * m + 3 * t + 1) (c - 48)) (120 + m) (t + 1) = W'
  have e : ∀ k j, ¬ (k = 355 ∧ j = 4) → ¬ (k = 362 ∧ j = m * 4 + t) → I' k j = I k j := fun k j hk hk2 => by
    rw [← hI]; simp only [pv_uI_at]; rw [if_neg (by omega), if_neg (by omega)]
  have wl : W' (120 + m) = t + 1 := by rw [← hW, pt_us]
  have w1 : W' (12 * m + 3 * t + 1) = c - 48 := by rw [← hW, pt_un (by omega), pt_us]
  have wo : ∀ j, j ≠ 12 * m + 3 * t + 1 → j ≠ 120 + m → W' j = W j := fun j hj hj2 => by rw [← hW, pt_un hj2, pt_un hj]
  refine ⟨(e _ _ (by omega) (by omega)).trans h1, ?_, (e _ _ (by omega) (by omega)).trans h3, (e _ _ (by omega) (by omega)).trans h4, fun m' hm i hi => ?_, fun m' hm hm2 i hi => ?_, fun hx => absurd hx (by simp), fun hx => (e _ _ (by omega) (by omega)).trans (h8 (by omega))⟩
  · rw [← hI]; simp only [pv_uI_at]; rw [if_pos (by simp)]
  · replace hm : m' ≤ m := hm
    have g := h5 m' hm i hi
    have g4 := (z7 m' hm).1
    show pcm I' W' m' i
    unfold pcm at g ⊢
    by_cases e2 : m' = m
    · subst e2
      rw [wl]
      refine ⟨fun hlt => ?_, fun hge => (e _ _ (by omega) (by omega)).trans (g.2 (by omega))⟩
      by_cases e3 : i = t
      · subst e3
        rw [e 360 _ (by omega) (by omega), e 364 _ (by omega) (by omega), wo (12 * m' + 3 * i) (by omega) (by omega), wo (12 * m' + 3 * i + 2) (by omega) (by omega), w1]
        refine ⟨h7 (Or.inr hp), ?_, ?_⟩
        · rw [← hI]; simp only [pv_uI_at]; rw [if_neg (by omega), if_pos (by simp)]
        · rw [z9 (by omega)]
          exact h8 (by omega)
      · have g1 := g.1 (by omega)
        rw [e _ _ (by omega) (by omega), e _ _ (by omega) (by omega), e _ _ (by omega) (by omega), wo _ (by omega) (by omega), wo _ (by omega) (by omega), wo _ (by omega) (by omega)]
        exact g1
    · rw [wo (120 + m') (by omega) (by omega)]
      refine ⟨fun hlt => ?_, fun hge => (e _ _ (by omega) (by omega)).trans (g.2 hge)⟩
      have g1 := g.1 hlt
      rw [e _ _ (by omega) (by omega), e _ _ (by omega) (by omega), e _ _ (by omega) (by omega), wo _ (by omega) (by omega), wo _ (by omega) (by omega), wo _ (by omega) (by omega)]
      exact g1
  · replace hm : m < m' := hm
    exact (e _ _ (by omega) (by omega)).trans (h6 m' hm hm2 i hi)
theorem PC_sub {I : pv_IT} {Z : pv_Zp} {c : Nat} (h : PC I Z) (hz : PZ Z) (hp : Z.1 = 6) (hc : 48 ≤ c ∧ c ≤ 55) : PC (pv_uI (pv_uI (pv_uI I 364 (Z.2.1 * 4 + Z.2.2.1) (nI (c - 48))) 355 3 (nI (max Z.2.2.2.1 (c - 48 + 1)) - nI 1)) 355 4 (nI 7)) (7, Z.2.1, Z.2.2.1, max Z.2.2.2.1 (c - 48 + 1), pt_up Z.2.2.2.2 (12 * Z.2.1 + 3 * Z.2.2.1 + 2) (c - 48)) := by
  obtain ⟨p, m, t, hi, W⟩ := Z
  obtain ⟨h1, h2, h3, h4, h5, h6, h7, h8⟩ := h
  obtain ⟨z1, z2, z3, z4, z5, z6, z7, z8, z9⟩ := hz
  simp only at h1 h2 h3 h4 h5 h6 h7 h8 z1 z2 z3 z4 z5 z6 z7 z8 z9 hp ⊢
  have hwl : W (120 + m) = t + 1 := by rw [z5, if_pos (by omega)]
  generalize hI : pv_uI (pv_uI (pv_uI I 364 (m * 4 + t) (nI (c - 48))) 355 3 (nI (max hi (c - 48 + 1)) - nI 1)) 355 4 (nI 7) = I'
  generalize hW : pt_up W (12 * m + 3 * t + 2) (c - 48) = W'
  have e : ∀ k j, ¬ (k = 355 ∧ (j = 3 ∨ j = 4)) → ¬ (k = 364 ∧ j = m * 4 + t) → I' k j = I k j := fun k j hk hk2 => by
    rw [← hI]; simp only [pv_uI_at]; rw [if_neg (by omega), if_neg (by omega), if_neg (by omega)]
  have w2 : W' (12 * m + 3 * t + 2) = c - 48 := by rw [← hW, pt_us]
  have wo : ∀ j, j ≠ 12 * m + 3 * t + 2 → W' j = W j := fun j hj => by rw [← hW, pt_un hj]
  refine ⟨?_, ?_, (e _ _ (by omega) (by omega)).trans h3, (e _ _ (by omega) (by omega)).trans h4, fun m' hm i hi => ?_, fun m' hm hm2 i hi => (e _ _ (by omega) (by omega)).trans (h6 m' hm hm2 i hi), fun hx => absurd hx (by simp), fun hx => absurd hx (by simp)⟩
  · rw [← hI]; simp only [pv_uI_at]; rw [if_neg (by omega), if_pos (by simp)]
  · rw [← hI]; simp only [pv_uI_at]; rw [if_pos (by simp)]
  · replace hm : m' ≤ m := hm
    have g := h5 m' hm i hi
    have g4 := (z7 m' hm).1
    show pcm I' W' m' i
    unfold pcm at g ⊢
    rw [wo (120 + m') (by omega)]
    refine ⟨fun hlt => ?_, fun hge => (e _ _ (by omega) (by omega)).trans (g.2 hge)⟩
    have g1 := g.1 hlt
    rw [e _ _ (by omega) (by omega), e 362 _ (by omega) (by omega), wo _ (by omega), wo (12 * m' + 3 * i + 1) (by omega)]
    refine ⟨g1.1, g1.2.1, ?_⟩
    by_cases e3 : m' = m ∧ i = t
    · rw [e3.1, e3.2, w2, ← hI]; simp only [pv_uI_at]; rw [if_neg (by omega), if_neg (by omega), if_pos (by simp)]
    · have e4 : ¬ (m' * 4 + i = m * 4 + t) := by omega
      have e5 : 12 * m' + 3 * i + 2 ≠ 12 * m + 3 * t + 2 := by omega
      rw [e _ _ (by omega) (by omega), wo _ e5]
      exact g1.2.2
theorem PC_next {I : pv_IT} {Z : pv_Zp} (h : PC I Z) (hp : 5 ≤ Z.1) : PC (pv_uI (pv_uI I 355 5 (nI (Z.2.2.1 + 1))) 355 4 (nI 2)) (2, Z.2.1, Z.2.2.1 + 1, Z.2.2.2.1, Z.2.2.2.2) := by
  obtain ⟨h1, h2, h3, h4, h5, h6, h7, h8⟩ := h
  have e : ∀ k j, ¬ (k = 355 ∧ (j = 4 ∨ j = 5)) → pv_uI (pv_uI I 355 5 (nI (Z.2.2.1 + 1))) 355 4 (nI 2) k j = I k j := fun k j hk => by simp only [pv_uI_at]; rw [if_neg (by omega), if_neg (by omega)]
  refine ⟨(e _ _ (by omega)).trans h1, ?_, ?_, (e _ _ (by omega)).trans h4, fun m hm i hi => ?_, fun m hm hm2 i hi => (e _ _ (by omega)).trans (h6 m hm hm2 i hi), fun hx => absurd hx (by simp), fun hx => absurd hx (by simp)⟩
  · simp only [pv_uI_at]; rw [if_pos (by simp)]
  · simp only [pv_uI_at]; rw [if_neg (by omega), if_pos (by simp)]
  · have g := h5 m hm i hi
    unfold pcm at g ⊢
    rw [e _ _ (by omega), e _ _ (by omega), e _ _ (by omega)]
    exact g
theorem PC_menu {I : pv_IT} {Z : pv_Zp} (h : PC I Z) (hz : PZ Z) (hm9 : Z.2.1 < 9) (hp : Z.1 = 1 ∨ 5 ≤ Z.1) : PC (pv_uI (pv_uI (pv_uI I 358 0 (nI (Z.2.1 + 1 + 1))) 355 5 (nI 0)) 355 4 (nI 0)) (0, Z.2.1 + 1, 0, Z.2.2.2.1, pt_up Z.2.2.2.2 (120 + (Z.2.1 + 1)) 0) := by
  obtain ⟨p, m, t, hi, W⟩ := Z
  obtain ⟨h1, h2, h3, h4, h5, h6, h7, h8⟩ := h
  obtain ⟨z1, z2, z3, z4, z5, z6, z7, z8, z9⟩ := hz
  simp only at h1 h2 h3 h4 h5 h6 h7 h8 z1 z2 z3 z4 z5 z6 z7 z8 z9 hp hm9 ⊢
  generalize hI : pv_uI (pv_uI (pv_uI I 358 0 (nI (m + 1 + 1))) 355 5 (nI 0)) 355 4 (nI 0) = I'
  have e : ∀ k j, ¬ (k = 355 ∧ (j = 4 ∨ j = 5)) → ¬ (k = 358 ∧ j = 0) → I' k j = I k j := fun k j hk hk2 => by rw [← hI]; simp only [pv_uI_at]; rw [if_neg (by omega), if_neg (by omega), if_neg (by omega)]
  have wo : ∀ j, j ≠ 120 + (m + 1) → pt_up W (120 + (m + 1)) 0 j = W j := fun j hj => pt_un hj
  refine ⟨(e _ _ (by omega) (by omega)).trans h1, ?_, ?_, ?_, fun m' hm i hi => ?_, fun m' hm hm2 i hi => ?_, fun hx => absurd hx (by simp), fun hx => absurd hx (by simp)⟩
  · rw [← hI]; simp only [pv_uI_at]; rw [if_pos (by simp)]
  · rw [← hI]; simp only [pv_uI_at]; rw [if_neg (by omega), if_pos (by simp)]
  · rw [← hI]; simp only [pv_uI_at]; rw [if_neg (by omega), if_neg (by omega), if_pos (by simp)]
  · replace hm : m' ≤ m + 1 := hm
    show pcm I' (pt_up W (120 + (m + 1)) 0) m' i
    unfold pcm
    by_cases e2 : m' = m + 1
    · rw [e2, pt_us]
      exact ⟨fun hx => absurd hx (Nat.not_lt_zero _), fun _ => (e _ _ (by omega) (by omega)).trans (h6 (m + 1) (by omega) (by omega) i hi)⟩
    · have g := h5 m' (by omega) i hi
      have g4 := (z7 m' (by omega)).1
      unfold pcm at g
      rw [wo (120 + m') (by omega)]
      refine ⟨fun hlt => ?_, fun hge => (e _ _ (by omega) (by omega)).trans (g.2 hge)⟩
      have g1 := g.1 hlt
      rw [e _ _ (by omega) (by omega), e _ _ (by omega) (by omega), e _ _ (by omega) (by omega), wo _ (by omega), wo _ (by omega), wo _ (by omega)]
      exact g1
  · replace hm : m + 1 < m' := hm
    exact (e _ _ (by omega) (by omega)).trans (h6 m' (by omega) hm2 i hi)
