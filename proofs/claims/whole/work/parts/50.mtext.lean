/-! The reference: the reader of menus. -/
/-- what the reference's reader is due to read, by the place -/
def md (p : Nat) : Nat := if p = 1 then 6 else if p = 2 then 7 else if p = 3 then 1 else if p = 4 then 2 else if p = 5 then 3 else if p = 6 then 4 else if p = 7 then 5 else 0
def mpc (I : pv_IT) (W : Nat → Nat) (j : Nat) : Prop := I 371 j = nI (W j) ∧ I 371 (j + 1) = nI (W (j + 1)) ∧ I 371 (j + 2) = nI (W (j + 2))
def MP (I : pv_IT) (Z : pv_Zp) : Prop := I 365 10 = nI Z.2.1 ∧ I 365 11 = nI (md Z.1) ∧ (∀ m, m ≤ Z.2.1 → I 372 m = nI (Z.2.2.2.2 (120 + m))) ∧ (∀ m, m ≤ Z.2.1 → ∀ i, i < Z.2.2.2.2 (120 + m) → mpc I Z.2.2.2.2 (12 * m + 3 * i)) ∧ (3 ≤ Z.1 ∧ Z.1 ≤ 6 → I 371 (12 * Z.2.1 + 3 * Z.2.2.1) = nI (Z.2.2.2.2 (12 * Z.2.1 + 3 * Z.2.2.1)) ∧ I 371 (12 * Z.2.1 + 3 * Z.2.2.1 + 2) = nI (Z.2.2.2.2 (12 * Z.2.1 + 3 * Z.2.2.1 + 2)))
def FM (I I' : pv_IT) : Prop := (∀ k, k ≠ 365 → k ≠ 371 → k ≠ 372 → I' k = I k) ∧ ∀ j, j ≠ 10 → j ≠ 11 → I' 365 j = I 365 j
theorem FM_r (I : pv_IT) : FM I I := ⟨fun _ _ _ _ => rfl, fun _ _ _ => rfl⟩
theorem FM_t {I I1 I2 : pv_IT} (h : FM I I1) (g : FM I1 I2) : FM I I2 := ⟨fun k a b c => (g.1 k a b c).trans (h.1 k a b c), fun j a b => (g.2 j a b).trans (h.2 j a b)⟩
theorem FM_u {I I1 : pv_IT} {k j : Nat} {x : Int32} (h : FM I I1) (hk : k = 365 ∧ (j = 10 ∨ j = 11) ∨ k = 371 ∨ k = 372) : FM I (pv_uI I1 k j x) :=
  ⟨fun a h1 h2 h3 => (pv_uI_ne (by omega)).trans (h.1 a h1 h2 h3), fun j2 h1 h2 => by
    simp only [pv_uI_at]
    rw [if_neg (by omega)]
    exact h.2 j2 h1 h2⟩
theorem MP_to {I : pv_IT} {Z : pv_Zp} {p : Nat} (h : MP I Z) (hp : (Z.1 = 0 ∧ p = 1) ∨ (Z.1 = 3 ∧ p = 4) ∨ (Z.1 = 5 ∧ p = 6)) : MP (pv_uI I 365 11 (nI (md p))) (pz_to Z p) := by
  obtain ⟨h1, h2, h3, h4, h5⟩ := h
  have e : ∀ k j, ¬ (k = 365 ∧ j = 11) → pv_uI I 365 11 (nI (md p)) k j = I k j := fun k j hk => by simp only [pv_uI_at]; rw [if_neg hk]
  refine ⟨(e _ _ (by omega)).trans h1, by rw [pv_uI_self, pk_us]; rfl, fun m hm => (e _ _ (by omega)).trans (h3 m hm), fun m hm i hi => ?_, fun hx => ?_⟩
  · have g := h4 m hm i hi
    unfold mpc at g ⊢
    rw [e _ _ (by omega), e _ _ (by omega), e _ _ (by omega)]
    exact g
  · have hx' : 3 ≤ p ∧ p ≤ 6 := hx
    have g := h5 (by omega)
    exact ⟨(e _ _ (by omega)).trans g.1, (e _ _ (by omega)).trans g.2⟩
theorem MP_item {I : pv_IT} {Z : pv_Zp} {c : Nat} (h : MP I Z) (hz : PZ Z) (hp : Z.1 = 0 ∨ Z.1 = 2) : MP (pv_uI (pv_uI (pv_uI (pv_uI I 371 (12 * Z.2.1 + 3 * Z.2.2.1) (nI (c - 48))) 371 (12 * Z.2.1 + 3 * Z.2.2.1 + 1) (nI 0)) 371 (12 * Z.2.1 + 3 * Z.2.2.1 + 2) (-1)) 365 11 (nI 1)) (3, Z.2.1, Z.2.2.1, max Z.2.2.2.1 (c - 48 + 1), pt_up (pt_up (pt_up Z.2.2.2.2 (12 * Z.2.1 + 3 * Z.2.2.1) (c - 48)) (12 * Z.2.1 + 3 * Z.2.2.1 + 1) 0) (12 * Z.2.1 + 3 * Z.2.2.1 + 2) 4294967295) := by
  obtain ⟨p, m, t, hi, W⟩ := Z
  obtain ⟨h1, h2, h3, h4, h5⟩ := h
  obtain ⟨z1, z2, z3, z4, z5, z6, z7, z8, z9⟩ := hz
  simp only at h1 h2 h3 h4 h5 z1 z2 z3 z4 z5 z6 z7 z8 z9 hp ⊢
  have hwl : W (120 + m) = t := by rw [z5, if_neg (by omega)]
  generalize hI : pv_uI (pv_uI (pv_uI (pv_uI I 371 (12 * m + 3 * t) (nI (c - 48))) 371 (12 * m + 3 * t + 1) (nI 0)) 371 (12 * m + 3 * t + 2) (-1)) 365 11 (nI 1) = I'
  generalize hW : pt_up (pt_up (pt_up W (12 * m + 3 * t) (c - 48)) (12 * m + 3 * t + 1) 0) (12 * m + 3 * t + 2) 4294967295 = W'
  have e : ∀ k j, ¬ (k = 365 ∧ j = 11) → ¬ (k = 371 ∧ 12 * m + 3 * t ≤ j ∧ j ≤ 12 * m + 3 * t + 2) → I' k j = I k j := fun k j hk hk2 => by
    rw [← hI]; simp only [pv_uI_at]; rw [if_neg (by omega), if_neg (by omega), if_neg (by omega), if_neg (by omega)]
  have w0 : W' (12 * m + 3 * t) = c - 48 := by rw [← hW, pt_un (by omega), pt_un (by omega), pt_us]
  have w2 : W' (12 * m + 3 * t + 2) = 4294967295 := by rw [← hW, pt_us]
  have wo : ∀ j, j < 12 * m + 3 * t ∨ 12 * m + 3 * t + 2 < j → W' j = W j := fun j hj => by rw [← hW, pt_un (by omega), pt_un (by omega), pt_un (by omega)]
  refine ⟨(e _ _ (by omega) (by omega)).trans h1, ?_, fun m' hm => ?_, fun m' hm i hi => ?_, fun _ => ⟨?_, ?_⟩⟩
  · rw [← hI]; simp only [pv_uI_at]; rw [if_pos (by simp)]; rfl
  · show I' 372 m' = nI (W' (120 + m'))
    rw [wo _ (by omega)]
    exact (e _ _ (by omega) (by omega)).trans (h3 m' hm)
  · replace hm : m' ≤ m := hm
    have hi' : i < W (120 + m') := by rw [← wo (120 + m') (by omega)]; exact hi
    have g4 := (z7 m' hm).1
    have g := h4 m' hm i hi'
    show mpc I' W' (12 * m' + 3 * i)
    unfold mpc at g ⊢
    have hb : 12 * m' + 3 * i + 2 < 12 * m + 3 * t ∨ 12 * m + 3 * t + 2 < 12 * m' + 3 * i := by
      rcases Nat.lt_or_ge m' m with h9 | h9
      · omega
      · have : m' = m := by omega
        subst this
        omega
    rw [e _ _ (by omega) (by omega), e _ _ (by omega) (by omega), e _ _ (by omega) (by omega), wo _ (by omega), wo _ (by omega), wo _ (by omega)]
    exact g
  · show I' 371 (12 * m + 3 * t) = nI (W' (12 * m + 3 * t))
    rw [w0, ← hI]; simp only [pv_uI_at]; rw [if_neg (by omega), if_neg (by omega), if_neg (by omega), if_pos (by simp)]
  · show I' 371 (12 * m + 3 * t + 2) = nI (W' (12 * m + 3 * t + 2))
    rw [w2, ← hI]; simp only [pv_uI_at]; rw [if_neg (by omega), if_pos (by simp)]; decide
theorem MP_amt {I : pv_IT} {Z : pv_Zp} {c : Nat} (h : MP I Z) (hz : PZ Z) (hp : Z.1 = 4) : MP (pv_uI (pv_uI (pv_uI I 371 (12 * Z.2.1 + 3 * Z.2.2.1 + 1) (nI (c - 48))) 372 Z.2.1 (nI (Z.2.2.1 + 1))) 365 11 (nI 3)) (5, Z.2.1, Z.2.2.1, Z.2.2.2.1, pt_up (pt_up Z.2.2.2.2 (12 * Z.2.1 + 3 * Z.2.2.1 + 1) (c - 48)) (120 + Z.2.1) (Z.2.2.1 + 1)) := by
  obtain ⟨p, m, t, hi, W⟩ := Z
  obtain ⟨h1, h2, h3, h4, h5⟩ := h
  obtain ⟨z1, z2, z3, z4, z5, z6, z7, z8, z9⟩ := hz
  simp only at h1 h2 h3 h4 h5 z1 z2 z3 z4 z5 z6 z7 z8 z9 hp ⊢
  have hwl : W (120 + m) = t := by rw [z5, if_neg (by omega)]
  have h5' := h5 (by omega)
  generalize hI : pv_uI (pv_uI (pv_uI I 371 (12 * m + 3 * t + 1) (nI (c - 48))) 372 m (nI (t + 1))) 365 11 (nI 3) = I'
  generalize hW : pt_up (pt_up W (12 * m + 3 * t + 1) (c - 48)) (120 + m) (t + 1) = W'
  have e : ∀ k j, ¬ (k = 365 ∧ j = 11) → ¬ (k = 371 ∧ j = 12 * m + 3 * t + 1) → ¬ (k = 372 ∧ j = m) → I' k j = I k j := fun k j hk hk2 hk3 => by
    rw [← hI]; simp only [pv_uI_at]; rw [if_neg (by omega), if_neg (by omega), if_neg (by omega)]
  have wl : W' (120 + m) = t + 1 := by rw [← hW, pt_us]
  have w1 : W' (12 * m + 3 * t + 1) = c - 48 := by rw [← hW, pt_un (by omega), pt_us]
  have wo : ∀ j, j ≠ 12 * m + 3 * t + 1 → j ≠ 120 + m → W' j = W j := fun j hj hj2 => by rw [← hW, pt_un hj2, pt_un hj]
  have c0 : I' 371 (12 * m + 3 * t) = nI (W' (12 * m + 3 * t)) := by
    rw [wo _ (by omega) (by omega)]
    exact (e _ _ (by omega) (by omega) (by omega)).trans h5'.1
  have c1 : I' 371 (12 * m + 3 * t + 1) = nI (W' (12 * m + 3 * t + 1)) := by
    rw [w1, ← hI]; simp only [pv_uI_at]; rw [if_neg (by omega), if_neg (by omega), if_pos (by simp)]
  have c2 : I' 371 (12 * m + 3 * t + 2) = nI (W' (12 * m + 3 * t + 2)) := by
    rw [wo _ (by omega) (by omega)]
    exact (e _ _ (by omega) (by omega) (by omega)).trans h5'.2
  refine ⟨(e _ _ (by omega) (by omega) (by omega)).trans h1, ?_, fun m' hm => ?_, fun m' hm i hi => ?_, fun _ => ⟨c0, c2⟩⟩
  · rw [← hI]; simp only [pv_uI_at]; rw [if_pos (by simp)]; rfl
  · show I' 372 m' = nI (W' (120 + m'))
    by_cases e2 : m' = m
    · subst e2
      rw [wl, ← hI]; simp only [pv_uI_at]; rw [if_neg (by omega), if_pos (by simp)]
    · rw [wo _ (by omega) (by omega)]
      exact (e _ _ (by omega) (by omega) (by omega)).trans (h3 m' hm)
  · replace hm : m' ≤ m := hm
    replace hi : i < W' (120 + m') := hi
    have g4 := (z7 m' hm).1
    show mpc I' W' (12 * m' + 3 * i)
    by_cases e2 : m' = m ∧ i = t
    · rw [e2.1, e2.2]
      exact ⟨c0, c1, c2⟩
    · have hi' : i < W (120 + m') := by
        by_cases e3 : m' = m
        · subst e3
          rw [wl] at hi
          omega
        · rw [← wo (120 + m') (by omega) (by omega)]; exact hi
      have g := h4 m' hm i hi'
      unfold mpc at g ⊢
      have hb : 12 * m' + 3 * i + 2 < 12 * m + 3 * t := by
        rcases Nat.lt_or_ge m' m with h9 | h9
        · omega
        · have : m' = m := by omega
          subst this
          omega
      rw [e _ _ (by omega) (by omega) (by omega), e _ _ (by omega) (by omega) (by omega), e _ _ (by omega) (by omega) (by omega), wo _ (by omega) (by omega), wo _ (by omega) (by omega), wo _ (by omega) (by omega)]
      exact g
theorem MP_sub {I : pv_IT} {Z : pv_Zp} {c : Nat} (h : MP I Z) (hz : PZ Z) (hp : Z.1 = 6) : MP (pv_uI (pv_uI I 371 (12 * Z.2.1 + 3 * Z.2.2.1 + 2) (nI (c - 48))) 365 11 (nI 5)) (7, Z.2.1, Z.2.2.1, max Z.2.2.2.1 (c - 48 + 1), pt_up Z.2.2.2.2 (12 * Z.2.1 + 3 * Z.2.2.1 + 2) (c - 48)) := by
  obtain ⟨p, m, t, hi, W⟩ := Z
  obtain ⟨h1, h2, h3, h4, h5⟩ := h
  obtain ⟨z1, z2, z3, z4, z5, z6, z7, z8, z9⟩ := hz
  simp only at h1 h2 h3 h4 h5 z1 z2 z3 z4 z5 z6 z7 z8 z9 hp ⊢
  have hwl : W (120 + m) = t + 1 := by rw [z5, if_pos (by omega)]
  generalize hI : pv_uI (pv_uI I 371 (12 * m + 3 * t + 2) (nI (c - 48))) 365 11 (nI 5) = I'
  generalize hW : pt_up W (12 * m + 3 * t + 2) (c - 48) = W'
  have e : ∀ k j, ¬ (k = 365 ∧ j = 11) → ¬ (k = 371 ∧ j = 12 * m + 3 * t + 2) → I' k j = I k j := fun k j hk hk2 => by
    rw [← hI]; simp only [pv_uI_at]; rw [if_neg (by omega), if_neg (by omega)]
  have w2 : W' (12 * m + 3 * t + 2) = c - 48 := by rw [← hW, pt_us]
  have wo : ∀ j, j ≠ 12 * m + 3 * t + 2 → W' j = W j := fun j hj => by rw [← hW, pt_un hj]
  have c2 : I' 371 (12 * m + 3 * t + 2) = nI (W' (12 * m + 3 * t + 2)) := by
    rw [w2, ← hI]; simp only [pv_uI_at]; rw [if_neg (by omega), if_pos (by simp)]
  refine ⟨(e _ _ (by omega) (by omega)).trans h1, ?_, fun m' hm => ?_, fun m' hm i hi => ?_, fun hx => absurd hx (by simp)⟩
  · rw [← hI]; simp only [pv_uI_at]; rw [if_pos (by simp)]; rfl
  · show I' 372 m' = nI (W' (120 + m'))
    rw [wo _ (by omega)]
    exact (e _ _ (by omega) (by omega)).trans (h3 m' hm)
  · replace hm : m' ≤ m := hm
    replace hi : i < W' (120 + m') := hi
    rw [wo _ (by omega)] at hi
    have g4 := (z7 m' hm).1
    have g := h4 m' hm i hi
    show mpc I' W' (12 * m' + 3 * i)
    unfold mpc at g ⊢
    rw [e _ _ (by omega) (by omega), e _ (12 * m' + 3 * i + 1) (by omega) (by omega), wo _ (by omega), wo (12 * m' + 3 * i + 1) (by omega)]
    refine ⟨g.1, g.2.1, ?_⟩
    by_cases e2 : 12 * m' + 3 * i + 2 = 12 * m + 3 * t + 2
    · rw [e2]; exact c2
    · rw [e _ _ (by omega) (by omega), wo _ e2]; exact g.2.2
theorem MP_next {I : pv_IT} {Z : pv_Zp} (h : MP I Z) : MP (pv_uI I 365 11 (nI 7)) (2, Z.2.1, Z.2.2.1 + 1, Z.2.2.2.1, Z.2.2.2.2) := by
  obtain ⟨h1, h2, h3, h4, h5⟩ := h
  have e : ∀ k j, ¬ (k = 365 ∧ j = 11) → pv_uI I 365 11 (nI 7) k j = I k j := fun k j hk => by simp only [pv_uI_at]; rw [if_neg hk]
  refine ⟨(e _ _ (by omega)).trans h1, by rw [pv_uI_self, pk_us]; rfl, fun m hm => (e _ _ (by omega)).trans (h3 m hm), fun m hm i hi => ?_, fun hx => absurd hx (by simp)⟩
  have g := h4 m hm i hi
  show mpc _ _ _
  unfold mpc at g ⊢
  rw [e _ _ (by omega), e _ _ (by omega), e _ _ (by omega)]
  exact g
theorem MP_menu {I : pv_IT} {Z : pv_Zp} (h : MP I Z) (hz : PZ Z) : MP (pv_uI (pv_uI (pv_uI I 365 10 (nI (Z.2.1 + 1))) 372 (Z.2.1 + 1) (nI 0)) 365 11 (nI 0)) (0, Z.2.1 + 1, 0, Z.2.2.2.1, pt_up Z.2.2.2.2 (120 + (Z.2.1 + 1)) 0) := by
  obtain ⟨p, m, t, hi, W⟩ := Z
  obtain ⟨h1, h2, h3, h4, h5⟩ := h
  obtain ⟨z1, z2, z3, z4, z5, z6, z7, z8, z9⟩ := hz
  simp only at h1 h2 h3 h4 h5 z1 z2 z3 z4 z5 z6 z7 z8 z9 ⊢
  generalize hI : pv_uI (pv_uI (pv_uI I 365 10 (nI (m + 1))) 372 (m + 1) (nI 0)) 365 11 (nI 0) = I'
  generalize hW : pt_up W (120 + (m + 1)) 0 = W'
  have e : ∀ k j, ¬ (k = 365 ∧ (j = 10 ∨ j = 11)) → ¬ (k = 372 ∧ j = m + 1) → I' k j = I k j := fun k j hk hk2 => by
    rw [← hI]; simp only [pv_uI_at]; rw [if_neg (by omega), if_neg (by omega), if_neg (by omega)]
  have wl : W' (120 + (m + 1)) = 0 := by rw [← hW, pt_us]
  have wo : ∀ j, j ≠ 120 + (m + 1) → W' j = W j := fun j hj => by rw [← hW, pt_un hj]
  refine ⟨?_, ?_, fun m' hm => ?_, fun m' hm i hi => ?_, fun hx => absurd hx (by simp)⟩
  · rw [← hI]; simp only [pv_uI_at]; rw [if_neg (by omega), if_neg (by omega), if_pos (by simp)]
  · rw [← hI]; simp only [pv_uI_at]; rw [if_pos (by simp)]; rfl
  · replace hm : m' ≤ m + 1 := hm
    show I' 372 m' = nI (W' (120 + m'))
    by_cases e2 : m' = m + 1
    · rw [e2, wl, ← hI]; simp only [pv_uI_at]; rw [if_neg (by omega), if_pos (by simp)]
    · rw [wo _ (by omega)]
      exact (e _ _ (by omega) (by omega)).trans (h3 m' (by omega))
  · replace hm : m' ≤ m + 1 := hm
    replace hi : i < W' (120 + m') := hi
    by_cases e2 : m' = m + 1
    · rw [e2, wl] at hi
      exact absurd hi (Nat.not_lt_zero _)
    · rw [wo _ (by omega)] at hi
      have g4 := (z7 m' (by omega)).1
      have g := h4 m' (by omega) i hi
      show mpc I' W' _
      unfold mpc at g ⊢
      rw [e _ _ (by omega) (by omega), e _ _ (by omega) (by omega), e _ _ (by omega) (by omega), wo _ (by omega), wo _ (by omega), wo _ (by omega)]
      exact g
set_option maxRecDepth 100000 in
set_option maxHeartbeats 4000000 in
theorem s_X10_takesItem {Q : pv_Q} {E : pv_E} {d bc bs : Nat} {J : pv_JT} {I : pv_IT} {Z : pv_Zp} {c : Nat} (hD : 1 ≤ d) (hP : MP I Z) (hz : PZ Z) (hc9 : c < 200) (hp : Z.1 = 0 ∨ Z.1 = 2) (h : (∀ Z', pz_item Z c = some Z' → ∀ I' : pv_IT, MP I' Z' → FM I I' → Q (.inl (some (.int (nI 1)))) pv_K0 pv_P0 (I') (J)) ∧ (pz_item Z c = none → ∀ I' : pv_IT, FM I I' → Q (.inl (some (.int (nI 0)))) pv_K0 pv_P0 (I') (J))) : pv_X (pv_ZQ E Q) E d bc bs mX10_takesItem 0 [(0, .ref (365)), (1, .int (nI (c)))] [] pv_K0 pv_P0 I J := by
  have z3 := hz.2.2.1
  have z2 := hz.2.1
  have hwl : Z.2.2.2.2 (120 + Z.2.1) = Z.2.2.1 := by rw [hz.2.2.2.2.1, if_neg (by omega)]
  refine px_bipush (v := nI 12) dX10_takesItem_0 (by decide) ?_
  refine px_aload_n dX10_takesItem_2 rfl ?_
  refine px_getI dX10_takesItem_3 flX10_132 pv_s_model (by decide) (by decide) rfl pv_k_model ?_
  refine px_iv (y := nI (Z.2.1)) (hP.1) ?_
  refine px_imulN dX10_takesItem_6 ?_
  refine px_iconst (v := nI 3) dX10_takesItem_7 (by decide) ?_
  refine px_aload_n dX10_takesItem_8 rfl ?_
  refine px_getR dX10_takesItem_9 flX10_28 pv_s_model (by decide) (by decide) rfl pv_k_model pv_p_365_9 ?_
  refine px_aload_n dX10_takesItem_12 rfl ?_
  refine px_getI dX10_takesItem_13 flX10_132 pv_s_model (by decide) (by decide) rfl pv_k_model ?_
  refine px_iv (y := nI (Z.2.1)) (hP.1) ?_
  refine px_iald (j := (Z.2.1)) dX10_takesItem_16 pv_a_itof.1 rfl (by omega) pv_a_itof.2.2 pv_a_itof.2.1 ?_
  refine px_iv (y := nI (Z.2.2.2.2 (120 + (Z.2.1)))) (hP.2.2.1 ((Z.2.1)) (Nat.le_refl _)) ?_
  refine px_imulN dX10_takesItem_17 ?_
  refine px_iaddN dX10_takesItem_18 ?_
  refine px_istore_n dX10_takesItem_19 (by decide) ?_
  rw [hwl]
  by_cases hc : 48 ≤ c ∧ c ≤ 55
  · refine px_aload_n dX10_takesItem_20 rfl ?_
    refine px_getR dX10_takesItem_21 flX10_25 pv_s_model (by decide) (by decide) rfl pv_k_model pv_p_365_8 ?_
    refine px_iload_n dX10_takesItem_24 rfl ?_
    refine px_iload_n dX10_takesItem_25 rfl ?_
    refine px_bipush (v := nI 48) dX10_takesItem_26 (by decide) ?_
    refine px_isubN (by omega) dX10_takesItem_28 ?_
    refine px_iast (j := (12 * Z.2.1 + 3 * Z.2.2.1)) dX10_takesItem_29 pv_a_items.1 rfl (by omega) pv_a_items.2.2 pv_a_items.2.1 ?_
    refine px_aload_n dX10_takesItem_30 rfl ?_
    refine px_getR dX10_takesItem_31 flX10_25 pv_s_model (by decide) (by decide) rfl pv_k_model pv_p_365_8 ?_
    refine px_iload_n dX10_takesItem_34 rfl ?_
    refine px_iconst (v := nI 1) dX10_takesItem_35 (by decide) ?_
    refine px_iaddN dX10_takesItem_36 ?_
    refine px_iconst (v := nI 0) dX10_takesItem_37 (by decide) ?_
    refine px_iast (j := ((12 * Z.2.1 + 3 * Z.2.2.1) + 1)) dX10_takesItem_38 pv_a_items.1 rfl (by omega) pv_a_items.2.2 pv_a_items.2.1 ?_
    refine px_aload_n dX10_takesItem_39 rfl ?_
    refine px_getR dX10_takesItem_40 flX10_25 pv_s_model (by decide) (by decide) rfl pv_k_model pv_p_365_8 ?_
    refine px_iload_n dX10_takesItem_43 rfl ?_
    refine px_iconst (v := nI 2) dX10_takesItem_44 (by decide) ?_
    refine px_iaddN dX10_takesItem_45 ?_
    refine px_iconst (v := -1) dX10_takesItem_46 (by decide) ?_
    refine px_iast (j := ((12 * Z.2.1 + 3 * Z.2.2.1) + 2)) dX10_takesItem_47 pv_a_items.1 rfl (by omega) pv_a_items.2.2 pv_a_items.2.1 ?_
    refine px_aload_n dX10_takesItem_48 rfl ?_
    refine px_iconst (v := nI 1) dX10_takesItem_49 (by decide) ?_
    refine px_putI dX10_takesItem_50 fwX10_135 pv_s_model (by decide) (by decide) rfl pv_k_model ?_
    refine px_iload_n dX10_takesItem_53 rfl ?_
    refine px_bipush (v := nI 48) dX10_takesItem_54 (by decide) ?_
    refine px_bipush (v := nI 55) dX10_takesItem_56 (by decide) ?_
    refine c_X10_within dX10_takesItem_58 mlX10_35 (by omega)  (Nat.le_of_ble_eq_true rfl) ?_
    rw [pv_bl1 ((pu_c (by omega) (by omega) (by omega)).mpr hc)]
    exact px_zret dX10_takesItem_61 rfl rfl (Or.inl rfl) (h.1 _ (if_pos hc) _ (MP_item hP hz hp) (FM_u (FM_u (FM_u (FM_u (FM_r I) (by omega)) (by omega)) (by omega)) (by omega)))
  · refine px_aload_n dX10_takesItem_20 rfl ?_
    refine px_getR dX10_takesItem_21 flX10_25 pv_s_model (by decide) (by decide) rfl pv_k_model pv_p_365_8 ?_
    refine px_iload_n dX10_takesItem_24 rfl ?_
    refine px_iload_n dX10_takesItem_25 rfl ?_
    refine px_bipush (v := nI 48) dX10_takesItem_26 (by decide) ?_
    refine px_isub dX10_takesItem_28 ?_
    refine px_iast (j := (12 * Z.2.1 + 3 * Z.2.2.1)) dX10_takesItem_29 pv_a_items.1 rfl (by omega) pv_a_items.2.2 pv_a_items.2.1 ?_
    refine px_aload_n dX10_takesItem_30 rfl ?_
    refine px_getR dX10_takesItem_31 flX10_25 pv_s_model (by decide) (by decide) rfl pv_k_model pv_p_365_8 ?_
    refine px_iload_n dX10_takesItem_34 rfl ?_
    refine px_iconst (v := nI 1) dX10_takesItem_35 (by decide) ?_
    refine px_iaddN dX10_takesItem_36 ?_
    refine px_iconst (v := nI 0) dX10_takesItem_37 (by decide) ?_
    refine px_iast (j := ((12 * Z.2.1 + 3 * Z.2.2.1) + 1)) dX10_takesItem_38 pv_a_items.1 rfl (by omega) pv_a_items.2.2 pv_a_items.2.1 ?_
    refine px_aload_n dX10_takesItem_39 rfl ?_
    refine px_getR dX10_takesItem_40 flX10_25 pv_s_model (by decide) (by decide) rfl pv_k_model pv_p_365_8 ?_
    refine px_iload_n dX10_takesItem_43 rfl ?_
    refine px_iconst (v := nI 2) dX10_takesItem_44 (by decide) ?_
    refine px_iaddN dX10_takesItem_45 ?_
    refine px_iconst (v := -1) dX10_takesItem_46 (by decide) ?_
    refine px_iast (j := ((12 * Z.2.1 + 3 * Z.2.2.1) + 2)) dX10_takesItem_47 pv_a_items.1 rfl (by omega) pv_a_items.2.2 pv_a_items.2.1 ?_
    refine px_aload_n dX10_takesItem_48 rfl ?_
    refine px_iconst (v := nI 1) dX10_takesItem_49 (by decide) ?_
    refine px_putI dX10_takesItem_50 fwX10_135 pv_s_model (by decide) (by decide) rfl pv_k_model ?_
    refine px_iload_n dX10_takesItem_53 rfl ?_
    refine px_bipush (v := nI 48) dX10_takesItem_54 (by decide) ?_
    refine px_bipush (v := nI 55) dX10_takesItem_56 (by decide) ?_
    refine c_X10_within dX10_takesItem_58 mlX10_35 (by omega)  (Nat.le_of_ble_eq_true rfl) ?_
    rw [pv_bl0 (fun z => hc ((pu_c (by omega) (by omega) (by omega)).mp z))]
    exact px_zret dX10_takesItem_61 rfl rfl (Or.inl rfl) (h.2 (if_neg hc) _ (FM_u (FM_u (FM_u (FM_u (FM_r I) (by omega)) (by omega)) (by omega)) (by omega)))
theorem c_X10_takesItem {z : pv_Z} {E : pv_E} {d bc bs : Nat} {J : pv_JT} {I : pv_IT} {mi : pv_MI} {pc idx : Nat} {lv : pv_LV} {st : List Value} {Z : pv_Zp} {c : Nat} (hd : decode mi.2.1 pc = .ok (.invokevirtual idx, 3)) (hlk : Cond.methodLink mi.1.cls idx mX10_takesItem.1 ∈ pv_W) (hD : 1+1 ≤ d) (hP : MP I Z) (hz : PZ Z) (hc9 : c < 200) (hp : Z.1 = 0 ∨ Z.1 = 2) (hcat : (st.map fun v => v.category).sum ≤ 8) (K : (∀ Z', pz_item Z c = some Z' → ∀ I' : pv_IT, MP I' Z' → FM I I' → pv_X z E d bc bs mi (pc + 3) lv ((.int (nI 1)) :: st) pv_K0 pv_P0 (I') (J)) ∧ (pz_item Z c = none → ∀ I' : pv_IT, FM I I' → pv_X z E d bc bs mi (pc + 3) lv ((.int (nI 0)) :: st) pv_K0 pv_P0 (I') (J))) : pv_X z E d bc bs mi pc lv (.int (nI (c)) :: .ref (365) :: st) pv_K0 pv_P0 I J := by
  obtain ⟨d, rfl⟩ : ∃ d0, d = d0 + 1 := ⟨d - 1, by omega⟩
  have key := px_callV (bc := bc) (bs := bs) (bc1 := 0) (bs1 := 0) (as := [.int (nI (c))]) (E := E) (z := z) (lv := lv) hd mvX10_takesItem hlk pv_s_model (by decide) rfl pv_k_model rfl rfl hcat (by exact Nat.le_of_ble_eq_true rfl) (s_X10_takesItem (by omega) hP hz hc9 hp K)
  rw [Nat.zero_add, Nat.zero_add] at key
  exact key
set_option maxRecDepth 100000 in
set_option maxHeartbeats 4000000 in
theorem s_X10_goesOn {Q : pv_Q} {E : pv_E} {d bc bs : Nat} {J : pv_JT} {I : pv_IT} {Z : pv_Zp} {c : Nat} (hD : 0 ≤ d) (hP : MP I Z) (hz : PZ Z) (hc9 : c < 200) (hp : Z.1 = 1 ∨ Z.1 = 5 ∨ Z.1 = 7) (h : (∀ Z', pz_step Z c = some Z' → ∀ I' : pv_IT, MP I' Z' → FM I I' → Q (.inl (some (.int (nI 1)))) pv_K0 pv_P0 (I') (J)) ∧ (pz_step Z c = none → ∀ I' : pv_IT, FM I I' → Q (.inl (some (.int (nI 0)))) pv_K0 pv_P0 (I') (J))) : pv_X (pv_ZQ E Q) E d bc bs mX10_goesOn 0 [(0, .ref (365)), (1, .int (nI (c)))] [] pv_K0 pv_P0 I J := by
  have z3 := hz.2.2.1
  have z2 := hz.2.1
  rcases hp with e | e | e
  · have hd : I 365 11 = nI 6 := by rw [hP.2.1, e]; rfl
    have es : pz_step Z c = if c = 59 then pz_menu Z else none := by unfold pz_step; rw [if_neg (by omega)]; rw [if_pos e]
    refine px_iload_n dX10_goesOn_0 rfl ?_
    refine px_bipush (v := nI 59) dX10_goesOn_1 (by decide) ?_
    refine px_icmp_neN (tgt := 42) dX10_goesOn_3 (by decide) (by omega) (by omega) (fun h5 => ?_) (fun h5 => ?_)
    · refine px_iload_n dX10_goesOn_42 rfl ?_
      refine px_bipush (v := nI 44) dX10_goesOn_43 (by decide) ?_
      refine px_icmp_neN (tgt := 78) dX10_goesOn_45 (by decide) (by omega) (by omega) (fun h6 => ?_) (fun h6 => ?_)
      · refine px_iload_n dX10_goesOn_78 rfl ?_
        refine px_bipush (v := nI 47) dX10_goesOn_79 (by decide) ?_
        refine px_icmp_neN (tgt := 96) dX10_goesOn_81 (by decide) (by omega) (by omega) (fun h9 => ?_) (fun h9 => ?_)
        · refine px_iconst (v := nI 0) dX10_goesOn_96 (by decide) ?_
          refine px_istore_n dX10_goesOn_97 (by decide) ?_
          refine px_aload_n dX10_goesOn_98 rfl ?_
          refine px_iconst (v := nI 4) dX10_goesOn_99 (by decide) ?_
          refine px_putI dX10_goesOn_100 fwX10_135 pv_s_model (by decide) (by decide) rfl pv_k_model ?_
          refine px_iload_n dX10_goesOn_103 rfl ?_
          exact px_zret dX10_goesOn_104 rfl rfl (Or.inl rfl) (h.2 (es.trans (if_neg (by omega))) _ (FM_u (FM_r I) (by omega)))
        · refine px_aload_n dX10_goesOn_84 rfl ?_
          refine px_getI dX10_goesOn_85 flX10_135 pv_s_model (by decide) (by decide) rfl pv_k_model ?_
          refine px_iv (y := nI (6)) (hd) ?_
          refine px_iconst (v := nI 3) dX10_goesOn_88 (by decide) ?_
          refine px_icmp_neN (tgt := 96) dX10_goesOn_89 (by decide) (by omega) (by omega) (fun _ => ?_) (fun h0 => absurd h0 (by omega))
          refine px_iconst (v := nI 0) dX10_goesOn_96 (by decide) ?_
          refine px_istore_n dX10_goesOn_97 (by decide) ?_
          refine px_aload_n dX10_goesOn_98 rfl ?_
          refine px_iconst (v := nI 4) dX10_goesOn_99 (by decide) ?_
          refine px_putI dX10_goesOn_100 fwX10_135 pv_s_model (by decide) (by decide) rfl pv_k_model ?_
          refine px_iload_n dX10_goesOn_103 rfl ?_
          exact px_zret dX10_goesOn_104 rfl rfl (Or.inl rfl) (h.2 (es.trans (if_neg (by omega))) _ (FM_u (FM_r I) (by omega)))
      · refine px_aload_n dX10_goesOn_48 rfl ?_
        refine px_getI dX10_goesOn_49 flX10_135 pv_s_model (by decide) (by decide) rfl pv_k_model ?_
        refine px_iv (y := nI (6)) (hd) ?_
        refine px_bipush (v := nI 6) dX10_goesOn_52 (by decide) ?_
        refine px_icmp_eqN (tgt := 78) dX10_goesOn_54 (by decide) (by omega) (by omega) (fun _ => ?_) (fun h0 => absurd h0 (by omega))
        refine px_iload_n dX10_goesOn_78 rfl ?_
        refine px_bipush (v := nI 47) dX10_goesOn_79 (by decide) ?_
        refine px_icmp_neN (tgt := 96) dX10_goesOn_81 (by decide) (by omega) (by omega) (fun h9 => ?_) (fun h9 => ?_)
        · refine px_iconst (v := nI 0) dX10_goesOn_96 (by decide) ?_
          refine px_istore_n dX10_goesOn_97 (by decide) ?_
          refine px_aload_n dX10_goesOn_98 rfl ?_
          refine px_iconst (v := nI 4) dX10_goesOn_99 (by decide) ?_
          refine px_putI dX10_goesOn_100 fwX10_135 pv_s_model (by decide) (by decide) rfl pv_k_model ?_
          refine px_iload_n dX10_goesOn_103 rfl ?_
          exact px_zret dX10_goesOn_104 rfl rfl (Or.inl rfl) (h.2 (es.trans (if_neg (by omega))) _ (FM_u (FM_r I) (by omega)))
        · refine px_aload_n dX10_goesOn_84 rfl ?_
          refine px_getI dX10_goesOn_85 flX10_135 pv_s_model (by decide) (by decide) rfl pv_k_model ?_
          refine px_iv (y := nI (6)) (hd) ?_
          refine px_iconst (v := nI 3) dX10_goesOn_88 (by decide) ?_
          refine px_icmp_neN (tgt := 96) dX10_goesOn_89 (by decide) (by omega) (by omega) (fun _ => ?_) (fun h0 => absurd h0 (by omega))
          refine px_iconst (v := nI 0) dX10_goesOn_96 (by decide) ?_
          refine px_istore_n dX10_goesOn_97 (by decide) ?_
          refine px_aload_n dX10_goesOn_98 rfl ?_
          refine px_iconst (v := nI 4) dX10_goesOn_99 (by decide) ?_
          refine px_putI dX10_goesOn_100 fwX10_135 pv_s_model (by decide) (by decide) rfl pv_k_model ?_
          refine px_iload_n dX10_goesOn_103 rfl ?_
          exact px_zret dX10_goesOn_104 rfl rfl (Or.inl rfl) (h.2 (es.trans (if_neg (by omega))) _ (FM_u (FM_r I) (by omega)))
    · refine px_aload_n dX10_goesOn_6 rfl ?_
      refine px_getI dX10_goesOn_7 flX10_132 pv_s_model (by decide) (by decide) rfl pv_k_model ?_
      refine px_iv (y := nI (Z.2.1)) (hP.1) ?_
      refine px_bipush (v := nI 9) dX10_goesOn_10 (by decide) ?_
      refine px_icmp_geN (tgt := 42) dX10_goesOn_12 (by decide) (by omega) (by omega) (fun h8 => ?_) (fun h8 => ?_)
      · refine px_iload_n dX10_goesOn_42 rfl ?_
        refine px_bipush (v := nI 44) dX10_goesOn_43 (by decide) ?_
        refine px_icmp_neN (tgt := 78) dX10_goesOn_45 (by decide) (by omega) (by omega) (fun _ => ?_) (fun h0 => absurd h0 (by omega))
        refine px_iload_n dX10_goesOn_78 rfl ?_
        refine px_bipush (v := nI 47) dX10_goesOn_79 (by decide) ?_
        refine px_icmp_neN (tgt := 96) dX10_goesOn_81 (by decide) (by omega) (by omega) (fun h9 => ?_) (fun h9 => ?_)
        · refine px_iconst (v := nI 0) dX10_goesOn_96 (by decide) ?_
          refine px_istore_n dX10_goesOn_97 (by decide) ?_
          refine px_aload_n dX10_goesOn_98 rfl ?_
          refine px_iconst (v := nI 4) dX10_goesOn_99 (by decide) ?_
          refine px_putI dX10_goesOn_100 fwX10_135 pv_s_model (by decide) (by decide) rfl pv_k_model ?_
          refine px_iload_n dX10_goesOn_103 rfl ?_
          exact px_zret dX10_goesOn_104 rfl rfl (Or.inl rfl) (h.2 ((es.trans (if_pos h5)).trans (if_neg (by omega))) _ (FM_u (FM_r I) (by omega)))
        · refine px_aload_n dX10_goesOn_84 rfl ?_
          refine px_getI dX10_goesOn_85 flX10_135 pv_s_model (by decide) (by decide) rfl pv_k_model ?_
          refine px_iv (y := nI (6)) (hd) ?_
          refine px_iconst (v := nI 3) dX10_goesOn_88 (by decide) ?_
          refine px_icmp_neN (tgt := 96) dX10_goesOn_89 (by decide) (by omega) (by omega) (fun _ => ?_) (fun h0 => absurd h0 (by omega))
          refine px_iconst (v := nI 0) dX10_goesOn_96 (by decide) ?_
          refine px_istore_n dX10_goesOn_97 (by decide) ?_
          refine px_aload_n dX10_goesOn_98 rfl ?_
          refine px_iconst (v := nI 4) dX10_goesOn_99 (by decide) ?_
          refine px_putI dX10_goesOn_100 fwX10_135 pv_s_model (by decide) (by decide) rfl pv_k_model ?_
          refine px_iload_n dX10_goesOn_103 rfl ?_
          exact px_zret dX10_goesOn_104 rfl rfl (Or.inl rfl) (h.2 ((es.trans (if_pos h5)).trans (if_neg (by omega))) _ (FM_u (FM_r I) (by omega)))
      · refine px_aload_n dX10_goesOn_15 rfl ?_
        refine px_dup dX10_goesOn_16 rfl ?_
        refine px_getI dX10_goesOn_17 flX10_132 pv_s_model (by decide) (by decide) rfl pv_k_model ?_
        refine px_iv (y := nI (Z.2.1)) (hP.1) ?_
        refine px_iconst (v := nI 1) dX10_goesOn_20 (by decide) ?_
        refine px_iaddN dX10_goesOn_21 ?_
        refine px_putI dX10_goesOn_22 fwX10_132 pv_s_model (by decide) (by decide) rfl pv_k_model ?_
        refine px_aload_n dX10_goesOn_25 rfl ?_
        refine px_getR dX10_goesOn_26 flX10_28 pv_s_model (by decide) (by decide) rfl pv_k_model pv_p_365_9 ?_
        refine px_aload_n dX10_goesOn_29 rfl ?_
        refine px_getI dX10_goesOn_30 flX10_132 pv_s_model (by decide) (by decide) rfl pv_k_model ?_
        refine px_iv (y := nI (Z.2.1 + 1)) (by simp [pv_uI_at]) ?_
        refine px_iconst (v := nI 0) dX10_goesOn_33 (by decide) ?_
        refine px_iast (j := (Z.2.1 + 1)) dX10_goesOn_34 pv_a_itof.1 rfl (by omega) pv_a_itof.2.2 pv_a_itof.2.1 ?_
        refine px_aload_n dX10_goesOn_35 rfl ?_
        refine px_iconst (v := nI 0) dX10_goesOn_36 (by decide) ?_
        refine px_putI dX10_goesOn_37 fwX10_135 pv_s_model (by decide) (by decide) rfl pv_k_model ?_
        refine px_iconst (v := nI 1) dX10_goesOn_40 (by decide) ?_
        exact px_zret dX10_goesOn_41 rfl rfl (Or.inl rfl) (h.1 _ ((es.trans (if_pos h5)).trans (if_pos (by omega))) _ (MP_menu hP hz) (FM_u (FM_u (FM_u (FM_r I) (by omega)) (by omega)) (by omega)))
  · have hd : I 365 11 = nI 3 := by rw [hP.2.1, e]; rfl
    have es : pz_step Z c = if c = 47 then some (pz_to Z 6) else pz_sep Z c := by unfold pz_step; rw [if_neg (by omega)]; rw [if_neg (by omega)]; rw [if_neg (by omega)]; rw [if_neg (by omega)]; rw [if_neg (by omega)]; rw [if_pos e]
    have hwl : Z.2.2.2.2 (120 + Z.2.1) = Z.2.2.1 + 1 := by rw [hz.2.2.2.2.1, if_pos (by omega)]
    refine px_iload_n dX10_goesOn_0 rfl ?_
    refine px_bipush (v := nI 59) dX10_goesOn_1 (by decide) ?_
    refine px_icmp_neN (tgt := 42) dX10_goesOn_3 (by decide) (by omega) (by omega) (fun h5 => ?_) (fun h5 => ?_)
    · refine px_iload_n dX10_goesOn_42 rfl ?_
      refine px_bipush (v := nI 44) dX10_goesOn_43 (by decide) ?_
      refine px_icmp_neN (tgt := 78) dX10_goesOn_45 (by decide) (by omega) (by omega) (fun h6 => ?_) (fun h6 => ?_)
      · refine px_iload_n dX10_goesOn_78 rfl ?_
        refine px_bipush (v := nI 47) dX10_goesOn_79 (by decide) ?_
        refine px_icmp_neN (tgt := 96) dX10_goesOn_81 (by decide) (by omega) (by omega) (fun h9 => ?_) (fun h9 => ?_)
        · refine px_iconst (v := nI 0) dX10_goesOn_96 (by decide) ?_
          refine px_istore_n dX10_goesOn_97 (by decide) ?_
          refine px_aload_n dX10_goesOn_98 rfl ?_
          refine px_iconst (v := nI 4) dX10_goesOn_99 (by decide) ?_
          refine px_putI dX10_goesOn_100 fwX10_135 pv_s_model (by decide) (by decide) rfl pv_k_model ?_
          refine px_iload_n dX10_goesOn_103 rfl ?_
          exact px_zret dX10_goesOn_104 rfl rfl (Or.inl rfl) (h.2 ((es.trans (if_neg (by omega))).trans ((if_neg (by omega)).trans (if_neg (by omega)))) _ (FM_u (FM_r I) (by omega)))
        · refine px_aload_n dX10_goesOn_84 rfl ?_
          refine px_getI dX10_goesOn_85 flX10_135 pv_s_model (by decide) (by decide) rfl pv_k_model ?_
          refine px_iv (y := nI (3)) (hd) ?_
          refine px_iconst (v := nI 3) dX10_goesOn_88 (by decide) ?_
          refine px_icmp_neN (tgt := 96) dX10_goesOn_89 (by decide) (by omega) (by omega) (fun h0 => absurd h0 (by omega)) (fun _ => ?_)
          refine px_iconst (v := nI 1) dX10_goesOn_92 (by decide) ?_
          refine px_goto (tgt := 97) dX10_goesOn_93 (by decide) ?_
          refine px_istore_n dX10_goesOn_97 (by decide) ?_
          refine px_aload_n dX10_goesOn_98 rfl ?_
          refine px_iconst (v := nI 4) dX10_goesOn_99 (by decide) ?_
          refine px_putI dX10_goesOn_100 fwX10_135 pv_s_model (by decide) (by decide) rfl pv_k_model ?_
          refine px_iload_n dX10_goesOn_103 rfl ?_
          exact px_zret dX10_goesOn_104 rfl rfl (Or.inl rfl) (h.1 _ (es.trans (if_pos h9)) _ (MP_to hP (Or.inr (Or.inr ⟨e, rfl⟩))) (FM_u (FM_r I) (by omega)))
      · refine px_aload_n dX10_goesOn_48 rfl ?_
        refine px_getI dX10_goesOn_49 flX10_135 pv_s_model (by decide) (by decide) rfl pv_k_model ?_
        refine px_iv (y := nI (3)) (hd) ?_
        refine px_bipush (v := nI 6) dX10_goesOn_52 (by decide) ?_
        refine px_icmp_eqN (tgt := 78) dX10_goesOn_54 (by decide) (by omega) (by omega) (fun h0 => absurd h0 (by omega)) (fun _ => ?_)
        refine px_aload_n dX10_goesOn_57 rfl ?_
        refine px_getR dX10_goesOn_58 flX10_28 pv_s_model (by decide) (by decide) rfl pv_k_model pv_p_365_9 ?_
        refine px_aload_n dX10_goesOn_61 rfl ?_
        refine px_getI dX10_goesOn_62 flX10_132 pv_s_model (by decide) (by decide) rfl pv_k_model ?_
        refine px_iv (y := nI (Z.2.1)) (hP.1) ?_
        refine px_iald (j := (Z.2.1)) dX10_goesOn_65 pv_a_itof.1 rfl (by omega) pv_a_itof.2.2 pv_a_itof.2.1 ?_
        refine px_iv (y := nI (Z.2.2.2.2 (120 + (Z.2.1)))) (hP.2.2.1 ((Z.2.1)) (Nat.le_refl _)) ?_
        refine px_iconst (v := nI 4) dX10_goesOn_66 (by decide) ?_
        refine px_icmp_geN (tgt := 78) dX10_goesOn_67 (by decide) (by omega) (by omega) (fun h7 => ?_) (fun h7 => ?_)
        · refine px_iload_n dX10_goesOn_78 rfl ?_
          refine px_bipush (v := nI 47) dX10_goesOn_79 (by decide) ?_
          refine px_icmp_neN (tgt := 96) dX10_goesOn_81 (by decide) (by omega) (by omega) (fun h9 => ?_) (fun h9 => ?_)
          · refine px_iconst (v := nI 0) dX10_goesOn_96 (by decide) ?_
            refine px_istore_n dX10_goesOn_97 (by decide) ?_
            refine px_aload_n dX10_goesOn_98 rfl ?_
            refine px_iconst (v := nI 4) dX10_goesOn_99 (by decide) ?_
            refine px_putI dX10_goesOn_100 fwX10_135 pv_s_model (by decide) (by decide) rfl pv_k_model ?_
            refine px_iload_n dX10_goesOn_103 rfl ?_
            exact px_zret dX10_goesOn_104 rfl rfl (Or.inl rfl) (h.2 ((es.trans (if_neg (by omega))).trans ((if_neg (by omega)).trans (if_neg (by omega)))) _ (FM_u (FM_r I) (by omega)))
          · refine px_aload_n dX10_goesOn_84 rfl ?_
            refine px_getI dX10_goesOn_85 flX10_135 pv_s_model (by decide) (by decide) rfl pv_k_model ?_
            refine px_iv (y := nI (3)) (hd) ?_
            refine px_iconst (v := nI 3) dX10_goesOn_88 (by decide) ?_
            refine px_icmp_neN (tgt := 96) dX10_goesOn_89 (by decide) (by omega) (by omega) (fun h0 => absurd h0 (by omega)) (fun _ => ?_)
            refine px_iconst (v := nI 1) dX10_goesOn_92 (by decide) ?_
            refine px_goto (tgt := 97) dX10_goesOn_93 (by decide) ?_
            refine px_istore_n dX10_goesOn_97 (by decide) ?_
            refine px_aload_n dX10_goesOn_98 rfl ?_
            refine px_iconst (v := nI 4) dX10_goesOn_99 (by decide) ?_
            refine px_putI dX10_goesOn_100 fwX10_135 pv_s_model (by decide) (by decide) rfl pv_k_model ?_
            refine px_iload_n dX10_goesOn_103 rfl ?_
            exact px_zret dX10_goesOn_104 rfl rfl (Or.inl rfl) (h.1 _ (es.trans (if_pos h9)) _ (MP_to hP (Or.inr (Or.inr ⟨e, rfl⟩))) (FM_u (FM_r I) (by omega)))
        · refine px_aload_n dX10_goesOn_70 rfl ?_
          refine px_bipush (v := nI 7) dX10_goesOn_71 (by decide) ?_
          refine px_putI dX10_goesOn_73 fwX10_135 pv_s_model (by decide) (by decide) rfl pv_k_model ?_
          refine px_iconst (v := nI 1) dX10_goesOn_76 (by decide) ?_
          exact px_zret dX10_goesOn_77 rfl rfl (Or.inl rfl) (h.1 _ ((es.trans (if_neg (by omega))).trans ((if_neg (by omega)).trans (if_pos ⟨h6, by omega⟩))) _ (MP_next hP) (FM_u (FM_r I) (by omega)))
    · refine px_aload_n dX10_goesOn_6 rfl ?_
      refine px_getI dX10_goesOn_7 flX10_132 pv_s_model (by decide) (by decide) rfl pv_k_model ?_
      refine px_iv (y := nI (Z.2.1)) (hP.1) ?_
      refine px_bipush (v := nI 9) dX10_goesOn_10 (by decide) ?_
      refine px_icmp_geN (tgt := 42) dX10_goesOn_12 (by decide) (by omega) (by omega) (fun h8 => ?_) (fun h8 => ?_)
      · refine px_iload_n dX10_goesOn_42 rfl ?_
        refine px_bipush (v := nI 44) dX10_goesOn_43 (by decide) ?_
        refine px_icmp_neN (tgt := 78) dX10_goesOn_45 (by decide) (by omega) (by omega) (fun _ => ?_) (fun h0 => absurd h0 (by omega))
        refine px_iload_n dX10_goesOn_78 rfl ?_
        refine px_bipush (v := nI 47) dX10_goesOn_79 (by decide) ?_
        refine px_icmp_neN (tgt := 96) dX10_goesOn_81 (by decide) (by omega) (by omega) (fun h9 => ?_) (fun h9 => ?_)
        · refine px_iconst (v := nI 0) dX10_goesOn_96 (by decide) ?_
          refine px_istore_n dX10_goesOn_97 (by decide) ?_
          refine px_aload_n dX10_goesOn_98 rfl ?_
          refine px_iconst (v := nI 4) dX10_goesOn_99 (by decide) ?_
          refine px_putI dX10_goesOn_100 fwX10_135 pv_s_model (by decide) (by decide) rfl pv_k_model ?_
          refine px_iload_n dX10_goesOn_103 rfl ?_
          exact px_zret dX10_goesOn_104 rfl rfl (Or.inl rfl) (h.2 ((es.trans (if_neg (by omega))).trans ((if_pos h5).trans (if_neg (by omega)))) _ (FM_u (FM_r I) (by omega)))
        · refine px_aload_n dX10_goesOn_84 rfl ?_
          refine px_getI dX10_goesOn_85 flX10_135 pv_s_model (by decide) (by decide) rfl pv_k_model ?_
          refine px_iv (y := nI (3)) (hd) ?_
          refine px_iconst (v := nI 3) dX10_goesOn_88 (by decide) ?_
          refine px_icmp_neN (tgt := 96) dX10_goesOn_89 (by decide) (by omega) (by omega) (fun h0 => absurd h0 (by omega)) (fun _ => ?_)
          refine px_iconst (v := nI 1) dX10_goesOn_92 (by decide) ?_
          refine px_goto (tgt := 97) dX10_goesOn_93 (by decide) ?_
          refine px_istore_n dX10_goesOn_97 (by decide) ?_
          refine px_aload_n dX10_goesOn_98 rfl ?_
          refine px_iconst (v := nI 4) dX10_goesOn_99 (by decide) ?_
          refine px_putI dX10_goesOn_100 fwX10_135 pv_s_model (by decide) (by decide) rfl pv_k_model ?_
          refine px_iload_n dX10_goesOn_103 rfl ?_
          exact px_zret dX10_goesOn_104 rfl rfl (Or.inl rfl) (h.1 _ (es.trans (if_pos h9)) _ (MP_to hP (Or.inr (Or.inr ⟨e, rfl⟩))) (FM_u (FM_r I) (by omega)))
      · refine px_aload_n dX10_goesOn_15 rfl ?_
        refine px_dup dX10_goesOn_16 rfl ?_
        refine px_getI dX10_goesOn_17 flX10_132 pv_s_model (by decide) (by decide) rfl pv_k_model ?_
        refine px_iv (y := nI (Z.2.1)) (hP.1) ?_
        refine px_iconst (v := nI 1) dX10_goesOn_20 (by decide) ?_
        refine px_iaddN dX10_goesOn_21 ?_
        refine px_putI dX10_goesOn_22 fwX10_132 pv_s_model (by decide) (by decide) rfl pv_k_model ?_
        refine px_aload_n dX10_goesOn_25 rfl ?_
        refine px_getR dX10_goesOn_26 flX10_28 pv_s_model (by decide) (by decide) rfl pv_k_model pv_p_365_9 ?_
        refine px_aload_n dX10_goesOn_29 rfl ?_
        refine px_getI dX10_goesOn_30 flX10_132 pv_s_model (by decide) (by decide) rfl pv_k_model ?_
        refine px_iv (y := nI (Z.2.1 + 1)) (by simp [pv_uI_at]) ?_
        refine px_iconst (v := nI 0) dX10_goesOn_33 (by decide) ?_
        refine px_iast (j := (Z.2.1 + 1)) dX10_goesOn_34 pv_a_itof.1 rfl (by omega) pv_a_itof.2.2 pv_a_itof.2.1 ?_
        refine px_aload_n dX10_goesOn_35 rfl ?_
        refine px_iconst (v := nI 0) dX10_goesOn_36 (by decide) ?_
        refine px_putI dX10_goesOn_37 fwX10_135 pv_s_model (by decide) (by decide) rfl pv_k_model ?_
        refine px_iconst (v := nI 1) dX10_goesOn_40 (by decide) ?_
        exact px_zret dX10_goesOn_41 rfl rfl (Or.inl rfl) (h.1 _ ((es.trans (if_neg (by omega))).trans ((if_pos h5).trans (if_pos (by omega)))) _ (MP_menu hP hz) (FM_u (FM_u (FM_u (FM_r I) (by omega)) (by omega)) (by omega)))
  · have hd : I 365 11 = nI 5 := by rw [hP.2.1, e]; rfl
    have es : pz_step Z c = pz_sep Z c := by unfold pz_step; rw [if_neg (by omega)]; rw [if_neg (by omega)]; rw [if_neg (by omega)]; rw [if_neg (by omega)]; rw [if_neg (by omega)]; rw [if_neg (by omega)]; rw [if_neg (by omega)]
    have hwl : Z.2.2.2.2 (120 + Z.2.1) = Z.2.2.1 + 1 := by rw [hz.2.2.2.2.1, if_pos (by omega)]
    refine px_iload_n dX10_goesOn_0 rfl ?_
    refine px_bipush (v := nI 59) dX10_goesOn_1 (by decide) ?_
    refine px_icmp_neN (tgt := 42) dX10_goesOn_3 (by decide) (by omega) (by omega) (fun h5 => ?_) (fun h5 => ?_)
    · refine px_iload_n dX10_goesOn_42 rfl ?_
      refine px_bipush (v := nI 44) dX10_goesOn_43 (by decide) ?_
      refine px_icmp_neN (tgt := 78) dX10_goesOn_45 (by decide) (by omega) (by omega) (fun h6 => ?_) (fun h6 => ?_)
      · refine px_iload_n dX10_goesOn_78 rfl ?_
        refine px_bipush (v := nI 47) dX10_goesOn_79 (by decide) ?_
        refine px_icmp_neN (tgt := 96) dX10_goesOn_81 (by decide) (by omega) (by omega) (fun h9 => ?_) (fun h9 => ?_)
        · refine px_iconst (v := nI 0) dX10_goesOn_96 (by decide) ?_
          refine px_istore_n dX10_goesOn_97 (by decide) ?_
          refine px_aload_n dX10_goesOn_98 rfl ?_
          refine px_iconst (v := nI 4) dX10_goesOn_99 (by decide) ?_
          refine px_putI dX10_goesOn_100 fwX10_135 pv_s_model (by decide) (by decide) rfl pv_k_model ?_
          refine px_iload_n dX10_goesOn_103 rfl ?_
          exact px_zret dX10_goesOn_104 rfl rfl (Or.inl rfl) (h.2 (es.trans ((if_neg (by omega)).trans (if_neg (by omega)))) _ (FM_u (FM_r I) (by omega)))
        · refine px_aload_n dX10_goesOn_84 rfl ?_
          refine px_getI dX10_goesOn_85 flX10_135 pv_s_model (by decide) (by decide) rfl pv_k_model ?_
          refine px_iv (y := nI (5)) (hd) ?_
          refine px_iconst (v := nI 3) dX10_goesOn_88 (by decide) ?_
          refine px_icmp_neN (tgt := 96) dX10_goesOn_89 (by decide) (by omega) (by omega) (fun _ => ?_) (fun h0 => absurd h0 (by omega))
          refine px_iconst (v := nI 0) dX10_goesOn_96 (by decide) ?_
          refine px_istore_n dX10_goesOn_97 (by decide) ?_
          refine px_aload_n dX10_goesOn_98 rfl ?_
          refine px_iconst (v := nI 4) dX10_goesOn_99 (by decide) ?_
          refine px_putI dX10_goesOn_100 fwX10_135 pv_s_model (by decide) (by decide) rfl pv_k_model ?_
          refine px_iload_n dX10_goesOn_103 rfl ?_
          exact px_zret dX10_goesOn_104 rfl rfl (Or.inl rfl) (h.2 (es.trans ((if_neg (by omega)).trans (if_neg (by omega)))) _ (FM_u (FM_r I) (by omega)))
      · refine px_aload_n dX10_goesOn_48 rfl ?_
        refine px_getI dX10_goesOn_49 flX10_135 pv_s_model (by decide) (by decide) rfl pv_k_model ?_
        refine px_iv (y := nI (5)) (hd) ?_
        refine px_bipush (v := nI 6) dX10_goesOn_52 (by decide) ?_
        refine px_icmp_eqN (tgt := 78) dX10_goesOn_54 (by decide) (by omega) (by omega) (fun h0 => absurd h0 (by omega)) (fun _ => ?_)
        refine px_aload_n dX10_goesOn_57 rfl ?_
        refine px_getR dX10_goesOn_58 flX10_28 pv_s_model (by decide) (by decide) rfl pv_k_model pv_p_365_9 ?_
        refine px_aload_n dX10_goesOn_61 rfl ?_
        refine px_getI dX10_goesOn_62 flX10_132 pv_s_model (by decide) (by decide) rfl pv_k_model ?_
        refine px_iv (y := nI (Z.2.1)) (hP.1) ?_
        refine px_iald (j := (Z.2.1)) dX10_goesOn_65 pv_a_itof.1 rfl (by omega) pv_a_itof.2.2 pv_a_itof.2.1 ?_
        refine px_iv (y := nI (Z.2.2.2.2 (120 + (Z.2.1)))) (hP.2.2.1 ((Z.2.1)) (Nat.le_refl _)) ?_
        refine px_iconst (v := nI 4) dX10_goesOn_66 (by decide) ?_
        refine px_icmp_geN (tgt := 78) dX10_goesOn_67 (by decide) (by omega) (by omega) (fun h7 => ?_) (fun h7 => ?_)
        · refine px_iload_n dX10_goesOn_78 rfl ?_
          refine px_bipush (v := nI 47) dX10_goesOn_79 (by decide) ?_
          refine px_icmp_neN (tgt := 96) dX10_goesOn_81 (by decide) (by omega) (by omega) (fun h9 => ?_) (fun h9 => ?_)
          · refine px_iconst (v := nI 0) dX10_goesOn_96 (by decide) ?_
            refine px_istore_n dX10_goesOn_97 (by decide) ?_
            refine px_aload_n dX10_goesOn_98 rfl ?_
            refine px_iconst (v := nI 4) dX10_goesOn_99 (by decide) ?_
            refine px_putI dX10_goesOn_100 fwX10_135 pv_s_model (by decide) (by decide) rfl pv_k_model ?_
            refine px_iload_n dX10_goesOn_103 rfl ?_
            exact px_zret dX10_goesOn_104 rfl rfl (Or.inl rfl) (h.2 (es.trans ((if_neg (by omega)).trans (if_neg (by omega)))) _ (FM_u (FM_r I) (by omega)))
          · refine px_aload_n dX10_goesOn_84 rfl ?_
            refine px_getI dX10_goesOn_85 flX10_135 pv_s_model (by decide) (by decide) rfl pv_k_model ?_
            refine px_iv (y := nI (5)) (hd) ?_
            refine px_iconst (v := nI 3) dX10_goesOn_88 (by decide) ?_
            refine px_icmp_neN (tgt := 96) dX10_goesOn_89 (by decide) (by omega) (by omega) (fun _ => ?_) (fun h0 => absurd h0 (by omega))
            refine px_iconst (v := nI 0) dX10_goesOn_96 (by decide) ?_
            refine px_istore_n dX10_goesOn_97 (by decide) ?_
            refine px_aload_n dX10_goesOn_98 rfl ?_
            refine px_iconst (v := nI 4) dX10_goesOn_99 (by decide) ?_
            refine px_putI dX10_goesOn_100 fwX10_135 pv_s_model (by decide) (by decide) rfl pv_k_model ?_
            refine px_iload_n dX10_goesOn_103 rfl ?_
            exact px_zret dX10_goesOn_104 rfl rfl (Or.inl rfl) (h.2 (es.trans ((if_neg (by omega)).trans (if_neg (by omega)))) _ (FM_u (FM_r I) (by omega)))
        · refine px_aload_n dX10_goesOn_70 rfl ?_
          refine px_bipush (v := nI 7) dX10_goesOn_71 (by decide) ?_
          refine px_putI dX10_goesOn_73 fwX10_135 pv_s_model (by decide) (by decide) rfl pv_k_model ?_
          refine px_iconst (v := nI 1) dX10_goesOn_76 (by decide) ?_
          exact px_zret dX10_goesOn_77 rfl rfl (Or.inl rfl) (h.1 _ (es.trans ((if_neg (by omega)).trans (if_pos ⟨h6, by omega⟩))) _ (MP_next hP) (FM_u (FM_r I) (by omega)))
    · refine px_aload_n dX10_goesOn_6 rfl ?_
      refine px_getI dX10_goesOn_7 flX10_132 pv_s_model (by decide) (by decide) rfl pv_k_model ?_
      refine px_iv (y := nI (Z.2.1)) (hP.1) ?_
      refine px_bipush (v := nI 9) dX10_goesOn_10 (by decide) ?_
      refine px_icmp_geN (tgt := 42) dX10_goesOn_12 (by decide) (by omega) (by omega) (fun h8 => ?_) (fun h8 => ?_)
      · refine px_iload_n dX10_goesOn_42 rfl ?_
        refine px_bipush (v := nI 44) dX10_goesOn_43 (by decide) ?_
        refine px_icmp_neN (tgt := 78) dX10_goesOn_45 (by decide) (by omega) (by omega) (fun _ => ?_) (fun h0 => absurd h0 (by omega))
        refine px_iload_n dX10_goesOn_78 rfl ?_
        refine px_bipush (v := nI 47) dX10_goesOn_79 (by decide) ?_
        refine px_icmp_neN (tgt := 96) dX10_goesOn_81 (by decide) (by omega) (by omega) (fun h9 => ?_) (fun h9 => ?_)
        · refine px_iconst (v := nI 0) dX10_goesOn_96 (by decide) ?_
          refine px_istore_n dX10_goesOn_97 (by decide) ?_
          refine px_aload_n dX10_goesOn_98 rfl ?_
          refine px_iconst (v := nI 4) dX10_goesOn_99 (by decide) ?_
          refine px_putI dX10_goesOn_100 fwX10_135 pv_s_model (by decide) (by decide) rfl pv_k_model ?_
          refine px_iload_n dX10_goesOn_103 rfl ?_
          exact px_zret dX10_goesOn_104 rfl rfl (Or.inl rfl) (h.2 (es.trans ((if_pos h5).trans (if_neg (by omega)))) _ (FM_u (FM_r I) (by omega)))
        · refine px_aload_n dX10_goesOn_84 rfl ?_
          refine px_getI dX10_goesOn_85 flX10_135 pv_s_model (by decide) (by decide) rfl pv_k_model ?_
          refine px_iv (y := nI (5)) (hd) ?_
          refine px_iconst (v := nI 3) dX10_goesOn_88 (by decide) ?_
          refine px_icmp_neN (tgt := 96) dX10_goesOn_89 (by decide) (by omega) (by omega) (fun _ => ?_) (fun h0 => absurd h0 (by omega))
          refine px_iconst (v := nI 0) dX10_goesOn_96 (by decide) ?_
          refine px_istore_n dX10_goesOn_97 (by decide) ?_
          refine px_aload_n dX10_goesOn_98 rfl ?_
          refine px_iconst (v := nI 4) dX10_goesOn_99 (by decide) ?_
          refine px_putI dX10_goesOn_100 fwX10_135 pv_s_model (by decide) (by decide) rfl pv_k_model ?_
          refine px_iload_n dX10_goesOn_103 rfl ?_
          exact px_zret dX10_goesOn_104 rfl rfl (Or.inl rfl) (h.2 (es.trans ((if_pos h5).trans (if_neg (by omega)))) _ (FM_u (FM_r I) (by omega)))
      · refine px_aload_n dX10_goesOn_15 rfl ?_
        refine px_dup dX10_goesOn_16 rfl ?_
        refine px_getI dX10_goesOn_17 flX10_132 pv_s_model (by decide) (by decide) rfl pv_k_model ?_
        refine px_iv (y := nI (Z.2.1)) (hP.1) ?_
        refine px_iconst (v := nI 1) dX10_goesOn_20 (by decide) ?_
        refine px_iaddN dX10_goesOn_21 ?_
        refine px_putI dX10_goesOn_22 fwX10_132 pv_s_model (by decide) (by decide) rfl pv_k_model ?_
        refine px_aload_n dX10_goesOn_25 rfl ?_
        refine px_getR dX10_goesOn_26 flX10_28 pv_s_model (by decide) (by decide) rfl pv_k_model pv_p_365_9 ?_
        refine px_aload_n dX10_goesOn_29 rfl ?_
        refine px_getI dX10_goesOn_30 flX10_132 pv_s_model (by decide) (by decide) rfl pv_k_model ?_
        refine px_iv (y := nI (Z.2.1 + 1)) (by simp [pv_uI_at]) ?_
        refine px_iconst (v := nI 0) dX10_goesOn_33 (by decide) ?_
        refine px_iast (j := (Z.2.1 + 1)) dX10_goesOn_34 pv_a_itof.1 rfl (by omega) pv_a_itof.2.2 pv_a_itof.2.1 ?_
        refine px_aload_n dX10_goesOn_35 rfl ?_
        refine px_iconst (v := nI 0) dX10_goesOn_36 (by decide) ?_
        refine px_putI dX10_goesOn_37 fwX10_135 pv_s_model (by decide) (by decide) rfl pv_k_model ?_
        refine px_iconst (v := nI 1) dX10_goesOn_40 (by decide) ?_
        exact px_zret dX10_goesOn_41 rfl rfl (Or.inl rfl) (h.1 _ (es.trans ((if_pos h5).trans (if_pos (by omega)))) _ (MP_menu hP hz) (FM_u (FM_u (FM_u (FM_r I) (by omega)) (by omega)) (by omega)))
theorem c_X10_goesOn {z : pv_Z} {E : pv_E} {d bc bs : Nat} {J : pv_JT} {I : pv_IT} {mi : pv_MI} {pc idx : Nat} {lv : pv_LV} {st : List Value} {Z : pv_Zp} {c : Nat} (hd : decode mi.2.1 pc = .ok (.invokevirtual idx, 3)) (hlk : Cond.methodLink mi.1.cls idx mX10_goesOn.1 ∈ pv_W) (hD : 0+1 ≤ d) (hP : MP I Z) (hz : PZ Z) (hc9 : c < 200) (hp : Z.1 = 1 ∨ Z.1 = 5 ∨ Z.1 = 7) (hcat : (st.map fun v => v.category).sum ≤ 8) (K : (∀ Z', pz_step Z c = some Z' → ∀ I' : pv_IT, MP I' Z' → FM I I' → pv_X z E d bc bs mi (pc + 3) lv ((.int (nI 1)) :: st) pv_K0 pv_P0 (I') (J)) ∧ (pz_step Z c = none → ∀ I' : pv_IT, FM I I' → pv_X z E d bc bs mi (pc + 3) lv ((.int (nI 0)) :: st) pv_K0 pv_P0 (I') (J))) : pv_X z E d bc bs mi pc lv (.int (nI (c)) :: .ref (365) :: st) pv_K0 pv_P0 I J := by
  obtain ⟨d, rfl⟩ : ∃ d0, d = d0 + 1 := ⟨d - 1, by omega⟩
  have key := px_callV (bc := bc) (bs := bs) (bc1 := 0) (bs1 := 0) (as := [.int (nI (c))]) (E := E) (z := z) (lv := lv) hd mvX10_goesOn hlk pv_s_model (by decide) rfl pv_k_model rfl rfl hcat (by exact Nat.le_of_ble_eq_true rfl) (s_X10_goesOn (by omega) hP hz hc9 hp K)
  rw [Nat.zero_add, Nat.zero_add] at key
  exact key
set_option maxRecDepth 100000 in
set_option maxHeartbeats 4000000 in
theorem s_X10_takes {Q : pv_Q} {E : pv_E} {d bc bs : Nat} {J : pv_JT} {I : pv_IT} {Z : pv_Zp} {c : Nat} (hD : 2 ≤ d) (hP : MP I Z) (hz : PZ Z) (hc9 : c < 200) (h : (∀ Z', pz_step Z c = some Z' → ∀ I' : pv_IT, MP I' Z' → FM I I' → Q (.inl (some (.int (nI 1)))) pv_K0 pv_P0 (I') (J)) ∧ (pz_step Z c = none → ∀ I' : pv_IT, FM I I' → Q (.inl (some (.int (nI 0)))) pv_K0 pv_P0 (I') (J))) : pv_X (pv_ZQ E Q) E d bc bs mX10_takes 0 [(0, .ref (365)), (1, .int (nI (c)))] [] pv_K0 pv_P0 I J := by
  have z1 := hz.1
  have z3 := hz.2.2.1
  have z2 := hz.2.1
  refine px_bipush (v := nI 12) dX10_takes_0 (by decide) ?_
  refine px_aload_n dX10_takes_2 rfl ?_
  refine px_getI dX10_takes_3 flX10_132 pv_s_model (by decide) (by decide) rfl pv_k_model ?_
  refine px_iv (y := nI (Z.2.1)) (hP.1) ?_
  refine px_imulN dX10_takes_6 ?_
  refine px_iconst (v := nI 3) dX10_takes_7 (by decide) ?_
  refine px_aload_n dX10_takes_8 rfl ?_
  refine px_getR dX10_takes_9 flX10_28 pv_s_model (by decide) (by decide) rfl pv_k_model pv_p_365_9 ?_
  refine px_aload_n dX10_takes_12 rfl ?_
  refine px_getI dX10_takes_13 flX10_132 pv_s_model (by decide) (by decide) rfl pv_k_model ?_
  refine px_iv (y := nI (Z.2.1)) (hP.1) ?_
  refine px_iald (j := (Z.2.1)) dX10_takes_16 pv_a_itof.1 rfl (by omega) pv_a_itof.2.2 pv_a_itof.2.1 ?_
  refine px_iv (y := nI (Z.2.2.2.2 (120 + (Z.2.1)))) (hP.2.2.1 ((Z.2.1)) (Nat.le_refl _)) ?_
  refine px_imulN dX10_takes_17 ?_
  refine px_iaddN dX10_takes_18 ?_
  refine px_istore_n dX10_takes_19 (by decide) ?_
  refine px_aload_n dX10_takes_20 rfl ?_
  refine px_getI dX10_takes_21 flX10_135 pv_s_model (by decide) (by decide) rfl pv_k_model ?_
  refine px_iv (y := nI (md Z.1)) (hP.2.1) ?_
  rcases (by omega : Z.1 = 0 ∨ Z.1 = 1 ∨ Z.1 = 2 ∨ Z.1 = 3 ∨ Z.1 = 4 ∨ Z.1 = 5 ∨ Z.1 = 6 ∨ Z.1 = 7) with e | e | e | e | e | e | e | e
  · rw [e]
    refine px_tableIn (tgt := 72) dX10_takes_24 (by decide) (by decide) rfl (by decide) ?_
    have es : pz_step Z c = if c = 45 then some (pz_to Z 1) else pz_item Z c := by unfold pz_step; rw [if_pos e]
    refine px_iload_n dX10_takes_72 rfl ?_
    refine px_bipush (v := nI 45) dX10_takes_73 (by decide) ?_
    refine px_icmp_neN (tgt := 86) dX10_takes_75 (by decide) (by omega) (by omega) (fun h5 => ?_) (fun h5 => ?_)
    · refine px_aload_n dX10_takes_86 rfl ?_
      refine px_iload_n dX10_takes_87 rfl ?_
      refine c_X10_takesItem dX10_takes_88 mlX10_138 (by omega) hP hz hc9 (Or.inl e) (Nat.le_of_ble_eq_true rfl) ⟨fun Z1 hZ1 I1 hP1 hF1 => ?_, fun hZ1 I1 hF1 => ?_⟩
      exact px_zret dX10_takes_91 rfl rfl (Or.inl rfl) (h.1 Z1 ((es.trans (if_neg h5)).trans hZ1) I1 hP1 hF1)
      exact px_zret dX10_takes_91 rfl rfl (Or.inl rfl) (h.2 ((es.trans (if_neg h5)).trans hZ1) I1 hF1)
    · refine px_aload_n dX10_takes_78 rfl ?_
      refine px_bipush (v := nI 6) dX10_takes_79 (by decide) ?_
      refine px_putI dX10_takes_81 fwX10_135 pv_s_model (by decide) (by decide) rfl pv_k_model ?_
      refine px_iconst (v := nI 1) dX10_takes_84 (by decide) ?_
      exact px_zret dX10_takes_85 rfl rfl (Or.inl rfl) (h.1 _ (es.trans (if_pos h5)) _ (MP_to hP (Or.inl ⟨e, rfl⟩)) (FM_u (FM_r I) (by omega)))
  · rw [e]
    refine px_tableIn (tgt := 203) dX10_takes_24 (by decide) (by decide) rfl (by decide) ?_
    refine px_aload_n dX10_takes_203 rfl ?_
    refine px_iload_n dX10_takes_204 rfl ?_
    refine c_X10_goesOn dX10_takes_205 mlX10_141 (by omega) hP hz hc9 (by omega) (Nat.le_of_ble_eq_true rfl) ⟨fun Z1 hZ1 I1 hP1 hF1 => ?_, fun hZ1 I1 hF1 => ?_⟩
    exact px_zret dX10_takes_208 rfl rfl (Or.inl rfl) (h.1 Z1 ((rfl).trans hZ1) I1 hP1 hF1)
    exact px_zret dX10_takes_208 rfl rfl (Or.inl rfl) (h.2 ((rfl).trans hZ1) I1 hF1)
  · rw [e]
    refine px_tableIn (tgt := 197) dX10_takes_24 (by decide) (by decide) rfl (by decide) ?_
    have es : pz_step Z c = pz_item Z c := by unfold pz_step; rw [if_neg (by omega)]; rw [if_neg (by omega)]; rw [if_pos e]
    refine px_aload_n dX10_takes_197 rfl ?_
    refine px_iload_n dX10_takes_198 rfl ?_
    refine c_X10_takesItem dX10_takes_199 mlX10_138 (by omega) hP hz hc9 (Or.inr e) (Nat.le_of_ble_eq_true rfl) ⟨fun Z1 hZ1 I1 hP1 hF1 => ?_, fun hZ1 I1 hF1 => ?_⟩
    exact px_zret dX10_takes_202 rfl rfl (Or.inl rfl) (h.1 Z1 ((es).trans hZ1) I1 hP1 hF1)
    exact px_zret dX10_takes_202 rfl rfl (Or.inl rfl) (h.2 ((es).trans hZ1) I1 hF1)
  · rw [e]
    refine px_tableIn (tgt := 92) dX10_takes_24 (by decide) (by decide) rfl (by decide) ?_
    have es : pz_step Z c = if c = 42 then some (pz_to Z 4) else none := by unfold pz_step; rw [if_neg (by omega)]; rw [if_neg (by omega)]; rw [if_neg (by omega)]; rw [if_pos e]
    have hwl : Z.2.2.2.2 (120 + Z.2.1) = Z.2.2.1 := by rw [hz.2.2.2.2.1, if_neg (by omega)]
    rw [hwl]
    refine px_aload_n dX10_takes_92 rfl ?_
    refine px_iconst (v := nI 2) dX10_takes_93 (by decide) ?_
    refine px_putI dX10_takes_94 fwX10_135 pv_s_model (by decide) (by decide) rfl pv_k_model ?_
    refine px_iload_n dX10_takes_97 rfl ?_
    refine px_bipush (v := nI 42) dX10_takes_98 (by decide) ?_
    refine px_icmp_neN (tgt := 107) dX10_takes_100 (by decide) (by omega) (by omega) (fun h5 => ?_) (fun h5 => ?_)
    · refine px_iconst (v := nI 0) dX10_takes_107 (by decide) ?_
      exact px_zret dX10_takes_108 rfl rfl (Or.inl rfl) (h.2 (es.trans (if_neg h5)) _ (FM_u (FM_r I) (by omega)))
    · refine px_iconst (v := nI 1) dX10_takes_103 (by decide) ?_
      refine px_goto (tgt := 108) dX10_takes_104 (by decide) ?_
      exact px_zret dX10_takes_108 rfl rfl (Or.inl rfl) (h.1 _ (es.trans (if_pos h5)) _ (MP_to hP (Or.inr (Or.inl ⟨e, rfl⟩))) (FM_u (FM_r I) (by omega)))
  · rw [e]
    refine px_tableIn (tgt := 109) dX10_takes_24 (by decide) (by decide) rfl (by decide) ?_
    have es : pz_step Z c = pz_amt Z c := by unfold pz_step; rw [if_neg (by omega)]; rw [if_neg (by omega)]; rw [if_neg (by omega)]; rw [if_neg (by omega)]; rw [if_pos e]
    have hwl : Z.2.2.2.2 (120 + Z.2.1) = Z.2.2.1 := by rw [hz.2.2.2.2.1, if_neg (by omega)]
    rw [hwl]
    by_cases hc : 49 ≤ c ∧ c ≤ 57
    · refine px_aload_n dX10_takes_109 rfl ?_
      refine px_getR dX10_takes_110 flX10_25 pv_s_model (by decide) (by decide) rfl pv_k_model pv_p_365_8 ?_
      refine px_iload_n dX10_takes_113 rfl ?_
      refine px_iconst (v := nI 1) dX10_takes_114 (by decide) ?_
      refine px_iaddN dX10_takes_115 ?_
      refine px_iload_n dX10_takes_116 rfl ?_
      refine px_bipush (v := nI 48) dX10_takes_117 (by decide) ?_
      refine px_isubN (by omega) dX10_takes_119 ?_
      refine px_iast (j := ((12 * Z.2.1 + 3 * Z.2.2.1) + 1)) dX10_takes_120 pv_a_items.1 rfl (by omega) pv_a_items.2.2 pv_a_items.2.1 ?_
      refine px_aload_n dX10_takes_121 rfl ?_
      refine px_getR dX10_takes_122 flX10_28 pv_s_model (by decide) (by decide) rfl pv_k_model pv_p_365_9 ?_
      refine px_aload_n dX10_takes_125 rfl ?_
      refine px_getI dX10_takes_126 flX10_132 pv_s_model (by decide) (by decide) rfl pv_k_model ?_
      refine px_iv (y := nI (Z.2.1)) (Eq.trans (by simp only [pv_uI_at]; repeat' (first | rfl | omega | split)) (hP.1)) ?_
      refine px_dup2 dX10_takes_129 rfl rfl ?_
      refine px_iald (j := (Z.2.1)) dX10_takes_130 pv_a_itof.1 rfl (by omega) pv_a_itof.2.2 pv_a_itof.2.1 ?_
      refine px_iv (y := nI (Z.2.2.1)) (Eq.trans (by simp only [pv_uI_at]; repeat' (first | rfl | omega | split)) ((hP.2.2.1 ((Z.2.1)) (Nat.le_refl _)).trans (congrArg nI hwl))) ?_
      refine px_iconst (v := nI 1) dX10_takes_131 (by decide) ?_
      refine px_iaddN dX10_takes_132 ?_
      refine px_iast (j := (Z.2.1)) dX10_takes_133 pv_a_itof.1 rfl (by omega) pv_a_itof.2.2 pv_a_itof.2.1 ?_
      refine px_aload_n dX10_takes_134 rfl ?_
      refine px_iconst (v := nI 3) dX10_takes_135 (by decide) ?_
      refine px_putI dX10_takes_136 fwX10_135 pv_s_model (by decide) (by decide) rfl pv_k_model ?_
      refine px_iload_n dX10_takes_139 rfl ?_
      refine px_bipush (v := nI 49) dX10_takes_140 (by decide) ?_
      refine px_bipush (v := nI 57) dX10_takes_142 (by decide) ?_
      refine c_X10_within dX10_takes_144 mlX10_35 (by omega)  (Nat.le_of_ble_eq_true rfl) ?_
      rw [pv_bl1 ((pu_c (by omega) (by omega) (by omega)).mpr hc)]
      exact px_zret dX10_takes_147 rfl rfl (Or.inl rfl) (h.1 _ (es.trans (if_pos hc)) _ (MP_amt hP hz e) (FM_u (FM_u (FM_u (FM_r I) (by omega)) (by omega)) (by omega)))
    · refine px_aload_n dX10_takes_109 rfl ?_
      refine px_getR dX10_takes_110 flX10_25 pv_s_model (by decide) (by decide) rfl pv_k_model pv_p_365_8 ?_
      refine px_iload_n dX10_takes_113 rfl ?_
      refine px_iconst (v := nI 1) dX10_takes_114 (by decide) ?_
      refine px_iaddN dX10_takes_115 ?_
      refine px_iload_n dX10_takes_116 rfl ?_
      refine px_bipush (v := nI 48) dX10_takes_117 (by decide) ?_
      refine px_isub dX10_takes_119 ?_
      refine px_iast (j := ((12 * Z.2.1 + 3 * Z.2.2.1) + 1)) dX10_takes_120 pv_a_items.1 rfl (by omega) pv_a_items.2.2 pv_a_items.2.1 ?_
      refine px_aload_n dX10_takes_121 rfl ?_
      refine px_getR dX10_takes_122 flX10_28 pv_s_model (by decide) (by decide) rfl pv_k_model pv_p_365_9 ?_
      refine px_aload_n dX10_takes_125 rfl ?_
      refine px_getI dX10_takes_126 flX10_132 pv_s_model (by decide) (by decide) rfl pv_k_model ?_
      refine px_iv (y := nI (Z.2.1)) (Eq.trans (by simp only [pv_uI_at]; repeat' (first | rfl | omega | split)) (hP.1)) ?_
      refine px_dup2 dX10_takes_129 rfl rfl ?_
      refine px_iald (j := (Z.2.1)) dX10_takes_130 pv_a_itof.1 rfl (by omega) pv_a_itof.2.2 pv_a_itof.2.1 ?_
      refine px_iv (y := nI (Z.2.2.1)) (Eq.trans (by simp only [pv_uI_at]; repeat' (first | rfl | omega | split)) ((hP.2.2.1 ((Z.2.1)) (Nat.le_refl _)).trans (congrArg nI hwl))) ?_
      refine px_iconst (v := nI 1) dX10_takes_131 (by decide) ?_
      refine px_iaddN dX10_takes_132 ?_
      refine px_iast (j := (Z.2.1)) dX10_takes_133 pv_a_itof.1 rfl (by omega) pv_a_itof.2.2 pv_a_itof.2.1 ?_
      refine px_aload_n dX10_takes_134 rfl ?_
      refine px_iconst (v := nI 3) dX10_takes_135 (by decide) ?_
      refine px_putI dX10_takes_136 fwX10_135 pv_s_model (by decide) (by decide) rfl pv_k_model ?_
      refine px_iload_n dX10_takes_139 rfl ?_
      refine px_bipush (v := nI 49) dX10_takes_140 (by decide) ?_
      refine px_bipush (v := nI 57) dX10_takes_142 (by decide) ?_
      refine c_X10_within dX10_takes_144 mlX10_35 (by omega)  (Nat.le_of_ble_eq_true rfl) ?_
      rw [pv_bl0 (fun z => hc ((pu_c (by omega) (by omega) (by omega)).mp z))]
      exact px_zret dX10_takes_147 rfl rfl (Or.inl rfl) (h.2 (es.trans (if_neg hc)) _ (FM_u (FM_u (FM_u (FM_r I) (by omega)) (by omega)) (by omega)))
  · rw [e]
    refine px_tableIn (tgt := 203) dX10_takes_24 (by decide) (by decide) rfl (by decide) ?_
    refine px_aload_n dX10_takes_203 rfl ?_
    refine px_iload_n dX10_takes_204 rfl ?_
    refine c_X10_goesOn dX10_takes_205 mlX10_141 (by omega) hP hz hc9 (by omega) (Nat.le_of_ble_eq_true rfl) ⟨fun Z1 hZ1 I1 hP1 hF1 => ?_, fun hZ1 I1 hF1 => ?_⟩
    exact px_zret dX10_takes_208 rfl rfl (Or.inl rfl) (h.1 Z1 ((rfl).trans hZ1) I1 hP1 hF1)
    exact px_zret dX10_takes_208 rfl rfl (Or.inl rfl) (h.2 ((rfl).trans hZ1) I1 hF1)
  · rw [e]
    refine px_tableIn (tgt := 148) dX10_takes_24 (by decide) (by decide) rfl (by decide) ?_
    have es : pz_step Z c = pz_sub Z c := by unfold pz_step; rw [if_neg (by omega)]; rw [if_neg (by omega)]; rw [if_neg (by omega)]; rw [if_neg (by omega)]; rw [if_neg (by omega)]; rw [if_neg (by omega)]; rw [if_pos e]
    have hwl : Z.2.2.2.2 (120 + Z.2.1) = Z.2.2.1 + 1 := by rw [hz.2.2.2.2.1, if_pos (by omega)]
    rw [hwl]
    have hcell := (hP.2.2.2.2 (by omega)).1
    have hk8 := (hz.2.2.2.2.2.2.1 Z.2.1 (Nat.le_refl _)).2 Z.2.2.1 (by omega)
    unfold pz_in at hk8
    by_cases hc : 48 ≤ c ∧ c ≤ 55
    · refine px_aload_n dX10_takes_148 rfl ?_
      refine px_getR dX10_takes_149 flX10_25 pv_s_model (by decide) (by decide) rfl pv_k_model pv_p_365_8 ?_
      refine px_iload_n dX10_takes_152 rfl ?_
      refine px_iconst (v := nI 1) dX10_takes_153 (by decide) ?_
      refine px_isubN (by omega) dX10_takes_154 ?_
      refine px_iload_n dX10_takes_155 rfl ?_
      refine px_bipush (v := nI 48) dX10_takes_156 (by decide) ?_
      refine px_isubN (by omega) dX10_takes_158 ?_
      refine px_iast (j := ((12 * Z.2.1 + 3 * (Z.2.2.1 + 1)) - 1)) dX10_takes_159 pv_a_items.1 rfl (by omega) pv_a_items.2.2 pv_a_items.2.1 ?_
      refine px_aload_n dX10_takes_160 rfl ?_
      refine px_iconst (v := nI 5) dX10_takes_161 (by decide) ?_
      refine px_putI dX10_takes_162 fwX10_135 pv_s_model (by decide) (by decide) rfl pv_k_model ?_
      refine px_iload_n dX10_takes_165 rfl ?_
      refine px_bipush (v := nI 48) dX10_takes_166 (by decide) ?_
      refine px_bipush (v := nI 55) dX10_takes_168 (by decide) ?_
      refine c_X10_within dX10_takes_170 mlX10_35 (by omega)  (Nat.le_of_ble_eq_true rfl) ?_
      rw [pv_bl1 ((pu_c (by omega) (by omega) (by omega)).mpr hc)]
      refine px_if_eqN (tgt := 195) dX10_takes_173 (by decide) (by omega) (fun h0 => absurd h0 (by omega)) (fun _ => ?_)
      refine px_iload_n dX10_takes_176 rfl ?_
      refine px_bipush (v := nI 48) dX10_takes_177 (by decide) ?_
      refine px_isubN (by omega) dX10_takes_179 ?_
      refine px_aload_n dX10_takes_180 rfl ?_
      refine px_getR dX10_takes_181 flX10_25 pv_s_model (by decide) (by decide) rfl pv_k_model pv_p_365_8 ?_
      refine px_iload_n dX10_takes_184 rfl ?_
      refine px_iconst (v := nI 3) dX10_takes_185 (by decide) ?_
      refine px_isubN (by omega) dX10_takes_186 ?_
      refine px_iald (j := ((12 * Z.2.1 + 3 * (Z.2.2.1 + 1)) - 3)) dX10_takes_187 pv_a_items.1 rfl (by omega) pv_a_items.2.2 pv_a_items.2.1 ?_
      refine px_iv (y := nI (Z.2.2.2.2 (12 * Z.2.1 + 3 * Z.2.2.1))) ((by simp only [pv_uI_at]; rw [if_neg (by omega), if_neg (by omega)]; exact (congrArg _ (by omega)).trans hcell)) ?_
      refine px_icmp_eqN (tgt := 195) dX10_takes_188 (by decide) (by omega) (by omega) (fun h5 => ?_) (fun h5 => ?_)
      · refine px_iconst (v := nI 0) dX10_takes_195 (by decide) ?_
        exact px_zret dX10_takes_196 rfl rfl (Or.inl rfl) (h.2 (es.trans (if_neg (fun z => z.2 h5))) _ (FM_u (FM_u (FM_r I) (by omega)) (by omega)))
      · refine px_iconst (v := nI 1) dX10_takes_191 (by decide) ?_
        refine px_goto (tgt := 196) dX10_takes_192 (by decide) ?_
        rw [show 12 * Z.2.1 + 3 * (Z.2.2.1 + 1) - 1 = 12 * Z.2.1 + 3 * Z.2.2.1 + 2 by omega]
        exact px_zret dX10_takes_196 rfl rfl (Or.inl rfl) (h.1 _ (es.trans (if_pos ⟨hc, h5⟩)) _ (MP_sub hP hz e) (FM_u (FM_u (FM_r I) (by omega)) (by omega)))
    · refine px_aload_n dX10_takes_148 rfl ?_
      refine px_getR dX10_takes_149 flX10_25 pv_s_model (by decide) (by decide) rfl pv_k_model pv_p_365_8 ?_
      refine px_iload_n dX10_takes_152 rfl ?_
      refine px_iconst (v := nI 1) dX10_takes_153 (by decide) ?_
      refine px_isubN (by omega) dX10_takes_154 ?_
      refine px_iload_n dX10_takes_155 rfl ?_
      refine px_bipush (v := nI 48) dX10_takes_156 (by decide) ?_
      refine px_isub dX10_takes_158 ?_
      refine px_iast (j := ((12 * Z.2.1 + 3 * (Z.2.2.1 + 1)) - 1)) dX10_takes_159 pv_a_items.1 rfl (by omega) pv_a_items.2.2 pv_a_items.2.1 ?_
      refine px_aload_n dX10_takes_160 rfl ?_
      refine px_iconst (v := nI 5) dX10_takes_161 (by decide) ?_
      refine px_putI dX10_takes_162 fwX10_135 pv_s_model (by decide) (by decide) rfl pv_k_model ?_
      refine px_iload_n dX10_takes_165 rfl ?_
      refine px_bipush (v := nI 48) dX10_takes_166 (by decide) ?_
      refine px_bipush (v := nI 55) dX10_takes_168 (by decide) ?_
      refine c_X10_within dX10_takes_170 mlX10_35 (by omega)  (Nat.le_of_ble_eq_true rfl) ?_
      rw [pv_bl0 (fun z => hc ((pu_c (by omega) (by omega) (by omega)).mp z))]
      refine px_if_eqN (tgt := 195) dX10_takes_173 (by decide) (by omega) (fun _ => ?_) (fun h0 => absurd h0 (by omega))
      refine px_iconst (v := nI 0) dX10_takes_195 (by decide) ?_
      exact px_zret dX10_takes_196 rfl rfl (Or.inl rfl) (h.2 (es.trans (if_neg (fun z => hc z.1))) _ (FM_u (FM_u (FM_r I) (by omega)) (by omega)))
  · rw [e]
    refine px_tableIn (tgt := 203) dX10_takes_24 (by decide) (by decide) rfl (by decide) ?_
    refine px_aload_n dX10_takes_203 rfl ?_
    refine px_iload_n dX10_takes_204 rfl ?_
    refine c_X10_goesOn dX10_takes_205 mlX10_141 (by omega) hP hz hc9 (by omega) (Nat.le_of_ble_eq_true rfl) ⟨fun Z1 hZ1 I1 hP1 hF1 => ?_, fun hZ1 I1 hF1 => ?_⟩
    exact px_zret dX10_takes_208 rfl rfl (Or.inl rfl) (h.1 Z1 ((rfl).trans hZ1) I1 hP1 hF1)
    exact px_zret dX10_takes_208 rfl rfl (Or.inl rfl) (h.2 ((rfl).trans hZ1) I1 hF1)
theorem c_X10_takes {z : pv_Z} {E : pv_E} {d bc bs : Nat} {J : pv_JT} {I : pv_IT} {mi : pv_MI} {pc idx : Nat} {lv : pv_LV} {st : List Value} {Z : pv_Zp} {c : Nat} (hd : decode mi.2.1 pc = .ok (.invokevirtual idx, 3)) (hlk : Cond.methodLink mi.1.cls idx mX10_takes.1 ∈ pv_W) (hD : 2+1 ≤ d) (hP : MP I Z) (hz : PZ Z) (hc9 : c < 200) (hcat : (st.map fun v => v.category).sum ≤ 8) (K : (∀ Z', pz_step Z c = some Z' → ∀ I' : pv_IT, MP I' Z' → FM I I' → pv_X z E d bc bs mi (pc + 3) lv ((.int (nI 1)) :: st) pv_K0 pv_P0 (I') (J)) ∧ (pz_step Z c = none → ∀ I' : pv_IT, FM I I' → pv_X z E d bc bs mi (pc + 3) lv ((.int (nI 0)) :: st) pv_K0 pv_P0 (I') (J))) : pv_X z E d bc bs mi pc lv (.int (nI (c)) :: .ref (365) :: st) pv_K0 pv_P0 I J := by
  obtain ⟨d, rfl⟩ : ∃ d0, d = d0 + 1 := ⟨d - 1, by omega⟩
  have key := px_callV (bc := bc) (bs := bs) (bc1 := 0) (bs1 := 0) (as := [.int (nI (c))]) (E := E) (z := z) (lv := lv) hd mvX10_takes hlk pv_s_model (by decide) rfl pv_k_model rfl rfl hcat (by exact Nat.le_of_ble_eq_true rfl) (s_X10_takes (by omega) hP hz hc9 K)
  rw [Nat.zero_add, Nat.zero_add] at key
  exact key
set_option maxRecDepth 100000 in
set_option maxHeartbeats 4000000 in
theorem s_X10_rightLength {Q : pv_Q} {E : pv_E} {d bc bs : Nat} {J : pv_JT} {I : pv_IT} {B : List Nat} (hD : 3 ≤ d) (hB : MB I B) (hB9 : ∀ j, j < B.length → bf B j < 200) (h : ∀ I' : pv_IT, (∀ Z, pz_run (bf B) B.length = some Z → MP I' Z) → FM I I' → Q (.inl (some (.int (nI (pz_err (bf B) B.length))))) pv_K0 pv_P0 (I') (J)) : pv_X (pv_ZQ E Q) E d bc bs mX10_rightLength 0 [(0, .ref (365))] [] pv_K0 pv_P0 I J := by
  have h60 := hB.2.1
  refine px_aload_n dX10_rightLength_0 rfl ?_
  refine px_iconst (v := nI 0) dX10_rightLength_1 (by decide) ?_
  refine px_putI dX10_rightLength_2 fwX10_132 pv_s_model (by decide) (by decide) rfl pv_k_model ?_
  refine px_aload_n dX10_rightLength_5 rfl ?_
  refine px_getR dX10_rightLength_6 flX10_28 pv_s_model (by decide) (by decide) rfl pv_k_model pv_p_365_9 ?_
  refine px_iconst (v := nI 0) dX10_rightLength_9 (by decide) ?_
  refine px_iconst (v := nI 0) dX10_rightLength_10 (by decide) ?_
  refine px_iast (j := 0) dX10_rightLength_11 pv_a_itof.1 rfl (by omega) pv_a_itof.2.2 pv_a_itof.2.1 ?_
  refine px_aload_n dX10_rightLength_12 rfl ?_
  refine px_iconst (v := nI 0) dX10_rightLength_13 (by decide) ?_
  refine px_putI dX10_rightLength_14 fwX10_135 pv_s_model (by decide) (by decide) rfl pv_k_model ?_
  refine px_iconst (v := nI 0) dX10_rightLength_17 (by decide) ?_
  refine px_istore_n dX10_rightLength_18 (by decide) ?_
  generalize hI2 : pv_uI (pv_uI (pv_uI I 365 10 (nI 0)) 372 0 (nI 0)) 365 11 (nI 0) = I2
  have hF2 : FM I I2 := by
    rw [← hI2]
    exact FM_u (FM_u (FM_u (FM_r I) (by omega)) (by omega)) (by omega)
  have hP2 : MP I2 pz_0 := by
    refine ⟨?_, ?_, fun m hm => ?_, fun m hm i hi => absurd hi (Nat.not_lt_zero _), fun hx => absurd hx (by decide)⟩
    · rw [← hI2]; simp only [pv_uI_at]; rw [if_neg (by omega), if_neg (by omega), if_pos (by simp)]; rfl
    · rw [← hI2]; simp only [pv_uI_at]; rw [if_pos (by simp)]; rfl
    · replace hm : m ≤ 0 := hm
      have hm0 : m = 0 := by omega
      subst hm0
      rw [← hI2]; simp only [pv_uI_at]; rw [if_neg (by omega), if_pos (by simp)]; rfl
  have key : ∀ i : Nat, i ≤ B.length → ∀ (I3 : pv_IT) (Z : pv_Zp), pz_run (bf B) (i) = some Z → MP I3 Z → FM I I3 → pv_X (pv_ZQ E Q) E d bc bs mX10_rightLength 19 [(0, .ref 365), (1, .int (nI (i)))] [] pv_K0 pv_P0 (I3) (J) := by
    refine pv_up (B.length) ?_ ?_
    · intro I3 Z hZ hP3 hF3
      refine px_iload_n dX10_rightLength_19 rfl ?_
      refine px_aload_n dX10_rightLength_20 rfl ?_
      refine px_getI dX10_rightLength_21 flX10_144 pv_s_model (by decide) (by decide) rfl pv_k_model ?_
      refine px_iv (y := nI (B.length)) ((hF3.2 5 (by omega) (by omega)).trans hB.1) ?_
      refine px_icmp_geN (tgt := 46) dX10_rightLength_24 (by decide) (by omega) (by omega) (fun _ => ?_) (fun h0 => absurd h0 (by omega))
      refine px_iload_n dX10_rightLength_46 rfl ?_
      have hall : ∀ j, j < B.length → (fun j => (pz_run (bf B) (j + 1)).isNone) j = false := fun j hj => by
        cases e : pz_run (bf B) (j + 1) with
        | some x => show (pz_run (bf B) (j + 1)).isNone = false; rw [e]; rfl
        | none =>
          have := pz_run_none e (B.length - (j + 1))
          rw [show j + 1 + (B.length - (j + 1)) = B.length by omega, hZ] at this
          cases this
      have herr : pz_err (bf B) B.length = B.length := by unfold pz_err; rw [pf_none hall]
      rw [herr] at h
      exact px_iret dX10_rightLength_47 rfl (Or.inl rfl) (h I3 (fun Z0 h0 => by rw [hZ] at h0; rw [← Option.some.inj h0]; exact hP3) hF3)
    · intro i hi K I3 Z hZ hP3 hF3
      have hc9 := hB9 i hi
      have hg := pz_run_ok hZ
      refine px_iload_n dX10_rightLength_19 rfl ?_
      refine px_aload_n dX10_rightLength_20 rfl ?_
      refine px_getI dX10_rightLength_21 flX10_144 pv_s_model (by decide) (by decide) rfl pv_k_model ?_
      refine px_iv (y := nI (B.length)) ((hF3.2 5 (by omega) (by omega)).trans hB.1) ?_
      refine px_icmp_geN (tgt := 46) dX10_rightLength_24 (by decide) (by omega) (by omega) (fun h0 => absurd h0 (by omega)) (fun _ => ?_)
      refine px_aload_n dX10_rightLength_27 rfl ?_
      refine px_aload_n dX10_rightLength_28 rfl ?_
      refine px_getR dX10_rightLength_29 flX10_19 pv_s_model (by decide) (by decide) rfl pv_k_model pv_p_365_6 ?_
      refine px_iload_n dX10_rightLength_32 rfl ?_
      refine px_iald (j := i) dX10_rightLength_33 pv_a_buf.1 rfl (by omega) pv_a_buf.2.2 pv_a_buf.2.1 ?_
      refine px_iv (y := nI (bf B i)) ((congrFun (hF3.1 369 (by omega) (by omega) (by omega)) i).trans (hB.2.2 i hi)) ?_
      refine c_X10_takes dX10_rightLength_34 mlX10_147 (by omega) hP3 hg.1 hc9 (Nat.le_of_ble_eq_true rfl) ⟨fun Z1 hZ1 I4 hP4 hF4 => ?_, fun hZ1 I4 hF4 => ?_⟩
      · refine px_if_eqN (tgt := 46) dX10_rightLength_37 (by decide) (by omega) (fun h0 => absurd h0 (by omega)) (fun _ => ?_)
        refine px_iincN (c := 1) (by decide) dX10_rightLength_40 rfl (by decide) ?_
        refine px_goto (tgt := 19) dX10_rightLength_43 (by decide) ?_
        refine px_keep [0, 1] ?_
        exact K I4 Z1 ((pz_run1 hZ).trans hZ1) hP4 (FM_t hF3 hF4)
      · refine px_if_eqN (tgt := 46) dX10_rightLength_37 (by decide) (by omega) (fun _ => ?_) (fun h0 => absurd h0 (by omega))
        refine px_iload_n dX10_rightLength_46 rfl ?_
        have hn : pz_run (bf B) (i + 1) = none := (pz_run1 hZ).trans hZ1
        have hlo : ∀ j, j < i → (fun j => (pz_run (bf B) (j + 1)).isNone) j = false := fun j hj => by
          cases e : pz_run (bf B) (j + 1) with
          | some x => show (pz_run (bf B) (j + 1)).isNone = false; rw [e]; rfl
          | none =>
            have := pz_run_none e (i - (j + 1))
            rw [show j + 1 + (i - (j + 1)) = i by omega, hZ] at this
            cases this
        have herr : pz_err (bf B) B.length = i := by
          unfold pz_err
          rw [pf_some hi hlo (by show (pz_run (bf B) (i + 1)).isNone = true; rw [hn]; rfl)]
        rw [herr] at h
        exact px_iret dX10_rightLength_47 rfl (Or.inl rfl) (h I4 (fun Z0 h0 => by
            have := pz_run_none hn (B.length - (i + 1))
            rw [show i + 1 + (B.length - (i + 1)) = B.length by omega, h0] at this
            cases this) (FM_t hF3 hF4))
  exact key 0 (by omega) I2 pz_0 rfl hP2 hF2
theorem c_X10_rightLength {z : pv_Z} {E : pv_E} {d bc bs : Nat} {J : pv_JT} {I : pv_IT} {mi : pv_MI} {pc idx : Nat} {lv : pv_LV} {st : List Value} {B : List Nat} (hd : decode mi.2.1 pc = .ok (.invokevirtual idx, 3)) (hlk : Cond.methodLink mi.1.cls idx mX10_rightLength.1 ∈ pv_W) (hD : 3+1 ≤ d) (hB : MB I B) (hB9 : ∀ j, j < B.length → bf B j < 200) (hcat : (st.map fun v => v.category).sum ≤ 8) (K : ∀ I' : pv_IT, (∀ Z, pz_run (bf B) B.length = some Z → MP I' Z) → FM I I' → pv_X z E d bc bs mi (pc + 3) lv ((.int (nI (pz_err (bf B) B.length))) :: st) pv_K0 pv_P0 (I') (J)) : pv_X z E d bc bs mi pc lv (.ref (365) :: st) pv_K0 pv_P0 I J := by
  obtain ⟨d, rfl⟩ : ∃ d0, d = d0 + 1 := ⟨d - 1, by omega⟩
  have key := px_callV (bc := bc) (bs := bs) (bc1 := 0) (bs1 := 0) (as := []) (E := E) (z := z) (lv := lv) hd mvX10_rightLength hlk pv_s_model (by decide) rfl pv_k_model rfl rfl hcat (by exact Nat.le_of_ble_eq_true rfl) (s_X10_rightLength (by omega) hB hB9 K)
  rw [Nat.zero_add, Nat.zero_add] at key
  exact key
