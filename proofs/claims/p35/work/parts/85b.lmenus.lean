/-! The law: menus are read in. -/
set_option maxRecDepth 100000 in
set_option maxHeartbeats 4000000 in
theorem s_L_menus_b {Q : pv_Q} {E : pv_E} {d bc bs : Nat} {J : pv_JT} {T : pv_T} {L : List pv_Lot} {H : List pv_S} {n m i : Nat} {x y : Int32} {I : pv_IT} {k0 a0 s0 p hi : Nat} {W : Nat → Nat} {B : List Nat} (hDep : 9 ≤ d) (hm : m < 3) (hi3 : i < 3) (hn : n ≤ 600) (q4 : T 405 ≤ 4) (hk0 : k0 < T 405) (ha0 : 1 ≤ a0 ∧ a0 ≤ 9) (hs0 : s0 = 4294967295 ∨ (s0 < T 405 ∧ ¬ s0 = k0)) (g0 : I 368 (9 * m + 3 * i) = nI k0) (g1 : I 368 ((9 * m + 3 * i) + 1) = nI a0) (g2 : I 368 ((9 * m + 3 * i) + 2) = nI s0) (hCA : CA I ((T, L), H, B)) (hw : wx n ((T, L), H, B)) (hhi : hi ≤ T 405) (hlen : B.length < 55) (hr : pz_run (bf B) B.length = some (p, m, i - 1, hi, W)) (hp : (i = 0 ∧ p = 0) ∨ (0 < i ∧ (p = 5 ∨ p = 7))) (K : ∀ (I2 : pv_IT) (B2 : List Nat) (p2 hi2 : Nat) (W2 : Nat → Nat), CA I2 ((T, L), H, B2) → wx n ((T, L), H, B2) → pz_run (bf B2) B2.length = some (p2, m, i, hi2, W2) → (p2 = 5 ∨ p2 = 7) → hi2 ≤ T 405 → B2.length ≤ B.length + 6 → (∀ k, 365 ≤ k → I2 k = I k) → W2 (12 * m + 3 * i) = k0 → W2 ((12 * m + 3 * i) + 1) = a0 → W2 ((12 * m + 3 * i) + 2) = s0 → W2 (120 + m) = i + 1 → (∀ j, j < (12 * m + 3 * i) ∨ ((12 * m + 3 * i) + 2 < j ∧ j ≠ 120 + m) → W2 j = W j) → pv_X (pv_ZQ E Q) E d bc bs mL_menus 93 [(0, .ref 0), (1, .int x), (2, .int y), (3, .ref 365), (4, .ref 368), (5, .int (nI m)), (6, .int (nI (i + 1)))] [] pv_K0 pv_P0 (I2) (J)) : pv_X (pv_ZQ E Q) E d (6 + (6 + (6 + (6 + (6 + (6 + bc)))))) (36 + (36 + (36 + (36 + (36 + (36 + bs)))))) mL_menus 224 [(0, .ref 0), (1, .int x), (2, .int y), (3, .ref 365), (4, .ref 368), (5, .int (nI m)), (6, .int (nI i)), (7, .int (nI (9 * m + 3 * i)))] [] pv_K0 pv_P0 (I) (J) := by
  refine px_iload dL_menus_224 rfl ?_
  refine px_if_eqN (tgt := 238) dL_menus_226 (by decide) (by omega) (fun h5 => ?_) (fun h5 => ?_)
  · have e : i - 1 = i := by omega
    rw [e] at hr
    refine px_weak rfl (Nat.le_refl _) (c1 := (6 + (6 + (6 + (6 + (6 + bc)))))) (s1 := (36 + (36 + (36 + (36 + (36 + bs)))))) (by omega) (by omega) ?_
    exact s_L_menus_c hDep hm hi3 hn q4 hk0 ha0 hs0 g0 g1 g2 hCA hw hhi (by omega) hr (by omega) (fun I2 B2 p2 hi2 W2 c1 c2 c3 c4 c5 c6 => K I2 B2 p2 hi2 W2 c1 c2 c3 c4 c5 (by omega))
  · refine px_aload_n dL_menus_229 rfl ?_
    refine px_bipush (v := nI 44) dL_menus_230 (by decide) ?_
    have st1 : pz_step (p, m, i - 1, hi, W) 44 = some (2, m, i - 1 + 1, hi, W) := by
      have h5 : p = 5 ∨ p = 7 := by omega
      rcases h5 with rfl | rfl
      · rw [q_step5 (by decide)]
        unfold pz_sep
        rw [if_neg (by decide)]
        exact if_pos ⟨rfl, by show i - 1 < 3; omega⟩
      · rw [q_step7]
        unfold pz_sep
        rw [if_neg (by decide)]
        exact if_pos ⟨rfl, by show i - 1 < 3; omega⟩
    refine q_append dL_menus_232 mlL_87 (by omega) hCA hw hn hr (by omega) (by omega) st1 (Nat.le_of_ble_eq_true rfl) (fun I1 hCA1 hw1 hr1 hG1 => ?_)
    have ln1 : (B ++ [44]).length = B.length + 1 := q_b60
    have e : i - 1 + 1 = i := by omega
    rw [e] at hr1
    refine px_if_leN (tgt := 319) dL_menus_235 (by decide) (by omega) (fun h0 => absurd h0 (by omega)) (fun _ => ?_)
    exact s_L_menus_c hDep hm hi3 hn q4 hk0 ha0 hs0 ((congrFun (hG1 368 (by omega)) _).trans g0) ((congrFun (hG1 368 (by omega)) _).trans g1) ((congrFun (hG1 368 (by omega)) _).trans g2) hCA1 hw1 hhi (by omega) hr1 (Or.inr rfl) (fun I2 B2 p2 hi2 W2 c1 c2 c3 c4 c5 c6 c7 => K I2 B2 p2 hi2 W2 c1 c2 c3 c4 c5 (by omega) (fun k hk => (c7 k hk).trans (hG1 k hk)))
/-- behind i items of menu m (of c, of M menus) -/
def qZ (n : Nat) (I0 I : pv_IT) (T : pv_T) (L : List pv_Lot) (H : List pv_S) (m M c i : Nat) (B : List Nat) (p hi : Nat) (W : Nat → Nat) : Prop :=
  CA I ((T, L), H, B) ∧ wx n ((T, L), H, B) ∧ pz_run (bf B) B.length = some (p, m, i - 1, hi, W) ∧ hi ≤ T 405 ∧ B.length ≤ 20 * m + 2 + 6 * i ∧ W (120 + m) = i ∧ ((i = 0 ∧ ((c = 0 ∧ p = 1) ∨ (0 < c ∧ p = 0))) ∨ (0 < i ∧ (p = 5 ∨ p = 7))) ∧ qi I W m i ∧ qmm I W m ∧ I 365 (15 + m) = nI c ∧ qfr I0 I M
/-- behind m menus -/
def qY (n : Nat) (I0 I : pv_IT) (T : pv_T) (L : List pv_Lot) (H : List pv_S) (m M : Nat) (B : List Nat) (p t hi : Nat) (W : Nat → Nat) : Prop :=
  CA I ((T, L), H, B) ∧ wx n ((T, L), H, B) ∧ pz_run (bf B) B.length = some (p, m - 1, t, hi, W) ∧ hi ≤ T 405 ∧ B.length ≤ 20 * m ∧ ((m = 0 ∧ p = 0 ∧ t = 0 ∧ W 120 = 0) ∨ (0 < m ∧ (p = 1 ∨ p = 5 ∨ p = 7))) ∧ qmm I W m ∧ qfr I0 I M
set_option maxRecDepth 100000 in
set_option maxHeartbeats 4000000 in
theorem s_L_menus_d {Q : pv_Q} {E : pv_E} {d bc bs : Nat} {J : pv_JT} {T : pv_T} {L : List pv_Lot} {H : List pv_S} {n m M c : Nat} {x y : Int32} {I0 : pv_IT} {I : pv_IT} {B : List Nat} {p hi : Nat} {W : Nat → Nat} (hDep : 9 ≤ d) (hm : m < 3) (hc : c ≤ 3) (hn : n ≤ 600) (q4 : T 405 ≤ 4) (q1 : 0 < T 405) (hd0 : I0 365 0 = nI (T 405)) (hZ : qZ n I0 I T L H m M c 0 B p hi W) (K : ∀ (I2 : pv_IT) (B2 : List Nat) (p2 t2 hi2 : Nat) (W2 : Nat → Nat), qY n I0 I2 T L H (m + 1) M B2 p2 t2 hi2 W2 → pv_X (pv_ZQ E Q) E d bc bs mL_menus 26 [(0, .ref 0), (1, .int x), (2, .int y), (3, .ref 365), (4, .ref 368), (5, .int (nI (m + 1)))] [] pv_K0 pv_P0 (I2) (J)) : pv_X (pv_ZQ E Q) E d (108 + bc) (648 + bs) mL_menus 93 [(0, .ref 0), (1, .int x), (2, .int y), (3, .ref 365), (4, .ref 368), (5, .int (nI m)), (6, .int (nI 0))] [] pv_K0 pv_P0 (I) (J) := by
  have key : ∀ i : Nat, i ≤ c → ∀ (I1 : pv_IT) (B1 : List Nat) (p1 hi1 : Nat) (W1 : Nat → Nat), qZ n I0 I1 T L H m M c i B1 p1 hi1 W1 → pv_X (pv_ZQ E Q) E d (36 * (3 - (i)) + bc) (216 * (3 - (i)) + bs) mL_menus 93 [(0, .ref 0), (1, .int x), (2, .int y), (3, .ref 365), (4, .ref 368), (5, .int (nI m)), (6, .int (nI (i)))] [] pv_K0 pv_P0 (I1) (J) := by
    refine pv_up (c) ?_ ?_
    · intro I1 B1 p1 hi1 W1 hZ1
      obtain ⟨hCA, hw, hr, hhi, hlen, hWm, hp, hqi, hqm, hdc, hfr⟩ := hZ1
      refine px_iload dL_menus_93 rfl ?_
      refine px_aload_n dL_menus_95 rfl ?_
      refine px_bipush (v := nI 15) dL_menus_96 (by decide) ?_
      refine px_iload dL_menus_98 rfl ?_
      refine px_iaddN dL_menus_100 ?_
      refine px_iald (j := (15 + m)) dL_menus_101 pv_a_d.1 rfl (by omega) pv_a_d.2.2 pv_a_d.2.1 ?_
      refine px_iv (y := nI (c)) (hdc) ?_
      refine px_icmp_geN (tgt := 335) dL_menus_102 (by decide) (by omega) (by omega) (fun _ => ?_) (fun h0 => absurd h0 (by omega))
      refine px_iincN (c := 1) (by decide) dL_menus_335 rfl (by decide) ?_
      refine px_goto (tgt := 26) dL_menus_338 (by decide) ?_
      refine px_keep [0, 1, 2, 3, 4, 5] ?_
      refine px_weak rfl (Nat.le_refl _) (c1 := bc) (s1 := bs) (by omega) (by omega) ?_
      refine K I1 B1 p1 (c - 1) hi1 W1 ⟨hCA, hw, hr, hhi, by omega, Or.inr ⟨by omega, by omega⟩, fun m' hm' => ?_, hfr⟩
      by_cases e : m' = m
      · subst e
        rw [hWm]
        exact ⟨hdc, hc, hqi⟩
      · exact hqm m' (by omega)
    · intro i hi K9 I1 B1 p1 hi1 W1 hZ1
      obtain ⟨hCA, hw, hr, hhi, hlen, hWm, hp, hqi, hqm, hdc, hfr⟩ := hZ1
      refine px_bud (bc' := (6 + (6 + (6 + (6 + (6 + (6 + (36 * (3 - (i + 1)) + bc)))))))) (bs' := (36 + (36 + (36 + (36 + (36 + (36 + (216 * (3 - (i + 1)) + bs)))))))) (by omega) (by omega) ?_
      refine px_iload dL_menus_93 rfl ?_
      refine px_aload_n dL_menus_95 rfl ?_
      refine px_bipush (v := nI 15) dL_menus_96 (by decide) ?_
      refine px_iload dL_menus_98 rfl ?_
      refine px_iaddN dL_menus_100 ?_
      refine px_iald (j := (15 + m)) dL_menus_101 pv_a_d.1 rfl (by omega) pv_a_d.2.2 pv_a_d.2.1 ?_
      refine px_iv (y := nI (c)) (hdc) ?_
      refine px_icmp_geN (tgt := 335) dL_menus_102 (by decide) (by omega) (by omega) (fun h0 => absurd h0 (by omega)) (fun _ => ?_)
      refine s_L_menus_a hDep hm (by omega) q4 q1 ((hfr.2.1 0 (by omega) (by omega)).trans hd0) (fun I2 k0 a0 s0 hk0 ha1 ha9 hs0 g0 g1 g2 hF2 ho2 => ?_)
      have hCA2 : CA I2 ((T, L), H, B1) := CA_far hCA (fun k hk => hF2 k (by omega))
      refine s_L_menus_b hDep hm (by omega) hn q4 hk0 ⟨ha1, ha9⟩ hs0 g0 g1 g2 hCA2 hw hhi (by omega) hr (by omega) (fun I3 B3 p3 hi3 W3 c1 c2 c3 c4 c5 c6 c7 w0 w1 w2 w3 wo => ?_)
      have e368 : ∀ j, I3 368 j = I2 368 j := fun j => congrFun (c7 368 (by omega)) j
      refine K9 I3 B3 p3 hi3 W3 ⟨c1, c2, c3, c5, by omega, w3, Or.inr ⟨by omega, c4⟩, ?_, fun m' hm' => ?_, ?_, ?_⟩
      · intro i' w' hi' hw'
        rw [e368]
        by_cases e : i' = i
        · subst e
          match w', hw' with
          | 0, _ => rw [Nat.add_zero, Nat.add_zero, w0]; exact g0
          | 1, _ => rw [w1]; exact g1
          | 2, _ => rw [w2]; exact g2
          | w' + 3, h9 => exact absurd h9 (by omega)
        · rw [ho2 _ (by omega), wo _ (by omega)]
          exact hqi i' w' (by omega) hw'
      · obtain ⟨h1, h2, h3⟩ := hqm m' hm'
        have e1 : W3 (120 + m') = W1 (120 + m') := wo _ (by omega)
        rw [c7 365 (by omega), hF2 365 (by omega), e1]
        exact ⟨h1, h2, qi_of h3 (fun j j1 j2 => (e368 j).trans (ho2 j (by omega))) (fun j j1 j2 => wo j (by omega))⟩
      · rw [c7 365 (by omega), hF2 365 (by omega)]; exact hdc
      · exact qfr_of hfr (fun k k1 k2 => (c7 k k1).trans (hF2 k k2))
  exact px_bud (by omega) (by omega) (key 0 (by omega) I B p hi W hZ)
set_option maxRecDepth 100000 in
set_option maxHeartbeats 4000000 in
theorem s_L_menus_e {Q : pv_Q} {E : pv_E} {d bc bs : Nat} {J : pv_JT} {T : pv_T} {L : List pv_Lot} {H : List pv_S} {n m M : Nat} {x y : Int32} {I0 : pv_IT} {I : pv_IT} {B : List Nat} {p t hi : Nat} {W : Nat → Nat} (hDep : 9 ≤ d) (hm : m < 3) (hn : n ≤ 600) (q4 : T 405 ≤ 4) (q1 : 0 < T 405) (hd0 : I0 365 0 = nI (T 405)) (hY : qY n I0 I T L H m M B p t hi W) (K : ∀ (I2 : pv_IT) (B2 : List Nat) (p2 t2 hi2 : Nat) (W2 : Nat → Nat), qY n I0 I2 T L H (m + 1) M B2 p2 t2 hi2 W2 → pv_X (pv_ZQ E Q) E d bc bs mL_menus 26 [(0, .ref 0), (1, .int x), (2, .int y), (3, .ref 365), (4, .ref 368), (5, .int (nI (m + 1)))] [] pv_K0 pv_P0 (I2) (J)) : pv_X (pv_ZQ E Q) E d (6 + (6 + (108 + bc))) (36 + (36 + (648 + bs))) mL_menus 34 [(0, .ref 0), (1, .int x), (2, .int y), (3, .ref 365), (4, .ref 368), (5, .int (nI m))] [] pv_K0 pv_P0 (I) (J) := by
  obtain ⟨hCA, hw, hr, hhi, hlen, hp, hqm, hfr⟩ := hY
  refine px_aload_n dL_menus_34 rfl ?_
  refine px_bipush (v := nI 15) dL_menus_35 (by decide) ?_
  refine px_iload dL_menus_37 rfl ?_
  refine px_iaddN dL_menus_39 ?_
  refine px_iload_n dL_menus_40 rfl ?_
  refine px_iconst (v := nI 3) dL_menus_41 (by decide) ?_
  refine px_iconst (v := nI 2) dL_menus_42 (by decide) ?_
  refine px_iload dL_menus_43 rfl ?_
  refine px_imulN dL_menus_45 ?_
  refine px_iaddN dL_menus_46 ?_
  refine px_ishr dL_menus_47 ?_
  refine px_iconst (v := nI 4) dL_menus_48 (by decide) ?_
  refine c_L_at dL_menus_49 mlL_30 (by omega) (by omega) (by omega) (Nat.le_of_ble_eq_true rfl) (fun c hc => ?_)
  refine px_iast (j := 15 + m) dL_menus_52 pv_a_d.1 rfl (by omega) pv_a_d.2.2 pv_a_d.2.1 ?_
  generalize hI1 : pv_uI I 365 (15 + m) (nI c) = I1
  have hF1 : ∀ k, k ≠ 365 → I1 k = I k := fun k hk => by rw [← hI1]; exact pv_uI_ne hk
  have ho1 : ∀ j, j ≠ 15 + m → I1 365 j = I 365 j := fun j hj => by rw [← hI1, pv_uI_at, if_neg (by omega)]
  have h1c : I1 365 (15 + m) = nI c := by rw [← hI1, pv_uI_at, if_pos ⟨rfl, rfl⟩]
  clear hI1
  have hCA1 : CA I1 ((T, L), H, B) := CA_far hCA (fun k hk => hF1 k (by omega))
  have hfr1 : qfr I0 I1 M := ⟨fun k k1 k2 k3 => (hF1 k k2).trans (hfr.1 k k1 k2 k3), fun j j1 j2 => (ho1 j (by omega)).trans (hfr.2.1 j j1 j2), (ho1 2 (by omega)).trans hfr.2.2⟩
  have hqm1 : qmm I1 W m := fun m' hm' => by
    obtain ⟨h1, h2, h3⟩ := hqm m' hm'
    exact ⟨(ho1 _ (by omega)).trans h1, h2, qi_of h3 (fun j _ _ => congrFun (hF1 368 (by omega)) j) (fun _ _ _ => rfl)⟩
  clear hCA hqm hfr
  have kh : ∀ (I2 : pv_IT) (B2 : List Nat) (W2 : Nat → Nat), CA I2 ((T, L), H, B2) → wx n ((T, L), H, B2) → pz_run (bf B2) B2.length = some (0, m, 0, hi, W2) → B2.length ≤ 20 * m + 1 → W2 (120 + m) = 0 → qmm I2 W2 m → I2 365 (15 + m) = nI c → qfr I0 I2 M → pv_X (pv_ZQ E Q) E d (6 + (108 + bc)) (36 + (648 + bs)) mL_menus 68 [(0, .ref 0), (1, .int x), (2, .int y), (3, .ref 365), (4, .ref 368), (5, .int (nI m))] [] pv_K0 pv_P0 (I2) (J) := by
    intro I2 B2 W2 hCA2 hw2 hr2 hlen2 hW2 hqm2 h2c hfr2
    refine px_aload_n dL_menus_68 rfl ?_
    refine px_bipush (v := nI 15) dL_menus_69 (by decide) ?_
    refine px_iload dL_menus_71 rfl ?_
    refine px_iaddN dL_menus_73 ?_
    refine px_iald (j := (15 + m)) dL_menus_74 pv_a_d.1 rfl (by omega) pv_a_d.2.2 pv_a_d.2.1 ?_
    refine px_iv (y := nI (c)) (h2c) ?_
    refine px_if_neN (tgt := 90) dL_menus_75 (by decide) (by omega) (fun h6 => ?_) (fun h6 => ?_)
    · refine px_iconst (v := nI 0) dL_menus_90 (by decide) ?_
      refine px_istore dL_menus_91 (by decide) ?_
      refine px_weak rfl (Nat.le_refl _) (c1 := 108 + bc) (s1 := 648 + bs) (by omega) (by omega) ?_
      exact s_L_menus_d hDep hm (by omega) hn q4 q1 hd0 ⟨hCA2, hw2, hr2, hhi, by omega, hW2, Or.inl ⟨rfl, Or.inr ⟨by omega, rfl⟩⟩, fun i' w' h9 _ => absurd h9 (Nat.not_lt_zero _), hqm2, h2c, hfr2⟩ K
    · refine px_aload_n dL_menus_78 rfl ?_
      refine px_bipush (v := nI 45) dL_menus_79 (by decide) ?_
      have st1 : pz_step (0, m, 0, hi, W2) 45 = some (1, m, 0, hi, W2) := rfl
      refine q_append dL_menus_81 mlL_87 (by omega) hCA2 hw2 hn hr2 (by omega) (by omega) st1 (Nat.le_of_ble_eq_true rfl) (fun I3 hCA3 hw3 hr3 hG3 => ?_)
      have ln1 : (B2 ++ [45]).length = B2.length + 1 := q_b60
      refine px_iconst (v := nI 1) dL_menus_84 (by decide) ?_
      refine px_icmp_geN (tgt := 90) dL_menus_85 (by decide) (by omega) (by omega) (fun _ => ?_) (fun h0 => absurd h0 (by omega))
      refine px_iconst (v := nI 0) dL_menus_90 (by decide) ?_
      refine px_istore dL_menus_91 (by decide) ?_
      exact s_L_menus_d hDep hm (by omega) hn q4 q1 hd0 ⟨hCA3, hw3, hr3, hhi, by omega, hW2, Or.inl ⟨rfl, Or.inl ⟨by omega, rfl⟩⟩, fun i' w' h9 _ => absurd h9 (Nat.not_lt_zero _), fun m' hm' => (by
        obtain ⟨h1, h2, h3⟩ := hqm2 m' hm'
        exact ⟨(congrFun (hG3 365 (by omega)) _).trans h1, h2, qi_of h3 (fun j _ _ => congrFun (hG3 368 (by omega)) j) (fun _ _ _ => rfl)⟩), (congrFun (hG3 365 (by omega)) _).trans h2c, qfr_of hfr2 (fun k k1 _ => hG3 k k1)⟩ K
  refine px_iload dL_menus_53 rfl ?_
  refine px_if_leN (tgt := 68) dL_menus_55 (by decide) (by omega) (fun h5 => ?_) (fun h5 => ?_)
  · obtain ⟨hp1, hp2, hp3, hp4⟩ : m = 0 ∧ p = 0 ∧ t = 0 ∧ W 120 = 0 := by omega
    subst hp1; subst hp2; subst hp3
    refine px_weak rfl (Nat.le_refl _) (c1 := 6 + (108 + bc)) (s1 := 36 + (648 + bs)) (by omega) (by omega) ?_
    exact kh I1 B W hCA1 hw hr (by omega) hp4 hqm1 h1c hfr1
  · refine px_aload_n dL_menus_58 rfl ?_
    refine px_bipush (v := nI 59) dL_menus_59 (by decide) ?_
    have st1 : pz_step (p, m - 1, t, hi, W) 59 = some (0, m - 1 + 1, 0, hi, pt_up W (120 + (m - 1 + 1)) 0) := by
      have h5 : p = 1 ∨ p = 5 ∨ p = 7 := by omega
      rcases h5 with rfl | rfl | rfl
      · show pz_menu _ = _
        exact if_pos (by show m - 1 < 9; omega)
      · rw [q_step5 (by decide)]
        unfold pz_sep
        rw [if_pos rfl]
        exact if_pos (by show m - 1 < 9; omega)
      · rw [q_step7]
        unfold pz_sep
        rw [if_pos rfl]
        exact if_pos (by show m - 1 < 9; omega)
    refine q_append dL_menus_61 mlL_87 (by omega) hCA1 hw hn hr (by omega) (by omega) st1 (Nat.le_of_ble_eq_true rfl) (fun I2 hCA2 hw2 hr2 hG2 => ?_)
    have ln1 : (B ++ [59]).length = B.length + 1 := q_b60
    have e : m - 1 + 1 = m := by omega
    rw [e] at hr2
    refine px_iconst (v := nI 1) dL_menus_64 (by decide) ?_
    refine px_icmp_ltN (tgt := 88) dL_menus_65 (by decide) (by omega) (by omega) (fun h0 => absurd h0 (by omega)) (fun _ => ?_)
    refine kh I2 _ _ hCA2 hw2 hr2 (by omega) pt_us (fun m' hm' => ?_) ((congrFun (hG2 365 (by omega)) _).trans h1c) (qfr_of hfr1 (fun k k1 _ => hG2 k k1))
    obtain ⟨h1, h2, h3⟩ := hqm1 m' hm'
    rw [pt_un (show 120 + m' ≠ 120 + m by omega)]
    exact ⟨(congrFun (hG2 365 (by omega)) _).trans h1, h2, qi_of h3 (fun j _ _ => congrFun (hG2 368 (by omega)) j) (fun j j1 j2 => pt_un (by omega))⟩
set_option maxRecDepth 100000 in
set_option maxHeartbeats 4000000 in
theorem s_L_menus {Q : pv_Q} {E : pv_E} {d bc bs : Nat} {J : pv_JT} {I : pv_IT} {T : pv_T} {L : List pv_Lot} {H : List pv_S} {B : List Nat} {n : Nat} {x y : Int32} (hDep : 9 ≤ d) (hW : qW n I ((T, L), H, B)) (hn : n ≤ 29) (hbc : 372 ≤ bc) (hbs : 2232 ≤ bs) (h : ∀ (I' : pv_IT) (X' : pv_XS), qW (n + 1) I' X' → Q (.inl (some (.int (nI 1)))) pv_K0 pv_P0 (I') (J)) : pv_X (pv_ZQ E Q) E d bc bs mL_menus 0 [(0, .ref 0), (1, .int (x)), (2, .int (y)), (3, .ref (365)), (4, .ref (368))] [] pv_K0 pv_P0 I J := by
  obtain ⟨hCA, hw, ⟨r, g, hQD, hQK, hQL, hQM, hQP, hQR⟩, ⟨q4, q11, q3, qm3, qp4⟩, hin, hacc, hq404, hq410⟩ := id hW
  replace hQD : qD I T L.length := hQD
  replace hQK : qK I T := hQK
  replace hQL : qL I L := hQL
  replace hQM : qM I T := hQM
  replace hQP : qP I T r := hQP
  replace hQR : qR (T 407) r g := hQR
  replace q4 : T 405 ≤ 4 := q4
  replace q11 : L.length ≤ 11 := q11
  replace q3 : T 408 ≤ 3 := q3
  replace qm3 : ∀ m, m < T 408 → T (314 + m) ≤ 3 := qm3
  replace qp4 : T 407 ≤ 4 := qp4
  replace hin : qin T L := hin
  replace hacc : qacc T L := hacc
  replace hq404 : T 404 ≤ 20 * (n - 6) := hq404
  replace hq410 : T 410 ≤ 10000 + 2000 * n := hq410
  have hdy : dy (T, L) := hw.1.1
  have htb : tb T := hdy.1
  have hlb : lbs L := hdy.2.1
  have hlo : lo_ok L := hdy.2.2
  have hpw : pw T := htb.2.2.2.2.2.1
  have hkk : ∀ l, l < L.length → (pl_g L l).1 < T 405 := hw.1.2.2.2.2.2.1
  have h31 : L.length ≤ 31 := hlb.1
  have hn8 : T 405 ≤ 8 := htb.2.2.1
  have h10 : T 408 ≤ 10 := htb.2.2.2.2.2.2.2.1
  refine px_aload_n dL_menus_0 rfl ?_
  refine px_iconst (v := nI 0) dL_menus_1 (by decide) ?_
  refine px_iald (j := 0) dL_menus_2 pv_a_d.1 rfl (by omega) pv_a_d.2.2 pv_a_d.2.1 ?_
  refine px_iv (y := nI (T 405)) (qD_0 hQD) ?_
  refine px_if_neN (tgt := 8) dL_menus_3 (by decide) (by omega) (fun h4 => ?_) (fun h4 => ?_)
  · refine px_aload_n dL_menus_8 rfl ?_
    refine c_X9_clearBuffer dL_menus_9 mlL_83 (by omega) hCA hw (by omega) (by omega) (by omega) (Nat.le_of_ble_eq_true rfl) (dz_ok (show po_clear ((T, L), H, B) = (0, nI B.length, ((T, L), H, [])) from rfl) fun I1 hCA1 hG1 => ?_)
    have hw1 : wx n ((T, L), H, []) := ⟨hw.1, hw.2.1, hw.2.2.1, Nat.zero_le _, fun j hj => absurd hj (Nat.not_lt_zero _)⟩
    refine px_bud (bc' := 360 + (bc - 12 - 360 + 6)) (bs' := 2160 + (bs - 72 - 2160 + 36)) (by omega) (by omega) ?_
    refine px_pop dL_menus_12 rfl ?_
    refine px_aload_n dL_menus_13 rfl ?_
    refine px_iconst (v := nI 2) dL_menus_14 (by decide) ?_
    refine px_iconst (v := nI 1) dL_menus_15 (by decide) ?_
    refine px_iload_n dL_menus_16 rfl ?_
    refine px_iconst (v := nI 3) dL_menus_17 (by decide) ?_
    refine c_L_at dL_menus_18 mlL_30 (by omega) (by omega) (by omega) (Nat.le_of_ble_eq_true rfl) (fun j hj => ?_)
    refine px_iaddN dL_menus_21 ?_
    refine px_iast (j := 2) dL_menus_22 pv_a_d.1 rfl (by omega) pv_a_d.2.2 pv_a_d.2.1 ?_
    obtain ⟨M, hM, hMj⟩ : ∃ M, (1 ≤ M ∧ M ≤ 3) ∧ 1 + j = M := ⟨_, ⟨by omega, by omega⟩, rfl⟩
    rw [hMj]
    generalize hI2 : pv_uI I1 365 2 (nI M) = I2
    have hF2 : ∀ k, k ≠ 365 → I2 k = I1 k := fun k hk => by rw [← hI2]; exact pv_uI_ne hk
    have hCA2 : CA I2 ((T, L), H, []) := CA_far hCA1 (fun k hk => hF2 k (by omega))
    have hfr2 : qfr I I2 M := ⟨fun k k1 k2 _ => (hF2 k k2).trans (hG1 k k1), fun j j1 j2 => by rw [← hI2, pv_uI_at, if_neg (by omega)]; exact congrFun (hG1 365 (by omega)) j, by rw [← hI2, pv_uI_at, if_pos ⟨rfl, rfl⟩]⟩
    clear hI2
    refine px_iconst (v := nI 0) dL_menus_23 (by decide) ?_
    refine px_istore dL_menus_24 (by decide) ?_
    suffices key : ∀ m : Nat, m ≤ M → ∀ (I1 : pv_IT) (B1 : List Nat) (p1 t1 hi1 : Nat) (W1 : Nat → Nat), qY n I I1 T L H m M B1 p1 t1 hi1 W1 → pv_X (pv_ZQ E Q) E d (120 * (3 - (m)) + (bc - 12 - 360 + 6)) (720 * (3 - (m)) + (bs - 72 - 2160 + 36)) mL_menus 26 [(0, .ref 0), (1, .int x), (2, .int y), (3, .ref 365), (4, .ref 368), (5, .int (nI m))] [] pv_K0 pv_P0 (I1) (J) from px_bud (by omega) (by omega) (key 0 (by omega) I2 [] 0 0 0 (fun _ => 0) ⟨hCA2, hw1, rfl, Nat.zero_le _, Nat.zero_le _, Or.inl ⟨rfl, rfl, rfl, rfl⟩, fun m' h9 => absurd h9 (Nat.not_lt_zero _), hfr2⟩)
    refine pv_up (M) ?_ ?_
    · intro I1 B1 p1 t1 hi1 W1 hY1
      obtain ⟨hCA3, hw3, hr3, hhi3, hlen3, hp3, hqm3, hfr3⟩ := hY1
      refine px_iload dL_menus_26 rfl ?_
      refine px_aload_n dL_menus_28 rfl ?_
      refine px_iconst (v := nI 2) dL_menus_29 (by decide) ?_
      refine px_iald (j := 2) dL_menus_30 pv_a_d.1 rfl (by omega) pv_a_d.2.2 pv_a_d.2.1 ?_
      refine px_iv (y := nI (M)) (hfr3.2.2) ?_
      refine px_icmp_geN (tgt := 341) dL_menus_31 (by decide) (by omega) (by omega) (fun _ => ?_) (fun h0 => absurd h0 (by omega))
      refine px_aload_n dL_menus_341 rfl ?_
      have hPZ : PZ (p1, M - 1, t1, hi1, W1) := (pz_run_ok hr3).1
      have hpo : po_load ((T, L), H, B1) = (0, nI (M - 1 + 1), ((pt_menus T (p1, M - 1, t1, hi1, W1), L), h_push H (T, L), [])) := by
        unfold po_load
        show (match pz_run (bf B1) B1.length with
          | some Z => po_loadZ ((T, L), H, B1) Z
          | none => (1, 0, ((T, L), H, B1))) = _
        rw [hr3]
        show po_loadZ _ _ = _
        unfold po_loadZ
        rw [if_pos (show p1 = 1 ∨ p1 = 5 ∨ p1 = 7 by omega)]
        exact if_pos hhi3
      have hw4 := wx_load hw3
      rw [hpo] at hw4
      have eT : ∀ i, ¬ ((194 ≤ i ∧ i < 324) ∨ i = 408) → pt_menus T (p1, M - 1, t1, hi1, W1) i = T i := fun i hi => pz_menus_out hPZ hi
      have e408 : pt_menus T (p1, M - 1, t1, hi1, W1) 408 = M := by
        show M - 1 + 1 = M
        omega
      have elen : ∀ m, m < M → pt_menus T (p1, M - 1, t1, hi1, W1) (314 + m) = W1 (120 + m) := fun m hm => pz_menus_len (Z := (p1, M - 1, t1, hi1, W1)) (by show m ≤ M - 1; omega) (by omega)
      have ein : ∀ m i w, m < M → i < W1 (120 + m) → w < 3 → pt_menus T (p1, M - 1, t1, hi1, W1) (194 + 12 * m + 3 * i + w) = W1 (12 * m + 3 * i + w) := fun m i w hm hi hw => pz_menus_in (Z := (p1, M - 1, t1, hi1, W1)) (by show m ≤ M - 1; omega) (by omega) hi (by have := (hqm3 m hm).2.1; omega) hw
      clear hPZ
      generalize pt_menus T (p1, M - 1, t1, hi1, W1) = T' at hpo hw4 eT e408 elen ein
      refine c_X9_load dL_menus_342 mlL_90 (by omega) hCA3 hw3 (by omega) (by omega) (by omega) (Nat.le_of_ble_eq_true rfl) (dz_ok hpo fun I4 hCA4 hG4 => ?_)
      refine px_aload_n dL_menus_345 rfl ?_
      refine px_iconst (v := nI 2) dL_menus_346 (by decide) ?_
      refine px_iald (j := 2) dL_menus_347 pv_a_d.1 rfl (by omega) pv_a_d.2.2 pv_a_d.2.1 ?_
      refine px_iv (y := nI (M)) ((congrFun (hG4 365 (by omega)) _).trans hfr3.2.2) ?_
      refine px_icmp_neN (tgt := 355) dL_menus_348 (by decide) (by omega) (by omega) (fun h0 => absurd h0 (by omega)) (fun _ => ?_)
      refine px_iconst (v := nI 1) dL_menus_351 (by decide) ?_
      refine px_goto (tgt := 356) dL_menus_352 (by decide) ?_
      have hE : ∀ k, 365 ≤ k → k ≠ 365 → k ≠ 368 → I4 k = I k := fun k k1 k2 k3 => (hG4 k k1).trans (hfr3.1 k k1 k2 k3)
      refine px_zret dL_menus_356 rfl rfl (Or.inl rfl) (h I4 ((T', L), h_push H (T, L), []) ⟨hCA4, hw4, ⟨r, g, ⟨(congrFun (hG4 365 (by omega)) 1).trans ((hfr3.2.1 1 (by omega) (by omega)).trans hQD.1), fun j hj h1 hm => ?_⟩, qK_of hQK (hE 366 (by omega) (by omega) (by omega)) (eT 405 (by omega)) hn8 (fun i hi => eT i (by omega)), qL_of hQL (hE 367 (by omega) (by omega) (by omega)), fun m i w hm hi hw => ?_, qP_of hQP (hE 369 (by omega) (by omega) (by omega)) hpw.1 (fun q hq => (hQR.1 q hq).1) (fun i hi => eT i (by omega)), (by show qR (T' 407) r g; rw [eT 407 (by omega)]; exact hQR)⟩, ⟨?_, q11, ?_, ?_, ?_⟩, ?_, ?_, ?_, ?_⟩)
      · show I4 365 j = nI (T' (dT j))
        replace hm : 15 ≤ j → j < 15 + T' 408 := hm
        rw [e408] at hm
        rw [hG4 365 (by omega)]
        by_cases e2 : j = 2
        · subst e2
          rw [hfr3.2.2, show dT 2 = 408 from rfl, e408]
        · by_cases e15 : j < 15
          · rw [hfr3.2.1 j e15 e2, eT (dT j) (by unfold dT; repeat' (first | omega | split))]
            exact hQD.2 j hj h1 (by omega)
          · obtain ⟨m, rfl⟩ : ∃ m, j = 15 + m := ⟨j - 15, by omega⟩
            have hm2 := hm (by omega)
            rw [(hqm3 m (by omega)).1, dT_15, elen m (by omega)]
      · show I4 368 (9 * m + 3 * i + w) = nI (T' (194 + 12 * m + 3 * i + w))
        replace hm : m < T' 408 := hm
        rw [e408] at hm
        replace hi : i < T' (314 + m) := hi
        rw [elen m hm] at hi
        rw [hG4 368 (by omega), ein m i w hm hi hw]
        exact (hqm3 m hm).2.2 i w hi hw
      · show T' 405 ≤ 4
        rw [eT 405 (by omega)]; exact q4
      · show T' 408 ≤ 3
        rw [e408]; exact hM.2
      · intro m hm
        replace hm : m < T' 408 := hm
        rw [e408] at hm
        show T' (314 + m) ≤ 3
        rw [elen m hm]; exact (hqm3 m hm).2.1
      · show T' 407 ≤ 4
        rw [eT 407 (by omega)]; exact qp4
      · intro s hs
        show ps_in L s ≤ T' (64 + s)
        rw [eT _ (by omega)]; exact hin s hs
      · intro k hk
        replace hk : k < T' 405 := hk
        rw [eT 405 (by omega)] at hk
        show T' (24 + 5 * k) = T' (25 + 5 * k) + T' (26 + 5 * k) + T' (27 + 5 * k) + ps_of L k
        rw [eT _ (by omega), eT _ (by omega), eT _ (by omega), eT _ (by omega)]
        exact hacc k hk
      · show T' 404 ≤ 20 * (n + 1 - 6)
        rw [eT 404 (by omega)]; omega
      · show T' 410 ≤ 10000 + 2000 * (n + 1)
        rw [eT 410 (by omega)]; omega
    · intro m hm K9 I1 B1 p1 t1 hi1 W1 hY1
      have hfr1 := hY1.2.2.2.2.2.2.2
      refine px_bud (bc' := 6 + (6 + (108 + (120 * (3 - (m + 1)) + (bc - 12 - 360 + 6))))) (bs' := 36 + (36 + (648 + (720 * (3 - (m + 1)) + (bs - 72 - 2160 + 36))))) (by omega) (by omega) ?_
      refine px_iload dL_menus_26 rfl ?_
      refine px_aload_n dL_menus_28 rfl ?_
      refine px_iconst (v := nI 2) dL_menus_29 (by decide) ?_
      refine px_iald (j := 2) dL_menus_30 pv_a_d.1 rfl (by omega) pv_a_d.2.2 pv_a_d.2.1 ?_
      refine px_iv (y := nI (M)) (hfr1.2.2) ?_
      refine px_icmp_geN (tgt := 341) dL_menus_31 (by decide) (by omega) (by omega) (fun h0 => absurd h0 (by omega)) (fun _ => ?_)
      exact s_L_menus_e (by omega) (by omega) (by omega) q4 (by omega) (qD_0 hQD) hY1 (fun I2 B2 p2 t2 hi2 W2 hY2 => K9 I2 B2 p2 t2 hi2 W2 hY2)
  · refine px_iconst (v := nI 1) dL_menus_6 (by decide) ?_
    exact px_zret dL_menus_7 rfl rfl (Or.inl rfl) (h I ((T, L), H, B) (qW_mono hW))
theorem c_L_menus {z : pv_Z} {E : pv_E} {d bc bs : Nat} {J : pv_JT} {I : pv_IT} {mi : pv_MI} {pc idx : Nat} {lv : pv_LV} {st : List Value} {T : pv_T} {L : List pv_Lot} {H : List pv_S} {B : List Nat} {n : Nat} {x y : Int32} (hd : decode mi.2.1 pc = .ok (.invokestatic idx, 3)) (hlk : Cond.methodLink mi.1.cls idx mL_menus.1 ∈ pv_W) (hDep : 9+1 ≤ d) (hW : qW n I ((T, L), H, B)) (hn : n ≤ 29) (hbc : 372 ≤ bc) (hbs : 2232 ≤ bs) (hcat : (st.map fun v => v.category).sum ≤ 8) (K : ∀ (I' : pv_IT) (X' : pv_XS), qW (n + 1) I' X' → pv_X z E d (bc - 372) (bs - 2232) mi (pc + 3) lv ((.int (nI 1)) :: st) pv_K0 pv_P0 (I') (J)) : pv_X z E d bc bs mi pc lv (.ref (368) :: .ref (365) :: .int (y) :: .int (x) :: .ref 0 :: st) pv_K0 pv_P0 I J := by
  obtain ⟨bc, rfl⟩ : ∃ b0, bc = 372 + b0 := ⟨bc - 372, by omega⟩
  obtain ⟨bs, rfl⟩ : ∃ b0, bs = 2232 + b0 := ⟨bs - 2232, by omega⟩
  rw [show 372 + bc - 372 = bc by omega, show 2232 + bs - 2232 = bs by omega] at K
  obtain ⟨d, rfl⟩ : ∃ d0, d = d0 + 1 := ⟨d - 1, by omega⟩
  have key := px_callS (bc := bc) (bs := bs) (bc1 := 372) (bs1 := 2232) (as := [.ref 0, .int (x), .int (y), .ref (365), .ref (368)]) (E := E) (z := z) (lv := lv) hd msL_menus hlk rfl rfl hcat (by exact Nat.le_of_ble_eq_true rfl) (s_L_menus (by omega) hW hn (Nat.le_refl _) (Nat.le_refl _) K)
  exact key
