/-! The law: a text of menus is built, item by item. -/
theorem q_none_ne {k : Nat} (hk : k < 2147483648) : ¬ nI 4294967295 = nI k := by
  intro h
  have h1 := congrArg Int32.toInt h
  rw [nI_none, nI_toInt hk] at h1
  have e : (-1 : Int32).toInt = -1 := by decide
  omega
theorem q_bf_app {B : List Nat} {c j : Nat} (h : j < B.length) : bf (B ++ [c]) j = bf B j := by
  show (B ++ [c]).getD j 0 = B.getD j 0
  rw [List.getD_eq_getElem?_getD, List.getElem?_append_left h, ← List.getD_eq_getElem?_getD]
theorem q_bf_last {B : List Nat} {c : Nat} : bf (B ++ [c]) B.length = c := by
  show (B ++ [c]).getD B.length 0 = c
  rw [List.getD_eq_getElem?_getD, List.getElem?_append_right (Nat.le_refl _), Nat.sub_self]
  rfl
theorem q_run_app {B : List Nat} {c : Nat} : ∀ k : Nat, k ≤ B.length → pz_run (bf (B ++ [c])) k = pz_run (bf B) k
  | 0, _ => rfl
  | k + 1, h => by
    show (match pz_run (bf (B ++ [c])) k with
      | none => none
      | some Z => pz_step Z (bf (B ++ [c]) k)) = (match pz_run (bf B) k with
      | none => none
      | some Z => pz_step Z (bf B k))
    rw [q_run_app k (by omega), q_bf_app (by omega)]
theorem q_run_push {B : List Nat} {c : Nat} {Z : pv_Zp} (h : pz_run (bf B) B.length = some Z) : pz_run (bf (B ++ [c])) (B ++ [c]).length = pz_step Z c := by
  rw [List.length_append, List.length_singleton, pz_run1 ((q_run_app _ (Nat.le_refl _)).trans h), q_bf_last]
theorem q_append {z : pv_Z} {E : pv_E} {d bc bs : Nat} {J : pv_JT} {I : pv_IT} {mi : pv_MI} {pc idx : Nat} {lv : pv_LV} {st : List Value} {T : pv_T} {L : List pv_Lot} {H : List pv_S} {B : List Nat} {n c : Nat} {Z Z' : pv_Zp} (hd : decode mi.2.1 pc = .ok (.invokevirtual idx, 3)) (hlk : Cond.methodLink mi.1.cls idx mX9_append.1 ∈ pv_W) (hDep : 8+1 ≤ d) (hCA : CA I ((T, L), H, B)) (hw : wx n ((T, L), H, B)) (hn : n ≤ 600) (hrun : pz_run (bf B) B.length = some Z) (hlen : B.length < 60) (hc : 33 ≤ c ∧ c ≤ 126) (hs : pz_step Z c = some Z') (hcat : (st.map fun v => v.category).sum ≤ 8) (K : ∀ I' : pv_IT, CA I' ((T, L), H, B ++ [c]) → wx n ((T, L), H, B ++ [c]) → pz_run (bf (B ++ [c])) (B ++ [c]).length = some Z' → (∀ k, 365 ≤ k → I' k = I k) → pv_X z E d bc bs mi (pc + 3) lv (.int (nI (B.length + 1)) :: st) pv_K0 pv_P0 I' J) : pv_X z E d (6 + bc) (36 + bs) mi pc lv (.int (nI c) :: .ref (0) :: st) pv_K0 pv_P0 I J := by
  have hpo : po_append ((T, L), H, B) (nI c) = (0, nI (B.length + 1), ((T, L), H, B ++ [c])) := by
    unfold po_append
    rw [if_pos ((pu_c (by omega) (by decide) (by decide)).mpr hc), dz_tn (by omega)]
    exact if_pos hlen
  have hw2 : wx n ((T, L), H, B ++ [c]) := by
    have h1 := wx_append (c := nI c) hw
    rw [hpo] at h1
    exact ⟨hw.1, hw.2.1, hw.2.2.1, h1.2.2.2⟩
  refine c_X9_append hd hlk hDep hCA hw hn (by omega) (by omega) hcat (dz_ok hpo fun I' hCA' hG => ?_)
  exact px_bud (by omega) (by omega) (K I' hCA' hw2 ((q_run_push hrun).trans hs) hG)
theorem q_step7 {m t hi c : Nat} {W : Nat → Nat} : pz_step (7, m, t, hi, W) c = pz_sep (7, m, t, hi, W) c := rfl
theorem q_step5 {m t hi c : Nat} {W : Nat → Nat} (hc : ¬ c = 47) : pz_step (5, m, t, hi, W) c = pz_sep (5, m, t, hi, W) c := by
  show (if c = 47 then some (pz_to (5, m, t, hi, W) 6) else pz_sep (5, m, t, hi, W) c) = _
  exact if_neg hc
theorem q_b60 {B : List Nat} {c : Nat} : (B ++ [c]).length = B.length + 1 := by rw [List.length_append, List.length_singleton]
/-- what stands in the law's row of menus is what the reader holds -/
def qi (I : pv_IT) (W : Nat → Nat) (m i : Nat) : Prop := ∀ i' w, i' < i → w < 3 → I 368 (9 * m + 3 * i' + w) = nI (W (12 * m + 3 * i' + w))
def qmm (I : pv_IT) (W : Nat → Nat) (k : Nat) : Prop := ∀ m', m' < k → I 365 (15 + m') = nI (W (120 + m')) ∧ W (120 + m') ≤ 3 ∧ qi I W m' (W (120 + m'))
def qfr (I0 I : pv_IT) (M : Nat) : Prop := (∀ k, 365 ≤ k → k ≠ 365 → k ≠ 368 → I k = I0 k) ∧ (∀ j, j < 15 → j ≠ 2 → I 365 j = I0 365 j) ∧ I 365 2 = nI M
theorem qi_of {I I' : pv_IT} {W W' : Nat → Nat} {m i : Nat} (h : qi I W m i) (hI : ∀ j, 9 * m ≤ j → j < 9 * m + 3 * i → I' 368 j = I 368 j) (hW : ∀ j, 12 * m ≤ j → j < 12 * m + 3 * i → W' j = W j) : qi I' W' m i := by
  intro i' w hi hw
  rw [hI _ (by omega) (by omega), hW _ (by omega) (by omega)]
  exact h i' w hi hw
theorem qfr_of {I0 I I' : pv_IT} {M : Nat} (h : qfr I0 I M) (hI : ∀ k, 365 ≤ k → k ≠ 368 → I' k = I k) : qfr I0 I' M :=
  ⟨fun k h1 h2 h3 => (hI k h1 h3).trans (h.1 k h1 h2 h3), fun j h1 h2 => (congrFun (hI 365 (by omega) (by omega)) j).trans (h.2.1 j h1 h2), (congrFun (hI 365 (by omega) (by omega)) 2).trans h.2.2⟩
set_option maxRecDepth 100000 in
set_option maxHeartbeats 4000000 in
theorem s_L_menus_a {Q : pv_Q} {E : pv_E} {d bc bs : Nat} {J : pv_JT} {T : pv_T} {m i : Nat} {x y : Int32} {I : pv_IT} (hDep : 9 ≤ d) (hm : m < 3) (hi : i < 3) (q4 : T 405 ≤ 4) (q1 : 0 < T 405) (hd0 : I 365 0 = nI (T 405)) (K : ∀ (I1 : pv_IT) (k0 a0 s0 : Nat), k0 < T 405 → 1 ≤ a0 → a0 ≤ 9 → (s0 = 4294967295 ∨ (s0 < T 405 ∧ ¬ s0 = k0)) → I1 368 (9 * m + 3 * i) = nI k0 → I1 368 ((9 * m + 3 * i) + 1) = nI a0 → I1 368 ((9 * m + 3 * i) + 2) = nI s0 → (∀ k, k ≠ 368 → I1 k = I k) → (∀ j, j < (9 * m + 3 * i) ∨ (9 * m + 3 * i) + 2 < j → I1 368 j = I 368 j) → pv_X (pv_ZQ E Q) E d bc bs mL_menus 224 [(0, .ref 0), (1, .int x), (2, .int y), (3, .ref 365), (4, .ref 368), (5, .int (nI m)), (6, .int (nI i)), (7, .int (nI (9 * m + 3 * i)))] [] pv_K0 pv_P0 (I1) (J)) : pv_X (pv_ZQ E Q) E d bc bs mL_menus 105 [(0, .ref 0), (1, .int x), (2, .int y), (3, .ref 365), (4, .ref 368), (5, .int (nI m)), (6, .int (nI i))] [] pv_K0 pv_P0 (I) (J) := by
  refine px_bipush (v := nI 9) dL_menus_105 (by decide) ?_
  refine px_iload dL_menus_107 rfl ?_
  refine px_imulN dL_menus_109 ?_
  refine px_iconst (v := nI 3) dL_menus_110 (by decide) ?_
  refine px_iload dL_menus_111 rfl ?_
  refine px_imulN dL_menus_113 ?_
  refine px_iaddN dL_menus_114 ?_
  refine px_istore dL_menus_115 (by decide) ?_
  refine px_aload dL_menus_117 rfl ?_
  refine px_iload dL_menus_119 rfl ?_
  refine px_iload_n dL_menus_121 rfl ?_
  refine px_iload dL_menus_122 rfl ?_
  refine px_iconst (v := nI 2) dL_menus_124 (by decide) ?_
  refine px_iload dL_menus_125 rfl ?_
  refine px_imulN dL_menus_127 ?_
  refine px_iaddN dL_menus_128 ?_
  refine px_ishr dL_menus_129 ?_
  refine px_aload_n dL_menus_130 rfl ?_
  refine px_iconst (v := nI 0) dL_menus_131 (by decide) ?_
  refine px_iald (j := 0) dL_menus_132 pv_a_d.1 rfl (by omega) pv_a_d.2.2 pv_a_d.2.1 ?_
  refine px_iv (y := nI (T 405)) (hd0) ?_
  refine c_L_at dL_menus_133 mlL_30 (by omega) (by omega) (by omega) (Nat.le_of_ble_eq_true rfl) (fun k0 hk0 => ?_)
  refine px_iast (j := ((9 * m) + (3 * i))) dL_menus_136 pv_a_me.1 rfl (by omega) pv_a_me.2.2 pv_a_me.2.1 ?_
  refine px_aload dL_menus_137 rfl ?_
  refine px_iload dL_menus_139 rfl ?_
  refine px_iconst (v := nI 1) dL_menus_141 (by decide) ?_
  refine px_iaddN dL_menus_142 ?_
  refine px_iconst (v := nI 1) dL_menus_143 (by decide) ?_
  refine px_iload_n dL_menus_144 rfl ?_
  refine px_iconst (v := nI 3) dL_menus_145 (by decide) ?_
  refine px_iload dL_menus_146 rfl ?_
  refine px_iaddN dL_menus_148 ?_
  refine px_iload dL_menus_149 rfl ?_
  refine px_iaddN dL_menus_151 ?_
  refine px_ishr dL_menus_152 ?_
  refine px_bipush (v := nI 9) dL_menus_153 (by decide) ?_
  refine c_L_at dL_menus_155 mlL_30 (by omega) (by omega) (by omega) (Nat.le_of_ble_eq_true rfl) (fun j1 hj1 => ?_)
  refine px_iaddN dL_menus_158 ?_
  refine px_iast (j := (((9 * m) + (3 * i)) + 1)) dL_menus_159 pv_a_me.1 rfl (by omega) pv_a_me.2.2 pv_a_me.2.1 ?_
  generalize hI1 : pv_uI (pv_uI I 368 (9 * m + 3 * i) (nI k0)) 368 ((9 * m + 3 * i) + 1) (nI (1 + j1)) = I1
  have hF1 : ∀ k, k ≠ 368 → I1 k = I k := fun k hk => by rw [← hI1, pv_uI_ne hk, pv_uI_ne hk]
  have h0 : I1 368 (9 * m + 3 * i) = nI k0 := by rw [← hI1, pv_uI_at, if_neg (by omega), pv_uI_at, if_pos ⟨rfl, rfl⟩]
  have h1 : I1 368 ((9 * m + 3 * i) + 1) = nI (1 + j1) := by rw [← hI1, pv_uI_at, if_pos ⟨rfl, rfl⟩]
  have ho : ∀ j, j < (9 * m + 3 * i) ∨ (9 * m + 3 * i) + 2 < j → I1 368 j = I 368 j := fun j hj => by rw [← hI1, pv_uI_at, if_neg (by omega), pv_uI_at, if_neg (by omega)]
  clear hI1
  have kc : ∀ s, (s = 4294967295 ∨ s < T 405) → pv_X (pv_ZQ E Q) E d bc bs mL_menus 201 [(0, .ref 0), (1, .int x), (2, .int y), (3, .ref 365), (4, .ref 368), (5, .int (nI m)), (6, .int (nI i)), (7, .int (nI (9 * m + 3 * i)))] [] pv_K0 pv_P0 (pv_uI I1 368 ((9 * m + 3 * i) + 2) (nI s)) (J) := by
    intro s hs
    generalize hI2 : pv_uI I1 368 ((9 * m + 3 * i) + 2) (nI s) = I2
    have hF2 : ∀ k, k ≠ 368 → I2 k = I k := fun k hk => by rw [← hI2, pv_uI_ne hk, hF1 k hk]
    have g0 : I2 368 (9 * m + 3 * i) = nI k0 := by rw [← hI2, pv_uI_at, if_neg (by omega)]; exact h0
    have g1 : I2 368 ((9 * m + 3 * i) + 1) = nI (1 + j1) := by rw [← hI2, pv_uI_at, if_neg (by omega)]; exact h1
    have g2 : I2 368 ((9 * m + 3 * i) + 2) = nI s := by rw [← hI2, pv_uI_at, if_pos ⟨rfl, rfl⟩]
    have go : ∀ j, j < (9 * m + 3 * i) ∨ (9 * m + 3 * i) + 2 < j → I2 368 j = I 368 j := fun j hj => by rw [← hI2, pv_uI_at, if_neg (by omega)]; exact ho j hj
    clear hI2
    refine px_aload dL_menus_201 rfl ?_
    refine px_iload dL_menus_203 rfl ?_
    refine px_iconst (v := nI 2) dL_menus_205 (by decide) ?_
    refine px_iaddN dL_menus_206 ?_
    refine px_iald (j := ((9 * m + 3 * i) + 2)) dL_menus_207 pv_a_me.1 rfl (by omega) pv_a_me.2.2 pv_a_me.2.1 ?_
    refine px_iv (y := nI (s)) (g2) ?_
    refine px_aload dL_menus_208 rfl ?_
    refine px_iload dL_menus_210 rfl ?_
    refine px_iald (j := (9 * m + 3 * i)) dL_menus_212 pv_a_me.1 rfl (by omega) pv_a_me.2.2 pv_a_me.2.1 ?_
    refine px_iv (y := nI (k0)) (g0) ?_
    by_cases e : s = k0
    · refine px_icmp_ne (tgt := 224) dL_menus_213 (by decide) (fun h9 => absurd (congrArg nI e) h9) (fun _ => ?_)
      refine px_aload dL_menus_216 rfl ?_
      refine px_iload dL_menus_218 rfl ?_
      refine px_iconst (v := nI 2) dL_menus_220 (by decide) ?_
      refine px_iaddN dL_menus_221 ?_
      refine px_iconst (v := -1) dL_menus_222 (by decide) ?_
      refine px_iast (j := (9 * m + 3 * i) + 2) dL_menus_223 pv_a_me.1 rfl (by omega) pv_a_me.2.2 pv_a_me.2.1 ?_
      refine px_mem (I' := pv_uI I2 368 ((9 * m + 3 * i) + 2) (nI 4294967295)) (by rw [nI_none]) ?_
      refine px_keep [0, 1, 2, 3, 4, 5, 6, 7] ?_
      exact K _ k0 (1 + j1) 4294967295 hk0 (by omega) (by omega) (Or.inl rfl) (by rw [pv_uI_at, if_neg (by omega)]; exact g0) (by rw [pv_uI_at, if_neg (by omega)]; exact g1) (by rw [pv_uI_at, if_pos ⟨rfl, rfl⟩]) (fun k hk => by rw [pv_uI_ne hk]; exact hF2 k hk) (fun j hj => by rw [pv_uI_at, if_neg (by omega)]; exact go j hj)
    · refine px_icmp_ne (tgt := 224) dL_menus_213 (by decide) (fun _ => ?_) (fun h9 => absurd h9 ?_)
      · refine px_keep [0, 1, 2, 3, 4, 5, 6, 7] ?_
        exact K _ k0 (1 + j1) s hk0 (by omega) (by omega) (by rcases hs with h | h; exact Or.inl h; exact Or.inr ⟨h, e⟩) g0 g1 g2 hF2 go
      · rcases hs with h | h
        · subst h
          exact q_none_ne (by omega)
        · exact fun h9 => e ((nI_eq (by omega) (by omega)).mp h9)
  refine px_aload dL_menus_160 rfl ?_
  refine px_iload dL_menus_162 rfl ?_
  refine px_iconst (v := nI 2) dL_menus_164 (by decide) ?_
  refine px_iaddN dL_menus_165 ?_
  refine px_iload_n dL_menus_166 rfl ?_
  refine px_bipush (v := nI 9) dL_menus_167 (by decide) ?_
  refine px_iload dL_menus_169 rfl ?_
  refine px_iaddN dL_menus_171 ?_
  refine px_ishr dL_menus_172 ?_
  refine px_iconst (v := nI 2) dL_menus_173 (by decide) ?_
  refine c_L_at dL_menus_174 mlL_30 (by omega) (by omega) (by omega) (Nat.le_of_ble_eq_true rfl) (fun j2 hj2 => ?_)
  refine px_if_neN (tgt := 184) dL_menus_177 (by decide) (by omega) (fun h6 => ?_) (fun h6 => ?_)
  · refine px_iload_n dL_menus_184 rfl ?_
    refine px_bipush (v := nI 7) dL_menus_185 (by decide) ?_
    refine px_iload dL_menus_187 rfl ?_
    refine px_iaddN dL_menus_189 ?_
    refine px_iload dL_menus_190 rfl ?_
    refine px_iaddN dL_menus_192 ?_
    refine px_ishr dL_menus_193 ?_
    refine px_aload_n dL_menus_194 rfl ?_
    refine px_iconst (v := nI 0) dL_menus_195 (by decide) ?_
    refine px_iald (j := 0) dL_menus_196 pv_a_d.1 rfl (by omega) pv_a_d.2.2 pv_a_d.2.1 ?_
    refine px_iv (y := nI (T 405)) ((congrFun (hF1 365 (by omega)) 0).trans hd0) ?_
    refine c_L_at dL_menus_197 mlL_30 (by omega) (by omega) (by omega) (Nat.le_of_ble_eq_true rfl) (fun j3 hj3 => ?_)
    refine px_iast (j := (9 * m + 3 * i) + 2) dL_menus_200 pv_a_me.1 rfl (by omega) pv_a_me.2.2 pv_a_me.2.1 ?_
    refine px_keep [0, 1, 2, 3, 4, 5, 6, 7] ?_
    exact kc j3 (Or.inr hj3)
  · refine px_iconst (v := -1) dL_menus_180 (by decide) ?_
    refine px_goto (tgt := 200) dL_menus_181 (by decide) ?_
    refine px_iast (j := (9 * m + 3 * i) + 2) dL_menus_200 pv_a_me.1 rfl (by omega) pv_a_me.2.2 pv_a_me.2.1 ?_
    refine px_mem (I' := pv_uI I1 368 ((9 * m + 3 * i) + 2) (nI 4294967295)) (by rw [nI_none]) ?_
    refine px_keep [0, 1, 2, 3, 4, 5, 6, 7] ?_
    exact kc 4294967295 (Or.inl rfl)
set_option maxRecDepth 100000 in
set_option maxHeartbeats 4000000 in
theorem s_L_menus_c {Q : pv_Q} {E : pv_E} {d bc bs : Nat} {J : pv_JT} {T : pv_T} {L : List pv_Lot} {H : List pv_S} {n m i : Nat} {x y : Int32} {I : pv_IT} {k0 a0 s0 p hi : Nat} {W : Nat → Nat} {B : List Nat} (hDep : 9 ≤ d) (hm : m < 3) (hi3 : i < 3) (hn : n ≤ 600) (q4 : T 405 ≤ 4) (hk0 : k0 < T 405) (ha0 : 1 ≤ a0 ∧ a0 ≤ 9) (hs0 : s0 = 4294967295 ∨ (s0 < T 405 ∧ ¬ s0 = k0)) (g0 : I 368 (9 * m + 3 * i) = nI k0) (g1 : I 368 ((9 * m + 3 * i) + 1) = nI a0) (g2 : I 368 ((9 * m + 3 * i) + 2) = nI s0) (hCA : CA I ((T, L), H, B)) (hw : wx n ((T, L), H, B)) (hhi : hi ≤ T 405) (hlen : B.length < 56) (hr : pz_run (bf B) B.length = some (p, m, i, hi, W)) (hp : p = 0 ∨ p = 2) (K : ∀ (I2 : pv_IT) (B2 : List Nat) (p2 hi2 : Nat) (W2 : Nat → Nat), CA I2 ((T, L), H, B2) → wx n ((T, L), H, B2) → pz_run (bf B2) B2.length = some (p2, m, i, hi2, W2) → (p2 = 5 ∨ p2 = 7) → hi2 ≤ T 405 → B2.length ≤ B.length + 5 → (∀ k, 365 ≤ k → I2 k = I k) → W2 (12 * m + 3 * i) = k0 → W2 ((12 * m + 3 * i) + 1) = a0 → W2 ((12 * m + 3 * i) + 2) = s0 → W2 (120 + m) = i + 1 → (∀ j, j < (12 * m + 3 * i) ∨ ((12 * m + 3 * i) + 2 < j ∧ j ≠ 120 + m) → W2 j = W j) → pv_X (pv_ZQ E Q) E d bc bs mL_menus 93 [(0, .ref 0), (1, .int x), (2, .int y), (3, .ref 365), (4, .ref 368), (5, .int (nI m)), (6, .int (nI (i + 1)))] [] pv_K0 pv_P0 (I2) (J)) : pv_X (pv_ZQ E Q) E d (6 + (6 + (6 + (6 + (6 + bc))))) (36 + (36 + (36 + (36 + (36 + bs))))) mL_menus 238 [(0, .ref 0), (1, .int x), (2, .int y), (3, .ref 365), (4, .ref 368), (5, .int (nI m)), (6, .int (nI i)), (7, .int (nI (9 * m + 3 * i)))] [] pv_K0 pv_P0 (I) (J) := by
  refine px_aload_n dL_menus_238 rfl ?_
  refine px_bipush (v := nI 48) dL_menus_239 (by decide) ?_
  refine px_aload dL_menus_241 rfl ?_
  refine px_iload dL_menus_243 rfl ?_
  refine px_iald (j := (9 * m + 3 * i)) dL_menus_245 pv_a_me.1 rfl (by omega) pv_a_me.2.2 pv_a_me.2.1 ?_
  refine px_iv (y := nI (k0)) (g0) ?_
  refine px_iaddN dL_menus_246 ?_
  have st1 : pz_step (p, m, i, hi, W) (48 + k0) = some (3, m, i, (max hi (48 + k0 - 48 + 1)), (pt_up (pt_up (pt_up W (12 * m + 3 * i) (48 + k0 - 48)) ((12 * m + 3 * i) + 1) 0) ((12 * m + 3 * i) + 2) 4294967295)) := by
    rcases hp with rfl | rfl
    · show (if 48 + k0 = 45 then _ else pz_item _ _) = _
      rw [if_neg (by omega)]
      exact if_pos ⟨by omega, by omega⟩
    · show pz_item _ _ = _
      exact if_pos ⟨by omega, by omega⟩
  refine q_append dL_menus_247 mlL_87 (by omega) hCA hw hn hr (by omega) (by omega) st1 (Nat.le_of_ble_eq_true rfl) (fun I1_ hCA1 hw1 hr1 hG1 => ?_)
  have ln1 : (B ++ [48 + k0]).length = B.length + 1 := q_b60.trans (by omega)
  refine px_if_leN (tgt := 319) dL_menus_250 (by decide) (by omega) (fun h0 => absurd h0 (by omega)) (fun _ => ?_)
  refine px_aload_n dL_menus_253 rfl ?_
  refine px_bipush (v := nI 42) dL_menus_254 (by decide) ?_
  have st2 : pz_step (3, m, i, (max hi (48 + k0 - 48 + 1)), (pt_up (pt_up (pt_up W (12 * m + 3 * i) (48 + k0 - 48)) ((12 * m + 3 * i) + 1) 0) ((12 * m + 3 * i) + 2) 4294967295)) (42) = some (4, m, i, (max hi (48 + k0 - 48 + 1)), (pt_up (pt_up (pt_up W (12 * m + 3 * i) (48 + k0 - 48)) ((12 * m + 3 * i) + 1) 0) ((12 * m + 3 * i) + 2) 4294967295)) := by
    rfl
  refine q_append dL_menus_256 mlL_87 (by omega) hCA1 hw1 hn hr1 (by omega) (by omega) st2 (Nat.le_of_ble_eq_true rfl) (fun I2_ hCA2 hw2 hr2 hG2 => ?_)
  have ln2 : (B ++ [48 + k0] ++ [42]).length = B.length + 2 := q_b60.trans (by omega)
  replace hG2 : ∀ k, 365 ≤ k → I2_ k = I k := fun k hk => (hG2 k hk).trans (hG1 k hk)
  refine px_if_leN (tgt := 319) dL_menus_259 (by decide) (by omega) (fun h0 => absurd h0 (by omega)) (fun _ => ?_)
  refine px_aload_n dL_menus_262 rfl ?_
  refine px_bipush (v := nI 48) dL_menus_263 (by decide) ?_
  refine px_aload dL_menus_265 rfl ?_
  refine px_iload dL_menus_267 rfl ?_
  refine px_iconst (v := nI 1) dL_menus_269 (by decide) ?_
  refine px_iaddN dL_menus_270 ?_
  refine px_iald (j := ((9 * m + 3 * i) + 1)) dL_menus_271 pv_a_me.1 rfl (by omega) pv_a_me.2.2 pv_a_me.2.1 ?_
  refine px_iv (y := nI (a0)) ((congrFun (hG2 368 (by omega)) _).trans g1) ?_
  refine px_iaddN dL_menus_272 ?_
  have st3 : pz_step (4, m, i, (max hi (48 + k0 - 48 + 1)), (pt_up (pt_up (pt_up W (12 * m + 3 * i) (48 + k0 - 48)) ((12 * m + 3 * i) + 1) 0) ((12 * m + 3 * i) + 2) 4294967295)) (48 + a0) = some (5, m, i, (max hi (48 + k0 - 48 + 1)), (pt_up (pt_up (pt_up (pt_up (pt_up W (12 * m + 3 * i) (48 + k0 - 48)) ((12 * m + 3 * i) + 1) 0) ((12 * m + 3 * i) + 2) 4294967295) ((12 * m + 3 * i) + 1) (48 + a0 - 48)) (120 + m) (i + 1))) := by
    show pz_amt _ _ = _
    exact if_pos ⟨by omega, by omega⟩
  refine q_append dL_menus_273 mlL_87 (by omega) hCA2 hw2 hn hr2 (by omega) (by omega) st3 (Nat.le_of_ble_eq_true rfl) (fun I3_ hCA3 hw3 hr3 hG3 => ?_)
  have ln3 : (B ++ [48 + k0] ++ [42] ++ [48 + a0]).length = B.length + 3 := q_b60.trans (by omega)
  replace hG3 : ∀ k, 365 ≤ k → I3_ k = I k := fun k hk => (hG3 k hk).trans (hG2 k hk)
  refine px_if_leN (tgt := 319) dL_menus_276 (by decide) (by omega) (fun h0 => absurd h0 (by omega)) (fun _ => ?_)
  refine px_aload dL_menus_279 rfl ?_
  refine px_iload dL_menus_281 rfl ?_
  refine px_iconst (v := nI 2) dL_menus_283 (by decide) ?_
  refine px_iaddN dL_menus_284 ?_
  refine px_iald (j := ((9 * m + 3 * i) + 2)) dL_menus_285 pv_a_me.1 rfl (by omega) pv_a_me.2.2 pv_a_me.2.1 ?_
  refine px_iv (y := nI (s0)) ((congrFun (hG3 368 (by omega)) _).trans g2) ?_
  rcases hs0 with e | ⟨hs1, hs2⟩
  · subst e
    refine px_if_lt (tgt := 315) dL_menus_286 (by decide) (fun _ => ?_) (fun h9 => absurd (by rw [nI_none]; decide) h9)
    refine px_iconst (v := nI 1) dL_menus_315 (by decide) ?_
    refine px_goto (tgt := 320) dL_menus_316 (by decide) ?_
    refine px_istore dL_menus_320 (by decide) ?_
    refine px_iload dL_menus_322 rfl ?_
    refine px_if_neN (tgt := 329) dL_menus_324 (by decide) (by omega) (fun _ => ?_) (fun h0 => absurd h0 (by omega))
    refine px_iincN (c := 1) (by decide) dL_menus_329 rfl (by decide) ?_
    refine px_goto (tgt := 93) dL_menus_332 (by decide) ?_
    refine px_keep [0, 1, 2, 3, 4, 5, 6] ?_
    refine px_weak rfl (Nat.le_refl _) (c1 := bc) (s1 := bs) (by omega) (by omega) ?_
    exact K I3_ (B ++ [48 + k0] ++ [42] ++ [48 + a0]) 5 (max hi (48 + k0 - 48 + 1)) (pt_up (pt_up (pt_up (pt_up (pt_up W (12 * m + 3 * i) (48 + k0 - 48)) ((12 * m + 3 * i) + 1) 0) ((12 * m + 3 * i) + 2) 4294967295) ((12 * m + 3 * i) + 1) (48 + a0 - 48)) (120 + m) (i + 1)) hCA3 hw3 hr3 (by omega) (by omega) (by omega) hG3 (by rw [pt_un (by omega), pt_un (by omega), pt_un (by omega), pt_un (by omega), pt_us]; omega) (by rw [pt_un (by omega), pt_us]; omega) (by rw [pt_un (by omega), pt_un (by omega), pt_us]) (by rw [pt_us]) (fun j hj => by rw [pt_un (by omega), pt_un (by omega), pt_un (by omega), pt_un (by omega), pt_un (by omega)])
  · refine px_if_ltN (tgt := 315) dL_menus_286 (by decide) (by omega) ?_
    refine px_aload_n dL_menus_289 rfl ?_
    refine px_bipush (v := nI 47) dL_menus_290 (by decide) ?_
    have st4 : pz_step (5, m, i, (max hi (48 + k0 - 48 + 1)), (pt_up (pt_up (pt_up (pt_up (pt_up W (12 * m + 3 * i) (48 + k0 - 48)) ((12 * m + 3 * i) + 1) 0) ((12 * m + 3 * i) + 2) 4294967295) ((12 * m + 3 * i) + 1) (48 + a0 - 48)) (120 + m) (i + 1))) (47) = some (6, m, i, (max hi (48 + k0 - 48 + 1)), (pt_up (pt_up (pt_up (pt_up (pt_up W (12 * m + 3 * i) (48 + k0 - 48)) ((12 * m + 3 * i) + 1) 0) ((12 * m + 3 * i) + 2) 4294967295) ((12 * m + 3 * i) + 1) (48 + a0 - 48)) (120 + m) (i + 1))) := by
      rfl
    refine q_append dL_menus_292 mlL_87 (by omega) hCA3 hw3 hn hr3 (by omega) (by omega) st4 (Nat.le_of_ble_eq_true rfl) (fun I4_ hCA4 hw4 hr4 hG4 => ?_)
    have ln4 : (B ++ [48 + k0] ++ [42] ++ [48 + a0] ++ [47]).length = B.length + 4 := q_b60.trans (by omega)
    replace hG4 : ∀ k, 365 ≤ k → I4_ k = I k := fun k hk => (hG4 k hk).trans (hG3 k hk)
    refine px_if_leN (tgt := 319) dL_menus_295 (by decide) (by omega) (fun h0 => absurd h0 (by omega)) (fun _ => ?_)
    refine px_aload_n dL_menus_298 rfl ?_
    refine px_bipush (v := nI 48) dL_menus_299 (by decide) ?_
    refine px_aload dL_menus_301 rfl ?_
    refine px_iload dL_menus_303 rfl ?_
    refine px_iconst (v := nI 2) dL_menus_305 (by decide) ?_
    refine px_iaddN dL_menus_306 ?_
    refine px_iald (j := ((9 * m + 3 * i) + 2)) dL_menus_307 pv_a_me.1 rfl (by omega) pv_a_me.2.2 pv_a_me.2.1 ?_
    refine px_iv (y := nI (s0)) ((congrFun (hG4 368 (by omega)) _).trans g2) ?_
    refine px_iaddN dL_menus_308 ?_
    have st5 : pz_step (6, m, i, (max hi (48 + k0 - 48 + 1)), (pt_up (pt_up (pt_up (pt_up (pt_up W (12 * m + 3 * i) (48 + k0 - 48)) ((12 * m + 3 * i) + 1) 0) ((12 * m + 3 * i) + 2) 4294967295) ((12 * m + 3 * i) + 1) (48 + a0 - 48)) (120 + m) (i + 1))) (48 + s0) = some (7, m, i, (max (max hi (48 + k0 - 48 + 1)) (48 + s0 - 48 + 1)), (pt_up (pt_up (pt_up (pt_up (pt_up (pt_up W (12 * m + 3 * i) (48 + k0 - 48)) ((12 * m + 3 * i) + 1) 0) ((12 * m + 3 * i) + 2) 4294967295) ((12 * m + 3 * i) + 1) (48 + a0 - 48)) (120 + m) (i + 1)) ((12 * m + 3 * i) + 2) (48 + s0 - 48))) := by
      have ew : (pt_up (pt_up (pt_up (pt_up (pt_up W (12 * m + 3 * i) (48 + k0 - 48)) ((12 * m + 3 * i) + 1) 0) ((12 * m + 3 * i) + 2) 4294967295) ((12 * m + 3 * i) + 1) (48 + a0 - 48)) (120 + m) (i + 1)) (12 * m + 3 * i) = k0 := by rw [pt_un (by omega), pt_un (by omega), pt_un (by omega), pt_un (by omega), pt_us]; omega
      show pz_sub _ _ = _
      refine if_pos ⟨⟨by omega, by omega⟩, ?_⟩
      show ¬ 48 + s0 - 48 = (pt_up (pt_up (pt_up (pt_up (pt_up W (12 * m + 3 * i) (48 + k0 - 48)) ((12 * m + 3 * i) + 1) 0) ((12 * m + 3 * i) + 2) 4294967295) ((12 * m + 3 * i) + 1) (48 + a0 - 48)) (120 + m) (i + 1)) (12 * m + 3 * i)
      rw [ew]; omega
    refine q_append dL_menus_309 mlL_87 (by omega) hCA4 hw4 hn hr4 (by omega) (by omega) st5 (Nat.le_of_ble_eq_true rfl) (fun I5_ hCA5 hw5 hr5 hG5 => ?_)
    have ln5 : (B ++ [48 + k0] ++ [42] ++ [48 + a0] ++ [47] ++ [48 + s0]).length = B.length + 5 := q_b60.trans (by omega)
    replace hG5 : ∀ k, 365 ≤ k → I5_ k = I k := fun k hk => (hG5 k hk).trans (hG4 k hk)
    refine px_if_leN (tgt := 319) dL_menus_312 (by decide) (by omega) (fun h0 => absurd h0 (by omega)) (fun _ => ?_)
    refine px_iconst (v := nI 1) dL_menus_315 (by decide) ?_
    refine px_goto (tgt := 320) dL_menus_316 (by decide) ?_
    refine px_istore dL_menus_320 (by decide) ?_
    refine px_iload dL_menus_322 rfl ?_
    refine px_if_neN (tgt := 329) dL_menus_324 (by decide) (by omega) (fun _ => ?_) (fun h0 => absurd h0 (by omega))
    refine px_iincN (c := 1) (by decide) dL_menus_329 rfl (by decide) ?_
    refine px_goto (tgt := 93) dL_menus_332 (by decide) ?_
    refine px_keep [0, 1, 2, 3, 4, 5, 6] ?_
    refine px_weak rfl (Nat.le_refl _) (c1 := bc) (s1 := bs) (by omega) (by omega) ?_
    exact K I5_ (B ++ [48 + k0] ++ [42] ++ [48 + a0] ++ [47] ++ [48 + s0]) 7 (max (max hi (48 + k0 - 48 + 1)) (48 + s0 - 48 + 1)) (pt_up (pt_up (pt_up (pt_up (pt_up (pt_up W (12 * m + 3 * i) (48 + k0 - 48)) ((12 * m + 3 * i) + 1) 0) ((12 * m + 3 * i) + 2) 4294967295) ((12 * m + 3 * i) + 1) (48 + a0 - 48)) (120 + m) (i + 1)) ((12 * m + 3 * i) + 2) (48 + s0 - 48)) hCA5 hw5 hr5 (by omega) (by omega) (by omega) hG5 (by rw [pt_un (by omega), pt_un (by omega), pt_un (by omega), pt_un (by omega), pt_un (by omega), pt_us]; omega) (by rw [pt_un (by omega), pt_un (by omega), pt_us]; omega) (by rw [pt_us]; omega) (by rw [pt_un (by omega), pt_us]) (fun j hj => by rw [pt_un (by omega), pt_un (by omega), pt_un (by omega), pt_un (by omega), pt_un (by omega), pt_un (by omega)])
