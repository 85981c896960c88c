/-! The class: ports. -/
/-- one port's cells as another's -/
def pcp (I I' : pv_IT) (q f t : Nat) : Prop := I' (q + 2) t = I (q + 2) f ∧ I' (q + 4) t = I (q + 4) f ∧ ∀ k, k < 8 → I' (q + 6) (t * 8 + k) = I (q + 6) (f * 8 + k)
theorem pcp_pc {I I' : pv_IT} {q f t : Nat} {x : Nat → Nat} (h : pc I q f x) (hc : pcp I I' q f t) : pc I' q t x :=
  ⟨hc.1.trans h.1, hc.2.1.trans h.2.1, fun k hk => (hc.2.2 k hk).trans (h.2.2 k hk)⟩
/-- the cells of the port t -/
def pce (q t k j : Nat) : Prop := (k = q + 2 ∧ j = t) ∨ (k = q + 4 ∧ j = t) ∨ (k = q + 6 ∧ t * 8 ≤ j ∧ j < t * 8 + 8)
theorem pce_pc {I I' : pv_IT} {q t p : Nat} {x : Nat → Nat} (h : pc I q p x) (hF : ∀ k j, ¬ pce q t k j → I' k j = I k j) (hp : p ≠ t) : pc I' q p x :=
  pc_of h (hF _ _ (by unfold pce; omega)) (hF _ _ (by unfold pce; omega)) fun k hk => hF _ _ (by unfold pce; omega)
set_option maxRecDepth 100000 in
set_option maxHeartbeats 4000000 in
theorem s_I_priceOf {Q : pv_Q} {E : pv_E} {d bc bs : Nat} {J : pv_JT} {I : pv_IT} {q p k : Nat} (hD : 1 ≤ d) (hq : pv_ports q) (h1 : p < 8) (h2 : k < 8) (h : Q (.inl (some (.int (I (q + 6) (p * 8 + k))))) pv_K0 pv_P0 (I) (J)) : pv_X (pv_ZQ E Q) E d bc bs mX5_priceOf 0 [(0, .ref (q)), (1, .int (nI (p))), (2, .int (nI (k)))] [] pv_K0 pv_P0 I J := by
  refine px_aload_n dX5_priceOf_0 rfl ?_
  refine px_getR dX5_priceOf_1 flX5_23 hq.1 (by decide) (by decide) rfl hq.2.1 hq.2.2.2.2.1 ?_
  refine px_iload_n dX5_priceOf_4 rfl ?_
  refine px_bipush (v := nI 8) dX5_priceOf_5 (by decide) ?_
  refine px_imulN dX5_priceOf_7 ?_
  refine px_iload_n dX5_priceOf_8 rfl ?_
  refine px_iaddN dX5_priceOf_9 ?_
  refine c_X6_at dX5_priceOf_10 mlX5_30 (by omega) (j := ((p * 8) + k)) hq.2.2.2.2.2 (by omega) (Nat.le_of_ble_eq_true rfl) ?_
  exact px_iret dX5_priceOf_13 rfl (Or.inl rfl) (h)
theorem cI_priceOf {z : pv_Z} {E : pv_E} {d bc bs : Nat} {J : pv_JT} {I : pv_IT} {mi : pv_MI} {pc idx : Nat} {lv : pv_LV} {st : List Value} {q p k : Nat} (hd : decode mi.2.1 pc = .ok (.invokevirtual idx, 3)) (hlk : Cond.methodLink mi.1.cls idx mX5_priceOf.1 ∈ pv_W) (hD : 1+1 ≤ d) (hq : pv_ports q) (h1 : p < 8) (h2 : k < 8) (hcat : (st.map fun v => v.category).sum ≤ 8) (K : pv_X z E d bc bs mi (pc + 3) lv ((.int (I (q + 6) (p * 8 + k))) :: st) pv_K0 pv_P0 (I) (J)) : pv_X z E d bc bs mi pc lv (.int (nI (k)) :: .int (nI (p)) :: .ref (q) :: st) pv_K0 pv_P0 I J := by
  obtain ⟨d, rfl⟩ : ∃ d0, d = d0 + 1 := ⟨d - 1, by omega⟩
  have key := px_callV (bc := bc) (bs := bs) (bc1 := 0) (bs1 := 0) (as := [.int (nI (p)), .int (nI (k))]) (E := E) (z := z) (lv := lv) hd mvX5_priceOf hlk hq.1 (by decide) rfl hq.2.1 rfl rfl hcat (by exact Nat.le_of_ble_eq_true rfl) (s_I_priceOf (by omega) hq h1 h2 K)
  rw [Nat.zero_add, Nat.zero_add] at key
  exact key
set_option maxRecDepth 100000 in
set_option maxHeartbeats 4000000 in
theorem s_X5_copyPort {Q : pv_Q} {E : pv_E} {d bc bs : Nat} {J : pv_JT} {I : pv_IT} {q f t : Nat} (hD : 2 ≤ d) (hq : pv_ports q) (hf : f < 8) (ht : t < 8) (hft : f ≠ t) (h : ∀ I' : pv_IT, pcp I I' q f t → (∀ k j, ¬ pce q t k j → I' k j = I k j) → Q (.inl none) pv_K0 pv_P0 (I') (J)) : pv_X (pv_ZQ E Q) E d bc bs mX5_copyPort 0 [(0, .ref (q)), (1, .int (nI (f))), (2, .int (nI (t)))] [] pv_K0 pv_P0 I J := by
  refine px_aload_n dX5_copyPort_0 rfl ?_
  refine px_getR dX5_copyPort_1 flX5_14 hq.1 (by decide) (by decide) rfl hq.2.1 hq.2.2.1.1 ?_
  refine px_iload_n dX5_copyPort_4 rfl ?_
  refine px_aload_n dX5_copyPort_5 rfl ?_
  refine px_getR dX5_copyPort_6 flX5_14 hq.1 (by decide) (by decide) rfl hq.2.1 hq.2.2.1.1 ?_
  refine px_iload_n dX5_copyPort_9 rfl ?_
  refine c_X6_at dX5_copyPort_10 mlX5_30 (by omega) (j := f) hq.2.2.1.2 (by omega) (Nat.le_of_ble_eq_true rfl) ?_
  refine c_X6_put dX5_copyPort_13 mlX5_34 (by omega) (j := t) hq.2.2.1.2 (by omega) (Nat.le_of_ble_eq_true rfl) ?_
  refine px_aload_n dX5_copyPort_16 rfl ?_
  refine px_getR dX5_copyPort_17 flX5_20 hq.1 (by decide) (by decide) rfl hq.2.1 hq.2.2.2.1.1 ?_
  refine px_iload_n dX5_copyPort_20 rfl ?_
  refine px_aload_n dX5_copyPort_21 rfl ?_
  refine px_getR dX5_copyPort_22 flX5_20 hq.1 (by decide) (by decide) rfl hq.2.1 hq.2.2.2.1.1 ?_
  refine px_iload_n dX5_copyPort_25 rfl ?_
  refine c_X6_at dX5_copyPort_26 mlX5_30 (by omega) (j := f) hq.2.2.2.1.2 (by omega) (Nat.le_of_ble_eq_true rfl) ?_
  refine c_X6_put dX5_copyPort_29 mlX5_34 (by omega) (j := t) hq.2.2.2.1.2 (by omega) (Nat.le_of_ble_eq_true rfl) ?_
  have key : ∀ i : Nat, i ≤ 8 → ∀ I1 : pv_IT, (I1 (q + 2) t = I (q + 2) f ∧ I1 (q + 4) t = I (q + 4) f ∧ ∀ k, k < i → I1 (q + 6) (t * 8 + k) = I (q + 6) (f * 8 + k)) → (∀ k j, ¬ pce q t k j → I1 k j = I k j) → pv_X (pv_ZQ E Q) E d bc bs mX5_copyPort 34 [(0, .ref q), (1, .int (nI f)), (2, .int (nI t)), (3, .int (nI (i)))] [] pv_K0 pv_P0 (I1) (J) := by
    refine pv_up (8) ?_ ?_
    · intro I1 hA hF
      refine px_iload_n dX5_copyPort_34 rfl ?_
      refine px_bipush (v := nI 8) dX5_copyPort_35 (by decide) ?_
      refine px_icmp_geN (tgt := 58) dX5_copyPort_37 (by decide) (by omega) (by omega) (fun _ => ?_) (fun h0 => absurd h0 (by omega))
      exact px_vret dX5_copyPort_58 rfl (Or.inl rfl) (h I1 ⟨hA.1, hA.2.1, fun k hk => hA.2.2 k hk⟩ (fun k j hk => hF k j hk))
    · intro i hi K I1 hA hF
      refine px_iload_n dX5_copyPort_34 rfl ?_
      refine px_bipush (v := nI 8) dX5_copyPort_35 (by decide) ?_
      refine px_icmp_geN (tgt := 58) dX5_copyPort_37 (by decide) (by omega) (by omega) (fun h0 => absurd h0 (by omega)) (fun _ => ?_)
      refine px_aload_n dX5_copyPort_40 rfl ?_
      refine px_iload_n dX5_copyPort_41 rfl ?_
      refine px_iload_n dX5_copyPort_42 rfl ?_
      refine px_aload_n dX5_copyPort_43 rfl ?_
      refine px_iload_n dX5_copyPort_44 rfl ?_
      refine px_iload_n dX5_copyPort_45 rfl ?_
      refine cI_priceOf dX5_copyPort_46 mlX5_48 (by omega) hq hf hi (Nat.le_of_ble_eq_true rfl) ?_
      refine c_X5_putPrice dX5_copyPort_49 mlX5_44 (by omega) hq ht hi (Nat.le_of_ble_eq_true rfl) ?_
      refine px_iincN (c := 1) (by decide) dX5_copyPort_52 rfl (by decide) ?_
      refine px_goto (tgt := 34) dX5_copyPort_55 (by decide) ?_
      refine px_keep [0, 1, 2, 3] ?_
      refine K _ ⟨(congrFun (pv_uI_ne (by omega)) _).trans hA.1, (congrFun (pv_uI_ne (by omega)) _).trans hA.2.1, fun k hk => ?_⟩ (fun k j hk => ?_)
      · simp only [pv_uI_at]
        by_cases e : k = i
        · subst e
          rw [if_pos (by simp)]
          exact hF _ _ (by unfold pce; omega)
        · rw [if_neg (by omega)]
          exact hA.2.2 k (by omega)
      · simp only [pv_uI_at]
        rw [if_neg (by unfold pce at hk; omega)]
        exact hF k j hk
  refine px_iconst (v := nI 0) dX5_copyPort_32 (by decide) ?_
  refine px_istore_n dX5_copyPort_33 (by decide) ?_
  refine key 0 (by omega) _ ⟨?_, ?_, fun k hk => absurd hk (Nat.not_lt_zero _)⟩ (fun k j hk => ?_)
  · simp only [pv_uI_at]; rw [if_neg (by omega), if_pos (by simp)]
  · simp only [pv_uI_at]; rw [if_pos (by simp), if_neg (by omega)]
  · simp only [pv_uI_at]; unfold pce at hk; rw [if_neg (by omega), if_neg (by omega)]
theorem c_X5_copyPort {z : pv_Z} {E : pv_E} {d bc bs : Nat} {J : pv_JT} {I : pv_IT} {mi : pv_MI} {pc idx : Nat} {lv : pv_LV} {st : List Value} {q f t : Nat} (hd : decode mi.2.1 pc = .ok (.invokevirtual idx, 3)) (hlk : Cond.methodLink mi.1.cls idx mX5_copyPort.1 ∈ pv_W) (hD : 2+1 ≤ d) (hq : pv_ports q) (hf : f < 8) (ht : t < 8) (hft : f ≠ t) (hcat : (st.map fun v => v.category).sum ≤ 8) (K : ∀ I' : pv_IT, pcp I I' q f t → (∀ k j, ¬ pce q t k j → I' k j = I k j) → pv_X z E d bc bs mi (pc + 3) lv (st) pv_K0 pv_P0 (I') (J)) : pv_X z E d bc bs mi pc lv (.int (nI (t)) :: .int (nI (f)) :: .ref (q) :: st) pv_K0 pv_P0 I J := by
  obtain ⟨d, rfl⟩ : ∃ d0, d = d0 + 1 := ⟨d - 1, by omega⟩
  have key := px_callV (bc := bc) (bs := bs) (bc1 := 0) (bs1 := 0) (as := [.int (nI (f)), .int (nI (t))]) (E := E) (z := z) (lv := lv) hd mvX5_copyPort hlk hq.1 (by decide) rfl hq.2.1 rfl rfl hcat (by exact Nat.le_of_ble_eq_true rfl) (s_X5_copyPort (by omega) hq hf ht hft K)
  rw [Nat.zero_add, Nat.zero_add] at key
  exact key
set_option maxRecDepth 100000 in
set_option maxHeartbeats 4000000 in
theorem s_X5_insert {Q : pv_Q} {E : pv_E} {d bc bs : Nat} {J : pv_JT} {I : pv_IT} {q d0 s0 : Nat} {T : pv_T} (hD : 3 ≤ d) (hq : pv_ports q) (hp : cp I q T) (hw : pw T) (h8 : T 407 < 8) (hd0 : d0 < 2147483648) (h : ∀ I' : pv_IT, cp I' q (pt_ins T (pt_place T d0) d0 s0) → (∀ k0 : Nat, k0 < q ∨ q + 7 ≤ k0 → I' k0 = I k0) → Q (.inl (some (.int (nI (pt_place T d0))))) pv_K0 pv_P0 (I') (J)) : pv_X (pv_ZQ E Q) E d bc bs mX5_insert 0 [(0, .ref (q)), (1, .int (nI (d0))), (2, .int (nI (s0)))] [] pv_K0 pv_P0 I J := by
  have hn := hw.1
  have hj : pt_place T d0 ≤ T 407 := by
    unfold pt_place
    cases e : pt_aft T d0 with
    | none => exact Nat.le_refl _
    | some p => exact Nat.le_of_lt (pf_is e).1
  have main : pv_X (pv_ZQ E Q) E d bc bs mX5_insert 21 [(0, .ref q), (1, .int (nI d0)), (2, .int (nI s0)), (3, .int (oI (pt_aft T d0))), (4, .int (nI (pt_place T d0)))] [] pv_K0 pv_P0 I J := by
    generalize pt_place T d0 = j at hj h ⊢
    generalize oI (pt_aft T d0) = o
    have key : ∀ m : Nat, j ≤ m → ∀ I1 : pv_IT, (∀ p, p < 8 → pc I1 q p (if m < p ∧ p ≤ T 407 then pt_p T (p - 1) else pt_p T p)) → (∀ k x, k ≠ q + 2 → k ≠ q + 4 → k ≠ q + 6 → I1 k x = I k x) → m ≤ T 407 → pv_X (pv_ZQ E Q) E d bc bs mX5_insert 27 [(0, .ref q), (1, .int (nI d0)), (2, .int (nI s0)), (3, .int o), (4, .int (nI j)), (5, .int (nI (m)))] [] pv_K0 pv_P0 I1 J := by
      refine pv_dn j ?_ ?_
      · intro I1 hA hF hle
        refine px_iload dX5_insert_27 rfl ?_
        refine px_iload dX5_insert_29 rfl ?_
        refine px_icmp_leN (tgt := 50) dX5_insert_31 (by decide) (by omega) (by omega) (fun _ => ?_) (fun h0 => absurd h0 (by omega))
        refine px_aload_n dX5_insert_50 rfl ?_
        refine px_getR dX5_insert_51 flX5_14 hq.1 (by decide) (by decide) rfl hq.2.1 hq.2.2.1.1 ?_
        refine px_iload dX5_insert_54 rfl ?_
        refine px_iload_n dX5_insert_56 rfl ?_
        refine c_X6_put dX5_insert_57 mlX5_34 (by omega) (j := j) hq.2.2.1.2 (by omega) (Nat.le_of_ble_eq_true rfl) ?_
        refine px_aload_n dX5_insert_60 rfl ?_
        refine px_getR dX5_insert_61 flX5_20 hq.1 (by decide) (by decide) rfl hq.2.1 hq.2.2.2.1.1 ?_
        refine px_iload dX5_insert_64 rfl ?_
        refine px_iload_n dX5_insert_66 rfl ?_
        refine c_X6_put dX5_insert_67 mlX5_34 (by omega) (j := j) hq.2.2.2.1.2 (by omega) (Nat.le_of_ble_eq_true rfl) ?_
        have key2 : ∀ i : Nat, i ≤ 8 → ∀ I2 : pv_IT, (I2 (q + 2) j = nI d0 ∧ I2 (q + 4) j = nI s0 ∧ (∀ k, k < i → I2 (q + 6) (j * 8 + k) = 0) ∧ ∀ k x, ¬ pce q j k x → I2 k x = I1 k x) → (∀ k x, k ≠ q + 2 → k ≠ q + 4 → k ≠ q + 6 → I2 k x = I k x) → pv_X (pv_ZQ E Q) E d bc bs mX5_insert 73 [(0, .ref q), (1, .int (nI d0)), (2, .int (nI s0)), (3, .int o), (4, .int (nI j)), (5, .int (nI (i)))] [] pv_K0 pv_P0 (I2) (J) := by
          refine pv_up (8) ?_ ?_
          · intro I2 hB hF2
            refine px_iload dX5_insert_73 rfl ?_
            refine px_bipush (v := nI 8) dX5_insert_75 (by decide) ?_
            refine px_icmp_geN (tgt := 95) dX5_insert_77 (by decide) (by omega) (by omega) (fun _ => ?_) (fun h0 => absurd h0 (by omega))
            refine px_aload_n dX5_insert_95 rfl ?_
            refine px_dup dX5_insert_96 rfl ?_
            refine px_getI dX5_insert_97 flX5_26 hq.1 (by decide) (by decide) rfl hq.2.1 ?_
            refine px_iv (y := nI (T 407)) ((hF2 q 0 (by omega) (by omega) (by omega)).trans hp.1) ?_
            refine px_iconst (v := nI 1) dX5_insert_100 (by decide) ?_
            refine px_iaddN dX5_insert_101 ?_
            refine px_putI dX5_insert_102 fwX5_26 hq.1 (by decide) (by decide) rfl hq.2.1 ?_
            refine px_iload dX5_insert_105 rfl ?_
            refine px_iret dX5_insert_107 rfl (Or.inl rfl) (h _ ⟨?_, fun p hp8 => ?_⟩ (fun k hk => ?_))
            · simp only [pv_uI_at]; rw [if_pos (by simp)]; exact congrArg nI (if_pos rfl).symm
            · have e9 : ∀ k, k ≠ q → ∀ x, (pv_uI I2 q 0 (nI (T 407 + 1))) k x = I2 k x := fun k hk x => congrFun (pv_uI_ne hk) x
              by_cases e : p = j
              · subst e
                refine ⟨(e9 _ (by omega) _).trans (hB.1.trans (congrArg nI ?_)), (e9 _ (by omega) _).trans (hB.2.1.trans (congrArg nI ?_)), fun k hk => (e9 _ (by omega) _).trans ((hB.2.2.1 k hk).trans (congrArg nI (a₁ := 0) ?_))⟩
                · unfold pt_p pt_ins; rw [if_neg (by omega), if_pos (by omega), if_pos (by omega)]
                · unfold pt_p pt_ins; rw [if_neg (by omega), if_pos (by omega), if_neg (by omega), if_pos (by omega)]
                · unfold pt_p pt_ins; rw [if_neg (by omega), if_pos (by omega), if_neg (by omega), if_neg (by omega)]
              · have h1 := pc_of (hA p hp8) (hB.2.2.2 (q + 2) p (by unfold pce; omega)) (hB.2.2.2 (q + 4) p (by unfold pce; omega)) (fun k hk => hB.2.2.2 (q + 6) (p * 8 + k) (by unfold pce; omega))
                refine pc_congr (pc_of h1 (e9 _ (by omega) _) (e9 _ (by omega) _) fun k hk => e9 _ (by omega) _) fun w hw10 => ?_
                unfold pt_p pt_ins
                rw [if_neg (by omega), if_neg (by omega)]
                by_cases e3 : j < p ∧ p ≤ T 407
                · rw [if_pos (by omega), if_pos e3]
                  exact congrArg T (by omega)
                · rw [if_neg (by omega), if_neg e3]
            · rw [pv_uI_ne (by omega)]
              funext x
              exact hF2 k x (by omega) (by omega) (by omega)
          · intro i hi K I2 hB hF2
            refine px_iload dX5_insert_73 rfl ?_
            refine px_bipush (v := nI 8) dX5_insert_75 (by decide) ?_
            refine px_icmp_geN (tgt := 95) dX5_insert_77 (by decide) (by omega) (by omega) (fun h0 => absurd h0 (by omega)) (fun _ => ?_)
            refine px_aload_n dX5_insert_80 rfl ?_
            refine px_iload dX5_insert_81 rfl ?_
            refine px_iload dX5_insert_83 rfl ?_
            refine px_iconst (v := nI 0) dX5_insert_85 (by decide) ?_
            refine c_X5_putPrice dX5_insert_86 mlX5_44 (by omega) hq (by omega) hi (Nat.le_of_ble_eq_true rfl) ?_
            refine px_iincN (c := 1) (by decide) dX5_insert_89 rfl (by decide) ?_
            refine px_goto (tgt := 73) dX5_insert_92 (by decide) ?_
            refine px_keep [0, 1, 2, 3, 4, 5] ?_
            refine K _ ⟨(congrFun (pv_uI_ne (by omega)) _).trans hB.1, (congrFun (pv_uI_ne (by omega)) _).trans hB.2.1, fun k hk => ?_, fun k x hk => ?_⟩ (fun k x h1 h2 h3 => (congrFun (pv_uI_ne h3) x).trans (hF2 k x h1 h2 h3))
            · simp only [pv_uI_at]
              by_cases e : k = i
              · subst e
                rw [if_pos (by simp)]
                rfl
              · rw [if_neg (by omega)]
                exact hB.2.2.1 k (by omega)
            · simp only [pv_uI_at]
              rw [if_neg (by unfold pce at hk; omega)]
              exact hB.2.2.2 k x hk
        refine px_iconst (v := nI 0) dX5_insert_70 (by decide) ?_
        refine px_istore dX5_insert_71 (by decide) ?_
        refine key2 0 (by omega) _ ⟨?_, ?_, fun k hk => absurd hk (Nat.not_lt_zero _), fun k x hk => ?_⟩ (fun k x h1 h2 h3 => ?_)
        · simp only [pv_uI_at]; rw [if_neg (by omega), if_pos (by simp)]
        · simp only [pv_uI_at]; rw [if_pos (by simp)]
        · simp only [pv_uI_at]; unfold pce at hk; rw [if_neg (by omega), if_neg (by omega)]
        · rw [pv_uI_ne (by omega), pv_uI_ne (by omega)]; exact hF k x h1 h2 h3
      · intro m hm K I1 hA hF hle
        refine px_iload dX5_insert_27 rfl ?_
        refine px_iload dX5_insert_29 rfl ?_
        refine px_icmp_leN (tgt := 50) dX5_insert_31 (by decide) (by omega) (by omega) (fun h0 => absurd h0 (by omega)) (fun _ => ?_)
        refine px_aload_n dX5_insert_34 rfl ?_
        refine px_iload dX5_insert_35 rfl ?_
        refine px_iconst (v := nI 1) dX5_insert_37 (by decide) ?_
        refine px_isubN (by omega) dX5_insert_38 ?_
        refine px_iload dX5_insert_39 rfl ?_
        refine c_X5_copyPort dX5_insert_41 mlX5_41 (by omega) hq (by omega) (by omega) (by omega) (Nat.le_of_ble_eq_true rfl) (fun I2 hC hF2 => ?_)
        refine px_idecN (by omega) dX5_insert_44 rfl (by decide) ?_
        refine px_goto (tgt := 27) dX5_insert_47 (by decide) ?_
        refine px_keep [0, 1, 2, 3, 4, 5] ?_
        refine K I2 (fun p hp8 => ?_) (fun k j h1 h2 h3 => (hF2 k j (by unfold pce; omega)).trans (hF k j h1 h2 h3)) (by omega)
        by_cases e : p = m
        · subst e
          refine pc_congr (pcp_pc (hA (p - 1) (by omega)) hC) fun w _ => ?_
          rw [if_pos (by omega), if_neg (by omega)]
        · refine pc_congr (pce_pc (hA p hp8) hF2 e) fun w _ => ?_
          by_cases e2 : m < p ∧ p ≤ T 407
          · rw [if_pos (by omega), if_pos e2]
          · rw [if_neg (by omega), if_neg e2]
    refine px_aload_n dX5_insert_21 rfl ?_
    refine px_getI dX5_insert_22 flX5_26 hq.1 (by decide) (by decide) rfl hq.2.1 ?_
    refine px_iv (y := nI (T 407)) (hp.1) ?_
    refine px_istore dX5_insert_25 (by decide) ?_
    exact key (T 407) hj I (fun p hp8 => pc_congr (hp.2 p hp8) fun w _ => by rw [if_neg (by omega)]) (fun _ _ _ _ _ => rfl) (Nat.le_refl _)
  refine px_aload_n dX5_insert_0 rfl ?_
  refine px_iload_n dX5_insert_1 rfl ?_
  refine c_X5_after dX5_insert_2 mlX5_38 (by omega) hq hp hw hd0 (Nat.le_of_ble_eq_true rfl) ?_
  refine px_istore_n dX5_insert_5 (by decide) ?_
  refine px_iload_n dX5_insert_6 rfl ?_
  refine px_iconst (v := -1) dX5_insert_7 (by decide) ?_
  cases e : pt_aft T d0 with
  | none =>
    rw [e] at main
    have ep : pt_place T d0 = T 407 := by unfold pt_place; rw [e]
    rw [ep] at main
    refine px_icmp_ne (tgt := 18) dX5_insert_8 (by decide) (fun h0 => absurd rfl h0) (fun _ => ?_)
    refine px_aload_n dX5_insert_11 rfl ?_
    refine px_getI dX5_insert_12 flX5_26 hq.1 (by decide) (by decide) rfl hq.2.1 ?_
    refine px_iv (y := nI (T 407)) (hp.1) ?_
    refine px_goto (tgt := 19) dX5_insert_15 (by decide) ?_
    refine px_istore dX5_insert_19 (by decide) ?_
    exact main
  | some p =>
    rw [e] at main
    have ep : pt_place T d0 = p := by unfold pt_place; rw [e]
    rw [ep] at main hj
    refine px_icmp_ne (tgt := 18) dX5_insert_8 (by decide) (fun _ => ?_) (fun h0 => absurd h0 (pn_m1 (by omega)))
    refine px_iload_n dX5_insert_18 rfl ?_
    refine px_istore dX5_insert_19 (by decide) ?_
    exact main
theorem c_X5_insert {z : pv_Z} {E : pv_E} {d bc bs : Nat} {J : pv_JT} {I : pv_IT} {mi : pv_MI} {pc idx : Nat} {lv : pv_LV} {st : List Value} {q d0 s0 : Nat} {T : pv_T} (hd : decode mi.2.1 pc = .ok (.invokevirtual idx, 3)) (hlk : Cond.methodLink mi.1.cls idx mX5_insert.1 ∈ pv_W) (hD : 3+1 ≤ d) (hq : pv_ports q) (hp : cp I q T) (hw : pw T) (h8 : T 407 < 8) (hd0 : d0 < 2147483648) (hcat : (st.map fun v => v.category).sum ≤ 8) (K : ∀ I' : pv_IT, cp I' q (pt_ins T (pt_place T d0) d0 s0) → (∀ k0 : Nat, k0 < q ∨ q + 7 ≤ k0 → I' k0 = I k0) → pv_X z E d bc bs mi (pc + 3) lv ((.int (nI (pt_place T d0))) :: st) pv_K0 pv_P0 (I') (J)) : pv_X z E d bc bs mi pc lv (.int (nI (s0)) :: .int (nI (d0)) :: .ref (q) :: st) pv_K0 pv_P0 I J := by
  obtain ⟨d, rfl⟩ : ∃ d0, d = d0 + 1 := ⟨d - 1, by omega⟩
  have key := px_callV (bc := bc) (bs := bs) (bc1 := 0) (bs1 := 0) (as := [.int (nI (d0)), .int (nI (s0))]) (E := E) (z := z) (lv := lv) hd mvX5_insert hlk hq.1 (by decide) rfl hq.2.1 rfl rfl hcat (by exact Nat.le_of_ble_eq_true rfl) (s_X5_insert (by omega) hq hp hw h8 hd0 K)
  rw [Nat.zero_add, Nat.zero_add] at key
  exact key
