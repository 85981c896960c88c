/-! The law: the first rows; its end. -/
theorem q_fresh : ∀ j, j < 16 → j ≠ 1 → (if j = 2 then nI 1 else if j = 4 then nI 10 else if j = 5 then nI 10000 else if 8 ≤ j ∧ j < 8 + 3 then nI 1000 else 0) = nI (T0 (dT j)) := by decide +kernel
set_option maxRecDepth 100000 in
set_option maxHeartbeats 4000000 in
theorem s_L_fresh {Q : pv_Q} {E : pv_E} {d bs : Nat} {J : pv_JT} {I : pv_IT} (h0 : I 365 = fun _ => 0) (h : ∀ I' : pv_IT, qD I' T0 0 → (∀ k, k ≠ 365 → I' k = I k) → Q (.inl none) 370 pv_P0 I' J) : pv_X (pv_ZQ E Q) E d 0 bs mL_fresh 0 [(0, .ref 365)] [] 370 pv_P0 (I) (J) := by
  refine px_aload_n dL_fresh_0 rfl ?_
  refine px_iconst (v := nI 2) dL_fresh_1 (by decide) ?_
  refine px_iconst (v := nI 1) dL_fresh_2 (by decide) ?_
  refine px_iast (j := 2) dL_fresh_3 pv_a_d.1 rfl (by omega) pv_a_d.2.2 (by decide) ?_
  refine px_aload_n dL_fresh_4 rfl ?_
  refine px_iconst (v := nI 4) dL_fresh_5 (by decide) ?_
  refine px_bipush (v := nI 10) dL_fresh_6 (by decide) ?_
  refine px_iast (j := 4) dL_fresh_8 pv_a_d.1 rfl (by omega) pv_a_d.2.2 (by decide) ?_
  refine px_aload_n dL_fresh_9 rfl ?_
  refine px_iconst (v := nI 5) dL_fresh_10 (by decide) ?_
  refine px_sipush (v := nI 10000) dL_fresh_11 (by decide) ?_
  refine px_iast (j := 5) dL_fresh_14 pv_a_d.1 rfl (by omega) pv_a_d.2.2 (by decide) ?_
  refine px_iconst (v := nI 0) dL_fresh_15 (by decide) ?_
  refine px_istore_n dL_fresh_16 (by decide) ?_
  generalize hI1 : pv_uI (pv_uI (pv_uI I 365 2 (nI 1)) 365 4 (nI 10)) 365 5 (nI 10000) = I1
  have hF1 : ∀ k, k ≠ 365 → I1 k = I k := fun k hk => by rw [← hI1, pv_uI_ne hk, pv_uI_ne hk, pv_uI_ne hk]
  have hA1 : ∀ j, I1 365 j = (if j = 2 then nI 1 else if j = 4 then nI 10 else if j = 5 then nI 10000 else if 8 ≤ j ∧ j < 8 + 0 then nI 1000 else 0) := fun j => by
    rw [← hI1, pv_uI_at, pv_uI_at, pv_uI_at, h0]
    by_cases e2 : j = 2
    · rw [if_pos e2, if_neg (by omega), if_neg (by omega), if_pos ⟨rfl, e2⟩]
    · rw [if_neg e2]
      by_cases e4 : j = 4
      · rw [if_pos e4, if_neg (by omega), if_pos ⟨rfl, e4⟩]
      · rw [if_neg e4]
        by_cases e5 : j = 5
        · rw [if_pos e5, if_pos ⟨rfl, e5⟩]
        · rw [if_neg e5, if_neg (fun q => e5 q.2), if_neg (fun q => e4 q.2), if_neg (fun q => e2 q.2), if_neg (show ¬ (8 ≤ j ∧ j < 8 + 0) by omega)]
  clear hI1
  suffices key : ∀ i : Nat, i ≤ 3 → ∀ I1 : pv_IT, (∀ j, I1 365 j = (if j = 2 then nI 1 else if j = 4 then nI 10 else if j = 5 then nI 10000 else if 8 ≤ j ∧ j < 8 + i then nI 1000 else 0)) → (∀ k, k ≠ 365 → I1 k = I k) → pv_X (pv_ZQ E Q) E d 0 bs mL_fresh 17 [(0, .ref 365), (1, .int (nI (i)))] [] 370 pv_P0 (I1) (J) from key 0 (by omega) I1 hA1 hF1
  refine pv_up (3) ?_ ?_
  · intro I2 hA2 hF2
    refine px_iload_n dL_fresh_17 rfl ?_
    refine px_iconst (v := nI 3) dL_fresh_18 (by decide) ?_
    refine px_icmp_geN (tgt := 37) dL_fresh_19 (by decide) (by omega) (by omega) (fun _ => ?_) (fun h0 => absurd h0 (by omega))
    refine px_vret dL_fresh_37 rfl (Or.inr rfl) (h I2 ⟨?_, fun j hj h1 hm => ?_⟩ hF2)
    · rw [hA2]; rfl
    · replace hm : 15 ≤ j → j < 15 + 1 := hm
      rw [hA2]
      exact q_fresh j (by omega) h1
  · intro i hi K9 I2 hA2 hF2
    refine px_iload_n dL_fresh_17 rfl ?_
    refine px_iconst (v := nI 3) dL_fresh_18 (by decide) ?_
    refine px_icmp_geN (tgt := 37) dL_fresh_19 (by decide) (by omega) (by omega) (fun h0 => absurd h0 (by omega)) (fun _ => ?_)
    refine px_aload_n dL_fresh_22 rfl ?_
    refine px_bipush (v := nI 8) dL_fresh_23 (by decide) ?_
    refine px_iload_n dL_fresh_25 rfl ?_
    refine px_iaddN dL_fresh_26 ?_
    refine px_sipush (v := nI 1000) dL_fresh_27 (by decide) ?_
    refine px_iast (j := (8 + i)) dL_fresh_30 pv_a_d.1 rfl (by omega) pv_a_d.2.2 (by decide) ?_
    refine px_iincN (c := 1) (by decide) dL_fresh_31 rfl (by decide) ?_
    refine px_goto (tgt := 17) dL_fresh_34 (by decide) ?_
    refine K9 _ (fun j => ?_) (fun k hk => by rw [pv_uI_ne hk]; exact hF2 k hk)
    rw [pv_uI_at, hA2]
    by_cases e : j = 8 + i
    · rw [if_pos ⟨rfl, e⟩, if_neg (by omega), if_neg (by omega), if_neg (by omega), if_pos (by omega)]
    · rw [if_neg (fun q => e q.2)]
      by_cases e2 : j = 2
      · rw [if_pos e2, if_pos e2]
      · rw [if_neg e2, if_neg e2]
        by_cases e4 : j = 4
        · rw [if_pos e4, if_pos e4]
        · rw [if_neg e4, if_neg e4]
          by_cases e5 : j = 5
          · rw [if_pos e5, if_pos e5]
          · rw [if_neg e5, if_neg e5]
            by_cases e8 : 8 ≤ j ∧ j < 8 + i
            · rw [if_pos e8, if_pos (show 8 ≤ j ∧ j < 8 + (i + 1) by omega)]
            · rw [if_neg e8, if_neg (show ¬ (8 ≤ j ∧ j < 8 + (i + 1)) by omega)]
def lw_L (E : pv_E) (args : Array Value) (s : State) (rc rs : Nat) : Prop := args = #[Value.ref E.2.2.1] ∧ rc = 600130 ∧ rs = 7301080 ∧ s.heap.size = E.2.1
def zL (E : pv_E) : pv_Z := fun below args s rc rs t => lw_L E args s rc rs → lw_Z below args s t
def mL_law (nm : String) (hh : List (Nat × Nat × Nat × Nat)) : pv_MI := (⟨RL, nm, ""⟩, cL_law, 12, ret, hh)
theorem lw_retR {p : Program} {l : Launch} {e : Env} {R : Room} {s : State} {m : MethodId} {below : List Frame} {meth : Method} {c : Code} {b : Nat} (hx : p.tables.exec = Jvm.exec) (hb : c.code = code) (hr : meth.sig.returnType = ret) (hlocks : meth.locks = false) {pc : Nat} {H : Heap} {ls : Array Slot} (hdg : decode code pc = .ok (.ireturn, 1)) : W p l e R s m #[Value.ref b] below meth c H [] 600130 7301080 (lw_Z below #[Value.ref b] s) (F0 m pc ls [.int 1]) := by
  intro T hT X
  obtain ⟨fs, hret, hrun, hended, hW, hframe⟩ := X.leave (v := some (.int 1)) (hlocks := hlocks) (fun h => by rw [hr] at h; cases h)
  have hmeth' : T.vm.method? m = some meth := X.method'
  refine ⟨T.setFrames fs, ?_, .returned (some (.int 1)), hrun, hended, rfl, lw_closed (d0 := s.drawn) (Drawn.sameBut.refl s.drawn lw_cs) ⟨_, rfl⟩ hW hframe⟩
  jvm_step X.here [X.here.top, hx, hb, hdg, hmeth', hr, ret, narrow_b1]
  (try refine ⟨rfl, ?_⟩); (try refine ⟨rfl, ?_⟩)
  first | (intro acts; rw [hret _ acts rfl rfl rfl]) | rw [hret _ _ rfl rfl rfl]
  exact Steps.refl _
theorem px_lend {E : pv_E} {off d bc bs : Nat} {pc : Nat} {lv : pv_LV} {sz : Nat} {P : pv_PT} {I : pv_IT} {J : pv_JT} {nm : String} {hh : List (Nat × Nat × Nat × Nat)} (hd : decode code pc = .ok (.ireturn, 1)) : pv_X (zL E) (pv_of E off) d bc bs (mL_law nm hh) pc lv [.int (nI 1)] sz P I J := by
  have e1 : (nI 1) = (1 : Int32) := by decide
  rw [e1]
  intro p e R s m args below meth c H locs cells slots ls hF hR hE hz hS hP hl
  by_cases hA : lw_L E args s R.cells R.slots
  · obtain ⟨h1, h2, h3, h6⟩ := hA
    subst h1
    have hlocs : ∀ q ∈ locs, s.heap.size ≤ q.base := fun q hq => by
      have h9 : E.2.1 ≤ q.base := hS.2.2 q hq
      omega
    have key : W p E.1 e R s m #[Value.ref E.2.2.1] below meth c H locs cells slots (lw_Z below #[Value.ref E.2.2.1] s) (F0 m pc ls [.int 1]) :=
      W.widen (k := 600130) (n := 7301080) (by omega) (by omega) (va_forget hlocs (lw_retR hF.1 hF.2.1 hF.2.2.2.1 hF.2.2.2.2.2.2.1 hd))
    intro T hT X
    obtain ⟨t, a1, b1⟩ := key T hT X
    exact ⟨t, a1, fun _ => b1⟩
  · intro T hT X
    exact ⟨_, Steps.refl _, fun h => absurd h hA⟩
