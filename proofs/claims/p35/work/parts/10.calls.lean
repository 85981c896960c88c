/-! The abstract walk: calls. -/
theorem pv_Hsz {p : Program} {E : pv_E} {e : Env} {R : Room} {s : State} {m : MethodId} {args : Array Value} {below : List Frame} {meth : Method} {c : Code} {T : State} {locs : List Loc} {cells slots sz bc : Nat} {P : pv_PT} {I : pv_IT} {J : pv_JT}
    (X : Stand p E.1 e R s m args below meth c T locs cells slots) (hz : pv_SZ E sz s cells bc R.cells) (hS : va_S (pv_A (pv_b E)) s.heap T.heap locs) (hP : va_P (pv_D E) vwCl (pv_WL E sz P I J) T.heap) : E.2.1 ≤ T.heap.size ∧ (sz = pv_K0 ∨ (sz < pv_K0 ∧ T.heap.size = E.2.1 + sz)) := by
  obtain ⟨h0, h1⟩ := hz
  refine ⟨Nat.le_trans h0 hS.1, h1.imp id fun ⟨h2, h3, _⟩ => ⟨h2, ?_⟩⟩
  have h4 := X.heapSize
  have h5 : E.2.1 + sz ≤ T.heap.size := by
    cases sz with
    | zero => exact Nat.le_trans h0 hS.1
    | succ n =>
      have := (hP n _ (pv_WL_get (Nat.lt_succ_self n))).lt
      have h6 : pv_ad E n < T.heap.size := this
      have h7 := pv_ad_ge (E := E) (k := n)
      omega
  omega
theorem pv_map_some {E : pv_E} {v : Option Value} {w : Option Value} (h : Outcome.returned w = Outcome.returned (v.map (pv_cv E))) : w = v.map (pv_cv E) := by
  injection h
theorem pv_go {z : pv_Z} {E : pv_E} {d bc bs bc1 bs1 : Nat} {mi : pv_MI} {pc : Nat} {lv : pv_LV} {st : List Value} {sz : Nat} {P : pv_PT} {I : pv_IT} {J : pv_JT}
    {p : Program} {e : Env} {R : Room} {s : State} {m : MethodId} {args : Array Value} {below : List Frame} {meth : Method} {c : Code} {H : Heap} {locs : List Loc} {cells slots : Nat} {ls : Array Slot} {stk : List Value} {a : Array Value}
    (hrun : vx_Run p E.1 e R s m args below meth c H locs cells slots bc1 bs1 (F0 m pc ls stk) (st.map (pv_cv E)) (pv_QC E bc1 (pv_K z E d bc bs mi pc lv st) a) (pv_XC E bc1 (pv_K z E d bc bs mi pc lv st)) (pv_A (pv_b E)))
    (hF : pv_FX E mi p s m args meth c) (hR : d ≤ R.frames ∧ 37 * d ≤ R.locals ∧ cells + (bc1 + bc) ≤ R.cells ∧ slots + (bs1 + bs) ≤ R.slots) (hE : pv_EV E s s.heap) (hz : pv_SZ E sz s cells (bc1 + bc) R.cells) (hS : va_S (pv_A (pv_b E)) s.heap H locs) (hP : va_P (pv_D E) vwCl (pv_WL E sz P I J) H) (hl : pv_lv E ls mi.2.2.1 lv) :
    W p E.1 e R s m args below meth c H locs cells slots (z below args s R.cells R.slots) (F0 m pc ls stk) := by
  intro T hT X
  have hH := pv_Hsz X hz (by rw [hT]; exact hS) (by rw [hT]; exact hP)
  rw [hT] at hH
  have key : ∀ (st₀ : State) (sz' : Nat), st₀.heap = H → pv_EN E st₀ bc1 sz' → pv_SZ E sz' s (cells + bc1) bc R.cells := by
    intro st₀ sz' e0 hen
    refine ⟨hz.1, ?_⟩
    rcases hen with h | ⟨h1, h2⟩
    · exact Or.inl h
    · rw [e0] at h2
      rcases hz.2 with h3 | ⟨h3, h4, h5⟩
      · exfalso
        subst h3
        have := (hP (pv_K0 - 1) _ (pv_WL_get (by decide))).lt
        have h6 : pv_ad E (pv_K0 - 1) < H.size := this
        have h8 := pv_ad_ge (E := E) (k := pv_K0 - 1)
        omega
      · rcases hH.2 with h6 | ⟨h6, h7⟩
        · omega
        · exact Or.inr ⟨h1, by omega, by omega⟩
  rcases hrun T hT X with ⟨v, st₀, t, T', L, h0, X', hL, e1, e2, ⟨⟨v', sz', P', I', J', hv, hQ, hP', hen⟩, hFr⟩, go⟩ | ⟨q, st₀, t, T', L, x, ce, h0, X', hL, e1, e2, ⟨⟨sz', P', I', J', hQ, hP', hen⟩, hFr⟩, hce, hcv, hcl, steps⟩
  · obtain ⟨-, -, k3⟩ := vx_keep h0 e1 hS (fun _ _ h => h) (fun _ h => h) hL hFr
    have hv2 := pv_map_some hv
    have hX : pv_X z E d bc bs mi (pc + 3) lv (v'.toList ++ st) sz' P' I' J' := hQ
    obtain ⟨t2, a2, b2⟩ := hX p e R s m args below meth c T'.heap (locs ++ L) (cells + bc1) (slots + bs1) ls hF ⟨hR.1, hR.2.1, by omega, by omega⟩ hE (key st₀ sz' h0 hen) k3 (by rw [e1]; exact hP') hl T' rfl X'
    refine ⟨t2, go _ ?_, b2⟩
    have hst : v.toList ++ st.map (pv_cv E) = (v'.toList ++ st).map (pv_cv E) := by
      rw [hv2, List.map_append]
      cases v' <;> rfl
    show Steps p.tables e below (T'.setTop (F0 m (pc + 3) ls (v.toList ++ st.map (pv_cv E)))) t2
    rw [hst]
    exact a2
  · obtain ⟨-, -, k3⟩ := vx_keep h0 e1 hS (fun _ _ h => h) (fun _ h => h) hL hFr
    have hX : pv_Y z E d bc bs mi pc lv x sz' P' I' J' := hQ
    obtain ⟨t2, a2, b2⟩ := hX p e R s m args below meth c T'.heap (locs ++ L) (cells + bc1) (slots + bs1) ls q ce (st.map (pv_cv E)) hF ⟨hR.1, hR.2.1, by omega, by omega⟩ hE (key st₀ sz' h0 hen) k3 (by rw [e1]; exact hP') hl (by rw [e1]; exact hce) hcv hcl T' rfl X'
    exact ⟨t2, steps.trans a2, b2⟩
/-- what a call needs of the callee -/
def pv_mB (mj : pv_MI) (n : Nat) : Prop := pv_cw mj ∈ pv_W ∧ Cond.initialized mj.1.cls ∈ pv_W ∧ (mj.1.cls ≠ "java/lang/invoke/MethodHandle" ∧ mj.1.cls ≠ "java/lang/invoke/VarHandle") ∧ (parseMethodDescriptor mj.1.desc).map (fun d => d.parameters.length) = some n ∧ plainFor mj.1 = true ∧ mj.2.2.2.2 = [] ∧ mj.2.2.1 ≤ 18
def pv_mV (mj : pv_MI) (n : Nat) : Prop := pv_mB mj n ∧ Cond.instanceMethod mj.1 ∈ pv_W ∧ Cond.selects mj.1.cls mj.1 mj.1 ∈ pv_W
def pv_mS (mj : pv_MI) (n : Nat) : Prop := pv_mB mj n ∧ Cond.static mj.1 ∈ pv_W
def pv_mI (mj : pv_MI) (n : Nat) : Prop := pv_mB mj n ∧ Cond.instanceMethod mj.1 ∈ pv_W ∧ mj.1.name = "<init>" ∧ mj.2.2.2.1 = none
section PVC
variable {z : pv_Z} {E : pv_E} {d bc bs bc1 bs1 : Nat} {mi mj : pv_MI} {pc idx n : Nat} {lv : pv_LV} {st stk as : List Value} {sz : Nat} {P : pv_PT} {I : pv_IT} {J : pv_JT}
theorem pv_pre {p : Program} {e : Env} {R : Room} {s : State} {m : MethodId} {args : Array Value} {below : List Frame} {meth : Method} {c : Code} {T : State} {H : Heap} {locs : List Loc} {cells slots : Nat} (hT : T.heap = H)
    (X : Stand p E.1 e R s m args below meth c T locs cells slots) (hE : pv_EV E s s.heap) (hz : pv_SZ E sz s cells bc R.cells) (hS : va_S (pv_A (pv_b E)) s.heap H locs) (hP : va_P (pv_D E) vwCl (pv_WL E sz P I J) H) (as : List Value) :
    ∀ U : State, U.heap = H → s.WarmedH U.vm → pv_Pc E as sz P I J (as.map (pv_cv E)).toArray U := by
  subst hT
  have hH := pv_Hsz X hz hS hP
  intro U hU hW
  exact ⟨rfl, by rw [hU]; exact pv_EV.moved hW hE hS.2.1, by rw [hU]; exact hH, by rw [hU]; exact hP⟩
theorem px_callV {k t nf : Nat} (hd : decode mi.2.1 pc = .ok (.invokevirtual idx, 3)) (hm : pv_mV mj n) (hlk : Cond.methodLink mi.1.cls idx mj.1 ∈ pv_W) (hs : pv_shp k = (t, nf)) (h20 : t < 20) (hC : (vwCl[t]?).map (fun q => q.1) = some mj.1.cls) (hk : k < sz) (hn : as.length = n) (hstk : stk = as.reverse ++ .ref k :: st) (hcat : (st.map fun v => v.category).sum ≤ 8) (hln : (lg_sl (.ref k :: as)).length ≤ mj.2.2.1)
    (K : pv_X (pv_ZQ E (pv_K z E (d + 1) bc bs mi pc lv st)) E d bc1 bs1 mj 0 (lv_args 0 (.ref k :: as)) [] sz P I J) : pv_X z E (d + 1) (bc1 + bc) (bs1 + bs) mi pc lv stk sz P I J := by
  intro p e R s m args below meth c H locs cells slots ls hF hR hE hz hS hP hl T hT X
  obtain ⟨⟨c1, c2, c3, c4, c5, c6, c7⟩, c8, c9⟩ := hm
  have hg := pv_WL_get (E := E) (P := P) (I := I) (J := J) hk
  rw [pv_ent_obj hs h20] at hg
  obtain ⟨q, hq, hq1⟩ := Option.map_eq_some_iff.mp hC
  have hrecv := va_recv hE.1 hP hq hg
  rw [hq1] at hrecv
  have hW : ∀ w ∈ wsV mi.1.cls idx mj.1.cls mj.1 (pv_ws mj), w ∈ pv_W := fun w hw => by
    rcases List.mem_append.mp hw with hw | hw
    · simp only [List.mem_cons, List.not_mem_nil, or_false] at hw
      rcases hw with rfl | rfl | rfl | rfl
      · exact hlk
      · exact c8
      · exact c9
      · exact c2
    · rcases List.mem_cons.mp hw with rfl | hw
      · exact c1
      · exact hw
  refine pv_go (a := (Value.ref (pv_ad E k) :: as.map (pv_cv E)).toArray) (vx_runV (As := as.map (pv_cv E)) (b := pv_ad E k) ⟨hF.1, hF.2.1, hF.2.2.1, hF.2.2.2.2.1, hF.2.2.2.2.2.1⟩ (pv_met hF.2.2.2.2.2.2.2.2.2 c5 c6 hln K) (cwV n hF.2.2.2.2.2.1 (pv_good hW) rfl rfl rfl ⟨rfl, c3.1, c3.2, c4⟩ ⟨?_, ?_⟩) ⟨pv_blind, hrecv, pv_pre hT X hE hz hS hP (.ref k :: as)⟩ rfl (by rw [List.length_map]; exact hn) hl.1 ?_ ?_ hd ⟨?_, ?_⟩) hF hR hE hz hS hP hl T hT X
  · show d + 1 ≤ R.frames
    omega
  · show 8 + (mj.2.2.1 + 11) + 37 * d ≤ R.locals
    omega
  · show stk.map (pv_cv E) = _
    rw [hstk, List.map_append, List.map_reverse]
    rfl
  · show 2 * 0 + _ ≤ 8
    rw [List.map_map]
    have e9 : ((fun v => Value.category v) ∘ pv_cv E) = fun v => Value.category v := funext fun v => pv_cat E v
    rw [e9]
    omega
  · omega
  · omega
theorem px_callS (hd : decode mi.2.1 pc = .ok (.invokestatic idx, 3)) (hm : pv_mS mj n) (hlk : Cond.methodLink mi.1.cls idx mj.1 ∈ pv_W) (hn : as.length = n) (hstk : stk = as.reverse ++ st) (hcat : (st.map fun v => v.category).sum ≤ 8) (hln : (lg_sl as).length ≤ mj.2.2.1)
    (K : pv_X (pv_ZQ E (pv_K z E (d + 1) bc bs mi pc lv st)) E d bc1 bs1 mj 0 (lv_args 0 as) [] sz P I J) : pv_X z E (d + 1) (bc1 + bc) (bs1 + bs) mi pc lv stk sz P I J := by
  intro p e R s m args below meth c H locs cells slots ls hF hR hE hz hS hP hl T hT X
  obtain ⟨⟨c1, c2, c3, c4, c5, c6, c7⟩, c8⟩ := hm
  have hW : ∀ w ∈ va_wsS mi.1.cls idx mj.1 (pv_ws mj), w ∈ pv_W := fun w hw => by
    rcases List.mem_append.mp hw with hw | hw
    · simp only [List.mem_cons, List.not_mem_nil, or_false] at hw
      rcases hw with rfl | rfl | rfl
      · exact hlk
      · exact c8
      · exact c2
    · rcases List.mem_cons.mp hw with rfl | hw
      · exact c1
      · exact hw
  refine pv_go (a := (as.map (pv_cv E)).toArray) (vx_runS (As := as.map (pv_cv E)) ⟨hF.1, hF.2.1, hF.2.2.1, hF.2.2.2.2.1, hF.2.2.2.2.2.1⟩ (pv_met hF.2.2.2.2.2.2.2.2.2 c5 c6 hln K) (va_cwS n hF.2.2.2.2.2.1 (pv_good hW) rfl rfl rfl ⟨c3.1, c3.2, c4⟩ ⟨?_, ?_⟩) ⟨pv_blind, pv_pre hT X hE hz hS hP as⟩ rfl (by rw [List.length_map]; exact hn) hl.1 ?_ ?_ hd ⟨?_, ?_⟩) hF hR hE hz hS hP hl T hT X
  · show d + 1 ≤ R.frames
    omega
  · show 8 + (mj.2.2.1 + 11) + 37 * d ≤ R.locals
    omega
  · show stk.map (pv_cv E) = _
    rw [hstk, List.map_append, List.map_reverse]
  · show 2 * 0 + _ ≤ 8
    rw [List.map_map]
    have e9 : ((fun v => Value.category v) ∘ pv_cv E) = fun v => Value.category v := funext fun v => pv_cat E v
    rw [e9]
    omega
  · omega
  · omega
/-- a private static method of a nest mate -/
theorem px_callSN (hd : decode mi.2.1 pc = .ok (.invokestatic idx, 3)) (hm : pv_mS mj n) (hlk : (mi.1.cls, idx, mj.1) ∈ pv_nest) (hn : as.length = n) (hstk : stk = as.reverse ++ st) (hcat : (st.map fun v => v.category).sum ≤ 8) (hln : (lg_sl as).length ≤ mj.2.2.1)
    (K : pv_X (pv_ZQ E (pv_K z E (d + 1) bc bs mi pc lv st)) E d bc1 bs1 mj 0 (lv_args 0 as) [] sz P I J) : pv_X z E (d + 1) (bc1 + bc) (bs1 + bs) mi pc lv stk sz P I J := by
  intro p e R s m args below meth c H locs cells slots ls hF hR hE hz hS hP hl T hT X
  obtain ⟨⟨c1, c2, c3, c4, c5, c6, c7⟩, c8⟩ := hm
  have hW : ∀ w ∈ pv_ws mj, w ∈ pv_W := fun w hw => by
    rcases List.mem_cons.mp hw with rfl | hw
    · exact c1
    · exact hw
  refine pv_go (a := (as.map (pv_cv E)).toArray) (vx_runSN (host := RX9) (As := as.map (pv_cv E)) ⟨hF.1, hF.2.1, hF.2.2.1, hF.2.2.2.2.1, hF.2.2.2.2.2.1⟩ (pv_met hF.2.2.2.2.2.2.2.2.2 c5 c6 hln K) ⟨va_cnB n hF.2.2.2.2.2.1 (pv_good hW) rfl rfl rfl (hE.2.2.2.2.2.1 _ hlk) (hF.2.2.2.2.2.1 _ c2) ⟨c3.1, c3.2, c4⟩ ⟨?_, ?_⟩, hF.2.2.2.2.2.1 _ c8, trivial⟩ ⟨pv_blind, pv_pre hT X hE hz hS hP as⟩ rfl (by rw [List.length_map]; exact hn) hl.1 ?_ ?_ hd ⟨?_, ?_⟩) hF hR hE hz hS hP hl T hT X
  · show d + 1 ≤ R.frames
    omega
  · show 8 + (mj.2.2.1 + 11) + 37 * d ≤ R.locals
    omega
  · show stk.map (pv_cv E) = _
    rw [hstk, List.map_append, List.map_reverse]
  · show 2 * 0 + _ ≤ 8
    rw [List.map_map]
    have e9 : ((fun v => Value.category v) ∘ pv_cv E) = fun v => Value.category v := funext fun v => pv_cat E v
    rw [e9]
    omega
  · omega
  · omega
/-- a constructor -/
theorem px_callI {k : Nat} (hd : decode mi.2.1 pc = .ok (.invokespecial idx, 3)) (hm : pv_mI mj n) (hlk : Cond.methodLink mi.1.cls idx mj.1 ∈ pv_W) (hn : as.length = n) (hstk : stk = as.reverse ++ .ref k :: st) (hcat : (st.map fun v => v.category).sum ≤ 8) (hln : (lg_sl (.ref k :: as)).length ≤ mj.2.2.1)
    (K : pv_X (pv_ZQ E (pv_K z E (d + 1) bc bs mi pc lv st)) E d bc1 bs1 mj 0 (lv_args 0 (.ref k :: as)) [] sz P I J) : pv_X z E (d + 1) (bc1 + bc) (bs1 + bs) mi pc lv stk sz P I J := by
  intro p e R s m args below meth c H locs cells slots ls hF hR hE hz hS hP hl T hT X
  obtain ⟨⟨c1, c2, c3, c4, c5, c6, c7⟩, c8, c9, c10⟩ := hm
  have hW : ∀ w ∈ pv_ws mj, w ∈ pv_W := fun w hw => by
    rcases List.mem_cons.mp hw with rfl | hw
    · exact c1
    · exact hw
  refine pv_go (a := (Value.ref (pv_ad E k) :: as.map (pv_cv E)).toArray) (vx_runI (As := as.map (pv_cv E)) (b := pv_ad E k) ⟨hF.1, hF.2.1, hF.2.2.1, hF.2.2.2.2.1, hF.2.2.2.2.2.1⟩ (pv_met hF.2.2.2.2.2.2.2.2.2 c5 c6 hln K) (cwI n hF.2.2.2.2.2.1 (pv_good hW) (by unfold pv_ws pv_cw; rw [c10]) rfl rfl (hF.2.2.2.2.2.1 _ c2) (hF.2.2.2.2.2.1 _ hlk) (hF.2.2.2.2.2.1 _ c8) c9 ⟨c3.1, c3.2, c4⟩ ⟨?_, ?_⟩) ⟨pv_blind, pv_pre hT X hE hz hS hP (.ref k :: as)⟩ rfl (by rw [List.length_map]; exact hn) hl.1 ?_ ?_ hd ⟨?_, ?_⟩) hF hR hE hz hS hP hl T hT X
  · show d + 1 ≤ R.frames
    omega
  · show 8 + (mj.2.2.1 + 11) + 37 * d ≤ R.locals
    omega
  · show stk.map (pv_cv E) = _
    rw [hstk, List.map_append, List.map_reverse]
    rfl
  · show 2 * 0 + _ ≤ 8
    rw [List.map_map]
    have e9 : ((fun v => Value.category v) ∘ pv_cv E) = fun v => Value.category v := funext fun v => pv_cat E v
    rw [e9]
    omega
  · omega
  · omega
/-- a private constructor of a nest mate -/
theorem px_callIN {k : Nat} (hd : decode mi.2.1 pc = .ok (.invokespecial idx, 3)) (hm : pv_mI mj n) (hlk : (mi.1.cls, idx, mj.1) ∈ pv_nest) (hn : as.length = n) (hstk : stk = as.reverse ++ .ref k :: st) (hcat : (st.map fun v => v.category).sum ≤ 8) (hln : (lg_sl (.ref k :: as)).length ≤ mj.2.2.1)
    (K : pv_X (pv_ZQ E (pv_K z E (d + 1) bc bs mi pc lv st)) E d bc1 bs1 mj 0 (lv_args 0 (.ref k :: as)) [] sz P I J) : pv_X z E (d + 1) (bc1 + bc) (bs1 + bs) mi pc lv stk sz P I J := by
  intro p e R s m args below meth c H locs cells slots ls hF hR hE hz hS hP hl T hT X
  obtain ⟨⟨c1, c2, c3, c4, c5, c6, c7⟩, c8, c9, c10⟩ := hm
  have hW : ∀ w ∈ pv_ws mj, w ∈ pv_W := fun w hw => by
    rcases List.mem_cons.mp hw with rfl | hw
    · exact c1
    · exact hw
  refine pv_go (a := (Value.ref (pv_ad E k) :: as.map (pv_cv E)).toArray) (vx_runIN (host := RX9) (As := as.map (pv_cv E)) (b := pv_ad E k) ⟨hF.1, hF.2.1, hF.2.2.1, hF.2.2.2.2.1, hF.2.2.2.2.2.1⟩ (pv_met hF.2.2.2.2.2.2.2.2.2 c5 c6 hln K) ⟨va_cnB n hF.2.2.2.2.2.1 (pv_good hW) (by unfold pv_ws pv_cw; rw [c10]) rfl rfl (hE.2.2.2.2.2.1 _ hlk) (hF.2.2.2.2.2.1 _ c2) ⟨c3.1, c3.2, c4⟩ ⟨?_, ?_⟩, c9, hF.2.2.2.2.2.1 _ c8⟩ ⟨pv_blind, pv_pre hT X hE hz hS hP (.ref k :: as)⟩ rfl (by rw [List.length_map]; exact hn) hl.1 ?_ ?_ hd ⟨?_, ?_⟩) hF hR hE hz hS hP hl T hT X
  · show d + 1 ≤ R.frames
    omega
  · show 8 + (mj.2.2.1 + 11) + 37 * d ≤ R.locals
    omega
  · show stk.map (pv_cv E) = _
    rw [hstk, List.map_append, List.map_reverse]
    rfl
  · show 2 * 0 + _ ≤ 8
    rw [List.map_map]
    have e9 : ((fun v => Value.category v) ∘ pv_cv E) = fun v => Value.category v := funext fun v => pv_cat E v
    rw [e9]
    omega
  · omega
  · omega
theorem px_objInit {k : Nat} (hd : decode mi.2.1 pc = .ok (.invokespecial idx, 3)) (h1 : Cond.methodLink mi.1.cls idx objectInit ∈ pv_W) (h2 : Cond.instanceMethod objectInit ∈ pv_W) (h3 : Cond.code objectInit ⟨#[0xb1]⟩ 1 none ∈ pv_W) (hd0 : 1 ≤ d)
    (K : pv_X z E d bc bs mi (pc + 3) lv [] sz P I J) : pv_X z E d bc bs mi pc lv [.ref k] sz P I J := by
  intro p e R s m args below meth c H locs cells slots ls hF hR hE hz hS hP hl
  exact W.objInit hF.1 hF.2.1 hF.2.2.2.2.1 (hF.2.2.2.2.2.1 _ h1) (hF.2.2.2.2.2.1 _ h2) (hF.2.2.2.2.2.1 _ h3) rfl (hl.1.trans hF.2.2.1.symm) rfl hd (by omega) (by show 2 * 0 + 0 + 12 ≤ R.locals; omega) (K p e R s m args below meth c H locs cells slots ls hF hR hE hz hS hP hl)
end PVC
