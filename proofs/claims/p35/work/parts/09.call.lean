/-! The abstract walk: ends, calls, throws. -/
def pv_EN (E : pv_E) (st : State) (mc sz : Nat) : Prop := sz = pv_K0 ∨ (sz < pv_K0 ∧ st.heap.size + mc = E.2.1 + sz)
abbrev pv_Q : Type := pv_Res → Nat → pv_PT → pv_IT → pv_JT → Prop
def pv_QC (E : pv_E) (mc : Nat) (Q : pv_Q) : Array Value → State → Outcome → State → Prop := fun _ st o t =>
  (∃ (v : Option Value) (sz : Nat) (P : pv_PT) (I : pv_IT) (J : pv_JT), o = .returned (v.map (pv_cv E)) ∧ Q (.inl v) sz P I J ∧ va_P (pv_D E) vwCl (pv_WL E sz P I J) t.heap ∧ pv_EN E st mc sz) ∧ va_F (pv_A (pv_b E)) st t
def pv_XC (E : pv_E) (mc : Nat) (Q : pv_Q) : String → State → State → Prop := fun X st t =>
  (∃ (sz : Nat) (P : pv_PT) (I : pv_IT) (J : pv_JT), Q (.inr X) sz P I J ∧ va_P (pv_D E) vwCl (pv_WL E sz P I J) t.heap ∧ pv_EN E st mc sz) ∧ va_F (pv_A (pv_b E)) st t
def pv_ZQ (E : pv_E) (Q : pv_Q) : pv_Z := fun below args s mc ms => vx_MQ below (pv_QC E mc Q) (pv_XC E mc Q) args s mc ms (pv_A (pv_b E))
/-- as pv_X, with an exception of the class X thrown over the frame -/
def pv_Y (z : pv_Z) (E : pv_E) (d bc bs : Nat) (mi : pv_MI) (pc : Nat) (lv : pv_LV) (X : String) (sz : Nat) (P : pv_PT) (I : pv_IT) (J : pv_JT) : Prop :=
  ∀ (p : Program) (e : Env) (R : Room) (s : State) (m : MethodId) (args : Array Value) (below : List Frame) (meth : Method) (c : Code) (H : Heap) (locs : List Loc) (cells slots : Nat) (ls : Array Slot) (q : Addr) (ce : Cell) (rest : List Value),
    pv_FX E mi p s m args meth c → d ≤ R.frames ∧ 37 * d ≤ R.locals ∧ cells + bc ≤ R.cells ∧ slots + bs ≤ R.slots → pv_EV E s s.heap → pv_SZ E sz s cells bc R.cells → va_S (pv_A (pv_b E)) s.heap H locs → va_P (pv_D E) vwCl (pv_WL E sz P I J) H → pv_lv E ls mi.2.2.1 lv →
    H[q]? = some ce → ce.vm = .none → s.vm.findClass X = some ce.cls →
    vx_W p E.1 e R s m args below meth c H locs cells slots (z below args s R.cells R.slots) (F0 m pc ls rest) q
/-- behind a call -/
def pv_K (z : pv_Z) (E : pv_E) (d bc bs : Nat) (mi : pv_MI) (pc : Nat) (lv : pv_LV) (st : List Value) : pv_Q := fun r sz P I J =>
  match r with
  | .inl v => pv_X z E d bc bs mi (pc + 3) lv (v.toList ++ st) sz P I J
  | .inr X => pv_Y z E d bc bs mi pc lv X sz P I J
theorem pv_EN_of {E : pv_E} {s : State} {sz cells bc RC : Nat} (h : pv_SZ E sz s cells bc RC) (h0 : sz = pv_K0 ∨ bc = 0) : pv_EN E s RC sz := by
  obtain ⟨-, h1⟩ := h
  rcases h1 with h1 | ⟨h1, h2, h3⟩
  · exact Or.inl h1
  · rcases h0 with h0 | h0
    · exact Or.inl h0
    · exact Or.inr ⟨h1, by omega⟩
section PVE
variable {E : pv_E} {Q : pv_Q} {d bc bs : Nat} {mi : pv_MI} {pc : Nat} {lv : pv_LV} {st : List Value} {sz : Nat} {P : pv_PT} {I : pv_IT} {J : pv_JT}
theorem pv_QC_of {v : Option Value} {args : Array Value} {s t : State} {H : Heap} {locs : List Loc} {cells RC : Nat} (hQ : Q (.inl v) sz P I J) (hz : pv_SZ E sz s cells bc RC) (h0 : sz = pv_K0 ∨ bc = 0) (hP : va_P (pv_D E) vwCl (pv_WL E sz P I J) H) (hS : va_S (pv_A (pv_b E)) s.heap H locs) (ht : t.heap = H) : pv_QC E RC Q args s (.returned (v.map (pv_cv E))) t :=
  ⟨⟨v, sz, P, I, J, rfl, hQ, by rw [ht]; exact hP, pv_EN_of hz h0⟩, hS.F ht⟩
theorem px_iret {x : Int32} (hd : decode mi.2.1 pc = .ok (.ireturn, 1)) (hr : mi.2.2.2.1 = some .int) (h0 : sz = pv_K0 ∨ bc = 0) (hQ : Q (.inl (some (.int x))) sz P I J) : pv_X (pv_ZQ E Q) E d bc bs mi pc lv [.int x] sz P I J := by
  intro p e R s m args below meth c H locs cells slots ls hF hR hE hz hS hP hl
  refine vx_ret (W.widen (k := R.cells) (n := R.slots) (by omega) (by omega) (W.iret (v := x) hF.1 hF.2.1 (hF.2.2.2.1.trans hr) (fun t ht _ => pv_QC_of (v := some (.int x)) hQ hz h0 hP hS ht) hS.2.2 hd hF.2.2.2.2.2.2.1))
theorem px_zret {x : Int32} {ty : FieldType} (hd : decode mi.2.1 pc = .ok (.ireturn, 1)) (hr : mi.2.2.2.1 = some ty) (hn : narrow ty (.int x) = .int x) (h0 : sz = pv_K0 ∨ bc = 0) (hQ : Q (.inl (some (.int x))) sz P I J) : pv_X (pv_ZQ E Q) E d bc bs mi pc lv [.int x] sz P I J := by
  intro p e R s m args below meth c H locs cells slots ls hF hR hE hz hS hP hl
  exact vx_ret (W.widen (k := R.cells) (n := R.slots) (by omega) (by omega) (W.zret (v := x) hF.1 hF.2.1 (hF.2.2.2.1.trans hr) hn (fun t ht _ => pv_QC_of (v := some (.int x)) hQ hz h0 hP hS ht) hS.2.2 hd hF.2.2.2.2.2.2.1))
theorem px_lret {x : Int64} (hd : decode mi.2.1 pc = .ok (.lreturn, 1)) (hr : mi.2.2.2.1 = some .long) (h0 : sz = pv_K0 ∨ bc = 0) (hQ : Q (.inl (some (.long x))) sz P I J) : pv_X (pv_ZQ E Q) E d bc bs mi pc lv [.long x] sz P I J := by
  intro p e R s m args below meth c H locs cells slots ls hF hR hE hz hS hP hl
  exact vx_ret (W.widen (k := R.cells) (n := R.slots) (by omega) (by omega) (W.lret (v := x) hF.1 hF.2.1 (hF.2.2.2.1.trans hr) (fun t ht _ => pv_QC_of (v := some (.long x)) hQ hz h0 hP hS ht) hS.2.2 hd hF.2.2.2.2.2.2.1))
theorem px_dret {x : UInt64} (hd : decode mi.2.1 pc = .ok (.dreturn, 1)) (hr : mi.2.2.2.1 = some .double) (h0 : sz = pv_K0 ∨ bc = 0) (hQ : Q (.inl (some (.double x))) sz P I J) : pv_X (pv_ZQ E Q) E d bc bs mi pc lv [.double x] sz P I J := by
  intro p e R s m args below meth c H locs cells slots ls hF hR hE hz hS hP hl
  exact vx_ret (W.widen (k := R.cells) (n := R.slots) (by omega) (by omega) (W.dret (v := x) hF.1 hF.2.1 (hF.2.2.2.1.trans hr) (fun t ht _ => pv_QC_of (v := some (.double x)) hQ hz h0 hP hS ht) hS.2.2 hd hF.2.2.2.2.2.2.1))
theorem px_vret (hd : decode mi.2.1 pc = .ok (.return_, 1)) (hr : mi.2.2.2.1 = none) (h0 : sz = pv_K0 ∨ bc = 0) (hQ : Q (.inl none) sz P I J) : pv_X (pv_ZQ E Q) E d bc bs mi pc lv [] sz P I J := by
  intro p e R s m args below meth c H locs cells slots ls hF hR hE hz hS hP hl
  exact vx_ret (W.widen (k := R.cells) (n := R.slots) (by omega) (by omega) (W.vret hF.1 hF.2.1 (hF.2.2.2.1.trans hr) (fun t ht _ => pv_QC_of (v := none) hQ hz h0 hP hS ht) hS.2.2 hd hF.2.2.2.2.2.2.1))
theorem px_aret {a : Nat} {C : String} (hd : decode mi.2.1 pc = .ok (.areturn, 1)) (hr : mi.2.2.2.1 = some (.object C)) (h0 : sz = pv_K0 ∨ bc = 0) (hQ : Q (.inl (some (.ref a))) sz P I J) : pv_X (pv_ZQ E Q) E d bc bs mi pc lv [.ref a] sz P I J := by
  intro p e R s m args below meth c H locs cells slots ls hF hR hE hz hS hP hl
  exact vx_ret (W.widen (k := R.cells) (n := R.slots) (by omega) (by omega) (W.aret (v := .ref (pv_ad E a)) hF.1 hF.2.1 (hF.2.2.2.1.trans hr) (Or.inl ⟨C, rfl⟩) (Or.inr ⟨_, rfl⟩) (fun t ht _ => pv_QC_of (v := some (.ref a)) hQ hz h0 hP hS ht) hS.2.2 hd hF.2.2.2.2.2.2.1))
/-- an exception that the method doesn't catch -/
theorem py_out {X : String} (hh : mi.2.2.2.2 = []) (h0 : sz = pv_K0 ∨ bc = 0) (hQ : Q (.inr X) sz P I J) : pv_Y (pv_ZQ E Q) E d bc bs mi pc lv X sz P I J := by
  intro p e R s m args below meth c H locs cells slots ls q ce rest hF hR hE hz hS hP hl hce hcv hcl
  refine vx_out (fun x hx => ?_) hF.2.2.2.2.2.2.1 hce hcv hcl (fun t ht _ => ⟨⟨sz, P, I, J, hQ, by rw [ht]; exact hP, pv_EN_of hz h0⟩, hS.F ht⟩) hS.2.2 (by omega) (by omega)
  rw [hF.2.2.2.2.2.2.2.1, hh] at hx
  cases hx
/-- throw new X("text") -/
def pv_thr (own : String) (ik is ic : Nat) (X text : String) : Prop := own = RX9 ∧ (is, text) ∈ pv_strs ∧ X ∈ pv_xs ∧ Bundle.fit X = true ∧ Cond.classLink own ik X ∈ pv_W ∧ Cond.initialized X ∈ pv_W ∧ (∀ w ∈ vx_atS own ic X ["java/lang/RuntimeException", "java/lang/Exception"], w ∈ pv_W ∨ w = .castable X X ∨ ∃ y ∈ pv_decl, w = .declares y)
theorem pv_thr_words {own X text : String} {ik is ic : Nat} (h : pv_thr own ik is ic X text) {args : Array Value} {s : State} (hw : ∀ w ∈ pv_W, w.before args s = true) (hc : ∀ q ∈ pv_xs, va_Nw (.castable q q) s ∧ ∀ y ∈ pv_decl, va_Nw (.declares y) s) :
    (∀ w ∈ vx_atS own ic X ["java/lang/RuntimeException", "java/lang/Exception"], w.before args s = true) ∧ (∀ w ∈ Cond.classLink own ik X :: Cond.initialized X :: vx_atS own ic X ["java/lang/RuntimeException", "java/lang/Exception"], vx_ot w = true) := by
  obtain ⟨-, -, hX, -, h1, h2, h3⟩ := h
  have hg : ∀ w ∈ pv_W, vx_ot w = true := fun w h => by
    unfold vx_ot
    rw [(List.mem_filter.mp h).2, Bool.or_true]
  refine ⟨fun w h => ?_, fun w h => ?_⟩
  · rcases h3 w h with h | rfl | ⟨y, hy, rfl⟩
    · exact hw w h
    · exact va_Nw.use rfl (hc X hX).1
    · exact va_Nw.use rfl ((hc X hX).2 y hy)
  · rcases List.mem_cons.mp h with rfl | h
    · exact hg _ h1
    · rcases List.mem_cons.mp h with rfl | h
      · exact hg _ h2
      · rcases h3 w h with h | rfl | ⟨y, -, rfl⟩
        · exact hg w h
        · rfl
        · rfl
theorem px_throw {ik is ic : Nat} {X text : String} (ht : pv_thr mi.1.cls ik is ic X text) (d0 : decode mi.2.1 pc = .ok (.new ik, 3)) (d3 : decode mi.2.1 (pc + 3) = .ok (.dup, 1)) (d4 : decode mi.2.1 (pc + 4) = .ok (.ldc is, 2)) (d6 : decode mi.2.1 (pc + 6) = .ok (.invokespecial ic, 3)) (d9 : decode mi.2.1 (pc + 9) = .ok (.athrow, 1))
    (hh : mi.2.2.2.2 = []) (hd : 6 ≤ d) (hbc : 1 ≤ bc) (hbs : 6 ≤ bs) (h0 : sz = pv_K0) (hQ : Q (.inr X) sz P I J) : pv_X (pv_ZQ E Q) E d bc bs mi pc lv [] sz P I J := by
  intro p e R s m args below meth c H locs cells slots ls hF hR hE hz hS hP hl
  obtain ⟨hw, hg⟩ := pv_thr_words ht hF.2.2.2.2.2.1 hE.2.2.2.2.2.2.1
  obtain ⟨rfl9, hst, hX, hfit, hcl, hini, -⟩ := ht
  obtain ⟨sa, hsa⟩ := hE.2.2.2.2.1 _ hst
  refine vx_throwS (is := is) (text := text) hF.1 hF.2.1 hF.2.2.2.2.2.2.2.2.2 hF.2.2.2.2.1 hfit (fun n hn => ?_) (hF.2.2.2.2.2.1 _ hcl) (hF.2.2.2.2.2.1 _ hini) (rfl9 ▸ hsa) hw hg hE.2.1 hE.2.2.1 hS (hl.1.trans hF.2.2.1.symm) d0 d3 d4 d6 d9 (fun x hx => ?_) (by show 2 + 3 < R.frames; omega) (by show 0 + (13 * (2 + 1) + 43) ≤ R.locals; omega) (by omega) (by omega) hF.2.2.2.2.2.2.1 (fun t hal hsz hk => ?_) hS.2.2 (by omega) (by omega)
  · rcases List.mem_cons.mp hn with rfl | hn
    · decide +kernel
    · rcases List.mem_cons.mp hn with rfl | hn
      · decide +kernel
      · cases hn
  · rw [hF.2.2.2.2.2.2.2.1, hh] at hx
    cases hx
  · refine ⟨⟨sz, P, I, J, hQ, hP.kept (fun k q hq => hk _ ((hP k q hq).lt)), Or.inl h0⟩, ?_⟩
    exact ⟨Nat.le_trans hS.1 hsz, fun q h1 h2 => by rw [hk q (Nat.lt_of_lt_of_le h1 hS.1)]; exact hS.2.1 q h1 h2⟩
theorem px_throwW {ik is ic : Nat} {X text : String} (ht : pv_thr mi.1.cls ik is ic X text) (d0 : decode mi.2.1 pc = .ok (.new ik, 3)) (d3 : decode mi.2.1 (pc + 3) = .ok (.dup, 1)) (d4 : decode mi.2.1 (pc + 4) = .ok (.ldc_w is, 3)) (d7 : decode mi.2.1 (pc + 7) = .ok (.invokespecial ic, 3)) (d10 : decode mi.2.1 (pc + 10) = .ok (.athrow, 1))
    (hh : mi.2.2.2.2 = []) (hd : 6 ≤ d) (hbc : 1 ≤ bc) (hbs : 6 ≤ bs) (h0 : sz = pv_K0) (hQ : Q (.inr X) sz P I J) : pv_X (pv_ZQ E Q) E d bc bs mi pc lv [] sz P I J := by
  intro p e R s m args below meth c H locs cells slots ls hF hR hE hz hS hP hl
  obtain ⟨hw, hg⟩ := pv_thr_words ht hF.2.2.2.2.2.1 hE.2.2.2.2.2.2.1
  obtain ⟨rfl9, hst, hX, hfit, hcl, hini, -⟩ := ht
  obtain ⟨sa, hsa⟩ := hE.2.2.2.2.1 _ hst
  refine vx_throwSW (is := is) (text := text) hF.1 hF.2.1 hF.2.2.2.2.2.2.2.2.2 hF.2.2.2.2.1 hfit (fun n hn => ?_) (hF.2.2.2.2.2.1 _ hcl) (hF.2.2.2.2.2.1 _ hini) (rfl9 ▸ hsa) hw hg hE.2.1 hE.2.2.1 hS (hl.1.trans hF.2.2.1.symm) d0 d3 d4 d7 d10 (fun x hx => ?_) (by show 2 + 3 < R.frames; omega) (by show 0 + (13 * (2 + 1) + 43) ≤ R.locals; omega) (by omega) (by omega) hF.2.2.2.2.2.2.1 (fun t hal hsz hk => ?_) hS.2.2 (by omega) (by omega)
  · rcases List.mem_cons.mp hn with rfl | hn
    · decide +kernel
    · rcases List.mem_cons.mp hn with rfl | hn
      · decide +kernel
      · cases hn
  · rw [hF.2.2.2.2.2.2.2.1, hh] at hx
    cases hx
  · refine ⟨⟨sz, P, I, J, hQ, hP.kept (fun k q hq => hk _ ((hP k q hq).lt)), Or.inl h0⟩, ?_⟩
    exact ⟨Nat.le_trans hS.1 hsz, fun q h1 h2 => by rw [hk q (Nat.lt_of_lt_of_le h1 hS.1)]; exact hS.2.1 q h1 h2⟩
end PVE
-- contracts
def pv_cw (mi : pv_MI) : Cond := .code mi.1 mi.2.1 mi.2.2.1 mi.2.2.2.1
def pv_ws (mi : pv_MI) : List Cond := pv_cw mi :: pv_W
def pv_rm (d bc bs : Nat) : Room := { frames := d, cells := bc, slots := bs, locals := 37 * d }
def pv_Pc (E : pv_E) (as : List Value) (sz : Nat) (P : pv_PT) (I : pv_IT) (J : pv_JT) : Array Value → State → Prop := fun a U =>
  a = (as.map (pv_cv E)).toArray ∧ pv_EV E U U.heap ∧ (E.2.1 ≤ U.heap.size ∧ (sz = pv_K0 ∨ (sz < pv_K0 ∧ U.heap.size = E.2.1 + sz))) ∧ va_P (pv_D E) vwCl (pv_WL E sz P I J) U.heap
theorem pv_blind {E : pv_E} {as : List Value} {sz : Nat} {P : pv_PT} {I : pv_IT} {J : pv_JT} : FrameBlind (pv_Pc E as sz P I J) := fun a U g mk h => by
  obtain ⟨h1, h2, h3, h4⟩ := h
  exact ⟨h1, pv_EV.moved (State.WarmedH.refl U) h2 (fun _ _ _ => rfl), h3, h4⟩
theorem pv_args_map (E : pv_E) : ∀ (as : List Value) (i : Nat), (lv_args i as).map (fun q => (q.1, pv_cv E q.2)) = lv_args i (as.map (pv_cv E))
  | [], i => rfl
  | a :: t, i => by
    show (i, pv_cv E a) :: (lv_args (if a.category = 2 then i + 2 else i + 1) t).map (fun q => (q.1, pv_cv E q.2)) = (i, pv_cv E a) :: lv_args (if (pv_cv E a).category = 2 then i + 2 else i + 1) (t.map (pv_cv E))
    rw [pv_args_map E t, pv_cat]
theorem pv_sl_len (E : pv_E) : ∀ as : List Value, (lg_sl (as.map (pv_cv E))).length = (lg_sl as).length
  | [] => rfl
  | a :: t => by
    have h := pv_sl_len E t
    unfold lg_sl at h ⊢
    rw [List.map_cons, List.flatMap_cons, List.flatMap_cons, List.length_append, List.length_append, h, pv_cat]
    split <;> rfl
/-- vx_ofW, for a member that the machine has no entry for -/
theorem pv_ofW {l : Launch} {y : MethodName} {ws ws' : List Cond} {rm : Room} {Pc : Array Value → State → Prop} {Qc : Array Value → State → Outcome → State → Prop} {XC : String → State → State → Prop} {mc ms : Nat} {free : Addr → Prop} {cc : ByteArray} {maxL : Nat} {ret : Option FieldType}
    (hy : plainFor y = true) (hw : ws = Cond.code y cc maxL ret :: ws')
    (body : ∀ p e s m args below meth c s₁, BodyLoose p l y (headSpec ws rm) cc maxL ret e s m args below meth c s₁ → c.maxLocals = maxL → (∀ x ∈ c.exceptionTable.toList, False) → Pc args s →
      W p l e (headSpec ws rm).room s m args below meth c s.heap [] 0 0 (vx_MQ below Qc XC args s mc ms free) (entryFrame m args maxL)) : vx_Met l y ws rm Pc Qc XC mc ms free := by
  refine MetFree.of_bodySF (code := cc) (maxLocals := maxL) (ret := ret) hy ?_ ?_
  · intro args s m h hn
    obtain ⟨meth, c, h1, h2, h3, h4, h5, h6, -, -⟩ := Cond.code_spec hn (atoms_spec (ws := ws) h _ (by rw [hw]; exact List.mem_cons_self))
    exact ⟨meth, c, h1, h2, h3, h4, h5, h6⟩
  · intro p e s m args below meth c s₁ B hml hP _
    have hh0 : s₁.heap = s.heap := by rw [B.state]; rfl
    have ht : ∀ x ∈ c.exceptionTable.toList, False := by
      obtain ⟨meth9, c9, h1, h2, -, -, -, -, h7, -⟩ := Cond.code_spec B.named (atoms_spec (ws := ws) B.pre _ (by rw [hw]; exact List.mem_cons_self))
      cases Option.some.inj (h1.symm.trans B.method)
      cases Option.some.inj (h2.symm.trans (Stand.of_body B).code)
      intro x hx
      rw [Array.isEmpty_iff.mp h7] at hx
      cases hx
    obtain ⟨t, a1, o, b1, b2, b3⟩ := body p e s m args below meth c s₁ B hml ht hP s₁ hh0 (Stand.of_body B)
    exact ⟨t, o, a1, b1, b2, b3⟩
theorem pv_met {E : pv_E} {Q : pv_Q} {d bc bs : Nat} {mi : pv_MI} {as : List Value} {sz : Nat} {P : pv_PT} {I : pv_IT} {J : pv_JT} (hst : E.1.stackTraces = false) (hy : plainFor mi.1 = true) (hh : mi.2.2.2.2 = []) (hln : (lg_sl as).length ≤ mi.2.2.1)
    (k : pv_X (pv_ZQ E Q) E d bc bs mi 0 (lv_args 0 as) [] sz P I J) : vx_Met E.1 mi.1 (pv_ws mi) (pv_rm d bc bs) (pv_Pc E as sz P I J) (pv_QC E bc Q) (pv_XC E bc Q) bc bs (pv_A (pv_b E)) := by
  refine pv_ofW (cc := mi.2.1) (maxL := mi.2.2.1) (ret := mi.2.2.2.1) hy rfl ?_
  intro p e s m args below meth c s₁ B hml hex hPc
  obtain ⟨rfl, hE, hz, hP⟩ := hPc
  have hts : ∀ w ∈ pv_ws mi, w.before (as.map (pv_cv E)).toArray s = true := atoms_spec B.pre
  have hn : meth.name = mi.1.name := (name_of_methodNamed B.named B.method).1
  have hex2 : c.exceptionTable.toList = [] := List.eq_nil_iff_forall_not_mem.mpr hex
  have hl := lv_entry (as.map (pv_cv E)) (n := mi.2.2.1) (by rw [pv_sl_len]; exact hln)
  rw [lg_entry_eq]
  generalize (lg_sl (as.map (pv_cv E)) ++ List.replicate (mi.2.2.1 - (lg_sl (as.map (pv_cv E))).length) Slot.unset).toArray = ls at hl ⊢
  rw [← pv_args_map] at hl
  exact k p e (pv_rm d bc bs) s m (as.map (pv_cv E)).toArray below meth c s.heap [] 0 0 ls
    ⟨B.exec, B.bytes, hml, B.returns, findClass_of_methodNamed B.named, fun w hw => hts w (List.mem_cons_of_mem _ hw), B.notSynchronized, by rw [hex2, hh]; rfl, hn, hst⟩
    ⟨Nat.le_refl _, Nat.le_refl _, by show 0 + bc ≤ bc; omega, by show 0 + bs ≤ bs; omega⟩ hE ⟨hz.1, hz.2.imp id fun h => ⟨h.1, by omega, by show 0 + bc = bc; omega⟩⟩ va_S.rf hP hl
