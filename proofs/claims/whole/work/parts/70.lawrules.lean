/-! The law: its script, its end. -/
def lw_L (E : pv_E) (L : Nat) (xs : Nat → Int32) (args : Array Value) (s : State) (rc rs : Nat) : Prop := args = #[Value.ref E.2.2.1] ∧ rc = 601024 ∧ rs = 7293034 ∧ va_X E.2.2.1 L xs s s.heap ∧ E.2.2.1 < s.heap.size ∧ s.heap.size = E.2.1
def zL (E : pv_E) (L : Nat) (xs : Nat → Int32) : pv_Z := fun below args s rc rs t => lw_L E L xs args s rc rs → lw_Z below args s t
def mL_law (nm : String) (hh : List (Nat × Nat × Nat × Nat)) : pv_MI := (⟨RL, nm, ""⟩, cL_law, 9, ret, hh)
theorem lw_retR {p : Program} {l : Launch} {e : Env} {R : Room} {s : State} {m : MethodId} {below : List Frame} {meth : Method} {c : Code} {b : Nat} (hx : p.tables.exec = Jvm.exec) (hb : c.code = code) (hr : meth.sig.returnType = ret) (hlocks : meth.locks = false) {pc : Nat} {H : Heap} {ls : Array Slot} (hdg : decode code pc = .ok (.ireturn, 1)) : W p l e R s m #[Value.ref b] below meth c H [] 601024 7293034 (lw_Z below #[Value.ref b] s) (F0 m pc ls [.int 1]) := by
  intro T hT X
  obtain ⟨fs, hret, hrun, hended, hW, hframe⟩ := X.leave (v := some (.int 1)) (hlocks := hlocks) (fun h => by rw [hr] at h; cases h)
  have hmeth' : T.vm.method? m = some meth := X.method'
  refine ⟨T.setFrames fs, ?_, .returned (some (.int 1)), hrun, hended, rfl, lw_closed (d0 := s.drawn) (Drawn.sameBut.refl s.drawn lw_cs) ⟨_, rfl⟩ hW hframe⟩
  jvm_step X.here [X.here.top, hx, hb, hdg, hmeth', hr, ret, narrow_b1]
  (try refine ⟨rfl, ?_⟩); (try refine ⟨rfl, ?_⟩)
  first | (intro acts; rw [hret _ acts rfl rfl rfl]) | rw [hret _ _ rfl rfl rfl]
  exact Steps.refl _
section PVL
variable {E : pv_E} {L : Nat} {xs : Nat → Int32} {d bc bs : Nat} {mi : pv_MI} {pc : Nat} {lv : pv_LV} {st : List Value} {sz : Nat} {P : pv_PT} {I : pv_IT} {J : pv_JT}
theorem px_slen {x : Nat} (hd : decode mi.2.1 pc = .ok (.arraylength, 1)) (k : pv_X (zL E L xs) E d bc bs mi (pc + 1) lv (.int (nI L) :: st) sz P I J) : pv_X (zL E L xs) E d bc bs mi pc lv (.retAddr x :: st) sz P I J := by
  intro p e R s m args below meth c H locs cells slots ls hF hR hE hz hS hP hl
  by_cases hA : lw_L E L xs args s R.cells R.slots
  · obtain ⟨h1, h2, h3, h4, h5, h6⟩ := hA
    exact va_slen hF.1 hF.2.1 h4 h5 (Nat.not_le.mpr (show E.2.2.1 < E.2.1 by omega)) hS hd (k p e R s m args below meth c H locs cells slots ls hF hR hE hz hS hP hl)
  · intro T hT X
    exact ⟨_, Steps.refl _, fun h => absurd h hA⟩
theorem px_sld {x j : Nat} (hd : decode mi.2.1 pc = .ok (.iaload, 1)) (hj : j < L) (hL : L ≤ 2048) (k : pv_X (zL E L xs) E d bc bs mi (pc + 1) lv (.int (xs j) :: st) sz P I J) : pv_X (zL E L xs) E d bc bs mi pc lv (.int (nI j) :: .retAddr x :: st) sz P I J := by
  intro p e R s m args below meth c H locs cells slots ls hF hR hE hz hS hP hl
  by_cases hA : lw_L E L xs args s R.cells R.slots
  · obtain ⟨h1, h2, h3, h4, h5, h6⟩ := hA
    have hc : (nI j).toNatClampNeg = j := nI_clamp (by omega)
    refine va_sld hF.1 hF.2.1 h4 h5 (Nat.not_le.mpr (show E.2.2.1 < E.2.1 by omega)) hS ?_ hd ?_
    · intro h
      rcases h with h | h
      · exact absurd h (nI_pos (by omega))
      · rw [hc] at h; omega
    · rw [hc]
      exact k p e R s m args below meth c H locs cells slots ls hF hR hE hz hS hP hl
  · intro T hT X
    exact ⟨_, Steps.refl _, fun h => absurd h hA⟩
theorem px_lend {nm : String} {hh : List (Nat × Nat × Nat × Nat)} (hd : decode code pc = .ok (.ireturn, 1)) : pv_X (zL E L xs) E d bc bs (mL_law nm hh) pc lv [.int 1] sz P I J := by
  intro p e R s m args below meth c H locs cells slots ls hF hR hE hz hS hP hl
  by_cases hA : lw_L E L xs args s R.cells R.slots
  · obtain ⟨h1, h2, h3, h4, h5, h6⟩ := hA
    subst h1
    have hlocs : ∀ q ∈ locs, s.heap.size ≤ q.base := fun q hq => by
      have h9 : E.2.1 ≤ q.base := hS.2.2 q hq
      omega
    have key : W p E.1 e R s m #[Value.ref E.2.2.1] below meth c H locs cells slots (lw_Z below #[Value.ref E.2.2.1] s) (F0 m pc ls [.int 1]) :=
      W.widen (k := 601024) (n := 7293034) (by omega) (by omega) (va_forget hlocs (lw_retR hF.1 hF.2.1 hF.2.2.2.1 hF.2.2.2.2.2.2.1 hd))
    intro T hT X
    obtain ⟨t, a1, b1⟩ := key T hT X
    exact ⟨t, a1, fun _ => b1⟩
  · intro T hT X
    exact ⟨_, Steps.refl _, fun h => absurd h hA⟩
end PVL
theorem MA_far {I I' : pv_IT} {X : pv_XS} (h : MA I X) (hF : ∀ k, 365 ≤ k → I' k = I k) : MA I' X :=
  ⟨by rw [hF 366 (by omega)]; exact h.1, MSV_of h.2.1 (congrFun (hF 365 (by omega)) 3) (hF 368 (by omega)), MB_of h.2.2 (congrFun (hF 365 (by omega)) 5) (hF 369 (by omega))⟩
theorem CA_far {I I' : pv_IT} {X : pv_XS} (h : CA I X) (hF : ∀ k, k < 365 → I' k = I k) : CA I' X :=
  ⟨CR_of h.1 fun k h1 h2 => hF k (by omega), HR_of h.2.1 fun k h1 h2 => hF k (by omega), TXc_of h.2.2 (congrFun (hF 355 (by omega)) 0) (hF 357 (by omega))⟩
theorem lw_mask (x : Int32) : ∃ k : Nat, k < 32 ∧ x &&& nI 31 = nI k := by
  refine ⟨(x &&& nI 31).toBitVec.toNat, ?_, ?_⟩
  · rw [Int32.toBitVec_and]
    rw [BitVec.toNat_and]
    exact Nat.lt_of_le_of_lt Nat.and_le_right (by decide)
  · apply Int32.toBitVec_inj.mp
    show _ = (Int32.ofNat _).toBitVec
    rw [Int32.toBitVec_ofNat']
    simp
theorem lw_more {L i : Nat} (hL : L ≤ 2048) (hi : i ≤ 4000) : (nI L - nI 4 < nI i) ↔ L < i + 4 := by
  rw [Int32.lt_iff_toInt_lt, pk_sub_toInt (by omega) (by decide), nI_toInt (by omega)]
  omega
