/-! The abstract walk: methods that make the row of days anew; the script, read anywhere. -/
def pv_QCD (E : pv_E) (mc : Nat) (Q : pv_Q) : Array Value → State → Outcome → State → Prop := fun a st o t => ∃ off : Nat, pv_QC (pv_of E off) mc Q a st o t
def pv_XCD (E : pv_E) (mc : Nat) (Q : pv_Q) : String → State → State → Prop := fun X st t => ∃ off : Nat, pv_XC (pv_of E off) mc Q X st t
def pv_ZD (E : pv_E) (Q : pv_Q) : pv_Z := fun below args s mc ms => vx_MQ below (pv_QCD E mc Q) (pv_XCD E mc Q) args s mc ms (pv_A (pv_b E))
def pv_KD (z : pv_Z) (E : pv_E) (d bc bs : Nat) (mi : pv_MI) (pc : Nat) (lv : pv_LV) (st : List Value) : pv_Q := fun r sz P I J =>
  match r with
  | .inl v => ∀ off : Nat, pv_X z (pv_of E off) d bc bs mi (pc + 3) lv (v.toList ++ st) sz P I J
  | .inr _ => False
section PVDD
variable {E : pv_E} {Q : pv_Q} {off d bc bs : Nat} {mi : pv_MI} {pc : Nat} {lv : pv_LV} {st : List Value} {sz : Nat} {P : pv_PT} {I : pv_IT} {J : pv_JT}
theorem px_zretD {x : Int32} {ty : FieldType} (hd : decode mi.2.1 pc = .ok (.ireturn, 1)) (hr : mi.2.2.2.1 = some ty) (hn : narrow ty (.int x) = .int x) (h0 : sz = pv_K0 ∨ bc = 0) (hQ : Q (.inl (some (.int x))) sz P I J) : pv_X (pv_ZD E Q) (pv_of E off) d bc bs mi pc lv [.int x] sz P I J := by
  intro p e R s m args below meth c H locs cells slots ls hF hR hE hz hS hP hl
  exact vx_ret (W.widen (k := R.cells) (n := R.slots) (by omega) (by omega) (W.zret (v := x) hF.1 hF.2.1 (hF.2.2.2.1.trans hr) hn (fun t ht _ => ⟨off, pv_QC_of (v := some (.int x)) hQ hz h0 hP hS ht⟩) hS.2.2 hd hF.2.2.2.2.2.2.1))
theorem px_vretD (hd : decode mi.2.1 pc = .ok (.return_, 1)) (hr : mi.2.2.2.1 = none) (h0 : sz = pv_K0 ∨ bc = 0) (hQ : Q (.inl none) sz P I J) : pv_X (pv_ZD E Q) (pv_of E off) d bc bs mi pc lv [] sz P I J := by
  intro p e R s m args below meth c H locs cells slots ls hF hR hE hz hS hP hl
  exact vx_ret (W.widen (k := R.cells) (n := R.slots) (by omega) (by omega) (W.vret hF.1 hF.2.1 (hF.2.2.2.1.trans hr) (fun t ht _ => ⟨off, pv_QC_of (v := none) hQ hz h0 hP hS ht⟩) hS.2.2 hd hF.2.2.2.2.2.2.1))
end PVDD
theorem pv_metD {E : pv_E} {Q : pv_Q} {off d bc bs : Nat} {mi : pv_MI} {as : List Value} {sz : Nat} {P : pv_PT} {I : pv_IT} {J : pv_JT} (hst : E.1.stackTraces = false) (hy : plainFor mi.1 = true) (hh : mi.2.2.2.2 = []) (hln : (lg_sl as).length ≤ mi.2.2.1)
    (k : pv_X (pv_ZD E Q) (pv_of E off) d bc bs mi 0 (lv_args 0 as) [] sz P I J) : vx_Met E.1 mi.1 (pv_ws mi) (pv_rm d bc bs) (pv_Pc (pv_of E off) as sz P I J) (pv_QCD E bc Q) (pv_XCD E bc Q) bc bs (pv_A (pv_b E)) := by
  refine pv_ofW (cc := mi.2.1) (maxL := mi.2.2.1) (ret := mi.2.2.2.1) hy rfl ?_
  intro p e s m args below meth c s₁ B hml hex hPc
  obtain ⟨rfl, hE, hz, hP⟩ := hPc
  have hts : ∀ w ∈ pv_ws mi, w.before (as.map (pv_cv (pv_of E off))).toArray s = true := atoms_spec B.pre
  have hn : meth.name = mi.1.name := (name_of_methodNamed B.named B.method).1
  have hex2 : c.exceptionTable.toList = [] := List.eq_nil_iff_forall_not_mem.mpr hex
  have hl := lv_entry (as.map (pv_cv (pv_of E off))) (n := mi.2.2.1) (by rw [pv_sl_len]; exact hln)
  rw [lg_entry_eq]
  generalize (lg_sl (as.map (pv_cv (pv_of E off))) ++ List.replicate (mi.2.2.1 - (lg_sl (as.map (pv_cv (pv_of E off)))).length) Slot.unset).toArray = ls at hl ⊢
  rw [← pv_args_map] at hl
  exact k p e (pv_rm d bc bs) s m (as.map (pv_cv (pv_of E off))).toArray below meth c s.heap [] 0 0 ls
    ⟨B.exec, B.bytes, hml, B.returns, findClass_of_methodNamed B.named, fun w hw => hts w (List.mem_cons_of_mem _ hw), B.notSynchronized, by rw [hex2, hh]; rfl, hn, hst⟩
    ⟨Nat.le_refl _, Nat.le_refl _, by show 0 + bc ≤ bc; omega, by show 0 + bs ≤ bs; omega⟩ hE ⟨hz.1, hz.2.imp id fun h => ⟨h.1, by omega, by show 0 + bc = bc; omega⟩⟩ va_S.rf hP hl
theorem pv_goD {z : pv_Z} {E : pv_E} {off d bc bs bc1 bs1 : Nat} {mi : pv_MI} {pc : Nat} {lv : pv_LV} {st : List Value} {sz : Nat} {P : pv_PT} {I : pv_IT} {J : pv_JT}
    {p : Program} {e : Env} {R : Room} {s : State} {m : MethodId} {args : Array Value} {below : List Frame} {meth : Method} {c : Code} {H : Heap} {locs : List Loc} {cells slots : Nat} {ls : Array Slot} {stk : List Value} {a : Array Value}
    (hlv : lv.all (fun q => pv_nr q.2) = true) (hst : st.all pv_nr = true)
    (hrun : vx_Run p E.1 e R s m args below meth c H locs cells slots bc1 bs1 (F0 m pc ls stk) (st.map (pv_cv (pv_of E off))) (pv_QCD E bc1 (pv_KD z E d bc bs mi pc lv st) a) (pv_XCD E bc1 (pv_KD z E d bc bs mi pc lv st)) (pv_A (pv_b E)))
    (hF : pv_FX E mi p s m args meth c) (hR : d ≤ R.frames ∧ 37 * d ≤ R.locals ∧ cells + (bc1 + bc) ≤ R.cells ∧ slots + (bs1 + bs) ≤ R.slots) (hE : pv_EV E s s.heap) (hz : pv_SZ E sz s cells (bc1 + bc) R.cells) (hS : va_S (pv_A (pv_b E)) s.heap H locs) (hP : va_P (pv_D E) vwCl (pv_WL (pv_of E off) sz P I J) H) (hl : pv_lv (pv_of E off) ls mi.2.2.1 lv) :
    W p E.1 e R s m args below meth c H locs cells slots (z below args s R.cells R.slots) (F0 m pc ls stk) := by
  intro T hT X
  have hH := pv_Hsz (E := pv_of E off) X hz (by rw [hT]; exact hS) (by rw [hT]; exact hP)
  rw [hT] at hH
  have key : ∀ (st₀ : State) (sz' : Nat), st₀.heap = H → pv_EN E st₀ bc1 sz' → pv_SZ E sz' s (cells + bc1) bc R.cells := by
    intro st₀ sz' e0 hen
    refine ⟨hz.1, ?_⟩
    rcases hen with h | ⟨h1, h2⟩
    · exact Or.inl h
    · rw [e0] at h2
      rcases hz.2 with h3 | ⟨h3, h4, h5⟩
      · exfalso
        subst h3
        have := (hP (pv_K0 - 1) _ (pv_WL_get (by decide))).lt
        have h6 : pv_ad (pv_of E off) (pv_K0 - 1) < H.size := this
        have h8 : E.2.1 + (pv_K0 - 1) ≤ pv_ad (pv_of E off) (pv_K0 - 1) := pv_ad_ge (E := pv_of E off) (k := pv_K0 - 1)
        omega
      · rcases hH.2 with h6 | ⟨h6, h7⟩
        · omega
        · have h7' : H.size = E.2.1 + sz := h7
          exact Or.inr ⟨h1, by omega, by omega⟩
  rcases hrun T hT X with ⟨v, st₀, t, T', L, h0, X', hL, e1, e2, ⟨off1, ⟨v', sz', P', I', J', hv, hQ, hP', hen⟩, hFr⟩, go⟩ | ⟨q, st₀, t, T', L, x, ce, h0, X', hL, e1, e2, ⟨off1, ⟨sz', P', I', J', hQ, hP', hen⟩, hFr⟩, hce, hcv, hcl, steps⟩
  · obtain ⟨-, -, k3⟩ := vx_keep h0 e1 hS (fun _ _ h => h) (fun _ h => h) hL hFr
    have hv2 := pv_map_some hv
    have hX : pv_X z (pv_of E off1) d bc bs mi (pc + 3) lv (v'.toList ++ st) sz' P' I' J' := hQ off1
    have hl1 : pv_lv (pv_of E off1) ls mi.2.2.1 lv := pv_nr_lv (E := pv_of E off) (off := off1) hlv hl
    obtain ⟨t2, a2, b2⟩ := hX p e R s m args below meth c T'.heap (locs ++ L) (cells + bc1) (slots + bs1) ls hF ⟨hR.1, hR.2.1, by omega, by omega⟩ hE (key st₀ sz' h0 hen) k3 (by rw [e1]; exact hP') hl1 T' rfl X'
    refine ⟨t2, go _ ?_, b2⟩
    have hst1 : st.map (pv_cv (pv_of E off1)) = st.map (pv_cv (pv_of E off)) := pv_nr_st (E := pv_of E off) (off := off1) hst
    have hst : v.toList ++ st.map (pv_cv (pv_of E off)) = (v'.toList ++ st).map (pv_cv (pv_of E off1)) := by
      rw [hv2, List.map_append, hst1]
      cases v' <;> rfl
    show Steps p.tables e below (T'.setTop (F0 m (pc + 3) ls (v.toList ++ st.map (pv_cv (pv_of E off))))) t2
    rw [hst]
    exact a2
  · exact absurd hQ id
section PVCD
variable {z : pv_Z} {E : pv_E} {off d bc bs bc1 bs1 : Nat} {mi mj : pv_MI} {pc idx n : Nat} {lv : pv_LV} {st stk as : List Value} {sz : Nat} {P : pv_PT} {I : pv_IT} {J : pv_JT}
theorem px_callSD (hd : decode mi.2.1 pc = .ok (.invokestatic idx, 3)) (hm : pv_mS mj n) (hlk : Cond.methodLink mi.1.cls idx mj.1 ∈ pv_W) (hn : as.length = n) (hstk : stk = as.reverse ++ st) (hcat : (st.map fun v => v.category).sum ≤ 8) (hln : (lg_sl as).length ≤ mj.2.2.1)
    (hlv : lv.all (fun q => pv_nr q.2) = true) (hst : st.all pv_nr = true)
    (K : pv_X (pv_ZD E (pv_KD z E (d + 1) bc bs mi pc lv st)) (pv_of E off) d bc1 bs1 mj 0 (lv_args 0 as) [] sz P I J) : pv_X z (pv_of E off) (d + 1) (bc1 + bc) (bs1 + bs) mi pc lv stk sz P I J := by
  intro p e R s m args below meth c H locs cells slots ls hF hR hE hz hS hP hl T hT X
  obtain ⟨⟨c1, c2, c3, c4, c5, c6, c7⟩, c8⟩ := hm
  have hW : ∀ w ∈ va_wsS mi.1.cls idx mj.1 (pv_ws mj), w ∈ pv_W := fun w hw => by
    rcases List.mem_append.mp hw with hw | hw
    · simp only [List.mem_cons, List.not_mem_nil, or_false] at hw
      rcases hw with rfl | rfl | rfl
      · exact hlk
      · exact c8
      · exact c2
    · rcases List.mem_cons.mp hw with rfl | hw
      · exact c1
      · exact hw
  refine pv_goD (E := E) (off := off) (a := (as.map (pv_cv (pv_of E off))).toArray) hlv hst (vx_runS (As := as.map (pv_cv (pv_of E off))) ⟨hF.1, hF.2.1, hF.2.2.1, hF.2.2.2.2.1, hF.2.2.2.2.2.1⟩ (pv_metD hF.2.2.2.2.2.2.2.2.2 c5 c6 hln K) (va_cwS n hF.2.2.2.2.2.1 (pv_good hW) rfl rfl rfl ⟨c3.1, c3.2, c4⟩ ⟨?_, ?_⟩) ⟨pv_blind, pv_pre hT X hE hz hS hP as⟩ rfl (by rw [List.length_map]; exact hn) hl.1 ?_ ?_ hd ⟨?_, ?_⟩) hF hR hE hz hS hP hl T hT X
  · show d + 1 ≤ R.frames
    omega
  · show 8 + (mj.2.2.1 + 11) + 37 * d ≤ R.locals
    omega
  · show stk.map (pv_cv (pv_of E off)) = _
    rw [hstk, List.map_append, List.map_reverse]
  · show 2 * 0 + _ ≤ 8
    rw [List.map_map]
    have e9 : ((fun v => Value.category v) ∘ pv_cv (pv_of E off)) = fun v => Value.category v := funext fun v => pv_cat _ v
    rw [e9]
    omega
  · omega
  · omega
-- the script
theorem px_slenE {x : Nat} (hd : decode mi.2.1 pc = .ok (.arraylength, 1)) (k : ∀ L : Nat, L ≤ 260 → L = E.2.2.2.2.2.2.2 → pv_X z E d bc bs mi (pc + 1) lv (.int (nI L) :: st) sz P I J) : pv_X z E d bc bs mi pc lv (.retAddr x :: st) sz P I J := by
  intro p e R s m args below meth c H locs cells slots ls hF hR hE hz hS hP hl
  obtain ⟨⟨xs, hX⟩, h9, h10⟩ := hE.2.2.2.2.2.2.2
  have hlt : E.2.2.1 < s.heap.size := by
    obtain ⟨scr, g1, -⟩ := hX
    exact (Array.getElem?_eq_some_iff.mp g1).1
  exact va_slen hF.1 hF.2.1 hX hlt (Nat.not_le.mpr h9) hS hd (k _ h10 rfl p e R s m args below meth c H locs cells slots ls hF hR hE hz hS hP hl)
theorem px_sldE {x j : Nat} (hd : decode mi.2.1 pc = .ok (.iaload, 1)) (hj : j < E.2.2.2.2.2.2.2) (k : ∀ y : Int32, pv_X z E d bc bs mi (pc + 1) lv (.int y :: st) sz P I J) : pv_X z E d bc bs mi pc lv (.int (nI j) :: .retAddr x :: st) sz P I J := by
  intro p e R s m args below meth c H locs cells slots ls hF hR hE hz hS hP hl
  obtain ⟨⟨xs, hX⟩, h9, h10⟩ := hE.2.2.2.2.2.2.2
  have hlt : E.2.2.1 < s.heap.size := by
    obtain ⟨scr, g1, -⟩ := hX
    exact (Array.getElem?_eq_some_iff.mp g1).1
  have hc : (nI j).toNatClampNeg = j := nI_clamp (by omega)
  refine va_sld hF.1 hF.2.1 hX hlt (Nat.not_le.mpr h9) hS ?_ hd ?_
  · intro h
    rcases h with h | h
    · exact absurd h (nI_pos (by omega))
    · rw [hc] at h; omega
  · rw [hc]
    exact k _ p e R s m args below meth c H locs cells slots ls hF hR hE hz hS hP hl
end PVCD
