/-! Methods that catch; the law's calls of the class. -/
def pv_cwH (mi : pv_MI) : Cond := .codeWith mi.1 mi.2.1 mi.2.2.1 mi.2.2.2.1 mi.2.2.2.2
def pv_wsH (mi : pv_MI) : List Cond := pv_cwH mi :: pv_W
def pv_mH (mj : pv_MI) (n : Nat) : Prop := pv_cwH mj ∈ pv_W ∧ Cond.initialized mj.1.cls ∈ pv_W ∧ (mj.1.cls ≠ "java/lang/invoke/MethodHandle" ∧ mj.1.cls ≠ "java/lang/invoke/VarHandle") ∧ (parseMethodDescriptor mj.1.desc).map (fun d => d.parameters.length) = some n ∧ plainName mj.1.cls = true ∧ mj.2.2.1 ≤ 18 ∧ Cond.static mj.1 ∈ pv_W
theorem pv_metH {E : pv_E} {Q : pv_Q} {d bc bs : Nat} {mi : pv_MI} {as : List Value} {sz : Nat} {P : pv_PT} {I : pv_IT} {J : pv_JT} (hst : E.1.stackTraces = false) (hy : plainName mi.1.cls = true) (hln : (lg_sl as).length ≤ mi.2.2.1)
    (k : pv_X (pv_ZQ E Q) E d bc bs mi 0 (lv_args 0 as) [] sz P I J) : vx_Met E.1 mi.1 (pv_wsH mi) (pv_rm d bc bs) (pv_Pc E as sz P I J) (pv_QC E bc Q) (pv_XC E bc Q) bc bs (pv_A (pv_b E)) := by
  refine vx_ofWH (cc := mi.2.1) (maxL := mi.2.2.1) (ret := mi.2.2.2.1) (hh := mi.2.2.2.2) hy rfl ?_
  intro p e s m args below meth c s₁ B hml hPc
  obtain ⟨rfl, hE, hz, hP⟩ := hPc
  have hts : ∀ w ∈ pv_wsH mi, w.before (as.map (pv_cv E)).toArray s = true := atoms_spec B.pre
  have hn : meth.name = mi.1.name := (name_of_methodNamed B.named B.method).1
  have hex2 : c.exceptionTable.toList = tableOf mi.2.2.2.2 := vx_table (x := mi.1) B (hts _ List.mem_cons_self)
  have hl := lv_entry (as.map (pv_cv E)) (n := mi.2.2.1) (by rw [pv_sl_len]; exact hln)
  rw [lg_entry_eq]
  generalize (lg_sl (as.map (pv_cv E)) ++ List.replicate (mi.2.2.1 - (lg_sl (as.map (pv_cv E))).length) Slot.unset).toArray = ls at hl ⊢
  rw [← pv_args_map] at hl
  exact k p e (pv_rm d bc bs) s m (as.map (pv_cv E)).toArray below meth c s.heap [] 0 0 ls
    ⟨B.exec, B.bytes, hml, B.returns, findClass_of_methodNamed B.named, fun w hw => hts w (List.mem_cons_of_mem _ hw), B.notSynchronized, hex2, hn, hst⟩
    ⟨Nat.le_refl _, Nat.le_refl _, by show 0 + bc ≤ bc; omega, by show 0 + bs ≤ bs; omega⟩ hE ⟨hz.1, hz.2.imp id fun h => ⟨h.1, by omega, by show 0 + bc = bc; omega⟩⟩ va_S.rf hP hl
section PVH
variable {z : pv_Z} {E : pv_E} {d bc bs bc1 bs1 : Nat} {mi mj : pv_MI} {pc idx n : Nat} {lv : pv_LV} {st stk as : List Value} {sz : Nat} {P : pv_PT} {I : pv_IT} {J : pv_JT}
/-- a static method with handlers -/
theorem px_callSH (hd : decode mi.2.1 pc = .ok (.invokestatic idx, 3)) (hm : pv_mH mj n) (hlk : Cond.methodLink mi.1.cls idx mj.1 ∈ pv_W) (hn : as.length = n) (hstk : stk = as.reverse ++ st) (hcat : (st.map fun v => v.category).sum ≤ 8) (hln : (lg_sl as).length ≤ mj.2.2.1)
    (K : pv_X (pv_ZQ E (pv_K z E (d + 1) bc bs mi pc lv st)) E d bc1 bs1 mj 0 (lv_args 0 as) [] sz P I J) : pv_X z E (d + 1) (bc1 + bc) (bs1 + bs) mi pc lv stk sz P I J := by
  intro p e R s m args below meth c H locs cells slots ls hF hR hE hz hS hP hl T hT X
  obtain ⟨c1, c2, c3, c4, c5, c7, c8⟩ := hm
  have hW : ∀ w ∈ va_wsS mi.1.cls idx mj.1 (pv_wsH mj), w ∈ pv_W := fun w hw => by
    rcases List.mem_append.mp hw with hw | hw
    · simp only [List.mem_cons, List.not_mem_nil, or_false] at hw
      rcases hw with rfl | rfl | rfl
      · exact hlk
      · exact c8
      · exact c2
    · rcases List.mem_cons.mp hw with rfl | hw
      · exact c1
      · exact hw
  refine pv_go (a := (as.map (pv_cv E)).toArray) (vx_runSX (As := as.map (pv_cv E)) ⟨hF.1, hF.2.1, hF.2.2.1, hF.2.2.2.2.1, hF.2.2.2.2.2.1⟩ (pv_metH hF.2.2.2.2.2.2.2.2.2 c5 hln K) (vx_cwSW (hh := mj.2.2.2.2) n hF.2.2.2.2.2.1 (pv_good hW) rfl rfl rfl ⟨c3.1, c3.2, c4⟩ ⟨?_, ?_⟩) ⟨pv_blind, pv_pre hT X hE hz hS hP as⟩ rfl (by rw [List.length_map]; exact hn) hl.1 ?_ ?_ hd ⟨?_, ?_⟩) hF hR hE hz hS hP hl T hT X
  · show d + 1 ≤ R.frames
    omega
  · show 8 + (mj.2.2.1 + 11) + 37 * d ≤ R.locals
    omega
  · show stk.map (pv_cv E) = _
    rw [hstk, List.map_append, List.map_reverse]
  · show 2 * 0 + _ ≤ 8
    rw [List.map_map]
    have e9 : ((fun v => Value.category v) ∘ pv_cv E) = fun v => Value.category v := funext fun v => pv_cat E v
    rw [e9]
    omega
  · omega
  · omega
/-- caught: a row x of the table takes it, those ahead don't; the handler lays the exception aside -/
theorem px_catch {X : String} {hp : Nat} (pre : List (Nat × Nat × Nat × Nat)) (x : Nat × Nat × Nat × Nat) (suf : List (Nat × Nat × Nat × Nat)) (hsplit : mi.2.2.2.2 = pre ++ x :: suf) (hpass : ∀ y ∈ pre, y.2.2.2 ≠ 0 ∧ ∃ nm, Cond.classLink mi.1.cls y.2.2.2 nm ∈ pv_W ∧ (X, nm) ∈ pv_nc) (hcov : covers ⟨x.1, x.2.1, x.2.2.1, x.2.2.2⟩ pc = true) (h0 : x.2.2.2 ≠ 0) (hlink : Cond.classLink mi.1.cls x.2.2.2 X ∈ pv_W) (hX : X ∈ pv_xs) (hhp : x.2.2.1 = hp)
    (K : ∀ a : Nat, ∀ (p : Program) (e : Env) (R : Room) (s : State) (m : MethodId) (args : Array Value) (below : List Frame) (meth : Method) (c : Code) (H : Heap) (locs : List Loc) (cells slots : Nat) (ls : Array Slot), pv_FX E mi p s m args meth c → d ≤ R.frames ∧ 37 * d ≤ R.locals ∧ cells + bc ≤ R.cells ∧ slots + bs ≤ R.slots → pv_EV E s s.heap → pv_SZ E sz s cells bc R.cells → va_S (pv_A (pv_b E)) s.heap H locs → va_P (pv_D E) vwCl (pv_WL E sz P I J) H → pv_lv E ls mi.2.2.1 lv →
      W p E.1 e R s m args below meth c H locs cells slots (z below args s R.cells R.slots) (F0 m hp ls [.ref a])) : pv_Y z E d bc bs mi pc lv X sz P I J := by
  intro p e R s m args below meth c H locs cells slots ls q ce rest hF hR hE hz hS hP hl hce hcv hcl
  subst hhp
  refine vx_catch hF.2.2.2.2.1 (tableOf pre) ⟨x.1, x.2.1, x.2.2.1, x.2.2.2⟩ (tableOf suf) (hF.2.2.2.2.2.2.2.1.trans (by rw [hsplit]; unfold tableOf; rw [List.map_append, List.map_cons])) (fun y hy => ?_) hcov h0 (hF.2.2.2.2.2.1 _ hlink) (va_Nw.use rfl (hE.2.2.2.2.2.2.1 X hX).1) hce hcv hcl (K q p e R s m args below meth c H locs cells slots ls hF hR hE hz hS hP hl)
  obtain ⟨y0, hy0, rfl⟩ := List.mem_map.mp hy
  obtain ⟨h1, nm, h2, h3⟩ := hpass y0 hy0
  exact Or.inr ⟨h1, nm, hF.2.2.2.2.2.1 _ h2, hE.2.2.2.2.2.2.2 _ h3⟩
theorem px_catchA {X : String} {hp i : Nat} (pre : List (Nat × Nat × Nat × Nat)) (x : Nat × Nat × Nat × Nat) (suf : List (Nat × Nat × Nat × Nat)) (hsplit : mi.2.2.2.2 = pre ++ x :: suf) (hpass : ∀ y ∈ pre, y.2.2.2 ≠ 0 ∧ ∃ nm, Cond.classLink mi.1.cls y.2.2.2 nm ∈ pv_W ∧ (X, nm) ∈ pv_nc) (hcov : covers ⟨x.1, x.2.1, x.2.2.1, x.2.2.2⟩ pc = true) (h0 : x.2.2.2 ≠ 0) (hlink : Cond.classLink mi.1.cls x.2.2.2 X ∈ pv_W) (hX : X ∈ pv_xs) (hhp : x.2.2.1 = hp)
    (hd : decode mi.2.1 hp = .ok (.astore i, 2)) (hi : i < mi.2.2.1) (K : pv_X z E d bc bs mi (hp + 2) [] [] sz P I J) : pv_Y z E d bc bs mi pc lv X sz P I J :=
  px_catch pre x suf hsplit hpass hcov h0 hlink hX hhp fun a p e R s m args below meth c H locs cells slots ls hF hR hE hz hS hP hl => lv_astore hF.1 hF.2.1 hd hl hi rfl (fun ls' hl' => K p e R s m args below meth c H locs cells slots ls' hF hR hE hz hS hP (pv_lv_sub hl' fun q hq => absurd hq List.not_mem_nil))
theorem px_catchN {X : String} {hp : Nat} {i : Fin 4} (pre : List (Nat × Nat × Nat × Nat)) (x : Nat × Nat × Nat × Nat) (suf : List (Nat × Nat × Nat × Nat)) (hsplit : mi.2.2.2.2 = pre ++ x :: suf) (hpass : ∀ y ∈ pre, y.2.2.2 ≠ 0 ∧ ∃ nm, Cond.classLink mi.1.cls y.2.2.2 nm ∈ pv_W ∧ (X, nm) ∈ pv_nc) (hcov : covers ⟨x.1, x.2.1, x.2.2.1, x.2.2.2⟩ pc = true) (h0 : x.2.2.2 ≠ 0) (hlink : Cond.classLink mi.1.cls x.2.2.2 X ∈ pv_W) (hX : X ∈ pv_xs) (hhp : x.2.2.1 = hp)
    (hd : decode mi.2.1 hp = .ok (.astore_n i, 1)) (hi : (i : Nat) < mi.2.2.1) (K : pv_X z E d bc bs mi (hp + 1) [] [] sz P I J) : pv_Y z E d bc bs mi pc lv X sz P I J :=
  px_catch pre x suf hsplit hpass hcov h0 hlink hX hhp fun a p e R s m args below meth c H locs cells slots ls hF hR hE hz hS hP hl => lv_astore_n hF.1 hF.2.1 hd rfl hl hi rfl (fun ls' hl' => K p e R s m args below meth c H locs cells slots ls' hF hR hE hz hS hP (pv_lv_sub hl' fun q hq => absurd hq List.not_mem_nil))
end PVH
theorem lx_IA : Cond.classLink RL 13 pv_xIA ∈ pv_W := (pv_t 715 (by decide +kernel) rfl)
theorem lx_IS : Cond.classLink RL 15 pv_xIS ∈ pv_W := (pv_t 716 (by decide +kernel) rfl)
theorem lx_IO : Cond.classLink RL 21 pv_xIO ∈ pv_W := (pv_t 754 (by decide +kernel) rfl)
def lw_J (J : pv_JT) (r : pv_RS) : pv_JT := if r.1 = 0 then pv_uJ J 373 0 r.2.1.toInt64 else J
theorem po_c {r : pv_RS} {m : Nat} (h : r.1 ≤ m) : r.1 ≤ m := h
set_option maxRecDepth 100000 in
theorem pkmL_addKind : tables_1[714]? = some (pv_cwH mL_addKind) := by rfl
theorem mhL_addKind : pv_mH mL_addKind 5 := ⟨pv_t 714 pkmL_addKind rfl, (pv_t 0 (by decide +kernel) rfl), ⟨by decide +kernel, by decide +kernel⟩, by decide +kernel, by decide +kernel, by decide, (pv_t 713 (by decide +kernel) rfl)⟩
theorem pc_addKind {X : pv_XS} {a0 b0 c0 : Int32} : (po_addKind X a0 b0 c0).1 ≤ 2 := by
  unfold po_addKind
  repeat' split
  all_goals first | omega | exact Nat.zero_le _ | exact Nat.le_refl _ | decide
set_option maxRecDepth 100000 in
set_option maxHeartbeats 4000000 in
theorem s_L_addKind {Q : pv_Q} {E : pv_E} {d bc bs : Nat} {J : pv_JT} {I : pv_IT} {X : pv_XS} {n : Nat} {a0 b0 c0 : Int32} (hD : 9 ≤ d) (hCA : CA I X) (hw : wx n X) (hn : n ≤ 600) (hbc : 6 ≤ bc) (hbs : 36 ≤ bs) (h : ∀ I' : pv_IT, CA I' (po_addKind X a0 b0 c0).2.2 → (∀ k, 365 ≤ k → I' k = I k) → Q (.inl (some (.int (nI (po_addKind X a0 b0 c0).1)))) pv_K0 pv_P0 I' (lw_J J (po_addKind X a0 b0 c0))) : pv_X (pv_ZQ E Q) E d bc bs mL_addKind 0 [(0, .ref 0), (1, .int a0), (2, .int b0), (3, .int c0), (4, .ref 373)] [] pv_K0 pv_P0 I J := by
  obtain ⟨⟨T, L⟩, H, B⟩ := X
  refine px_aload dL_addKind_0 rfl ?_
  refine px_iconst (v := nI 0) dL_addKind_2 (by decide) ?_
  refine px_aload_n dL_addKind_3 rfl ?_
  refine px_iload_n dL_addKind_4 rfl ?_
  refine px_iload_n dL_addKind_5 rfl ?_
  refine px_iload_n dL_addKind_6 rfl ?_
  refine c_X9_addKind dL_addKind_7 mlL_7 (by omega) hCA hw hn hbc hbs (Nat.le_of_ble_eq_true rfl) ?_
  have hc := pc_addKind (X := ((T, L), H, B)) (a0 := a0) (b0 := b0) (c0 := c0)
  generalize po_addKind ((T, L), H, B) a0 b0 c0 = r at h hc ⊢
  obtain ⟨c9, v9, X9⟩ := r
  replace hc : c9 ≤ 2 := hc
  intro I9 hC9 hF9
  match c9, hc with
  | 0, _ =>
    show pv_X _ E d _ _ _ _ _ _ _ _ _ _
    refine px_i2l dL_addKind_10 ?_
    refine px_last (j := 0) dL_addKind_11 pv_s_out rfl (by decide) (by decide) pv_k_out ?_
    refine px_goto (tgt := 23) dL_addKind_12 (by decide) ?_
    refine px_iconst (v := nI 0) dL_addKind_23 (by decide) ?_
    exact px_iret dL_addKind_24 rfl (Or.inl rfl) (h I9 hC9 hF9)
  | 1, _ =>
    refine px_catchA (hp := 15) (X := pv_xIA) [] (0, 12, 15, 13) [(0, 12, 19, 15)] rfl (fun y hy => absurd hy List.not_mem_nil) rfl (by decide) lx_IA (by decide) rfl dL_addKind_15 (by decide) ?_
    refine px_iconst (v := nI 1) dL_addKind_17 (by decide) ?_
    exact px_iret dL_addKind_18 rfl (Or.inl rfl) (h I9 hC9 hF9)
  | 2, _ =>
    refine px_catchA (hp := 19) (X := pv_xIS) [(0, 12, 15, 13)] (0, 12, 19, 15) [] rfl (List.forall_mem_cons.mpr ⟨⟨by decide, pv_xIA, lx_IA, by decide⟩, (fun y hy => absurd hy List.not_mem_nil)⟩) rfl (by decide) lx_IS (by decide) rfl dL_addKind_19 (by decide) ?_
    refine px_iconst (v := nI 2) dL_addKind_21 (by decide) ?_
    exact px_iret dL_addKind_22 rfl (Or.inl rfl) (h I9 hC9 hF9)
  | k + 3, hk => exact absurd hk (by omega)
theorem c_L_addKind {z : pv_Z} {E : pv_E} {d bc bs : Nat} {J : pv_JT} {I : pv_IT} {mi : pv_MI} {pc idx : Nat} {lv : pv_LV} {st : List Value} {X : pv_XS} {n : Nat} {a0 b0 c0 : Int32} (hd : decode mi.2.1 pc = .ok (.invokestatic idx, 3)) (hlk : Cond.methodLink mi.1.cls idx mL_addKind.1 ∈ pv_W) (hD : 10 ≤ d) (hCA : CA I X) (hw : wx n X) (hn : n ≤ 600) (hcat : (st.map fun v => v.category).sum ≤ 8) (K : ∀ I' : pv_IT, CA I' (po_addKind X a0 b0 c0).2.2 → (∀ k, 365 ≤ k → I' k = I k) → pv_X z E d bc bs mi (pc + 3) lv (.int (nI (po_addKind X a0 b0 c0).1) :: st) pv_K0 pv_P0 I' (lw_J J (po_addKind X a0 b0 c0))) : pv_X z E d (6 + bc) (36 + bs) mi pc lv (.ref 373 :: .int c0 :: .int b0 :: .int a0 :: .ref 0 :: st) pv_K0 pv_P0 I J := by
  obtain ⟨d, rfl⟩ : ∃ d0, d = d0 + 1 := ⟨d - 1, by omega⟩
  exact px_callSH (bc := bc) (bs := bs) (bc1 := 6) (bs1 := 36) (as := [.ref 0, .int a0, .int b0, .int c0, .ref 373]) (E := E) (z := z) (lv := lv) hd mhL_addKind hlk rfl rfl hcat (by exact Nat.le_of_ble_eq_true rfl) (s_L_addKind (by omega) hCA hw hn (Nat.le_refl _) (Nat.le_refl _) K)
set_option maxRecDepth 100000 in
theorem pkmL_setRoom : tables_1[753]? = some (pv_cwH mL_setRoom) := by rfl
theorem mhL_setRoom : pv_mH mL_setRoom 4 := ⟨pv_t 753 pkmL_setRoom rfl, (pv_t 0 (by decide +kernel) rfl), ⟨by decide +kernel, by decide +kernel⟩, by decide +kernel, by decide +kernel, by decide, (pv_t 752 (by decide +kernel) rfl)⟩
theorem pc_setRoom {X : pv_XS} {a0 b0 : Int32} : (po_setRoom X a0 b0).1 ≤ 3 := by
  unfold po_setRoom
  repeat' split
  all_goals first | omega | exact Nat.zero_le _ | exact Nat.le_refl _ | decide
set_option maxRecDepth 100000 in
set_option maxHeartbeats 4000000 in
theorem s_L_setRoom {Q : pv_Q} {E : pv_E} {d bc bs : Nat} {J : pv_JT} {I : pv_IT} {X : pv_XS} {n : Nat} {a0 b0 : Int32} (hD : 9 ≤ d) (hCA : CA I X) (hw : wx n X) (hn : n ≤ 600) (hbc : 6 ≤ bc) (hbs : 36 ≤ bs) (h : ∀ I' : pv_IT, CA I' (po_setRoom X a0 b0).2.2 → (∀ k, 365 ≤ k → I' k = I k) → Q (.inl (some (.int (nI (po_setRoom X a0 b0).1)))) pv_K0 pv_P0 I' (lw_J J (po_setRoom X a0 b0))) : pv_X (pv_ZQ E Q) E d bc bs mL_setRoom 0 [(0, .ref 0), (1, .int a0), (2, .int b0), (3, .ref 373)] [] pv_K0 pv_P0 I J := by
  obtain ⟨⟨T, L⟩, H, B⟩ := X
  refine px_aload_n dL_setRoom_0 rfl ?_
  refine px_iconst (v := nI 0) dL_setRoom_1 (by decide) ?_
  refine px_aload_n dL_setRoom_2 rfl ?_
  refine px_iload_n dL_setRoom_3 rfl ?_
  refine px_iload_n dL_setRoom_4 rfl ?_
  refine c_X9_setRoom dL_setRoom_5 mlL_17 (by omega) hCA hw hn hbc hbs (Nat.le_of_ble_eq_true rfl) ?_
  have hc := pc_setRoom (X := ((T, L), H, B)) (a0 := a0) (b0 := b0)
  generalize po_setRoom ((T, L), H, B) a0 b0 = r at h hc ⊢
  obtain ⟨c9, v9, X9⟩ := r
  replace hc : c9 ≤ 3 := hc
  intro I9 hC9 hF9
  match c9, hc with
  | 0, _ =>
    show pv_X _ E d _ _ _ _ _ _ _ _ _ _
    refine px_i2l dL_setRoom_8 ?_
    refine px_last (j := 0) dL_setRoom_9 pv_s_out rfl (by decide) (by decide) pv_k_out ?_
    refine px_goto (tgt := 25) dL_setRoom_10 (by decide) ?_
    refine px_iconst (v := nI 0) dL_setRoom_25 (by decide) ?_
    exact px_iret dL_setRoom_26 rfl (Or.inl rfl) (h I9 hC9 hF9)
  | 1, _ =>
    refine px_catchA (hp := 13) (X := pv_xIO) [] (0, 10, 13, 21) [(0, 10, 17, 13), (0, 10, 21, 15)] rfl (fun y hy => absurd hy List.not_mem_nil) rfl (by decide) lx_IO (by decide) rfl dL_setRoom_13 (by decide) ?_
    refine px_iconst (v := nI 1) dL_setRoom_15 (by decide) ?_
    exact px_iret dL_setRoom_16 rfl (Or.inl rfl) (h I9 hC9 hF9)
  | 2, _ =>
    refine px_catchA (hp := 17) (X := pv_xIA) [(0, 10, 13, 21)] (0, 10, 17, 13) [(0, 10, 21, 15)] rfl (List.forall_mem_cons.mpr ⟨⟨by decide, pv_xIO, lx_IO, by decide⟩, (fun y hy => absurd hy List.not_mem_nil)⟩) rfl (by decide) lx_IA (by decide) rfl dL_setRoom_17 (by decide) ?_
    refine px_iconst (v := nI 2) dL_setRoom_19 (by decide) ?_
    exact px_iret dL_setRoom_20 rfl (Or.inl rfl) (h I9 hC9 hF9)
  | 3, _ =>
    refine px_catchA (hp := 21) (X := pv_xIS) [(0, 10, 13, 21), (0, 10, 17, 13)] (0, 10, 21, 15) [] rfl (List.forall_mem_cons.mpr ⟨⟨by decide, pv_xIO, lx_IO, by decide⟩, (List.forall_mem_cons.mpr ⟨⟨by decide, pv_xIA, lx_IA, by decide⟩, (fun y hy => absurd hy List.not_mem_nil)⟩)⟩) rfl (by decide) lx_IS (by decide) rfl dL_setRoom_21 (by decide) ?_
    refine px_iconst (v := nI 3) dL_setRoom_23 (by decide) ?_
    exact px_iret dL_setRoom_24 rfl (Or.inl rfl) (h I9 hC9 hF9)
  | k + 4, hk => exact absurd hk (by omega)
theorem c_L_setRoom {z : pv_Z} {E : pv_E} {d bc bs : Nat} {J : pv_JT} {I : pv_IT} {mi : pv_MI} {pc idx : Nat} {lv : pv_LV} {st : List Value} {X : pv_XS} {n : Nat} {a0 b0 : Int32} (hd : decode mi.2.1 pc = .ok (.invokestatic idx, 3)) (hlk : Cond.methodLink mi.1.cls idx mL_setRoom.1 ∈ pv_W) (hD : 10 ≤ d) (hCA : CA I X) (hw : wx n X) (hn : n ≤ 600) (hcat : (st.map fun v => v.category).sum ≤ 8) (K : ∀ I' : pv_IT, CA I' (po_setRoom X a0 b0).2.2 → (∀ k, 365 ≤ k → I' k = I k) → pv_X z E d bc bs mi (pc + 3) lv (.int (nI (po_setRoom X a0 b0).1) :: st) pv_K0 pv_P0 I' (lw_J J (po_setRoom X a0 b0))) : pv_X z E d (6 + bc) (36 + bs) mi pc lv (.ref 373 :: .int b0 :: .int a0 :: .ref 0 :: st) pv_K0 pv_P0 I J := by
  obtain ⟨d, rfl⟩ : ∃ d0, d = d0 + 1 := ⟨d - 1, by omega⟩
  exact px_callSH (bc := bc) (bs := bs) (bc1 := 6) (bs1 := 36) (as := [.ref 0, .int a0, .int b0, .ref 373]) (E := E) (z := z) (lv := lv) hd mhL_setRoom hlk rfl rfl hcat (by exact Nat.le_of_ble_eq_true rfl) (s_L_setRoom (by omega) hCA hw hn (Nat.le_refl _) (Nat.le_refl _) K)
set_option maxRecDepth 100000 in
theorem pkmL_warm : tables_1[763]? = some (pv_cwH mL_warm) := by rfl
theorem mhL_warm : pv_mH mL_warm 4 := ⟨pv_t 763 pkmL_warm rfl, (pv_t 0 (by decide +kernel) rfl), ⟨by decide +kernel, by decide +kernel⟩, by decide +kernel, by decide +kernel, by decide, (pv_t 762 (by decide +kernel) rfl)⟩
theorem pc_warm {X : pv_XS} {a0 b0 : Int32} : (po_warm X a0 b0).1 ≤ 2 := by
  unfold po_warm
  repeat' split
  all_goals first | omega | exact Nat.zero_le _ | exact Nat.le_refl _ | decide
set_option maxRecDepth 100000 in
set_option maxHeartbeats 4000000 in
theorem s_L_warm {Q : pv_Q} {E : pv_E} {d bc bs : Nat} {J : pv_JT} {I : pv_IT} {X : pv_XS} {n : Nat} {a0 b0 : Int32} (hD : 9 ≤ d) (hCA : CA I X) (hw : wx n X) (hn : n ≤ 600) (hbc : 6 ≤ bc) (hbs : 36 ≤ bs) (h : ∀ I' : pv_IT, CA I' (po_warm X a0 b0).2.2 → (∀ k, 365 ≤ k → I' k = I k) → Q (.inl (some (.int (nI (po_warm X a0 b0).1)))) pv_K0 pv_P0 I' (lw_J J (po_warm X a0 b0))) : pv_X (pv_ZQ E Q) E d bc bs mL_warm 0 [(0, .ref 0), (1, .int a0), (2, .int b0), (3, .ref 373)] [] pv_K0 pv_P0 I J := by
  obtain ⟨⟨T, L⟩, H, B⟩ := X
  refine px_aload_n dL_warm_0 rfl ?_
  refine px_iconst (v := nI 0) dL_warm_1 (by decide) ?_
  refine px_aload_n dL_warm_2 rfl ?_
  refine px_iload_n dL_warm_3 rfl ?_
  refine px_iload_n dL_warm_4 rfl ?_
  refine c_X9_warm dL_warm_5 mlL_23 (by omega) hCA hw hn hbc hbs (Nat.le_of_ble_eq_true rfl) ?_
  have hc := pc_warm (X := ((T, L), H, B)) (a0 := a0) (b0 := b0)
  generalize po_warm ((T, L), H, B) a0 b0 = r at h hc ⊢
  obtain ⟨c9, v9, X9⟩ := r
  replace hc : c9 ≤ 2 := hc
  intro I9 hC9 hF9
  match c9, hc with
  | 0, _ =>
    show pv_X _ E d _ _ _ _ _ _ _ _ _ _
    refine px_i2l dL_warm_8 ?_
    refine px_last (j := 0) dL_warm_9 pv_s_out rfl (by decide) (by decide) pv_k_out ?_
    refine px_goto (tgt := 21) dL_warm_10 (by decide) ?_
    refine px_iconst (v := nI 0) dL_warm_21 (by decide) ?_
    exact px_iret dL_warm_22 rfl (Or.inl rfl) (h I9 hC9 hF9)
  | 1, _ =>
    refine px_catchA (hp := 13) (X := pv_xIO) [] (0, 10, 13, 21) [(0, 10, 17, 13)] rfl (fun y hy => absurd hy List.not_mem_nil) rfl (by decide) lx_IO (by decide) rfl dL_warm_13 (by decide) ?_
    refine px_iconst (v := nI 1) dL_warm_15 (by decide) ?_
    exact px_iret dL_warm_16 rfl (Or.inl rfl) (h I9 hC9 hF9)
  | 2, _ =>
    refine px_catchA (hp := 17) (X := pv_xIA) [(0, 10, 13, 21)] (0, 10, 17, 13) [] rfl (List.forall_mem_cons.mpr ⟨⟨by decide, pv_xIO, lx_IO, by decide⟩, (fun y hy => absurd hy List.not_mem_nil)⟩) rfl (by decide) lx_IA (by decide) rfl dL_warm_17 (by decide) ?_
    refine px_iconst (v := nI 2) dL_warm_19 (by decide) ?_
    exact px_iret dL_warm_20 rfl (Or.inl rfl) (h I9 hC9 hF9)
  | k + 3, hk => exact absurd hk (by omega)
theorem c_L_warm {z : pv_Z} {E : pv_E} {d bc bs : Nat} {J : pv_JT} {I : pv_IT} {mi : pv_MI} {pc idx : Nat} {lv : pv_LV} {st : List Value} {X : pv_XS} {n : Nat} {a0 b0 : Int32} (hd : decode mi.2.1 pc = .ok (.invokestatic idx, 3)) (hlk : Cond.methodLink mi.1.cls idx mL_warm.1 ∈ pv_W) (hD : 10 ≤ d) (hCA : CA I X) (hw : wx n X) (hn : n ≤ 600) (hcat : (st.map fun v => v.category).sum ≤ 8) (K : ∀ I' : pv_IT, CA I' (po_warm X a0 b0).2.2 → (∀ k, 365 ≤ k → I' k = I k) → pv_X z E d bc bs mi (pc + 3) lv (.int (nI (po_warm X a0 b0).1) :: st) pv_K0 pv_P0 I' (lw_J J (po_warm X a0 b0))) : pv_X z E d (6 + bc) (36 + bs) mi pc lv (.ref 373 :: .int b0 :: .int a0 :: .ref 0 :: st) pv_K0 pv_P0 I J := by
  obtain ⟨d, rfl⟩ : ∃ d0, d = d0 + 1 := ⟨d - 1, by omega⟩
  exact px_callSH (bc := bc) (bs := bs) (bc1 := 6) (bs1 := 36) (as := [.ref 0, .int a0, .int b0, .ref 373]) (E := E) (z := z) (lv := lv) hd mhL_warm hlk rfl rfl hcat (by exact Nat.le_of_ble_eq_true rfl) (s_L_warm (by omega) hCA hw hn (Nat.le_refl _) (Nat.le_refl _) K)
set_option maxRecDepth 100000 in
theorem pkmL_setCrew : tables_1[771]? = some (pv_cwH mL_setCrew) := by rfl
theorem mhL_setCrew : pv_mH mL_setCrew 3 := ⟨pv_t 771 pkmL_setCrew rfl, (pv_t 0 (by decide +kernel) rfl), ⟨by decide +kernel, by decide +kernel⟩, by decide +kernel, by decide +kernel, by decide, (pv_t 770 (by decide +kernel) rfl)⟩
theorem pc_setCrew {X : pv_XS} {a0 : Int32} : (po_setCrew X a0).1 ≤ 1 := by
  unfold po_setCrew
  repeat' split
  all_goals first | omega | exact Nat.zero_le _ | exact Nat.le_refl _ | decide
set_option maxRecDepth 100000 in
set_option maxHeartbeats 4000000 in
theorem s_L_setCrew {Q : pv_Q} {E : pv_E} {d bc bs : Nat} {J : pv_JT} {I : pv_IT} {X : pv_XS} {n : Nat} {a0 : Int32} (hD : 9 ≤ d) (hCA : CA I X) (hw : wx n X) (hn : n ≤ 600) (hbc : 6 ≤ bc) (hbs : 36 ≤ bs) (h : ∀ I' : pv_IT, CA I' (po_setCrew X a0).2.2 → (∀ k, 365 ≤ k → I' k = I k) → Q (.inl (some (.int (nI (po_setCrew X a0).1)))) pv_K0 pv_P0 I' (lw_J J (po_setCrew X a0))) : pv_X (pv_ZQ E Q) E d bc bs mL_setCrew 0 [(0, .ref 0), (1, .int a0), (2, .ref 373)] [] pv_K0 pv_P0 I J := by
  obtain ⟨⟨T, L⟩, H, B⟩ := X
  refine px_aload_n dL_setCrew_0 rfl ?_
  refine px_iconst (v := nI 0) dL_setCrew_1 (by decide) ?_
  refine px_aload_n dL_setCrew_2 rfl ?_
  refine px_iload_n dL_setCrew_3 rfl ?_
  refine c_X9_setCrew dL_setCrew_4 mlL_26 (by omega) hCA hw hn hbc hbs (Nat.le_of_ble_eq_true rfl) ?_
  have hc := pc_setCrew (X := ((T, L), H, B)) (a0 := a0)
  generalize po_setCrew ((T, L), H, B) a0 = r at h hc ⊢
  obtain ⟨c9, v9, X9⟩ := r
  replace hc : c9 ≤ 1 := hc
  intro I9 hC9 hF9
  match c9, hc with
  | 0, _ =>
    show pv_X _ E d _ _ _ _ _ _ _ _ _ _
    refine px_i2l dL_setCrew_7 ?_
    refine px_last (j := 0) dL_setCrew_8 pv_s_out rfl (by decide) (by decide) pv_k_out ?_
    refine px_goto (tgt := 15) dL_setCrew_9 (by decide) ?_
    refine px_iconst (v := nI 0) dL_setCrew_15 (by decide) ?_
    exact px_iret dL_setCrew_16 rfl (Or.inl rfl) (h I9 hC9 hF9)
  | 1, _ =>
    refine px_catchN (hp := 12) (X := pv_xIA) [] (0, 9, 12, 13) [] rfl (fun y hy => absurd hy List.not_mem_nil) rfl (by decide) lx_IA (by decide) rfl dL_setCrew_12 (by decide) ?_
    refine px_iconst (v := nI 1) dL_setCrew_13 (by decide) ?_
    exact px_iret dL_setCrew_14 rfl (Or.inl rfl) (h I9 hC9 hF9)
  | k + 2, hk => exact absurd hk (by omega)
theorem c_L_setCrew {z : pv_Z} {E : pv_E} {d bc bs : Nat} {J : pv_JT} {I : pv_IT} {mi : pv_MI} {pc idx : Nat} {lv : pv_LV} {st : List Value} {X : pv_XS} {n : Nat} {a0 : Int32} (hd : decode mi.2.1 pc = .ok (.invokestatic idx, 3)) (hlk : Cond.methodLink mi.1.cls idx mL_setCrew.1 ∈ pv_W) (hD : 10 ≤ d) (hCA : CA I X) (hw : wx n X) (hn : n ≤ 600) (hcat : (st.map fun v => v.category).sum ≤ 8) (K : ∀ I' : pv_IT, CA I' (po_setCrew X a0).2.2 → (∀ k, 365 ≤ k → I' k = I k) → pv_X z E d bc bs mi (pc + 3) lv (.int (nI (po_setCrew X a0).1) :: st) pv_K0 pv_P0 I' (lw_J J (po_setCrew X a0))) : pv_X z E d (6 + bc) (36 + bs) mi pc lv (.ref 373 :: .int a0 :: .ref 0 :: st) pv_K0 pv_P0 I J := by
  obtain ⟨d, rfl⟩ : ∃ d0, d = d0 + 1 := ⟨d - 1, by omega⟩
  exact px_callSH (bc := bc) (bs := bs) (bc1 := 6) (bs1 := 36) (as := [.ref 0, .int a0, .ref 373]) (E := E) (z := z) (lv := lv) hd mhL_setCrew hlk rfl rfl hcat (by exact Nat.le_of_ble_eq_true rfl) (s_L_setCrew (by omega) hCA hw hn (Nat.le_refl _) (Nat.le_refl _) K)
set_option maxRecDepth 100000 in
theorem pkmL_pay : tables_1[778]? = some (pv_cwH mL_pay) := by rfl
theorem mhL_pay : pv_mH mL_pay 3 := ⟨pv_t 778 pkmL_pay rfl, (pv_t 0 (by decide +kernel) rfl), ⟨by decide +kernel, by decide +kernel⟩, by decide +kernel, by decide +kernel, by decide, (pv_t 777 (by decide +kernel) rfl)⟩
theorem pc_pay {X : pv_XS} {a0 : Int32} : (po_pay X a0).1 ≤ 1 := by
  unfold po_pay
  repeat' split
  all_goals first | omega | exact Nat.zero_le _ | exact Nat.le_refl _ | decide
set_option maxRecDepth 100000 in
set_option maxHeartbeats 4000000 in
theorem s_L_pay {Q : pv_Q} {E : pv_E} {d bc bs : Nat} {J : pv_JT} {I : pv_IT} {X : pv_XS} {n : Nat} {a0 : Int32} (hD : 9 ≤ d) (hCA : CA I X) (hw : wx n X) (hn : n ≤ 600) (hbc : 6 ≤ bc) (hbs : 36 ≤ bs) (h : ∀ I' : pv_IT, CA I' (po_pay X a0).2.2 → (∀ k, 365 ≤ k → I' k = I k) → Q (.inl (some (.int (nI (po_pay X a0).1)))) pv_K0 pv_P0 I' (lw_J J (po_pay X a0))) : pv_X (pv_ZQ E Q) E d bc bs mL_pay 0 [(0, .ref 0), (1, .int a0), (2, .ref 373)] [] pv_K0 pv_P0 I J := by
  obtain ⟨⟨T, L⟩, H, B⟩ := X
  refine px_aload_n dL_pay_0 rfl ?_
  refine px_iconst (v := nI 0) dL_pay_1 (by decide) ?_
  refine px_aload_n dL_pay_2 rfl ?_
  refine px_iload_n dL_pay_3 rfl ?_
  refine c_X9_pay dL_pay_4 mlL_30 (by omega) hCA hw hn hbc hbs (Nat.le_of_ble_eq_true rfl) ?_
  have hc := pc_pay (X := ((T, L), H, B)) (a0 := a0)
  generalize po_pay ((T, L), H, B) a0 = r at h hc ⊢
  obtain ⟨c9, v9, X9⟩ := r
  replace hc : c9 ≤ 1 := hc
  intro I9 hC9 hF9
  match c9, hc with
  | 0, _ =>
    show pv_X _ E d _ _ _ _ _ _ _ _ _ _
    refine px_i2l dL_pay_7 ?_
    refine px_last (j := 0) dL_pay_8 pv_s_out rfl (by decide) (by decide) pv_k_out ?_
    refine px_goto (tgt := 15) dL_pay_9 (by decide) ?_
    refine px_iconst (v := nI 0) dL_pay_15 (by decide) ?_
    exact px_iret dL_pay_16 rfl (Or.inl rfl) (h I9 hC9 hF9)
  | 1, _ =>
    refine px_catchN (hp := 12) (X := pv_xIA) [] (0, 9, 12, 13) [] rfl (fun y hy => absurd hy List.not_mem_nil) rfl (by decide) lx_IA (by decide) rfl dL_pay_12 (by decide) ?_
    refine px_iconst (v := nI 1) dL_pay_13 (by decide) ?_
    exact px_iret dL_pay_14 rfl (Or.inl rfl) (h I9 hC9 hF9)
  | k + 2, hk => exact absurd hk (by omega)
theorem c_L_pay {z : pv_Z} {E : pv_E} {d bc bs : Nat} {J : pv_JT} {I : pv_IT} {mi : pv_MI} {pc idx : Nat} {lv : pv_LV} {st : List Value} {X : pv_XS} {n : Nat} {a0 : Int32} (hd : decode mi.2.1 pc = .ok (.invokestatic idx, 3)) (hlk : Cond.methodLink mi.1.cls idx mL_pay.1 ∈ pv_W) (hD : 10 ≤ d) (hCA : CA I X) (hw : wx n X) (hn : n ≤ 600) (hcat : (st.map fun v => v.category).sum ≤ 8) (K : ∀ I' : pv_IT, CA I' (po_pay X a0).2.2 → (∀ k, 365 ≤ k → I' k = I k) → pv_X z E d bc bs mi (pc + 3) lv (.int (nI (po_pay X a0).1) :: st) pv_K0 pv_P0 I' (lw_J J (po_pay X a0))) : pv_X z E d (6 + bc) (36 + bs) mi pc lv (.ref 373 :: .int a0 :: .ref 0 :: st) pv_K0 pv_P0 I J := by
  obtain ⟨d, rfl⟩ : ∃ d0, d = d0 + 1 := ⟨d - 1, by omega⟩
  exact px_callSH (bc := bc) (bs := bs) (bc1 := 6) (bs1 := 36) (as := [.ref 0, .int a0, .ref 373]) (E := E) (z := z) (lv := lv) hd mhL_pay hlk rfl rfl hcat (by exact Nat.le_of_ble_eq_true rfl) (s_L_pay (by omega) hCA hw hn (Nat.le_refl _) (Nat.le_refl _) K)
set_option maxRecDepth 100000 in
theorem pkmL_addPort : tables_1[787]? = some (pv_cwH mL_addPort) := by rfl
theorem mhL_addPort : pv_mH mL_addPort 4 := ⟨pv_t 787 pkmL_addPort rfl, (pv_t 0 (by decide +kernel) rfl), ⟨by decide +kernel, by decide +kernel⟩, by decide +kernel, by decide +kernel, by decide, (pv_t 786 (by decide +kernel) rfl)⟩
theorem pc_addPort {X : pv_XS} {a0 b0 : Int32} : (po_addPort X a0 b0).1 ≤ 2 := by
  unfold po_addPort
  repeat' split
  all_goals first | omega | exact Nat.zero_le _ | exact Nat.le_refl _ | decide
set_option maxRecDepth 100000 in
set_option maxHeartbeats 4000000 in
theorem s_L_addPort {Q : pv_Q} {E : pv_E} {d bc bs : Nat} {J : pv_JT} {I : pv_IT} {X : pv_XS} {n : Nat} {a0 b0 : Int32} (hD : 9 ≤ d) (hCA : CA I X) (hw : wx n X) (hn : n ≤ 600) (hbc : 6 ≤ bc) (hbs : 36 ≤ bs) (h : ∀ I' : pv_IT, CA I' (po_addPort X a0 b0).2.2 → (∀ k, 365 ≤ k → I' k = I k) → Q (.inl (some (.int (nI (po_addPort X a0 b0).1)))) pv_K0 pv_P0 I' (lw_J J (po_addPort X a0 b0))) : pv_X (pv_ZQ E Q) E d bc bs mL_addPort 0 [(0, .ref 0), (1, .int a0), (2, .int b0), (3, .ref 373)] [] pv_K0 pv_P0 I J := by
  obtain ⟨⟨T, L⟩, H, B⟩ := X
  refine px_aload_n dL_addPort_0 rfl ?_
  refine px_iconst (v := nI 0) dL_addPort_1 (by decide) ?_
  refine px_aload_n dL_addPort_2 rfl ?_
  refine px_iload_n dL_addPort_3 rfl ?_
  refine px_iload_n dL_addPort_4 rfl ?_
  refine c_X9_addPort dL_addPort_5 mlL_33 (by omega) hCA hw hn hbc hbs (Nat.le_of_ble_eq_true rfl) ?_
  have hc := pc_addPort (X := ((T, L), H, B)) (a0 := a0) (b0 := b0)
  generalize po_addPort ((T, L), H, B) a0 b0 = r at h hc ⊢
  obtain ⟨c9, v9, X9⟩ := r
  replace hc : c9 ≤ 2 := hc
  intro I9 hC9 hF9
  match c9, hc with
  | 0, _ =>
    show pv_X _ E d _ _ _ _ _ _ _ _ _ _
    refine px_i2l dL_addPort_8 ?_
    refine px_last (j := 0) dL_addPort_9 pv_s_out rfl (by decide) (by decide) pv_k_out ?_
    refine px_goto (tgt := 21) dL_addPort_10 (by decide) ?_
    refine px_iconst (v := nI 0) dL_addPort_21 (by decide) ?_
    exact px_iret dL_addPort_22 rfl (Or.inl rfl) (h I9 hC9 hF9)
  | 1, _ =>
    refine px_catchA (hp := 13) (X := pv_xIA) [] (0, 10, 13, 13) [(0, 10, 17, 15)] rfl (fun y hy => absurd hy List.not_mem_nil) rfl (by decide) lx_IA (by decide) rfl dL_addPort_13 (by decide) ?_
    refine px_iconst (v := nI 1) dL_addPort_15 (by decide) ?_
    exact px_iret dL_addPort_16 rfl (Or.inl rfl) (h I9 hC9 hF9)
  | 2, _ =>
    refine px_catchA (hp := 17) (X := pv_xIS) [(0, 10, 13, 13)] (0, 10, 17, 15) [] rfl (List.forall_mem_cons.mpr ⟨⟨by decide, pv_xIA, lx_IA, by decide⟩, (fun y hy => absurd hy List.not_mem_nil)⟩) rfl (by decide) lx_IS (by decide) rfl dL_addPort_17 (by decide) ?_
    refine px_iconst (v := nI 2) dL_addPort_19 (by decide) ?_
    exact px_iret dL_addPort_20 rfl (Or.inl rfl) (h I9 hC9 hF9)
  | k + 3, hk => exact absurd hk (by omega)
theorem c_L_addPort {z : pv_Z} {E : pv_E} {d bc bs : Nat} {J : pv_JT} {I : pv_IT} {mi : pv_MI} {pc idx : Nat} {lv : pv_LV} {st : List Value} {X : pv_XS} {n : Nat} {a0 b0 : Int32} (hd : decode mi.2.1 pc = .ok (.invokestatic idx, 3)) (hlk : Cond.methodLink mi.1.cls idx mL_addPort.1 ∈ pv_W) (hD : 10 ≤ d) (hCA : CA I X) (hw : wx n X) (hn : n ≤ 600) (hcat : (st.map fun v => v.category).sum ≤ 8) (K : ∀ I' : pv_IT, CA I' (po_addPort X a0 b0).2.2 → (∀ k, 365 ≤ k → I' k = I k) → pv_X z E d bc bs mi (pc + 3) lv (.int (nI (po_addPort X a0 b0).1) :: st) pv_K0 pv_P0 I' (lw_J J (po_addPort X a0 b0))) : pv_X z E d (6 + bc) (36 + bs) mi pc lv (.ref 373 :: .int b0 :: .int a0 :: .ref 0 :: st) pv_K0 pv_P0 I J := by
  obtain ⟨d, rfl⟩ : ∃ d0, d = d0 + 1 := ⟨d - 1, by omega⟩
  exact px_callSH (bc := bc) (bs := bs) (bc1 := 6) (bs1 := 36) (as := [.ref 0, .int a0, .int b0, .ref 373]) (E := E) (z := z) (lv := lv) hd mhL_addPort hlk rfl rfl hcat (by exact Nat.le_of_ble_eq_true rfl) (s_L_addPort (by omega) hCA hw hn (Nat.le_refl _) (Nat.le_refl _) K)
set_option maxRecDepth 100000 in
theorem pkmL_removePort : tables_1[810]? = some (pv_cwH mL_removePort) := by rfl
theorem mhL_removePort : pv_mH mL_removePort 3 := ⟨pv_t 810 pkmL_removePort rfl, (pv_t 0 (by decide +kernel) rfl), ⟨by decide +kernel, by decide +kernel⟩, by decide +kernel, by decide +kernel, by decide, (pv_t 809 (by decide +kernel) rfl)⟩
theorem pc_removePort {X : pv_XS} {a0 : Int32} : (po_removePort X a0).1 ≤ 1 := by
  unfold po_removePort
  repeat' split
  all_goals first | omega | exact Nat.zero_le _ | exact Nat.le_refl _ | decide
set_option maxRecDepth 100000 in
set_option maxHeartbeats 4000000 in
theorem s_L_removePort {Q : pv_Q} {E : pv_E} {d bc bs : Nat} {J : pv_JT} {I : pv_IT} {X : pv_XS} {n : Nat} {a0 : Int32} (hD : 9 ≤ d) (hCA : CA I X) (hw : wx n X) (hn : n ≤ 600) (hbc : 6 ≤ bc) (hbs : 36 ≤ bs) (h : ∀ I' : pv_IT, CA I' (po_removePort X a0).2.2 → (∀ k, 365 ≤ k → I' k = I k) → Q (.inl (some (.int (nI (po_removePort X a0).1)))) pv_K0 pv_P0 I' (lw_J J (po_removePort X a0))) : pv_X (pv_ZQ E Q) E d bc bs mL_removePort 0 [(0, .ref 0), (1, .int a0), (2, .ref 373)] [] pv_K0 pv_P0 I J := by
  obtain ⟨⟨T, L⟩, H, B⟩ := X
  refine px_aload_n dL_removePort_0 rfl ?_
  refine px_iconst (v := nI 0) dL_removePort_1 (by decide) ?_
  refine px_aload_n dL_removePort_2 rfl ?_
  refine px_iload_n dL_removePort_3 rfl ?_
  refine c_X9_removePort dL_removePort_4 mlL_36 (by omega) hCA hw hn hbc hbs (Nat.le_of_ble_eq_true rfl) ?_
  have hc := pc_removePort (X := ((T, L), H, B)) (a0 := a0)
  generalize po_removePort ((T, L), H, B) a0 = r at h hc ⊢
  obtain ⟨c9, v9, X9⟩ := r
  replace hc : c9 ≤ 1 := hc
  intro I9 hC9 hF9
  match c9, hc with
  | 0, _ =>
    show pv_X _ E d _ _ _ _ _ _ _ _ _ _
    refine px_i2l dL_removePort_7 ?_
    refine px_last (j := 0) dL_removePort_8 pv_s_out rfl (by decide) (by decide) pv_k_out ?_
    refine px_goto (tgt := 15) dL_removePort_9 (by decide) ?_
    refine px_iconst (v := nI 0) dL_removePort_15 (by decide) ?_
    exact px_iret dL_removePort_16 rfl (Or.inl rfl) (h I9 hC9 hF9)
  | 1, _ =>
    refine px_catchN (hp := 12) (X := pv_xIO) [] (0, 9, 12, 21) [] rfl (fun y hy => absurd hy List.not_mem_nil) rfl (by decide) lx_IO (by decide) rfl dL_removePort_12 (by decide) ?_
    refine px_iconst (v := nI 1) dL_removePort_13 (by decide) ?_
    exact px_iret dL_removePort_14 rfl (Or.inl rfl) (h I9 hC9 hF9)
  | k + 2, hk => exact absurd hk (by omega)
theorem c_L_removePort {z : pv_Z} {E : pv_E} {d bc bs : Nat} {J : pv_JT} {I : pv_IT} {mi : pv_MI} {pc idx : Nat} {lv : pv_LV} {st : List Value} {X : pv_XS} {n : Nat} {a0 : Int32} (hd : decode mi.2.1 pc = .ok (.invokestatic idx, 3)) (hlk : Cond.methodLink mi.1.cls idx mL_removePort.1 ∈ pv_W) (hD : 10 ≤ d) (hCA : CA I X) (hw : wx n X) (hn : n ≤ 600) (hcat : (st.map fun v => v.category).sum ≤ 8) (K : ∀ I' : pv_IT, CA I' (po_removePort X a0).2.2 → (∀ k, 365 ≤ k → I' k = I k) → pv_X z E d bc bs mi (pc + 3) lv (.int (nI (po_removePort X a0).1) :: st) pv_K0 pv_P0 I' (lw_J J (po_removePort X a0))) : pv_X z E d (6 + bc) (36 + bs) mi pc lv (.ref 373 :: .int a0 :: .ref 0 :: st) pv_K0 pv_P0 I J := by
  obtain ⟨d, rfl⟩ : ∃ d0, d = d0 + 1 := ⟨d - 1, by omega⟩
  exact px_callSH (bc := bc) (bs := bs) (bc1 := 6) (bs1 := 36) (as := [.ref 0, .int a0, .ref 373]) (E := E) (z := z) (lv := lv) hd mhL_removePort hlk rfl rfl hcat (by exact Nat.le_of_ble_eq_true rfl) (s_L_removePort (by omega) hCA hw hn (Nat.le_refl _) (Nat.le_refl _) K)
set_option maxRecDepth 100000 in
theorem pkmL_setPrice : tables_1[821]? = some (pv_cwH mL_setPrice) := by rfl
theorem mhL_setPrice : pv_mH mL_setPrice 5 := ⟨pv_t 821 pkmL_setPrice rfl, (pv_t 0 (by decide +kernel) rfl), ⟨by decide +kernel, by decide +kernel⟩, by decide +kernel, by decide +kernel, by decide, (pv_t 820 (by decide +kernel) rfl)⟩
theorem pc_setPrice {X : pv_XS} {a0 b0 c0 : Int32} : (po_setPrice X a0 b0 c0).1 ≤ 2 := by
  unfold po_setPrice
  repeat' split
  all_goals first | omega | exact Nat.zero_le _ | exact Nat.le_refl _ | decide
set_option maxRecDepth 100000 in
set_option maxHeartbeats 4000000 in
theorem s_L_setPrice {Q : pv_Q} {E : pv_E} {d bc bs : Nat} {J : pv_JT} {I : pv_IT} {X : pv_XS} {n : Nat} {a0 b0 c0 : Int32} (hD : 9 ≤ d) (hCA : CA I X) (hw : wx n X) (hn : n ≤ 600) (hbc : 6 ≤ bc) (hbs : 36 ≤ bs) (h : ∀ I' : pv_IT, CA I' (po_setPrice X a0 b0 c0).2.2 → (∀ k, 365 ≤ k → I' k = I k) → Q (.inl (some (.int (nI (po_setPrice X a0 b0 c0).1)))) pv_K0 pv_P0 I' (lw_J J (po_setPrice X a0 b0 c0))) : pv_X (pv_ZQ E Q) E d bc bs mL_setPrice 0 [(0, .ref 0), (1, .int a0), (2, .int b0), (3, .int c0), (4, .ref 373)] [] pv_K0 pv_P0 I J := by
  obtain ⟨⟨T, L⟩, H, B⟩ := X
  refine px_aload dL_setPrice_0 rfl ?_
  refine px_iconst (v := nI 0) dL_setPrice_2 (by decide) ?_
  refine px_aload_n dL_setPrice_3 rfl ?_
  refine px_iload_n dL_setPrice_4 rfl ?_
  refine px_iload_n dL_setPrice_5 rfl ?_
  refine px_iload_n dL_setPrice_6 rfl ?_
  refine c_X9_setPrice dL_setPrice_7 mlL_39 (by omega) hCA hw hn hbc hbs (Nat.le_of_ble_eq_true rfl) ?_
  have hc := pc_setPrice (X := ((T, L), H, B)) (a0 := a0) (b0 := b0) (c0 := c0)
  generalize po_setPrice ((T, L), H, B) a0 b0 c0 = r at h hc ⊢
  obtain ⟨c9, v9, X9⟩ := r
  replace hc : c9 ≤ 2 := hc
  intro I9 hC9 hF9
  match c9, hc with
  | 0, _ =>
    show pv_X _ E d _ _ _ _ _ _ _ _ _ _
    refine px_i2l dL_setPrice_10 ?_
    refine px_last (j := 0) dL_setPrice_11 pv_s_out rfl (by decide) (by decide) pv_k_out ?_
    refine px_goto (tgt := 23) dL_setPrice_12 (by decide) ?_
    refine px_iconst (v := nI 0) dL_setPrice_23 (by decide) ?_
    exact px_iret dL_setPrice_24 rfl (Or.inl rfl) (h I9 hC9 hF9)
  | 1, _ =>
    refine px_catchA (hp := 15) (X := pv_xIO) [] (0, 12, 15, 21) [(0, 12, 19, 13)] rfl (fun y hy => absurd hy List.not_mem_nil) rfl (by decide) lx_IO (by decide) rfl dL_setPrice_15 (by decide) ?_
    refine px_iconst (v := nI 1) dL_setPrice_17 (by decide) ?_
    exact px_iret dL_setPrice_18 rfl (Or.inl rfl) (h I9 hC9 hF9)
  | 2, _ =>
    refine px_catchA (hp := 19) (X := pv_xIA) [(0, 12, 15, 21)] (0, 12, 19, 13) [] rfl (List.forall_mem_cons.mpr ⟨⟨by decide, pv_xIO, lx_IO, by decide⟩, (fun y hy => absurd hy List.not_mem_nil)⟩) rfl (by decide) lx_IA (by decide) rfl dL_setPrice_19 (by decide) ?_
    refine px_iconst (v := nI 2) dL_setPrice_21 (by decide) ?_
    exact px_iret dL_setPrice_22 rfl (Or.inl rfl) (h I9 hC9 hF9)
  | k + 3, hk => exact absurd hk (by omega)
theorem c_L_setPrice {z : pv_Z} {E : pv_E} {d bc bs : Nat} {J : pv_JT} {I : pv_IT} {mi : pv_MI} {pc idx : Nat} {lv : pv_LV} {st : List Value} {X : pv_XS} {n : Nat} {a0 b0 c0 : Int32} (hd : decode mi.2.1 pc = .ok (.invokestatic idx, 3)) (hlk : Cond.methodLink mi.1.cls idx mL_setPrice.1 ∈ pv_W) (hD : 10 ≤ d) (hCA : CA I X) (hw : wx n X) (hn : n ≤ 600) (hcat : (st.map fun v => v.category).sum ≤ 8) (K : ∀ I' : pv_IT, CA I' (po_setPrice X a0 b0 c0).2.2 → (∀ k, 365 ≤ k → I' k = I k) → pv_X z E d bc bs mi (pc + 3) lv (.int (nI (po_setPrice X a0 b0 c0).1) :: st) pv_K0 pv_P0 I' (lw_J J (po_setPrice X a0 b0 c0))) : pv_X z E d (6 + bc) (36 + bs) mi pc lv (.ref 373 :: .int c0 :: .int b0 :: .int a0 :: .ref 0 :: st) pv_K0 pv_P0 I J := by
  obtain ⟨d, rfl⟩ : ∃ d0, d = d0 + 1 := ⟨d - 1, by omega⟩
  exact px_callSH (bc := bc) (bs := bs) (bc1 := 6) (bs1 := 36) (as := [.ref 0, .int a0, .int b0, .int c0, .ref 373]) (E := E) (z := z) (lv := lv) hd mhL_setPrice hlk rfl rfl hcat (by exact Nat.le_of_ble_eq_true rfl) (s_L_setPrice (by omega) hCA hw hn (Nat.le_refl _) (Nat.le_refl _) K)
set_option maxRecDepth 100000 in
theorem pkmL_buy : tables_1[829]? = some (pv_cwH mL_buy) := by rfl
theorem mhL_buy : pv_mH mL_buy 5 := ⟨pv_t 829 pkmL_buy rfl, (pv_t 0 (by decide +kernel) rfl), ⟨by decide +kernel, by decide +kernel⟩, by decide +kernel, by decide +kernel, by decide, (pv_t 828 (by decide +kernel) rfl)⟩
theorem pc_buy {X : pv_XS} {a0 b0 c0 : Int32} : (po_buy X a0 b0 c0).1 ≤ 3 := by
  unfold po_buy
  repeat' split
  all_goals first | omega | exact Nat.zero_le _ | exact Nat.le_refl _ | decide
set_option maxRecDepth 100000 in
set_option maxHeartbeats 4000000 in
theorem s_L_buy {Q : pv_Q} {E : pv_E} {d bc bs : Nat} {J : pv_JT} {I : pv_IT} {X : pv_XS} {n : Nat} {a0 b0 c0 : Int32} (hD : 9 ≤ d) (hCA : CA I X) (hw : wx n X) (hn : n ≤ 600) (hbc : 6 ≤ bc) (hbs : 36 ≤ bs) (h : ∀ I' : pv_IT, CA I' (po_buy X a0 b0 c0).2.2 → (∀ k, 365 ≤ k → I' k = I k) → Q (.inl (some (.int (nI (po_buy X a0 b0 c0).1)))) pv_K0 pv_P0 I' (lw_J J (po_buy X a0 b0 c0))) : pv_X (pv_ZQ E Q) E d bc bs mL_buy 0 [(0, .ref 0), (1, .int a0), (2, .int b0), (3, .int c0), (4, .ref 373)] [] pv_K0 pv_P0 I J := by
  obtain ⟨⟨T, L⟩, H, B⟩ := X
  refine px_aload dL_buy_0 rfl ?_
  refine px_iconst (v := nI 0) dL_buy_2 (by decide) ?_
  refine px_aload_n dL_buy_3 rfl ?_
  refine px_iload_n dL_buy_4 rfl ?_
  refine px_iload_n dL_buy_5 rfl ?_
  refine px_iload_n dL_buy_6 rfl ?_
  refine c_X9_buy dL_buy_7 mlL_42 (by omega) hCA hw hn hbc hbs (Nat.le_of_ble_eq_true rfl) ?_
  have hc := pc_buy (X := ((T, L), H, B)) (a0 := a0) (b0 := b0) (c0 := c0)
  generalize po_buy ((T, L), H, B) a0 b0 c0 = r at h hc ⊢
  obtain ⟨c9, v9, X9⟩ := r
  replace hc : c9 ≤ 3 := hc
  intro I9 hC9 hF9
  match c9, hc with
  | 0, _ =>
    show pv_X _ E d _ _ _ _ _ _ _ _ _ _
    refine px_i2l dL_buy_10 ?_
    refine px_last (j := 0) dL_buy_11 pv_s_out rfl (by decide) (by decide) pv_k_out ?_
    refine px_goto (tgt := 27) dL_buy_12 (by decide) ?_
    refine px_iconst (v := nI 0) dL_buy_27 (by decide) ?_
    exact px_iret dL_buy_28 rfl (Or.inl rfl) (h I9 hC9 hF9)
  | 1, _ =>
    refine px_catchA (hp := 15) (X := pv_xIO) [] (0, 12, 15, 21) [(0, 12, 19, 13), (0, 12, 23, 15)] rfl (fun y hy => absurd hy List.not_mem_nil) rfl (by decide) lx_IO (by decide) rfl dL_buy_15 (by decide) ?_
    refine px_iconst (v := nI 1) dL_buy_17 (by decide) ?_
    exact px_iret dL_buy_18 rfl (Or.inl rfl) (h I9 hC9 hF9)
  | 2, _ =>
    refine px_catchA (hp := 19) (X := pv_xIA) [(0, 12, 15, 21)] (0, 12, 19, 13) [(0, 12, 23, 15)] rfl (List.forall_mem_cons.mpr ⟨⟨by decide, pv_xIO, lx_IO, by decide⟩, (fun y hy => absurd hy List.not_mem_nil)⟩) rfl (by decide) lx_IA (by decide) rfl dL_buy_19 (by decide) ?_
    refine px_iconst (v := nI 2) dL_buy_21 (by decide) ?_
    exact px_iret dL_buy_22 rfl (Or.inl rfl) (h I9 hC9 hF9)
  | 3, _ =>
    refine px_catchA (hp := 23) (X := pv_xIS) [(0, 12, 15, 21), (0, 12, 19, 13)] (0, 12, 23, 15) [] rfl (List.forall_mem_cons.mpr ⟨⟨by decide, pv_xIO, lx_IO, by decide⟩, (List.forall_mem_cons.mpr ⟨⟨by decide, pv_xIA, lx_IA, by decide⟩, (fun y hy => absurd hy List.not_mem_nil)⟩)⟩) rfl (by decide) lx_IS (by decide) rfl dL_buy_23 (by decide) ?_
    refine px_iconst (v := nI 3) dL_buy_25 (by decide) ?_
    exact px_iret dL_buy_26 rfl (Or.inl rfl) (h I9 hC9 hF9)
  | k + 4, hk => exact absurd hk (by omega)
theorem c_L_buy {z : pv_Z} {E : pv_E} {d bc bs : Nat} {J : pv_JT} {I : pv_IT} {mi : pv_MI} {pc idx : Nat} {lv : pv_LV} {st : List Value} {X : pv_XS} {n : Nat} {a0 b0 c0 : Int32} (hd : decode mi.2.1 pc = .ok (.invokestatic idx, 3)) (hlk : Cond.methodLink mi.1.cls idx mL_buy.1 ∈ pv_W) (hD : 10 ≤ d) (hCA : CA I X) (hw : wx n X) (hn : n ≤ 600) (hcat : (st.map fun v => v.category).sum ≤ 8) (K : ∀ I' : pv_IT, CA I' (po_buy X a0 b0 c0).2.2 → (∀ k, 365 ≤ k → I' k = I k) → pv_X z E d bc bs mi (pc + 3) lv (.int (nI (po_buy X a0 b0 c0).1) :: st) pv_K0 pv_P0 I' (lw_J J (po_buy X a0 b0 c0))) : pv_X z E d (6 + bc) (36 + bs) mi pc lv (.ref 373 :: .int c0 :: .int b0 :: .int a0 :: .ref 0 :: st) pv_K0 pv_P0 I J := by
  obtain ⟨d, rfl⟩ : ∃ d0, d = d0 + 1 := ⟨d - 1, by omega⟩
  exact px_callSH (bc := bc) (bs := bs) (bc1 := 6) (bs1 := 36) (as := [.ref 0, .int a0, .int b0, .int c0, .ref 373]) (E := E) (z := z) (lv := lv) hd mhL_buy hlk rfl rfl hcat (by exact Nat.le_of_ble_eq_true rfl) (s_L_buy (by omega) hCA hw hn (Nat.le_refl _) (Nat.le_refl _) K)
set_option maxRecDepth 100000 in
theorem pkmL_move : tables_1[856]? = some (pv_cwH mL_move) := by rfl
theorem mhL_move : pv_mH mL_move 5 := ⟨pv_t 856 pkmL_move rfl, (pv_t 0 (by decide +kernel) rfl), ⟨by decide +kernel, by decide +kernel⟩, by decide +kernel, by decide +kernel, by decide, (pv_t 855 (by decide +kernel) rfl)⟩
theorem pc_move {X : pv_XS} {a0 b0 c0 : Int32} : (po_move X a0 b0 c0).1 ≤ 3 := by
  unfold po_move
  repeat' split
  all_goals first | omega | exact Nat.zero_le _ | exact Nat.le_refl _ | decide
set_option maxRecDepth 100000 in
set_option maxHeartbeats 4000000 in
theorem s_L_move {Q : pv_Q} {E : pv_E} {d bc bs : Nat} {J : pv_JT} {I : pv_IT} {X : pv_XS} {n : Nat} {a0 b0 c0 : Int32} (hD : 9 ≤ d) (hCA : CA I X) (hw : wx n X) (hn : n ≤ 600) (hbc : 6 ≤ bc) (hbs : 36 ≤ bs) (h : ∀ I' : pv_IT, CA I' (po_move X a0 b0 c0).2.2 → (∀ k, 365 ≤ k → I' k = I k) → Q (.inl (some (.int (nI (po_move X a0 b0 c0).1)))) pv_K0 pv_P0 I' (lw_J J (po_move X a0 b0 c0))) : pv_X (pv_ZQ E Q) E d bc bs mL_move 0 [(0, .ref 0), (1, .int a0), (2, .int b0), (3, .int c0), (4, .ref 373)] [] pv_K0 pv_P0 I J := by
  obtain ⟨⟨T, L⟩, H, B⟩ := X
  refine px_aload dL_move_0 rfl ?_
  refine px_iconst (v := nI 0) dL_move_2 (by decide) ?_
  refine px_aload_n dL_move_3 rfl ?_
  refine px_iload_n dL_move_4 rfl ?_
  refine px_iload_n dL_move_5 rfl ?_
  refine px_iload_n dL_move_6 rfl ?_
  refine c_X9_move dL_move_7 mlL_45 (by omega) hCA hw hn hbc hbs (Nat.le_of_ble_eq_true rfl) ?_
  have hc := pc_move (X := ((T, L), H, B)) (a0 := a0) (b0 := b0) (c0 := c0)
  generalize po_move ((T, L), H, B) a0 b0 c0 = r at h hc ⊢
  obtain ⟨c9, v9, X9⟩ := r
  replace hc : c9 ≤ 3 := hc
  intro I9 hC9 hF9
  match c9, hc with
  | 0, _ =>
    show pv_X _ E d _ _ _ _ _ _ _ _ _ _
    refine px_i2l dL_move_10 ?_
    refine px_last (j := 0) dL_move_11 pv_s_out rfl (by decide) (by decide) pv_k_out ?_
    refine px_goto (tgt := 27) dL_move_12 (by decide) ?_
    refine px_iconst (v := nI 0) dL_move_27 (by decide) ?_
    exact px_iret dL_move_28 rfl (Or.inl rfl) (h I9 hC9 hF9)
  | 1, _ =>
    refine px_catchA (hp := 15) (X := pv_xIO) [] (0, 12, 15, 21) [(0, 12, 19, 13), (0, 12, 23, 15)] rfl (fun y hy => absurd hy List.not_mem_nil) rfl (by decide) lx_IO (by decide) rfl dL_move_15 (by decide) ?_
    refine px_iconst (v := nI 1) dL_move_17 (by decide) ?_
    exact px_iret dL_move_18 rfl (Or.inl rfl) (h I9 hC9 hF9)
  | 2, _ =>
    refine px_catchA (hp := 19) (X := pv_xIA) [(0, 12, 15, 21)] (0, 12, 19, 13) [(0, 12, 23, 15)] rfl (List.forall_mem_cons.mpr ⟨⟨by decide, pv_xIO, lx_IO, by decide⟩, (fun y hy => absurd hy List.not_mem_nil)⟩) rfl (by decide) lx_IA (by decide) rfl dL_move_19 (by decide) ?_
    refine px_iconst (v := nI 2) dL_move_21 (by decide) ?_
    exact px_iret dL_move_22 rfl (Or.inl rfl) (h I9 hC9 hF9)
  | 3, _ =>
    refine px_catchA (hp := 23) (X := pv_xIS) [(0, 12, 15, 21), (0, 12, 19, 13)] (0, 12, 23, 15) [] rfl (List.forall_mem_cons.mpr ⟨⟨by decide, pv_xIO, lx_IO, by decide⟩, (List.forall_mem_cons.mpr ⟨⟨by decide, pv_xIA, lx_IA, by decide⟩, (fun y hy => absurd hy List.not_mem_nil)⟩)⟩) rfl (by decide) lx_IS (by decide) rfl dL_move_23 (by decide) ?_
    refine px_iconst (v := nI 3) dL_move_25 (by decide) ?_
    exact px_iret dL_move_26 rfl (Or.inl rfl) (h I9 hC9 hF9)
  | k + 4, hk => exact absurd hk (by omega)
theorem c_L_move {z : pv_Z} {E : pv_E} {d bc bs : Nat} {J : pv_JT} {I : pv_IT} {mi : pv_MI} {pc idx : Nat} {lv : pv_LV} {st : List Value} {X : pv_XS} {n : Nat} {a0 b0 c0 : Int32} (hd : decode mi.2.1 pc = .ok (.invokestatic idx, 3)) (hlk : Cond.methodLink mi.1.cls idx mL_move.1 ∈ pv_W) (hD : 10 ≤ d) (hCA : CA I X) (hw : wx n X) (hn : n ≤ 600) (hcat : (st.map fun v => v.category).sum ≤ 8) (K : ∀ I' : pv_IT, CA I' (po_move X a0 b0 c0).2.2 → (∀ k, 365 ≤ k → I' k = I k) → pv_X z E d bc bs mi (pc + 3) lv (.int (nI (po_move X a0 b0 c0).1) :: st) pv_K0 pv_P0 I' (lw_J J (po_move X a0 b0 c0))) : pv_X z E d (6 + bc) (36 + bs) mi pc lv (.ref 373 :: .int c0 :: .int b0 :: .int a0 :: .ref 0 :: st) pv_K0 pv_P0 I J := by
  obtain ⟨d, rfl⟩ : ∃ d0, d = d0 + 1 := ⟨d - 1, by omega⟩
  exact px_callSH (bc := bc) (bs := bs) (bc1 := 6) (bs1 := 36) (as := [.ref 0, .int a0, .int b0, .int c0, .ref 373]) (E := E) (z := z) (lv := lv) hd mhL_move hlk rfl rfl hcat (by exact Nat.le_of_ble_eq_true rfl) (s_L_move (by omega) hCA hw hn (Nat.le_refl _) (Nat.le_refl _) K)
set_option maxRecDepth 100000 in
theorem pkmL_discard : tables_1[872]? = some (pv_cwH mL_discard) := by rfl
theorem mhL_discard : pv_mH mL_discard 4 := ⟨pv_t 872 pkmL_discard rfl, (pv_t 0 (by decide +kernel) rfl), ⟨by decide +kernel, by decide +kernel⟩, by decide +kernel, by decide +kernel, by decide, (pv_t 871 (by decide +kernel) rfl)⟩
theorem pc_discard {X : pv_XS} {a0 b0 : Int32} : (po_discard X a0 b0).1 ≤ 2 := by
  unfold po_discard
  repeat' split
  all_goals first | omega | exact Nat.zero_le _ | exact Nat.le_refl _ | decide
set_option maxRecDepth 100000 in
set_option maxHeartbeats 4000000 in
theorem s_L_discard {Q : pv_Q} {E : pv_E} {d bc bs : Nat} {J : pv_JT} {I : pv_IT} {X : pv_XS} {n : Nat} {a0 b0 : Int32} (hD : 9 ≤ d) (hCA : CA I X) (hw : wx n X) (hn : n ≤ 600) (hbc : 6 ≤ bc) (hbs : 36 ≤ bs) (h : ∀ I' : pv_IT, CA I' (po_discard X a0 b0).2.2 → (∀ k, 365 ≤ k → I' k = I k) → Q (.inl (some (.int (nI (po_discard X a0 b0).1)))) pv_K0 pv_P0 I' (lw_J J (po_discard X a0 b0))) : pv_X (pv_ZQ E Q) E d bc bs mL_discard 0 [(0, .ref 0), (1, .int a0), (2, .int b0), (3, .ref 373)] [] pv_K0 pv_P0 I J := by
  obtain ⟨⟨T, L⟩, H, B⟩ := X
  refine px_aload_n dL_discard_0 rfl ?_
  refine px_iconst (v := nI 0) dL_discard_1 (by decide) ?_
  refine px_aload_n dL_discard_2 rfl ?_
  refine px_iload_n dL_discard_3 rfl ?_
  refine px_iload_n dL_discard_4 rfl ?_
  refine c_X9_discard dL_discard_5 mlL_48 (by omega) hCA hw hn hbc hbs (Nat.le_of_ble_eq_true rfl) ?_
  have hc := pc_discard (X := ((T, L), H, B)) (a0 := a0) (b0 := b0)
  generalize po_discard ((T, L), H, B) a0 b0 = r at h hc ⊢
  obtain ⟨c9, v9, X9⟩ := r
  replace hc : c9 ≤ 2 := hc
  intro I9 hC9 hF9
  match c9, hc with
  | 0, _ =>
    show pv_X _ E d _ _ _ _ _ _ _ _ _ _
    refine px_i2l dL_discard_8 ?_
    refine px_last (j := 0) dL_discard_9 pv_s_out rfl (by decide) (by decide) pv_k_out ?_
    refine px_goto (tgt := 21) dL_discard_10 (by decide) ?_
    refine px_iconst (v := nI 0) dL_discard_21 (by decide) ?_
    exact px_iret dL_discard_22 rfl (Or.inl rfl) (h I9 hC9 hF9)
  | 1, _ =>
    refine px_catchA (hp := 13) (X := pv_xIO) [] (0, 10, 13, 21) [(0, 10, 17, 13)] rfl (fun y hy => absurd hy List.not_mem_nil) rfl (by decide) lx_IO (by decide) rfl dL_discard_13 (by decide) ?_
    refine px_iconst (v := nI 1) dL_discard_15 (by decide) ?_
    exact px_iret dL_discard_16 rfl (Or.inl rfl) (h I9 hC9 hF9)
  | 2, _ =>
    refine px_catchA (hp := 17) (X := pv_xIA) [(0, 10, 13, 21)] (0, 10, 17, 13) [] rfl (List.forall_mem_cons.mpr ⟨⟨by decide, pv_xIO, lx_IO, by decide⟩, (fun y hy => absurd hy List.not_mem_nil)⟩) rfl (by decide) lx_IA (by decide) rfl dL_discard_17 (by decide) ?_
    refine px_iconst (v := nI 2) dL_discard_19 (by decide) ?_
    exact px_iret dL_discard_20 rfl (Or.inl rfl) (h I9 hC9 hF9)
  | k + 3, hk => exact absurd hk (by omega)
theorem c_L_discard {z : pv_Z} {E : pv_E} {d bc bs : Nat} {J : pv_JT} {I : pv_IT} {mi : pv_MI} {pc idx : Nat} {lv : pv_LV} {st : List Value} {X : pv_XS} {n : Nat} {a0 b0 : Int32} (hd : decode mi.2.1 pc = .ok (.invokestatic idx, 3)) (hlk : Cond.methodLink mi.1.cls idx mL_discard.1 ∈ pv_W) (hD : 10 ≤ d) (hCA : CA I X) (hw : wx n X) (hn : n ≤ 600) (hcat : (st.map fun v => v.category).sum ≤ 8) (K : ∀ I' : pv_IT, CA I' (po_discard X a0 b0).2.2 → (∀ k, 365 ≤ k → I' k = I k) → pv_X z E d bc bs mi (pc + 3) lv (.int (nI (po_discard X a0 b0).1) :: st) pv_K0 pv_P0 I' (lw_J J (po_discard X a0 b0))) : pv_X z E d (6 + bc) (36 + bs) mi pc lv (.ref 373 :: .int b0 :: .int a0 :: .ref 0 :: st) pv_K0 pv_P0 I J := by
  obtain ⟨d, rfl⟩ : ∃ d0, d = d0 + 1 := ⟨d - 1, by omega⟩
  exact px_callSH (bc := bc) (bs := bs) (bc1 := 6) (bs1 := 36) (as := [.ref 0, .int a0, .int b0, .ref 373]) (E := E) (z := z) (lv := lv) hd mhL_discard hlk rfl rfl hcat (by exact Nat.le_of_ble_eq_true rfl) (s_L_discard (by omega) hCA hw hn (Nat.le_refl _) (Nat.le_refl _) K)
set_option maxRecDepth 100000 in
theorem pkmL_pass : tables_1[881]? = some (pv_cwH mL_pass) := by rfl
theorem mhL_pass : pv_mH mL_pass 3 := ⟨pv_t 881 pkmL_pass rfl, (pv_t 0 (by decide +kernel) rfl), ⟨by decide +kernel, by decide +kernel⟩, by decide +kernel, by decide +kernel, by decide, (pv_t 880 (by decide +kernel) rfl)⟩
theorem pc_pass {X : pv_XS} {a0 : Int32} : (po_pass X a0).1 ≤ 1 := by
  unfold po_pass
  repeat' split
  all_goals first | omega | exact Nat.zero_le _ | exact Nat.le_refl _ | decide
set_option maxRecDepth 100000 in
set_option maxHeartbeats 4000000 in
theorem s_L_pass {Q : pv_Q} {E : pv_E} {d bc bs : Nat} {J : pv_JT} {I : pv_IT} {X : pv_XS} {n : Nat} {a0 : Int32} (hD : 9 ≤ d) (hCA : CA I X) (hw : wx n X) (hn : n ≤ 600) (hbc : 6 ≤ bc) (hbs : 36 ≤ bs) (h : ∀ I' : pv_IT, CA I' (po_pass X a0).2.2 → (∀ k, 365 ≤ k → I' k = I k) → Q (.inl (some (.int (nI (po_pass X a0).1)))) pv_K0 pv_P0 I' (lw_J J (po_pass X a0))) : pv_X (pv_ZQ E Q) E d bc bs mL_pass 0 [(0, .ref 0), (1, .int a0), (2, .ref 373)] [] pv_K0 pv_P0 I J := by
  obtain ⟨⟨T, L⟩, H, B⟩ := X
  refine px_aload_n dL_pass_0 rfl ?_
  refine px_iconst (v := nI 0) dL_pass_1 (by decide) ?_
  refine px_aload_n dL_pass_2 rfl ?_
  refine px_iload_n dL_pass_3 rfl ?_
  refine c_X9_pass dL_pass_4 mlL_51 (by omega) hCA hw hn hbc hbs (Nat.le_of_ble_eq_true rfl) ?_
  have hc := pc_pass (X := ((T, L), H, B)) (a0 := a0)
  generalize po_pass ((T, L), H, B) a0 = r at h hc ⊢
  obtain ⟨c9, v9, X9⟩ := r
  replace hc : c9 ≤ 1 := hc
  intro I9 hC9 hF9
  match c9, hc with
  | 0, _ =>
    show pv_X _ E d _ _ _ _ _ _ _ _ _ _
    refine px_i2l dL_pass_7 ?_
    refine px_last (j := 0) dL_pass_8 pv_s_out rfl (by decide) (by decide) pv_k_out ?_
    refine px_goto (tgt := 15) dL_pass_9 (by decide) ?_
    refine px_iconst (v := nI 0) dL_pass_15 (by decide) ?_
    exact px_iret dL_pass_16 rfl (Or.inl rfl) (h I9 hC9 hF9)
  | 1, _ =>
    refine px_catchN (hp := 12) (X := pv_xIA) [] (0, 9, 12, 13) [] rfl (fun y hy => absurd hy List.not_mem_nil) rfl (by decide) lx_IA (by decide) rfl dL_pass_12 (by decide) ?_
    refine px_iconst (v := nI 1) dL_pass_13 (by decide) ?_
    exact px_iret dL_pass_14 rfl (Or.inl rfl) (h I9 hC9 hF9)
  | k + 2, hk => exact absurd hk (by omega)
theorem c_L_pass {z : pv_Z} {E : pv_E} {d bc bs : Nat} {J : pv_JT} {I : pv_IT} {mi : pv_MI} {pc idx : Nat} {lv : pv_LV} {st : List Value} {X : pv_XS} {n : Nat} {a0 : Int32} (hd : decode mi.2.1 pc = .ok (.invokestatic idx, 3)) (hlk : Cond.methodLink mi.1.cls idx mL_pass.1 ∈ pv_W) (hD : 10 ≤ d) (hCA : CA I X) (hw : wx n X) (hn : n ≤ 600) (hcat : (st.map fun v => v.category).sum ≤ 8) (K : ∀ I' : pv_IT, CA I' (po_pass X a0).2.2 → (∀ k, 365 ≤ k → I' k = I k) → pv_X z E d bc bs mi (pc + 3) lv (.int (nI (po_pass X a0).1) :: st) pv_K0 pv_P0 I' (lw_J J (po_pass X a0))) : pv_X z E d (6 + bc) (36 + bs) mi pc lv (.ref 373 :: .int a0 :: .ref 0 :: st) pv_K0 pv_P0 I J := by
  obtain ⟨d, rfl⟩ : ∃ d0, d = d0 + 1 := ⟨d - 1, by omega⟩
  exact px_callSH (bc := bc) (bs := bs) (bc1 := 6) (bs1 := 36) (as := [.ref 0, .int a0, .ref 373]) (E := E) (z := z) (lv := lv) hd mhL_pass hlk rfl rfl hcat (by exact Nat.le_of_ble_eq_true rfl) (s_L_pass (by omega) hCA hw hn (Nat.le_refl _) (Nat.le_refl _) K)
set_option maxRecDepth 100000 in
theorem pkmL_append : tables_1[888]? = some (pv_cwH mL_append) := by rfl
theorem mhL_append : pv_mH mL_append 3 := ⟨pv_t 888 pkmL_append rfl, (pv_t 0 (by decide +kernel) rfl), ⟨by decide +kernel, by decide +kernel⟩, by decide +kernel, by decide +kernel, by decide, (pv_t 887 (by decide +kernel) rfl)⟩
theorem pc_append {X : pv_XS} {a0 : Int32} : (po_append X a0).1 ≤ 2 := by
  unfold po_append
  repeat' split
  all_goals first | omega | exact Nat.zero_le _ | exact Nat.le_refl _ | decide
set_option maxRecDepth 100000 in
set_option maxHeartbeats 4000000 in
theorem s_L_append {Q : pv_Q} {E : pv_E} {d bc bs : Nat} {J : pv_JT} {I : pv_IT} {X : pv_XS} {n : Nat} {a0 : Int32} (hD : 9 ≤ d) (hCA : CA I X) (hw : wx n X) (hn : n ≤ 600) (hbc : 6 ≤ bc) (hbs : 36 ≤ bs) (h : ∀ I' : pv_IT, CA I' (po_append X a0).2.2 → (∀ k, 365 ≤ k → I' k = I k) → Q (.inl (some (.int (nI (po_append X a0).1)))) pv_K0 pv_P0 I' (lw_J J (po_append X a0))) : pv_X (pv_ZQ E Q) E d bc bs mL_append 0 [(0, .ref 0), (1, .int a0), (2, .ref 373)] [] pv_K0 pv_P0 I J := by
  obtain ⟨⟨T, L⟩, H, B⟩ := X
  refine px_aload_n dL_append_0 rfl ?_
  refine px_iconst (v := nI 0) dL_append_1 (by decide) ?_
  refine px_aload_n dL_append_2 rfl ?_
  refine px_iload_n dL_append_3 rfl ?_
  refine c_X9_append dL_append_4 mlL_54 (by omega) hCA hw hn hbc hbs (Nat.le_of_ble_eq_true rfl) ?_
  have hc := pc_append (X := ((T, L), H, B)) (a0 := a0)
  generalize po_append ((T, L), H, B) a0 = r at h hc ⊢
  obtain ⟨c9, v9, X9⟩ := r
  replace hc : c9 ≤ 2 := hc
  intro I9 hC9 hF9
  match c9, hc with
  | 0, _ =>
    show pv_X _ E d _ _ _ _ _ _ _ _ _ _
    refine px_i2l dL_append_7 ?_
    refine px_last (j := 0) dL_append_8 pv_s_out rfl (by decide) (by decide) pv_k_out ?_
    refine px_goto (tgt := 18) dL_append_9 (by decide) ?_
    refine px_iconst (v := nI 0) dL_append_18 (by decide) ?_
    exact px_iret dL_append_19 rfl (Or.inl rfl) (h I9 hC9 hF9)
  | 1, _ =>
    refine px_catchN (hp := 12) (X := pv_xIA) [] (0, 9, 12, 13) [(0, 9, 15, 15)] rfl (fun y hy => absurd hy List.not_mem_nil) rfl (by decide) lx_IA (by decide) rfl dL_append_12 (by decide) ?_
    refine px_iconst (v := nI 1) dL_append_13 (by decide) ?_
    exact px_iret dL_append_14 rfl (Or.inl rfl) (h I9 hC9 hF9)
  | 2, _ =>
    refine px_catchN (hp := 15) (X := pv_xIS) [(0, 9, 12, 13)] (0, 9, 15, 15) [] rfl (List.forall_mem_cons.mpr ⟨⟨by decide, pv_xIA, lx_IA, by decide⟩, (fun y hy => absurd hy List.not_mem_nil)⟩) rfl (by decide) lx_IS (by decide) rfl dL_append_15 (by decide) ?_
    refine px_iconst (v := nI 2) dL_append_16 (by decide) ?_
    exact px_iret dL_append_17 rfl (Or.inl rfl) (h I9 hC9 hF9)
  | k + 3, hk => exact absurd hk (by omega)
theorem c_L_append {z : pv_Z} {E : pv_E} {d bc bs : Nat} {J : pv_JT} {I : pv_IT} {mi : pv_MI} {pc idx : Nat} {lv : pv_LV} {st : List Value} {X : pv_XS} {n : Nat} {a0 : Int32} (hd : decode mi.2.1 pc = .ok (.invokestatic idx, 3)) (hlk : Cond.methodLink mi.1.cls idx mL_append.1 ∈ pv_W) (hD : 10 ≤ d) (hCA : CA I X) (hw : wx n X) (hn : n ≤ 600) (hcat : (st.map fun v => v.category).sum ≤ 8) (K : ∀ I' : pv_IT, CA I' (po_append X a0).2.2 → (∀ k, 365 ≤ k → I' k = I k) → pv_X z E d bc bs mi (pc + 3) lv (.int (nI (po_append X a0).1) :: st) pv_K0 pv_P0 I' (lw_J J (po_append X a0))) : pv_X z E d (6 + bc) (36 + bs) mi pc lv (.ref 373 :: .int a0 :: .ref 0 :: st) pv_K0 pv_P0 I J := by
  obtain ⟨d, rfl⟩ : ∃ d0, d = d0 + 1 := ⟨d - 1, by omega⟩
  exact px_callSH (bc := bc) (bs := bs) (bc1 := 6) (bs1 := 36) (as := [.ref 0, .int a0, .ref 373]) (E := E) (z := z) (lv := lv) hd mhL_append hlk rfl rfl hcat (by exact Nat.le_of_ble_eq_true rfl) (s_L_append (by omega) hCA hw hn (Nat.le_refl _) (Nat.le_refl _) K)
set_option maxRecDepth 100000 in
theorem pkmL_load : tables_1[896]? = some (pv_cwH mL_load) := by rfl
theorem mhL_load : pv_mH mL_load 2 := ⟨pv_t 896 pkmL_load rfl, (pv_t 0 (by decide +kernel) rfl), ⟨by decide +kernel, by decide +kernel⟩, by decide +kernel, by decide +kernel, by decide, (pv_t 895 (by decide +kernel) rfl)⟩
theorem pc_load {X : pv_XS} : (po_load X ).1 ≤ 2 := by
  unfold po_load
  cases pz_run (bf X.2.2) X.2.2.length with
  | none => exact (by decide : (1 : Nat) ≤ 2)
  | some Z =>
    show (po_loadZ X Z).1 ≤ 2
    unfold po_loadZ
    repeat' split
    all_goals first | exact (by decide : (0 : Nat) ≤ 2) | exact (by decide : (1 : Nat) ≤ 2) | exact (by decide : (2 : Nat) ≤ 2)
set_option maxRecDepth 100000 in
set_option maxHeartbeats 4000000 in
theorem s_L_load {Q : pv_Q} {E : pv_E} {d bc bs : Nat} {J : pv_JT} {I : pv_IT} {X : pv_XS} {n : Nat} (hD : 9 ≤ d) (hCA : CA I X) (hw : wx n X) (hn : n ≤ 600) (hbc : 6 ≤ bc) (hbs : 36 ≤ bs) (h : ∀ I' : pv_IT, CA I' (po_load X ).2.2 → (∀ k, 365 ≤ k → I' k = I k) → Q (.inl (some (.int (nI (po_load X ).1)))) pv_K0 pv_P0 I' (lw_J J (po_load X ))) : pv_X (pv_ZQ E Q) E d bc bs mL_load 0 [(0, .ref 0), (1, .ref 373)] [] pv_K0 pv_P0 I J := by
  obtain ⟨⟨T, L⟩, H, B⟩ := X
  refine px_aload_n dL_load_0 rfl ?_
  refine px_iconst (v := nI 0) dL_load_1 (by decide) ?_
  refine px_aload_n dL_load_2 rfl ?_
  refine c_X9_load dL_load_3 mlL_57 (by omega) hCA hw hn hbc hbs (Nat.le_of_ble_eq_true rfl) ?_
  have hc := pc_load (X := ((T, L), H, B))
  generalize po_load ((T, L), H, B)  = r at h hc ⊢
  obtain ⟨c9, v9, X9⟩ := r
  replace hc : c9 ≤ 2 := hc
  intro I9 hC9 hF9
  match c9, hc with
  | 0, _ =>
    show pv_X _ E d _ _ _ _ _ _ _ _ _ _
    refine px_i2l dL_load_6 ?_
    refine px_last (j := 0) dL_load_7 pv_s_out rfl (by decide) (by decide) pv_k_out ?_
    refine px_goto (tgt := 17) dL_load_8 (by decide) ?_
    refine px_iconst (v := nI 0) dL_load_17 (by decide) ?_
    exact px_iret dL_load_18 rfl (Or.inl rfl) (h I9 hC9 hF9)
  | 1, _ =>
    refine px_catchN (hp := 11) (X := pv_xIA) [] (0, 8, 11, 13) [(0, 8, 14, 15)] rfl (fun y hy => absurd hy List.not_mem_nil) rfl (by decide) lx_IA (by decide) rfl dL_load_11 (by decide) ?_
    refine px_iconst (v := nI 1) dL_load_12 (by decide) ?_
    exact px_iret dL_load_13 rfl (Or.inl rfl) (h I9 hC9 hF9)
  | 2, _ =>
    refine px_catchN (hp := 14) (X := pv_xIS) [(0, 8, 11, 13)] (0, 8, 14, 15) [] rfl (List.forall_mem_cons.mpr ⟨⟨by decide, pv_xIA, lx_IA, by decide⟩, (fun y hy => absurd hy List.not_mem_nil)⟩) rfl (by decide) lx_IS (by decide) rfl dL_load_14 (by decide) ?_
    refine px_iconst (v := nI 2) dL_load_15 (by decide) ?_
    exact px_iret dL_load_16 rfl (Or.inl rfl) (h I9 hC9 hF9)
  | k + 3, hk => exact absurd hk (by omega)
theorem c_L_load {z : pv_Z} {E : pv_E} {d bc bs : Nat} {J : pv_JT} {I : pv_IT} {mi : pv_MI} {pc idx : Nat} {lv : pv_LV} {st : List Value} {X : pv_XS} {n : Nat} (hd : decode mi.2.1 pc = .ok (.invokestatic idx, 3)) (hlk : Cond.methodLink mi.1.cls idx mL_load.1 ∈ pv_W) (hD : 10 ≤ d) (hCA : CA I X) (hw : wx n X) (hn : n ≤ 600) (hcat : (st.map fun v => v.category).sum ≤ 8) (K : ∀ I' : pv_IT, CA I' (po_load X ).2.2 → (∀ k, 365 ≤ k → I' k = I k) → pv_X z E d bc bs mi (pc + 3) lv (.int (nI (po_load X ).1) :: st) pv_K0 pv_P0 I' (lw_J J (po_load X ))) : pv_X z E d (6 + bc) (36 + bs) mi pc lv (.ref 373 :: .ref 0 :: st) pv_K0 pv_P0 I J := by
  obtain ⟨d, rfl⟩ : ∃ d0, d = d0 + 1 := ⟨d - 1, by omega⟩
  exact px_callSH (bc := bc) (bs := bs) (bc1 := 6) (bs1 := 36) (as := [.ref 0, .ref 373]) (E := E) (z := z) (lv := lv) hd mhL_load hlk rfl rfl hcat (by exact Nat.le_of_ble_eq_true rfl) (s_L_load (by omega) hCA hw hn (Nat.le_refl _) (Nat.le_refl _) K)
set_option maxRecDepth 100000 in
theorem pkmL_undo : tables_1[910]? = some (pv_cwH mL_undo) := by rfl
theorem mhL_undo : pv_mH mL_undo 2 := ⟨pv_t 910 pkmL_undo rfl, (pv_t 0 (by decide +kernel) rfl), ⟨by decide +kernel, by decide +kernel⟩, by decide +kernel, by decide +kernel, by decide, (pv_t 909 (by decide +kernel) rfl)⟩
theorem pc_undo {X : pv_XS} : (po_undo X ).1 ≤ 1 := by
  unfold po_undo
  repeat' split
  all_goals first | omega | exact Nat.zero_le _ | exact Nat.le_refl _ | decide
set_option maxRecDepth 100000 in
set_option maxHeartbeats 4000000 in
theorem s_L_undo {Q : pv_Q} {E : pv_E} {d bc bs : Nat} {J : pv_JT} {I : pv_IT} {X : pv_XS} {n : Nat} (hD : 9 ≤ d) (hCA : CA I X) (hw : wx n X) (hn : n ≤ 600) (hbc : 6 ≤ bc) (hbs : 36 ≤ bs) (h : ∀ I' : pv_IT, CA I' (po_undo X ).2.2 → (∀ k, 365 ≤ k → I' k = I k) → Q (.inl (some (.int (nI (po_undo X ).1)))) pv_K0 pv_P0 I' (lw_J J (po_undo X ))) : pv_X (pv_ZQ E Q) E d bc bs mL_undo 0 [(0, .ref 0), (1, .ref 373)] [] pv_K0 pv_P0 I J := by
  obtain ⟨⟨T, L⟩, H, B⟩ := X
  refine px_aload_n dL_undo_0 rfl ?_
  refine px_iconst (v := nI 0) dL_undo_1 (by decide) ?_
  refine px_aload_n dL_undo_2 rfl ?_
  refine c_X9_undo dL_undo_3 mlL_61 (by omega) hCA hw hn hbc hbs (Nat.le_of_ble_eq_true rfl) ?_
  have hc := pc_undo (X := ((T, L), H, B))
  generalize po_undo ((T, L), H, B)  = r at h hc ⊢
  obtain ⟨c9, v9, X9⟩ := r
  replace hc : c9 ≤ 1 := hc
  intro I9 hC9 hF9
  match c9, hc with
  | 0, _ =>
    show pv_X _ E d _ _ _ _ _ _ _ _ _ _
    refine px_i2l dL_undo_6 ?_
    refine px_last (j := 0) dL_undo_7 pv_s_out rfl (by decide) (by decide) pv_k_out ?_
    refine px_goto (tgt := 14) dL_undo_8 (by decide) ?_
    refine px_iconst (v := nI 0) dL_undo_14 (by decide) ?_
    exact px_iret dL_undo_15 rfl (Or.inl rfl) (h I9 hC9 hF9)
  | 1, _ =>
    refine px_catchN (hp := 11) (X := pv_xIS) [] (0, 8, 11, 15) [] rfl (fun y hy => absurd hy List.not_mem_nil) rfl (by decide) lx_IS (by decide) rfl dL_undo_11 (by decide) ?_
    refine px_iconst (v := nI 1) dL_undo_12 (by decide) ?_
    exact px_iret dL_undo_13 rfl (Or.inl rfl) (h I9 hC9 hF9)
  | k + 2, hk => exact absurd hk (by omega)
theorem c_L_undo {z : pv_Z} {E : pv_E} {d bc bs : Nat} {J : pv_JT} {I : pv_IT} {mi : pv_MI} {pc idx : Nat} {lv : pv_LV} {st : List Value} {X : pv_XS} {n : Nat} (hd : decode mi.2.1 pc = .ok (.invokestatic idx, 3)) (hlk : Cond.methodLink mi.1.cls idx mL_undo.1 ∈ pv_W) (hD : 10 ≤ d) (hCA : CA I X) (hw : wx n X) (hn : n ≤ 600) (hcat : (st.map fun v => v.category).sum ≤ 8) (K : ∀ I' : pv_IT, CA I' (po_undo X ).2.2 → (∀ k, 365 ≤ k → I' k = I k) → pv_X z E d bc bs mi (pc + 3) lv (.int (nI (po_undo X ).1) :: st) pv_K0 pv_P0 I' (lw_J J (po_undo X ))) : pv_X z E d (6 + bc) (36 + bs) mi pc lv (.ref 373 :: .ref 0 :: st) pv_K0 pv_P0 I J := by
  obtain ⟨d, rfl⟩ : ∃ d0, d = d0 + 1 := ⟨d - 1, by omega⟩
  exact px_callSH (bc := bc) (bs := bs) (bc1 := 6) (bs1 := 36) (as := [.ref 0, .ref 373]) (E := E) (z := z) (lv := lv) hd mhL_undo hlk rfl rfl hcat (by exact Nat.le_of_ble_eq_true rfl) (s_L_undo (by omega) hCA hw hn (Nat.le_refl _) (Nat.le_refl _) K)
set_option maxRecDepth 100000 in
theorem pkmL_lot : tables_1[922]? = some (pv_cwH mL_lot) := by rfl
theorem mhL_lot : pv_mH mL_lot 4 := ⟨pv_t 922 pkmL_lot rfl, (pv_t 0 (by decide +kernel) rfl), ⟨by decide +kernel, by decide +kernel⟩, by decide +kernel, by decide +kernel, by decide, (pv_t 921 (by decide +kernel) rfl)⟩
theorem pc_lot {X : pv_XS} {a0 b0 : Int32} : (po_lot X a0 b0).1 ≤ 2 := by
  unfold po_lot
  repeat' split
  all_goals first | omega | exact Nat.zero_le _ | exact Nat.le_refl _ | decide
set_option maxRecDepth 100000 in
set_option maxHeartbeats 4000000 in
theorem s_L_lot {Q : pv_Q} {E : pv_E} {d bc bs : Nat} {J : pv_JT} {I : pv_IT} {X : pv_XS} {n : Nat} {a0 b0 : Int32} (hD : 9 ≤ d) (hCA : CA I X) (hw : wx n X) (hn : n ≤ 600) (hbc : 6 ≤ bc) (hbs : 36 ≤ bs) (h : ∀ I' : pv_IT, CA I' (po_lot X a0 b0).2.2 → (∀ k, 365 ≤ k → I' k = I k) → Q (.inl (some (.int (nI (po_lot X a0 b0).1)))) pv_K0 pv_P0 I' (lw_J J (po_lot X a0 b0))) : pv_X (pv_ZQ E Q) E d bc bs mL_lot 0 [(0, .ref 0), (1, .int a0), (2, .int b0), (3, .ref 373)] [] pv_K0 pv_P0 I J := by
  obtain ⟨⟨T, L⟩, H, B⟩ := X
  refine px_aload_n dL_lot_0 rfl ?_
  refine px_iconst (v := nI 0) dL_lot_1 (by decide) ?_
  refine px_aload_n dL_lot_2 rfl ?_
  refine px_iload_n dL_lot_3 rfl ?_
  refine px_iload_n dL_lot_4 rfl ?_
  refine c_X9_lot dL_lot_5 mlL_64 (by omega) hCA hw hn hbc hbs (Nat.le_of_ble_eq_true rfl) ?_
  have hc := pc_lot (X := ((T, L), H, B)) (a0 := a0) (b0 := b0)
  generalize po_lot ((T, L), H, B) a0 b0 = r at h hc ⊢
  obtain ⟨c9, v9, X9⟩ := r
  replace hc : c9 ≤ 2 := hc
  intro I9 hC9 hF9
  match c9, hc with
  | 0, _ =>
    show pv_X _ E d _ _ _ _ _ _ _ _ _ _
    refine px_i2l dL_lot_8 ?_
    refine px_last (j := 0) dL_lot_9 pv_s_out rfl (by decide) (by decide) pv_k_out ?_
    refine px_goto (tgt := 21) dL_lot_10 (by decide) ?_
    refine px_iconst (v := nI 0) dL_lot_21 (by decide) ?_
    exact px_iret dL_lot_22 rfl (Or.inl rfl) (h I9 hC9 hF9)
  | 1, _ =>
    refine px_catchA (hp := 13) (X := pv_xIO) [] (0, 10, 13, 21) [(0, 10, 17, 13)] rfl (fun y hy => absurd hy List.not_mem_nil) rfl (by decide) lx_IO (by decide) rfl dL_lot_13 (by decide) ?_
    refine px_iconst (v := nI 1) dL_lot_15 (by decide) ?_
    exact px_iret dL_lot_16 rfl (Or.inl rfl) (h I9 hC9 hF9)
  | 2, _ =>
    refine px_catchA (hp := 17) (X := pv_xIA) [(0, 10, 13, 21)] (0, 10, 17, 13) [] rfl (List.forall_mem_cons.mpr ⟨⟨by decide, pv_xIO, lx_IO, by decide⟩, (fun y hy => absurd hy List.not_mem_nil)⟩) rfl (by decide) lx_IA (by decide) rfl dL_lot_17 (by decide) ?_
    refine px_iconst (v := nI 2) dL_lot_19 (by decide) ?_
    exact px_iret dL_lot_20 rfl (Or.inl rfl) (h I9 hC9 hF9)
  | k + 3, hk => exact absurd hk (by omega)
theorem c_L_lot {z : pv_Z} {E : pv_E} {d bc bs : Nat} {J : pv_JT} {I : pv_IT} {mi : pv_MI} {pc idx : Nat} {lv : pv_LV} {st : List Value} {X : pv_XS} {n : Nat} {a0 b0 : Int32} (hd : decode mi.2.1 pc = .ok (.invokestatic idx, 3)) (hlk : Cond.methodLink mi.1.cls idx mL_lot.1 ∈ pv_W) (hD : 10 ≤ d) (hCA : CA I X) (hw : wx n X) (hn : n ≤ 600) (hcat : (st.map fun v => v.category).sum ≤ 8) (K : ∀ I' : pv_IT, CA I' (po_lot X a0 b0).2.2 → (∀ k, 365 ≤ k → I' k = I k) → pv_X z E d bc bs mi (pc + 3) lv (.int (nI (po_lot X a0 b0).1) :: st) pv_K0 pv_P0 I' (lw_J J (po_lot X a0 b0))) : pv_X z E d (6 + bc) (36 + bs) mi pc lv (.ref 373 :: .int b0 :: .int a0 :: .ref 0 :: st) pv_K0 pv_P0 I J := by
  obtain ⟨d, rfl⟩ : ∃ d0, d = d0 + 1 := ⟨d - 1, by omega⟩
  exact px_callSH (bc := bc) (bs := bs) (bc1 := 6) (bs1 := 36) (as := [.ref 0, .int a0, .int b0, .ref 373]) (E := E) (z := z) (lv := lv) hd mhL_lot hlk rfl rfl hcat (by exact Nat.le_of_ble_eq_true rfl) (s_L_lot (by omega) hCA hw hn (Nat.le_refl _) (Nat.le_refl _) K)
set_option maxRecDepth 100000 in
theorem pkmL_store : tables_1[926]? = some (pv_cwH mL_store) := by rfl
theorem mhL_store : pv_mH mL_store 4 := ⟨pv_t 926 pkmL_store rfl, (pv_t 0 (by decide +kernel) rfl), ⟨by decide +kernel, by decide +kernel⟩, by decide +kernel, by decide +kernel, by decide, (pv_t 925 (by decide +kernel) rfl)⟩
theorem pc_store {X : pv_XS} {a0 b0 : Int32} : (po_store X a0 b0).1 ≤ 2 := by
  unfold po_store
  repeat' split
  all_goals first | omega | exact Nat.zero_le _ | exact Nat.le_refl _ | decide
set_option maxRecDepth 100000 in
set_option maxHeartbeats 4000000 in
theorem s_L_store {Q : pv_Q} {E : pv_E} {d bc bs : Nat} {J : pv_JT} {I : pv_IT} {X : pv_XS} {n : Nat} {a0 b0 : Int32} (hD : 9 ≤ d) (hCA : CA I X) (hw : wx n X) (hn : n ≤ 600) (hbc : 6 ≤ bc) (hbs : 36 ≤ bs) (h : ∀ I' : pv_IT, CA I' (po_store X a0 b0).2.2 → (∀ k, 365 ≤ k → I' k = I k) → Q (.inl (some (.int (nI (po_store X a0 b0).1)))) pv_K0 pv_P0 I' (lw_J J (po_store X a0 b0))) : pv_X (pv_ZQ E Q) E d bc bs mL_store 0 [(0, .ref 0), (1, .int a0), (2, .int b0), (3, .ref 373)] [] pv_K0 pv_P0 I J := by
  obtain ⟨⟨T, L⟩, H, B⟩ := X
  refine px_aload_n dL_store_0 rfl ?_
  refine px_iconst (v := nI 0) dL_store_1 (by decide) ?_
  refine px_aload_n dL_store_2 rfl ?_
  refine px_iload_n dL_store_3 rfl ?_
  refine px_iload_n dL_store_4 rfl ?_
  refine c_X9_store dL_store_5 mlL_67 (by omega) hCA hw hn hbc hbs (Nat.le_of_ble_eq_true rfl) ?_
  have hc := pc_store (X := ((T, L), H, B)) (a0 := a0) (b0 := b0)
  generalize po_store ((T, L), H, B) a0 b0 = r at h hc ⊢
  obtain ⟨c9, v9, X9⟩ := r
  replace hc : c9 ≤ 2 := hc
  intro I9 hC9 hF9
  match c9, hc with
  | 0, _ =>
    show pv_X _ E d _ _ _ _ _ _ _ _ _ _
    refine px_i2l dL_store_8 ?_
    refine px_last (j := 0) dL_store_9 pv_s_out rfl (by decide) (by decide) pv_k_out ?_
    refine px_goto (tgt := 21) dL_store_10 (by decide) ?_
    refine px_iconst (v := nI 0) dL_store_21 (by decide) ?_
    exact px_iret dL_store_22 rfl (Or.inl rfl) (h I9 hC9 hF9)
  | 1, _ =>
    refine px_catchA (hp := 13) (X := pv_xIO) [] (0, 10, 13, 21) [(0, 10, 17, 13)] rfl (fun y hy => absurd hy List.not_mem_nil) rfl (by decide) lx_IO (by decide) rfl dL_store_13 (by decide) ?_
    refine px_iconst (v := nI 1) dL_store_15 (by decide) ?_
    exact px_iret dL_store_16 rfl (Or.inl rfl) (h I9 hC9 hF9)
  | 2, _ =>
    refine px_catchA (hp := 17) (X := pv_xIA) [(0, 10, 13, 21)] (0, 10, 17, 13) [] rfl (List.forall_mem_cons.mpr ⟨⟨by decide, pv_xIO, lx_IO, by decide⟩, (fun y hy => absurd hy List.not_mem_nil)⟩) rfl (by decide) lx_IA (by decide) rfl dL_store_17 (by decide) ?_
    refine px_iconst (v := nI 2) dL_store_19 (by decide) ?_
    exact px_iret dL_store_20 rfl (Or.inl rfl) (h I9 hC9 hF9)
  | k + 3, hk => exact absurd hk (by omega)
theorem c_L_store {z : pv_Z} {E : pv_E} {d bc bs : Nat} {J : pv_JT} {I : pv_IT} {mi : pv_MI} {pc idx : Nat} {lv : pv_LV} {st : List Value} {X : pv_XS} {n : Nat} {a0 b0 : Int32} (hd : decode mi.2.1 pc = .ok (.invokestatic idx, 3)) (hlk : Cond.methodLink mi.1.cls idx mL_store.1 ∈ pv_W) (hD : 10 ≤ d) (hCA : CA I X) (hw : wx n X) (hn : n ≤ 600) (hcat : (st.map fun v => v.category).sum ≤ 8) (K : ∀ I' : pv_IT, CA I' (po_store X a0 b0).2.2 → (∀ k, 365 ≤ k → I' k = I k) → pv_X z E d bc bs mi (pc + 3) lv (.int (nI (po_store X a0 b0).1) :: st) pv_K0 pv_P0 I' (lw_J J (po_store X a0 b0))) : pv_X z E d (6 + bc) (36 + bs) mi pc lv (.ref 373 :: .int b0 :: .int a0 :: .ref 0 :: st) pv_K0 pv_P0 I J := by
  obtain ⟨d, rfl⟩ : ∃ d0, d = d0 + 1 := ⟨d - 1, by omega⟩
  exact px_callSH (bc := bc) (bs := bs) (bc1 := 6) (bs1 := 36) (as := [.ref 0, .int a0, .int b0, .ref 373]) (E := E) (z := z) (lv := lv) hd mhL_store hlk rfl rfl hcat (by exact Nat.le_of_ble_eq_true rfl) (s_L_store (by omega) hCA hw hn (Nat.le_refl _) (Nat.le_refl _) K)
set_option maxRecDepth 100000 in
theorem pkmL_kind : tables_1[930]? = some (pv_cwH mL_kind) := by rfl
theorem mhL_kind : pv_mH mL_kind 4 := ⟨pv_t 930 pkmL_kind rfl, (pv_t 0 (by decide +kernel) rfl), ⟨by decide +kernel, by decide +kernel⟩, by decide +kernel, by decide +kernel, by decide, (pv_t 929 (by decide +kernel) rfl)⟩
theorem pc_kind {X : pv_XS} {a0 b0 : Int32} : (po_kind X a0 b0).1 ≤ 2 := by
  unfold po_kind
  repeat' split
  all_goals first | omega | exact Nat.zero_le _ | exact Nat.le_refl _ | decide
set_option maxRecDepth 100000 in
set_option maxHeartbeats 4000000 in
theorem s_L_kind {Q : pv_Q} {E : pv_E} {d bc bs : Nat} {J : pv_JT} {I : pv_IT} {X : pv_XS} {n : Nat} {a0 b0 : Int32} (hD : 9 ≤ d) (hCA : CA I X) (hw : wx n X) (hn : n ≤ 600) (hbc : 6 ≤ bc) (hbs : 36 ≤ bs) (h : ∀ I' : pv_IT, CA I' (po_kind X a0 b0).2.2 → (∀ k, 365 ≤ k → I' k = I k) → Q (.inl (some (.int (nI (po_kind X a0 b0).1)))) pv_K0 pv_P0 I' (lw_J J (po_kind X a0 b0))) : pv_X (pv_ZQ E Q) E d bc bs mL_kind 0 [(0, .ref 0), (1, .int a0), (2, .int b0), (3, .ref 373)] [] pv_K0 pv_P0 I J := by
  obtain ⟨⟨T, L⟩, H, B⟩ := X
  refine px_aload_n dL_kind_0 rfl ?_
  refine px_iconst (v := nI 0) dL_kind_1 (by decide) ?_
  refine px_aload_n dL_kind_2 rfl ?_
  refine px_iload_n dL_kind_3 rfl ?_
  refine px_iload_n dL_kind_4 rfl ?_
  refine c_X9_kind dL_kind_5 mlL_70 (by omega) hCA hw hn hbc hbs (Nat.le_of_ble_eq_true rfl) ?_
  have hc := pc_kind (X := ((T, L), H, B)) (a0 := a0) (b0 := b0)
  generalize po_kind ((T, L), H, B) a0 b0 = r at h hc ⊢
  obtain ⟨c9, v9, X9⟩ := r
  replace hc : c9 ≤ 2 := hc
  intro I9 hC9 hF9
  match c9, hc with
  | 0, _ =>
    show pv_X _ E d _ _ _ _ _ _ _ _ _ _
    refine px_i2l dL_kind_8 ?_
    refine px_last (j := 0) dL_kind_9 pv_s_out rfl (by decide) (by decide) pv_k_out ?_
    refine px_goto (tgt := 21) dL_kind_10 (by decide) ?_
    refine px_iconst (v := nI 0) dL_kind_21 (by decide) ?_
    exact px_iret dL_kind_22 rfl (Or.inl rfl) (h I9 hC9 hF9)
  | 1, _ =>
    refine px_catchA (hp := 13) (X := pv_xIO) [] (0, 10, 13, 21) [(0, 10, 17, 13)] rfl (fun y hy => absurd hy List.not_mem_nil) rfl (by decide) lx_IO (by decide) rfl dL_kind_13 (by decide) ?_
    refine px_iconst (v := nI 1) dL_kind_15 (by decide) ?_
    exact px_iret dL_kind_16 rfl (Or.inl rfl) (h I9 hC9 hF9)
  | 2, _ =>
    refine px_catchA (hp := 17) (X := pv_xIA) [(0, 10, 13, 21)] (0, 10, 17, 13) [] rfl (List.forall_mem_cons.mpr ⟨⟨by decide, pv_xIO, lx_IO, by decide⟩, (fun y hy => absurd hy List.not_mem_nil)⟩) rfl (by decide) lx_IA (by decide) rfl dL_kind_17 (by decide) ?_
    refine px_iconst (v := nI 2) dL_kind_19 (by decide) ?_
    exact px_iret dL_kind_20 rfl (Or.inl rfl) (h I9 hC9 hF9)
  | k + 3, hk => exact absurd hk (by omega)
theorem c_L_kind {z : pv_Z} {E : pv_E} {d bc bs : Nat} {J : pv_JT} {I : pv_IT} {mi : pv_MI} {pc idx : Nat} {lv : pv_LV} {st : List Value} {X : pv_XS} {n : Nat} {a0 b0 : Int32} (hd : decode mi.2.1 pc = .ok (.invokestatic idx, 3)) (hlk : Cond.methodLink mi.1.cls idx mL_kind.1 ∈ pv_W) (hD : 10 ≤ d) (hCA : CA I X) (hw : wx n X) (hn : n ≤ 600) (hcat : (st.map fun v => v.category).sum ≤ 8) (K : ∀ I' : pv_IT, CA I' (po_kind X a0 b0).2.2 → (∀ k, 365 ≤ k → I' k = I k) → pv_X z E d bc bs mi (pc + 3) lv (.int (nI (po_kind X a0 b0).1) :: st) pv_K0 pv_P0 I' (lw_J J (po_kind X a0 b0))) : pv_X z E d (6 + bc) (36 + bs) mi pc lv (.ref 373 :: .int b0 :: .int a0 :: .ref 0 :: st) pv_K0 pv_P0 I J := by
  obtain ⟨d, rfl⟩ : ∃ d0, d = d0 + 1 := ⟨d - 1, by omega⟩
  exact px_callSH (bc := bc) (bs := bs) (bc1 := 6) (bs1 := 36) (as := [.ref 0, .int a0, .int b0, .ref 373]) (E := E) (z := z) (lv := lv) hd mhL_kind hlk rfl rfl hcat (by exact Nat.le_of_ble_eq_true rfl) (s_L_kind (by omega) hCA hw hn (Nat.le_refl _) (Nat.le_refl _) K)
set_option maxRecDepth 100000 in
theorem pkmL_port : tables_1[934]? = some (pv_cwH mL_port) := by rfl
theorem mhL_port : pv_mH mL_port 4 := ⟨pv_t 934 pkmL_port rfl, (pv_t 0 (by decide +kernel) rfl), ⟨by decide +kernel, by decide +kernel⟩, by decide +kernel, by decide +kernel, by decide, (pv_t 933 (by decide +kernel) rfl)⟩
theorem pc_port {X : pv_XS} {a0 b0 : Int32} : (po_port X a0 b0).1 ≤ 2 := by
  unfold po_port
  repeat' split
  all_goals first | omega | exact Nat.zero_le _ | exact Nat.le_refl _ | decide
set_option maxRecDepth 100000 in
set_option maxHeartbeats 4000000 in
theorem s_L_port {Q : pv_Q} {E : pv_E} {d bc bs : Nat} {J : pv_JT} {I : pv_IT} {X : pv_XS} {n : Nat} {a0 b0 : Int32} (hD : 9 ≤ d) (hCA : CA I X) (hw : wx n X) (hn : n ≤ 600) (hbc : 6 ≤ bc) (hbs : 36 ≤ bs) (h : ∀ I' : pv_IT, CA I' (po_port X a0 b0).2.2 → (∀ k, 365 ≤ k → I' k = I k) → Q (.inl (some (.int (nI (po_port X a0 b0).1)))) pv_K0 pv_P0 I' (lw_J J (po_port X a0 b0))) : pv_X (pv_ZQ E Q) E d bc bs mL_port 0 [(0, .ref 0), (1, .int a0), (2, .int b0), (3, .ref 373)] [] pv_K0 pv_P0 I J := by
  obtain ⟨⟨T, L⟩, H, B⟩ := X
  refine px_aload_n dL_port_0 rfl ?_
  refine px_iconst (v := nI 0) dL_port_1 (by decide) ?_
  refine px_aload_n dL_port_2 rfl ?_
  refine px_iload_n dL_port_3 rfl ?_
  refine px_iload_n dL_port_4 rfl ?_
  refine c_X9_port dL_port_5 mlL_73 (by omega) hCA hw hn hbc hbs (Nat.le_of_ble_eq_true rfl) ?_
  have hc := pc_port (X := ((T, L), H, B)) (a0 := a0) (b0 := b0)
  generalize po_port ((T, L), H, B) a0 b0 = r at h hc ⊢
  obtain ⟨c9, v9, X9⟩ := r
  replace hc : c9 ≤ 2 := hc
  intro I9 hC9 hF9
  match c9, hc with
  | 0, _ =>
    show pv_X _ E d _ _ _ _ _ _ _ _ _ _
    refine px_i2l dL_port_8 ?_
    refine px_last (j := 0) dL_port_9 pv_s_out rfl (by decide) (by decide) pv_k_out ?_
    refine px_goto (tgt := 21) dL_port_10 (by decide) ?_
    refine px_iconst (v := nI 0) dL_port_21 (by decide) ?_
    exact px_iret dL_port_22 rfl (Or.inl rfl) (h I9 hC9 hF9)
  | 1, _ =>
    refine px_catchA (hp := 13) (X := pv_xIO) [] (0, 10, 13, 21) [(0, 10, 17, 13)] rfl (fun y hy => absurd hy List.not_mem_nil) rfl (by decide) lx_IO (by decide) rfl dL_port_13 (by decide) ?_
    refine px_iconst (v := nI 1) dL_port_15 (by decide) ?_
    exact px_iret dL_port_16 rfl (Or.inl rfl) (h I9 hC9 hF9)
  | 2, _ =>
    refine px_catchA (hp := 17) (X := pv_xIA) [(0, 10, 13, 21)] (0, 10, 17, 13) [] rfl (List.forall_mem_cons.mpr ⟨⟨by decide, pv_xIO, lx_IO, by decide⟩, (fun y hy => absurd hy List.not_mem_nil)⟩) rfl (by decide) lx_IA (by decide) rfl dL_port_17 (by decide) ?_
    refine px_iconst (v := nI 2) dL_port_19 (by decide) ?_
    exact px_iret dL_port_20 rfl (Or.inl rfl) (h I9 hC9 hF9)
  | k + 3, hk => exact absurd hk (by omega)
theorem c_L_port {z : pv_Z} {E : pv_E} {d bc bs : Nat} {J : pv_JT} {I : pv_IT} {mi : pv_MI} {pc idx : Nat} {lv : pv_LV} {st : List Value} {X : pv_XS} {n : Nat} {a0 b0 : Int32} (hd : decode mi.2.1 pc = .ok (.invokestatic idx, 3)) (hlk : Cond.methodLink mi.1.cls idx mL_port.1 ∈ pv_W) (hD : 10 ≤ d) (hCA : CA I X) (hw : wx n X) (hn : n ≤ 600) (hcat : (st.map fun v => v.category).sum ≤ 8) (K : ∀ I' : pv_IT, CA I' (po_port X a0 b0).2.2 → (∀ k, 365 ≤ k → I' k = I k) → pv_X z E d bc bs mi (pc + 3) lv (.int (nI (po_port X a0 b0).1) :: st) pv_K0 pv_P0 I' (lw_J J (po_port X a0 b0))) : pv_X z E d (6 + bc) (36 + bs) mi pc lv (.ref 373 :: .int b0 :: .int a0 :: .ref 0 :: st) pv_K0 pv_P0 I J := by
  obtain ⟨d, rfl⟩ : ∃ d0, d = d0 + 1 := ⟨d - 1, by omega⟩
  exact px_callSH (bc := bc) (bs := bs) (bc1 := 6) (bs1 := 36) (as := [.ref 0, .int a0, .int b0, .ref 373]) (E := E) (z := z) (lv := lv) hd mhL_port hlk rfl rfl hcat (by exact Nat.le_of_ble_eq_true rfl) (s_L_port (by omega) hCA hw hn (Nat.le_refl _) (Nat.le_refl _) K)
set_option maxRecDepth 100000 in
theorem pkmL_menu : tables_1[938]? = some (pv_cwH mL_menu) := by rfl
theorem mhL_menu : pv_mH mL_menu 5 := ⟨pv_t 938 pkmL_menu rfl, (pv_t 0 (by decide +kernel) rfl), ⟨by decide +kernel, by decide +kernel⟩, by decide +kernel, by decide +kernel, by decide, (pv_t 937 (by decide +kernel) rfl)⟩
theorem pc_menu {X : pv_XS} {a0 b0 c0 : Int32} : (po_menu X a0 b0 c0).1 ≤ 2 := by
  unfold po_menu
  repeat' split
  all_goals first | omega | exact Nat.zero_le _ | exact Nat.le_refl _ | decide
set_option maxRecDepth 100000 in
set_option maxHeartbeats 4000000 in
theorem s_L_menu {Q : pv_Q} {E : pv_E} {d bc bs : Nat} {J : pv_JT} {I : pv_IT} {X : pv_XS} {n : Nat} {a0 b0 c0 : Int32} (hD : 9 ≤ d) (hCA : CA I X) (hw : wx n X) (hn : n ≤ 600) (hbc : 6 ≤ bc) (hbs : 36 ≤ bs) (h : ∀ I' : pv_IT, CA I' (po_menu X a0 b0 c0).2.2 → (∀ k, 365 ≤ k → I' k = I k) → Q (.inl (some (.int (nI (po_menu X a0 b0 c0).1)))) pv_K0 pv_P0 I' (lw_J J (po_menu X a0 b0 c0))) : pv_X (pv_ZQ E Q) E d bc bs mL_menu 0 [(0, .ref 0), (1, .int a0), (2, .int b0), (3, .int c0), (4, .ref 373)] [] pv_K0 pv_P0 I J := by
  obtain ⟨⟨T, L⟩, H, B⟩ := X
  refine px_aload dL_menu_0 rfl ?_
  refine px_iconst (v := nI 0) dL_menu_2 (by decide) ?_
  refine px_aload_n dL_menu_3 rfl ?_
  refine px_iload_n dL_menu_4 rfl ?_
  refine px_iload_n dL_menu_5 rfl ?_
  refine px_iload_n dL_menu_6 rfl ?_
  refine c_X9_menu dL_menu_7 mlL_76 (by omega) hCA hw hn hbc hbs (Nat.le_of_ble_eq_true rfl) ?_
  have hc := pc_menu (X := ((T, L), H, B)) (a0 := a0) (b0 := b0) (c0 := c0)
  generalize po_menu ((T, L), H, B) a0 b0 c0 = r at h hc ⊢
  obtain ⟨c9, v9, X9⟩ := r
  replace hc : c9 ≤ 2 := hc
  intro I9 hC9 hF9
  match c9, hc with
  | 0, _ =>
    show pv_X _ E d _ _ _ _ _ _ _ _ _ _
    refine px_i2l dL_menu_10 ?_
    refine px_last (j := 0) dL_menu_11 pv_s_out rfl (by decide) (by decide) pv_k_out ?_
    refine px_goto (tgt := 23) dL_menu_12 (by decide) ?_
    refine px_iconst (v := nI 0) dL_menu_23 (by decide) ?_
    exact px_iret dL_menu_24 rfl (Or.inl rfl) (h I9 hC9 hF9)
  | 1, _ =>
    refine px_catchA (hp := 15) (X := pv_xIO) [] (0, 12, 15, 21) [(0, 12, 19, 13)] rfl (fun y hy => absurd hy List.not_mem_nil) rfl (by decide) lx_IO (by decide) rfl dL_menu_15 (by decide) ?_
    refine px_iconst (v := nI 1) dL_menu_17 (by decide) ?_
    exact px_iret dL_menu_18 rfl (Or.inl rfl) (h I9 hC9 hF9)
  | 2, _ =>
    refine px_catchA (hp := 19) (X := pv_xIA) [(0, 12, 15, 21)] (0, 12, 19, 13) [] rfl (List.forall_mem_cons.mpr ⟨⟨by decide, pv_xIO, lx_IO, by decide⟩, (fun y hy => absurd hy List.not_mem_nil)⟩) rfl (by decide) lx_IA (by decide) rfl dL_menu_19 (by decide) ?_
    refine px_iconst (v := nI 2) dL_menu_21 (by decide) ?_
    exact px_iret dL_menu_22 rfl (Or.inl rfl) (h I9 hC9 hF9)
  | k + 3, hk => exact absurd hk (by omega)
theorem c_L_menu {z : pv_Z} {E : pv_E} {d bc bs : Nat} {J : pv_JT} {I : pv_IT} {mi : pv_MI} {pc idx : Nat} {lv : pv_LV} {st : List Value} {X : pv_XS} {n : Nat} {a0 b0 c0 : Int32} (hd : decode mi.2.1 pc = .ok (.invokestatic idx, 3)) (hlk : Cond.methodLink mi.1.cls idx mL_menu.1 ∈ pv_W) (hD : 10 ≤ d) (hCA : CA I X) (hw : wx n X) (hn : n ≤ 600) (hcat : (st.map fun v => v.category).sum ≤ 8) (K : ∀ I' : pv_IT, CA I' (po_menu X a0 b0 c0).2.2 → (∀ k, 365 ≤ k → I' k = I k) → pv_X z E d bc bs mi (pc + 3) lv (.int (nI (po_menu X a0 b0 c0).1) :: st) pv_K0 pv_P0 I' (lw_J J (po_menu X a0 b0 c0))) : pv_X z E d (6 + bc) (36 + bs) mi pc lv (.ref 373 :: .int c0 :: .int b0 :: .int a0 :: .ref 0 :: st) pv_K0 pv_P0 I J := by
  obtain ⟨d, rfl⟩ : ∃ d0, d = d0 + 1 := ⟨d - 1, by omega⟩
  exact px_callSH (bc := bc) (bs := bs) (bc1 := 6) (bs1 := 36) (as := [.ref 0, .int a0, .int b0, .int c0, .ref 373]) (E := E) (z := z) (lv := lv) hd mhL_menu hlk rfl rfl hcat (by exact Nat.le_of_ble_eq_true rfl) (s_L_menu (by omega) hCA hw hn (Nat.le_refl _) (Nat.le_refl _) K)
set_option maxRecDepth 100000 in
theorem pkmL_count : tables_1[942]? = some (pv_cwH mL_count) := by rfl
theorem mhL_count : pv_mH mL_count 3 := ⟨pv_t 942 pkmL_count rfl, (pv_t 0 (by decide +kernel) rfl), ⟨by decide +kernel, by decide +kernel⟩, by decide +kernel, by decide +kernel, by decide, (pv_t 941 (by decide +kernel) rfl)⟩
theorem pc_count {X : pv_XS} {a0 : Int32} : (po_count X a0).1 ≤ 1 := by
  unfold po_count
  repeat' split
  all_goals first | omega | exact Nat.zero_le _ | exact Nat.le_refl _ | decide
set_option maxRecDepth 100000 in
set_option maxHeartbeats 4000000 in
theorem s_L_count {Q : pv_Q} {E : pv_E} {d bc bs : Nat} {J : pv_JT} {I : pv_IT} {X : pv_XS} {n : Nat} {a0 : Int32} (hD : 9 ≤ d) (hCA : CA I X) (hw : wx n X) (hn : n ≤ 600) (hbc : 6 ≤ bc) (hbs : 36 ≤ bs) (h : ∀ I' : pv_IT, CA I' (po_count X a0).2.2 → (∀ k, 365 ≤ k → I' k = I k) → Q (.inl (some (.int (nI (po_count X a0).1)))) pv_K0 pv_P0 I' (lw_J J (po_count X a0))) : pv_X (pv_ZQ E Q) E d bc bs mL_count 0 [(0, .ref 0), (1, .int a0), (2, .ref 373)] [] pv_K0 pv_P0 I J := by
  obtain ⟨⟨T, L⟩, H, B⟩ := X
  refine px_aload_n dL_count_0 rfl ?_
  refine px_iconst (v := nI 0) dL_count_1 (by decide) ?_
  refine px_aload_n dL_count_2 rfl ?_
  refine px_iload_n dL_count_3 rfl ?_
  refine c_X9_count dL_count_4 mlL_79 (by omega) hCA hw hn hbc hbs (Nat.le_of_ble_eq_true rfl) ?_
  have hc := pc_count (X := ((T, L), H, B)) (a0 := a0)
  generalize po_count ((T, L), H, B) a0 = r at h hc ⊢
  obtain ⟨c9, v9, X9⟩ := r
  replace hc : c9 ≤ 1 := hc
  intro I9 hC9 hF9
  match c9, hc with
  | 0, _ =>
    show pv_X _ E d _ _ _ _ _ _ _ _ _ _
    refine px_i2l dL_count_7 ?_
    refine px_last (j := 0) dL_count_8 pv_s_out rfl (by decide) (by decide) pv_k_out ?_
    refine px_goto (tgt := 15) dL_count_9 (by decide) ?_
    refine px_iconst (v := nI 0) dL_count_15 (by decide) ?_
    exact px_iret dL_count_16 rfl (Or.inl rfl) (h I9 hC9 hF9)
  | 1, _ =>
    refine px_catchN (hp := 12) (X := pv_xIA) [] (0, 9, 12, 13) [] rfl (fun y hy => absurd hy List.not_mem_nil) rfl (by decide) lx_IA (by decide) rfl dL_count_12 (by decide) ?_
    refine px_iconst (v := nI 1) dL_count_13 (by decide) ?_
    exact px_iret dL_count_14 rfl (Or.inl rfl) (h I9 hC9 hF9)
  | k + 2, hk => exact absurd hk (by omega)
theorem c_L_count {z : pv_Z} {E : pv_E} {d bc bs : Nat} {J : pv_JT} {I : pv_IT} {mi : pv_MI} {pc idx : Nat} {lv : pv_LV} {st : List Value} {X : pv_XS} {n : Nat} {a0 : Int32} (hd : decode mi.2.1 pc = .ok (.invokestatic idx, 3)) (hlk : Cond.methodLink mi.1.cls idx mL_count.1 ∈ pv_W) (hD : 10 ≤ d) (hCA : CA I X) (hw : wx n X) (hn : n ≤ 600) (hcat : (st.map fun v => v.category).sum ≤ 8) (K : ∀ I' : pv_IT, CA I' (po_count X a0).2.2 → (∀ k, 365 ≤ k → I' k = I k) → pv_X z E d bc bs mi (pc + 3) lv (.int (nI (po_count X a0).1) :: st) pv_K0 pv_P0 I' (lw_J J (po_count X a0))) : pv_X z E d (6 + bc) (36 + bs) mi pc lv (.ref 373 :: .int a0 :: .ref 0 :: st) pv_K0 pv_P0 I J := by
  obtain ⟨d, rfl⟩ : ∃ d0, d = d0 + 1 := ⟨d - 1, by omega⟩
  exact px_callSH (bc := bc) (bs := bs) (bc1 := 6) (bs1 := 36) (as := [.ref 0, .int a0, .ref 373]) (E := E) (z := z) (lv := lv) hd mhL_count hlk rfl rfl hcat (by exact Nat.le_of_ble_eq_true rfl) (s_L_count (by omega) hCA hw hn (Nat.le_refl _) (Nat.le_refl _) K)
set_option maxRecDepth 100000 in
theorem pkmL_why : tables_1[946]? = some (pv_cwH mL_why) := by rfl
theorem mhL_why : pv_mH mL_why 5 := ⟨pv_t 946 pkmL_why rfl, (pv_t 0 (by decide +kernel) rfl), ⟨by decide +kernel, by decide +kernel⟩, by decide +kernel, by decide +kernel, by decide, (pv_t 945 (by decide +kernel) rfl)⟩
theorem pc_why {X : pv_XS} {a0 b0 c0 : Int32} : (po_why X a0 b0 c0).1 ≤ 2 := by
  unfold po_why
  repeat' split
  all_goals first | omega | exact Nat.zero_le _ | exact Nat.le_refl _ | decide
set_option maxRecDepth 100000 in
set_option maxHeartbeats 4000000 in
theorem s_L_why {Q : pv_Q} {E : pv_E} {d bc bs : Nat} {J : pv_JT} {I : pv_IT} {X : pv_XS} {n : Nat} {a0 b0 c0 : Int32} (hD : 9 ≤ d) (hCA : CA I X) (hw : wx n X) (hn : n ≤ 600) (hbc : 6 ≤ bc) (hbs : 36 ≤ bs) (h : ∀ I' : pv_IT, CA I' (po_why X a0 b0 c0).2.2 → (∀ k, 365 ≤ k → I' k = I k) → Q (.inl (some (.int (nI (po_why X a0 b0 c0).1)))) pv_K0 pv_P0 I' (lw_J J (po_why X a0 b0 c0))) : pv_X (pv_ZQ E Q) E d bc bs mL_why 0 [(0, .ref 0), (1, .int a0), (2, .int b0), (3, .int c0), (4, .ref 373)] [] pv_K0 pv_P0 I J := by
  obtain ⟨⟨T, L⟩, H, B⟩ := X
  refine px_aload dL_why_0 rfl ?_
  refine px_iconst (v := nI 0) dL_why_2 (by decide) ?_
  refine px_aload_n dL_why_3 rfl ?_
  refine px_iload_n dL_why_4 rfl ?_
  refine px_iload_n dL_why_5 rfl ?_
  refine px_iload_n dL_why_6 rfl ?_
  refine c_X9_why dL_why_7 mlL_82 (by omega) hCA hw hn hbc hbs (Nat.le_of_ble_eq_true rfl) ?_
  have hc := pc_why (X := ((T, L), H, B)) (a0 := a0) (b0 := b0) (c0 := c0)
  generalize po_why ((T, L), H, B) a0 b0 c0 = r at h hc ⊢
  obtain ⟨c9, v9, X9⟩ := r
  replace hc : c9 ≤ 2 := hc
  intro I9 hC9 hF9
  match c9, hc with
  | 0, _ =>
    show pv_X _ E d _ _ _ _ _ _ _ _ _ _
    refine px_i2l dL_why_10 ?_
    refine px_last (j := 0) dL_why_11 pv_s_out rfl (by decide) (by decide) pv_k_out ?_
    refine px_goto (tgt := 23) dL_why_12 (by decide) ?_
    refine px_iconst (v := nI 0) dL_why_23 (by decide) ?_
    exact px_iret dL_why_24 rfl (Or.inl rfl) (h I9 hC9 hF9)
  | 1, _ =>
    refine px_catchA (hp := 15) (X := pv_xIO) [] (0, 12, 15, 21) [(0, 12, 19, 13)] rfl (fun y hy => absurd hy List.not_mem_nil) rfl (by decide) lx_IO (by decide) rfl dL_why_15 (by decide) ?_
    refine px_iconst (v := nI 1) dL_why_17 (by decide) ?_
    exact px_iret dL_why_18 rfl (Or.inl rfl) (h I9 hC9 hF9)
  | 2, _ =>
    refine px_catchA (hp := 19) (X := pv_xIA) [(0, 12, 15, 21)] (0, 12, 19, 13) [] rfl (List.forall_mem_cons.mpr ⟨⟨by decide, pv_xIO, lx_IO, by decide⟩, (fun y hy => absurd hy List.not_mem_nil)⟩) rfl (by decide) lx_IA (by decide) rfl dL_why_19 (by decide) ?_
    refine px_iconst (v := nI 2) dL_why_21 (by decide) ?_
    exact px_iret dL_why_22 rfl (Or.inl rfl) (h I9 hC9 hF9)
  | k + 3, hk => exact absurd hk (by omega)
theorem c_L_why {z : pv_Z} {E : pv_E} {d bc bs : Nat} {J : pv_JT} {I : pv_IT} {mi : pv_MI} {pc idx : Nat} {lv : pv_LV} {st : List Value} {X : pv_XS} {n : Nat} {a0 b0 c0 : Int32} (hd : decode mi.2.1 pc = .ok (.invokestatic idx, 3)) (hlk : Cond.methodLink mi.1.cls idx mL_why.1 ∈ pv_W) (hD : 10 ≤ d) (hCA : CA I X) (hw : wx n X) (hn : n ≤ 600) (hcat : (st.map fun v => v.category).sum ≤ 8) (K : ∀ I' : pv_IT, CA I' (po_why X a0 b0 c0).2.2 → (∀ k, 365 ≤ k → I' k = I k) → pv_X z E d bc bs mi (pc + 3) lv (.int (nI (po_why X a0 b0 c0).1) :: st) pv_K0 pv_P0 I' (lw_J J (po_why X a0 b0 c0))) : pv_X z E d (6 + bc) (36 + bs) mi pc lv (.ref 373 :: .int c0 :: .int b0 :: .int a0 :: .ref 0 :: st) pv_K0 pv_P0 I J := by
  obtain ⟨d, rfl⟩ : ∃ d0, d = d0 + 1 := ⟨d - 1, by omega⟩
  exact px_callSH (bc := bc) (bs := bs) (bc1 := 6) (bs1 := 36) (as := [.ref 0, .int a0, .int b0, .int c0, .ref 373]) (E := E) (z := z) (lv := lv) hd mhL_why hlk rfl rfl hcat (by exact Nat.le_of_ble_eq_true rfl) (s_L_why (by omega) hCA hw hn (Nat.le_refl _) (Nat.le_refl _) K)
set_option maxRecDepth 100000 in
theorem pkmL_ifPass : tables_1[953]? = some (pv_cwH mL_ifPass) := by rfl
theorem mhL_ifPass : pv_mH mL_ifPass 4 := ⟨pv_t 953 pkmL_ifPass rfl, (pv_t 0 (by decide +kernel) rfl), ⟨by decide +kernel, by decide +kernel⟩, by decide +kernel, by decide +kernel, by decide, (pv_t 952 (by decide +kernel) rfl)⟩
theorem pc_ifPass {X : pv_XS} {a0 b0 : Int32} : (po_ifPass X a0 b0).1 ≤ 1 := by
  unfold po_ifPass
  repeat' split
  all_goals first | omega | exact Nat.zero_le _ | exact Nat.le_refl _ | decide
set_option maxRecDepth 100000 in
set_option maxHeartbeats 4000000 in
theorem s_L_ifPass {Q : pv_Q} {E : pv_E} {d bc bs : Nat} {J : pv_JT} {I : pv_IT} {X : pv_XS} {n : Nat} {a0 b0 : Int32} (hD : 9 ≤ d) (hCA : CA I X) (hw : wx n X) (hn : n ≤ 600) (hbc : 6 ≤ bc) (hbs : 36 ≤ bs) (h : ∀ I' : pv_IT, CA I' (po_ifPass X a0 b0).2.2 → (∀ k, 365 ≤ k → I' k = I k) → Q (.inl (some (.int (nI (po_ifPass X a0 b0).1)))) pv_K0 pv_P0 I' (lw_J J (po_ifPass X a0 b0))) : pv_X (pv_ZQ E Q) E d bc bs mL_ifPass 0 [(0, .ref 0), (1, .int a0), (2, .int b0), (3, .ref 373)] [] pv_K0 pv_P0 I J := by
  obtain ⟨⟨T, L⟩, H, B⟩ := X
  refine px_aload_n dL_ifPass_0 rfl ?_
  refine px_iconst (v := nI 0) dL_ifPass_1 (by decide) ?_
  refine px_aload_n dL_ifPass_2 rfl ?_
  refine px_iload_n dL_ifPass_3 rfl ?_
  refine px_iload_n dL_ifPass_4 rfl ?_
  refine c_X9_ifPass dL_ifPass_5 mlL_85 (by omega) hCA hw hn hbc hbs (Nat.le_of_ble_eq_true rfl) ?_
  have hc := pc_ifPass (X := ((T, L), H, B)) (a0 := a0) (b0 := b0)
  generalize po_ifPass ((T, L), H, B) a0 b0 = r at h hc ⊢
  obtain ⟨c9, v9, X9⟩ := r
  replace hc : c9 ≤ 1 := hc
  intro I9 hC9 hF9
  match c9, hc with
  | 0, _ =>
    show pv_X _ E d _ _ _ _ _ _ _ _ _ _
    refine px_i2l dL_ifPass_8 ?_
    refine px_last (j := 0) dL_ifPass_9 pv_s_out rfl (by decide) (by decide) pv_k_out ?_
    refine px_goto (tgt := 17) dL_ifPass_10 (by decide) ?_
    refine px_iconst (v := nI 0) dL_ifPass_17 (by decide) ?_
    exact px_iret dL_ifPass_18 rfl (Or.inl rfl) (h I9 hC9 hF9)
  | 1, _ =>
    refine px_catchA (hp := 13) (X := pv_xIA) [] (0, 10, 13, 13) [] rfl (fun y hy => absurd hy List.not_mem_nil) rfl (by decide) lx_IA (by decide) rfl dL_ifPass_13 (by decide) ?_
    refine px_iconst (v := nI 1) dL_ifPass_15 (by decide) ?_
    exact px_iret dL_ifPass_16 rfl (Or.inl rfl) (h I9 hC9 hF9)
  | k + 2, hk => exact absurd hk (by omega)
theorem c_L_ifPass {z : pv_Z} {E : pv_E} {d bc bs : Nat} {J : pv_JT} {I : pv_IT} {mi : pv_MI} {pc idx : Nat} {lv : pv_LV} {st : List Value} {X : pv_XS} {n : Nat} {a0 b0 : Int32} (hd : decode mi.2.1 pc = .ok (.invokestatic idx, 3)) (hlk : Cond.methodLink mi.1.cls idx mL_ifPass.1 ∈ pv_W) (hD : 10 ≤ d) (hCA : CA I X) (hw : wx n X) (hn : n ≤ 600) (hcat : (st.map fun v => v.category).sum ≤ 8) (K : ∀ I' : pv_IT, CA I' (po_ifPass X a0 b0).2.2 → (∀ k, 365 ≤ k → I' k = I k) → pv_X z E d bc bs mi (pc + 3) lv (.int (nI (po_ifPass X a0 b0).1) :: st) pv_K0 pv_P0 I' (lw_J J (po_ifPass X a0 b0))) : pv_X z E d (6 + bc) (36 + bs) mi pc lv (.ref 373 :: .int b0 :: .int a0 :: .ref 0 :: st) pv_K0 pv_P0 I J := by
  obtain ⟨d, rfl⟩ : ∃ d0, d = d0 + 1 := ⟨d - 1, by omega⟩
  exact px_callSH (bc := bc) (bs := bs) (bc1 := 6) (bs1 := 36) (as := [.ref 0, .int a0, .int b0, .ref 373]) (E := E) (z := z) (lv := lv) hd mhL_ifPass hlk rfl rfl hcat (by exact Nat.le_of_ble_eq_true rfl) (s_L_ifPass (by omega) hCA hw hn (Nat.le_refl _) (Nat.le_refl _) K)
set_option maxRecDepth 100000 in
theorem pkmL_spoils : tables_1[960]? = some (pv_cwH mL_spoils) := by rfl
theorem mhL_spoils : pv_mH mL_spoils 4 := ⟨pv_t 960 pkmL_spoils rfl, (pv_t 0 (by decide +kernel) rfl), ⟨by decide +kernel, by decide +kernel⟩, by decide +kernel, by decide +kernel, by decide, (pv_t 959 (by decide +kernel) rfl)⟩
theorem pc_spoils {X : pv_XS} {a0 b0 : Int32} : (po_spoils X a0 b0).1 ≤ 2 := by
  unfold po_spoils
  repeat' split
  all_goals first | omega | exact Nat.zero_le _ | exact Nat.le_refl _ | decide
set_option maxRecDepth 100000 in
set_option maxHeartbeats 4000000 in
theorem s_L_spoils {Q : pv_Q} {E : pv_E} {d bc bs : Nat} {J : pv_JT} {I : pv_IT} {X : pv_XS} {n : Nat} {a0 b0 : Int32} (hD : 9 ≤ d) (hCA : CA I X) (hw : wx n X) (hn : n ≤ 600) (hbc : 6 ≤ bc) (hbs : 36 ≤ bs) (h : ∀ I' : pv_IT, CA I' (po_spoils X a0 b0).2.2 → (∀ k, 365 ≤ k → I' k = I k) → Q (.inl (some (.int (nI (po_spoils X a0 b0).1)))) pv_K0 pv_P0 I' (lw_J J (po_spoils X a0 b0))) : pv_X (pv_ZQ E Q) E d bc bs mL_spoils 0 [(0, .ref 0), (1, .int a0), (2, .int b0), (3, .ref 373)] [] pv_K0 pv_P0 I J := by
  obtain ⟨⟨T, L⟩, H, B⟩ := X
  refine px_aload_n dL_spoils_0 rfl ?_
  refine px_iconst (v := nI 0) dL_spoils_1 (by decide) ?_
  refine px_aload_n dL_spoils_2 rfl ?_
  refine px_iload_n dL_spoils_3 rfl ?_
  refine px_iload_n dL_spoils_4 rfl ?_
  refine c_X9_spoils dL_spoils_5 mlL_88 (by omega) hCA hw hn hbc hbs (Nat.le_of_ble_eq_true rfl) ?_
  have hc := pc_spoils (X := ((T, L), H, B)) (a0 := a0) (b0 := b0)
  generalize po_spoils ((T, L), H, B) a0 b0 = r at h hc ⊢
  obtain ⟨c9, v9, X9⟩ := r
  replace hc : c9 ≤ 2 := hc
  intro I9 hC9 hF9
  match c9, hc with
  | 0, _ =>
    show pv_X _ E d _ _ _ _ _ _ _ _ _ _
    refine px_i2l dL_spoils_8 ?_
    refine px_last (j := 0) dL_spoils_9 pv_s_out rfl (by decide) (by decide) pv_k_out ?_
    refine px_goto (tgt := 21) dL_spoils_10 (by decide) ?_
    refine px_iconst (v := nI 0) dL_spoils_21 (by decide) ?_
    exact px_iret dL_spoils_22 rfl (Or.inl rfl) (h I9 hC9 hF9)
  | 1, _ =>
    refine px_catchA (hp := 13) (X := pv_xIO) [] (0, 10, 13, 21) [(0, 10, 17, 13)] rfl (fun y hy => absurd hy List.not_mem_nil) rfl (by decide) lx_IO (by decide) rfl dL_spoils_13 (by decide) ?_
    refine px_iconst (v := nI 1) dL_spoils_15 (by decide) ?_
    exact px_iret dL_spoils_16 rfl (Or.inl rfl) (h I9 hC9 hF9)
  | 2, _ =>
    refine px_catchA (hp := 17) (X := pv_xIA) [(0, 10, 13, 21)] (0, 10, 17, 13) [] rfl (List.forall_mem_cons.mpr ⟨⟨by decide, pv_xIO, lx_IO, by decide⟩, (fun y hy => absurd hy List.not_mem_nil)⟩) rfl (by decide) lx_IA (by decide) rfl dL_spoils_17 (by decide) ?_
    refine px_iconst (v := nI 2) dL_spoils_19 (by decide) ?_
    exact px_iret dL_spoils_20 rfl (Or.inl rfl) (h I9 hC9 hF9)
  | k + 3, hk => exact absurd hk (by omega)
theorem c_L_spoils {z : pv_Z} {E : pv_E} {d bc bs : Nat} {J : pv_JT} {I : pv_IT} {mi : pv_MI} {pc idx : Nat} {lv : pv_LV} {st : List Value} {X : pv_XS} {n : Nat} {a0 b0 : Int32} (hd : decode mi.2.1 pc = .ok (.invokestatic idx, 3)) (hlk : Cond.methodLink mi.1.cls idx mL_spoils.1 ∈ pv_W) (hD : 10 ≤ d) (hCA : CA I X) (hw : wx n X) (hn : n ≤ 600) (hcat : (st.map fun v => v.category).sum ≤ 8) (K : ∀ I' : pv_IT, CA I' (po_spoils X a0 b0).2.2 → (∀ k, 365 ≤ k → I' k = I k) → pv_X z E d bc bs mi (pc + 3) lv (.int (nI (po_spoils X a0 b0).1) :: st) pv_K0 pv_P0 I' (lw_J J (po_spoils X a0 b0))) : pv_X z E d (6 + bc) (36 + bs) mi pc lv (.ref 373 :: .int b0 :: .int a0 :: .ref 0 :: st) pv_K0 pv_P0 I J := by
  obtain ⟨d, rfl⟩ : ∃ d0, d = d0 + 1 := ⟨d - 1, by omega⟩
  exact px_callSH (bc := bc) (bs := bs) (bc1 := 6) (bs1 := 36) (as := [.ref 0, .int a0, .int b0, .ref 373]) (E := E) (z := z) (lv := lv) hd mhL_spoils hlk rfl rfl hcat (by exact Nat.le_of_ble_eq_true rfl) (s_L_spoils (by omega) hCA hw hn (Nat.le_refl _) (Nat.le_refl _) K)
set_option maxRecDepth 100000 in
theorem pkmL_shortIn : tables_1[967]? = some (pv_cwH mL_shortIn) := by rfl
theorem mhL_shortIn : pv_mH mL_shortIn 3 := ⟨pv_t 967 pkmL_shortIn rfl, (pv_t 0 (by decide +kernel) rfl), ⟨by decide +kernel, by decide +kernel⟩, by decide +kernel, by decide +kernel, by decide, (pv_t 966 (by decide +kernel) rfl)⟩
theorem pc_shortIn {X : pv_XS} {a0 : Int32} : (po_shortIn X a0).1 ≤ 1 := by
  unfold po_shortIn
  repeat' split
  all_goals first | omega | exact Nat.zero_le _ | exact Nat.le_refl _ | decide
set_option maxRecDepth 100000 in
set_option maxHeartbeats 4000000 in
theorem s_L_shortIn {Q : pv_Q} {E : pv_E} {d bc bs : Nat} {J : pv_JT} {I : pv_IT} {X : pv_XS} {n : Nat} {a0 : Int32} (hD : 9 ≤ d) (hCA : CA I X) (hw : wx n X) (hn : n ≤ 600) (hbc : 6 ≤ bc) (hbs : 36 ≤ bs) (h : ∀ I' : pv_IT, CA I' (po_shortIn X a0).2.2 → (∀ k, 365 ≤ k → I' k = I k) → Q (.inl (some (.int (nI (po_shortIn X a0).1)))) pv_K0 pv_P0 I' (lw_J J (po_shortIn X a0))) : pv_X (pv_ZQ E Q) E d bc bs mL_shortIn 0 [(0, .ref 0), (1, .int a0), (2, .ref 373)] [] pv_K0 pv_P0 I J := by
  obtain ⟨⟨T, L⟩, H, B⟩ := X
  refine px_aload_n dL_shortIn_0 rfl ?_
  refine px_iconst (v := nI 0) dL_shortIn_1 (by decide) ?_
  refine px_aload_n dL_shortIn_2 rfl ?_
  refine px_iload_n dL_shortIn_3 rfl ?_
  refine c_X9_shortIn dL_shortIn_4 mlL_91 (by omega) hCA hw hn hbc hbs (Nat.le_of_ble_eq_true rfl) ?_
  have hc := pc_shortIn (X := ((T, L), H, B)) (a0 := a0)
  generalize po_shortIn ((T, L), H, B) a0 = r at h hc ⊢
  obtain ⟨c9, v9, X9⟩ := r
  replace hc : c9 ≤ 1 := hc
  intro I9 hC9 hF9
  match c9, hc with
  | 0, _ =>
    show pv_X _ E d _ _ _ _ _ _ _ _ _ _
    refine px_i2l dL_shortIn_7 ?_
    refine px_last (j := 0) dL_shortIn_8 pv_s_out rfl (by decide) (by decide) pv_k_out ?_
    refine px_goto (tgt := 15) dL_shortIn_9 (by decide) ?_
    refine px_iconst (v := nI 0) dL_shortIn_15 (by decide) ?_
    exact px_iret dL_shortIn_16 rfl (Or.inl rfl) (h I9 hC9 hF9)
  | 1, _ =>
    refine px_catchN (hp := 12) (X := pv_xIO) [] (0, 9, 12, 21) [] rfl (fun y hy => absurd hy List.not_mem_nil) rfl (by decide) lx_IO (by decide) rfl dL_shortIn_12 (by decide) ?_
    refine px_iconst (v := nI 1) dL_shortIn_13 (by decide) ?_
    exact px_iret dL_shortIn_14 rfl (Or.inl rfl) (h I9 hC9 hF9)
  | k + 2, hk => exact absurd hk (by omega)
theorem c_L_shortIn {z : pv_Z} {E : pv_E} {d bc bs : Nat} {J : pv_JT} {I : pv_IT} {mi : pv_MI} {pc idx : Nat} {lv : pv_LV} {st : List Value} {X : pv_XS} {n : Nat} {a0 : Int32} (hd : decode mi.2.1 pc = .ok (.invokestatic idx, 3)) (hlk : Cond.methodLink mi.1.cls idx mL_shortIn.1 ∈ pv_W) (hD : 10 ≤ d) (hCA : CA I X) (hw : wx n X) (hn : n ≤ 600) (hcat : (st.map fun v => v.category).sum ≤ 8) (K : ∀ I' : pv_IT, CA I' (po_shortIn X a0).2.2 → (∀ k, 365 ≤ k → I' k = I k) → pv_X z E d bc bs mi (pc + 3) lv (.int (nI (po_shortIn X a0).1) :: st) pv_K0 pv_P0 I' (lw_J J (po_shortIn X a0))) : pv_X z E d (6 + bc) (36 + bs) mi pc lv (.ref 373 :: .int a0 :: .ref 0 :: st) pv_K0 pv_P0 I J := by
  obtain ⟨d, rfl⟩ : ∃ d0, d = d0 + 1 := ⟨d - 1, by omega⟩
  exact px_callSH (bc := bc) (bs := bs) (bc1 := 6) (bs1 := 36) (as := [.ref 0, .int a0, .ref 373]) (E := E) (z := z) (lv := lv) hd mhL_shortIn hlk rfl rfl hcat (by exact Nat.le_of_ble_eq_true rfl) (s_L_shortIn (by omega) hCA hw hn (Nat.le_refl _) (Nat.le_refl _) K)
set_option maxRecDepth 100000 in
theorem pkmL_bestStore : tables_1[974]? = some (pv_cwH mL_bestStore) := by rfl
theorem mhL_bestStore : pv_mH mL_bestStore 3 := ⟨pv_t 974 pkmL_bestStore rfl, (pv_t 0 (by decide +kernel) rfl), ⟨by decide +kernel, by decide +kernel⟩, by decide +kernel, by decide +kernel, by decide, (pv_t 973 (by decide +kernel) rfl)⟩
theorem pc_bestStore {X : pv_XS} {a0 : Int32} : (po_best X a0).1 ≤ 1 := by
  unfold po_best
  repeat' split
  all_goals first | omega | exact Nat.zero_le _ | exact Nat.le_refl _ | decide
set_option maxRecDepth 100000 in
set_option maxHeartbeats 4000000 in
theorem s_L_bestStore {Q : pv_Q} {E : pv_E} {d bc bs : Nat} {J : pv_JT} {I : pv_IT} {X : pv_XS} {n : Nat} {a0 : Int32} (hD : 9 ≤ d) (hCA : CA I X) (hw : wx n X) (hn : n ≤ 600) (hbc : 6 ≤ bc) (hbs : 36 ≤ bs) (h : ∀ I' : pv_IT, CA I' (po_best X a0).2.2 → (∀ k, 365 ≤ k → I' k = I k) → Q (.inl (some (.int (nI (po_best X a0).1)))) pv_K0 pv_P0 I' (lw_J J (po_best X a0))) : pv_X (pv_ZQ E Q) E d bc bs mL_bestStore 0 [(0, .ref 0), (1, .int a0), (2, .ref 373)] [] pv_K0 pv_P0 I J := by
  obtain ⟨⟨T, L⟩, H, B⟩ := X
  refine px_aload_n dL_bestStore_0 rfl ?_
  refine px_iconst (v := nI 0) dL_bestStore_1 (by decide) ?_
  refine px_aload_n dL_bestStore_2 rfl ?_
  refine px_iload_n dL_bestStore_3 rfl ?_
  refine c_X9_bestStore dL_bestStore_4 mlL_94 (by omega) hCA hw hn hbc hbs (Nat.le_of_ble_eq_true rfl) ?_
  have hc := pc_bestStore (X := ((T, L), H, B)) (a0 := a0)
  generalize po_best ((T, L), H, B) a0 = r at h hc ⊢
  obtain ⟨c9, v9, X9⟩ := r
  replace hc : c9 ≤ 1 := hc
  intro I9 hC9 hF9
  match c9, hc with
  | 0, _ =>
    show pv_X _ E d _ _ _ _ _ _ _ _ _ _
    refine px_i2l dL_bestStore_7 ?_
    refine px_last (j := 0) dL_bestStore_8 pv_s_out rfl (by decide) (by decide) pv_k_out ?_
    refine px_goto (tgt := 15) dL_bestStore_9 (by decide) ?_
    refine px_iconst (v := nI 0) dL_bestStore_15 (by decide) ?_
    exact px_iret dL_bestStore_16 rfl (Or.inl rfl) (h I9 hC9 hF9)
  | 1, _ =>
    refine px_catchN (hp := 12) (X := pv_xIO) [] (0, 9, 12, 21) [] rfl (fun y hy => absurd hy List.not_mem_nil) rfl (by decide) lx_IO (by decide) rfl dL_bestStore_12 (by decide) ?_
    refine px_iconst (v := nI 1) dL_bestStore_13 (by decide) ?_
    exact px_iret dL_bestStore_14 rfl (Or.inl rfl) (h I9 hC9 hF9)
  | k + 2, hk => exact absurd hk (by omega)
theorem c_L_bestStore {z : pv_Z} {E : pv_E} {d bc bs : Nat} {J : pv_JT} {I : pv_IT} {mi : pv_MI} {pc idx : Nat} {lv : pv_LV} {st : List Value} {X : pv_XS} {n : Nat} {a0 : Int32} (hd : decode mi.2.1 pc = .ok (.invokestatic idx, 3)) (hlk : Cond.methodLink mi.1.cls idx mL_bestStore.1 ∈ pv_W) (hD : 10 ≤ d) (hCA : CA I X) (hw : wx n X) (hn : n ≤ 600) (hcat : (st.map fun v => v.category).sum ≤ 8) (K : ∀ I' : pv_IT, CA I' (po_best X a0).2.2 → (∀ k, 365 ≤ k → I' k = I k) → pv_X z E d bc bs mi (pc + 3) lv (.int (nI (po_best X a0).1) :: st) pv_K0 pv_P0 I' (lw_J J (po_best X a0))) : pv_X z E d (6 + bc) (36 + bs) mi pc lv (.ref 373 :: .int a0 :: .ref 0 :: st) pv_K0 pv_P0 I J := by
  obtain ⟨d, rfl⟩ : ∃ d0, d = d0 + 1 := ⟨d - 1, by omega⟩
  exact px_callSH (bc := bc) (bs := bs) (bc1 := 6) (bs1 := 36) (as := [.ref 0, .int a0, .ref 373]) (E := E) (z := z) (lv := lv) hd mhL_bestStore hlk rfl rfl hcat (by exact Nat.le_of_ble_eq_true rfl) (s_L_bestStore (by omega) hCA hw hn (Nat.le_refl _) (Nat.le_refl _) K)
set_option maxRecDepth 100000 in
theorem pkmL_leastPurchase : tables_1[978]? = some (pv_cwH mL_leastPurchase) := by rfl
theorem mhL_leastPurchase : pv_mH mL_leastPurchase 4 := ⟨pv_t 978 pkmL_leastPurchase rfl, (pv_t 0 (by decide +kernel) rfl), ⟨by decide +kernel, by decide +kernel⟩, by decide +kernel, by decide +kernel, by decide, (pv_t 977 (by decide +kernel) rfl)⟩
theorem pc_leastPurchase {X : pv_XS} {a0 b0 : Int32} : (po_least X a0 b0).1 ≤ 1 := by
  unfold po_least
  repeat' split
  all_goals first | omega | exact Nat.zero_le _ | exact Nat.le_refl _ | decide
set_option maxRecDepth 100000 in
set_option maxHeartbeats 4000000 in
theorem s_L_leastPurchase {Q : pv_Q} {E : pv_E} {d bc bs : Nat} {J : pv_JT} {I : pv_IT} {X : pv_XS} {n : Nat} {a0 b0 : Int32} (hD : 9 ≤ d) (hCA : CA I X) (hw : wx n X) (hn : n ≤ 600) (hbc : 6 ≤ bc) (hbs : 36 ≤ bs) (h : ∀ I' : pv_IT, CA I' (po_least X a0 b0).2.2 → (∀ k, 365 ≤ k → I' k = I k) → Q (.inl (some (.int (nI (po_least X a0 b0).1)))) pv_K0 pv_P0 I' (lw_J J (po_least X a0 b0))) : pv_X (pv_ZQ E Q) E d bc bs mL_leastPurchase 0 [(0, .ref 0), (1, .int a0), (2, .int b0), (3, .ref 373)] [] pv_K0 pv_P0 I J := by
  obtain ⟨⟨T, L⟩, H, B⟩ := X
  refine px_aload_n dL_leastPurchase_0 rfl ?_
  refine px_iconst (v := nI 0) dL_leastPurchase_1 (by decide) ?_
  refine px_aload_n dL_leastPurchase_2 rfl ?_
  refine px_iload_n dL_leastPurchase_3 rfl ?_
  refine px_iload_n dL_leastPurchase_4 rfl ?_
  refine c_X9_leastPurchase dL_leastPurchase_5 mlL_97 (by omega) hCA hw hn hbc hbs (Nat.le_of_ble_eq_true rfl) ?_
  have hc := pc_leastPurchase (X := ((T, L), H, B)) (a0 := a0) (b0 := b0)
  generalize po_least ((T, L), H, B) a0 b0 = r at h hc ⊢
  obtain ⟨c9, v9, X9⟩ := r
  replace hc : c9 ≤ 1 := hc
  intro I9 hC9 hF9
  match c9, hc with
  | 0, _ =>
    show pv_X _ E d _ _ _ _ _ _ _ _ _ _
    refine px_i2l dL_leastPurchase_8 ?_
    refine px_last (j := 0) dL_leastPurchase_9 pv_s_out rfl (by decide) (by decide) pv_k_out ?_
    refine px_goto (tgt := 17) dL_leastPurchase_10 (by decide) ?_
    refine px_iconst (v := nI 0) dL_leastPurchase_17 (by decide) ?_
    exact px_iret dL_leastPurchase_18 rfl (Or.inl rfl) (h I9 hC9 hF9)
  | 1, _ =>
    refine px_catchA (hp := 13) (X := pv_xIO) [] (0, 10, 13, 21) [] rfl (fun y hy => absurd hy List.not_mem_nil) rfl (by decide) lx_IO (by decide) rfl dL_leastPurchase_13 (by decide) ?_
    refine px_iconst (v := nI 1) dL_leastPurchase_15 (by decide) ?_
    exact px_iret dL_leastPurchase_16 rfl (Or.inl rfl) (h I9 hC9 hF9)
  | k + 2, hk => exact absurd hk (by omega)
theorem c_L_leastPurchase {z : pv_Z} {E : pv_E} {d bc bs : Nat} {J : pv_JT} {I : pv_IT} {mi : pv_MI} {pc idx : Nat} {lv : pv_LV} {st : List Value} {X : pv_XS} {n : Nat} {a0 b0 : Int32} (hd : decode mi.2.1 pc = .ok (.invokestatic idx, 3)) (hlk : Cond.methodLink mi.1.cls idx mL_leastPurchase.1 ∈ pv_W) (hD : 10 ≤ d) (hCA : CA I X) (hw : wx n X) (hn : n ≤ 600) (hcat : (st.map fun v => v.category).sum ≤ 8) (K : ∀ I' : pv_IT, CA I' (po_least X a0 b0).2.2 → (∀ k, 365 ≤ k → I' k = I k) → pv_X z E d bc bs mi (pc + 3) lv (.int (nI (po_least X a0 b0).1) :: st) pv_K0 pv_P0 I' (lw_J J (po_least X a0 b0))) : pv_X z E d (6 + bc) (36 + bs) mi pc lv (.ref 373 :: .int b0 :: .int a0 :: .ref 0 :: st) pv_K0 pv_P0 I J := by
  obtain ⟨d, rfl⟩ : ∃ d0, d = d0 + 1 := ⟨d - 1, by omega⟩
  exact px_callSH (bc := bc) (bs := bs) (bc1 := 6) (bs1 := 36) (as := [.ref 0, .int a0, .int b0, .ref 373]) (E := E) (z := z) (lv := lv) hd mhL_leastPurchase hlk rfl rfl hcat (by exact Nat.le_of_ble_eq_true rfl) (s_L_leastPurchase (by omega) hCA hw hn (Nat.le_refl _) (Nat.le_refl _) K)
set_option maxRecDepth 100000 in
theorem pkmL_cheapest : tables_1[991]? = some (pv_cwH mL_cheapest) := by rfl
theorem mhL_cheapest : pv_mH mL_cheapest 3 := ⟨pv_t 991 pkmL_cheapest rfl, (pv_t 0 (by decide +kernel) rfl), ⟨by decide +kernel, by decide +kernel⟩, by decide +kernel, by decide +kernel, by decide, (pv_t 990 (by decide +kernel) rfl)⟩
theorem pc_cheapest {X : pv_XS} {a0 : Int32} : (po_cheap X a0).1 ≤ 1 := by
  unfold po_cheap
  repeat' split
  all_goals first | omega | exact Nat.zero_le _ | exact Nat.le_refl _ | decide
set_option maxRecDepth 100000 in
set_option maxHeartbeats 4000000 in
theorem s_L_cheapest {Q : pv_Q} {E : pv_E} {d bc bs : Nat} {J : pv_JT} {I : pv_IT} {X : pv_XS} {n : Nat} {a0 : Int32} (hD : 9 ≤ d) (hCA : CA I X) (hw : wx n X) (hn : n ≤ 600) (hbc : 6 ≤ bc) (hbs : 36 ≤ bs) (h : ∀ I' : pv_IT, CA I' (po_cheap X a0).2.2 → (∀ k, 365 ≤ k → I' k = I k) → Q (.inl (some (.int (nI (po_cheap X a0).1)))) pv_K0 pv_P0 I' (lw_J J (po_cheap X a0))) : pv_X (pv_ZQ E Q) E d bc bs mL_cheapest 0 [(0, .ref 0), (1, .int a0), (2, .ref 373)] [] pv_K0 pv_P0 I J := by
  obtain ⟨⟨T, L⟩, H, B⟩ := X
  refine px_aload_n dL_cheapest_0 rfl ?_
  refine px_iconst (v := nI 0) dL_cheapest_1 (by decide) ?_
  refine px_aload_n dL_cheapest_2 rfl ?_
  refine px_iload_n dL_cheapest_3 rfl ?_
  refine c_X9_cheapest dL_cheapest_4 mlL_100 (by omega) hCA hw hn hbc hbs (Nat.le_of_ble_eq_true rfl) ?_
  have hc := pc_cheapest (X := ((T, L), H, B)) (a0 := a0)
  generalize po_cheap ((T, L), H, B) a0 = r at h hc ⊢
  obtain ⟨c9, v9, X9⟩ := r
  replace hc : c9 ≤ 1 := hc
  intro I9 hC9 hF9
  match c9, hc with
  | 0, _ =>
    show pv_X _ E d _ _ _ _ _ _ _ _ _ _
    refine px_i2l dL_cheapest_7 ?_
    refine px_last (j := 0) dL_cheapest_8 pv_s_out rfl (by decide) (by decide) pv_k_out ?_
    refine px_goto (tgt := 15) dL_cheapest_9 (by decide) ?_
    refine px_iconst (v := nI 0) dL_cheapest_15 (by decide) ?_
    exact px_iret dL_cheapest_16 rfl (Or.inl rfl) (h I9 hC9 hF9)
  | 1, _ =>
    refine px_catchN (hp := 12) (X := pv_xIO) [] (0, 9, 12, 21) [] rfl (fun y hy => absurd hy List.not_mem_nil) rfl (by decide) lx_IO (by decide) rfl dL_cheapest_12 (by decide) ?_
    refine px_iconst (v := nI 1) dL_cheapest_13 (by decide) ?_
    exact px_iret dL_cheapest_14 rfl (Or.inl rfl) (h I9 hC9 hF9)
  | k + 2, hk => exact absurd hk (by omega)
theorem c_L_cheapest {z : pv_Z} {E : pv_E} {d bc bs : Nat} {J : pv_JT} {I : pv_IT} {mi : pv_MI} {pc idx : Nat} {lv : pv_LV} {st : List Value} {X : pv_XS} {n : Nat} {a0 : Int32} (hd : decode mi.2.1 pc = .ok (.invokestatic idx, 3)) (hlk : Cond.methodLink mi.1.cls idx mL_cheapest.1 ∈ pv_W) (hD : 10 ≤ d) (hCA : CA I X) (hw : wx n X) (hn : n ≤ 600) (hcat : (st.map fun v => v.category).sum ≤ 8) (K : ∀ I' : pv_IT, CA I' (po_cheap X a0).2.2 → (∀ k, 365 ≤ k → I' k = I k) → pv_X z E d bc bs mi (pc + 3) lv (.int (nI (po_cheap X a0).1) :: st) pv_K0 pv_P0 I' (lw_J J (po_cheap X a0))) : pv_X z E d (6 + bc) (36 + bs) mi pc lv (.ref 373 :: .int a0 :: .ref 0 :: st) pv_K0 pv_P0 I J := by
  obtain ⟨d, rfl⟩ : ∃ d0, d = d0 + 1 := ⟨d - 1, by omega⟩
  exact px_callSH (bc := bc) (bs := bs) (bc1 := 6) (bs1 := 36) (as := [.ref 0, .int a0, .ref 373]) (E := E) (z := z) (lv := lv) hd mhL_cheapest hlk rfl rfl hcat (by exact Nat.le_of_ble_eq_true rfl) (s_L_cheapest (by omega) hCA hw hn (Nat.le_refl _) (Nat.le_refl _) K)
