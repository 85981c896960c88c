/-! What holds of the machine as the law begins. -/
theorem st_given {s : State} {args : Array Value} (h : (Jvm.Cond.and given_1 narrow_1).before args s = true) {w : Cond} (hw : w ∈ flatC (Jvm.Cond.and given_1 narrow_1)) : w.before args s = true := flat_of_before _ h _ hw
theorem st_int {s : State} {A : Array Value} (h : (Cond.arrayClass .int).before A s = true) : ∃ cA : ClassId, ArrOfT s cA .int ∧ va_RA s cA .int := by
  obtain ⟨c, k, comp, h1, h2, h3⟩ := Cond.arrayClass_spec h
  exact ⟨c, fun n z => ⟨(fun k h => by cases h), k, h2, comp, h3⟩, h1⟩
theorem st_obj {s : State} {A : Array Value} {C : String} (h : (Cond.arrayOver (.object C)).before A s = true) : ∃ cA : ClassId, ArrOfT s cA (.object C) ∧ va_RA s cA (.object C) := by
  obtain ⟨comp, c, k, h1, h2, h3, h4, h5⟩ := Cond.arrayOver_spec h
  exact ⟨c, fun n z => ⟨(fun k h => by cases h), k, h3, comp, h4⟩, k, comp, h3, h4, h1, h5⟩
def st_tys (cI cS : ClassId) : List (ClassId × FieldType) := [(cI, .int), (cS, .object RX7)]
set_option maxRecDepth 100000 in
theorem st_u0 : ∀ w ∈ u_ws RX0 TX0 3, w ∈ lw_tbl := by decide +kernel
set_option maxRecDepth 100000 in
theorem st_u1 : ∀ w ∈ u_ws RX1 TX1 7, w ∈ lw_tbl := by decide +kernel
set_option maxRecDepth 100000 in
theorem st_u2 : ∀ w ∈ u_ws RX2 TX2 5, w ∈ lw_tbl := by decide +kernel
set_option maxRecDepth 100000 in
theorem st_u3 : ∀ w ∈ u_ws RX3 TX3 6, w ∈ lw_tbl := by decide +kernel
set_option maxRecDepth 100000 in
theorem st_u4 : ∀ w ∈ u_ws RX4 TX4 4, w ∈ lw_tbl := by decide +kernel
set_option maxRecDepth 100000 in
theorem st_u5 : ∀ w ∈ u_ws RX5 TX5 4, w ∈ lw_tbl := by decide +kernel
set_option maxRecDepth 100000 in
theorem st_u6 : ∀ w ∈ u_ws RX6 TX6 1, w ∈ lw_tbl := by decide +kernel
set_option maxRecDepth 100000 in
theorem st_u7 : ∀ w ∈ u_ws RX7 TX7 11, w ∈ lw_tbl := by decide +kernel
set_option maxRecDepth 100000 in
theorem st_u8 : ∀ w ∈ u_ws RX8 TX8 2, w ∈ lw_tbl := by decide +kernel
set_option maxRecDepth 100000 in
theorem st_u9 : ∀ w ∈ u_ws RX9 TX9 4, w ∈ lw_tbl := by decide +kernel
theorem st_tbl {w : Cond} (i : Nat) (h : tables_1[i]? = some w) : w ∈ lw_tbl := List.mem_append_right _ (List.mem_of_getElem? h)
theorem st_known {s : State} {A : Array Value} (hts : ∀ w ∈ lw_tbl, w.before A s = true) : ∃ D : va_G, ∀ (k : Nat) (q : vw_C), vwCl[k]? = some q → u_Kn s q.1 q.2.1 q.2.2 (D.1 k) (D.2 k) := by
  obtain ⟨c0, i0, k0⟩ := u_known hts st_u0 (hts (.instantiable RX0 3) (st_tbl 241 (by decide +kernel)))
  obtain ⟨c1, i1, k1⟩ := u_known hts st_u1 (hts (.instantiable RX1 7) (st_tbl 34 (by decide +kernel)))
  obtain ⟨c2, i2, k2⟩ := u_known hts st_u2 (hts (.instantiable RX2 5) (st_tbl 106 (by decide +kernel)))
  obtain ⟨c3, i3, k3⟩ := u_known hts st_u3 (hts (.instantiable RX3 6) (st_tbl 261 (by decide +kernel)))
  obtain ⟨c4, i4, k4⟩ := u_known hts st_u4 (hts (.instantiable RX4 4) (st_tbl 163 (by decide +kernel)))
  obtain ⟨c5, i5, k5⟩ := u_known hts st_u5 (hts (.instantiable RX5 4) (st_tbl 140 (by decide +kernel)))
  obtain ⟨c6, i6, k6⟩ := u_known hts st_u6 (hts (.instantiable RX6 1) (st_tbl 40 (by decide +kernel)))
  obtain ⟨c7, i7, k7⟩ := u_known hts st_u7 (hts (.instantiable RX7 11) (st_tbl 28 (by decide +kernel)))
  obtain ⟨c8, i8, k8⟩ := u_known hts st_u8 (hts (.instantiable RX8 2) (st_tbl 83 (by decide +kernel)))
  obtain ⟨c9, i9, k9⟩ := u_known hts st_u9 (hts (.instantiable RX9 4) (st_tbl 20 (by decide +kernel)))
  refine ⟨(fun k => match k with | 0 => c0 | 1 => c1 | 2 => c2 | 3 => c3 | 4 => c4 | 5 => c5 | 6 => c6 | 7 => c7 | 8 => c8 | _ => c9, fun k => match k with | 0 => i0 | 1 => i1 | 2 => i2 | 3 => i3 | 4 => i4 | 5 => i5 | 6 => i6 | 7 => i7 | 8 => i8 | _ => i9), fun k q hq => ?_⟩
  match k, hq with
  | 0, hq => cases hq; exact k0
  | 1, hq => cases hq; exact k1
  | 2, hq => cases hq; exact k2
  | 3, hq => cases hq; exact k3
  | 4, hq => cases hq; exact k4
  | 5, hq => cases hq; exact k5
  | 6, hq => cases hq; exact k6
  | 7, hq => cases hq; exact k7
  | 8, hq => cases hq; exact k8
  | 9, hq => cases hq; exact k9
  | k + 10, hq => cases hq
set_option maxRecDepth 100000 in
theorem st_strs1 : ∀ q ∈ pv_strs, Cond.stringRef RX9 q.1 q.2 ∈ lw_tbl := by decide +kernel
set_option maxRecDepth 100000 in
theorem st_strs2 : ∀ q ∈ pv_strs, Cond.exactly (.string RX9 q.1) "java/lang/String" ∈ flatC (Jvm.Cond.and given_1 narrow_1) := by decide +kernel
set_option maxRecDepth 100000 in
theorem st_nest : ∀ q ∈ pv_nest, Cond.methodLinkNest q.1 q.2.1 q.2.2 RX9 ∈ lw_tbl := by decide +kernel
set_option maxRecDepth 100000 in
theorem st_cast : ∀ q ∈ pv_xs, Cond.castable q q ∈ lw_tbl := by decide +kernel
set_option maxRecDepth 100000 in
theorem st_decl : ∀ y ∈ pv_decl, Cond.declares y ∈ lw_tbl := by decide +kernel
set_option maxRecDepth 100000 in
theorem st_s1 : Cond.isRef (.static Bundle.tN "UNASSIGNED_STACK" Bundle.steD) ∈ flatC (Jvm.Cond.and given_1 narrow_1) := by decide +kernel
set_option maxRecDepth 100000 in
theorem st_s2 : Cond.isRef (.static Bundle.tN "SUPPRESSED_SENTINEL" Bundle.listD) ∈ flatC (Jvm.Cond.and given_1 narrow_1) := by decide +kernel
theorem st_EV {s : State} {A : Array Value} {l : Launch} {sc L : Nat} {xs : Nat → Int32} (hts : ∀ w ∈ lw_tbl, w.before A s = true) (hgv : (Jvm.Cond.and given_1 narrow_1).before A s = true) (hX : va_X sc L xs s s.heap) (hsc : sc < s.heap.size) (hL : L ≤ 260) : ∃ (D : va_G) (cI cS : ClassId), pv_EV (l, s.heap.size, sc, D, (cI, 0, cS, L)) s s.heap := by
  obtain ⟨D, hD⟩ := st_known hts
  obtain ⟨cI, hI⟩ := st_int (hts _ (st_tbl 49 (by decide +kernel)))
  obtain ⟨cS, hS⟩ := st_obj (C := RX7) (hts _ (st_tbl 247 (by decide +kernel)))
  have hA : ∀ a : Nat, a < s.heap.size → ¬ pv_A s.heap.size a := fun a h => Nat.not_le.mpr h
  refine ⟨D, cI, cS, ⟨hD, fun k q hk => ?_⟩, ?_, ?_, va_AO.of (hts _ (st_tbl 247 (by decide +kernel))), fun q hq => ?_, fun q hq => va_Nw.of rfl (hts _ (st_nest q hq)), fun q hq => ⟨va_Nw.of rfl (hts _ (st_cast q hq)), fun y hy => va_Nw.of rfl (hts _ (st_decl y hy))⟩, ⟨xs, hX⟩, hsc, hL⟩
  · match k, hk with
    | 0, hk => cases hk; exact hI
    | 1, hk => cases hk; exact hS
    | k + 2, hk => cases hk
  · exact vx_Zqof (hts _ (st_tbl 356 (by decide +kernel))) (hts _ (st_tbl 11 (by decide +kernel))) (st_given hgv st_s1) hA
  · exact vx_Zqof (hts _ (st_tbl 358 (by decide +kernel))) (hts _ (st_tbl 11 (by decide +kernel))) (st_given hgv st_s2) hA
  · obtain ⟨a, c, cA, kA, q1, -⟩ := Cond.exactly_spec (args := A) (first := s) (o := none) (s := s) (idx := []) (t := .string RX9 q.1) (cls := "java/lang/String") (st_given hgv (st_strs2 q hq))
    exact ⟨a, vk_R.of (hts _ (st_strs1 q hq)) q1⟩
theorem st_flags {l : Launch} (h : l.flags = flags0) : l.stackTraces = false := by
  unfold Launch.stackTraces
  rw [h]
  decide +kernel
