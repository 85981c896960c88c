/-! The abstract walk: the two members that the machine has entries for. -/
theorem pv_w_copyL : Cond.methodLink RX6 21 arraycopyName ∈ pv_W := pv_in (by decide +kernel) (by decide +kernel)
theorem pv_w_copyN : Cond.native arraycopyName ∈ pv_W := pv_in (by decide +kernel) (by decide +kernel)
theorem pv_w_copyS : Cond.static arraycopyName ∈ pv_W := pv_in (by decide +kernel) (by decide +kernel)
theorem pv_w_copyI : Cond.initialized "java/lang/System" ∈ pv_W := pv_in (by decide +kernel) (by decide +kernel)
section PVL
variable {z : pv_Z} {E : pv_E} {d bc bs : Nat} {mi : pv_MI} {pc : Nat} {lv : pv_LV} {st : List Value} {sz : Nat} {P : pv_PT} {I : pv_IT} {J : pv_JT}
theorem px_copy {k0 k1 n0 n1 a c m : Nat} {sp dp cnt : Int32} (hown : mi.1.cls = RX6) (hd : decode mi.2.1 pc = .ok (.invokestatic 21, 3)) (hs0 : pv_shp k0 = (20, n0)) (hs1 : pv_shp k1 = (20, n1)) (hk0 : k0 < sz) (hk1 : k1 < sz) (ha : sp = nI a) (hc : dp = nI c) (hm : cnt = nI m) (hn0 : a + m ≤ n0) (hn1 : c + m ≤ n1) (hb0 : n0 < 2147483648) (hb1 : n1 < 2147483648) (hd1 : 1 ≤ d) (hcat : (st.map fun v => v.category).sum ≤ 8)
    (K : pv_X z E d bc bs mi (pc + 3) lv st sz P (pv_uA I k1 (va_cpy (I k0) (I k1) a c m)) J) : pv_X z E d bc bs mi pc lv (.int cnt :: .int dp :: .ref k1 :: .int sp :: .ref k0 :: st) sz P I J := by
  intro p e R s me args below meth co H locs cells slots ls hF hR hE hz hS hP hl
  subst ha; subst hc; subst hm
  have h0 := pv_WL_get (E := E) (P := P) (I := I) (J := J) hk0
  have h1 := pv_WL_get (E := E) (P := P) (I := I) (J := J) hk1
  rw [pv_ent_int hs0] at h0
  rw [pv_ent_int hs1] at h1
  have ea : (nI a).toNatClampNeg = a := nI_clamp (by omega)
  have ec : (nI c).toNatClampNeg = c := nI_clamp (by omega)
  have em : (nI m).toNatClampNeg = m := nI_clamp (by omega)
  have hw : nativeFrameWords "java/lang/System" "arraycopy" 5 ≤ 14 := by decide +kernel
  have hcat2 : ((st.map (pv_cv E)).map fun v => v.category).sum ≤ 8 := by
    rw [List.map_map]
    have e9 : ((fun v => Value.category v) ∘ pv_cv E) = fun v => Value.category v := funext fun v => pv_cat E v
    rw [e9]
    exact hcat
  refine va_copyi (a := pv_ad E k1) hF.1 hF.2.1 (hF.2.2.1.trans hl.1.symm) hF.2.2.2.2.1 (by rw [hown]; exact hF.2.2.2.2.2.1 _ pv_w_copyL) (hF.2.2.2.2.2.1 _ pv_w_copyN) (hF.2.2.2.2.2.1 _ pv_w_copyS) (hF.2.2.2.2.2.1 _ pv_w_copyI) hE.1 hP pv_WL_D hS k0 k1 0 0 (ty := .int) h0 h1 rfl rfl rfl (nI_pos (by omega)) (nI_pos (by omega)) (nI_pos (by omega)) (by rw [ea, em]; exact hn0) (by rw [ec, em]; exact hn1) (fun i _ => rfl) (by omega) (by omega) hd fun H1 locs1 hP1 _ hS1 => ?_
  rw [ea, ec, em] at hP1
  rw [pv_WL_set (P' := P) (I' := pv_uA I k1 (va_cpy (I k0) (I k1) a c m)) (J' := J) (by rw [pv_ent_int hs1, pv_uA_self]) (fun b hb => pv_ent_congr rfl (pv_uA_ne hb) rfl)] at hP1
  exact K p e R s me args below meth co H1 locs1 cells slots ls hF hR hE hz hS1 hP1 hl
theorem px_ldc2l {idx : Nat} {v : Int64} (hd : decode mi.2.1 pc = .ok (.ldc2_w idx, 3)) (hc : Cond.constantLong mi.1.cls idx v ∈ pv_W) (K : pv_X z E d bc bs mi (pc + 3) lv (.long v :: st) sz P I J) : pv_X z E d bc bs mi pc lv st sz P I J := by
  intro p e R s me args below meth co H locs cells slots ls hF hR hE hz hS hP hl
  exact lv_ldc2 hF.1 hF.2.1 hF.2.2.2.2.1 (hF.2.2.2.2.2.1 _ hc) hd (K p e R s me args below meth co H locs cells slots ls hF hR hE hz hS hP hl)
theorem px_ldc2d {idx : Nat} {v : UInt64} (hd : decode mi.2.1 pc = .ok (.ldc2_w idx, 3)) (hc : Cond.constantDouble mi.1.cls idx v ∈ pv_W) (K : pv_X z E d bc bs mi (pc + 3) lv (.double v :: st) sz P I J) : pv_X z E d bc bs mi pc lv st sz P I J := by
  intro p e R s me args below meth co H locs cells slots ls hF hR hE hz hS hP hl
  exact lv_ldc2d hF.1 hF.2.1 hF.2.2.2.2.1 (hF.2.2.2.2.2.1 _ hc) hd (K p e R s me args below meth co H locs cells slots ls hF hR hE hz hS hP hl)
end PVL
