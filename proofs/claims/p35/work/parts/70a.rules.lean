/-! The abstract walk: what the law's code has beside. -/
section PVB
variable {z : pv_Z} {E : pv_E} {d bc bs : Nat} {mi : pv_MI} {pc : Nat} {lv : pv_LV} {st : List Value} {sz : Nat} {P : pv_PT} {I : pv_IT} {J : pv_JT}
theorem px_ishr {x y : Int32} (hd : decode mi.2.1 pc = .ok (.ishr, 1)) (k : pv_X z E d bc bs mi (pc + 1) lv (.int (x >>> (y &&& 31)) :: st) sz P I J) : pv_X z E d bc bs mi pc lv (.int y :: .int x :: st) sz P I J :=
  fun p e R s m args below meth c H locs cells slots ls hF hR hE hz hS hP hl => lv_ishr hF.1 hF.2.1 hd (k p e R s m args below meth c H locs cells slots ls hF hR hE hz hS hP hl)
theorem px_iushr {x y v : Int32} (hd : decode mi.2.1 pc = .ok (.iushr, 1)) (hv : (x.toUInt32 >>> (y.toUInt32 &&& Int32.toUInt32 31)).toInt32 = v) (k : pv_X z E d bc bs mi (pc + 1) lv (.int v :: st) sz P I J) : pv_X z E d bc bs mi pc lv (.int y :: .int x :: st) sz P I J :=
  fun p e R s m args below meth c H locs cells slots ls hF hR hE hz hS hP hl => lv_iushr hF.1 hF.2.1 hd hv (k p e R s m args below meth c H locs cells slots ls hF hR hE hz hS hP hl)
theorem px_ldc {idx : Nat} {v : Int32} (hd : decode mi.2.1 pc = .ok (.ldc idx, 2)) (hc : Cond.constant mi.1.cls idx v ∈ pv_W) (k : pv_X z E d bc bs mi (pc + 2) lv (.int v :: st) sz P I J) : pv_X z E d bc bs mi pc lv st sz P I J :=
  fun p e R s m args below meth c H locs cells slots ls hF hR hE hz hS hP hl => lv_ldc hF.1 hF.2.1 hF.2.2.2.2.1 (hF.2.2.2.2.2.1 _ hc) hd (k p e R s m args below meth c H locs cells slots ls hF hR hE hz hS hP hl)
theorem px_dup_x2 {va vb vd : Value} (hd : decode mi.2.1 pc = .ok (.dup_x2, 1)) (ha : va.category = 1) (hb : vb.category = 1) (hc : vd.category = 1) (k : pv_X z E d bc bs mi (pc + 1) lv (va :: vb :: vd :: va :: st) sz P I J) : pv_X z E d bc bs mi pc lv (va :: vb :: vd :: st) sz P I J :=
  fun p e R s m args below meth c H locs cells slots ls hF hR hE hz hS hP hl => lv_dup_x2 hF.1 hF.2.1 hd ((pv_cat E va).trans ha) ((pv_cat E vb).trans hb) ((pv_cat E vd).trans hc) (k p e R s m args below meth c H locs cells slots ls hF hR hE hz hS hP hl)
end PVB
theorem q_ldc7 : Cond.constant RL 7 (-876896931) ∈ pv_W := pv_t 309 (by decide +kernel) rfl
theorem q_u32 (u : UInt32) : u.toInt32 = nI u.toNat := by
  apply Int32.toBitVec_inj.mp
  show u.toBitVec = (Int32.ofNat u.toNat).toBitVec
  rw [Int32.toBitVec_ofNat']
  apply BitVec.eq_of_toNat_eq
  rw [BitVec.toNat_ofNat]
  exact (Nat.mod_eq_of_lt u.toNat_lt).symm
theorem q_ushr (x : Int32) : ∃ a : Nat, a < 2147483648 ∧ (x.toUInt32 >>> ((nI 1).toUInt32 &&& Int32.toUInt32 31)).toInt32 = nI a := by
  refine ⟨(x.toUInt32 >>> ((nI 1).toUInt32 &&& Int32.toUInt32 31)).toNat, ?_, q_u32 _⟩
  rw [UInt32.toNat_shiftRight]
  have e : ((nI 1).toUInt32 &&& Int32.toUInt32 31).toNat % 32 = 1 := by decide
  rw [e, Nat.shiftRight_eq_div_pow]
  have := x.toUInt32.toNat_lt
  omega
