/-! The abstract walk: memory. -/
theorem pv_uw0 : ∀ w ∈ u_ws RX0 TX0 3, w ∈ pv_W := by decide +kernel
theorem pv_uw1 : ∀ w ∈ u_ws RX1 TX1 7, w ∈ pv_W := by decide +kernel
theorem pv_uw2 : ∀ w ∈ u_ws RX2 TX2 5, w ∈ pv_W := by decide +kernel
theorem pv_uw3 : ∀ w ∈ u_ws RX3 TX3 6, w ∈ pv_W := by decide +kernel
theorem pv_uw4 : ∀ w ∈ u_ws RX4 TX4 4, w ∈ pv_W := by decide +kernel
theorem pv_uw5 : ∀ w ∈ u_ws RX5 TX5 4, w ∈ pv_W := by decide +kernel
theorem pv_uw6 : ∀ w ∈ u_ws RX6 TX6 1, w ∈ pv_W := by decide +kernel
theorem pv_uw7 : ∀ w ∈ u_ws RX7 TX7 11, w ∈ pv_W := by decide +kernel
theorem pv_uw8 : ∀ w ∈ u_ws RX8 TX8 2, w ∈ pv_W := by decide +kernel
theorem pv_uw9 : ∀ w ∈ u_ws RX9 TX9 4, w ∈ pv_W := by decide +kernel
def pv_clOk (q : vw_C) : Prop := (∀ w ∈ u_ws q.1 q.2.1 q.2.2, w ∈ pv_W) ∧ (∃ ty0 : Nat → FieldType, ∀ k, k < q.2.2 → parseFieldDescriptor (q.2.1 k).2.2.1 = some (ty0 k)) ∧ (∀ a, a < q.2.2 → ∀ b, b < q.2.2 → a ≠ b → (q.2.1 a).2.1 ≠ (q.2.1 b).2.1)
theorem pv_cl {t : Nat} {q : vw_C} (h : vwCl[t]? = some q) : pv_clOk q := by
  match t, h with
  | 0, h => cases h; exact ⟨pv_uw0, ⟨tyX0, tyX0_ok⟩, nmX0⟩
  | 1, h => cases h; exact ⟨pv_uw1, ⟨tyX1, tyX1_ok⟩, nmX1⟩
  | 2, h => cases h; exact ⟨pv_uw2, ⟨tyX2, tyX2_ok⟩, nmX2⟩
  | 3, h => cases h; exact ⟨pv_uw3, ⟨tyX3, tyX3_ok⟩, nmX3⟩
  | 4, h => cases h; exact ⟨pv_uw4, ⟨tyX4, tyX4_ok⟩, nmX4⟩
  | 5, h => cases h; exact ⟨pv_uw5, ⟨tyX5, tyX5_ok⟩, nmX5⟩
  | 6, h => cases h; exact ⟨pv_uw6, ⟨tyX6, tyX6_ok⟩, nmX6⟩
  | 7, h => cases h; exact ⟨pv_uw7, ⟨tyX7, tyX7_ok⟩, nmX7⟩
  | 8, h => cases h; exact ⟨pv_uw8, ⟨tyX8, tyX8_ok⟩, nmX8⟩
  | 9, h => cases h; exact ⟨pv_uw9, ⟨tyX9, tyX9_ok⟩, nmX9⟩
  | t + 10, h => simp [vwCl] at h
/-- the field that a method of the class own names by its entry idx: field j of class t -/
def pv_fld (own : String) (idx t j : Nat) (ty : FieldType) : Prop := ∃ (C : String) (T : u_T) (N : Nat), vwCl[t]? = some (C, T, N) ∧ j < N ∧ Cond.fieldLink own idx (T j).1 (T j).2.1 (T j).2.2.1 ∈ pv_W ∧ parseFieldDescriptor (T j).2.2.1 = some ty
def pv_fldW (own : String) (idx t j : Nat) (ty : FieldType) : Prop := ∃ (C : String) (T : u_T) (N : Nat), vwCl[t]? = some (C, T, N) ∧ j < N ∧ Cond.fieldLink own idx (T j).1 (T j).2.1 (T j).2.2.1 ∈ pv_W ∧ parseFieldDescriptor (T j).2.2.1 = some ty ∧ (T j).2.2.2 = false
def pv_fldF (own : String) (idx t j : Nat) (ty : FieldType) : Prop := ∃ (C : String) (T : u_T) (N : Nat), vwCl[t]? = some (C, T, N) ∧ j < N ∧ Cond.fieldLink own idx (T j).1 (T j).2.1 (T j).2.2.1 ∈ pv_W ∧ parseFieldDescriptor (T j).2.2.1 = some ty ∧ (T j).2.2.2 = true ∧ (T j).1 = own
theorem pv_ent_obj {E : pv_E} {P : pv_PT} {I : pv_IT} {J : pv_JT} {k t n : Nat} (hs : pv_shp k = (t, n)) (ht : t < 20) : pv_ent E P I J k = .inr (t, (List.range n).map (pv_fv E t k P I J)) := by
  unfold pv_ent
  rw [hs]
  exact if_pos ht
theorem pv_ent_int {E : pv_E} {P : pv_PT} {I : pv_IT} {J : pv_JT} {k n : Nat} (hs : pv_shp k = (20, n)) : pv_ent E P I J k = .inl (E.2.2.2.2.1, n, .inl (I k)) := by
  unfold pv_ent
  rw [hs]
  rfl
theorem pv_ent_ref {E : pv_E} {P : pv_PT} {I : pv_IT} {J : pv_JT} {k n : Nat} (hs : pv_shp k = (22, n)) : pv_ent E P I J k = .inl (E.2.2.2.2.2.2.1, n, .inr (.inr (.inr (.inr (fun j => (P k j).map (fun a => pv_ad E a)))))) := by
  unfold pv_ent
  rw [hs]
  rfl
theorem pv_ent_congr {E : pv_E} {P P' : pv_PT} {I I' : pv_IT} {J J' : pv_JT} {k : Nat} (h1 : P' k = P k) (h2 : I' k = I k) (h3 : J' k = J k) : pv_ent E P' I' J' k = pv_ent E P I J k := by
  have h4 : pv_fv E (pv_shp k).1 k P' I' J' = pv_fv E (pv_shp k).1 k P I J := by
    funext j
    simp only [pv_fv, h1, h2, h3]
  unfold pv_ent
  rw [h1, h2, h4]
theorem pv_fs_get {f : Nat → Value} {n j : Nat} (hj : j < n) : ((List.range n).map f)[j]? = some (f j) := by simp [hj]
theorem pv_fs_set {f g : Nat → Value} {n j : Nat} {v : Value} (h1 : g j = v) (h2 : ∀ i : Nat, i ≠ j → g i = f i) : ((List.range n).map f).set j v = (List.range n).map g := by
  refine List.ext_getElem? fun i => ?_
  rw [List.getElem?_set]
  by_cases hi : i < n
  · by_cases h : j = i
    · subst h
      simp [hi, h1]
    · simp [h, hi, h2 i (fun z => h z.symm)]
  · by_cases h : j = i
    · subst h
      simp [hi]
    · simp [h, hi]
theorem pv_uI_self {I : pv_IT} {k j : Nat} {v : Int32} : pv_uI I k j v k = upd (I k) j v := if_pos rfl
theorem pv_uI_ne {I : pv_IT} {k j a : Nat} {v : Int32} (h : a ≠ k) : pv_uI I k j v a = I a := if_neg h
theorem pv_uA_self {I : pv_IT} {k : Nat} {f : Nat → Int32} : pv_uA I k f k = f := if_pos rfl
theorem pv_uA_ne {I : pv_IT} {k a : Nat} {f : Nat → Int32} (h : a ≠ k) : pv_uA I k f a = I a := if_neg h
theorem pv_uP_self {P : pv_PT} {k j : Nat} {v : Option Nat} : pv_uP P k j v k = va_up (P k) j v := if_pos rfl
theorem pv_uP_ne {P : pv_PT} {k j a : Nat} {v : Option Nat} (h : a ≠ k) : pv_uP P k j v a = P a := if_neg h
theorem pv_uJ_self {J : pv_JT} {k j : Nat} {v : Int64} : pv_uJ J k j v k = vp_updL (J k) j v := if_pos rfl
theorem pv_uJ_ne {J : pv_JT} {k j a : Nat} {v : Int64} (h : a ≠ k) : pv_uJ J k j v a = J a := if_neg h
/-- a new object's or row's contents -/
def pv_zP (P : pv_PT) (k : Nat) : pv_PT := fun a => if a = k then fun _ => none else P a
def pv_zI (I : pv_IT) (k : Nat) : pv_IT := fun a => if a = k then fun _ => 0 else I a
def pv_zJ (J : pv_JT) (k : Nat) : pv_JT := fun a => if a = k then fun _ => 0 else J a
section PVM
variable {z : pv_Z} {E : pv_E} {d bc bs : Nat} {mi : pv_MI} {pc : Nat} {lv : pv_LV} {st : List Value} {sz : Nat} {P : pv_PT} {I : pv_IT} {J : pv_JT}
theorem px_getI {idx t j n k : Nat} {ty : FieldType} (hd : decode mi.2.1 pc = .ok (.getfield idx, 3)) (hf : pv_fld mi.1.cls idx t j ty) (hs : pv_shp k = (t, n)) (hj : j < n) (h20 : t < 20) (hfk : pv_fk t j = 0) (hk : k < sz)
    (K : pv_X z E d bc bs mi (pc + 3) lv (.int (I k j) :: st) sz P I J) : pv_X z E d bc bs mi pc lv (.ref k :: st) sz P I J := by
  intro p e R s m args below meth c H locs cells slots ls hF hR hE hz hS hP hl
  obtain ⟨C, T, N, hc, hjN, hl0, -⟩ := hf
  have hg := pv_WL_get (E := E) (P := P) (I := I) (J := J) hk
  rw [pv_ent_obj hs h20] at hg
  exact va_get (v := .int (I k j)) hF.1 hF.2.1 hF.2.2.2.2.2.1 (pv_cl hc).1 hF.2.2.2.2.1 hE.1 hP k hg hc j hjN (hF.2.2.2.2.2.1 _ hl0) (fun _ h => h) (by rw [pv_fs_get hj, pv_fv, if_pos hfk]) hd (K p e R s m args below meth c H locs cells slots ls hF hR hE hz hS hP hl)
theorem px_getR {idx t j n k a : Nat} {ty : FieldType} (hd : decode mi.2.1 pc = .ok (.getfield idx, 3)) (hf : pv_fld mi.1.cls idx t j ty) (hs : pv_shp k = (t, n)) (hj : j < n) (h20 : t < 20) (hfk : pv_fk t j = 1) (hk : k < sz) (ha : P k j = some a)
    (K : pv_X z E d bc bs mi (pc + 3) lv (.ref a :: st) sz P I J) : pv_X z E d bc bs mi pc lv (.ref k :: st) sz P I J := by
  intro p e R s m args below meth c H locs cells slots ls hF hR hE hz hS hP hl
  obtain ⟨C, T, N, hc, hjN, hl0, -⟩ := hf
  have hg := pv_WL_get (E := E) (P := P) (I := I) (J := J) hk
  rw [pv_ent_obj hs h20] at hg
  exact va_get (v := .ref (pv_ad E a)) hF.1 hF.2.1 hF.2.2.2.2.2.1 (pv_cl hc).1 hF.2.2.2.2.1 hE.1 hP k hg hc j hjN (hF.2.2.2.2.2.1 _ hl0) (fun _ h => h) (by rw [pv_fs_get hj, pv_fv, if_neg (by rw [hfk]; decide), if_pos hfk, ha]; rfl) hd (K p e R s m args below meth c H locs cells slots ls hF hR hE hz hS hP hl)
theorem px_getL {idx t j n k : Nat} {ty : FieldType} (hd : decode mi.2.1 pc = .ok (.getfield idx, 3)) (hf : pv_fld mi.1.cls idx t j ty) (hs : pv_shp k = (t, n)) (hj : j < n) (h20 : t < 20) (hfk : pv_fk t j = 2) (hk : k < sz)
    (K : pv_X z E d bc bs mi (pc + 3) lv (.long (J k j) :: st) sz P I J) : pv_X z E d bc bs mi pc lv (.ref k :: st) sz P I J := by
  intro p e R s m args below meth c H locs cells slots ls hF hR hE hz hS hP hl
  obtain ⟨C, T, N, hc, hjN, hl0, -⟩ := hf
  have hg := pv_WL_get (E := E) (P := P) (I := I) (J := J) hk
  rw [pv_ent_obj hs h20] at hg
  exact va_get (v := .long (J k j)) hF.1 hF.2.1 hF.2.2.2.2.2.1 (pv_cl hc).1 hF.2.2.2.2.1 hE.1 hP k hg hc j hjN (hF.2.2.2.2.2.1 _ hl0) (fun _ h => h) (by rw [pv_fs_get hj, pv_fv, if_neg (by rw [hfk]; decide), if_neg (by rw [hfk]; decide)]) hd (K p e R s m args below meth c H locs cells slots ls hF hR hE hz hS hP hl)
theorem pv_set_obj {k t n j : Nat} {v : Value} {P' : pv_PT} {I' : pv_IT} {J' : pv_JT} (hs : pv_shp k = (t, n)) (h20 : t < 20) (h1 : pv_fv E t k P' I' J' j = v) (h2 : ∀ i : Nat, i ≠ j → pv_fv E t k P' I' J' i = pv_fv E t k P I J i) (h3 : ∀ a : Nat, a ≠ k → P' a = P a ∧ I' a = I a ∧ J' a = J a) :
    (pv_WL E sz P I J).set k (pv_ad E k, .inr (t, ((List.range n).map (pv_fv E t k P I J)).set j v)) = pv_WL E sz P' I' J' := by
  refine pv_WL_set ?_ fun a ha => pv_ent_congr (h3 a ha).1 (h3 a ha).2.1 (h3 a ha).2.2
  rw [pv_ent_obj hs h20, pv_fs_set h1 h2]
theorem px_putI {idx t j n k : Nat} {x : Int32} (hd : decode mi.2.1 pc = .ok (.putfield idx, 3)) (hf : pv_fldW mi.1.cls idx t j .int) (hs : pv_shp k = (t, n)) (hj : j < n) (h20 : t < 20) (hfk : pv_fk t j = 0) (hk : k < sz)
    (K : pv_X z E d bc bs mi (pc + 3) lv st sz P (pv_uI I k j x) J) : pv_X z E d bc bs mi pc lv (.int x :: .ref k :: st) sz P I J := by
  intro p e R s m args below meth c H locs cells slots ls hF hR hE hz hS hP hl
  obtain ⟨C, T, N, hc, hjN, hl0, hty, hfin⟩ := hf
  obtain ⟨hin, ⟨ty0, hty0⟩, hnm⟩ := pv_cl hc
  have hg := pv_WL_get (E := E) (P := P) (I := I) (J := J) hk
  rw [pv_ent_obj hs h20] at hg
  refine va_put (ty := .int) (v := .int x) hF.1 hF.2.1 hF.2.2.2.2.2.1 hin ty0 hty0 hnm hF.2.2.2.2.1 hE.1 hP pv_WL_D hS k hg hc j hjN (hF.2.2.2.2.2.1 _ hl0) (fun _ h => h) hfin hty rfl rfl (by simp [hj]) hd fun H1 locs1 hP1 _ hS1 => ?_
  rw [pv_set_obj (P' := P) (I' := pv_uI I k j x) (J' := J) hs h20 (by rw [pv_fv, if_pos hfk, pv_uI_self, pk_us]) (fun i hi => by unfold pv_fv; rw [pv_uI_self, pk_un hi]) (fun a ha => ⟨rfl, pv_uI_ne ha, rfl⟩)] at hP1
  exact K p e R s m args below meth c H1 locs1 cells slots ls hF hR hE hz hS1 hP1 hl
theorem px_putL {idx t j n k : Nat} {x : Int64} (hd : decode mi.2.1 pc = .ok (.putfield idx, 3)) (hf : pv_fldW mi.1.cls idx t j .long) (hs : pv_shp k = (t, n)) (hj : j < n) (h20 : t < 20) (hfk : pv_fk t j = 2) (hk : k < sz)
    (K : pv_X z E d bc bs mi (pc + 3) lv st sz P I (pv_uJ J k j x)) : pv_X z E d bc bs mi pc lv (.long x :: .ref k :: st) sz P I J := by
  intro p e R s m args below meth c H locs cells slots ls hF hR hE hz hS hP hl
  obtain ⟨C, T, N, hc, hjN, hl0, hty, hfin⟩ := hf
  obtain ⟨hin, ⟨ty0, hty0⟩, hnm⟩ := pv_cl hc
  have hg := pv_WL_get (E := E) (P := P) (I := I) (J := J) hk
  rw [pv_ent_obj hs h20] at hg
  refine va_put (ty := .long) (v := .long x) hF.1 hF.2.1 hF.2.2.2.2.2.1 hin ty0 hty0 hnm hF.2.2.2.2.1 hE.1 hP pv_WL_D hS k hg hc j hjN (hF.2.2.2.2.2.1 _ hl0) (fun _ h => h) hfin hty rfl rfl (by simp [hj]) hd fun H1 locs1 hP1 _ hS1 => ?_
  rw [pv_set_obj (P' := P) (I' := I) (J' := pv_uJ J k j x) hs h20 (by rw [pv_fv, if_neg (by rw [hfk]; decide), if_neg (by rw [hfk]; decide), pv_uJ_self, pk_uLs]) (fun i hi => by unfold pv_fv; rw [pv_uJ_self, pk_uLn hi]) (fun a ha => ⟨rfl, rfl, pv_uJ_ne ha⟩)] at hP1
  exact K p e R s m args below meth c H1 locs1 cells slots ls hF hR hE hz hS1 hP1 hl
/-- a final reference, in its class's constructor -/
theorem px_putR {idx t j n k a : Nat} {ty : FieldType} (hd : decode mi.2.1 pc = .ok (.putfield idx, 3)) (hf : pv_fldF mi.1.cls idx t j ty) (hin0 : mi.1.name = "<init>") (hn : narrow ty (.ref (pv_ad E a)) = .ref (pv_ad E a)) (hfit : fits ty (.ref (pv_ad E a)) = true) (hs : pv_shp k = (t, n)) (hj : j < n) (h20 : t < 20) (hfk : pv_fk t j = 1) (hk : k < sz)
    (K : pv_X z E d bc bs mi (pc + 3) lv st sz (pv_uP P k j (some a)) I J) : pv_X z E d bc bs mi pc lv (.ref a :: .ref k :: st) sz P I J := by
  intro p e R s m args below meth c H locs cells slots ls hF hR hE hz hS hP hl
  obtain ⟨C, T, N, hc, hjN, hl0, hty, hfin, hdecl⟩ := hf
  obtain ⟨hin, ⟨ty0, hty0⟩, hnm⟩ := pv_cl hc
  have hg := pv_WL_get (E := E) (P := P) (I := I) (J := J) hk
  rw [pv_ent_obj hs h20] at hg
  refine va_putF (ty := ty) (v := .ref (pv_ad E a)) hF.1 hF.2.1 hF.2.2.2.2.2.1 hin ty0 hty0 hnm hF.2.2.2.2.1 hE.1 hP pv_WL_D hS k hg hc j hjN (hF.2.2.2.2.2.1 _ hl0) (fun _ h => h) hfin (hF.2.2.2.2.2.2.2.2.1.trans hin0) hdecl hty hn hfit (by simp [hj]) hd fun H1 locs1 hP1 _ hS1 => ?_
  rw [pv_set_obj (P' := pv_uP P k j (some a)) (I' := I) (J' := J) hs h20 (by rw [pv_fv, if_neg (by rw [hfk]; decide), if_pos hfk, pv_uP_self, va_up_self]; rfl) (fun i hi => by unfold pv_fv; rw [pv_uP_self, va_up_ne _ _ hi]) (fun a ha => ⟨pv_uP_ne ha, rfl, rfl⟩)] at hP1
  exact K p e R s m args below meth c H1 locs1 cells slots ls hF hR hE hz hS1 hP1 hl
-- rows
theorem px_iald {k n j : Nat} {i : Int32} (hd : decode mi.2.1 pc = .ok (.iaload, 1)) (hs : pv_shp k = (20, n)) (hi : i = nI j) (hj : j < n) (hn : n < 2147483648) (hk : k < sz)
    (K : pv_X z E d bc bs mi (pc + 1) lv (.int (I k j) :: st) sz P I J) : pv_X z E d bc bs mi pc lv (.int i :: .ref k :: st) sz P I J := by
  intro p e R s m args below meth c H locs cells slots ls hF hR hE hz hS hP hl
  subst hi
  have hg := pv_WL_get (E := E) (P := P) (I := I) (J := J) hk
  rw [pv_ent_int hs] at hg
  have hK := K p e R s m args below meth c H locs cells slots ls hF hR hE hz hS hP hl
  refine va_iald hF.1 hF.2.1 hE.1 hP k 0 hg rfl (vp_in_nI hj (by omega)) hd ?_
  rw [nI_clamp (show j < 2 ^ 31 by omega)]
  exact hK
theorem px_aald {k n j a : Nat} {i : Int32} (hd : decode mi.2.1 pc = .ok (.aaload, 1)) (hs : pv_shp k = (22, n)) (hi : i = nI j) (hj : j < n) (hn : n < 2147483648) (hk : k < sz) (ha : P k j = some a)
    (K : pv_X z E d bc bs mi (pc + 1) lv (.ref a :: st) sz P I J) : pv_X z E d bc bs mi pc lv (.int i :: .ref k :: st) sz P I J := by
  intro p e R s m args below meth c H locs cells slots ls hF hR hE hz hS hP hl
  subst hi
  have hg := pv_WL_get (E := E) (P := P) (I := I) (J := J) hk
  rw [pv_ent_ref hs] at hg
  have hK := K p e R s m args below meth c H locs cells slots ls hF hR hE hz hS hP hl
  refine va_aldq hF.1 hF.2.1 hE.1 hP k 1 hg rfl (vp_in_nI hj (by omega)) hd ?_
  rw [nI_clamp (show j < 2 ^ 31 by omega), ha]
  exact hK
theorem px_alen {k n : Nat} (hd : decode mi.2.1 pc = .ok (.arraylength, 1)) (hs : pv_shp k = (20, n)) (hk : k < sz)
    (K : pv_X z E d bc bs mi (pc + 1) lv (.int (nI n) :: st) sz P I J) : pv_X z E d bc bs mi pc lv (.ref k :: st) sz P I J := by
  intro p e R s m args below meth c H locs cells slots ls hF hR hE hz hS hP hl
  have hg := pv_WL_get (E := E) (P := P) (I := I) (J := J) hk
  rw [pv_ent_int hs] at hg
  exact va_alen hF.1 hF.2.1 hE.1 hP k 0 hg rfl rfl hd (K p e R s m args below meth c H locs cells slots ls hF hR hE hz hS hP hl)
theorem px_alenR {k n : Nat} (hd : decode mi.2.1 pc = .ok (.arraylength, 1)) (hs : pv_shp k = (22, n)) (hk : k < sz)
    (K : pv_X z E d bc bs mi (pc + 1) lv (.int (nI n) :: st) sz P I J) : pv_X z E d bc bs mi pc lv (.ref k :: st) sz P I J := by
  intro p e R s m args below meth c H locs cells slots ls hF hR hE hz hS hP hl
  have hg := pv_WL_get (E := E) (P := P) (I := I) (J := J) hk
  rw [pv_ent_ref hs] at hg
  exact va_alen hF.1 hF.2.1 hE.1 hP k 1 hg rfl rfl hd (K p e R s m args below meth c H locs cells slots ls hF hR hE hz hS hP hl)
theorem px_iast {k n j : Nat} {i x : Int32} (hd : decode mi.2.1 pc = .ok (.iastore, 1)) (hs : pv_shp k = (20, n)) (hi : i = nI j) (hj : j < n) (hn : n < 2147483648) (hk : k < sz)
    (K : pv_X z E d bc bs mi (pc + 1) lv st sz P (pv_uI I k j x) J) : pv_X z E d bc bs mi pc lv (.int x :: .int i :: .ref k :: st) sz P I J := by
  intro p e R s m args below meth c H locs cells slots ls hF hR hE hz hS hP hl
  subst hi
  have hg := pv_WL_get (E := E) (P := P) (I := I) (J := J) hk
  rw [pv_ent_int hs] at hg
  refine va_iast hF.1 hF.2.1 hE.1 hP pv_WL_D hS k 0 hg rfl (vp_in_nI hj (by omega)) hd fun H1 locs1 hP1 _ hS1 => ?_
  rw [nI_clamp (show j < 2 ^ 31 by omega)] at hP1
  rw [pv_WL_set (P' := P) (I' := pv_uI I k j x) (J' := J) (by rw [pv_ent_int hs, pv_uI_self]) (fun a ha => pv_ent_congr rfl (pv_uI_ne ha) rfl)] at hP1
  exact K p e R s m args below meth c H1 locs1 cells slots ls hF hR hE hz hS1 hP1 hl
theorem px_aast {k n j v : Nat} {i : Int32} (hd : decode mi.2.1 pc = .ok (.aastore, 1)) (hs : pv_shp k = (22, n)) (hv : pv_shp v = (7, 11)) (hi : i = nI j) (hj : j < n) (hn : n < 2147483648) (hk : k < sz) (hvk : v < sz)
    (K : pv_X z E d bc bs mi (pc + 1) lv st sz (pv_uP P k j (some v)) I J) : pv_X z E d bc bs mi pc lv (.ref v :: .int i :: .ref k :: st) sz P I J := by
  intro p e R s m args below meth c H locs cells slots ls hF hR hE hz hS hP hl
  subst hi
  have hg := pv_WL_get (E := E) (P := P) (I := I) (J := J) hk
  rw [pv_ent_ref hs] at hg
  have hw := pv_WL_get (E := E) (P := P) (I := I) (J := J) hvk
  rw [pv_ent_obj hv (by decide)] at hw
  refine va_astq (r := (RX7, TX7, 11)) hF.1 hF.2.1 hE.1 hP pv_WL_D hS k 1 v 7 hg rfl hw rfl (vp_in_nI hj (by omega)) hd fun H1 locs1 hP1 _ hS1 => ?_
  rw [nI_clamp (show j < 2 ^ 31 by omega)] at hP1
  rw [pv_WL_set (P' := pv_uP P k j (some v)) (I' := I) (J' := J) (by
    rw [pv_ent_ref hs, pv_uP_self]
    have e : (fun i => (va_up (P k) j (some v) i).map (fun a => pv_ad E a)) = va_up (fun i => (P k i).map (fun a => pv_ad E a)) j (some (pv_ad E v)) := by
      funext i
      by_cases h : i = j
      · subst h; rw [va_up_self, va_up_self]; rfl
      · rw [va_up_ne _ _ h, va_up_ne _ _ h]
    rw [e]) (fun a ha => pv_ent_congr (pv_uP_ne ha) rfl rfl)] at hP1
  exact K p e R s m args below meth c H1 locs1 cells slots ls hF hR hE hz hS1 hP1 hl
-- what is made
theorem pv_next {p : Program} {l : Launch} {e : Env} {R : Room} {s : State} {m : MethodId} {args : Array Value} {below : List Frame} {meth : Method} {c : Code} {T : State} {locs : List Loc} {cells slots q : Nat} {x : va_E}
    (X : Stand p l e R s m args below meth c T locs (cells + 1) slots) (h370 : sz < 370) (hb : s.heap.size + cells = E.2.1 + sz) (hP : va_P (pv_D E) vwCl (pv_WL E sz P I J ++ [(q, x)]) T.heap) (hD : va_D (pv_A E.2.1) (pv_WL E sz P I J ++ [(q, x)])) : q = pv_ad E sz := by
  have h1 := X.heapSize
  have hg : (pv_WL E sz P I J ++ [(q, x)])[sz]? = some (q, x) := by
    rw [List.getElem?_append_right (by rw [pv_WL_len]; exact Nat.le_refl _), pv_WL_len]
    simp
  have h2 : q < T.heap.size := (hP sz _ hg).lt
  have h3 : E.2.1 ≤ q := hD.2 sz _ hg
  rw [pv_ad_lt h370]
  by_cases h : q < E.2.1 + sz
  · have hk : q - E.2.1 < sz := by omega
    have hg2 : (pv_WL E sz P I J ++ [(q, x)])[q - E.2.1]? = some (pv_ad E (q - E.2.1), pv_ent E P I J (q - E.2.1)) := by
      rw [List.getElem?_append_left (by rw [pv_WL_len]; exact hk), pv_WL_get hk]
    have := hD.1 _ _ _ _ hg2 hg (by show pv_ad E (q - E.2.1) = q; rw [pv_ad_lt (by omega)]; omega)
    omega
  · omega
theorem pv_zP_ne {k a : Nat} (h : a ≠ k) : pv_zP P k a = P a := if_neg h
theorem pv_zI_ne {k a : Nat} (h : a ≠ k) : pv_zI I k a = I a := if_neg h
theorem pv_zJ_ne {k a : Nat} (h : a ≠ k) : pv_zJ J k a = J a := if_neg h
def pv_new (own : String) (idx t n : Nat) : Prop := ∃ (C : String) (T : u_T), vwCl[t]? = some (C, T, n) ∧ Cond.classLink own idx C ∈ pv_W ∧ Cond.instantiable C n ∈ pv_W ∧ Cond.initialized C ∈ pv_W ∧ ∃ ty : Nat → FieldType, (∀ k, k < n → parseFieldDescriptor (T k).2.2.1 = some (ty k)) ∧ ∀ j, j < n → defaultValue (ty j) = if pv_fk t j = 0 then .int 0 else if pv_fk t j = 1 then .null else .long 0
theorem px_new {idx t n : Nat} (hd : decode mi.2.1 pc = .ok (.new idx, 3)) (hw : pv_new mi.1.cls idx t n) (hs : pv_shp sz = (t, n)) (h20 : t < 20) (hsz : sz < 370)
    (K : pv_X z E d bc bs mi (pc + 3) lv (.ref sz :: st) (sz + 1) (pv_zP P sz) (pv_zI I sz) (pv_zJ J sz)) : pv_X z E d (1 + bc) (n + bs) mi pc lv st sz P I J := by
  intro p e R s m args below meth c H locs cells slots ls hF hR hE hz hS hP hl
  obtain ⟨C, T, hc, w1, w2, w3, ty, hty, hdef⟩ := hw
  obtain ⟨hz0, hz1⟩ := hz
  have hK9 : pv_K0 = 371 := rfl
  have hz2 := hz1.resolve_left (by omega)
  refine va_new (fs := (List.range n).map (pv_fv E t sz (pv_zP P sz) (pv_zI I sz) (pv_zJ J sz))) hF.1 hF.2.1 hF.2.2.2.2.2.1 (pv_cl hc).1 ty hty hF.2.2.2.2.1 (hF.2.2.2.2.2.1 _ w1) (hF.2.2.2.2.2.1 _ w2) (hF.2.2.2.2.2.1 _ w3) hE.1 hP pv_WL_D hS (fun q hq => Nat.le_trans hz0 hq) hc (fun j hj => ?_) (by omega) (by show slots + n ≤ R.slots; omega) hd fun q H1 hP1 hD1 hS1 => ?_
  · rw [hdef j hj]
    show _ = ((List.range n).map (pv_fv E t sz (pv_zP P sz) (pv_zI I sz) (pv_zJ J sz))).getD j .null
    rw [List.getD_eq_getElem?_getD, pv_fs_get hj]
    show _ = pv_fv E t sz (pv_zP P sz) (pv_zI I sz) (pv_zJ J sz) j
    unfold pv_fv pv_zP pv_zI pv_zJ
    rw [if_pos rfl, if_pos rfl, if_pos rfl]
    rfl
  · intro T1 hT1 X1
    subst hT1
    have hq := pv_next X1 hsz hz2.2.1 hP1 hD1
    subst hq
    rw [pv_WL_push (P' := pv_zP P sz) (I' := pv_zI I sz) (J' := pv_zJ J sz) (pv_ent_obj hs h20) (fun a ha => pv_ent_congr (pv_zP_ne ha) (pv_zI_ne ha) (pv_zJ_ne ha))] at hP1
    exact K p e R s m args below meth c T1.heap locs (cells + 1) (slots + n) ls hF ⟨hR.1, hR.2.1, by omega, by omega⟩ hE ⟨hz0, (show sz + 1 = pv_K0 ∨ sz + 1 < pv_K0 by omega).imp id fun h => ⟨h, by omega, by omega⟩⟩ hS1 hP1 hl T1 rfl X1
theorem px_newI {n : Nat} {x : Int32} (hd : decode mi.2.1 pc = .ok (.newarray .int, 2)) (hw : Cond.arrayClass .int ∈ pv_W) (hs : pv_shp sz = (20, n)) (hx : x = nI n) (hn : n < 100000) (hsz : sz < 370)
    (K : pv_X z E d bc bs mi (pc + 2) lv (.ref sz :: st) (sz + 1) (pv_zP P sz) (pv_zI I sz) (pv_zJ J sz)) : pv_X z E d (1 + bc) (n + bs) mi pc lv (.int x :: st) sz P I J := by
  intro p e R s m args below meth c H locs cells slots ls hF hR hE hz hS hP hl
  subst hx
  obtain ⟨hz0, hz1⟩ := hz
  have hK9 : pv_K0 = 371 := rfl
  have hz2 := hz1.resolve_left (by omega)
  refine va_newa (atype := .int) (ty := .int) (N' := n) (a0 := (n, .inl (fun _ => 0))) hF.1 hF.2.1 (hF.2.2.2.2.2.1 _ hw) rfl hE.1 hP pv_WL_D hS (fun q hq => Nat.le_trans hz0 hq) (fun cA => rfl) (nI_pos (by omega)) (nI_clamp (by omega)) (by show n * 4 ≤ _; omega) (by omega) (by omega) hd fun q cA H1 hK1 hP1 hD1 hS1 => ?_
  intro T1 hT1 X1
  subst hT1
  have hq := pv_next X1 hsz hz2.2.1 hP1 hD1
  subst hq
  have hcA : cA = E.2.2.2.2.1 := by
    have h1 := (hK1.2 2 (cA, .int) rfl).2
    have h2 := (hK1.2 0 (E.2.2.2.2.1, .int) rfl).2
    exact Option.some.inj ((show _ = some cA from h1).symm.trans h2)
  subst hcA
  rw [pv_WL_push (P' := pv_zP P sz) (I' := pv_zI I sz) (J' := pv_zJ J sz) (by rw [pv_ent_int hs]; unfold pv_zI; rw [if_pos rfl]) (fun a ha => pv_ent_congr (pv_zP_ne ha) (pv_zI_ne ha) (pv_zJ_ne ha))] at hP1
  exact K p e R s m args below meth c T1.heap locs (cells + 1) (slots + n) ls hF ⟨hR.1, hR.2.1, by omega, by omega⟩ hE ⟨hz0, (show sz + 1 = pv_K0 ∨ sz + 1 < pv_K0 by omega).imp id fun h => ⟨h, by omega, by omega⟩⟩ hS1 hP1 hl T1 rfl X1
theorem px_newR {n idx : Nat} {x : Int32} (hd : decode mi.2.1 pc = .ok (.anewarray idx, 3)) (hw : Cond.classLink mi.1.cls idx RX7 ∈ pv_W) (hs : pv_shp sz = (22, n)) (hx : x = nI n) (hn : n < 100000) (hsz : sz < 370)
    (K : pv_X z E d bc bs mi (pc + 3) lv (.ref sz :: st) (sz + 1) (pv_zP P sz) (pv_zI I sz) (pv_zJ J sz)) : pv_X z E d (1 + bc) (n + bs) mi pc lv (.int x :: st) sz P I J := by
  intro p e R s m args below meth c H locs cells slots ls hF hR hE hz hS hP hl
  subst hx
  obtain ⟨hz0, hz1⟩ := hz
  have hK9 : pv_K0 = 371 := rfl
  have hz2 := hz1.resolve_left (by omega)
  refine va_newq (C := RX7) (N' := n) hF.1 hF.2.1 hF.2.2.2.2.1 (hF.2.2.2.2.2.1 _ hw) hE.2.2.2.1 hE.1 hP pv_WL_D hS (fun q hq => Nat.le_trans hz0 hq) (nI_pos (by omega)) (nI_clamp (by omega)) (by omega) (by omega) (by omega) hd fun q cA H1 hK1 hP1 hD1 hS1 => ?_
  intro T1 hT1 X1
  subst hT1
  have hq := pv_next X1 hsz hz2.2.1 hP1 hD1
  subst hq
  have hcA : cA = E.2.2.2.2.2.2.1 := by
    obtain ⟨_, _, _, _, _, h1⟩ := (hK1.2 2 (cA, .object RX7) rfl).2
    obtain ⟨_, _, _, _, _, h2⟩ := (hK1.2 1 (E.2.2.2.2.2.2.1, .object RX7) rfl).2
    exact Option.some.inj (h1.symm.trans h2)
  subst hcA
  rw [pv_WL_push (P' := pv_zP P sz) (I' := pv_zI I sz) (J' := pv_zJ J sz) (by rw [pv_ent_ref hs]; unfold pv_zP; rw [if_pos rfl]; rfl) (fun a ha => pv_ent_congr (pv_zP_ne ha) (pv_zI_ne ha) (pv_zJ_ne ha))] at hP1
  exact K p e R s m args below meth c T1.heap locs (cells + 1) (slots + n) ls hF ⟨hR.1, hR.2.1, by omega, by omega⟩ hE ⟨hz0, (show sz + 1 = pv_K0 ∨ sz + 1 < pv_K0 by omega).imp id fun h => ⟨h, by omega, by omega⟩⟩ hS1 hP1 hl T1 rfl X1
/-- a row of days, made anew: it lies anywhere behind the rest -/
def pv_of (E : pv_E) (off : Nat) : pv_E := (E.1, E.2.1, E.2.2.1, E.2.2.2.1, (E.2.2.2.2.1, off, E.2.2.2.2.2.2.1, E.2.2.2.2.2.2.2))
def pv_nr : Value → Bool
  | .ref a => Nat.blt a 370
  | _ => true
theorem pv_nr_cv {v : Value} {off : Nat} (h : pv_nr v = true) : pv_cv (pv_of E off) v = pv_cv E v := by
  cases v with
  | ref a =>
    have h1 : a < 370 := by
      have : Nat.blt a 370 = true := h
      simpa [Nat.blt_eq] using this
    show Value.ref (pv_ad (pv_of E off) a) = Value.ref (pv_ad E a)
    rw [pv_ad_lt h1, pv_ad_lt h1]; rfl
  | _ => rfl
theorem pv_nr_st {off : Nat} {l : List Value} (h : l.all pv_nr = true) : l.map (pv_cv (pv_of E off)) = l.map (pv_cv E) :=
  List.map_congr_left fun v hv => pv_nr_cv (List.all_eq_true.mp h v hv)
theorem pv_nr_lv {off n : Nat} {ls : Array Slot} {l : pv_LV} (h : l.all (fun q => pv_nr q.2) = true) (hl : pv_lv E ls n l) : pv_lv (pv_of E off) ls n l := by
  unfold pv_lv at hl ⊢
  have e : l.map (fun q => (q.1, pv_cv (pv_of E off) q.2)) = l.map (fun q => (q.1, pv_cv E q.2)) :=
    List.map_congr_left fun q hq => by rw [pv_nr_cv (List.all_eq_true.mp h q hq)]
  rw [e]
  exact hl
theorem pv_ent_of {off k : Nat} {I' : pv_IT} (hk : k < 370) (hP : ∀ k j, P k j ≠ some 370 ∧ ∀ a, P k j = some a → a < 370) (hI : I' k = I k) : pv_ent (pv_of E off) P I' J k = pv_ent E P I J k := by
  have h1 : ∀ j, pv_cv (pv_of E off) (pv_rf (P k j)) = pv_cv E (pv_rf (P k j)) := fun j => by
    cases e : P k j with
    | none => rfl
    | some a =>
      refine pv_nr_cv ?_
      show Nat.blt a 370 = true
      have := (hP k j).2 a e
      simpa [Nat.blt_eq] using this
  have h2 : pv_fv (pv_of E off) (pv_shp k).1 k P I' J = pv_fv E (pv_shp k).1 k P I J := by
    funext j
    unfold pv_fv
    rw [h1 j, hI]
  have h3 : (fun j => (P k j).map (fun a => pv_ad (pv_of E off) a)) = (fun j => (P k j).map (fun a => pv_ad E a)) := by
    funext j
    cases e : P k j with
    | none => rfl
    | some a =>
      have h4 := (hP k j).2 a e
      show some (pv_ad (pv_of E off) a) = some (pv_ad E a)
      rw [pv_ad_lt h4, pv_ad_lt h4]; rfl
  unfold pv_ent
  rw [h2, h3, hI]
  rfl
theorem px_newD {x : Int32} (hd : decode mi.2.1 pc = .ok (.newarray .int, 2)) (hw : Cond.arrayClass .int ∈ pv_W) (hs : pv_shp 370 = (20, 13)) (hx : x = nI 13) (hsz : sz = 370 ∨ sz = 371) (hPn : ∀ k j, P k j ≠ some 370 ∧ ∀ a, P k j = some a → a < 370) (hlv : lv.all (fun q => pv_nr q.2) = true) (hst : st.all pv_nr = true)
    (K : ∀ off : Nat, pv_X z (pv_of E off) d bc bs mi (pc + 2) lv (.ref 370 :: st) 371 P (pv_zI I 370) J) : pv_X z E d (1 + bc) (13 + bs) mi pc lv (.int x :: st) sz P I J := by
  intro p e R s m args below meth c H locs cells slots ls hF hR hE hz hS hP hl
  subst hx
  obtain ⟨hz0, hz1⟩ := hz
  refine va_newa (atype := .int) (ty := .int) (N' := 13) (a0 := (13, .inl (fun _ => 0))) hF.1 hF.2.1 (hF.2.2.2.2.2.1 _ hw) rfl hE.1 hP pv_WL_D hS (fun q hq => Nat.le_trans hz0 hq) (fun cA => rfl) (nI_pos (by omega)) (nI_clamp (by omega)) (by show 13 * 4 ≤ _; omega) (by omega) (by omega) hd fun q cA H1 hK1 hP1 hD1 hS1 => ?_
  have hcA : cA = E.2.2.2.2.1 := by
    have h1 := (hK1.2 2 (cA, .int) rfl).2
    have h2 := (hK1.2 0 (E.2.2.2.2.1, .int) rfl).2
    exact Option.some.inj ((show _ = some cA from h1).symm.trans h2)
  subst hcA
  have h370 : 370 ≤ sz := by omega
  have hg : (pv_WL E sz P I J ++ [(q, (.inl (E.2.2.2.2.1, 13, .inl (fun _ => 0)) : va_E))])[sz]? = some (q, .inl (E.2.2.2.2.1, 13, .inl (fun _ => 0))) := by
    rw [List.getElem?_append_right (by rw [pv_WL_len]; exact Nat.le_refl _), pv_WL_len]
    simp
  have h3 : E.2.1 ≤ q := hD1.2 sz _ hg
  have hge : E.2.1 + 370 ≤ q := by
    refine Nat.le_of_not_lt fun hlt => ?_
    have hk : q - E.2.1 < sz := by omega
    have hg2 : (pv_WL E sz P I J ++ [(q, (.inl (E.2.2.2.2.1, 13, .inl (fun _ => 0)) : va_E))])[q - E.2.1]? = some (pv_ad E (q - E.2.1), pv_ent E P I J (q - E.2.1)) := by
      rw [List.getElem?_append_left (by rw [pv_WL_len]; exact hk), pv_WL_get hk]
    have := hD1.1 _ _ _ _ hg2 hg (by show pv_ad E (q - E.2.1) = q; rw [pv_ad_lt (by omega)]; omega)
    omega
  obtain ⟨off, hoff⟩ : ∃ off, q = E.2.1 + 370 + off := ⟨q - (E.2.1 + 370), by omega⟩
  have had : pv_ad (pv_of E off) 370 = q := by
    unfold pv_ad
    rw [if_pos (Nat.le_refl _)]
    exact hoff.symm
  have hP2 : va_P (pv_D (pv_of E off)) vwCl (pv_WL (pv_of E off) 371 P (pv_zI I 370) J) H1 := by
    intro k w hk
    by_cases h1 : k < 371
    · rw [pv_WL_get h1] at hk
      have hk := Option.some.inj hk
      by_cases h2 : k < 370
      · have h4 := hP1 k (pv_ad E k, pv_ent E P I J k) (by rw [List.getElem?_append_left (by rw [pv_WL_len]; omega), pv_WL_get (by omega)])
        rw [pv_ent_of (E := E) (off := off) (I := I) h2 hPn (pv_zI_ne (by omega)), pv_ad_lt h2] at hk
        rw [← hk]
        rw [pv_ad_lt h2] at h4
        exact h4
      · have e : k = 370 := by omega
        subst e
        have h4 := hP1 sz _ hg
        rw [had, pv_ent_int hs] at hk
        rw [← hk]
        have e2 : pv_zI I 370 370 = fun _ => 0 := if_pos rfl
        rw [e2]
        exact h4
    · have h2 : (pv_WL (pv_of E off) 371 P (pv_zI I 370) J)[k]? = none := by simp [pv_WL]; omega
      rw [h2] at hk; cases hk
  have hst2 : (Value.ref 370 :: st).map (pv_cv (pv_of E off)) = Value.ref q :: st.map (pv_cv E) := by
    rw [List.map_cons, pv_nr_st hst]
    show Value.ref (pv_ad (pv_of E off) 370) :: _ = _
    rw [had]
  have k9 := K off p e R s m args below meth c H1 locs (cells + 1) (slots + 13) ls hF ⟨hR.1, hR.2.1, by omega, by omega⟩ hE ⟨hz0, Or.inl rfl⟩ hS1 hP2 (pv_nr_lv hlv hl)
  rw [hst2] at k9
  exact k9
end PVM
