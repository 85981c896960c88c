/-! THE ABSTRACT WALK: memory by small numbers. Object number k lies at the cell b + k. -/
def pv_shipL : List (Nat × Nat) := [(7,11),(1,7),(6,1),(20,24),(6,1),(20,8),(6,1),(20,8),(6,1),(20,8),(6,1),(20,8),(6,1),(20,8),(8,2),(6,1),(20,3),(6,1),(20,3),(2,5),(6,1),(20,31),(6,1),(20,31),(6,1),(20,31),(6,1),(20,31),(5,4),(6,1),(20,8),(6,1),(20,8),(6,1),(20,64),(4,4),(6,1),(20,40),(6,1),(20,40),(6,1),(20,40),(6,1),(20,31)]
def pv_restL : List (Nat × Nat) := [(3,6),(6,1),(20,60),(4,4),(6,1),(20,40),(6,1),(20,40),(6,1),(20,40),(20,18),(20,32),(20,52),(20,27),(20,24),(20,13)]
/-- class (20: int row, 21: long row, 22: row of ships) and number of fields or elements, by the object's number -/
def pv_shl : List (Nat × Nat) := (9,4) :: (pv_shipL ++ (pv_shipL ++ ((0,3) :: (22,6) :: (pv_shipL ++ (pv_shipL ++ (pv_shipL ++ (pv_shipL ++ (pv_shipL ++ (pv_shipL ++ pv_restL)))))))))
def pv_K0 : Nat := 371
def pv_shp (k : Nat) : Nat × Nat := pv_shl.getD k (99, 0)
/-- kinds of fields: 0 int, 1 reference, 2 long -/
def pv_fkl : List (List Nat) := [[0,0,1],[0,1,1,1,1,1,1],[0,1,1,1,1],[0,1,1,0,0,0],[0,1,1,1],[0,1,1,1],[1],[0,0,0,0,0,1,1,1,1,1,1],[1,1],[1,1,1,1]]
def pv_fk (t j : Nat) : Nat := (pv_fkl.getD t []).getD j 0
abbrev pv_PT : Type := Nat → Nat → Option Nat
abbrev pv_IT : Type := Nat → Nat → Int32
abbrev pv_JT : Type := Nat → Nat → Int64
abbrev pv_MI : Type := MethodName × ByteArray × Nat × Option FieldType × List (Nat × Nat × Nat × Nat)
abbrev pv_Res : Type := Option Value ⊕ String
abbrev pv_LV : Type := List (Nat × Value)
/-- the launch, the first cell of our own, the script's cell, the classes' numbers, the int rows' class, how far the row of days lies behind its place, the ships' row's class, the script's length -/
abbrev pv_E : Type := Launch × Nat × Nat × va_G × (Nat × Nat × Nat × Nat)
abbrev pv_b (E : pv_E) : Nat := E.2.1
abbrev pv_D (E : pv_E) : va_G := E.2.2.2.1
/-- where object k lies -/
def pv_ad (E : pv_E) (k : Nat) : Nat := E.2.1 + k + (if 370 ≤ k then E.2.2.2.2.2.1 else 0)
theorem pv_ad_lt {E : pv_E} {k : Nat} (h : k < 370) : pv_ad E k = E.2.1 + k := by
  unfold pv_ad
  rw [if_neg (by omega), Nat.add_zero]
theorem pv_ad_ge {E : pv_E} {k : Nat} : E.2.1 + k ≤ pv_ad E k := Nat.le_add_right _ _
theorem pv_ad_inj {E : pv_E} {i j : Nat} (h : pv_ad E i = pv_ad E j) : i = j := by
  unfold pv_ad at h
  by_cases h1 : 370 ≤ i
  · by_cases h2 : 370 ≤ j
    · rw [if_pos h1, if_pos h2] at h; omega
    · rw [if_pos h1, if_neg h2] at h; omega
  · by_cases h2 : 370 ≤ j
    · rw [if_neg h1, if_pos h2] at h; omega
    · rw [if_neg h1, if_neg h2] at h; omega
/-- an abstract value as the machine has it; '.retAddr' stands for the script -/
def pv_cv (E : pv_E) : Value → Value
  | .int x => .int x
  | .long x => .long x
  | .float x => .float x
  | .double x => .double x
  | .null => .null
  | .ref a => .ref (pv_ad E a)
  | .retAddr _ => .ref E.2.2.1
def pv_rf : Option Nat → Value
  | none => .null
  | some a => .ref a
def pv_fv (E : pv_E) (t k : Nat) (P : pv_PT) (I : pv_IT) (J : pv_JT) (j : Nat) : Value :=
  if pv_fk t j = 0 then .int (I k j) else if pv_fk t j = 1 then pv_cv E (pv_rf (P k j)) else .long (J k j)
def pv_ent (E : pv_E) (P : pv_PT) (I : pv_IT) (J : pv_JT) (k : Nat) : va_E :=
  if (pv_shp k).1 < 20 then .inr ((pv_shp k).1, (List.range (pv_shp k).2).map (pv_fv E (pv_shp k).1 k P I J))
  else if (pv_shp k).1 = 20 then .inl (E.2.2.2.2.1, (pv_shp k).2, .inl (I k))
  else .inl (E.2.2.2.2.2.2.1, (pv_shp k).2, .inr (.inr (.inr (.inr (fun j => (P k j).map (fun a => pv_ad E a))))))
def pv_WL (E : pv_E) (sz : Nat) (P : pv_PT) (I : pv_IT) (J : pv_JT) : va_W := (List.range sz).map (fun k => (pv_ad E k, pv_ent E P I J k))
def pv_tys (E : pv_E) : List (ClassId × FieldType) := [(E.2.2.2.2.1, .int), (E.2.2.2.2.2.2.1, .object RX7)]
def pv_A (b : Nat) : Nat → Prop := fun q => b ≤ q
/-- the words that stay: any of the tables' -/
def pv_W : List Cond := lw_tbl.filter (fun w => goodWord w)
theorem pv_in {w : Cond} (h : w ∈ lw_tbl) (g : goodWord w = true) : w ∈ pv_W := List.mem_filter.mpr ⟨h, g⟩
theorem pv_good {ws : List Cond} (h : ∀ w ∈ ws, w ∈ pv_W) : GoodIn pv_W ws := fun w hw => ⟨h w hw, good_of_word (List.mem_filter.mp (h w hw)).2⟩
theorem pv_WL_len {E : pv_E} {sz : Nat} {P : pv_PT} {I : pv_IT} {J : pv_JT} : (pv_WL E sz P I J).length = sz := by simp [pv_WL]
theorem pv_WL_get {E : pv_E} {sz : Nat} {P : pv_PT} {I : pv_IT} {J : pv_JT} {k : Nat} (hk : k < sz) : (pv_WL E sz P I J)[k]? = some (pv_ad E k, pv_ent E P I J k) := by
  simp [pv_WL, hk]
theorem pv_WL_set {E : pv_E} {sz : Nat} {P P' : pv_PT} {I I' : pv_IT} {J J' : pv_JT} {k : Nat} {e : va_E} (he : pv_ent E P' I' J' k = e) (ho : ∀ j : Nat, j ≠ k → pv_ent E P' I' J' j = pv_ent E P I J j) :
    (pv_WL E sz P I J).set k (pv_ad E k, e) = pv_WL E sz P' I' J' := by
  refine List.ext_getElem? fun i => ?_
  rw [List.getElem?_set]
  by_cases hi : i < sz
  · by_cases h : k = i
    · subst h
      rw [if_pos rfl, if_pos (by rw [pv_WL_len]; exact hi), pv_WL_get hi, he]
    · rw [if_neg h, pv_WL_get hi, pv_WL_get hi, ho i (fun z => h z.symm)]
  · have h1 : (pv_WL E sz P I J)[i]? = none := by simp [pv_WL]; omega
    have h2 : (pv_WL E sz P' I' J')[i]? = none := by simp [pv_WL]; omega
    rw [h1, h2]
    by_cases h : k = i
    · subst h
      rw [if_pos rfl, if_neg (by rw [pv_WL_len]; exact hi)]
    · rw [if_neg h]
theorem pv_WL_push {E : pv_E} {sz : Nat} {P P' : pv_PT} {I I' : pv_IT} {J J' : pv_JT} {e : va_E} (he : pv_ent E P' I' J' sz = e) (ho : ∀ j : Nat, j ≠ sz → pv_ent E P' I' J' j = pv_ent E P I J j) :
    pv_WL E sz P I J ++ [(pv_ad E sz, e)] = pv_WL E (sz + 1) P' I' J' := by
  refine List.ext_getElem? fun i => ?_
  by_cases hi : i < sz
  · rw [List.getElem?_append_left (by rw [pv_WL_len]; exact hi), pv_WL_get hi, pv_WL_get (by omega), ho i (by omega)]
  · by_cases h : i = sz
    · subst h
      rw [List.getElem?_append_right (by rw [pv_WL_len]; omega), pv_WL_get (by omega), pv_WL_len, he]
      simp
    · have h1 : (pv_WL E (sz + 1) P' I' J')[i]? = none := by simp [pv_WL]; omega
      rw [h1, List.getElem?_append_right (by rw [pv_WL_len]; omega), pv_WL_len]
      simp; omega
theorem pv_WL_D {E : pv_E} {sz : Nat} {P : pv_PT} {I : pv_IT} {J : pv_JT} : va_D (pv_A E.2.1) (pv_WL E sz P I J) := by
  have key : ∀ (k : Nat) (q : Nat × va_E), (pv_WL E sz P I J)[k]? = some q → q.1 = pv_ad E k := by
    intro k q h
    by_cases hk : k < sz
    · rw [pv_WL_get hk] at h
      rw [← Option.some.inj h]
    · have h1 : (pv_WL E sz P I J)[k]? = none := by simp [pv_WL]; omega
      rw [h1] at h; cases h
  refine ⟨fun i j p q hi hj h => ?_, fun k q h => ?_⟩
  · have h1 := key i p hi
    have h2 := key j q hj
    exact pv_ad_inj (h1.symm.trans (h.trans h2))
  · show E.2.1 ≤ q.1
    have h1 := key k q h
    have h2 := pv_ad_ge (E := E) (k := k)
    omega
theorem pv_WL_same {E : pv_E} {sz : Nat} {P P' : pv_PT} {I I' : pv_IT} {J J' : pv_JT} (ho : ∀ j : Nat, j < sz → pv_ent E P' I' J' j = pv_ent E P I J j) : pv_WL E sz P I J = pv_WL E sz P' I' J' := by
  refine List.ext_getElem? fun i => ?_
  by_cases hi : i < sz
  · rw [pv_WL_get hi, pv_WL_get hi, ho i hi]
  · have h1 : (pv_WL E sz P I J)[i]? = none := by simp [pv_WL]; omega
    have h2 : (pv_WL E sz P' I' J')[i]? = none := by simp [pv_WL]; omega
    rw [h1, h2]
-- writes
def pv_uI (I : pv_IT) (k j : Nat) (v : Int32) : pv_IT := fun a => if a = k then upd (I a) j v else I a
def pv_uA (I : pv_IT) (k : Nat) (f : Nat → Int32) : pv_IT := fun a => if a = k then f else I a
def pv_uP (P : pv_PT) (k j : Nat) (v : Option Nat) : pv_PT := fun a => if a = k then va_up (P a) j v else P a
def pv_uJ (J : pv_JT) (k j : Nat) (v : Int64) : pv_JT := fun a => if a = k then vp_updL (J a) j v else J a
-- locals
def pv_get (i : Nat) : pv_LV → Option Value
  | [] => none
  | q :: t => bif Nat.beq q.1 i then some q.2 else pv_get i t
def pv_ins (i : Nat) (v : Value) : pv_LV → pv_LV
  | [] => [(i, v)]
  | q :: t => bif Nat.beq q.1 i then (i, v) :: t.filter (fun p => !Nat.beq p.1 i) else q :: pv_ins i v t
def pv_ov (i : Nat) (q : Nat × Value) : Bool := Nat.beq (q.1 + 1) i && Nat.beq q.2.category 2
def pv_put1 (i : Nat) (v : Value) (l : pv_LV) : pv_LV := pv_ins i v (l.filter (fun q => !pv_ov i q))
def pv_put2 (i : Nat) (v : Value) (l : pv_LV) : pv_LV := pv_ins i v (l.filter (fun q => !pv_ov i q && !Nat.beq q.1 (i + 1)))
def pv_keep (ks : List Nat) (l : pv_LV) : pv_LV := ks.filterMap (fun i => (pv_get i l).map (fun v => (i, v)))
def pv_lv (E : pv_E) (ls : Array Slot) (n : Nat) (lv : pv_LV) : Prop := lv_has ls n (lv.map (fun q => (q.1, pv_cv E q.2)))
theorem pv_beq (a b : Nat) : Nat.beq a b = (a == b) := by
  rw [Bool.eq_iff_iff, beq_iff_eq]
  exact ⟨Nat.eq_of_beq_eq_true, fun h => h ▸ Nat.beq_refl a⟩
theorem pv_get_mem {i : Nat} {v : Value} : ∀ {l : pv_LV}, pv_get i l = some v → (i, v) ∈ l
  | [], h => by cases h
  | q :: t, h => by
    unfold pv_get at h
    cases hb : Nat.beq q.1 i with
    | true =>
      rw [hb] at h
      have e1 : q.1 = i := Nat.eq_of_beq_eq_true hb
      have e2 : q.2 = v := Option.some.inj h
      rw [← e1, ← e2]
      exact List.mem_cons_self
    | false =>
      rw [hb] at h
      exact List.mem_cons_of_mem _ (pv_get_mem h)
theorem pv_ins_mem {i : Nat} {v : Value} {q : Nat × Value} : ∀ {l : pv_LV}, q ∈ pv_ins i v l → q = (i, v) ∨ (q ∈ l ∧ q.1 ≠ i)
  | [], h => by
    unfold pv_ins at h
    exact Or.inl (List.mem_singleton.mp h)
  | p :: t, h => by
    unfold pv_ins at h
    cases hb : Nat.beq p.1 i with
    | true =>
      rw [hb] at h
      rcases List.mem_cons.mp h with h | h
      · exact Or.inl h
      · obtain ⟨h1, h2⟩ := List.mem_filter.mp h
        refine Or.inr ⟨List.mem_cons_of_mem _ h1, fun z => ?_⟩
        rw [z, Nat.beq_refl] at h2
        cases h2
    | false =>
      rw [hb] at h
      rcases List.mem_cons.mp h with h | h
      · subst h
        refine Or.inr ⟨List.mem_cons_self, fun z => ?_⟩
        rw [z, Nat.beq_refl] at hb
        cases hb
      · rcases pv_ins_mem h with h | ⟨h1, h2⟩
        · exact Or.inl h
        · exact Or.inr ⟨List.mem_cons_of_mem _ h1, h2⟩
theorem pv_cat (E : pv_E) (v : Value) : (pv_cv E v).category = v.category := by cases v <;> rfl
theorem pv_lv_get {E : pv_E} {ls : Array Slot} {n i : Nat} {lv : pv_LV} {v : Value} (h : pv_lv E ls n lv) (hg : pv_get i lv = some v) : ls[i]? = some (.val (pv_cv E v)) :=
  h.2.2 (i, pv_cv E v) (List.mem_map.mpr ⟨(i, v), pv_get_mem hg, rfl⟩)
theorem pv_lv_keep {E : pv_E} {ls : Array Slot} {n : Nat} {lv : pv_LV} (ks : List Nat) (h : pv_lv E ls n lv) : pv_lv E ls n (pv_keep ks lv) := by
  refine ⟨h.1, h.2.1, fun q hq => ?_⟩
  obtain ⟨p, hp, rfl⟩ := List.mem_map.mp hq
  obtain ⟨i, -, hi⟩ := List.mem_filterMap.mp hp
  cases hv : pv_get i lv with
  | none => rw [hv] at hi; cases hi
  | some v =>
    rw [hv] at hi
    cases hi
    exact pv_lv_get h hv
theorem pv_lv_sub {E : pv_E} {ls : Array Slot} {n : Nat} {l : List (Nat × Value)} {lv' : pv_LV} (h : lv_has ls n l) (hs : ∀ q ∈ lv', (q.1, pv_cv E q.2) ∈ l) : pv_lv E ls n lv' := by
  refine ⟨h.1, h.2.1, fun q hq => ?_⟩
  obtain ⟨p, hp, rfl⟩ := List.mem_map.mp hq
  exact h.2.2 _ (hs p hp)
theorem pv_lv_put1 {E : pv_E} {ls' : Array Slot} {n i : Nat} {v : Value} {lv : pv_LV} (h : lv_has ls' n ((i, pv_cv E v) :: (lv.map (fun q => (q.1, pv_cv E q.2))).filter (fun q => !(q.1 == i) && !(q.1 + 1 == i && q.2.category == 2)))) : pv_lv E ls' n (pv_put1 i v lv) := by
  refine pv_lv_sub h fun q hq => ?_
  rcases pv_ins_mem hq with rfl | ⟨h1, h2⟩
  · exact List.mem_cons_self
  · obtain ⟨h3, h4⟩ := List.mem_filter.mp h1
    refine List.mem_cons_of_mem _ (List.mem_filter.mpr ⟨List.mem_map.mpr ⟨q, h3, rfl⟩, ?_⟩)
    have e1 : (q.1 == i) = false := by simpa using h2
    have e2 : (q.1 + 1 == i && q.2.category == 2) = false := by
      have e3 : pv_ov i q = false := by simpa using h4
      have e4 : pv_ov i q = (q.1 + 1 == i && q.2.category == 2) := by unfold pv_ov; rw [pv_beq, pv_beq]
      rw [← e4, e3]
    show (!(q.1 == i) && !(q.1 + 1 == i && (pv_cv E q.2).category == 2)) = true
    rw [pv_cat, e1, e2]; rfl
theorem pv_lv_put2 {E : pv_E} {ls' : Array Slot} {n i : Nat} {v : Value} {lv : pv_LV} (h : lv_has ls' n ((i, pv_cv E v) :: (lv.map (fun q => (q.1, pv_cv E q.2))).filter (fun q => !(q.1 == i) && (!(q.1 == i + 1) && !(q.1 + 1 == i && q.2.category == 2))))) : pv_lv E ls' n (pv_put2 i v lv) := by
  refine pv_lv_sub h fun q hq => ?_
  rcases pv_ins_mem hq with rfl | ⟨h1, h2⟩
  · exact List.mem_cons_self
  · obtain ⟨h3, h4⟩ := List.mem_filter.mp h1
    refine List.mem_cons_of_mem _ (List.mem_filter.mpr ⟨List.mem_map.mpr ⟨q, h3, rfl⟩, ?_⟩)
    simp only [Bool.and_eq_true] at h4
    have e1 : (q.1 == i) = false := by simpa using h2
    have e2 : (q.1 + 1 == i && q.2.category == 2) = false := by
      have e3 : pv_ov i q = false := by simpa using h4.1
      have e4 : pv_ov i q = (q.1 + 1 == i && q.2.category == 2) := by unfold pv_ov; rw [pv_beq, pv_beq]
      rw [← e4, e3]
    have e5 : (q.1 == i + 1) = false := by
      have e6 : Nat.beq q.1 (i + 1) = false := by simpa using h4.2
      rw [pv_beq] at e6
      exact e6
    show (!(q.1 == i) && (!(q.1 == i + 1) && !(q.1 + 1 == i && (pv_cv E q.2).category == 2))) = true
    rw [pv_cat, e1, e2, e5]; rfl
-- what stays the same while a method runs
def pv_strs : List (Nat × String) := [(377,"an argument is out of range"),(49,"there are 8 kinds"),(132,"there are 8 ports, or one with this day"),(385,"there is no such port"),(381,"there is no such kind"),(379,"there is no such store"),(159,"the purchase is refused"),(103,"there is no such store, or it cannot be warm"),(76,"the lots in the store have more rations"),(119,"the purse cannot have so many coins"),(212,"the buffer is full"),(224,"the buffer is not a complete text of menus"),(229,"the buffer names a kind that does not exist"),(383,"there is no such lot"),(258,"what is not 0 to 5"),(263,"what is not 0 to 3"),(283,"what is not 0 to 9"),(288,"there is no such menu or item"),(302,"what is not 0 to 2"),(315,"what is not 0 to 12")]
def pv_xIA : String := "java/lang/IllegalArgumentException"
def pv_xIS : String := "java/lang/IllegalStateException"
def pv_xIO : String := "java/lang/IndexOutOfBoundsException"
def pv_xs : List String := [pv_xIA, pv_xIS, pv_xIO]
def pv_nest : List (String × Nat × MethodName) := [(RX9, 9, yX7_init), (RX7, 20, yX1_init), (RX7, 34, yX2_init), (RX7, 41, yX5_init), (RX7, 48, yX4_init), (RX0, 17, yX7_init), (RX9, 28, yX3_init), (RX3, 22, yX4_init), (RX3, 70, yX9_isWithin)]
def pv_decl : List MethodName := [⟨"java/lang/RuntimeException", "<init>", "(Ljava/lang/String;)V"⟩, ⟨"java/lang/Exception", "<init>", "(Ljava/lang/String;)V"⟩, ⟨"java/lang/Throwable", "<init>", "(Ljava/lang/String;)V"⟩]
/-- the script, wherever it is read -/
def pv_SC (E : pv_E) (U : State) (H : Heap) : Prop := (∃ xs : Nat → Int32, va_X E.2.2.1 E.2.2.2.2.2.2.2 xs U H) ∧ E.2.2.1 < E.2.1 ∧ E.2.2.2.2.2.2.2 ≤ 260
def pv_EV (E : pv_E) (U : State) (H : Heap) : Prop := va_K (pv_D E) vwCl (pv_tys E) U ∧ vx_Zq Bundle.tN "UNASSIGNED_STACK" Bundle.steD (pv_A (pv_b E)) U H ∧ vx_Zq Bundle.tN "SUPPRESSED_SENTINEL" Bundle.listD (pv_A (pv_b E)) U H ∧ va_AO RX7 U ∧ (∀ q ∈ pv_strs, ∃ sa, vk_R RX9 q.1 q.2 sa U) ∧ (∀ q ∈ pv_nest, va_Nw (.methodLinkNest q.1 q.2.1 q.2.2 RX9) U) ∧ (∀ q ∈ pv_xs, va_Nw (.castable q q) U ∧ ∀ y ∈ pv_decl, va_Nw (.declares y) U) ∧ pv_SC E U H
theorem pv_EV.moved {E : pv_E} {u U : State} {H H1 : Heap} (hW : u.WarmedH U.vm) (h : pv_EV E u H) (hq : ∀ a : Nat, a < H.size → ¬ pv_A (pv_b E) a → H1[a]? = H[a]?) : pv_EV E U H1 := by
  obtain ⟨h1, h2, h3, h4, h5, h6, h7, ⟨xs, h8⟩, h9, h10⟩ := h
  have hvm : u.vm.Alike U.vm := hW.alike
  have hlt : E.2.2.1 < H.size := by
    obtain ⟨scr, g1, -⟩ := h8
    exact (Array.getElem?_eq_some_iff.mp g1).1
  exact ⟨va_K.moved hvm h1, vx_Zq.moved hvm (h2.kept hq), vx_Zq.moved hvm (h3.kept hq), va_AO.moved hvm h4, fun q hq => (h5 q hq).imp fun sa hs => vk_R.warm hW hs, fun q hq => va_Nw.warmM hW (h6 q hq), fun q hq => ⟨va_Nw.warmC hW (h7 q hq).1, fun y hy => va_Nw.warmD hW ((h7 q hq).2 y hy)⟩, ⟨xs, (h8.moved hvm).kept (hq _ hlt (Nat.not_le.mpr h9))⟩, h9, h10⟩
def pv_FX (E : pv_E) (mi : pv_MI) (p : Program) (s : State) (m : MethodId) (args : Array Value) (meth : Method) (c : Code) : Prop :=
  p.tables.exec = Jvm.exec ∧ c.code = mi.2.1 ∧ c.maxLocals = mi.2.2.1 ∧ meth.sig.returnType = mi.2.2.2.1 ∧ s.vm.findClass mi.1.cls = some m.cls ∧ (∀ w ∈ pv_W, w.before args s = true) ∧ meth.locks = false ∧ c.exceptionTable.toList = tableOf mi.2.2.2.2 ∧ meth.name = mi.1.name ∧ E.1.stackTraces = false
/-- while the objects are made, each new cell is the next one -/
def pv_SZ (E : pv_E) (sz : Nat) (s : State) (cells bc RC : Nat) : Prop := E.2.1 ≤ s.heap.size ∧ (sz = pv_K0 ∨ (sz < pv_K0 ∧ s.heap.size + cells = E.2.1 + sz ∧ cells + bc = RC))
abbrev pv_Z : Type := List Frame → Array Value → State → Nat → Nat → State → Prop
/-- at pc of the method mi, with these locals, this stack and this memory: the machine comes to an end of the kind z. d: frames that may still be opened; bc, bs: cells and slots that may still be made -/
def pv_X (z : pv_Z) (E : pv_E) (d bc bs : Nat) (mi : pv_MI) (pc : Nat) (lv : pv_LV) (st : List Value) (sz : Nat) (P : pv_PT) (I : pv_IT) (J : pv_JT) : Prop :=
  ∀ (p : Program) (e : Env) (R : Room) (s : State) (m : MethodId) (args : Array Value) (below : List Frame) (meth : Method) (c : Code) (H : Heap) (locs : List Loc) (cells slots : Nat) (ls : Array Slot),
    pv_FX E mi p s m args meth c → d ≤ R.frames ∧ 37 * d ≤ R.locals ∧ cells + bc ≤ R.cells ∧ slots + bs ≤ R.slots → pv_EV E s s.heap → pv_SZ E sz s cells bc R.cells → va_S (pv_A (pv_b E)) s.heap H locs → va_P (pv_D E) vwCl (pv_WL E sz P I J) H → pv_lv E ls mi.2.2.1 lv →
    W p E.1 e R s m args below meth c H locs cells slots (z below args s R.cells R.slots) (F0 m pc ls (st.map (pv_cv E)))
section PVR
variable {z : pv_Z} {E : pv_E} {d bc bs : Nat} {mi : pv_MI} {pc : Nat} {lv : pv_LV} {st : List Value} {sz : Nat} {P : pv_PT} {I : pv_IT} {J : pv_JT}
theorem px_keep (ks : List Nat) (k : pv_X z E d bc bs mi pc (pv_keep ks lv) st sz P I J) : pv_X z E d bc bs mi pc lv st sz P I J :=
  fun p e R s m args below meth c H locs cells slots ls hF hR hE hz hS hP hl => k p e R s m args below meth c H locs cells slots ls hF hR hE hz hS hP (pv_lv_keep ks hl)
theorem px_weak {d1 c1 s1 : Nat} (h0 : sz = pv_K0) (h1 : d1 ≤ d) (h2 : c1 ≤ bc) (h3 : s1 ≤ bs) (k : pv_X z E d1 c1 s1 mi pc lv st sz P I J) : pv_X z E d bc bs mi pc lv st sz P I J :=
  fun p e R s m args below meth c H locs cells slots ls hF hR hE hz hS hP hl => k p e R s m args below meth c H locs cells slots ls hF ⟨by omega, by omega, by omega, by omega⟩ hE ⟨hz.1, Or.inl h0⟩ hS hP hl

theorem px_iconst {n : Int} {v : Int32} (hd : decode mi.2.1 pc = .ok (.iconst n, 1)) (hv : Int32.ofInt n = v) (k : pv_X z E d bc bs mi (pc + 1) lv (.int v :: st) sz P I J) : pv_X z E d bc bs mi pc lv (st) sz P I J :=
  fun p e R s m args below meth c H locs cells slots ls hF hR hE hz hS hP hl => lv_iconst hF.1 hF.2.1 hd hv (k p e R s m args below meth c H locs cells slots ls hF hR hE hz hS hP hl)
theorem px_bipush {n : Int} {v : Int32} (hd : decode mi.2.1 pc = .ok (.bipush n, 2)) (hv : (Int8.ofInt n).toInt32 = v) (k : pv_X z E d bc bs mi (pc + 2) lv (.int v :: st) sz P I J) : pv_X z E d bc bs mi pc lv (st) sz P I J :=
  fun p e R s m args below meth c H locs cells slots ls hF hR hE hz hS hP hl => lv_bipush hF.1 hF.2.1 hd hv (k p e R s m args below meth c H locs cells slots ls hF hR hE hz hS hP hl)
theorem px_sipush {n : Int} {v : Int32} (hd : decode mi.2.1 pc = .ok (.sipush n, 3)) (hv : (Int16.ofInt n).toInt32 = v) (k : pv_X z E d bc bs mi (pc + 3) lv (.int v :: st) sz P I J) : pv_X z E d bc bs mi pc lv (st) sz P I J :=
  fun p e R s m args below meth c H locs cells slots ls hF hR hE hz hS hP hl => lv_sipush hF.1 hF.2.1 hd hv (k p e R s m args below meth c H locs cells slots ls hF hR hE hz hS hP hl)
theorem px_lconst {n : Fin 2} {v : Int64} (hd : decode mi.2.1 pc = .ok (.lconst n, 1)) (hv : Int64.ofNat (n : Nat) = v) (k : pv_X z E d bc bs mi (pc + 1) lv (.long v :: st) sz P I J) : pv_X z E d bc bs mi pc lv (st) sz P I J :=
  fun p e R s m args below meth c H locs cells slots ls hF hR hE hz hS hP hl => lv_lconst hF.1 hF.2.1 hd hv (k p e R s m args below meth c H locs cells slots ls hF hR hE hz hS hP hl)
theorem px_dconst0  (hd : decode mi.2.1 pc = .ok (.dconst 0, 1)) (k : pv_X z E d bc bs mi (pc + 1) lv (.double FP.dconst0 :: st) sz P I J) : pv_X z E d bc bs mi pc lv (st) sz P I J :=
  fun p e R s m args below meth c H locs cells slots ls hF hR hE hz hS hP hl => lv_dconst0 hF.1 hF.2.1 hd (k p e R s m args below meth c H locs cells slots ls hF hR hE hz hS hP hl)
theorem px_dconst1  (hd : decode mi.2.1 pc = .ok (.dconst 1, 1)) (k : pv_X z E d bc bs mi (pc + 1) lv (.double FP.dconst1 :: st) sz P I J) : pv_X z E d bc bs mi pc lv (st) sz P I J :=
  fun p e R s m args below meth c H locs cells slots ls hF hR hE hz hS hP hl => lv_dconst1 hF.1 hF.2.1 hd (k p e R s m args below meth c H locs cells slots ls hF hR hE hz hS hP hl)
theorem px_iload {i : Nat} {x : Int32} (hd : decode mi.2.1 pc = .ok (.iload i, 2)) (hg : pv_get i lv = some (.int x)) (k : pv_X z E d bc bs mi (pc + 2) lv (.int x :: st) sz P I J) : pv_X z E d bc bs mi pc lv st sz P I J :=
  fun p e R s m args below meth c H locs cells slots ls hF hR hE hz hS hP hl => lv_iload hF.1 hF.2.1 hd (pv_lv_get hl hg) (k p e R s m args below meth c H locs cells slots ls hF hR hE hz hS hP hl)
theorem px_iload_n {i : Fin 4} {x : Int32} (hd : decode mi.2.1 pc = .ok (.iload_n i, 1)) (hg : pv_get (i : Nat) lv = some (.int x)) (k : pv_X z E d bc bs mi (pc + 1) lv (.int x :: st) sz P I J) : pv_X z E d bc bs mi pc lv st sz P I J :=
  fun p e R s m args below meth c H locs cells slots ls hF hR hE hz hS hP hl => lv_iload_n hF.1 hF.2.1 hd rfl (pv_lv_get hl hg) (k p e R s m args below meth c H locs cells slots ls hF hR hE hz hS hP hl)
theorem px_istore {i : Nat} {x : Int32} (hd : decode mi.2.1 pc = .ok (.istore i, 2)) (hi : i < mi.2.2.1) (k : pv_X z E d bc bs mi (pc + 2) (pv_put1 i (.int x) lv) st sz P I J) : pv_X z E d bc bs mi pc lv (.int x :: st) sz P I J :=
  fun p e R s m args below meth c H locs cells slots ls hF hR hE hz hS hP hl => lv_istore hF.1 hF.2.1 hd hl hi rfl (fun ls' hl' => k p e R s m args below meth c H locs cells slots ls' hF hR hE hz hS hP (pv_lv_put1 hl'))
theorem px_istore_n {i : Fin 4} {x : Int32} (hd : decode mi.2.1 pc = .ok (.istore_n i, 1)) (hi : (i : Nat) < mi.2.2.1) (k : pv_X z E d bc bs mi (pc + 1) (pv_put1 (i : Nat) (.int x) lv) st sz P I J) : pv_X z E d bc bs mi pc lv (.int x :: st) sz P I J :=
  fun p e R s m args below meth c H locs cells slots ls hF hR hE hz hS hP hl => lv_istore_n hF.1 hF.2.1 hd rfl hl hi rfl (fun ls' hl' => k p e R s m args below meth c H locs cells slots ls' hF hR hE hz hS hP (pv_lv_put1 hl'))
theorem px_lload {i : Nat} {x : Int64} (hd : decode mi.2.1 pc = .ok (.lload i, 2)) (hg : pv_get i lv = some (.long x)) (k : pv_X z E d bc bs mi (pc + 2) lv (.long x :: st) sz P I J) : pv_X z E d bc bs mi pc lv st sz P I J :=
  fun p e R s m args below meth c H locs cells slots ls hF hR hE hz hS hP hl => lv_lload hF.1 hF.2.1 hd (pv_lv_get hl hg) (k p e R s m args below meth c H locs cells slots ls hF hR hE hz hS hP hl)
theorem px_lload_n {i : Fin 4} {x : Int64} (hd : decode mi.2.1 pc = .ok (.lload_n i, 1)) (hg : pv_get (i : Nat) lv = some (.long x)) (k : pv_X z E d bc bs mi (pc + 1) lv (.long x :: st) sz P I J) : pv_X z E d bc bs mi pc lv st sz P I J :=
  fun p e R s m args below meth c H locs cells slots ls hF hR hE hz hS hP hl => lv_lload_n hF.1 hF.2.1 hd rfl (pv_lv_get hl hg) (k p e R s m args below meth c H locs cells slots ls hF hR hE hz hS hP hl)
theorem px_lstore {i : Nat} {x : Int64} (hd : decode mi.2.1 pc = .ok (.lstore i, 2)) (hi : i + 1 < mi.2.2.1) (k : pv_X z E d bc bs mi (pc + 2) (pv_put2 i (.long x) lv) st sz P I J) : pv_X z E d bc bs mi pc lv (.long x :: st) sz P I J :=
  fun p e R s m args below meth c H locs cells slots ls hF hR hE hz hS hP hl => lv_lstore hF.1 hF.2.1 hd hl hi rfl (fun ls' hl' => k p e R s m args below meth c H locs cells slots ls' hF hR hE hz hS hP (pv_lv_put2 hl'))
theorem px_lstore_n {i : Fin 4} {x : Int64} (hd : decode mi.2.1 pc = .ok (.lstore_n i, 1)) (hi : (i : Nat) + 1 < mi.2.2.1) (k : pv_X z E d bc bs mi (pc + 1) (pv_put2 (i : Nat) (.long x) lv) st sz P I J) : pv_X z E d bc bs mi pc lv (.long x :: st) sz P I J :=
  fun p e R s m args below meth c H locs cells slots ls hF hR hE hz hS hP hl => lv_lstore_n hF.1 hF.2.1 hd rfl hl hi rfl (fun ls' hl' => k p e R s m args below meth c H locs cells slots ls' hF hR hE hz hS hP (pv_lv_put2 hl'))
theorem px_dload {i : Nat} {x : UInt64} (hd : decode mi.2.1 pc = .ok (.dload i, 2)) (hg : pv_get i lv = some (.double x)) (k : pv_X z E d bc bs mi (pc + 2) lv (.double x :: st) sz P I J) : pv_X z E d bc bs mi pc lv st sz P I J :=
  fun p e R s m args below meth c H locs cells slots ls hF hR hE hz hS hP hl => lv_dload hF.1 hF.2.1 hd (pv_lv_get hl hg) (k p e R s m args below meth c H locs cells slots ls hF hR hE hz hS hP hl)
theorem px_dload_n {i : Fin 4} {x : UInt64} (hd : decode mi.2.1 pc = .ok (.dload_n i, 1)) (hg : pv_get (i : Nat) lv = some (.double x)) (k : pv_X z E d bc bs mi (pc + 1) lv (.double x :: st) sz P I J) : pv_X z E d bc bs mi pc lv st sz P I J :=
  fun p e R s m args below meth c H locs cells slots ls hF hR hE hz hS hP hl => lv_dload_n hF.1 hF.2.1 hd rfl (pv_lv_get hl hg) (k p e R s m args below meth c H locs cells slots ls hF hR hE hz hS hP hl)
theorem px_dstore {i : Nat} {x : UInt64} (hd : decode mi.2.1 pc = .ok (.dstore i, 2)) (hi : i + 1 < mi.2.2.1) (k : pv_X z E d bc bs mi (pc + 2) (pv_put2 i (.double x) lv) st sz P I J) : pv_X z E d bc bs mi pc lv (.double x :: st) sz P I J :=
  fun p e R s m args below meth c H locs cells slots ls hF hR hE hz hS hP hl => lv_dstore hF.1 hF.2.1 hd hl hi rfl (fun ls' hl' => k p e R s m args below meth c H locs cells slots ls' hF hR hE hz hS hP (pv_lv_put2 hl'))
theorem px_dstore_n {i : Fin 4} {x : UInt64} (hd : decode mi.2.1 pc = .ok (.dstore_n i, 1)) (hi : (i : Nat) + 1 < mi.2.2.1) (k : pv_X z E d bc bs mi (pc + 1) (pv_put2 (i : Nat) (.double x) lv) st sz P I J) : pv_X z E d bc bs mi pc lv (.double x :: st) sz P I J :=
  fun p e R s m args below meth c H locs cells slots ls hF hR hE hz hS hP hl => lv_dstore_n hF.1 hF.2.1 hd rfl hl hi rfl (fun ls' hl' => k p e R s m args below meth c H locs cells slots ls' hF hR hE hz hS hP (pv_lv_put2 hl'))
theorem px_aload {i x : Nat} (hd : decode mi.2.1 pc = .ok (.aload i, 2)) (hg : pv_get i lv = some (.ref x)) (k : pv_X z E d bc bs mi (pc + 2) lv (.ref x :: st) sz P I J) : pv_X z E d bc bs mi pc lv st sz P I J :=
  fun p e R s m args below meth c H locs cells slots ls hF hR hE hz hS hP hl => lv_aload hF.1 hF.2.1 hd (pv_lv_get hl hg) (k p e R s m args below meth c H locs cells slots ls hF hR hE hz hS hP hl)
theorem px_aload_n {i : Fin 4} {x : Nat} (hd : decode mi.2.1 pc = .ok (.aload_n i, 1)) (hg : pv_get (i : Nat) lv = some (.ref x)) (k : pv_X z E d bc bs mi (pc + 1) lv (.ref x :: st) sz P I J) : pv_X z E d bc bs mi pc lv st sz P I J :=
  fun p e R s m args below meth c H locs cells slots ls hF hR hE hz hS hP hl => lv_aload_n hF.1 hF.2.1 hd rfl (pv_lv_get hl hg) (k p e R s m args below meth c H locs cells slots ls hF hR hE hz hS hP hl)
theorem px_aloadS {i x : Nat} (hd : decode mi.2.1 pc = .ok (.aload i, 2)) (hg : pv_get i lv = some (.retAddr x)) (k : pv_X z E d bc bs mi (pc + 2) lv (.retAddr x :: st) sz P I J) : pv_X z E d bc bs mi pc lv st sz P I J :=
  fun p e R s m args below meth c H locs cells slots ls hF hR hE hz hS hP hl => lv_aload hF.1 hF.2.1 hd (pv_lv_get hl hg) (k p e R s m args below meth c H locs cells slots ls hF hR hE hz hS hP hl)
theorem px_aloadS_n {i : Fin 4} {x : Nat} (hd : decode mi.2.1 pc = .ok (.aload_n i, 1)) (hg : pv_get (i : Nat) lv = some (.retAddr x)) (k : pv_X z E d bc bs mi (pc + 1) lv (.retAddr x :: st) sz P I J) : pv_X z E d bc bs mi pc lv st sz P I J :=
  fun p e R s m args below meth c H locs cells slots ls hF hR hE hz hS hP hl => lv_aload_n hF.1 hF.2.1 hd rfl (pv_lv_get hl hg) (k p e R s m args below meth c H locs cells slots ls hF hR hE hz hS hP hl)
theorem px_astore {i x : Nat} (hd : decode mi.2.1 pc = .ok (.astore i, 2)) (hi : i < mi.2.2.1) (k : pv_X z E d bc bs mi (pc + 2) (pv_put1 i (.ref x) lv) st sz P I J) : pv_X z E d bc bs mi pc lv (.ref x :: st) sz P I J :=
  fun p e R s m args below meth c H locs cells slots ls hF hR hE hz hS hP hl => lv_astore hF.1 hF.2.1 hd hl hi rfl (fun ls' hl' => k p e R s m args below meth c H locs cells slots ls' hF hR hE hz hS hP (pv_lv_put1 hl'))
theorem px_astore_n {i : Fin 4} {x : Nat} (hd : decode mi.2.1 pc = .ok (.astore_n i, 1)) (hi : (i : Nat) < mi.2.2.1) (k : pv_X z E d bc bs mi (pc + 1) (pv_put1 (i : Nat) (.ref x) lv) st sz P I J) : pv_X z E d bc bs mi pc lv (.ref x :: st) sz P I J :=
  fun p e R s m args below meth c H locs cells slots ls hF hR hE hz hS hP hl => lv_astore_n hF.1 hF.2.1 hd rfl hl hi rfl (fun ls' hl' => k p e R s m args below meth c H locs cells slots ls' hF hR hE hz hS hP (pv_lv_put1 hl'))
theorem px_iinc {i : Nat} {n : Int} {x v : Int32} (hd : decode mi.2.1 pc = .ok (.iinc i n, 3)) (hg : pv_get i lv = some (.int x)) (hv : x + Int32.ofInt n = v) (hi : i < mi.2.2.1) (k : pv_X z E d bc bs mi (pc + 3) (pv_put1 i (.int v) lv) st sz P I J) : pv_X z E d bc bs mi pc lv st sz P I J := by
  intro p e R s m args below meth c H locs cells slots ls hF hR hE hz hS hP hl
  obtain ⟨k0, hk0⟩ := List.getElem?_of_mem (List.mem_map.mpr ⟨(i, .int x), pv_get_mem hg, rfl⟩ : (i, Value.int x) ∈ lv.map (fun q => (q.1, pv_cv E q.2)))
  exact lv_iinc hF.1 hF.2.1 hd hl hk0 hv hi rfl (fun ls' hl' => k p e R s m args below meth c H locs cells slots ls' hF hR hE hz hS hP (pv_lv_put1 hl'))
theorem px_iadd {x y : Int32} (hd : decode mi.2.1 pc = .ok (.iadd, 1)) (k : pv_X z E d bc bs mi (pc + 1) lv (.int (x + y) :: st) sz P I J) : pv_X z E d bc bs mi pc lv (.int y :: .int x :: st) sz P I J :=
  fun p e R s m args below meth c H locs cells slots ls hF hR hE hz hS hP hl => lv_iadd hF.1 hF.2.1 hd (k p e R s m args below meth c H locs cells slots ls hF hR hE hz hS hP hl)
theorem px_isub {x y : Int32} (hd : decode mi.2.1 pc = .ok (.isub, 1)) (k : pv_X z E d bc bs mi (pc + 1) lv (.int (x - y) :: st) sz P I J) : pv_X z E d bc bs mi pc lv (.int y :: .int x :: st) sz P I J :=
  fun p e R s m args below meth c H locs cells slots ls hF hR hE hz hS hP hl => lv_isub hF.1 hF.2.1 hd (k p e R s m args below meth c H locs cells slots ls hF hR hE hz hS hP hl)
theorem px_imul {x y : Int32} (hd : decode mi.2.1 pc = .ok (.imul, 1)) (k : pv_X z E d bc bs mi (pc + 1) lv (.int (x * y) :: st) sz P I J) : pv_X z E d bc bs mi pc lv (.int y :: .int x :: st) sz P I J :=
  fun p e R s m args below meth c H locs cells slots ls hF hR hE hz hS hP hl => lv_imul hF.1 hF.2.1 hd (k p e R s m args below meth c H locs cells slots ls hF hR hE hz hS hP hl)
theorem px_iand {x y : Int32} (hd : decode mi.2.1 pc = .ok (.iand, 1)) (k : pv_X z E d bc bs mi (pc + 1) lv (.int (x &&& y) :: st) sz P I J) : pv_X z E d bc bs mi pc lv (.int y :: .int x :: st) sz P I J :=
  fun p e R s m args below meth c H locs cells slots ls hF hR hE hz hS hP hl => lv_iand hF.1 hF.2.1 hd (k p e R s m args below meth c H locs cells slots ls hF hR hE hz hS hP hl)
theorem px_ixor {x y : Int32} (hd : decode mi.2.1 pc = .ok (.ixor, 1)) (k : pv_X z E d bc bs mi (pc + 1) lv (.int (x ^^^ y) :: st) sz P I J) : pv_X z E d bc bs mi pc lv (.int y :: .int x :: st) sz P I J :=
  fun p e R s m args below meth c H locs cells slots ls hF hR hE hz hS hP hl => lv_ixor hF.1 hF.2.1 hd (k p e R s m args below meth c H locs cells slots ls hF hR hE hz hS hP hl)
theorem px_idiv {x y : Int32} (hd : decode mi.2.1 pc = .ok (.idiv, 1)) (hn : ¬ y = 0) (k : pv_X z E d bc bs mi (pc + 1) lv (.int (x / y) :: st) sz P I J) : pv_X z E d bc bs mi pc lv (.int y :: .int x :: st) sz P I J :=
  fun p e R s m args below meth c H locs cells slots ls hF hR hE hz hS hP hl => lv_idiv hF.1 hF.2.1 hd hn (k p e R s m args below meth c H locs cells slots ls hF hR hE hz hS hP hl)
theorem px_irem {x y : Int32} (hd : decode mi.2.1 pc = .ok (.irem, 1)) (hn : ¬ y = 0) (k : pv_X z E d bc bs mi (pc + 1) lv (.int (x - x / y * y) :: st) sz P I J) : pv_X z E d bc bs mi pc lv (.int y :: .int x :: st) sz P I J :=
  fun p e R s m args below meth c H locs cells slots ls hF hR hE hz hS hP hl => lv_irem hF.1 hF.2.1 hd hn (k p e R s m args below meth c H locs cells slots ls hF hR hE hz hS hP hl)
theorem px_ineg {x : Int32} (hd : decode mi.2.1 pc = .ok (.ineg, 1)) (k : pv_X z E d bc bs mi (pc + 1) lv (.int (-x) :: st) sz P I J) : pv_X z E d bc bs mi pc lv (.int x :: st) sz P I J :=
  fun p e R s m args below meth c H locs cells slots ls hF hR hE hz hS hP hl => lv_ineg hF.1 hF.2.1 hd (k p e R s m args below meth c H locs cells slots ls hF hR hE hz hS hP hl)
theorem px_ladd {x y : Int64} (hd : decode mi.2.1 pc = .ok (.ladd, 1)) (k : pv_X z E d bc bs mi (pc + 1) lv (.long (x + y) :: st) sz P I J) : pv_X z E d bc bs mi pc lv (.long y :: .long x :: st) sz P I J :=
  fun p e R s m args below meth c H locs cells slots ls hF hR hE hz hS hP hl => lv_ladd hF.1 hF.2.1 hd (k p e R s m args below meth c H locs cells slots ls hF hR hE hz hS hP hl)
theorem px_lsub {x y : Int64} (hd : decode mi.2.1 pc = .ok (.lsub, 1)) (k : pv_X z E d bc bs mi (pc + 1) lv (.long (x - y) :: st) sz P I J) : pv_X z E d bc bs mi pc lv (.long y :: .long x :: st) sz P I J :=
  fun p e R s m args below meth c H locs cells slots ls hF hR hE hz hS hP hl => lv_lsub hF.1 hF.2.1 hd (k p e R s m args below meth c H locs cells slots ls hF hR hE hz hS hP hl)
theorem px_lmul {x y : Int64} (hd : decode mi.2.1 pc = .ok (.lmul, 1)) (k : pv_X z E d bc bs mi (pc + 1) lv (.long (x * y) :: st) sz P I J) : pv_X z E d bc bs mi pc lv (.long y :: .long x :: st) sz P I J :=
  fun p e R s m args below meth c H locs cells slots ls hF hR hE hz hS hP hl => lv_lmul hF.1 hF.2.1 hd (k p e R s m args below meth c H locs cells slots ls hF hR hE hz hS hP hl)
theorem px_lshl {x : Int64} {y : Int32} (hd : decode mi.2.1 pc = .ok (.lshl, 1)) (k : pv_X z E d bc bs mi (pc + 1) lv (.long (x <<< (y.toInt64 &&& 63)) :: st) sz P I J) : pv_X z E d bc bs mi pc lv (.int y :: .long x :: st) sz P I J :=
  fun p e R s m args below meth c H locs cells slots ls hF hR hE hz hS hP hl => lv_lshl hF.1 hF.2.1 hd rfl (k p e R s m args below meth c H locs cells slots ls hF hR hE hz hS hP hl)
theorem px_i2l {x : Int32} (hd : decode mi.2.1 pc = .ok (.i2l, 1)) (k : pv_X z E d bc bs mi (pc + 1) lv (.long x.toInt64 :: st) sz P I J) : pv_X z E d bc bs mi pc lv (.int x :: st) sz P I J :=
  fun p e R s m args below meth c H locs cells slots ls hF hR hE hz hS hP hl => lv_i2l hF.1 hF.2.1 hd rfl (k p e R s m args below meth c H locs cells slots ls hF hR hE hz hS hP hl)
theorem px_l2i {x : Int64} (hd : decode mi.2.1 pc = .ok (.l2i, 1)) (k : pv_X z E d bc bs mi (pc + 1) lv (.int x.toInt32 :: st) sz P I J) : pv_X z E d bc bs mi pc lv (.long x :: st) sz P I J :=
  fun p e R s m args below meth c H locs cells slots ls hF hR hE hz hS hP hl => lv_l2i hF.1 hF.2.1 hd rfl (k p e R s m args below meth c H locs cells slots ls hF hR hE hz hS hP hl)
theorem px_dsub {x y : UInt64} (hd : decode mi.2.1 pc = .ok (.dsub, 1)) (hn : vf_n64 (FP.dsub x y)) (k : pv_X z E d bc bs mi (pc + 1) lv (.double (FP.dsub x y) :: st) sz P I J) : pv_X z E d bc bs mi pc lv (.double y :: .double x :: st) sz P I J :=
  fun p e R s m args below meth c H locs cells slots ls hF hR hE hz hS hP hl => lv_dsub hF.1 hF.2.1 hd hn (k p e R s m args below meth c H locs cells slots ls hF hR hE hz hS hP hl)
theorem px_dmul {x y : UInt64} (hd : decode mi.2.1 pc = .ok (.dmul, 1)) (hn : vf_n64 (FP.dmul x y)) (k : pv_X z E d bc bs mi (pc + 1) lv (.double (FP.dmul x y) :: st) sz P I J) : pv_X z E d bc bs mi pc lv (.double y :: .double x :: st) sz P I J :=
  fun p e R s m args below meth c H locs cells slots ls hF hR hE hz hS hP hl => lv_dmul hF.1 hF.2.1 hd hn (k p e R s m args below meth c H locs cells slots ls hF hR hE hz hS hP hl)
theorem px_ddiv {x y : UInt64} (hd : decode mi.2.1 pc = .ok (.ddiv, 1)) (hn : vf_n64 (FP.ddiv x y)) (k : pv_X z E d bc bs mi (pc + 1) lv (.double (FP.ddiv x y) :: st) sz P I J) : pv_X z E d bc bs mi pc lv (.double y :: .double x :: st) sz P I J :=
  fun p e R s m args below meth c H locs cells slots ls hF hR hE hz hS hP hl => lv_ddiv hF.1 hF.2.1 hd hn (k p e R s m args below meth c H locs cells slots ls hF hR hE hz hS hP hl)
theorem px_dup {v : Value} (hd : decode mi.2.1 pc = .ok (.dup, 1)) (hv : v.category = 1) (k : pv_X z E d bc bs mi (pc + 1) lv (v :: v :: st) sz P I J) : pv_X z E d bc bs mi pc lv (v :: st) sz P I J :=
  fun p e R s m args below meth c H locs cells slots ls hF hR hE hz hS hP hl => lv_dup hF.1 hF.2.1 hd ((pv_cat E v).trans hv) (k p e R s m args below meth c H locs cells slots ls hF hR hE hz hS hP hl)
theorem px_pop {v : Value} (hd : decode mi.2.1 pc = .ok (.pop, 1)) (hv : v.category = 1) (k : pv_X z E d bc bs mi (pc + 1) lv st sz P I J) : pv_X z E d bc bs mi pc lv (v :: st) sz P I J :=
  fun p e R s m args below meth c H locs cells slots ls hF hR hE hz hS hP hl => lv_pop hF.1 hF.2.1 hd ((pv_cat E v).trans hv) (k p e R s m args below meth c H locs cells slots ls hF hR hE hz hS hP hl)
theorem px_dup2 {v u : Value} (hd : decode mi.2.1 pc = .ok (.dup2, 1)) (hv : v.category = 1) (hu : u.category = 1) (k : pv_X z E d bc bs mi (pc + 1) lv (v :: u :: v :: u :: st) sz P I J) : pv_X z E d bc bs mi pc lv (v :: u :: st) sz P I J :=
  fun p e R s m args below meth c H locs cells slots ls hF hR hE hz hS hP hl => lv_dup2_11 hF.1 hF.2.1 hd ((pv_cat E v).trans hv) ((pv_cat E u).trans hu) (k p e R s m args below meth c H locs cells slots ls hF hR hE hz hS hP hl)
theorem px_icmp_eq {x y : Int32} {off : Int} {tgt : Nat} (hd : decode mi.2.1 pc = .ok (.if_icmp .eq off, 3)) (ht : (pc : Int) + off = (tgt : Int)) (kt : x = y → pv_X z E d bc bs mi tgt lv st sz P I J) (kf : ¬ x = y → pv_X z E d bc bs mi (pc + 3) lv st sz P I J) : pv_X z E d bc bs mi pc lv (.int y :: .int x :: st) sz P I J :=
  fun p e R s m args below meth c H locs cells slots ls hF hR hE hz hS hP hl => lv_icmp_eq hF.1 hF.2.1 hd ht (fun q => kt q p e R s m args below meth c H locs cells slots ls hF hR hE hz hS hP hl) (fun q => kf q p e R s m args below meth c H locs cells slots ls hF hR hE hz hS hP hl)
theorem px_if_eq {x : Int32} {off : Int} {tgt : Nat} (hd : decode mi.2.1 pc = .ok (.ifCond .eq off, 3)) (ht : (pc : Int) + off = (tgt : Int)) (kt : x = 0 → pv_X z E d bc bs mi tgt lv st sz P I J) (kf : ¬ x = 0 → pv_X z E d bc bs mi (pc + 3) lv st sz P I J) : pv_X z E d bc bs mi pc lv (.int x :: st) sz P I J :=
  fun p e R s m args below meth c H locs cells slots ls hF hR hE hz hS hP hl => lv_if_eq hF.1 hF.2.1 hd ht (fun q => kt q p e R s m args below meth c H locs cells slots ls hF hR hE hz hS hP hl) (fun q => kf q p e R s m args below meth c H locs cells slots ls hF hR hE hz hS hP hl)
theorem px_icmp_ne {x y : Int32} {off : Int} {tgt : Nat} (hd : decode mi.2.1 pc = .ok (.if_icmp .ne off, 3)) (ht : (pc : Int) + off = (tgt : Int)) (kt : ¬ x = y → pv_X z E d bc bs mi tgt lv st sz P I J) (kf : x = y → pv_X z E d bc bs mi (pc + 3) lv st sz P I J) : pv_X z E d bc bs mi pc lv (.int y :: .int x :: st) sz P I J :=
  fun p e R s m args below meth c H locs cells slots ls hF hR hE hz hS hP hl => lv_icmp_ne hF.1 hF.2.1 hd ht (fun q => kt q p e R s m args below meth c H locs cells slots ls hF hR hE hz hS hP hl) (fun q => kf q p e R s m args below meth c H locs cells slots ls hF hR hE hz hS hP hl)
theorem px_if_ne {x : Int32} {off : Int} {tgt : Nat} (hd : decode mi.2.1 pc = .ok (.ifCond .ne off, 3)) (ht : (pc : Int) + off = (tgt : Int)) (kt : ¬ x = 0 → pv_X z E d bc bs mi tgt lv st sz P I J) (kf : x = 0 → pv_X z E d bc bs mi (pc + 3) lv st sz P I J) : pv_X z E d bc bs mi pc lv (.int x :: st) sz P I J :=
  fun p e R s m args below meth c H locs cells slots ls hF hR hE hz hS hP hl => lv_if_ne hF.1 hF.2.1 hd ht (fun q => kt q p e R s m args below meth c H locs cells slots ls hF hR hE hz hS hP hl) (fun q => kf q p e R s m args below meth c H locs cells slots ls hF hR hE hz hS hP hl)
theorem px_icmp_lt {x y : Int32} {off : Int} {tgt : Nat} (hd : decode mi.2.1 pc = .ok (.if_icmp .lt off, 3)) (ht : (pc : Int) + off = (tgt : Int)) (kt : x < y → pv_X z E d bc bs mi tgt lv st sz P I J) (kf : ¬ x < y → pv_X z E d bc bs mi (pc + 3) lv st sz P I J) : pv_X z E d bc bs mi pc lv (.int y :: .int x :: st) sz P I J :=
  fun p e R s m args below meth c H locs cells slots ls hF hR hE hz hS hP hl => lv_icmp_lt hF.1 hF.2.1 hd ht (fun q => kt q p e R s m args below meth c H locs cells slots ls hF hR hE hz hS hP hl) (fun q => kf q p e R s m args below meth c H locs cells slots ls hF hR hE hz hS hP hl)
theorem px_if_lt {x : Int32} {off : Int} {tgt : Nat} (hd : decode mi.2.1 pc = .ok (.ifCond .lt off, 3)) (ht : (pc : Int) + off = (tgt : Int)) (kt : x < 0 → pv_X z E d bc bs mi tgt lv st sz P I J) (kf : ¬ x < 0 → pv_X z E d bc bs mi (pc + 3) lv st sz P I J) : pv_X z E d bc bs mi pc lv (.int x :: st) sz P I J :=
  fun p e R s m args below meth c H locs cells slots ls hF hR hE hz hS hP hl => lv_if_lt hF.1 hF.2.1 hd ht (fun q => kt q p e R s m args below meth c H locs cells slots ls hF hR hE hz hS hP hl) (fun q => kf q p e R s m args below meth c H locs cells slots ls hF hR hE hz hS hP hl)
theorem px_icmp_ge {x y : Int32} {off : Int} {tgt : Nat} (hd : decode mi.2.1 pc = .ok (.if_icmp .ge off, 3)) (ht : (pc : Int) + off = (tgt : Int)) (kt : y ≤ x → pv_X z E d bc bs mi tgt lv st sz P I J) (kf : ¬ y ≤ x → pv_X z E d bc bs mi (pc + 3) lv st sz P I J) : pv_X z E d bc bs mi pc lv (.int y :: .int x :: st) sz P I J :=
  fun p e R s m args below meth c H locs cells slots ls hF hR hE hz hS hP hl => lv_icmp_ge hF.1 hF.2.1 hd ht (fun q => kt q p e R s m args below meth c H locs cells slots ls hF hR hE hz hS hP hl) (fun q => kf q p e R s m args below meth c H locs cells slots ls hF hR hE hz hS hP hl)
theorem px_if_ge {x : Int32} {off : Int} {tgt : Nat} (hd : decode mi.2.1 pc = .ok (.ifCond .ge off, 3)) (ht : (pc : Int) + off = (tgt : Int)) (kt : 0 ≤ x → pv_X z E d bc bs mi tgt lv st sz P I J) (kf : ¬ 0 ≤ x → pv_X z E d bc bs mi (pc + 3) lv st sz P I J) : pv_X z E d bc bs mi pc lv (.int x :: st) sz P I J :=
  fun p e R s m args below meth c H locs cells slots ls hF hR hE hz hS hP hl => lv_if_ge hF.1 hF.2.1 hd ht (fun q => kt q p e R s m args below meth c H locs cells slots ls hF hR hE hz hS hP hl) (fun q => kf q p e R s m args below meth c H locs cells slots ls hF hR hE hz hS hP hl)
theorem px_icmp_gt {x y : Int32} {off : Int} {tgt : Nat} (hd : decode mi.2.1 pc = .ok (.if_icmp .gt off, 3)) (ht : (pc : Int) + off = (tgt : Int)) (kt : y < x → pv_X z E d bc bs mi tgt lv st sz P I J) (kf : ¬ y < x → pv_X z E d bc bs mi (pc + 3) lv st sz P I J) : pv_X z E d bc bs mi pc lv (.int y :: .int x :: st) sz P I J :=
  fun p e R s m args below meth c H locs cells slots ls hF hR hE hz hS hP hl => lv_icmp_gt hF.1 hF.2.1 hd ht (fun q => kt q p e R s m args below meth c H locs cells slots ls hF hR hE hz hS hP hl) (fun q => kf q p e R s m args below meth c H locs cells slots ls hF hR hE hz hS hP hl)
theorem px_if_gt {x : Int32} {off : Int} {tgt : Nat} (hd : decode mi.2.1 pc = .ok (.ifCond .gt off, 3)) (ht : (pc : Int) + off = (tgt : Int)) (kt : 0 < x → pv_X z E d bc bs mi tgt lv st sz P I J) (kf : ¬ 0 < x → pv_X z E d bc bs mi (pc + 3) lv st sz P I J) : pv_X z E d bc bs mi pc lv (.int x :: st) sz P I J :=
  fun p e R s m args below meth c H locs cells slots ls hF hR hE hz hS hP hl => lv_if_gt hF.1 hF.2.1 hd ht (fun q => kt q p e R s m args below meth c H locs cells slots ls hF hR hE hz hS hP hl) (fun q => kf q p e R s m args below meth c H locs cells slots ls hF hR hE hz hS hP hl)
theorem px_icmp_le {x y : Int32} {off : Int} {tgt : Nat} (hd : decode mi.2.1 pc = .ok (.if_icmp .le off, 3)) (ht : (pc : Int) + off = (tgt : Int)) (kt : x ≤ y → pv_X z E d bc bs mi tgt lv st sz P I J) (kf : ¬ x ≤ y → pv_X z E d bc bs mi (pc + 3) lv st sz P I J) : pv_X z E d bc bs mi pc lv (.int y :: .int x :: st) sz P I J :=
  fun p e R s m args below meth c H locs cells slots ls hF hR hE hz hS hP hl => lv_icmp_le hF.1 hF.2.1 hd ht (fun q => kt q p e R s m args below meth c H locs cells slots ls hF hR hE hz hS hP hl) (fun q => kf q p e R s m args below meth c H locs cells slots ls hF hR hE hz hS hP hl)
theorem px_if_le {x : Int32} {off : Int} {tgt : Nat} (hd : decode mi.2.1 pc = .ok (.ifCond .le off, 3)) (ht : (pc : Int) + off = (tgt : Int)) (kt : x ≤ 0 → pv_X z E d bc bs mi tgt lv st sz P I J) (kf : ¬ x ≤ 0 → pv_X z E d bc bs mi (pc + 3) lv st sz P I J) : pv_X z E d bc bs mi pc lv (.int x :: st) sz P I J :=
  fun p e R s m args below meth c H locs cells slots ls hF hR hE hz hS hP hl => lv_if_le hF.1 hF.2.1 hd ht (fun q => kt q p e R s m args below meth c H locs cells slots ls hF hR hE hz hS hP hl) (fun q => kf q p e R s m args below meth c H locs cells slots ls hF hR hE hz hS hP hl)
theorem px_goto {off : Int} {tgt : Nat} (hd : decode mi.2.1 pc = .ok (.goto off, 3)) (ht : (pc : Int) + off = (tgt : Int)) (k : pv_X z E d bc bs mi tgt lv st sz P I J) : pv_X z E d bc bs mi pc lv st sz P I J :=
  fun p e R s m args below meth c H locs cells slots ls hF hR hE hz hS hP hl => lv_goto hF.1 hF.2.1 hd ht (k p e R s m args below meth c H locs cells slots ls hF hR hE hz hS hP hl)
theorem px_tableOut {dflt lo hi : Int} {offs : Array Int} {len : Nat} {x : Int32} {tgt : Nat} (hd : decode mi.2.1 pc = .ok (.tableswitch dflt lo hi offs, len)) (h : x.toInt < lo ∨ hi < x.toInt) (ht : (pc : Int) + dflt = (tgt : Int)) (k : pv_X z E d bc bs mi tgt lv st sz P I J) : pv_X z E d bc bs mi pc lv (.int x :: st) sz P I J :=
  fun p e R s m args below meth c H locs cells slots ls hF hR hE hz hS hP hl => lv_tableOut hF.1 hF.2.1 hd h ht (k p e R s m args below meth c H locs cells slots ls hF hR hE hz hS hP hl)
theorem px_tableIn {dflt lo hi : Int} {offs : Array Int} {len : Nat} {x : Int32} {off : Int} {tgt : Nat} (hd : decode mi.2.1 pc = .ok (.tableswitch dflt lo hi offs, len)) (h1 : ¬ x.toInt < lo) (h2 : ¬ hi < x.toInt) (ho : offs[(x.toInt - lo).toNat]? = some off) (ht : (pc : Int) + off = (tgt : Int)) (k : pv_X z E d bc bs mi tgt lv st sz P I J) : pv_X z E d bc bs mi pc lv (.int x :: st) sz P I J :=
  fun p e R s m args below meth c H locs cells slots ls hF hR hE hz hS hP hl => lv_tableIn hF.1 hF.2.1 hd h1 h2 ho ht (k p e R s m args below meth c H locs cells slots ls hF hR hE hz hS hP hl)
theorem px_ifnonnull {x : Nat} {off : Int} {tgt : Nat} (hd : decode mi.2.1 pc = .ok (.ifnonnull off, 3)) (ht : (pc : Int) + off = (tgt : Int)) (k : pv_X z E d bc bs mi tgt lv st sz P I J) : pv_X z E d bc bs mi pc lv (.ref x :: st) sz P I J :=
  fun p e R s m args below meth c H locs cells slots ls hF hR hE hz hS hP hl => lv_ifnonnull hF.1 hF.2.1 hd ht (k p e R s m args below meth c H locs cells slots ls hF hR hE hz hS hP hl)
theorem px_ifnull {x : Nat} {off : Int} (hd : decode mi.2.1 pc = .ok (.ifnull off, 3)) (k : pv_X z E d bc bs mi (pc + 3) lv st sz P I J) : pv_X z E d bc bs mi pc lv (.ref x :: st) sz P I J :=
  fun p e R s m args below meth c H locs cells slots ls hF hR hE hz hS hP hl => lv_ifnull hF.1 hF.2.1 hd (k p e R s m args below meth c H locs cells slots ls hF hR hE hz hS hP hl)
theorem px_lcmp {x y : Int64} (hd : decode mi.2.1 pc = .ok (.lcmp, 1)) (k : pv_X z E d bc bs mi (pc + 1) lv (.int (lg_cmp x y) :: st) sz P I J) : pv_X z E d bc bs mi pc lv (.long y :: .long x :: st) sz P I J :=
  fun p e R s m args below meth c H locs cells slots ls hF hR hE hz hS hP hl => W.lcmp hF.1 hF.2.1 hd (k p e R s m args below meth c H locs cells slots ls hF hR hE hz hS hP hl)
theorem px_dcmp {x y : UInt64} {op : CmpOp} (hd : decode mi.2.1 pc = .ok (.dcmp op, 1)) (k : pv_X z E d bc bs mi (pc + 1) lv (.int (Op.cmpValue (FP.dcmp x y) op) :: st) sz P I J) : pv_X z E d bc bs mi pc lv (.double y :: .double x :: st) sz P I J :=
  fun p e R s m args below meth c H locs cells slots ls hF hR hE hz hS hP hl => lv_dcmp hF.1 hF.2.1 hd (k p e R s m args below meth c H locs cells slots ls hF hR hE hz hS hP hl)
theorem px_i2d {x : Int32} (hd : decode mi.2.1 pc = .ok (.i2d, 1)) (k : pv_X z E d bc bs mi (pc + 1) lv (.double (FP.i2d x) :: st) sz P I J) : pv_X z E d bc bs mi pc lv (.int x :: st) sz P I J :=
  fun p e R s m args below meth c H locs cells slots ls hF hR hE hz hS hP hl => lv_i2d hF.1 hF.2.1 hd (k p e R s m args below meth c H locs cells slots ls hF hR hE hz hS hP hl)
theorem px_l2d {x : Int64} (hd : decode mi.2.1 pc = .ok (.l2d, 1)) (k : pv_X z E d bc bs mi (pc + 1) lv (.double (FP.l2d x) :: st) sz P I J) : pv_X z E d bc bs mi pc lv (.long x :: st) sz P I J :=
  fun p e R s m args below meth c H locs cells slots ls hF hR hE hz hS hP hl => lv_l2d hF.1 hF.2.1 hd (k p e R s m args below meth c H locs cells slots ls hF hR hE hz hS hP hl)
theorem px_d2l {x : UInt64} (hd : decode mi.2.1 pc = .ok (.d2l, 1)) (k : pv_X z E d bc bs mi (pc + 1) lv (.long (FP.d2l x) :: st) sz P I J) : pv_X z E d bc bs mi pc lv (.double x :: st) sz P I J :=
  fun p e R s m args below meth c H locs cells slots ls hF hR hE hz hS hP hl => lv_d2l hF.1 hF.2.1 hd (k p e R s m args below meth c H locs cells slots ls hF hR hE hz hS hP hl)
end PVR
