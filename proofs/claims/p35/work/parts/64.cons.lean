/-! Constructors: a ship and its parts. -/
/-- the memory while an object q is made: what lies behind it is whole up to s, q itself up to its field f -/
def cP (P : pv_PT) (q s f : Nat) : pv_PT := fun a => if a = q then (fun j => if j < f then pv_P0 q j else none) else if q < a ∧ a < s then pv_P0 a else P a
def bP (P : pv_PT) (q s : Nat) : pv_PT := fun a => if q ≤ a ∧ a < s then pv_P0 a else P a
def bI (I : pv_IT) (q m : Nat) (G : pv_IT) : pv_IT := fun a => if q ≤ a ∧ a < q + m then G (a - q) else I a
theorem cP_aj {P : pv_PT} {q s f a j : Nat} : cP P q s f a j = if a = q then (if j < f then pv_P0 q j else none) else if q < a ∧ a < s then pv_P0 a j else P a j := by
  unfold cP
  by_cases e : a = q
  · rw [if_pos e, if_pos e]
  · rw [if_neg e, if_neg e]
    by_cases e2 : q < a ∧ a < s
    · rw [if_pos e2, if_pos e2]
    · rw [if_neg e2, if_neg e2]
theorem bP_aj {P : pv_PT} {q s a j : Nat} : bP P q s a j = if q ≤ a ∧ a < s then pv_P0 a j else P a j := by
  unfold bP
  by_cases e : q ≤ a ∧ a < s
  · rw [if_pos e, if_pos e]
  · rw [if_neg e, if_neg e]
theorem bI_aj {I : pv_IT} {q m a j : Nat} {G : pv_IT} : bI I q m G a j = if q ≤ a ∧ a < q + m then G (a - q) j else I a j := by
  unfold bI
  by_cases e : q ≤ a ∧ a < q + m
  · rw [if_pos e, if_pos e]
  · rw [if_neg e, if_neg e]
theorem zP_aj {P : pv_PT} {k a j : Nat} : pv_zP P k a j = if a = k then none else P a j := by
  unfold pv_zP
  by_cases e : a = k
  · rw [if_pos e, if_pos e]
  · rw [if_neg e, if_neg e]
theorem zI_aj {I : pv_IT} {k a j : Nat} : pv_zI I k a j = if a = k then 0 else I a j := by
  unfold pv_zI
  by_cases e : a = k
  · rw [if_pos e, if_pos e]
  · rw [if_neg e, if_neg e]
theorem uP_aj {P : pv_PT} {k i a j : Nat} {v : Option Nat} : pv_uP P k i v a j = if a = k ∧ j = i then v else P a j := by
  unfold pv_uP
  by_cases e : a = k
  · rw [if_pos e]
    unfold va_up
    by_cases e2 : j = i
    · rw [if_pos e2, if_pos ⟨e, e2⟩]
    · rw [if_neg e2, if_neg (fun h => e2 h.2)]
  · rw [if_neg e, if_neg (fun h => e h.1)]
def gZ : pv_IT := fun _ _ => 0
def gT : pv_IT := fun i j => if i = 2 then (if j < 3 then 1000 else 0) else 0
def gM : pv_IT := fun i j => if i = 0 then (if j = 0 then 1 else 0) else 0
def gS : pv_IT := fun i j => if i = 0 then (if j = 1 then 10 else if j = 2 then 10000 else 0) else if 14 ≤ i ∧ i < 19 then gT (i - 14) j else if 35 ≤ i ∧ i < 42 then gM (i - 35) j else 0
def pv_chk : Bool := (List.range 374).all fun k => ((pv_P0L.getD k []).length ≤ 13 : Bool) && (List.range 13).all fun j => (pv_P0 k j == none) || (decide (j < (pv_shp k).2) && (decide (20 ≤ (pv_shp k).1) || Nat.beq (pv_fk (pv_shp k).1 j) 1) && !(Nat.beq (pv_shp k).1 20) && !(Nat.beq (pv_shp k).1 21))
theorem pv_chk_ok : pv_chk = true := by decide +kernel
/-- where no reference is laid, none lies -/
theorem pv_gap {k j t n : Nat} (hk : k < 374) (hs : pv_shp k = (t, n)) (h : n ≤ j ∨ (t < 20 ∧ pv_fk t j ≠ 1) ∨ t = 20 ∨ t = 21) : pv_P0 k j = none := by
  have h1 := List.all_eq_true.mp pv_chk_ok k (List.mem_range.mpr hk)
  rw [Bool.and_eq_true] at h1
  by_cases hj : j < 13
  · have h2 := List.all_eq_true.mp h1.2 j (List.mem_range.mpr hj)
    rw [hs] at h2
    simp only [Bool.or_eq_true, Bool.and_eq_true, Bool.not_eq_true', decide_eq_true_eq, beq_iff_eq, pv_beq] at h2
    rcases h2 with h2 | h2
    · exact h2
    · obtain ⟨⟨⟨h3, h4⟩, h5⟩, h6⟩ := h2
      have h5' : ¬ t = 20 := fun e => by rw [e] at h5; simp at h5
      have h6' : ¬ t = 21 := fun e => by rw [e] at h6; simp at h6
      exfalso
      rcases h with h | h | h | h
      · omega
      · rcases h4 with h4 | h4
        · omega
        · exact h.2 h4
      · exact h5' h
      · exact h6' h
  · have h2 : (pv_P0L.getD k []).length ≤ 13 := by simpa using h1.1
    unfold pv_P0
    rw [List.getD_eq_getElem?_getD (i := j), List.getElem?_eq_none (by omega)]
    rfl
theorem cP_in {P : pv_PT} {q : Nat} (h : P q = fun _ => none) : P = cP P q (q + 1) 0 := by
  funext a j
  rw [cP_aj]
  by_cases e : a = q
  · rw [if_pos e, if_neg (Nat.not_lt_zero _), e, h]
  · rw [if_neg e, if_neg (by omega)]
theorem cP_out {P : pv_PT} {q s f : Nat} (h : ∀ j, f ≤ j → pv_P0 q j = none) (hs : q < s) : cP P q s f = bP P q s := by
  funext a j
  rw [cP_aj, bP_aj]
  by_cases e : a = q
  · rw [if_pos e, if_pos (show q ≤ a ∧ a < s by omega), e]
    by_cases e2 : j < f
    · rw [if_pos e2]
    · rw [if_neg e2, h j (by omega)]
  · rw [if_neg e]
    by_cases e2 : q < a ∧ a < s
    · rw [if_pos e2, if_pos (show q ≤ a ∧ a < s by omega)]
    · rw [if_neg e2, if_neg (show ¬ (q ≤ a ∧ a < s) by omega)]
theorem cP_put {P : pv_PT} {q s m f f' : Nat} (hs : q < s) (hm : 0 < m) (h1 : pv_P0 q f' = some s) (h2 : ∀ j, f ≤ j → j < f' → pv_P0 q j = none) (hf : f ≤ f') : pv_uP (bP (pv_zP (cP P q s f) s) s (s + m)) q f' (some s) = cP P q (s + m) (f' + 1) := by
  funext a j
  rw [uP_aj, bP_aj, zP_aj, cP_aj, cP_aj]
  by_cases e : a = q
  · rw [if_neg (show ¬ (s ≤ a ∧ a < s + m) by omega), if_neg (show ¬ a = s by omega), if_pos e, if_pos e]
    by_cases e1 : j = f'
    · rw [if_pos ⟨e, e1⟩, if_pos (show j < f' + 1 by omega), e1, h1]
    · rw [if_neg (fun h => e1 h.2)]
      by_cases e2 : j < f
      · rw [if_pos e2, if_pos (show j < f' + 1 by omega)]
      · rw [if_neg e2]
        by_cases e3 : j < f' + 1
        · rw [if_pos e3, h2 j (by omega) (by omega)]
        · rw [if_neg e3]
  · rw [if_neg (fun h => e h.1), if_neg e, if_neg e]
    by_cases e1 : s ≤ a ∧ a < s + m
    · rw [if_pos e1, if_pos (show q < a ∧ a < s + m by omega)]
    · rw [if_neg e1, if_neg (show ¬ a = s by omega)]
      by_cases e2 : q < a ∧ a < s
      · rw [if_pos e2, if_pos (show q < a ∧ a < s + m by omega)]
      · rw [if_neg e2, if_neg (show ¬ (q < a ∧ a < s + m) by omega)]
theorem cP_q {P : pv_PT} {q s f j : Nat} (h : j < f) : cP P q s f q j = pv_P0 q j := by
  rw [cP_aj, if_pos rfl, if_pos h]
theorem cP_b {P : pv_PT} {q s f a j : Nat} (h1 : q < a) (h2 : a < s) : cP P q s f a j = pv_P0 a j := by
  rw [cP_aj, if_neg (by omega), if_pos ⟨h1, h2⟩]
theorem zP_at {P : pv_PT} {k : Nat} : pv_zP P k k = fun _ => none := if_pos rfl
theorem zI_at {I : pv_IT} {k : Nat} : pv_zI I k k = fun _ => 0 := if_pos rfl
theorem bI_in {I : pv_IT} {q : Nat} (h : I q = fun _ => 0) : I = bI I q 1 gZ := by
  funext a j
  rw [bI_aj]
  by_cases e : q ≤ a ∧ a < q + 1
  · rw [if_pos e, show a = q by omega, h]; rfl
  · rw [if_neg e]
theorem bI_put {I : pv_IT} {q k s m : Nat} {G1 G2 G : pv_IT} (hs : s = q + k) (hk : 0 < m) (h1 : ∀ i, i < k → G1 i = G i) (h2 : ∀ i, i < m → G2 i = G (k + i)) : bI (pv_zI (bI I q k G1) s) s m G2 = bI I q (k + m) G := by
  subst hs
  funext a j
  rw [bI_aj, bI_aj, zI_aj, bI_aj]
  by_cases e : q + k ≤ a ∧ a < q + k + m
  · rw [if_pos e, if_pos (show q ≤ a ∧ a < q + (k + m) by omega), h2 _ (by omega), show k + (a - (q + k)) = a - q by omega]
  · rw [if_neg e, if_neg (show ¬ a = q + k by omega)]
    by_cases e3 : q ≤ a ∧ a < q + k
    · rw [if_pos e3, if_pos (show q ≤ a ∧ a < q + (k + m) by omega), h1 _ (by omega)]
    · rw [if_neg e3, if_neg (show ¬ (q ≤ a ∧ a < q + (k + m)) by omega)]
theorem pv_s370c {t n : Nat} (h : pv_shp 370 = (t, n)) : t = 20 := by
  have e : pv_shp 370 = (20, 13) := by decide +kernel
  rw [e] at h
  exact (congrArg Prod.fst h).symm
theorem px_newS {z : pv_Z} {E : pv_E} {d bc bs : Nat} {mi : pv_MI} {pc : Nat} {lv : pv_LV} {st : List Value} {sz : Nat} {P : pv_PT} {I : pv_IT} {J : pv_JT} {idx t n : Nat} (hd : decode mi.2.1 pc = .ok (.new idx, 3)) (hw : pv_new mi.1.cls idx t n) (hs : pv_shp sz = (t, n)) (h20 : t < 20) (hsz : sz < 371)
    (K : pv_X z E d bc bs mi (pc + 3) lv (.ref sz :: st) (sz + 1) (pv_zP P sz) (pv_zI I sz) (pv_zJ J sz)) : pv_X z E d (1 + bc) (n + bs) mi pc lv st sz P I J :=
  px_new hd hw hs h20 (Nat.lt_of_le_of_ne (by omega) (fun e => by subst e; have := pv_s370c hs; omega)) K
theorem px_newRS {z : pv_Z} {E : pv_E} {d bc bs : Nat} {mi : pv_MI} {pc : Nat} {lv : pv_LV} {st : List Value} {sz : Nat} {P : pv_PT} {I : pv_IT} {J : pv_JT} {n idx : Nat} {x : Int32} (hd : decode mi.2.1 pc = .ok (.anewarray idx, 3)) (hw : Cond.classLink mi.1.cls idx RX7 ∈ pv_W) (hs : pv_shp sz = (22, n)) (hx : x = nI n) (hn : n < 100000) (hsz : sz < 371)
    (K : pv_X z E d bc bs mi (pc + 3) lv (.ref sz :: st) (sz + 1) (pv_zP P sz) (pv_zI I sz) (pv_zJ J sz)) : pv_X z E d (1 + bc) (n + bs) mi pc lv (.int x :: st) sz P I J :=
  px_newR hd hw hs hx hn (Nat.lt_of_le_of_ne (by omega) (fun e => by subst e; have := pv_s370c hs; omega)) K
theorem pv_row_lt {q n : Nat} (h : pv_row q n) : q + 1 < 370 := by
  have h1 := h.2.2.2.1
  refine Nat.lt_of_le_of_ne (by have : pv_K0 = 371 := rfl; omega) (fun e => ?_)
  have e2 : q = 369 := by omega
  subst e2
  have h3 := h.1
  have h4 : pv_shp 369 = (20, 24) := by decide +kernel
  rw [h4] at h3
  cases h3
theorem px_mm {z : pv_Z} {E : pv_E} {d bc bs : Nat} {mi : pv_MI} {pc : Nat} {lv : pv_LV} {st : List Value} {sz sz' : Nat} {P P' : pv_PT} {I I' : pv_IT} {J : pv_JT} (hP : P = P') (hI : I = I') (hz : sz = sz') (k : pv_X z E d bc bs mi pc lv st sz' P' I' J) : pv_X z E d bc bs mi pc lv st sz P I J := by
  subst hP; subst hI; subst hz; exact k
theorem px_bud {z : pv_Z} {E : pv_E} {d bc bs bc' bs' : Nat} {mi : pv_MI} {pc : Nat} {lv : pv_LV} {st : List Value} {sz : Nat} {P : pv_PT} {I : pv_IT} {J : pv_JT} (hc : bc = bc') (hs : bs = bs') (k : pv_X z E d bc' bs' mi pc lv st sz P I J) : pv_X z E d bc bs mi pc lv st sz P I J := by
  subst hc; subst hs; exact k

theorem pv_oI : Cond.instanceMethod objectInit ∈ pv_W := (pv_t 25 (by decide +kernel) rfl)
theorem pv_oC : Cond.code objectInit ⟨#[0xb1]⟩ 1 none ∈ pv_W := (pv_t 26 (by decide +kernel) rfl)
theorem pv_aI : Cond.arrayClass .int ∈ pv_W := (pv_t 49 (by decide +kernel) rfl)
set_option maxRecDepth 100000 in
set_option maxHeartbeats 4000000 in
theorem s_X6_init {Q : pv_Q} {E : pv_E} {d : Nat} {P : pv_PT} {I : pv_IT} {J : pv_JT} {q n : Nat} (hD : 1 ≤ d) (hq : pv_row q n) (hn : n < 100000) (hP : P q = fun _ => none) (hI : I q = fun _ => 0) (h : ∀ J', Q (.inl none) (q + 2) (bP P q (q + 2)) (bI I q 2 gZ) J') : pv_X (pv_ZQ E Q) E d 1 n mX6_init 0 [(0, .ref q), (1, .int (nI n))] [] (q + 1) P I J := by
  have hk : q + 1 < 371 := hq.2.2.2.1
  refine px_aload_n dX6_init_0 rfl ?_
  refine px_objInit dX6_init_1 mlX6_1 pv_oI pv_oC hD ?_
  refine px_aload_n dX6_init_4 rfl ?_
  refine px_iload_n dX6_init_5 rfl ?_
  refine px_if_geN (tgt := 13) dX6_init_6 (by decide) (by omega) ?_
  refine px_iload_n dX6_init_13 rfl ?_
  refine px_bud (bc' := 1 + 0) (bs' := n + 0) rfl rfl ?_
  refine px_newI dX6_init_14 pv_aI hq.2.1 rfl hn (pv_row_lt hq) ?_
  refine px_putR dX6_init_16 ffX6_7 rfl rfl rfl hq.1 (by decide) (by decide) rfl (by omega) ?_
  refine px_mm (P' := bP P q (q + 2)) (I' := bI I q 2 gZ) (sz' := q + 2) ?_ ?_ rfl ?_
  · funext a j
    rw [uP_aj, zP_aj, bP_aj]
    by_cases e : a = q
    · rw [if_neg (show ¬ a = q + 1 by omega), if_pos (show q ≤ a ∧ a < q + 2 by omega), e, hP]
      by_cases e2 : j = 0
      · rw [if_pos ⟨rfl, e2⟩, e2]; exact hq.2.2.1.symm
      · rw [if_neg (fun h => e2 h.2)]; exact (pv_gap (by omega) hq.1 (by omega)).symm
    · rw [if_neg (fun h => e h.1)]
      by_cases e2 : a = q + 1
      · rw [if_pos e2, if_pos (show q ≤ a ∧ a < q + 2 by omega), e2]
        exact (pv_gap (by omega) hq.2.1 (Or.inr (Or.inr (Or.inl rfl)))).symm
      · rw [if_neg e2, if_neg (show ¬ (q ≤ a ∧ a < q + 2) by omega)]
  · funext a j
    rw [zI_aj, bI_aj]
    by_cases e : a = q + 1
    · rw [if_pos e, if_pos (show q ≤ a ∧ a < q + 2 by omega)]; rfl
    · rw [if_neg e]
      by_cases e2 : a = q
      · rw [if_pos (show q ≤ a ∧ a < q + 2 by omega), e2, hI]; rfl
      · rw [if_neg (show ¬ (q ≤ a ∧ a < q + 2) by omega)]
  · exact px_vret dX6_init_19 rfl (Or.inr rfl) (h _)
theorem c_X6_init {z : pv_Z} {E : pv_E} {d bc bs : Nat} {mi : pv_MI} {pc idx : Nat} {lv : pv_LV} {st : List Value} {P : pv_PT} {I : pv_IT} {J : pv_JT} {q n : Nat} (hd : decode mi.2.1 pc = .ok (.invokespecial idx, 3)) (hlk : Cond.methodLink mi.1.cls idx mX6_init.1 ∈ pv_W) (hD : 1 + 1 ≤ d) (hq : pv_row q n) (hn : n < 100000) (hP : P q = fun _ => none) (hI : I q = fun _ => 0) (hcat : (st.map fun v => v.category).sum ≤ 8) (K : ∀ J', pv_X z E d bc bs mi (pc + 3) lv st (q + 2) (bP P q (q + 2)) (bI I q 2 gZ) J') : pv_X z E d (1 + bc) (n + bs) mi pc lv (.int (nI n) :: .ref q :: st) (q + 1) P I J := by
  obtain ⟨d, rfl⟩ : ∃ d0, d = d0 + 1 := ⟨d - 1, by omega⟩
  exact px_callI (bc := bc) (bs := bs) (bc1 := 1) (bs1 := n) (as := [.int (nI n)]) (k := q) (E := E) (z := z) (lv := lv) hd mcX6_init hlk rfl rfl hcat (by exact Nat.le_of_ble_eq_true rfl) (s_X6_init (by omega) hq hn hP hI K)
set_option maxRecDepth 100000 in
set_option maxHeartbeats 4000000 in
theorem s_X6_fillG {Q : pv_Q} {E : pv_E} {d : Nat} {P : pv_PT} {I : pv_IT} {J : pv_JT} {sz r n : Nat} {x : Int32} (hr : pv_row r n) (hz : r + 1 < sz) (hPr : P r 0 = some (r + 1)) (h : Q (.inl none) sz P (pv_uA I (r + 1) (fun j => if j < n then x else I (r + 1) j)) J) : pv_X (pv_ZQ E Q) E d 0 0 mX6_fill 0 [(0, .ref r), (1, .int x)] [] sz P I J := by
  have hn := hr.2.2.2.2
  have key : ∀ i : Nat, i ≤ n → pv_X (pv_ZQ E Q) E d 0 0 mX6_fill 2 [(0, .ref r), (1, .int x), (2, .int (nI i))] [] sz P (pv_uA I (r + 1) (fun j => if j < i then x else I (r + 1) j)) J := by
    refine pv_up n ?_ ?_
    · refine px_iload_n dX6_fill_2 rfl ?_
      refine px_aload_n dX6_fill_3 rfl ?_
      refine px_getR dX6_fill_4 flX6_7 hr.1 (by decide) (by decide) rfl (by omega) hPr ?_
      refine px_alen dX6_fill_7 hr.2.1 hz ?_
      refine px_icmp_geN (tgt := 24) dX6_fill_8 (by decide) (by omega) (by omega) (fun _ => ?_) (fun h0 => absurd h0 (by omega))
      exact px_vret dX6_fill_24 rfl (Or.inr rfl) h
    · intro i hi K
      refine px_iload_n dX6_fill_2 rfl ?_
      refine px_aload_n dX6_fill_3 rfl ?_
      refine px_getR dX6_fill_4 flX6_7 hr.1 (by decide) (by decide) rfl (by omega) hPr ?_
      refine px_alen dX6_fill_7 hr.2.1 hz ?_
      refine px_icmp_geN (tgt := 24) dX6_fill_8 (by decide) (by omega) (by omega) (fun h0 => absurd h0 (by omega)) (fun _ => ?_)
      refine px_aload_n dX6_fill_11 rfl ?_
      refine px_getR dX6_fill_12 flX6_7 hr.1 (by decide) (by decide) rfl (by omega) hPr ?_
      refine px_iload_n dX6_fill_15 rfl ?_
      refine px_iload_n dX6_fill_16 rfl ?_
      refine px_iast (j := i) dX6_fill_17 hr.2.1 rfl hi hn hz ?_
      refine px_iincN (c := 1) (by decide) dX6_fill_18 rfl (by decide) ?_
      refine px_goto (tgt := 2) dX6_fill_21 (by decide) ?_
      refine px_mm (P' := P) (sz' := sz) (I' := pv_uA I (r + 1) (fun j => if j < i + 1 then x else I (r + 1) j)) rfl ?_ rfl K
      funext a j
      rw [pv_uI_at, pv_uA_at, pv_uA_at]
      by_cases e : a = r + 1
      · rw [if_pos e, if_pos e]
        by_cases e2 : j = i
        · rw [if_pos ⟨e, e2⟩, if_pos (by omega)]
        · rw [if_neg (fun h => e2 h.2)]
          by_cases e3 : j < i
          · rw [if_pos e3, if_pos (by omega)]
          · rw [if_neg e3, if_neg (by omega)]
      · rw [if_neg (fun h => e h.1), if_neg e, if_neg e]
  refine px_iconst (v := nI 0) dX6_fill_0 (by decide) ?_
  refine px_istore_n dX6_fill_1 (by decide) ?_
  refine px_mm (P' := P) (sz' := sz) (I' := pv_uA I (r + 1) (fun j => if j < 0 then x else I (r + 1) j)) rfl ?_ rfl (key 0 (Nat.zero_le _))
  funext a j
  rw [pv_uA_at]
  by_cases e : a = r + 1
  · rw [if_pos e, if_neg (Nat.not_lt_zero _), e]
  · rw [if_neg e]
theorem k_X6_fill {z : pv_Z} {E : pv_E} {d bc bs : Nat} {mi : pv_MI} {pc idx : Nat} {lv : pv_LV} {st : List Value} {P : pv_PT} {I : pv_IT} {J : pv_JT} {sz r n : Nat} {x : Int32} (hd : decode mi.2.1 pc = .ok (.invokevirtual idx, 3)) (hlk : Cond.methodLink mi.1.cls idx mX6_fill.1 ∈ pv_W) (hD : 1 ≤ d) (hr : pv_row r n) (hz : r + 1 < sz) (hPr : P r 0 = some (r + 1)) (hcat : (st.map fun v => v.category).sum ≤ 8) (K : pv_X z E d bc bs mi (pc + 3) lv st sz P (pv_uA I (r + 1) (fun j => if j < n then x else I (r + 1) j)) J) : pv_X z E d bc bs mi pc lv (.int x :: .ref r :: st) sz P I J := by
  obtain ⟨d, rfl⟩ : ∃ d0, d = d0 + 1 := ⟨d - 1, by omega⟩
  have key := px_callV (bc := bc) (bs := bs) (bc1 := 0) (bs1 := 0) (as := [.int x]) (E := E) (z := z) (lv := lv) hd mvX6_fill hlk hr.1 (by decide) rfl (by omega) rfl rfl hcat (by exact Nat.le_of_ble_eq_true rfl) (s_X6_fillG (d := d) hr hz hPr K)
  rw [Nat.zero_add, Nat.zero_add] at key
  exact key
theorem pnX1_9 : pv_new RX1 9 6 1 := ⟨_, _, rfl, (pv_t 39  (by decide +kernel) rfl), (pv_t 40  (by decide +kernel) rfl), (pv_t 4  (by decide +kernel) rfl), tyX6, tyX6_ok, fun j hj => by
  match j, hj with
  | 0, _ => rfl
  | j + 1, hj => exact absurd hj (by omega)⟩
theorem pnX8_9 : pv_new RX8 9 6 1 := ⟨_, _, rfl, (pv_t 88  (by decide +kernel) rfl), (pv_t 40  (by decide +kernel) rfl), (pv_t 4  (by decide +kernel) rfl), tyX6, tyX6_ok, fun j hj => by
  match j, hj with
  | 0, _ => rfl
  | j + 1, hj => exact absurd hj (by omega)⟩
theorem pnX2_9 : pv_new RX2 9 6 1 := ⟨_, _, rfl, (pv_t 111  (by decide +kernel) rfl), (pv_t 40  (by decide +kernel) rfl), (pv_t 4  (by decide +kernel) rfl), tyX6, tyX6_ok, fun j hj => by
  match j, hj with
  | 0, _ => rfl
  | j + 1, hj => exact absurd hj (by omega)⟩
theorem pnX5_9 : pv_new RX5 9 6 1 := ⟨_, _, rfl, (pv_t 145  (by decide +kernel) rfl), (pv_t 40  (by decide +kernel) rfl), (pv_t 4  (by decide +kernel) rfl), tyX6, tyX6_ok, fun j hj => by
  match j, hj with
  | 0, _ => rfl
  | j + 1, hj => exact absurd hj (by omega)⟩
theorem pnX4_15 : pv_new RX4 15 6 1 := ⟨_, _, rfl, (pv_t 168  (by decide +kernel) rfl), (pv_t 40  (by decide +kernel) rfl), (pv_t 4  (by decide +kernel) rfl), tyX6, tyX6_ok, fun j hj => by
  match j, hj with
  | 0, _ => rfl
  | j + 1, hj => exact absurd hj (by omega)⟩
theorem pnX7_18 : pv_new RX7 18 1 7 := ⟨_, _, rfl, (pv_t 33  (by decide +kernel) rfl), (pv_t 34  (by decide +kernel) rfl), (pv_t 3  (by decide +kernel) rfl), tyX1, tyX1_ok, fun j hj => by
  match j, hj with
  | 0, _ => rfl
  | 1, _ => rfl
  | 2, _ => rfl
  | 3, _ => rfl
  | 4, _ => rfl
  | 5, _ => rfl
  | 6, _ => rfl
  | j + 7, hj => exact absurd hj (by omega)⟩
theorem pnX7_25 : pv_new RX7 25 8 2 := ⟨_, _, rfl, (pv_t 82  (by decide +kernel) rfl), (pv_t 83  (by decide +kernel) rfl), (pv_t 5  (by decide +kernel) rfl), tyX8, tyX8_ok, fun j hj => by
  match j, hj with
  | 0, _ => rfl
  | 1, _ => rfl
  | j + 2, hj => exact absurd hj (by omega)⟩
theorem pnX7_32 : pv_new RX7 32 2 5 := ⟨_, _, rfl, (pv_t 105  (by decide +kernel) rfl), (pv_t 106  (by decide +kernel) rfl), (pv_t 6  (by decide +kernel) rfl), tyX2, tyX2_ok, fun j hj => by
  match j, hj with
  | 0, _ => rfl
  | 1, _ => rfl
  | 2, _ => rfl
  | 3, _ => rfl
  | 4, _ => rfl
  | j + 5, hj => exact absurd hj (by omega)⟩
theorem pnX7_39 : pv_new RX7 39 5 4 := ⟨_, _, rfl, (pv_t 139  (by decide +kernel) rfl), (pv_t 140  (by decide +kernel) rfl), (pv_t 7  (by decide +kernel) rfl), tyX5, tyX5_ok, fun j hj => by
  match j, hj with
  | 0, _ => rfl
  | 1, _ => rfl
  | 2, _ => rfl
  | 3, _ => rfl
  | j + 4, hj => exact absurd hj (by omega)⟩
theorem pnX7_46 : pv_new RX7 46 4 4 := ⟨_, _, rfl, (pv_t 162  (by decide +kernel) rfl), (pv_t 163  (by decide +kernel) rfl), (pv_t 8  (by decide +kernel) rfl), tyX4, tyX4_ok, fun j hj => by
  match j, hj with
  | 0, _ => rfl
  | 1, _ => rfl
  | 2, _ => rfl
  | 3, _ => rfl
  | j + 4, hj => exact absurd hj (by omega)⟩
theorem pnX7_53 : pv_new RX7 53 6 1 := ⟨_, _, rfl, (pv_t 194  (by decide +kernel) rfl), (pv_t 40  (by decide +kernel) rfl), (pv_t 4  (by decide +kernel) rfl), tyX6, tyX6_ok, fun j hj => by
  match j, hj with
  | 0, _ => rfl
  | j + 1, hj => exact absurd hj (by omega)⟩
set_option maxRecDepth 100000 in
set_option maxHeartbeats 4000000 in
theorem s_X1_init {Q : pv_Q} {E : pv_E} {d : Nat} {P : pv_PT} {I : pv_IT} {J : pv_JT} {q : Nat} (hD : 2 ≤ d) (hq : pv_kinds q) (hP : P q = fun _ => none) (hI : I q = fun _ => 0) (h : ∀ J', Q (.inl none) (q + 13) (bP P q (q + 13)) (bI I q 13 gZ) J') : pv_X (pv_ZQ E Q) E d 12 70 mX1_init 0 [(0, .ref q)] [] (q + 1) P I J := by
  have hk : q + 12 < 371 := by have h9 := hq.2.2.2.2.2.2.2.2.2.2.2.1; simp only [pv_K0] at h9; omega
  refine px_mm (P' := cP P q (q + 1) 0) (I' := bI I q 1 gZ) (sz' := q + 1) (cP_in hP) (bI_in hI) rfl ?_
  refine px_aload_n dX1_init_0 rfl ?_
  refine px_objInit dX1_init_1 mlX1_3 pv_oI pv_oC (by omega) ?_
  refine px_aload_n dX1_init_4 rfl ?_
  refine px_bud (bc' := 1 + 11) (bs' := 1 + 69) rfl rfl ?_
  refine px_newS dX1_init_5 pnX1_9 hq.2.2.1.2.1 (by decide) (by show _ < 371; omega) ?_
  refine px_dup dX1_init_8 rfl ?_
  refine px_bipush (v := nI 24) dX1_init_9 (by decide) ?_
  refine px_bud (bc' := 1 + 10) (bs' := 24 + 45) rfl rfl ?_
  refine c_X6_init dX1_init_11 mlX1_11 (by omega) hq.2.2.1.2 (by omega) zP_at zI_at (Nat.le_of_ble_eq_true rfl) (fun J1 => ?_)
  refine px_putR dX1_init_14 ffX1_14 rfl rfl rfl hq.1 (by decide) (by decide) rfl (by omega) ?_
  refine px_mm (P' := cP P q (q + 3) 2) (I' := bI I q 3 gZ) (sz' := q + 3) (cP_put (f := 0) (f' := 1) (m := 2) (by omega) (by decide) hq.2.2.1.1 (fun j h1 h2 => pv_gap (by omega) hq.1 (Or.inr (Or.inl ⟨by decide, (show ∀ j, j < 1 → 0 ≤ j → pv_fk 1 j ≠ 1 by decide) j h2 h1⟩))) (by decide)) (bI_put (m := 2) rfl (by decide) (fun i hi => rfl) (fun i hi => rfl)) rfl ?_
  refine px_aload_n dX1_init_17 rfl ?_
  refine px_bud (bc' := 1 + 9) (bs' := 1 + 44) rfl rfl ?_
  refine px_newS dX1_init_18 pnX1_9 hq.2.2.2.1.2.1 (by decide) (by show _ < 371; omega) ?_
  refine px_dup dX1_init_21 rfl ?_
  refine px_bipush (v := nI 8) dX1_init_22 (by decide) ?_
  refine px_bud (bc' := 1 + 8) (bs' := 8 + 36) rfl rfl ?_
  refine c_X6_init dX1_init_24 mlX1_11 (by omega) hq.2.2.2.1.2 (by omega) zP_at zI_at (Nat.le_of_ble_eq_true rfl) (fun J1 => ?_)
  refine px_putR dX1_init_27 ffX1_20 rfl rfl rfl hq.1 (by decide) (by decide) rfl (by omega) ?_
  refine px_mm (P' := cP P q (q + 5) 3) (I' := bI I q 5 gZ) (sz' := q + 5) (cP_put (f := 2) (f' := 2) (m := 2) (by omega) (by decide) hq.2.2.2.1.1 (fun j h1 h2 => pv_gap (by omega) hq.1 (Or.inr (Or.inl ⟨by decide, (show ∀ j, j < 2 → 2 ≤ j → pv_fk 1 j ≠ 1 by decide) j h2 h1⟩))) (by decide)) (bI_put (m := 2) rfl (by decide) (fun i hi => rfl) (fun i hi => rfl)) rfl ?_
  refine px_aload_n dX1_init_30 rfl ?_
  refine px_bud (bc' := 1 + 7) (bs' := 1 + 35) rfl rfl ?_
  refine px_newS dX1_init_31 pnX1_9 hq.2.2.2.2.1.2.1 (by decide) (by show _ < 371; omega) ?_
  refine px_dup dX1_init_34 rfl ?_
  refine px_bipush (v := nI 8) dX1_init_35 (by decide) ?_
  refine px_bud (bc' := 1 + 6) (bs' := 8 + 27) rfl rfl ?_
  refine c_X6_init dX1_init_37 mlX1_11 (by omega) hq.2.2.2.2.1.2 (by omega) zP_at zI_at (Nat.le_of_ble_eq_true rfl) (fun J1 => ?_)
  refine px_putR dX1_init_40 ffX1_23 rfl rfl rfl hq.1 (by decide) (by decide) rfl (by omega) ?_
  refine px_mm (P' := cP P q (q + 7) 4) (I' := bI I q 7 gZ) (sz' := q + 7) (cP_put (f := 3) (f' := 3) (m := 2) (by omega) (by decide) hq.2.2.2.2.1.1 (fun j h1 h2 => pv_gap (by omega) hq.1 (Or.inr (Or.inl ⟨by decide, (show ∀ j, j < 3 → 3 ≤ j → pv_fk 1 j ≠ 1 by decide) j h2 h1⟩))) (by decide)) (bI_put (m := 2) rfl (by decide) (fun i hi => rfl) (fun i hi => rfl)) rfl ?_
  refine px_aload_n dX1_init_43 rfl ?_
  refine px_bud (bc' := 1 + 5) (bs' := 1 + 26) rfl rfl ?_
  refine px_newS dX1_init_44 pnX1_9 hq.2.2.2.2.2.1.2.1 (by decide) (by show _ < 371; omega) ?_
  refine px_dup dX1_init_47 rfl ?_
  refine px_bipush (v := nI 8) dX1_init_48 (by decide) ?_
  refine px_bud (bc' := 1 + 4) (bs' := 8 + 18) rfl rfl ?_
  refine c_X6_init dX1_init_50 mlX1_11 (by omega) hq.2.2.2.2.2.1.2 (by omega) zP_at zI_at (Nat.le_of_ble_eq_true rfl) (fun J1 => ?_)
  refine px_putR dX1_init_53 ffX1_26 rfl rfl rfl hq.1 (by decide) (by decide) rfl (by omega) ?_
  refine px_mm (P' := cP P q (q + 9) 5) (I' := bI I q 9 gZ) (sz' := q + 9) (cP_put (f := 4) (f' := 4) (m := 2) (by omega) (by decide) hq.2.2.2.2.2.1.1 (fun j h1 h2 => pv_gap (by omega) hq.1 (Or.inr (Or.inl ⟨by decide, (show ∀ j, j < 4 → 4 ≤ j → pv_fk 1 j ≠ 1 by decide) j h2 h1⟩))) (by decide)) (bI_put (m := 2) rfl (by decide) (fun i hi => rfl) (fun i hi => rfl)) rfl ?_
  refine px_aload_n dX1_init_56 rfl ?_
  refine px_bud (bc' := 1 + 3) (bs' := 1 + 17) rfl rfl ?_
  refine px_newS dX1_init_57 pnX1_9 hq.2.2.2.2.2.2.1.2.1 (by decide) (by show _ < 371; omega) ?_
  refine px_dup dX1_init_60 rfl ?_
  refine px_bipush (v := nI 8) dX1_init_61 (by decide) ?_
  refine px_bud (bc' := 1 + 2) (bs' := 8 + 9) rfl rfl ?_
  refine c_X6_init dX1_init_63 mlX1_11 (by omega) hq.2.2.2.2.2.2.1.2 (by omega) zP_at zI_at (Nat.le_of_ble_eq_true rfl) (fun J1 => ?_)
  refine px_putR dX1_init_66 ffX1_29 rfl rfl rfl hq.1 (by decide) (by decide) rfl (by omega) ?_
  refine px_mm (P' := cP P q (q + 11) 6) (I' := bI I q 11 gZ) (sz' := q + 11) (cP_put (f := 5) (f' := 5) (m := 2) (by omega) (by decide) hq.2.2.2.2.2.2.1.1 (fun j h1 h2 => pv_gap (by omega) hq.1 (Or.inr (Or.inl ⟨by decide, (show ∀ j, j < 5 → 5 ≤ j → pv_fk 1 j ≠ 1 by decide) j h2 h1⟩))) (by decide)) (bI_put (m := 2) rfl (by decide) (fun i hi => rfl) (fun i hi => rfl)) rfl ?_
  refine px_aload_n dX1_init_69 rfl ?_
  refine px_bud (bc' := 1 + 1) (bs' := 1 + 8) rfl rfl ?_
  refine px_newS dX1_init_70 pnX1_9 hq.2.2.2.2.2.2.2.2.1 (by decide) (by show _ < 371; omega) ?_
  refine px_dup dX1_init_73 rfl ?_
  refine px_bipush (v := nI 8) dX1_init_74 (by decide) ?_
  refine px_bud (bc' := 1 + 0) (bs' := 8 + 0) rfl rfl ?_
  refine c_X6_init dX1_init_76 mlX1_11 (by omega) hq.2.2.2.2.2.2.2.2 (by omega) zP_at zI_at (Nat.le_of_ble_eq_true rfl) (fun J1 => ?_)
  refine px_putR dX1_init_79 ffX1_32 rfl rfl rfl hq.1 (by decide) (by decide) rfl (by omega) ?_
  refine px_mm (P' := cP P q (q + 13) 7) (I' := bI I q 13 gZ) (sz' := q + 13) (cP_put (f := 6) (f' := 6) (m := 2) (by omega) (by decide) hq.2.2.2.2.2.2.2.1 (fun j h1 h2 => pv_gap (by omega) hq.1 (Or.inr (Or.inl ⟨by decide, (show ∀ j, j < 6 → 6 ≤ j → pv_fk 1 j ≠ 1 by decide) j h2 h1⟩))) (by decide)) (bI_put (m := 2) rfl (by decide) (fun i hi => rfl) (fun i hi => rfl)) rfl ?_
  refine px_mm (P' := bP P q (q + 13)) (I' := bI I q 13 gZ) (sz' := q + 13) (cP_out (fun j hj => by
    by_cases e : j < 7
    · exact pv_gap (by omega) hq.1 (Or.inr (Or.inl ⟨by decide, (show ∀ j, j < 7 → 7 ≤ j → pv_fk 1 j ≠ 1 by decide) j e hj⟩))
    · exact pv_gap (by omega) hq.1 (by omega)) (by omega)) rfl rfl ?_
  exact px_vret dX1_init_82 rfl (Or.inr rfl) (h _)
theorem n_X1_init {z : pv_Z} {E : pv_E} {d bc bs : Nat} {mi : pv_MI} {pc idx : Nat} {lv : pv_LV} {st : List Value} {P : pv_PT} {I : pv_IT} {J : pv_JT} {q : Nat} (hd : decode mi.2.1 pc = .ok (.invokespecial idx, 3)) (hlk : (mi.1.cls, idx, mX1_init.1) ∈ pv_nest) (hD : 2 + 1 ≤ d) (hq : pv_kinds q) (hP : P q = fun _ => none) (hI : I q = fun _ => 0) (hcat : (st.map fun v => v.category).sum ≤ 8) (K : ∀ J', pv_X z E d bc bs mi (pc + 3) lv st (q + 13) (bP P q (q + 13)) (bI I q 13 gZ) J') : pv_X z E d (12 + bc) (70 + bs) mi pc lv (.ref q :: st) (q + 1) P I J := by
  obtain ⟨d, rfl⟩ : ∃ d0, d = d0 + 1 := ⟨d - 1, by omega⟩
  exact px_callIN (bc := bc) (bs := bs) (bc1 := 12) (bs1 := 70) (as := []) (k := q) (E := E) (z := z) (lv := lv) hd mcX1_init hlk rfl rfl hcat (by exact Nat.le_of_ble_eq_true rfl) (s_X1_init (by omega) hq hP hI K)
set_option maxRecDepth 100000 in
set_option maxHeartbeats 4000000 in
theorem s_X8_init {Q : pv_Q} {E : pv_E} {d : Nat} {P : pv_PT} {I : pv_IT} {J : pv_JT} {q : Nat} (hD : 2 ≤ d) (hq : pv_stores q) (hP : P q = fun _ => none) (hI : I q = fun _ => 0) (h : ∀ J', Q (.inl none) (q + 5) (bP P q (q + 5)) (bI I q 5 gT) J') : pv_X (pv_ZQ E Q) E d 4 8 mX8_init 0 [(0, .ref q)] [] (q + 1) P I J := by
  have hk : q + 4 < 371 := by have h9 := hq.2.2.2.2.2.2.2.1; simp only [pv_K0] at h9; omega
  refine px_mm (P' := cP P q (q + 1) 0) (I' := bI I q 1 gZ) (sz' := q + 1) (cP_in hP) (bI_in hI) rfl ?_
  refine px_aload_n dX8_init_0 rfl ?_
  refine px_objInit dX8_init_1 mlX8_3 pv_oI pv_oC (by omega) ?_
  refine px_aload_n dX8_init_4 rfl ?_
  refine px_bud (bc' := 1 + 3) (bs' := 1 + 7) rfl rfl ?_
  refine px_newS dX8_init_5 pnX8_9 hq.2.2.1.2.1 (by decide) (by show _ < 371; omega) ?_
  refine px_dup dX8_init_8 rfl ?_
  refine px_iconst (v := nI 3) dX8_init_9 (by decide) ?_
  refine px_bud (bc' := 1 + 2) (bs' := 3 + 4) rfl rfl ?_
  refine c_X6_init dX8_init_10 mlX8_11 (by omega) hq.2.2.1.2 (by omega) zP_at zI_at (Nat.le_of_ble_eq_true rfl) (fun J1 => ?_)
  refine px_putR dX8_init_13 ffX8_14 rfl rfl rfl hq.1 (by decide) (by decide) rfl (by omega) ?_
  refine px_mm (P' := cP P q (q + 3) 1) (I' := bI I q 3 gZ) (sz' := q + 3) (cP_put (f := 0) (f' := 0) (m := 2) (by omega) (by decide) hq.2.2.1.1 (fun j h1 h2 => pv_gap (by omega) hq.1 (Or.inr (Or.inl ⟨by decide, (show ∀ j, j < 0 → 0 ≤ j → pv_fk 8 j ≠ 1 by decide) j h2 h1⟩))) (by decide)) (bI_put (m := 2) rfl (by decide) (fun i hi => rfl) (fun i hi => rfl)) rfl ?_
  refine px_aload_n dX8_init_16 rfl ?_
  refine px_bud (bc' := 1 + 1) (bs' := 1 + 3) rfl rfl ?_
  refine px_newS dX8_init_17 pnX8_9 hq.2.2.2.2.1 (by decide) (by show _ < 371; omega) ?_
  refine px_dup dX8_init_20 rfl ?_
  refine px_iconst (v := nI 3) dX8_init_21 (by decide) ?_
  refine px_bud (bc' := 1 + 0) (bs' := 3 + 0) rfl rfl ?_
  refine c_X6_init dX8_init_22 mlX8_11 (by omega) hq.2.2.2.2 (by omega) zP_at zI_at (Nat.le_of_ble_eq_true rfl) (fun J1 => ?_)
  refine px_putR dX8_init_25 ffX8_20 rfl rfl rfl hq.1 (by decide) (by decide) rfl (by omega) ?_
  refine px_mm (P' := cP P q (q + 5) 2) (I' := bI I q 5 gZ) (sz' := q + 5) (cP_put (f := 1) (f' := 1) (m := 2) (by omega) (by decide) hq.2.2.2.1 (fun j h1 h2 => pv_gap (by omega) hq.1 (Or.inr (Or.inl ⟨by decide, (show ∀ j, j < 1 → 1 ≤ j → pv_fk 8 j ≠ 1 by decide) j h2 h1⟩))) (by decide)) (bI_put (m := 2) rfl (by decide) (fun i hi => rfl) (fun i hi => rfl)) rfl ?_
  refine px_aload_n dX8_init_28 rfl ?_
  refine px_getR dX8_init_29 flX8_14 hq.1 (by decide) (by decide) rfl (by omega) ((cP_q (by decide)).trans hq.2.2.1.1) ?_
  refine px_sipush (v := nI 1000) dX8_init_32 (by decide) ?_
  refine k_X6_fill dX8_init_35 mlX8_23 (by omega) hq.2.2.1.2 (by omega) ((cP_b (by omega) (by omega)).trans hq.2.2.1.2.2.2.1) (Nat.le_of_ble_eq_true rfl) ?_
  refine px_mm (P' := bP P q (q + 5)) (I' := bI I q 5 gT) (sz' := q + 5) (cP_out (fun j hj => pv_gap (by omega) hq.1 (by omega)) (by omega)) ?_ rfl ?_
  · funext a j
    rw [pv_uA_at, bI_aj, bI_aj, bI_aj]
    by_cases e : a = q + 1 + 1
    · have e3 : q ≤ a ∧ a < q + 5 := by omega
      rw [if_pos e, if_pos e3, show a - q = 2 by omega]
      show _ = if j < 3 then (1000 : Int32) else 0
      by_cases e4 : j < 3
      · rw [if_pos e4, if_pos e4]; rfl
      · rw [if_neg e4, if_neg e4, if_pos ⟨by omega, by omega⟩]; rfl
    · rw [if_neg e]
      by_cases e2 : q ≤ a ∧ a < q + 5
      · rw [if_pos e2, if_pos e2]
        unfold gT
        rw [if_neg (by omega)]
        rfl
      · rw [if_neg e2, if_neg e2]
  exact px_vret dX8_init_38 rfl (Or.inr rfl) (h _)
theorem c_X8_init {z : pv_Z} {E : pv_E} {d bc bs : Nat} {mi : pv_MI} {pc idx : Nat} {lv : pv_LV} {st : List Value} {P : pv_PT} {I : pv_IT} {J : pv_JT} {q : Nat} (hd : decode mi.2.1 pc = .ok (.invokespecial idx, 3)) (hlk : Cond.methodLink mi.1.cls idx mX8_init.1 ∈ pv_W) (hD : 2 + 1 ≤ d) (hq : pv_stores q) (hP : P q = fun _ => none) (hI : I q = fun _ => 0) (hcat : (st.map fun v => v.category).sum ≤ 8) (K : ∀ J', pv_X z E d bc bs mi (pc + 3) lv st (q + 5) (bP P q (q + 5)) (bI I q 5 gT) J') : pv_X z E d (4 + bc) (8 + bs) mi pc lv (.ref q :: st) (q + 1) P I J := by
  obtain ⟨d, rfl⟩ : ∃ d0, d = d0 + 1 := ⟨d - 1, by omega⟩
  exact px_callI (bc := bc) (bs := bs) (bc1 := 4) (bs1 := 8) (as := []) (k := q) (E := E) (z := z) (lv := lv) hd mcX8_init hlk rfl rfl hcat (by exact Nat.le_of_ble_eq_true rfl) (s_X8_init (by omega) hq hP hI K)
set_option maxRecDepth 100000 in
set_option maxHeartbeats 4000000 in
theorem s_X2_init {Q : pv_Q} {E : pv_E} {d : Nat} {P : pv_PT} {I : pv_IT} {J : pv_JT} {q : Nat} (hD : 2 ≤ d) (hq : pv_lots q) (hP : P q = fun _ => none) (hI : I q = fun _ => 0) (h : ∀ J', Q (.inl none) (q + 9) (bP P q (q + 9)) (bI I q 9 gZ) J') : pv_X (pv_ZQ E Q) E d 8 128 mX2_init 0 [(0, .ref q)] [] (q + 1) P I J := by
  have hk : q + 8 < 371 := by have h9 := hq.2.2.2.2.2.2.2.2.2.1; simp only [pv_K0] at h9; omega
  refine px_mm (P' := cP P q (q + 1) 0) (I' := bI I q 1 gZ) (sz' := q + 1) (cP_in hP) (bI_in hI) rfl ?_
  refine px_aload_n dX2_init_0 rfl ?_
  refine px_objInit dX2_init_1 mlX2_3 pv_oI pv_oC (by omega) ?_
  refine px_aload_n dX2_init_4 rfl ?_
  refine px_bud (bc' := 1 + 7) (bs' := 1 + 127) rfl rfl ?_
  refine px_newS dX2_init_5 pnX2_9 hq.2.2.1.2.1 (by decide) (by show _ < 371; omega) ?_
  refine px_dup dX2_init_8 rfl ?_
  refine px_bipush (v := nI 31) dX2_init_9 (by decide) ?_
  refine px_bud (bc' := 1 + 6) (bs' := 31 + 96) rfl rfl ?_
  refine c_X6_init dX2_init_11 mlX2_11 (by omega) hq.2.2.1.2 (by omega) zP_at zI_at (Nat.le_of_ble_eq_true rfl) (fun J1 => ?_)
  refine px_putR dX2_init_14 ffX2_14 rfl rfl rfl hq.1 (by decide) (by decide) rfl (by omega) ?_
  refine px_mm (P' := cP P q (q + 3) 2) (I' := bI I q 3 gZ) (sz' := q + 3) (cP_put (f := 0) (f' := 1) (m := 2) (by omega) (by decide) hq.2.2.1.1 (fun j h1 h2 => pv_gap (by omega) hq.1 (Or.inr (Or.inl ⟨by decide, (show ∀ j, j < 1 → 0 ≤ j → pv_fk 2 j ≠ 1 by decide) j h2 h1⟩))) (by decide)) (bI_put (m := 2) rfl (by decide) (fun i hi => rfl) (fun i hi => rfl)) rfl ?_
  refine px_aload_n dX2_init_17 rfl ?_
  refine px_bud (bc' := 1 + 5) (bs' := 1 + 95) rfl rfl ?_
  refine px_newS dX2_init_18 pnX2_9 hq.2.2.2.1.2.1 (by decide) (by show _ < 371; omega) ?_
  refine px_dup dX2_init_21 rfl ?_
  refine px_bipush (v := nI 31) dX2_init_22 (by decide) ?_
  refine px_bud (bc' := 1 + 4) (bs' := 31 + 64) rfl rfl ?_
  refine c_X6_init dX2_init_24 mlX2_11 (by omega) hq.2.2.2.1.2 (by omega) zP_at zI_at (Nat.le_of_ble_eq_true rfl) (fun J1 => ?_)
  refine px_putR dX2_init_27 ffX2_20 rfl rfl rfl hq.1 (by decide) (by decide) rfl (by omega) ?_
  refine px_mm (P' := cP P q (q + 5) 3) (I' := bI I q 5 gZ) (sz' := q + 5) (cP_put (f := 2) (f' := 2) (m := 2) (by omega) (by decide) hq.2.2.2.1.1 (fun j h1 h2 => pv_gap (by omega) hq.1 (Or.inr (Or.inl ⟨by decide, (show ∀ j, j < 2 → 2 ≤ j → pv_fk 2 j ≠ 1 by decide) j h2 h1⟩))) (by decide)) (bI_put (m := 2) rfl (by decide) (fun i hi => rfl) (fun i hi => rfl)) rfl ?_
  refine px_aload_n dX2_init_30 rfl ?_
  refine px_bud (bc' := 1 + 3) (bs' := 1 + 63) rfl rfl ?_
  refine px_newS dX2_init_31 pnX2_9 hq.2.2.2.2.1.2.1 (by decide) (by show _ < 371; omega) ?_
  refine px_dup dX2_init_34 rfl ?_
  refine px_bipush (v := nI 31) dX2_init_35 (by decide) ?_
  refine px_bud (bc' := 1 + 2) (bs' := 31 + 32) rfl rfl ?_
  refine c_X6_init dX2_init_37 mlX2_11 (by omega) hq.2.2.2.2.1.2 (by omega) zP_at zI_at (Nat.le_of_ble_eq_true rfl) (fun J1 => ?_)
  refine px_putR dX2_init_40 ffX2_23 rfl rfl rfl hq.1 (by decide) (by decide) rfl (by omega) ?_
  refine px_mm (P' := cP P q (q + 7) 4) (I' := bI I q 7 gZ) (sz' := q + 7) (cP_put (f := 3) (f' := 3) (m := 2) (by omega) (by decide) hq.2.2.2.2.1.1 (fun j h1 h2 => pv_gap (by omega) hq.1 (Or.inr (Or.inl ⟨by decide, (show ∀ j, j < 3 → 3 ≤ j → pv_fk 2 j ≠ 1 by decide) j h2 h1⟩))) (by decide)) (bI_put (m := 2) rfl (by decide) (fun i hi => rfl) (fun i hi => rfl)) rfl ?_
  refine px_aload_n dX2_init_43 rfl ?_
  refine px_bud (bc' := 1 + 1) (bs' := 1 + 31) rfl rfl ?_
  refine px_newS dX2_init_44 pnX2_9 hq.2.2.2.2.2.2.1 (by decide) (by show _ < 371; omega) ?_
  refine px_dup dX2_init_47 rfl ?_
  refine px_bipush (v := nI 31) dX2_init_48 (by decide) ?_
  refine px_bud (bc' := 1 + 0) (bs' := 31 + 0) rfl rfl ?_
  refine c_X6_init dX2_init_50 mlX2_11 (by omega) hq.2.2.2.2.2.2 (by omega) zP_at zI_at (Nat.le_of_ble_eq_true rfl) (fun J1 => ?_)
  refine px_putR dX2_init_53 ffX2_26 rfl rfl rfl hq.1 (by decide) (by decide) rfl (by omega) ?_
  refine px_mm (P' := cP P q (q + 9) 5) (I' := bI I q 9 gZ) (sz' := q + 9) (cP_put (f := 4) (f' := 4) (m := 2) (by omega) (by decide) hq.2.2.2.2.2.1 (fun j h1 h2 => pv_gap (by omega) hq.1 (Or.inr (Or.inl ⟨by decide, (show ∀ j, j < 4 → 4 ≤ j → pv_fk 2 j ≠ 1 by decide) j h2 h1⟩))) (by decide)) (bI_put (m := 2) rfl (by decide) (fun i hi => rfl) (fun i hi => rfl)) rfl ?_
  refine px_mm (P' := bP P q (q + 9)) (I' := bI I q 9 gZ) (sz' := q + 9) (cP_out (fun j hj => by
    by_cases e : j < 5
    · exact pv_gap (by omega) hq.1 (Or.inr (Or.inl ⟨by decide, (show ∀ j, j < 5 → 5 ≤ j → pv_fk 2 j ≠ 1 by decide) j e hj⟩))
    · exact pv_gap (by omega) hq.1 (by omega)) (by omega)) rfl rfl ?_
  exact px_vret dX2_init_56 rfl (Or.inr rfl) (h _)
theorem n_X2_init {z : pv_Z} {E : pv_E} {d bc bs : Nat} {mi : pv_MI} {pc idx : Nat} {lv : pv_LV} {st : List Value} {P : pv_PT} {I : pv_IT} {J : pv_JT} {q : Nat} (hd : decode mi.2.1 pc = .ok (.invokespecial idx, 3)) (hlk : (mi.1.cls, idx, mX2_init.1) ∈ pv_nest) (hD : 2 + 1 ≤ d) (hq : pv_lots q) (hP : P q = fun _ => none) (hI : I q = fun _ => 0) (hcat : (st.map fun v => v.category).sum ≤ 8) (K : ∀ J', pv_X z E d bc bs mi (pc + 3) lv st (q + 9) (bP P q (q + 9)) (bI I q 9 gZ) J') : pv_X z E d (8 + bc) (128 + bs) mi pc lv (.ref q :: st) (q + 1) P I J := by
  obtain ⟨d, rfl⟩ : ∃ d0, d = d0 + 1 := ⟨d - 1, by omega⟩
  exact px_callIN (bc := bc) (bs := bs) (bc1 := 8) (bs1 := 128) (as := []) (k := q) (E := E) (z := z) (lv := lv) hd mcX2_init hlk rfl rfl hcat (by exact Nat.le_of_ble_eq_true rfl) (s_X2_init (by omega) hq hP hI K)
set_option maxRecDepth 100000 in
set_option maxHeartbeats 4000000 in
theorem s_X5_init {Q : pv_Q} {E : pv_E} {d : Nat} {P : pv_PT} {I : pv_IT} {J : pv_JT} {q : Nat} (hD : 2 ≤ d) (hq : pv_ports q) (hP : P q = fun _ => none) (hI : I q = fun _ => 0) (h : ∀ J', Q (.inl none) (q + 7) (bP P q (q + 7)) (bI I q 7 gZ) J') : pv_X (pv_ZQ E Q) E d 6 83 mX5_init 0 [(0, .ref q)] [] (q + 1) P I J := by
  have hk : q + 6 < 371 := by have h9 := hq.2.2.2.2.2.2.2.2.1; simp only [pv_K0] at h9; omega
  refine px_mm (P' := cP P q (q + 1) 0) (I' := bI I q 1 gZ) (sz' := q + 1) (cP_in hP) (bI_in hI) rfl ?_
  refine px_aload_n dX5_init_0 rfl ?_
  refine px_objInit dX5_init_1 mlX5_3 pv_oI pv_oC (by omega) ?_
  refine px_aload_n dX5_init_4 rfl ?_
  refine px_bud (bc' := 1 + 5) (bs' := 1 + 82) rfl rfl ?_
  refine px_newS dX5_init_5 pnX5_9 hq.2.2.1.2.1 (by decide) (by show _ < 371; omega) ?_
  refine px_dup dX5_init_8 rfl ?_
  refine px_bipush (v := nI 8) dX5_init_9 (by decide) ?_
  refine px_bud (bc' := 1 + 4) (bs' := 8 + 74) rfl rfl ?_
  refine c_X6_init dX5_init_11 mlX5_11 (by omega) hq.2.2.1.2 (by omega) zP_at zI_at (Nat.le_of_ble_eq_true rfl) (fun J1 => ?_)
  refine px_putR dX5_init_14 ffX5_14 rfl rfl rfl hq.1 (by decide) (by decide) rfl (by omega) ?_
  refine px_mm (P' := cP P q (q + 3) 2) (I' := bI I q 3 gZ) (sz' := q + 3) (cP_put (f := 0) (f' := 1) (m := 2) (by omega) (by decide) hq.2.2.1.1 (fun j h1 h2 => pv_gap (by omega) hq.1 (Or.inr (Or.inl ⟨by decide, (show ∀ j, j < 1 → 0 ≤ j → pv_fk 5 j ≠ 1 by decide) j h2 h1⟩))) (by decide)) (bI_put (m := 2) rfl (by decide) (fun i hi => rfl) (fun i hi => rfl)) rfl ?_
  refine px_aload_n dX5_init_17 rfl ?_
  refine px_bud (bc' := 1 + 3) (bs' := 1 + 73) rfl rfl ?_
  refine px_newS dX5_init_18 pnX5_9 hq.2.2.2.1.2.1 (by decide) (by show _ < 371; omega) ?_
  refine px_dup dX5_init_21 rfl ?_
  refine px_bipush (v := nI 8) dX5_init_22 (by decide) ?_
  refine px_bud (bc' := 1 + 2) (bs' := 8 + 65) rfl rfl ?_
  refine c_X6_init dX5_init_24 mlX5_11 (by omega) hq.2.2.2.1.2 (by omega) zP_at zI_at (Nat.le_of_ble_eq_true rfl) (fun J1 => ?_)
  refine px_putR dX5_init_27 ffX5_20 rfl rfl rfl hq.1 (by decide) (by decide) rfl (by omega) ?_
  refine px_mm (P' := cP P q (q + 5) 3) (I' := bI I q 5 gZ) (sz' := q + 5) (cP_put (f := 2) (f' := 2) (m := 2) (by omega) (by decide) hq.2.2.2.1.1 (fun j h1 h2 => pv_gap (by omega) hq.1 (Or.inr (Or.inl ⟨by decide, (show ∀ j, j < 2 → 2 ≤ j → pv_fk 5 j ≠ 1 by decide) j h2 h1⟩))) (by decide)) (bI_put (m := 2) rfl (by decide) (fun i hi => rfl) (fun i hi => rfl)) rfl ?_
  refine px_aload_n dX5_init_30 rfl ?_
  refine px_bud (bc' := 1 + 1) (bs' := 1 + 64) rfl rfl ?_
  refine px_newS dX5_init_31 pnX5_9 hq.2.2.2.2.2.1 (by decide) (by show _ < 371; omega) ?_
  refine px_dup dX5_init_34 rfl ?_
  refine px_bipush (v := nI 64) dX5_init_35 (by decide) ?_
  refine px_bud (bc' := 1 + 0) (bs' := 64 + 0) rfl rfl ?_
  refine c_X6_init dX5_init_37 mlX5_11 (by omega) hq.2.2.2.2.2 (by omega) zP_at zI_at (Nat.le_of_ble_eq_true rfl) (fun J1 => ?_)
  refine px_putR dX5_init_40 ffX5_23 rfl rfl rfl hq.1 (by decide) (by decide) rfl (by omega) ?_
  refine px_mm (P' := cP P q (q + 7) 4) (I' := bI I q 7 gZ) (sz' := q + 7) (cP_put (f := 3) (f' := 3) (m := 2) (by omega) (by decide) hq.2.2.2.2.1 (fun j h1 h2 => pv_gap (by omega) hq.1 (Or.inr (Or.inl ⟨by decide, (show ∀ j, j < 3 → 3 ≤ j → pv_fk 5 j ≠ 1 by decide) j h2 h1⟩))) (by decide)) (bI_put (m := 2) rfl (by decide) (fun i hi => rfl) (fun i hi => rfl)) rfl ?_
  refine px_mm (P' := bP P q (q + 7)) (I' := bI I q 7 gZ) (sz' := q + 7) (cP_out (fun j hj => by
    by_cases e : j < 4
    · exact pv_gap (by omega) hq.1 (Or.inr (Or.inl ⟨by decide, (show ∀ j, j < 4 → 4 ≤ j → pv_fk 5 j ≠ 1 by decide) j e hj⟩))
    · exact pv_gap (by omega) hq.1 (by omega)) (by omega)) rfl rfl ?_
  exact px_vret dX5_init_43 rfl (Or.inr rfl) (h _)
theorem n_X5_init {z : pv_Z} {E : pv_E} {d bc bs : Nat} {mi : pv_MI} {pc idx : Nat} {lv : pv_LV} {st : List Value} {P : pv_PT} {I : pv_IT} {J : pv_JT} {q : Nat} (hd : decode mi.2.1 pc = .ok (.invokespecial idx, 3)) (hlk : (mi.1.cls, idx, mX5_init.1) ∈ pv_nest) (hD : 2 + 1 ≤ d) (hq : pv_ports q) (hP : P q = fun _ => none) (hI : I q = fun _ => 0) (hcat : (st.map fun v => v.category).sum ≤ 8) (K : ∀ J', pv_X z E d bc bs mi (pc + 3) lv st (q + 7) (bP P q (q + 7)) (bI I q 7 gZ) J') : pv_X z E d (6 + bc) (83 + bs) mi pc lv (.ref q :: st) (q + 1) P I J := by
  obtain ⟨d, rfl⟩ : ∃ d0, d = d0 + 1 := ⟨d - 1, by omega⟩
  exact px_callIN (bc := bc) (bs := bs) (bc1 := 6) (bs1 := 83) (as := []) (k := q) (E := E) (z := z) (lv := lv) hd mcX5_init hlk rfl rfl hcat (by exact Nat.le_of_ble_eq_true rfl) (s_X5_init (by omega) hq hP hI K)
set_option maxRecDepth 100000 in
set_option maxHeartbeats 4000000 in
theorem s_X4_init {Q : pv_Q} {E : pv_E} {d : Nat} {P : pv_PT} {I : pv_IT} {J : pv_JT} {q : Nat} (hD : 2 ≤ d) (hq : pv_menus q) (hP : P q = fun _ => none) (hI : I q = fun _ => 0) (h : ∀ J', Q (.inl none) (q + 7) (bP P q (q + 7)) (bI I q 7 gM) J') : pv_X (pv_ZQ E Q) E d 6 123 mX4_init 0 [(0, .ref q)] [] (q + 1) P I J := by
  have hk : q + 6 < 371 := by have h9 := hq.2.2.2.2.2.2.2.2.1; simp only [pv_K0] at h9; omega
  refine px_mm (P' := cP P q (q + 1) 0) (I' := bI I q 1 gZ) (sz' := q + 1) (cP_in hP) (bI_in hI) rfl ?_
  refine px_aload_n dX4_init_0 rfl ?_
  refine px_objInit dX4_init_1 mlX4_3 pv_oI pv_oC (by omega) ?_
  refine px_aload_n dX4_init_4 rfl ?_
  refine px_iconst (v := nI 1) dX4_init_5 (by decide) ?_
  refine px_putI dX4_init_6 fwX4_9 hq.1 (by decide) (by decide) rfl (by omega) ?_
  refine px_mm (P' := cP P q (q + 1) 0) (I' := bI I q 1 gM) (sz' := q + 1) rfl ?_ rfl ?_
  · funext a j
    rw [pv_uI_at, bI_aj, bI_aj]
    by_cases e : q ≤ a ∧ a < q + 1
    · rw [if_pos e, if_pos e, show a - q = 0 by omega]
      by_cases e2 : j = 0
      · rw [if_pos ⟨by omega, e2⟩, e2]; rfl
      · rw [if_neg (fun h => e2 h.2)]; unfold gM; rw [if_pos rfl, if_neg e2]; rfl
    · rw [if_neg e, if_neg e, if_neg (by omega)]
  refine px_aload_n dX4_init_9 rfl ?_
  refine px_bud (bc' := 1 + 5) (bs' := 1 + 122) rfl rfl ?_
  refine px_newS dX4_init_10 pnX4_15 hq.2.2.1.2.1 (by decide) (by show _ < 371; omega) ?_
  refine px_dup dX4_init_13 rfl ?_
  refine px_bipush (v := nI 40) dX4_init_14 (by decide) ?_
  refine px_bud (bc' := 1 + 4) (bs' := 40 + 82) rfl rfl ?_
  refine c_X6_init dX4_init_16 mlX4_17 (by omega) hq.2.2.1.2 (by omega) zP_at zI_at (Nat.le_of_ble_eq_true rfl) (fun J1 => ?_)
  refine px_putR dX4_init_19 ffX4_20 rfl rfl rfl hq.1 (by decide) (by decide) rfl (by omega) ?_
  refine px_mm (P' := cP P q (q + 3) 2) (I' := bI I q 3 gM) (sz' := q + 3) (cP_put (f := 0) (f' := 1) (m := 2) (by omega) (by decide) hq.2.2.1.1 (fun j h1 h2 => pv_gap (by omega) hq.1 (Or.inr (Or.inl ⟨by decide, (show ∀ j, j < 1 → 0 ≤ j → pv_fk 4 j ≠ 1 by decide) j h2 h1⟩))) (by decide)) (bI_put (m := 2) rfl (by decide) (fun i hi => rfl) (fun i hi => (by funext j; unfold gM; rw [if_neg (by omega)]; rfl))) rfl ?_
  refine px_aload_n dX4_init_22 rfl ?_
  refine px_bud (bc' := 1 + 3) (bs' := 1 + 81) rfl rfl ?_
  refine px_newS dX4_init_23 pnX4_15 hq.2.2.2.1.2.1 (by decide) (by show _ < 371; omega) ?_
  refine px_dup dX4_init_26 rfl ?_
  refine px_bipush (v := nI 40) dX4_init_27 (by decide) ?_
  refine px_bud (bc' := 1 + 2) (bs' := 40 + 41) rfl rfl ?_
  refine c_X6_init dX4_init_29 mlX4_17 (by omega) hq.2.2.2.1.2 (by omega) zP_at zI_at (Nat.le_of_ble_eq_true rfl) (fun J1 => ?_)
  refine px_putR dX4_init_32 ffX4_24 rfl rfl rfl hq.1 (by decide) (by decide) rfl (by omega) ?_
  refine px_mm (P' := cP P q (q + 5) 3) (I' := bI I q 5 gM) (sz' := q + 5) (cP_put (f := 2) (f' := 2) (m := 2) (by omega) (by decide) hq.2.2.2.1.1 (fun j h1 h2 => pv_gap (by omega) hq.1 (Or.inr (Or.inl ⟨by decide, (show ∀ j, j < 2 → 2 ≤ j → pv_fk 4 j ≠ 1 by decide) j h2 h1⟩))) (by decide)) (bI_put (m := 2) rfl (by decide) (fun i hi => rfl) (fun i hi => (by funext j; unfold gM; rw [if_neg (by omega)]; rfl))) rfl ?_
  refine px_aload_n dX4_init_35 rfl ?_
  refine px_bud (bc' := 1 + 1) (bs' := 1 + 40) rfl rfl ?_
  refine px_newS dX4_init_36 pnX4_15 hq.2.2.2.2.2.1 (by decide) (by show _ < 371; omega) ?_
  refine px_dup dX4_init_39 rfl ?_
  refine px_bipush (v := nI 40) dX4_init_40 (by decide) ?_
  refine px_bud (bc' := 1 + 0) (bs' := 40 + 0) rfl rfl ?_
  refine c_X6_init dX4_init_42 mlX4_17 (by omega) hq.2.2.2.2.2 (by omega) zP_at zI_at (Nat.le_of_ble_eq_true rfl) (fun J1 => ?_)
  refine px_putR dX4_init_45 ffX4_27 rfl rfl rfl hq.1 (by decide) (by decide) rfl (by omega) ?_
  refine px_mm (P' := cP P q (q + 7) 4) (I' := bI I q 7 gM) (sz' := q + 7) (cP_put (f := 3) (f' := 3) (m := 2) (by omega) (by decide) hq.2.2.2.2.1 (fun j h1 h2 => pv_gap (by omega) hq.1 (Or.inr (Or.inl ⟨by decide, (show ∀ j, j < 3 → 3 ≤ j → pv_fk 4 j ≠ 1 by decide) j h2 h1⟩))) (by decide)) (bI_put (m := 2) rfl (by decide) (fun i hi => rfl) (fun i hi => (by funext j; unfold gM; rw [if_neg (by omega)]; rfl))) rfl ?_
  refine px_mm (P' := bP P q (q + 7)) (I' := bI I q 7 gM) (sz' := q + 7) (cP_out (fun j hj => by
    by_cases e : j < 4
    · exact pv_gap (by omega) hq.1 (Or.inr (Or.inl ⟨by decide, (show ∀ j, j < 4 → 4 ≤ j → pv_fk 4 j ≠ 1 by decide) j e hj⟩))
    · exact pv_gap (by omega) hq.1 (by omega)) (by omega)) rfl rfl ?_
  exact px_vret dX4_init_48 rfl (Or.inr rfl) (h _)
theorem n_X4_init {z : pv_Z} {E : pv_E} {d bc bs : Nat} {mi : pv_MI} {pc idx : Nat} {lv : pv_LV} {st : List Value} {P : pv_PT} {I : pv_IT} {J : pv_JT} {q : Nat} (hd : decode mi.2.1 pc = .ok (.invokespecial idx, 3)) (hlk : (mi.1.cls, idx, mX4_init.1) ∈ pv_nest) (hD : 2 + 1 ≤ d) (hq : pv_menus q) (hP : P q = fun _ => none) (hI : I q = fun _ => 0) (hcat : (st.map fun v => v.category).sum ≤ 8) (K : ∀ J', pv_X z E d bc bs mi (pc + 3) lv st (q + 7) (bP P q (q + 7)) (bI I q 7 gM) J') : pv_X z E d (6 + bc) (123 + bs) mi pc lv (.ref q :: st) (q + 1) P I J := by
  obtain ⟨d, rfl⟩ : ∃ d0, d = d0 + 1 := ⟨d - 1, by omega⟩
  exact px_callIN (bc := bc) (bs := bs) (bc1 := 6) (bs1 := 123) (as := []) (k := q) (E := E) (z := z) (lv := lv) hd mcX4_init hlk rfl rfl hcat (by exact Nat.le_of_ble_eq_true rfl) (s_X4_init (by omega) hq hP hI K)
set_option maxRecDepth 100000 in
set_option maxHeartbeats 4000000 in
theorem s_X7_init {Q : pv_Q} {E : pv_E} {d : Nat} {P : pv_PT} {I : pv_IT} {J : pv_JT} {q : Nat} (hD : 3 ≤ d) (hq : pv_ship q) (hP : P q = fun _ => none) (hI : I q = fun _ => 0) (h : ∀ J', Q (.inl none) (q + 44) (bP P q (q + 44)) (bI I q 44 gS) J') : pv_X (pv_ZQ E Q) E d 43 466 mX7_init 0 [(0, .ref q)] [] (q + 1) P I J := by
  have hk : q + 43 < 371 := by have h9 := hq.2.2.2.2.2.2.2.2.2.2.2.1; simp only [pv_K0] at h9; omega
  refine px_mm (P' := cP P q (q + 1) 0) (I' := bI I q 1 gZ) (sz' := q + 1) (cP_in hP) (bI_in hI) rfl ?_
  refine px_aload_n dX7_init_0 rfl ?_
  refine px_objInit dX7_init_1 mlX7_3 pv_oI pv_oC (by omega) ?_
  refine px_aload_n dX7_init_4 rfl ?_
  refine px_bipush (v := nI 10) dX7_init_5 (by decide) ?_
  refine px_putI dX7_init_7 fwX7_9 hq.1 (by decide) (by decide) rfl (by omega) ?_
  refine px_aload_n dX7_init_10 rfl ?_
  refine px_sipush (v := nI 10000) dX7_init_11 (by decide) ?_
  refine px_putI dX7_init_14 fwX7_15 hq.1 (by decide) (by decide) rfl (by omega) ?_
  refine px_mm (P' := cP P q (q + 1) 0) (I' := bI I q 1 gS) (sz' := q + 1) rfl ?_ rfl ?_
  · funext a j
    rw [pv_uI_at, pv_uI_at, bI_aj, bI_aj]
    by_cases e : q ≤ a ∧ a < q + 1
    · rw [if_pos e, if_pos e, show a - q = 0 by omega]
      unfold gS
      rw [if_pos rfl]
      by_cases e2 : j = 2
      · rw [if_pos ⟨by omega, e2⟩, e2]; rfl
      · rw [if_neg (fun h => e2 h.2)]
        by_cases e1 : j = 1
        · rw [if_pos ⟨by omega, e1⟩, if_pos e1]; rfl
        · rw [if_neg (fun h => e1 h.2), if_neg e1, if_neg e2]; rfl
    · rw [if_neg e, if_neg e, if_neg (by omega), if_neg (by omega)]
  refine px_aload_n dX7_init_17 rfl ?_
  refine px_bud (bc' := 1 + 42) (bs' := 7 + 459) rfl rfl ?_
  refine px_newS dX7_init_18 pnX7_18 hq.2.2.1.2.1 (by decide) (by show _ < 371; omega) ?_
  refine px_dup dX7_init_21 rfl ?_
  refine px_bud (bc' := 12 + 30) (bs' := 70 + 389) rfl rfl ?_
  refine n_X1_init dX7_init_22 (by decide) (by omega) hq.2.2.1.2 zP_at zI_at (Nat.le_of_ble_eq_true rfl) (fun J1 => ?_)
  refine px_putR dX7_init_25 ffX7_21 rfl rfl rfl hq.1 (by decide) (by decide) rfl (by omega) ?_
  refine px_mm (P' := cP P q (q + 14) 6) (I' := bI I q 14 gS) (sz' := q + 14) (cP_put (f := 0) (f' := 5) (m := 13) (by omega) (by decide) hq.2.2.1.1 (fun j h1 h2 => pv_gap (by omega) hq.1 (Or.inr (Or.inl ⟨by decide, (show ∀ j, j < 5 → 0 ≤ j → pv_fk 7 j ≠ 1 by decide) j h2 h1⟩))) (by decide)) (bI_put (m := 13) rfl (by decide) (fun i hi => rfl) (fun i hi => (by funext j; unfold gS; rw [if_neg (by omega), if_neg (by omega), if_neg (by omega)]; rfl))) rfl ?_
  refine px_aload_n dX7_init_28 rfl ?_
  refine px_bud (bc' := 1 + 29) (bs' := 2 + 387) rfl rfl ?_
  refine px_newS dX7_init_29 pnX7_25 hq.2.2.2.1.2.1 (by decide) (by show _ < 371; omega) ?_
  refine px_dup dX7_init_32 rfl ?_
  refine px_bud (bc' := 4 + 25) (bs' := 8 + 379) rfl rfl ?_
  refine c_X8_init dX7_init_33 mlX7_27 (by omega) hq.2.2.2.1.2 zP_at zI_at (Nat.le_of_ble_eq_true rfl) (fun J1 => ?_)
  refine px_putR dX7_init_36 ffX7_28 rfl rfl rfl hq.1 (by decide) (by decide) rfl (by omega) ?_
  refine px_mm (P' := cP P q (q + 19) 7) (I' := bI I q 19 gS) (sz' := q + 19) (cP_put (f := 6) (f' := 6) (m := 5) (by omega) (by decide) hq.2.2.2.1.1 (fun j h1 h2 => pv_gap (by omega) hq.1 (Or.inr (Or.inl ⟨by decide, (show ∀ j, j < 6 → 6 ≤ j → pv_fk 7 j ≠ 1 by decide) j h2 h1⟩))) (by decide)) (bI_put (m := 5) rfl (by decide) (fun i hi => rfl) (fun i hi => (by funext j; unfold gS; rw [if_neg (by omega), if_pos (by omega), show 14 + i - 14 = i by omega]))) rfl ?_
  refine px_aload_n dX7_init_39 rfl ?_
  refine px_bud (bc' := 1 + 24) (bs' := 5 + 374) rfl rfl ?_
  refine px_newS dX7_init_40 pnX7_32 hq.2.2.2.2.1.2.1 (by decide) (by show _ < 371; omega) ?_
  refine px_dup dX7_init_43 rfl ?_
  refine px_bud (bc' := 8 + 16) (bs' := 128 + 246) rfl rfl ?_
  refine n_X2_init dX7_init_44 (by decide) (by omega) hq.2.2.2.2.1.2 zP_at zI_at (Nat.le_of_ble_eq_true rfl) (fun J1 => ?_)
  refine px_putR dX7_init_47 ffX7_35 rfl rfl rfl hq.1 (by decide) (by decide) rfl (by omega) ?_
  refine px_mm (P' := cP P q (q + 28) 8) (I' := bI I q 28 gS) (sz' := q + 28) (cP_put (f := 7) (f' := 7) (m := 9) (by omega) (by decide) hq.2.2.2.2.1.1 (fun j h1 h2 => pv_gap (by omega) hq.1 (Or.inr (Or.inl ⟨by decide, (show ∀ j, j < 7 → 7 ≤ j → pv_fk 7 j ≠ 1 by decide) j h2 h1⟩))) (by decide)) (bI_put (m := 9) rfl (by decide) (fun i hi => rfl) (fun i hi => (by funext j; unfold gS; rw [if_neg (by omega), if_neg (by omega), if_neg (by omega)]; rfl))) rfl ?_
  refine px_aload_n dX7_init_50 rfl ?_
  refine px_bud (bc' := 1 + 15) (bs' := 4 + 242) rfl rfl ?_
  refine px_newS dX7_init_51 pnX7_39 hq.2.2.2.2.2.1.2.1 (by decide) (by show _ < 371; omega) ?_
  refine px_dup dX7_init_54 rfl ?_
  refine px_bud (bc' := 6 + 9) (bs' := 83 + 159) rfl rfl ?_
  refine n_X5_init dX7_init_55 (by decide) (by omega) hq.2.2.2.2.2.1.2 zP_at zI_at (Nat.le_of_ble_eq_true rfl) (fun J1 => ?_)
  refine px_putR dX7_init_58 ffX7_42 rfl rfl rfl hq.1 (by decide) (by decide) rfl (by omega) ?_
  refine px_mm (P' := cP P q (q + 35) 9) (I' := bI I q 35 gS) (sz' := q + 35) (cP_put (f := 8) (f' := 8) (m := 7) (by omega) (by decide) hq.2.2.2.2.2.1.1 (fun j h1 h2 => pv_gap (by omega) hq.1 (Or.inr (Or.inl ⟨by decide, (show ∀ j, j < 8 → 8 ≤ j → pv_fk 7 j ≠ 1 by decide) j h2 h1⟩))) (by decide)) (bI_put (m := 7) rfl (by decide) (fun i hi => rfl) (fun i hi => (by funext j; unfold gS; rw [if_neg (by omega), if_neg (by omega), if_neg (by omega)]; rfl))) rfl ?_
  refine px_aload_n dX7_init_61 rfl ?_
  refine px_bud (bc' := 1 + 8) (bs' := 4 + 155) rfl rfl ?_
  refine px_newS dX7_init_62 pnX7_46 hq.2.2.2.2.2.2.1.2.1 (by decide) (by show _ < 371; omega) ?_
  refine px_dup dX7_init_65 rfl ?_
  refine px_bud (bc' := 6 + 2) (bs' := 123 + 32) rfl rfl ?_
  refine n_X4_init dX7_init_66 (by decide) (by omega) hq.2.2.2.2.2.2.1.2 zP_at zI_at (Nat.le_of_ble_eq_true rfl) (fun J1 => ?_)
  refine px_putR dX7_init_69 ffX7_49 rfl rfl rfl hq.1 (by decide) (by decide) rfl (by omega) ?_
  refine px_mm (P' := cP P q (q + 42) 10) (I' := bI I q 42 gS) (sz' := q + 42) (cP_put (f := 9) (f' := 9) (m := 7) (by omega) (by decide) hq.2.2.2.2.2.2.1.1 (fun j h1 h2 => pv_gap (by omega) hq.1 (Or.inr (Or.inl ⟨by decide, (show ∀ j, j < 9 → 9 ≤ j → pv_fk 7 j ≠ 1 by decide) j h2 h1⟩))) (by decide)) (bI_put (m := 7) rfl (by decide) (fun i hi => rfl) (fun i hi => (by funext j; unfold gS; rw [if_neg (by omega), if_neg (by omega), if_pos (by omega), show 35 + i - 35 = i by omega]))) rfl ?_
  refine px_aload_n dX7_init_72 rfl ?_
  refine px_bud (bc' := 1 + 1) (bs' := 1 + 31) rfl rfl ?_
  refine px_newS dX7_init_73 pnX7_53 hq.2.2.2.2.2.2.2.2.1 (by decide) (by show _ < 371; omega) ?_
  refine px_dup dX7_init_76 rfl ?_
  refine px_bipush (v := nI 31) dX7_init_77 (by decide) ?_
  refine px_bud (bc' := 1 + 0) (bs' := 31 + 0) rfl rfl ?_
  refine c_X6_init dX7_init_79 mlX7_55 (by omega) hq.2.2.2.2.2.2.2.2 (by omega) zP_at zI_at (Nat.le_of_ble_eq_true rfl) (fun J1 => ?_)
  refine px_putR dX7_init_82 ffX7_58 rfl rfl rfl hq.1 (by decide) (by decide) rfl (by omega) ?_
  refine px_mm (P' := cP P q (q + 44) 11) (I' := bI I q 44 gS) (sz' := q + 44) (cP_put (f := 10) (f' := 10) (m := 2) (by omega) (by decide) hq.2.2.2.2.2.2.2.1 (fun j h1 h2 => pv_gap (by omega) hq.1 (Or.inr (Or.inl ⟨by decide, (show ∀ j, j < 10 → 10 ≤ j → pv_fk 7 j ≠ 1 by decide) j h2 h1⟩))) (by decide)) (bI_put (m := 2) rfl (by decide) (fun i hi => rfl) (fun i hi => (by funext j; unfold gS; rw [if_neg (by omega), if_neg (by omega), if_neg (by omega)]; rfl))) rfl ?_
  refine px_mm (P' := bP P q (q + 44)) (I' := bI I q 44 gS) (sz' := q + 44) (cP_out (fun j hj => by
    by_cases e : j < 11
    · exact pv_gap (by omega) hq.1 (Or.inr (Or.inl ⟨by decide, (show ∀ j, j < 11 → 11 ≤ j → pv_fk 7 j ≠ 1 by decide) j e hj⟩))
    · exact pv_gap (by omega) hq.1 (by omega)) (by omega)) rfl rfl ?_
  exact px_vret dX7_init_85 rfl (Or.inr rfl) (h _)
theorem n_X7_init {z : pv_Z} {E : pv_E} {d bc bs : Nat} {mi : pv_MI} {pc idx : Nat} {lv : pv_LV} {st : List Value} {P : pv_PT} {I : pv_IT} {J : pv_JT} {q : Nat} (hd : decode mi.2.1 pc = .ok (.invokespecial idx, 3)) (hlk : (mi.1.cls, idx, mX7_init.1) ∈ pv_nest) (hD : 3 + 1 ≤ d) (hq : pv_ship q) (hP : P q = fun _ => none) (hI : I q = fun _ => 0) (hcat : (st.map fun v => v.category).sum ≤ 8) (K : ∀ J', pv_X z E d bc bs mi (pc + 3) lv st (q + 44) (bP P q (q + 44)) (bI I q 44 gS) J') : pv_X z E d (43 + bc) (466 + bs) mi pc lv (.ref q :: st) (q + 1) P I J := by
  obtain ⟨d, rfl⟩ : ∃ d0, d = d0 + 1 := ⟨d - 1, by omega⟩
  exact px_callIN (bc := bc) (bs := bs) (bc1 := 43) (bs1 := 466) (as := []) (k := q) (E := E) (z := z) (lv := lv) hd mcX7_init hlk rfl rfl hcat (by exact Nat.le_of_ble_eq_true rfl) (s_X7_init (by omega) hq hP hI K)
