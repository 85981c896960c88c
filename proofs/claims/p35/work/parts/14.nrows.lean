/-! Rows over natural numbers. -/
theorem pn_m1 {a : Nat} (h : a < 2147483648) : ¬ nI a = -1 := by
  intro e
  have h1 := congrArg Int32.toInt e
  rw [nI_toInt h] at h1
  have h2 : (-1 : Int32).toInt = -1 := by decide
  omega
theorem pn_m1' {a : Nat} (h : a < 2147483648) : ¬ (-1 : Int32) = nI a := fun e => pn_m1 h e.symm
theorem pn_eq0 {a : Nat} (h : a < 2147483648) : nI a = 0 ↔ a = 0 := nI_eq (b := 0) h (by omega)
theorem pn_of {x : Int32} {a b : Nat} (h1 : nI a ≤ x) (h2 : x ≤ nI b) (hb : b < 2147483648) (hab : a ≤ b) : ∃ j : Nat, a ≤ j ∧ j ≤ b ∧ x = nI j := by
  have h0 : ¬ x < 0 := by
    intro h
    have := Int32.lt_iff_toInt_lt.mp h
    have h3 := Int32.le_iff_toInt_le.mp h1
    rw [nI_toInt (by omega)] at h3
    have : (0 : Int32).toInt = 0 := by decide
    omega
  obtain ⟨j, hj, rfl⟩ := nI_of h0
  exact ⟨j, (nI_leI (by omega) hj).mp h1, (nI_leI hj hb).mp h2, rfl⟩
theorem pn_lt {x : Int32} {a : Nat} (h : ¬ nI a ≤ x) : x < nI a := Int32.not_le.mp h
section PVN
variable {z : pv_Z} {E : pv_E} {d bc bs : Nat} {mi : pv_MI} {pc : Nat} {lv : pv_LV} {st : List Value} {sz : Nat} {P : pv_PT} {I : pv_IT} {J : pv_JT} {a b : Nat}
/-- the stack's top by another name -/
theorem px_iv {x y : Int32} (h : x = y) (k : pv_X z E d bc bs mi pc lv (.int y :: st) sz P I J) : pv_X z E d bc bs mi pc lv (.int x :: st) sz P I J := by rw [h]; exact k
theorem px_lvv {x y : Int64} (h : x = y) (k : pv_X z E d bc bs mi pc lv (.long y :: st) sz P I J) : pv_X z E d bc bs mi pc lv (.long x :: st) sz P I J := by rw [h]; exact k
theorem px_dv {x y : UInt64} (h : x = y) (k : pv_X z E d bc bs mi pc lv (.double y :: st) sz P I J) : pv_X z E d bc bs mi pc lv (.double x :: st) sz P I J := by rw [h]; exact k
theorem px_mem {I' : pv_IT} (h : I = I') (k : pv_X z E d bc bs mi pc lv st sz P I' J) : pv_X z E d bc bs mi pc lv st sz P I J := by rw [h]; exact k
theorem px_lvs {lv' : pv_LV} (h : lv = lv') (k : pv_X z E d bc bs mi pc lv' st sz P I J) : pv_X z E d bc bs mi pc lv st sz P I J := by rw [h]; exact k
theorem px_iaddN (hd : decode mi.2.1 pc = .ok (.iadd, 1)) (k : pv_X z E d bc bs mi (pc + 1) lv (.int (nI (a + b)) :: st) sz P I J) : pv_X z E d bc bs mi pc lv (.int (nI b) :: .int (nI a) :: st) sz P I J :=
  px_iadd hd (by rw [nI_add]; exact k)
theorem px_imulN (hd : decode mi.2.1 pc = .ok (.imul, 1)) (k : pv_X z E d bc bs mi (pc + 1) lv (.int (nI (a * b)) :: st) sz P I J) : pv_X z E d bc bs mi pc lv (.int (nI b) :: .int (nI a) :: st) sz P I J :=
  px_imul hd (by rw [pk_mul]; exact k)
theorem px_isubN (h : b ≤ a) (hd : decode mi.2.1 pc = .ok (.isub, 1)) (k : pv_X z E d bc bs mi (pc + 1) lv (.int (nI (a - b)) :: st) sz P I J) : pv_X z E d bc bs mi pc lv (.int (nI b) :: .int (nI a) :: st) sz P I J :=
  px_isub hd (by rw [pk_sub h]; exact k)
theorem px_idivN (ha : a < 2147483648) (h0 : 0 < b) (hb : b < 2147483648) (hd : decode mi.2.1 pc = .ok (.idiv, 1)) (k : pv_X z E d bc bs mi (pc + 1) lv (.int (nI (a / b)) :: st) sz P I J) : pv_X z E d bc bs mi pc lv (.int (nI b) :: .int (nI a) :: st) sz P I J :=
  px_idiv hd (nI_ne0 h0 hb) (by rw [pk_div ha h0 hb]; exact k)
theorem px_iremN (ha : a < 2147483648) (h0 : 0 < b) (hb : b < 2147483648) (hd : decode mi.2.1 pc = .ok (.irem, 1)) (k : pv_X z E d bc bs mi (pc + 1) lv (.int (nI (a % b)) :: st) sz P I J) : pv_X z E d bc bs mi pc lv (.int (nI b) :: .int (nI a) :: st) sz P I J :=
  px_irem hd (nI_ne0 h0 hb) (by rw [pk_rem ha h0 hb]; exact k)
theorem px_iincN {i c : Nat} {n : Int} (hn : Int32.ofInt n = nI c) (hd : decode mi.2.1 pc = .ok (.iinc i n, 3)) (hg : pv_get i lv = some (.int (nI a))) (hi : i < mi.2.2.1) (k : pv_X z E d bc bs mi (pc + 3) (pv_put1 i (.int (nI (a + c))) lv) st sz P I J) : pv_X z E d bc bs mi pc lv st sz P I J :=
  px_iinc hd hg (by rw [hn, nI_add]) hi k
theorem px_idecN {i : Nat} (h : 0 < a) (hd : decode mi.2.1 pc = .ok (.iinc i (-1), 3)) (hg : pv_get i lv = some (.int (nI a))) (hi : i < mi.2.2.1) (k : pv_X z E d bc bs mi (pc + 3) (pv_put1 i (.int (nI (a - 1))) lv) st sz P I J) : pv_X z E d bc bs mi pc lv st sz P I J :=
  px_iinc hd hg (by obtain ⟨c, rfl⟩ : ∃ c, a = c + 1 := ⟨a - 1, by omega⟩; exact pk_m1 c) hi k
theorem px_icmp_eqN {off : Int} {tgt : Nat} (hd : decode mi.2.1 pc = .ok (.if_icmp .eq off, 3)) (ht : (pc : Int) + off = (tgt : Int)) (ha : a < 2147483648) (hb : b < 2147483648) (kt : a = b → pv_X z E d bc bs mi tgt lv st sz P I J) (kf : ¬ a = b → pv_X z E d bc bs mi (pc + 3) lv st sz P I J) : pv_X z E d bc bs mi pc lv (.int (nI b) :: .int (nI a) :: st) sz P I J :=
  px_icmp_eq hd ht (fun h => kt ((nI_eq ha hb).mp h)) (fun h => kf (fun e => h ((nI_eq ha hb).mpr e)))
theorem px_icmp_neN {off : Int} {tgt : Nat} (hd : decode mi.2.1 pc = .ok (.if_icmp .ne off, 3)) (ht : (pc : Int) + off = (tgt : Int)) (ha : a < 2147483648) (hb : b < 2147483648) (kt : ¬ a = b → pv_X z E d bc bs mi tgt lv st sz P I J) (kf : a = b → pv_X z E d bc bs mi (pc + 3) lv st sz P I J) : pv_X z E d bc bs mi pc lv (.int (nI b) :: .int (nI a) :: st) sz P I J :=
  px_icmp_ne hd ht (fun h => kt (fun e => h ((nI_eq ha hb).mpr e))) (fun h => kf ((nI_eq ha hb).mp h))
theorem px_icmp_ltN {off : Int} {tgt : Nat} (hd : decode mi.2.1 pc = .ok (.if_icmp .lt off, 3)) (ht : (pc : Int) + off = (tgt : Int)) (ha : a < 2147483648) (hb : b < 2147483648) (kt : a < b → pv_X z E d bc bs mi tgt lv st sz P I J) (kf : b ≤ a → pv_X z E d bc bs mi (pc + 3) lv st sz P I J) : pv_X z E d bc bs mi pc lv (.int (nI b) :: .int (nI a) :: st) sz P I J :=
  px_icmp_lt hd ht (fun h => kt ((nI_ltI ha hb).mp h)) (fun h => kf (Nat.le_of_not_lt (fun e => h ((nI_ltI ha hb).mpr e))))
theorem px_icmp_geN {off : Int} {tgt : Nat} (hd : decode mi.2.1 pc = .ok (.if_icmp .ge off, 3)) (ht : (pc : Int) + off = (tgt : Int)) (ha : a < 2147483648) (hb : b < 2147483648) (kt : b ≤ a → pv_X z E d bc bs mi tgt lv st sz P I J) (kf : a < b → pv_X z E d bc bs mi (pc + 3) lv st sz P I J) : pv_X z E d bc bs mi pc lv (.int (nI b) :: .int (nI a) :: st) sz P I J :=
  px_icmp_ge hd ht (fun h => kt ((nI_leI hb ha).mp h)) (fun h => kf (Nat.lt_of_not_le (fun e => h ((nI_leI hb ha).mpr e))))
theorem px_icmp_gtN {off : Int} {tgt : Nat} (hd : decode mi.2.1 pc = .ok (.if_icmp .gt off, 3)) (ht : (pc : Int) + off = (tgt : Int)) (ha : a < 2147483648) (hb : b < 2147483648) (kt : b < a → pv_X z E d bc bs mi tgt lv st sz P I J) (kf : a ≤ b → pv_X z E d bc bs mi (pc + 3) lv st sz P I J) : pv_X z E d bc bs mi pc lv (.int (nI b) :: .int (nI a) :: st) sz P I J :=
  px_icmp_gt hd ht (fun h => kt ((nI_ltI hb ha).mp h)) (fun h => kf (Nat.le_of_not_lt (fun e => h ((nI_ltI hb ha).mpr e))))
theorem px_icmp_leN {off : Int} {tgt : Nat} (hd : decode mi.2.1 pc = .ok (.if_icmp .le off, 3)) (ht : (pc : Int) + off = (tgt : Int)) (ha : a < 2147483648) (hb : b < 2147483648) (kt : a ≤ b → pv_X z E d bc bs mi tgt lv st sz P I J) (kf : b < a → pv_X z E d bc bs mi (pc + 3) lv st sz P I J) : pv_X z E d bc bs mi pc lv (.int (nI b) :: .int (nI a) :: st) sz P I J :=
  px_icmp_le hd ht (fun h => kt ((nI_leI ha hb).mp h)) (fun h => kf (Nat.lt_of_not_le (fun e => h ((nI_leI ha hb).mpr e))))
theorem px_if_eqN {off : Int} {tgt : Nat} (hd : decode mi.2.1 pc = .ok (.ifCond .eq off, 3)) (ht : (pc : Int) + off = (tgt : Int)) (ha : a < 2147483648) (kt : a = 0 → pv_X z E d bc bs mi tgt lv st sz P I J) (kf : 0 < a → pv_X z E d bc bs mi (pc + 3) lv st sz P I J) : pv_X z E d bc bs mi pc lv (.int (nI a) :: st) sz P I J :=
  px_if_eq hd ht (fun h => kt ((pn_eq0 ha).mp h)) (fun h => kf (Nat.pos_of_ne_zero (fun e => h ((pn_eq0 ha).mpr e))))
theorem px_if_neN {off : Int} {tgt : Nat} (hd : decode mi.2.1 pc = .ok (.ifCond .ne off, 3)) (ht : (pc : Int) + off = (tgt : Int)) (ha : a < 2147483648) (kt : 0 < a → pv_X z E d bc bs mi tgt lv st sz P I J) (kf : a = 0 → pv_X z E d bc bs mi (pc + 3) lv st sz P I J) : pv_X z E d bc bs mi pc lv (.int (nI a) :: st) sz P I J :=
  px_if_ne hd ht (fun h => kt (Nat.pos_of_ne_zero (fun e => h ((pn_eq0 ha).mpr e)))) (fun h => kf ((pn_eq0 ha).mp h))
theorem px_if_gtN {off : Int} {tgt : Nat} (hd : decode mi.2.1 pc = .ok (.ifCond .gt off, 3)) (ht : (pc : Int) + off = (tgt : Int)) (ha : a < 2147483648) (kt : 0 < a → pv_X z E d bc bs mi tgt lv st sz P I J) (kf : a = 0 → pv_X z E d bc bs mi (pc + 3) lv st sz P I J) : pv_X z E d bc bs mi pc lv (.int (nI a) :: st) sz P I J :=
  px_if_gt hd ht (fun h => kt ((nI_ltI (a := 0) (by omega) ha).mp h)) (fun h => kf (Nat.eq_zero_of_not_pos (fun e => h ((nI_ltI (a := 0) (by omega) ha).mpr e))))
theorem px_if_leN {off : Int} {tgt : Nat} (hd : decode mi.2.1 pc = .ok (.ifCond .le off, 3)) (ht : (pc : Int) + off = (tgt : Int)) (ha : a < 2147483648) (kt : a = 0 → pv_X z E d bc bs mi tgt lv st sz P I J) (kf : 0 < a → pv_X z E d bc bs mi (pc + 3) lv st sz P I J) : pv_X z E d bc bs mi pc lv (.int (nI a) :: st) sz P I J :=
  px_if_le hd ht (fun h => kt (Nat.eq_zero_of_not_pos (fun e => nI_nle e ha h))) (fun h => kf (Nat.pos_of_ne_zero (fun e => h (by subst e; decide))))
theorem px_if_ltN {off : Int} {tgt : Nat} (hd : decode mi.2.1 pc = .ok (.ifCond .lt off, 3)) (ht : (pc : Int) + off = (tgt : Int)) (ha : a < 2147483648) (kf : pv_X z E d bc bs mi (pc + 3) lv st sz P I J) : pv_X z E d bc bs mi pc lv (.int (nI a) :: st) sz P I J :=
  px_if_lt hd ht (fun h => absurd h (nI_pos ha)) (fun _ => kf)
theorem px_if_geN {off : Int} {tgt : Nat} (hd : decode mi.2.1 pc = .ok (.ifCond .ge off, 3)) (ht : (pc : Int) + off = (tgt : Int)) (ha : a < 2147483648) (kt : pv_X z E d bc bs mi tgt lv st sz P I J) : pv_X z E d bc bs mi pc lv (.int (nI a) :: st) sz P I J :=
  px_if_ge hd ht (fun _ => kt) (fun h => absurd (nI_pos' ha) h)
/-- a number that is 0 or 1 by a question -/
def pv_bl (p : Prop) [Decidable p] : Nat := if p then 1 else 0
theorem pv_bl1 {p : Prop} [Decidable p] (h : p) : pv_bl p = 1 := if_pos h
theorem pv_bl0 {p : Prop} [Decidable p] (h : ¬ p) : pv_bl p = 0 := if_neg h
theorem px_if_eqB {p : Prop} [Decidable p] {off : Int} {tgt : Nat} (hd : decode mi.2.1 pc = .ok (.ifCond .eq off, 3)) (ht : (pc : Int) + off = (tgt : Int)) (kt : ¬ p → pv_X z E d bc bs mi tgt lv st sz P I J) (kf : p → pv_X z E d bc bs mi (pc + 3) lv st sz P I J) : pv_X z E d bc bs mi pc lv (.int (nI (pv_bl p)) :: st) sz P I J := by
  by_cases h : p
  · rw [pv_bl1 h]
    exact px_if_eq hd ht (fun e => absurd e (by decide)) (fun _ => kf h)
  · rw [pv_bl0 h]
    exact px_if_eq hd ht (fun _ => kt h) (fun e => absurd rfl e)
theorem px_if_neB {p : Prop} [Decidable p] {off : Int} {tgt : Nat} (hd : decode mi.2.1 pc = .ok (.ifCond .ne off, 3)) (ht : (pc : Int) + off = (tgt : Int)) (kt : p → pv_X z E d bc bs mi tgt lv st sz P I J) (kf : ¬ p → pv_X z E d bc bs mi (pc + 3) lv st sz P I J) : pv_X z E d bc bs mi pc lv (.int (nI (pv_bl p)) :: st) sz P I J := by
  by_cases h : p
  · rw [pv_bl1 h]
    exact px_if_ne hd ht (fun _ => kt h) (fun e => absurd e (by decide))
  · rw [pv_bl0 h]
    exact px_if_ne hd ht (fun e => absurd rfl e) (fun _ => kf h)
end PVN
