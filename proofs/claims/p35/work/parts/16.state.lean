/-! The ship's state as numbers: T (all fields but the lots, by one index each), L (the lots: kind, store, amount, age). -/
theorem pv_uI_at {I : pv_IT} {k j : Nat} {v : Int32} {a i : Nat} : pv_uI I k j v a i = if a = k ∧ i = j then v else I a i := by
  unfold pv_uI upd
  by_cases h : a = k
  · subst h; by_cases h2 : i = j <;> simp [h2]
  · simp [h]
theorem pv_uA_at {I : pv_IT} {k : Nat} {f : Nat → Int32} {a i : Nat} : pv_uA I k f a i = if a = k then f i else I a i := by
  unfold pv_uA
  by_cases h : a = k <;> simp [h]
theorem pv_cpy0 {f g : Nat → Int32} {n j : Nat} (h : j < n) : va_cpy f g 0 0 n j = f j := by
  rw [pk_cpy_in (Nat.zero_le _) (by omega)]
  exact congrArg f (by omega)
abbrev pv_T : Type := Nat → Nat
abbrev pv_Lot : Type := Nat × Nat × Nat × Nat
def pt_up (T : pv_T) (i v : Nat) : pv_T := fun j => if j = i then v else T j
theorem pt_us {T : pv_T} {i v : Nat} : pt_up T i v i = v := if_pos rfl
theorem pt_un {T : pv_T} {i v j : Nat} (h : j ≠ i) : pt_up T i v j = T j := if_neg h
def pl_g (L : List pv_Lot) (l : Nat) : pv_Lot := L.getD l (0, 0, 0, 0)
theorem pl_g_set {L : List pv_Lot} {l j : Nat} {x : pv_Lot} (h : l < L.length) : pl_g (L.set l x) j = if j = l then x else pl_g L j := by
  unfold pl_g
  rw [List.getD_eq_getElem?_getD, List.getD_eq_getElem?_getD, List.getElem?_set]
  by_cases e : l = j
  · subst e; simp [h]
  · rw [if_neg e, if_neg (fun z => e z.symm)]
theorem pl_g_push {L : List pv_Lot} {j : Nat} {x : pv_Lot} : pl_g (L ++ [x]) j = if j < L.length then pl_g L j else if j = L.length then x else (0, 0, 0, 0) := by
  unfold pl_g
  rw [List.getD_eq_getElem?_getD, List.getD_eq_getElem?_getD]
  by_cases h : j < L.length
  · rw [if_pos h, List.getElem?_append_left h]
  · rw [if_neg h, List.getElem?_append_right (by omega)]
    by_cases e : j = L.length
    · subst e; simp
    · rw [if_neg e, List.getElem?_eq_none (by simp; omega)]; rfl
theorem pl_g_mem {L : List pv_Lot} {l : Nat} (h : l < L.length) : pl_g L l ∈ L := by
  unfold pl_g
  rw [List.getD_eq_getElem?_getD, List.getElem?_eq_getElem h]
  exact List.getElem_mem h
theorem pl_mem_g {L : List pv_Lot} {x : pv_Lot} (h : x ∈ L) : ∃ l, l < L.length ∧ pl_g L l = x := by
  obtain ⟨l, hl, e⟩ := List.getElem_of_mem h
  refine ⟨l, hl, ?_⟩
  unfold pl_g
  rw [List.getD_eq_getElem?_getD, List.getElem?_eq_getElem hl]
  exact e
theorem pl_ext {A B : List pv_Lot} (h : A.length = B.length) (h2 : ∀ l, l < A.length → pl_g A l = pl_g B l) : A = B := by
  refine List.ext_getElem h fun i h3 h4 => ?_
  have := h2 i h3
  unfold pl_g at this
  rw [List.getD_eq_getElem?_getD, List.getD_eq_getElem?_getD, List.getElem?_eq_getElem h3, List.getElem?_eq_getElem h4] at this
  exact this
/-- what is left when lots with nothing left go -/
def pl_pos (x : pv_Lot) : Bool := Nat.blt 0 x.2.2.1
def pl_drop (L : List pv_Lot) : List pv_Lot := L.filter pl_pos
def pl_kept (L : List pv_Lot) (i : Nat) : List pv_Lot := pl_drop (L.take i)
theorem pl_take {L : List pv_Lot} {i : Nat} (h : i < L.length) : L.take (i + 1) = L.take i ++ [pl_g L i] := by
  rw [List.take_succ]
  unfold pl_g
  rw [List.getD_eq_getElem?_getD, List.getElem?_eq_getElem h]
  rfl
theorem pl_kept0 (L : List pv_Lot) : pl_kept L 0 = [] := rfl
theorem pl_keptN (L : List pv_Lot) : pl_kept L L.length = pl_drop L := by unfold pl_kept; rw [List.take_length]
theorem pl_kept1 {L : List pv_Lot} {i : Nat} (h : i < L.length) (hp : 0 < (pl_g L i).2.2.1) : pl_kept L (i + 1) = pl_kept L i ++ [pl_g L i] := by
  unfold pl_kept pl_drop
  rw [pl_take h, List.filter_append, List.filter_cons_of_pos (by unfold pl_pos; simpa [Nat.blt_eq] using hp)]
  rfl
theorem pl_kept2 {L : List pv_Lot} {i : Nat} (h : i < L.length) (hp : (pl_g L i).2.2.1 = 0) : pl_kept L (i + 1) = pl_kept L i := by
  unfold pl_kept pl_drop
  rw [pl_take h, List.filter_append, List.filter_cons_of_neg (by unfold pl_pos; rw [hp]; decide), List.filter_nil, List.append_nil]
theorem pl_kept_le (L : List pv_Lot) (i : Nat) : (pl_kept L i).length ≤ i := Nat.le_trans (List.length_filter_le _ _) (by rw [List.length_take]; omega)
theorem pl_drop_le (L : List pv_Lot) : (pl_drop L).length ≤ L.length := List.length_filter_le _ _
def pn_sum (f : Nat → Nat) : Nat → Nat
  | 0 => 0
  | k + 1 => pn_sum f k + f k
theorem pn_sum_congr {f g : Nat → Nat} : ∀ {n : Nat}, (∀ i : Nat, i < n → f i = g i) → pn_sum f n = pn_sum g n
  | 0, _ => rfl
  | n + 1, h => by
    unfold pn_sum
    rw [pn_sum_congr (fun i hi => h i (by omega)), h n (by omega)]
theorem pn_sum_le {f : Nat → Nat} {c : Nat} : ∀ {n : Nat}, (∀ i : Nat, i < n → f i ≤ c) → pn_sum f n ≤ n * c
  | 0, _ => by simp [pn_sum]
  | n + 1, h => by
    unfold pn_sum
    have h1 := pn_sum_le (n := n) (fun i hi => h i (by omega))
    have h2 := h n (by omega)
    rw [Nat.add_mul]
    omega
theorem pn_sum_add {f g : Nat → Nat} : ∀ {n : Nat}, pn_sum (fun i => f i + g i) n = pn_sum f n + pn_sum g n
  | 0 => rfl
  | n + 1 => by
    unfold pn_sum
    rw [pn_sum_add (n := n)]
    omega
/-- sums over the lots -/
def ps_all (L : List pv_Lot) : Nat := pn_sum (fun l => (pl_g L l).2.2.1) L.length
def ps_in (L : List pv_Lot) (s : Nat) : Nat := pn_sum (fun l => if (pl_g L l).2.1 = s then (pl_g L l).2.2.1 else 0) L.length
def ps_of (L : List pv_Lot) (k : Nat) : Nat := pn_sum (fun l => if (pl_g L l).1 = k then (pl_g L l).2.2.1 else 0) L.length
def ps_nin (L : List pv_Lot) (s : Nat) : Nat := pn_sum (fun l => if (pl_g L l).2.1 = s then 1 else 0) L.length
def ps_nof (L : List pv_Lot) (k : Nat) : Nat := pn_sum (fun l => if (pl_g L l).1 = k then 1 else 0) L.length
def ps_age (L : List pv_Lot) : Nat := pn_sum (fun l => (pl_g L l).2.2.2 * (pl_g L l).2.2.1) L.length
/-- a lot in its bounds -/
def lb (x : pv_Lot) : Prop := x.1 < 8 ∧ x.2.1 < 3 ∧ x.2.2.1 ≤ 2000 ∧ x.2.2.2 ≤ 2000
def lbs (L : List pv_Lot) : Prop := L.length ≤ 31 ∧ ∀ l, l < L.length → lb (pl_g L l)
theorem lbs_mem {L : List pv_Lot} : lbs L ↔ L.length ≤ 31 ∧ ∀ x ∈ L, lb x := by
  constructor
  · intro h
    refine ⟨h.1, fun x hx => ?_⟩
    obtain ⟨l, hl, rfl⟩ := pl_mem_g hx
    exact h.2 l hl
  · intro h
    exact ⟨h.1, fun l hl => h.2 _ (pl_g_mem hl)⟩
theorem lbs_drop {L : List pv_Lot} (h : lbs L) : lbs (pl_drop L) := by
  rw [lbs_mem] at h ⊢
  exact ⟨Nat.le_trans (pl_drop_le L) h.1, fun x hx => h.2 x (List.mem_filter.mp hx).1⟩
theorem lbs_set {L : List pv_Lot} {l : Nat} {x : pv_Lot} (h : lbs L) (hl : l < L.length) (hx : lb x) : lbs (L.set l x) := by
  refine ⟨by rw [List.length_set]; exact h.1, fun j hj => ?_⟩
  rw [List.length_set] at hj
  rw [pl_g_set hl]
  by_cases e : j = l
  · rw [if_pos e]; exact hx
  · rw [if_neg e]; exact h.2 j hj
theorem lbs_push {L : List pv_Lot} {x : pv_Lot} (h : lbs L) (hl : L.length < 31) (hx : lb x) : lbs (L ++ [x]) := by
  rw [lbs_mem] at h ⊢
  refine ⟨by simp; omega, fun y hy => ?_⟩
  rcases List.mem_append.mp hy with hy | hy
  · exact h.2 y hy
  · rw [List.mem_singleton.mp hy]; exact hx
theorem ps_all_le {L : List pv_Lot} (h : lbs L) : ps_all L ≤ 62000 := by
  have := pn_sum_le (f := fun l => (pl_g L l).2.2.1) (c := 2000) (n := L.length) (fun i hi => (h.2 i hi).2.2.1)
  have h1 := h.1
  unfold ps_all
  omega
theorem ps_in_le {L : List pv_Lot} {s : Nat} (h : lbs L) : ps_in L s ≤ 62000 := by
  have := pn_sum_le (f := fun l => if (pl_g L l).2.1 = s then (pl_g L l).2.2.1 else 0) (c := 2000) (n := L.length) (fun i hi => by
    show (if (pl_g L i).2.1 = s then (pl_g L i).2.2.1 else 0) ≤ 2000
    have := (h.2 i hi).2.2.1
    split <;> omega)
  have h1 := h.1
  unfold ps_in
  omega
theorem ps_age_le {L : List pv_Lot} (h : lbs L) : ps_age L ≤ 124000000 := by
  have := pn_sum_le (f := fun l => (pl_g L l).2.2.2 * (pl_g L l).2.2.1) (c := 4000000) (n := L.length) (fun i hi => by
    show (pl_g L i).2.2.2 * (pl_g L i).2.2.1 ≤ 4000000
    exact Nat.le_trans (Nat.mul_le_mul (h.2 i hi).2.2.2 (h.2 i hi).2.2.1) (by decide))
  have h1 := h.1
  unfold ps_age
  omega
-- the class's memory: the lots at q
def lc (I : pv_IT) (q l : Nat) (x : pv_Lot) : Prop := I (q + 2) l = nI x.1 ∧ I (q + 4) l = nI x.2.1 ∧ I (q + 6) l = nI x.2.2.1 ∧ I (q + 8) l = nI x.2.2.2
def lt_c (I : pv_IT) (q : Nat) (L : List pv_Lot) : Prop := I q 0 = nI L.length ∧ lbs L ∧ ∀ l, l < L.length → lc I q l (pl_g L l)
theorem lc_of {I I' : pv_IT} {q l : Nat} {x : pv_Lot} (h : lc I q l x) (hF : ∀ k, k = q + 2 ∨ k = q + 4 ∨ k = q + 6 ∨ k = q + 8 → I' k l = I k l) : lc I' q l x :=
  ⟨(hF _ (by omega)).trans h.1, (hF _ (by omega)).trans h.2.1, (hF _ (by omega)).trans h.2.2.1, (hF _ (by omega)).trans h.2.2.2⟩
theorem lt_of {I I' : pv_IT} {q : Nat} {L : List pv_Lot} (h : lt_c I q L) (hF : ∀ k, q ≤ k → k < q + 9 → I' k = I k) : lt_c I' q L :=
  ⟨(congrFun (hF q (by omega) (by omega)) 0).trans h.1, h.2.1, fun l hl => lc_of (h.2.2 l hl) fun k hk => congrFun (hF k (by omega) (by omega)) l⟩
theorem lt_amt {I : pv_IT} {q l v : Nat} {L : List pv_Lot} (h : lt_c I q L) (hl : l < L.length) (hv : v ≤ 2000) : lt_c (pv_uI I (q + 6) l (nI v)) q (L.set l ((pl_g L l).1, (pl_g L l).2.1, v, (pl_g L l).2.2.2)) := by
  obtain ⟨h1, h2, h3⟩ := h
  have hb := h2.2 l hl
  refine ⟨by rw [pv_uI_ne (by omega), List.length_set]; exact h1, lbs_set h2 hl ⟨hb.1, hb.2.1, hv, hb.2.2.2⟩, fun j hj => ?_⟩
  rw [List.length_set] at hj
  rw [pl_g_set hl]
  have h4 := h3 j hj
  unfold lc at h4 ⊢
  by_cases e : j = l
  · subst e
    simp only [pv_uI_at, if_pos rfl]
    simp
    exact ⟨h4.1, h4.2.1, h4.2.2.2⟩
  · rw [if_neg e]
    simp only [pv_uI_at]
    simp [e]
    exact h4
theorem lt_age {I : pv_IT} {q l v : Nat} {L : List pv_Lot} (h : lt_c I q L) (hl : l < L.length) (hv : v ≤ 2000) : lt_c (pv_uI I (q + 8) l (nI v)) q (L.set l ((pl_g L l).1, (pl_g L l).2.1, (pl_g L l).2.2.1, v)) := by
  obtain ⟨h1, h2, h3⟩ := h
  have hb := h2.2 l hl
  refine ⟨by rw [pv_uI_ne (by omega), List.length_set]; exact h1, lbs_set h2 hl ⟨hb.1, hb.2.1, hb.2.2.1, hv⟩, fun j hj => ?_⟩
  rw [List.length_set] at hj
  rw [pl_g_set hl]
  have h4 := h3 j hj
  unfold lc at h4 ⊢
  by_cases e : j = l
  · subst e
    simp only [pv_uI_at, if_pos rfl]
    simp
    exact ⟨h4.1, h4.2.1, h4.2.2.1⟩
  · rw [if_neg e]
    simp only [pv_uI_at]
    simp [e]
    exact h4
theorem lt_sto {I : pv_IT} {q l v : Nat} {L : List pv_Lot} (h : lt_c I q L) (hl : l < L.length) (hv : v < 3) : lt_c (pv_uI I (q + 4) l (nI v)) q (L.set l ((pl_g L l).1, v, (pl_g L l).2.2.1, (pl_g L l).2.2.2)) := by
  obtain ⟨h1, h2, h3⟩ := h
  have hb := h2.2 l hl
  refine ⟨by rw [pv_uI_ne (by omega), List.length_set]; exact h1, lbs_set h2 hl ⟨hb.1, hv, hb.2.2.1, hb.2.2.2⟩, fun j hj => ?_⟩
  rw [List.length_set] at hj
  rw [pl_g_set hl]
  have h4 := h3 j hj
  unfold lc at h4 ⊢
  by_cases e : j = l
  · subst e
    simp only [pv_uI_at, if_pos rfl]
    simp
    exact ⟨h4.1, h4.2.2.1, h4.2.2.2⟩
  · rw [if_neg e]
    simp only [pv_uI_at]
    simp [e]
    exact h4
