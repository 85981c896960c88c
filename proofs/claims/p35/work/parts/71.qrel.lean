/-! The law's own rows against (T, L): d (365), ki (366), lo (367), me (368), po (369). -/
def dT (j : Nat) : Nat := if j = 0 then 405 else if j = 2 then 408 else if j = 3 then 404 else if j < 8 then 405 + j else if j < 14 then 56 + j else if j = 14 then 407 else 299 + j
theorem dT_8 {s : Nat} (h : s < 3) : dT (8 + s) = 64 + s := by unfold dT; repeat' (first | omega | split)
theorem dT_11 {s : Nat} (h : s < 3) : dT (11 + s) = 67 + s := by unfold dT; repeat' (first | omega | split)
theorem dT_15 {m : Nat} : dT (15 + m) = 314 + m := by unfold dT; repeat' (first | omega | split)
theorem dT_inj {i j : Nat} (hi : i < 18) (hj : j < 18) (h : dT i = dT j) : i = j := by
  unfold dT at h
  repeat' (first | omega | split at h)
theorem dT_ge {j : Nat} (h : j < 18) : 64 ≤ dT j ∧ dT j < 413 ∧ ¬ (70 ≤ dT j ∧ dT j < 314) ∧ ¬ (317 ≤ dT j ∧ dT j < 404) := by
  unfold dT
  repeat' (first | omega | split)
def qD (I : pv_IT) (T : pv_T) (n : Nat) : Prop := I 365 1 = nI n ∧ ∀ j, j < 18 → j ≠ 1 → (15 ≤ j → j < 15 + T 408) → I 365 j = nI (T (dT j))
section
variable {I I' : pv_IT} {T T' : pv_T} {n n' : Nat}
theorem qD_0 (h : qD I T n) : I 365 0 = nI (T 405) := h.2 0 (by omega) (by omega) (by omega)
theorem qD_2 (h : qD I T n) : I 365 2 = nI (T 408) := h.2 2 (by omega) (by omega) (by omega)
theorem qD_3 (h : qD I T n) : I 365 3 = nI (T 404) := h.2 3 (by omega) (by omega) (by omega)
theorem qD_4 (h : qD I T n) : I 365 4 = nI (T 409) := h.2 4 (by omega) (by omega) (by omega)
theorem qD_5 (h : qD I T n) : I 365 5 = nI (T 410) := h.2 5 (by omega) (by omega) (by omega)
theorem qD_6 (h : qD I T n) : I 365 6 = nI (T 411) := h.2 6 (by omega) (by omega) (by omega)
theorem qD_7 (h : qD I T n) : I 365 7 = nI (T 412) := h.2 7 (by omega) (by omega) (by omega)
theorem qD_14 (h : qD I T n) : I 365 14 = nI (T 407) := h.2 14 (by omega) (by omega) (by omega)
theorem qD_8 {s : Nat} (h : qD I T n) (hs : s < 3) : I 365 (8 + s) = nI (T (64 + s)) := by
  rw [h.2 (8 + s) (by omega) (by omega) (by omega), dT_8 hs]
theorem qD_11 {s : Nat} (h : qD I T n) (hs : s < 3) : I 365 (11 + s) = nI (T (67 + s)) := by
  rw [h.2 (11 + s) (by omega) (by omega) (by omega), dT_11 hs]
theorem qD_15 {m : Nat} (h : qD I T n) (hm : m < T 408) (h3 : T 408 ≤ 3) : I 365 (15 + m) = nI (T (314 + m)) := by
  rw [h.2 (15 + m) (by omega) (by omega) (by omega), dT_15]
theorem qD_put {j v : Nat} (h : qD I T n) (hj : j < 18) (h1 : j ≠ 1) (h2 : j ≠ 2) : qD (pv_uI I 365 j (nI v)) (pt_up T (dT j) v) n := by
  refine ⟨?_, fun i hi hi1 hm => ?_⟩
  · rw [pv_uI_at, if_neg (by omega)]; exact h.1
  · have e408 : pt_up T (dT j) v 408 = T 408 := pt_un fun e => h2 (dT_inj hj (by omega) (j := 2) e.symm)
    rw [e408] at hm
    rw [pv_uI_at, pt_at]
    by_cases e : i = j
    · subst e
      rw [if_pos ⟨rfl, rfl⟩, if_pos rfl]
    · rw [if_neg (fun q => e q.2), if_neg (fun q => e (dT_inj hi hj q))]
      exact h.2 i hi hi1 hm
theorem qD_n (h : qD I T n) : qD (pv_uI I 365 1 (nI n')) T n' := by
  refine ⟨?_, fun i hi hi1 hm => ?_⟩
  · rw [pv_uI_at, if_pos ⟨rfl, rfl⟩]
  · rw [pv_uI_at, if_neg (fun q => hi1 q.2)]
    exact h.2 i hi hi1 hm
theorem qD_of (h : qD I T n) (hI : I' 365 = I 365) (hT : ∀ j, j < 18 → T' (dT j) = T (dT j)) : qD I' T' n := by
  have e408 : T' 408 = T 408 := hT 2 (by omega)
  refine ⟨by rw [hI]; exact h.1, fun j hj h1 hm => ?_⟩
  rw [e408] at hm
  rw [hI, hT j hj]
  exact h.2 j hj h1 hm
def kT (k w : Nat) : Nat := if w < 3 then 3 * k + w else 21 + 5 * k + w
theorem kT_lt {k w : Nat} (hk : k < 8) (hw : w < 8) : kT k w < 64 := by unfold kT; split <;> omega
theorem kT_inj {k w k' w' : Nat} (hk : k < 8) (hw : w < 8) (hk' : k' < 8) (hw' : w' < 8) (h : kT k w = kT k' w') : k = k' ∧ w = w' := by
  unfold kT at h
  split at h <;> split at h <;> omega
def qK (I : pv_IT) (T : pv_T) : Prop := ∀ k w, k < T 405 → w < 8 → I 366 (8 * k + w) = nI (T (kT k w))
theorem qK_l {k w : Nat} (h : qK I T) (hk : k < T 405) (hw : w < 3) : I 366 (8 * k + w) = nI (T (3 * k + w)) := by
  rw [h k w hk (by omega)]
  unfold kT
  rw [if_pos hw]
theorem qK_c {k w : Nat} (h : qK I T) (hk : k < T 405) (h1 : 3 ≤ w) (hw : w < 8) : I 366 (8 * k + w) = nI (T (21 + 5 * k + w)) := by
  rw [h k w hk hw]
  unfold kT
  rw [if_neg (by omega)]
theorem qK_put {k w v : Nat} (h : qK I T) (hk : k < 8) (hw : w < 8) (h4 : T 405 ≤ 8) : qK (pv_uI I 366 (8 * k + w) (nI v)) (pt_up T (kT k w) v) := by
  intro k' w' hk' hw'
  have e405 : pt_up T (kT k w) v 405 = T 405 := pt_un (by have := kT_lt hk hw; omega)
  rw [e405] at hk'
  rw [pv_uI_at, pt_at]
  by_cases e : k' = k ∧ w' = w
  · obtain ⟨rfl, rfl⟩ := e
    rw [if_pos ⟨rfl, rfl⟩, if_pos rfl]
  · rw [if_neg (fun q => e (by omega)), if_neg (fun q => e (kT_inj (by omega) hw' hk hw q))]
    exact h k' w' hk' hw'
theorem qK_add {k w x : Nat} (h : qK I T) (hk : k < T 405) (h1 : 3 ≤ w) (hw : w < 8) (h4 : T 405 ≤ 8) : qK (pv_uI I 366 (8 * k + w) (I 366 (8 * k + w) + nI x)) (pt_up T (21 + 5 * k + w) (T (21 + 5 * k + w) + x)) := by
  have h2 := qK_put (v := T (21 + 5 * k + w) + x) h (k := k) (w := w) (by omega) hw h4
  have e : kT k w = 21 + 5 * k + w := by unfold kT; rw [if_neg (by omega)]
  rw [e] at h2
  rw [qK_c h hk h1 hw, nI_add]
  exact h2
theorem qK_of (h : qK I T) (hI : I' 366 = I 366) (h405 : T' 405 = T 405) (h8 : T 405 ≤ 8) (hT : ∀ i, i < 64 → T' i = T i) : qK I' T' := by
  intro k w hk hw
  rw [h405] at hk
  rw [hI, hT _ (kT_lt (by omega) hw)]
  exact h k w hk hw
def lo1 (I : pv_IT) (l : Nat) (x : pv_Lot) : Prop := I 367 (4 * l) = nI x.1 ∧ I 367 (4 * l + 1) = nI x.2.1 ∧ I 367 (4 * l + 2) = nI x.2.2.1 ∧ I 367 (4 * l + 3) = nI x.2.2.2
def qL (I : pv_IT) (L : List pv_Lot) : Prop := ∀ l, l < L.length → lo1 I l (pl_g L l)
theorem qL_of {L : List pv_Lot} (h : qL I L) (hI : I' 367 = I 367) : qL I' L := by
  intro l hl
  unfold lo1
  rw [hI]
  exact h l hl
theorem qL_amt {L : List pv_Lot} {l v : Nat} (h : qL I L) (hl : l < L.length) : qL (pv_uI I 367 (4 * l + 2) (nI v)) (pl_amt L l v) := by
  intro j hj
  have hj : j < L.length := by rw [pl_amt_len] at hj; exact hj
  have h1 := h j hj
  unfold pl_amt
  rw [pl_g_set hl]
  unfold lo1 at h1 ⊢
  by_cases e : j = l
  · subst e
    rw [if_pos rfl]
    simp only [pv_uI_at]
    rw [if_neg (by omega), if_neg (by omega), if_pos (by simp), if_neg (by omega)]
    exact ⟨h1.1, h1.2.1, rfl, h1.2.2.2⟩
  · rw [if_neg e]
    simp only [pv_uI_at]
    rw [if_neg (by omega), if_neg (by omega), if_neg (by omega), if_neg (by omega)]
    exact h1
def pl_aged (L : List pv_Lot) (b v : Nat) : List pv_Lot := L.set b ((pl_g L b).1, (pl_g L b).2.1, (pl_g L b).2.2.1, v)
theorem pl_aged_len {L : List pv_Lot} {b v : Nat} : (pl_aged L b v).length = L.length := List.length_set
theorem qL_age {L : List pv_Lot} {l v : Nat} (h : qL I L) (hl : l < L.length) : qL (pv_uI I 367 (4 * l + 3) (nI v)) (pl_aged L l v) := by
  intro j hj
  have hj : j < L.length := by rw [pl_aged_len] at hj; exact hj
  have h1 := h j hj
  unfold pl_aged
  rw [pl_g_set hl]
  unfold lo1 at h1 ⊢
  by_cases e : j = l
  · subst e
    rw [if_pos rfl]
    simp only [pv_uI_at]
    rw [if_neg (by omega), if_neg (by omega), if_neg (by omega), if_pos (by simp)]
    exact ⟨h1.1, h1.2.1, h1.2.2.1, rfl⟩
  · rw [if_neg e]
    simp only [pv_uI_at]
    rw [if_neg (by omega), if_neg (by omega), if_neg (by omega), if_neg (by omega)]
    exact h1
theorem qL_push {L : List pv_Lot} {a b c e : Nat} (h : qL I L) : qL (pv_uI (pv_uI (pv_uI (pv_uI I 367 (4 * L.length) (nI a)) 367 (4 * L.length + 1) (nI b)) 367 (4 * L.length + 2) (nI c)) 367 (4 * L.length + 3) (nI e)) (L ++ [(a, b, c, e)]) := by
  intro j hj
  rw [List.length_append] at hj
  have hj : j < L.length + 1 := hj
  rw [pl_g_push]
  unfold lo1
  by_cases e1 : j < L.length
  · have h1 := h j e1
    unfold lo1 at h1
    rw [if_pos e1]
    simp only [pv_uI_at]
    repeat rw [if_neg (by omega)]
    exact h1
  · have e2 : j = L.length := by omega
    subst e2
    rw [if_neg (by omega), if_pos rfl]
    simp only [pv_uI_at]
    simp
def qM (I : pv_IT) (T : pv_T) : Prop := ∀ m i w, m < T 408 → i < T (314 + m) → w < 3 → I 368 (9 * m + 3 * i + w) = nI (T (194 + 12 * m + 3 * i + w))
theorem qM_of (h : qM I T) (hI : I' 368 = I 368) (h8 : T 408 ≤ 10) (h4 : ∀ m, m < T 408 → T (314 + m) ≤ 4) (hT : ∀ i, (194 ≤ i ∧ i < 324) ∨ i = 408 → T' i = T i) : qM I' T' := by
  intro m i w hm hi hw
  rw [hT 408 (by omega)] at hm
  rw [hT (314 + m) (by omega)] at hi
  have := h4 m hm
  rw [hI, hT _ (by omega)]
  exact h m i w hm hi hw
def qP (I : pv_IT) (T : pv_T) (r : Nat → Nat) : Prop := ∀ p, p < T 407 → I 369 (6 * p) = nI (T (324 + 10 * r p)) ∧ I 369 (6 * p + 1) = nI (T (325 + 10 * r p)) ∧ ∀ k, k < 4 → I 369 (6 * p + 2 + k) = nI (T (326 + 10 * r p + k))
/-- the law's ports are the class's in another order -/
def qR (N : Nat) (r g : Nat → Nat) : Prop := (∀ p, p < N → r p < N ∧ g (r p) = p) ∧ ∀ j, j < N → g j < N ∧ r (g j) = j
theorem qP_of {r : Nat → Nat} (h : qP I T r) (hI : I' 369 = I 369) (h8 : T 407 ≤ 8) (hr : ∀ p, p < T 407 → r p < T 407) (hT : ∀ i, (324 ≤ i ∧ i < 404) ∨ i = 407 → T' i = T i) : qP I' T' r := by
  intro p hp
  rw [hT 407 (by omega)] at hp
  have h1 := h p hp
  have h2 := hr p hp
  rw [hI, hT _ (by omega), hT _ (by omega)]
  refine ⟨h1.1, h1.2.1, fun k hk => ?_⟩
  rw [hT _ (by omega)]
  exact h1.2.2 k hk
end
/-- what is small in the law's ships -/
def qb (T : pv_T) (L : List pv_Lot) : Prop := T 405 ≤ 4 ∧ L.length ≤ 11 ∧ T 408 ≤ 3 ∧ (∀ m, m < T 408 → T (314 + m) ≤ 3) ∧ T 407 ≤ 4
theorem q_life0 {T : pv_T} {k s : Nat} : T (3 * k + (if 0 < 1 then 0 else s)) = pt_life T k 0 := by
  rw [if_pos (by omega)]
  unfold pt_life
  exact congrArg T (by omega)
theorem q_life1 {T : pv_T} {k s : Nat} : T (3 * k + (if 0 < 0 then 0 else s)) = pt_life T k s := by
  rw [if_neg (by omega)]
  unfold pt_life
  exact congrArg T (by omega)
