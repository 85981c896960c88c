/-! The parts of a ship, as numbers. -/
def oI : Option Nat → Int32
  | none => -1
  | some i => nI i
/-- the first of the numbers below n for which f holds -/
def pf_first (f : Nat → Bool) : Nat → Option Nat
  | 0 => none
  | n + 1 => match pf_first f n with
    | some i => some i
    | none => bif f n then some n else none
theorem pf_none {f : Nat → Bool} : ∀ {n : Nat}, (∀ j, j < n → f j = false) → pf_first f n = none
  | 0, _ => rfl
  | n + 1, h => by
    unfold pf_first
    rw [pf_none (fun j hj => h j (by omega))]
    show (bif f n then some n else none) = none
    rw [h n (by omega)]
    rfl
theorem pf_some {f : Nat → Bool} {i : Nat} : ∀ {n : Nat}, i < n → (∀ j, j < i → f j = false) → f i = true → pf_first f n = some i
  | 0, h, _, _ => absurd h (Nat.not_lt_zero _)
  | n + 1, h, h1, h2 => by
    unfold pf_first
    by_cases e : i < n
    · rw [pf_some e h1 h2]
    · have e2 : i = n := by omega
      subst e2
      rw [pf_none h1]
      show (bif f i then some i else none) = some i
      rw [h2]
      rfl
theorem pf_is {f : Nat → Bool} {i : Nat} : ∀ {n : Nat}, pf_first f n = some i → i < n ∧ f i = true ∧ ∀ j, j < i → f j = false
  | 0, h => by cases h
  | n + 1, h => by
    unfold pf_first at h
    cases e : pf_first f n with
    | some j =>
      rw [e] at h
      cases h
      have := pf_is e
      exact ⟨by omega, this.2⟩
    | none =>
      rw [e] at h
      replace h : (bif f n then some n else none) = some i := h
      cases e2 : f n with
      | false => rw [e2] at h; cases h
      | true =>
        rw [e2] at h
        have hi : n = i := Option.some.inj h
        refine ⟨by omega, hi ▸ e2, fun j hj => ?_⟩
        cases e3 : f j with
        | false => rfl
        | true => exact absurd e (by
            intro e4
            have : ∀ m, m ≤ n → pf_first f m = none → ∀ a, a < m → f a = false := by
              intro m
              induction m with
              | zero => intro _ _ a ha; omega
              | succ m ih =>
                intro hm h5 a ha
                unfold pf_first at h5
                cases h6 : pf_first f m with
                | some x => rw [h6] at h5; cases h5
                | none =>
                  rw [h6] at h5
                  replace h5 : (bif f m then some m else none) = none := h5
                  cases h7 : f m with
                  | true => rw [h7] at h5; cases h5
                  | false =>
                    by_cases h8 : a < m
                    · exact ih (by omega) h6 a h8
                    · have h9 : a = m := by omega
                      subst h9
                      exact h7
            have := this n (Nat.le_refl _) e4 j (by omega)
            rw [e3] at this
            cases this)
theorem pf_isnone {f : Nat → Bool} {n : Nat} (h : pf_first f n = none) : ∀ j, j < n → f j = false := by
  intro j hj
  cases e : f j with
  | false => rfl
  | true =>
    exfalso
    have key : ∀ k, ∃ i, pf_first f (j + 1 + k) = some i := by
      intro k
      induction k with
      | zero =>
        show ∃ i, pf_first f (j + 1) = some i
        unfold pf_first
        cases e2 : pf_first f j with
        | some x => exact ⟨x, rfl⟩
        | none => exact ⟨j, by show (bif f j then some j else none) = some j; rw [e]; rfl⟩
      | succ k ih =>
        obtain ⟨i, hi⟩ := ih
        show ∃ i, pf_first f (j + 1 + k + 1) = some i
        unfold pf_first
        rw [hi]
        exact ⟨i, rfl⟩
    obtain ⟨i, hi⟩ := key (n - (j + 1))
    rw [show j + 1 + (n - (j + 1)) = n by omega, h] at hi
    cases hi
-- objects of the ship in the class's memory
def ck (I : pv_IT) (q : Nat) (T : pv_T) : Prop := I q 0 = nI (T 405) ∧ (∀ i, i < 24 → I (q + 2) i = nI (T i)) ∧ ∀ k, k < 8 → I (q + 4) k = nI (T (24 + 5 * k)) ∧ I (q + 6) k = nI (T (25 + 5 * k)) ∧ I (q + 8) k = nI (T (26 + 5 * k)) ∧ I (q + 10) k = nI (T (27 + 5 * k)) ∧ I (q + 12) k = nI (T (28 + 5 * k))
def cs (I : pv_IT) (q : Nat) (T : pv_T) : Prop := ∀ s, s < 3 → I (q + 2) s = nI (T (64 + s)) ∧ I (q + 4) s = nI (T (67 + s))
def pc (I : pv_IT) (q p : Nat) (x : Nat → Nat) : Prop := I (q + 2) p = nI (x 0) ∧ I (q + 4) p = nI (x 1) ∧ ∀ k, k < 8 → I (q + 6) (p * 8 + k) = nI (x (2 + k))
def pt_p (T : pv_T) (p : Nat) : Nat → Nat := fun w => T (324 + 10 * p + w)
def cp (I : pv_IT) (q : Nat) (T : pv_T) : Prop := I q 0 = nI (T 407) ∧ ∀ p, p < 8 → pc I q p (pt_p T p)
def mic (I : pv_IT) (q : Nat) (T : pv_T) (m i : Nat) : Prop := (i < T (314 + m) → I (q + 2) (m * 4 + i) = nI (T (194 + 12 * m + 3 * i)) ∧ I (q + 4) (m * 4 + i) = nI (T (195 + 12 * m + 3 * i)) ∧ I (q + 6) (m * 4 + i) = nI (T (196 + 12 * m + 3 * i))) ∧ (T (314 + m) ≤ i → I (q + 4) (m * 4 + i) = 0)
def cm (I : pv_IT) (q : Nat) (T : pv_T) : Prop := I q 0 = nI (T 408) ∧ T 408 ≤ 10 ∧ ∀ m, m < T 408 → ∀ i, i < 4 → mic I q T m i
theorem ck_of {I I' : pv_IT} {q : Nat} {T : pv_T} (h : ck I q T) (hF : ∀ k, q ≤ k → k < q + 13 → I' k = I k) : ck I' q T :=
  ⟨(congrFun (hF q (by omega) (by omega)) 0).trans h.1, fun i hi => (congrFun (hF _ (by omega) (by omega)) i).trans (h.2.1 i hi), fun k hk => have h3 := h.2.2 k hk
    ⟨(congrFun (hF _ (by omega) (by omega)) k).trans h3.1, (congrFun (hF _ (by omega) (by omega)) k).trans h3.2.1, (congrFun (hF _ (by omega) (by omega)) k).trans h3.2.2.1, (congrFun (hF _ (by omega) (by omega)) k).trans h3.2.2.2.1, (congrFun (hF _ (by omega) (by omega)) k).trans h3.2.2.2.2⟩⟩
theorem cs_of {I I' : pv_IT} {q : Nat} {T : pv_T} (h : cs I q T) (hF : ∀ k, q ≤ k → k < q + 5 → I' k = I k) : cs I' q T :=
  fun s hs => ⟨(congrFun (hF _ (by omega) (by omega)) s).trans (h s hs).1, (congrFun (hF _ (by omega) (by omega)) s).trans (h s hs).2⟩
theorem pc_of {I I' : pv_IT} {q p : Nat} {x : Nat → Nat} (h : pc I q p x) (h1 : I' (q + 2) p = I (q + 2) p) (h2 : I' (q + 4) p = I (q + 4) p) (h3 : ∀ k, k < 8 → I' (q + 6) (p * 8 + k) = I (q + 6) (p * 8 + k)) : pc I' q p x :=
  ⟨h1.trans h.1, h2.trans h.2.1, fun k hk => (h3 k hk).trans (h.2.2 k hk)⟩
theorem cp_of {I I' : pv_IT} {q : Nat} {T : pv_T} (h : cp I q T) (hF : ∀ k, q ≤ k → k < q + 7 → I' k = I k) : cp I' q T :=
  ⟨(congrFun (hF q (by omega) (by omega)) 0).trans h.1, fun p hp => pc_of (h.2 p hp) (congrFun (hF _ (by omega) (by omega)) _) (congrFun (hF _ (by omega) (by omega)) _) fun k _ => congrFun (hF _ (by omega) (by omega)) _⟩
theorem mic_of {I I' : pv_IT} {q : Nat} {T : pv_T} {m i : Nat} (h : mic I q T m i) (hF : ∀ k, q + 2 ≤ k → k < q + 7 → I' k (m * 4 + i) = I k (m * 4 + i)) : mic I' q T m i :=
  ⟨fun hi => have h1 := h.1 hi
    ⟨(hF _ (by omega) (by omega)).trans h1.1, (hF _ (by omega) (by omega)).trans h1.2.1, (hF _ (by omega) (by omega)).trans h1.2.2⟩, fun hi => (hF _ (by omega) (by omega)).trans (h.2 hi)⟩
theorem cm_of {I I' : pv_IT} {q : Nat} {T : pv_T} (h : cm I q T) (hF : ∀ k, q ≤ k → k < q + 7 → I' k = I k) : cm I' q T :=
  ⟨(congrFun (hF q (by omega) (by omega)) 0).trans h.1, h.2.1, fun m hm i hi => mic_of (h.2.2 m hm i hi) fun k h1 h2 => congrFun (hF k (by omega) (by omega)) _⟩
theorem ck_T {I : pv_IT} {q : Nat} {T T' : pv_T} (h : ck I q T) (hT : ∀ i, i < 64 ∨ i = 405 → T' i = T i) : ck I q T' := by
  refine ⟨by rw [hT 405 (by omega)]; exact h.1, fun i hi => by rw [hT i (by omega)]; exact h.2.1 i hi, fun k hk => ?_⟩
  rw [hT _ (by omega), hT _ (by omega), hT _ (by omega), hT _ (by omega), hT _ (by omega)]
  exact h.2.2 k hk
theorem cs_T {I : pv_IT} {q : Nat} {T T' : pv_T} (h : cs I q T) (hT : ∀ i, 64 ≤ i → i < 70 → T' i = T i) : cs I q T' := fun s hs => by
  rw [hT _ (by omega) (by omega), hT _ (by omega) (by omega)]
  exact h s hs
theorem cp_T {I : pv_IT} {q : Nat} {T T' : pv_T} (h : cp I q T) (hT : ∀ i, 324 ≤ i → i < 404 ∨ i = 407 → T' i = T i) : cp I q T' := by
  refine ⟨by rw [hT _ (by omega) (by omega)]; exact h.1, fun p hp => ?_⟩
  have h1 := h.2 p hp
  unfold pc pt_p at h1 ⊢
  rw [hT _ (by omega) (by omega), hT _ (by omega) (by omega)]
  exact ⟨h1.1, h1.2.1, fun k hk => by rw [hT _ (by omega) (by omega)]; exact h1.2.2 k hk⟩
theorem cm_T {I : pv_IT} {q : Nat} {T T' : pv_T} (h : cm I q T) (hT : ∀ i, (194 ≤ i ∧ i < 324) ∨ i = 408 → T' i = T i) : cm I q T' := by
  have e := hT 408 (by omega)
  obtain ⟨h1, h2, h3⟩ := h
  refine ⟨by rw [e]; exact h1, by rw [e]; exact h2, fun m hm i hi => ?_⟩
  rw [e] at hm
  have h4 := h3 m hm i hi
  unfold mic at h4 ⊢
  rw [hT (314 + m) (by omega), hT (194 + 12 * m + 3 * i) (by omega), hT (195 + 12 * m + 3 * i) (by omega), hT (196 + 12 * m + 3 * i) (by omega)]
  exact h4
-- bounds of the ports
def pw (T : pv_T) : Prop := T 407 ≤ 8 ∧ (∀ p, p < T 407 → T (324 + 10 * p) ≤ 500 ∧ T (325 + 10 * p) ≤ 900 ∧ ∀ k, k < 8 → T (326 + 10 * p + k) ≤ 100) ∧ ∀ a b, a < b → b < T 407 → T (324 + 10 * a) < T (324 + 10 * b)
def pt_on (T : pv_T) (d : Nat) : Option Nat := pf_first (fun p => Nat.beq (T (324 + 10 * p)) d) (T 407)
def pt_aft (T : pv_T) (d : Nat) : Option Nat := pf_first (fun p => Nat.blt d (T (324 + 10 * p))) (T 407)
theorem pb_f {a b : Nat} (h : ¬ a = b) : Nat.beq a b = false := by rw [pv_beq]; simpa using h
theorem pb_t {a b : Nat} (h : a = b) : Nat.beq a b = true := by rw [pv_beq]; simpa using h
theorem pl_f {a b : Nat} (h : b ≤ a) : Nat.blt a b = false := by
  cases e : Nat.blt a b with
  | false => rfl
  | true => exact absurd (Nat.blt_eq.mp e) (by omega)
theorem pl_t {a b : Nat} (h : a < b) : Nat.blt a b = true := Nat.blt_eq.mpr h
def pt_life (T : pv_T) (k s : Nat) : Nat := T (k * 3 + s)
def pt_price (T : pv_T) (p k : Nat) : Nat := T (326 + 10 * p + k)
theorem pc_price {I : pv_IT} {q p k : Nat} {T : pv_T} (h : cp I q T) (hp : p < 8) (hk : k < 8) : I (q + 6) (p * 8 + k) = nI (pt_price T p k) :=
  ((h.2 p hp).2.2 k hk).trans (congrArg nI (congrArg T (by omega)))
theorem pc_day {I : pv_IT} {q p : Nat} {T : pv_T} (h : cp I q T) (hp : p < 8) : I (q + 2) p = nI (T (324 + 10 * p)) := (h.2 p hp).1
theorem pc_stal {I : pv_IT} {q p : Nat} {T : pv_T} (h : cp I q T) (hp : p < 8) : I (q + 4) p = nI (T (325 + 10 * p)) := ((h.2 p hp).2.1).trans (congrArg nI (congrArg T (by omega)))
