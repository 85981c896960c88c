/-! Doubles: the mean of whole numbers. -/
theorem fb_tails : FP.Core.b64.tails = 4503599627370496 := by decide
theorem fb_exps : FP.Core.b64.exps = 2048 := by decide
theorem fb_qmin : FP.Core.b64.qmin = -1074 := by decide
theorem fb_qmax : FP.Core.b64.qmax = 971 := by decide
theorem fb_dec {n e t : Nat} (hn : n = e * 4503599627370496 + t) (ht : t < 4503599627370496) (h1 : 1 ≤ e) (h2 : e < 2047) : FP.Core.decode FP.Core.b64 n = .fin false (4503599627370496 + t) ((e : Int) - 1075) := by
  have a1 : n / 4503599627370496 = e := by omega
  have a2 : n % 4503599627370496 = t := by omega
  have a3 : e % 2048 = e := by omega
  have a4 : e / 2048 = 0 := by omega
  unfold FP.Core.decode FP.Core.fieldE FP.Core.fieldT FP.Core.fieldS
  rw [fb_tails, fb_exps, fb_qmin, a1, a2, a3, a4, if_neg (by omega), if_neg (by omega)]
  have a5 : (-1074 : Int) + ((e : Int) - 1) = (e : Int) - 1075 := by omega
  rw [a5]
  rfl
theorem fb_enc {c : Nat} {q : Int} (h : 4503599627370496 ≤ c) : FP.Core.encode FP.Core.b64 (.fin false c q) = ((q + 1074).toNat + 1) * 4503599627370496 + (c - 4503599627370496) := by
  unfold FP.Core.encode FP.Core.assemble
  show (if c < FP.Core.b64.tails then _ else _) = _
  rw [fb_tails, fb_exps, fb_qmin, if_neg (by omega)]
  have : q - (-1074 : Int) = q + 1074 := by omega
  rw [this]
  simp
theorem fb_log {c k : Nat} (h1 : 2 ^ k ≤ c) (h2 : c < 2 ^ (k + 1)) : c.log2 = k := by
  have h0 : c ≠ 0 := by have := Nat.two_pow_pos k; omega
  exact Nat.le_antisymm (Nat.lt_succ_iff.mp ((Nat.log2_lt h0).mpr h2)) ((Nat.le_log2 h0).mpr h1)
theorem fb_lead {c k m : Nat} (h1 : 2 ^ k ≤ c) (h2 : c < 2 ^ (k + 1)) : FP.Core.leading c (2 ^ m) = (k : Int) - m := by
  have e2 : (2 ^ m).log2 = m := fb_log (Nat.le_refl _) (Nat.pow_lt_pow_right (by decide) (by omega))
  unfold FP.Core.leading
  rw [fb_log h1 h2, e2]
  refine if_pos ?_
  rcases Nat.le_total m k with h | h
  · obtain ⟨j, rfl⟩ : ∃ j, k = m + j := ⟨k - m, by omega⟩
    have a1 : ((((m + j : Nat) : Int)) - (m : Int)).toNat = j := by omega
    have a2 : (-((((m + j : Nat) : Int)) - (m : Int))).toNat = 0 := by omega
    rw [a1, a2, ← Nat.pow_add]
    omega
  · obtain ⟨j, rfl⟩ : ∃ j, m = k + j := ⟨m - k, by omega⟩
    have a1 : (((k : Int)) - ((k + j : Nat) : Int)).toNat = 0 := by omega
    have a2 : (-(((k : Int)) - ((k + j : Nat) : Int))).toNat = j := by omega
    rw [a1, a2, Nat.pow_add, Nat.pow_zero, Nat.mul_one]
    exact Nat.mul_le_mul_right _ h1
theorem fb_near {c x : Nat} (hx : 0 < x) : FP.Core.nearest (c * x) x = c := by
  unfold FP.Core.nearest
  rw [Nat.mul_mod_left, Nat.mul_div_cancel _ hx, if_pos (by omega)]
theorem fb_settle {c : Nat} {q : Int} (h2 : c < 9007199254740992) (hq : q ≤ 971) : FP.Core.settle FP.Core.b64 false c q = .fin false c q := by
  unfold FP.Core.settle FP.Core.bound
  have e : (2 : Nat) ^ FP.Core.b64.p = 9007199254740992 := by decide
  rw [e, if_pos h2, fb_qmax, if_pos hq]
theorem fb_rr {c u v : Nat} {e : Int} (h1 : 4503599627370496 ≤ c) (h2 : c < 9007199254740992) (hq : -1074 ≤ (u : Int) - v + e) (hq2 : (u : Int) - v + e ≤ 971) : FP.Core.roundRatio FP.Core.b64 false (c * 2 ^ u) (2 ^ v) e = .fin false c ((u : Int) - v + e) := by
  have hp := Nat.two_pow_pos u
  have hl : FP.Core.leading (c * 2 ^ u) (2 ^ v) = ((52 + u : Nat) : Int) - v := by
    refine fb_lead ?_ ?_
    · rw [Nat.pow_add]
      exact Nat.mul_le_mul_right _ h1
    · rw [show 52 + u + 1 = 53 + u by omega, Nat.pow_add]
      exact Nat.mul_lt_mul_of_pos_right h2 hp
  unfold FP.Core.roundRatio
  rw [if_neg (Nat.ne_of_gt (Nat.mul_pos (by omega) hp))]
  have hqu : FP.Core.quantum FP.Core.b64 (c * 2 ^ u) (2 ^ v) e = (u : Int) - v + e := by
    unfold FP.Core.quantum
    rw [hl, fb_qmin]
    show max (-1074 : Int) (((52 + u : Nat) : Int) - v + e - ((53 : Int) - 1)) = _
    omega
  rw [hqu]
  unfold FP.Core.roundAt FP.Core.unitsNum FP.Core.unitsDen
  have a1 : (e - ((u : Int) - v + e)).toNat = v - u := by omega
  have a2 : ((u : Int) - v + e - e).toNat = u - v := by omega
  rw [a1, a2, Nat.mul_assoc, ← Nat.pow_add, ← Nat.pow_add, show u + (v - u) = v + (u - v) by omega, fb_near (Nat.two_pow_pos _)]
  exact fb_settle h2 hq2
theorem fb_rrT {t j : Nat} (hj : j < 52) (h1 : 2 ^ j ≤ t) (h2 : t < 2 ^ (j + 1)) : FP.Core.roundRatio FP.Core.b64 false t 1 (-52) = .fin false (t * 2 ^ (52 - j)) ((j : Int) - 104) := by
  have hp := Nat.two_pow_pos j
  have hl : FP.Core.leading t (2 ^ 0) = (j : Int) - (0 : Nat) := fb_lead h1 h2
  unfold FP.Core.roundRatio
  rw [if_neg (by omega)]
  have hqu : FP.Core.quantum FP.Core.b64 t 1 (-52) = (j : Int) - 104 := by
    unfold FP.Core.quantum
    rw [show FP.Core.leading t 1 = (j : Int) - (0 : Nat) from hl, fb_qmin]
    show max (-1074 : Int) ((j : Int) - (0 : Nat) + (-52) - ((53 : Int) - 1)) = _
    omega
  rw [hqu]
  unfold FP.Core.roundAt FP.Core.unitsNum FP.Core.unitsDen
  have a1 : (-52 - ((j : Int) - 104)).toNat = 52 - j := by omega
  have a2 : ((j : Int) - 104 - -52).toNat = 0 := by omega
  rw [a1, a2]
  have e3 : FP.Core.nearest (t * 2 ^ (52 - j)) (1 * 2 ^ 0) = t * 2 ^ (52 - j) := by
    have := fb_near (c := t * 2 ^ (52 - j)) (x := 1) (by omega)
    rw [Nat.mul_one] at this
    exact this
  rw [e3]
  refine fb_settle ?_ (by omega)
  have : t * 2 ^ (52 - j) < 2 ^ (j + 1) * 2 ^ (52 - j) := Nat.mul_lt_mul_of_pos_right h2 (Nat.two_pow_pos _)
  rw [← Nat.pow_add, show j + 1 + (52 - j) = 53 by omega] at this
  exact this
theorem fb_dec0 : FP.Core.decode FP.Core.b64 0 = .fin false 0 (-1074) := by
  unfold FP.Core.decode FP.Core.fieldE FP.Core.fieldT FP.Core.fieldS
  rw [fb_tails, fb_exps, fb_qmin, if_neg (by decide), if_pos (by decide)]
  rfl
theorem fb_rr0 {n : Nat} {e : Int} : FP.Core.roundRatio FP.Core.b64 false 0 n e = .fin false 0 (-1074) := by
  unfold FP.Core.roundRatio
  rw [if_pos rfl, fb_qmin]
theorem fb_toL0 : FP.Core.toL (.fin false 0 (-1074)) = 0 := by
  unfold FP.Core.toL FP.Core.toInt FP.Core.truncate FP.Core.signed
  show Int64.ofInt (max (-2 ^ 63) (min (2 ^ 63 - 1) (if false = true then _ else ((0 * 2 ^ (Int.toNat (-1074)) / 2 ^ (Int.toNat (- -1074)) : Nat) : Int)))) = 0
  rw [Nat.zero_mul, Nat.zero_div, if_neg (by decide)]
  decide
/-- a double with biased exponent e and trailing digits t -/
def fbn (e t : Nat) : Nat := e * 4503599627370496 + t
theorem fb_half {e t : Nat} (h1 : 2 ≤ e) (h2 : e < 2047) (ht : t < 4503599627370496) : FP.Core.div FP.Core.b64 (fbn e t) 4611686018427387904 = fbn (e - 1) t := by
  unfold FP.Core.div
  rw [fb_dec (n := fbn e t) rfl ht (by omega) h2, fb_dec (n := 4611686018427387904) (e := 1024) (t := 0) (by decide) (by decide) (by decide) (by decide)]
  show FP.Core.encode FP.Core.b64 (if (4503599627370496 + 0 : Nat) = 0 then (if (4503599627370496 + t : Nat) = 0 then FP.Core.Datum.nan else .inf (false != false)) else FP.Core.roundRatio FP.Core.b64 (false != false) (4503599627370496 + t) (4503599627370496 + 0) (((e : Int) - 1075) - (((1024 : Nat) : Int) - 1075))) = _
  rw [if_neg (by decide)]
  have r := fb_rr (c := 4503599627370496 + t) (u := 0) (v := 52) (e := ((e : Int) - 1075) - (((1024 : Nat) : Int) - 1075)) (by omega) (by omega) (by omega) (by omega)
  rw [Nat.pow_zero, Nat.mul_one] at r
  rw [show (4503599627370496 + 0 : Nat) = 2 ^ 52 by decide]
  refine (congrArg _ r).trans ?_
  rw [fb_enc (by omega)]
  unfold fbn
  omega
theorem fb_dbl {e t : Nat} (h1 : 1 ≤ e) (h2 : e < 2046) (ht : t < 4503599627370496) : FP.Core.mul FP.Core.b64 (fbn e t) 4611686018427387904 = fbn (e + 1) t := by
  unfold FP.Core.mul
  rw [fb_dec (n := fbn e t) rfl ht (by omega) (by omega), fb_dec (n := 4611686018427387904) (e := 1024) (t := 0) (by decide) (by decide) (by decide) (by decide)]
  show FP.Core.encode FP.Core.b64 (FP.Core.roundRatio FP.Core.b64 false ((4503599627370496 + t) * (4503599627370496 + 0)) 1 _) = _
  have r := fb_rr (c := 4503599627370496 + t) (u := 52) (v := 0) (e := ((e : Int) - 1075) + (((1024 : Nat) : Int) - 1075)) (by omega) (by omega) (by omega) (by omega)
  rw [show (4503599627370496 + 0 : Nat) = 2 ^ 52 by decide]
  refine (congrArg _ r).trans ?_
  rw [fb_enc (by omega)]
  unfold fbn
  omega
theorem fb_es {t : Nat} : FP.Core.exactSum (.fin false (4503599627370496 + t) (((1023 : Nat) : Int) - 1075)) (FP.Core.negate (.fin false (4503599627370496 + 0) (((1023 : Nat) : Int) - 1075))) = .fin false t (-52) := by
  unfold FP.Core.negate FP.Core.exactSum FP.Core.sumUnits FP.Core.signed FP.Core.inUnits FP.Core.sumSign
  have a0 : ((((1023 : Nat) : Int) - 1075)) = -52 := by decide
  simp only [a0, Int.min_self, Int.sub_self, Int.toNat_zero, Nat.pow_zero, Nat.mul_one]
  have a1 : (if false = true then -((4503599627370496 + t : Nat) : Int) else ((4503599627370496 + t : Nat) : Int)) + (if (!false) = true then -((4503599627370496 + 0 : Nat) : Int) else ((4503599627370496 + 0 : Nat) : Int)) = (t : Int) := by
    rw [if_neg (by decide), if_pos (by decide)]
    omega
  rw [a1]
  have a2 : (if (t : Int) = 0 then (false && !false) else decide ((t : Int) < 0)) = false := by
    split
    · rfl
    · exact decide_eq_false (by omega)
  rw [a2, Int.natAbs_natCast]
set_option maxRecDepth 100000 in
theorem fb_frac {t : Nat} (ht : t < 4503599627370496) : FP.Core.decode FP.Core.b64 (FP.Core.sub FP.Core.b64 (fbn 1023 t) 4607182418800017408) = (if t = 0 then .fin false 0 (-1074) else FP.Core.roundRatio FP.Core.b64 false t 1 (-52)) := by
  unfold FP.Core.sub
  rw [fb_dec (n := fbn 1023 t) rfl ht (by omega) (by omega), fb_dec (n := 4607182418800017408) (e := 1023) (t := 0) (by decide) (by decide) (by decide) (by decide)]
  rw [fb_es]
  show FP.Core.decode FP.Core.b64 (FP.Core.encode FP.Core.b64 (FP.Core.roundRatio FP.Core.b64 false t 1 (-52))) = _
  by_cases h0 : t = 0
  · subst h0
    rw [if_pos rfl, fb_rr0, show FP.Core.encode FP.Core.b64 (.fin false 0 (-1074)) = 0 by decide, fb_dec0]
  · rw [if_neg h0]
    have hj : t.log2 < 52 := (Nat.log2_lt h0).mpr ht
    have h1 : 2 ^ t.log2 ≤ t := Nat.log2_self_le h0
    have h2 : t < 2 ^ (t.log2 + 1) := Nat.lt_log2_self
    rw [fb_rrT hj h1 h2]
    generalize t.log2 = j at hj h1 h2
    have b1 : 4503599627370496 ≤ t * 2 ^ (52 - j) := by
      have : 2 ^ j * 2 ^ (52 - j) ≤ t * 2 ^ (52 - j) := Nat.mul_le_mul_right _ h1
      rw [← Nat.pow_add, show j + (52 - j) = 52 by omega] at this
      exact this
    have b2 : t * 2 ^ (52 - j) < 9007199254740992 := by
      have : t * 2 ^ (52 - j) < 2 ^ (j + 1) * 2 ^ (52 - j) := Nat.mul_lt_mul_of_pos_right h2 (Nat.two_pow_pos _)
      rw [← Nat.pow_add, show j + 1 + (52 - j) = 53 by omega] at this
      exact this
    rw [fb_enc b1, fb_dec (e := ((j : Int) - 104 + 1074).toNat + 1) (t := t * 2 ^ (52 - j) - 4503599627370496) rfl (by omega) (by omega) (by omega)]
    have a3 : 4503599627370496 + (t * 2 ^ (52 - j) - 4503599627370496) = t * 2 ^ (52 - j) := by omega
    have a4 : (((((j : Int) - 104 + 1074).toNat + 1 : Nat) : Int) - 1075) = (j : Int) - 104 := by omega
    rw [a3, a4]
set_option maxRecDepth 100000 in
theorem fb_all {t : Nat} (ht : t < 4503599627370496) : FP.Core.toL (FP.Core.decode FP.Core.b64 (FP.Core.mul FP.Core.b64 (FP.Core.sub FP.Core.b64 (fbn 1023 t) 4607182418800017408) 4841369599423283200)) = Int64.ofNat t := by
  unfold FP.Core.mul
  rw [fb_frac ht, fb_dec (n := 4841369599423283200) (e := 1075) (t := 0) (by decide) (by decide) (by decide) (by decide)]
  by_cases h0 : t = 0
  · subst h0
    rw [if_pos rfl, show FP.Core.exactProduct (.fin false 0 (-1074)) (.fin false (4503599627370496 + 0) (((1075 : Nat) : Int) - 1075)) = .fin false 0 (-1074) from rfl]
    rw [show FP.Core.round FP.Core.b64 (.fin false 0 (-1074)) = .fin false 0 (-1074) from fb_rr0, show FP.Core.encode FP.Core.b64 (.fin false 0 (-1074)) = 0 by decide, fb_dec0, fb_toL0]
    rfl
  · rw [if_neg h0]
    have hj : t.log2 < 52 := (Nat.log2_lt h0).mpr ht
    have h1 : 2 ^ t.log2 ≤ t := Nat.log2_self_le h0
    have h2 : t < 2 ^ (t.log2 + 1) := Nat.lt_log2_self
    rw [fb_rrT hj h1 h2]
    generalize t.log2 = j at hj h1 h2
    have b1 : 4503599627370496 ≤ t * 2 ^ (52 - j) := by
      have : 2 ^ j * 2 ^ (52 - j) ≤ t * 2 ^ (52 - j) := Nat.mul_le_mul_right _ h1
      rw [← Nat.pow_add, show j + (52 - j) = 52 by omega] at this
      exact this
    have b2 : t * 2 ^ (52 - j) < 9007199254740992 := by
      have : t * 2 ^ (52 - j) < 2 ^ (j + 1) * 2 ^ (52 - j) := Nat.mul_lt_mul_of_pos_right h2 (Nat.two_pow_pos _)
      rw [← Nat.pow_add, show j + 1 + (52 - j) = 53 by omega] at this
      exact this
    have r := fb_rr (c := t * 2 ^ (52 - j)) (u := 52) (v := 0) (e := ((j : Int) - 104) + (((1075 : Nat) : Int) - 1075)) b1 b2 (by omega) (by omega)
    rw [show FP.Core.exactProduct (.fin false (t * 2 ^ (52 - j)) ((j : Int) - 104)) (.fin false (4503599627370496 + 0) (((1075 : Nat) : Int) - 1075)) = .fin false (t * 2 ^ (52 - j) * 2 ^ 52) (((j : Int) - 104) + (((1075 : Nat) : Int) - 1075)) from rfl]
    rw [show FP.Core.round FP.Core.b64 (.fin false (t * 2 ^ (52 - j) * 2 ^ 52) (((j : Int) - 104) + (((1075 : Nat) : Int) - 1075))) = _ from r]
    have hq : ((52 : Nat) : Int) - ((0 : Nat) : Int) + (((j : Int) - 104) + (((1075 : Nat) : Int) - 1075)) = (j : Int) - 52 := by omega
    rw [hq, fb_enc b1, fb_dec (e := ((j : Int) - 52 + 1074).toNat + 1) (t := t * 2 ^ (52 - j) - 4503599627370496) rfl (by omega) (by omega) (by omega)]
    unfold FP.Core.toL FP.Core.toInt FP.Core.truncate FP.Core.signed
    have a1 : ((((((j : Int) - 52 + 1074).toNat + 1 : Nat) : Int) - 1075)).toNat = 0 := by omega
    have a2 : (-(((((j : Int) - 52 + 1074).toNat + 1 : Nat) : Int) - 1075)).toNat = 52 - j := by omega
    have a3 : 4503599627370496 + (t * 2 ^ (52 - j) - 4503599627370496) = t * 2 ^ (52 - j) := by omega
    show Int64.ofInt (max (-2 ^ 63) (min (2 ^ 63 - 1) (if false = true then _ else (((4503599627370496 + (t * 2 ^ (52 - j) - 4503599627370496)) * 2 ^ _ / 2 ^ _ : Nat) : Int)))) = _
    rw [a1, a2, a3, if_neg (by decide), Nat.pow_zero, Nat.mul_one, Nat.mul_div_cancel _ (Nat.two_pow_pos _)]
    have a4 : max (-2 ^ 63 : Int) (min (2 ^ 63 - 1) (t : Int)) = t := by omega
    rw [a4]
    rfl
-- a quotient of whole numbers
set_option maxRecDepth 100000 in
theorem fb_wr {s j : Nat} (hj : j ≤ 52) (h1 : 2 ^ j ≤ s) (h2 : s < 2 ^ (j + 1)) : FP.Core.round FP.Core.b64 (FP.Core.ofInt (s : Int)) = .fin false (s * 2 ^ (52 - j)) ((j : Int) - 52) := by
  have hp := Nat.two_pow_pos j
  have hl : FP.Core.leading s (2 ^ 0) = (j : Int) - (0 : Nat) := fb_lead h1 h2
  have b1 : 4503599627370496 ≤ s * 2 ^ (52 - j) := by
    have : 2 ^ j * 2 ^ (52 - j) ≤ s * 2 ^ (52 - j) := Nat.mul_le_mul_right _ h1
    rw [← Nat.pow_add, show j + (52 - j) = 52 by omega] at this
    exact this
  have b2 : s * 2 ^ (52 - j) < 9007199254740992 := by
    have : s * 2 ^ (52 - j) < 2 ^ (j + 1) * 2 ^ (52 - j) := Nat.mul_lt_mul_of_pos_right h2 (Nat.two_pow_pos _)
    rw [← Nat.pow_add, show j + 1 + (52 - j) = 53 by omega] at this
    exact this
  have hr : FP.Core.roundRatio FP.Core.b64 false s 1 0 = .fin false (s * 2 ^ (52 - j)) ((j : Int) - 52) := by
    unfold FP.Core.roundRatio
    rw [if_neg (by omega)]
    have hqu : FP.Core.quantum FP.Core.b64 s 1 0 = (j : Int) - 52 := by
      unfold FP.Core.quantum
      rw [show FP.Core.leading s 1 = (j : Int) - (0 : Nat) from hl, fb_qmin]
      show max (-1074 : Int) ((j : Int) - (0 : Nat) + 0 - ((53 : Int) - 1)) = _
      omega
    rw [hqu]
    unfold FP.Core.roundAt FP.Core.unitsNum FP.Core.unitsDen
    have a1 : (0 - ((j : Int) - 52)).toNat = 52 - j := by omega
    have a2 : ((j : Int) - 52 - 0).toNat = 0 := by omega
    rw [a1, a2]
    have e3 : FP.Core.nearest (s * 2 ^ (52 - j)) (1 * 2 ^ 0) = s * 2 ^ (52 - j) := by
      have := fb_near (c := s * 2 ^ (52 - j)) (x := 1) (by omega)
      rw [Nat.mul_one] at this
      exact this
    rw [e3]
    exact fb_settle b2 (by omega)
  have hi : FP.Core.round FP.Core.b64 (FP.Core.ofInt (s : Int)) = FP.Core.roundRatio FP.Core.b64 false s 1 0 := by
    unfold FP.Core.ofInt
    rw [show decide ((s : Int) < 0) = false from decide_eq_false (by omega), Int.natAbs_natCast]
    rfl
  exact hi.trans hr
set_option maxRecDepth 100000 in
theorem fb_whole {s j : Nat} (hj : j ≤ 52) (h1 : 2 ^ j ≤ s) (h2 : s < 2 ^ (j + 1)) : FP.Core.decode FP.Core.b64 (FP.Core.fromInt FP.Core.b64 (s : Int)) = .fin false (s * 2 ^ (52 - j)) ((j : Int) - 52) := by
  have hp := Nat.two_pow_pos j
  have hl : FP.Core.leading s (2 ^ 0) = (j : Int) - (0 : Nat) := fb_lead h1 h2
  have b1 : 4503599627370496 ≤ s * 2 ^ (52 - j) := by
    have : 2 ^ j * 2 ^ (52 - j) ≤ s * 2 ^ (52 - j) := Nat.mul_le_mul_right _ h1
    rw [← Nat.pow_add, show j + (52 - j) = 52 by omega] at this
    exact this
  have b2 : s * 2 ^ (52 - j) < 9007199254740992 := by
    have : s * 2 ^ (52 - j) < 2 ^ (j + 1) * 2 ^ (52 - j) := Nat.mul_lt_mul_of_pos_right h2 (Nat.two_pow_pos _)
    rw [← Nat.pow_add, show j + 1 + (52 - j) = 53 by omega] at this
    exact this
  unfold FP.Core.fromInt
  rw [fb_wr hj h1 h2, fb_enc b1, fb_dec (e := ((j : Int) - 52 + 1074).toNat + 1) (t := s * 2 ^ (52 - j) - 4503599627370496) rfl (by omega) (by omega) (by omega)]
  have a3 : 4503599627370496 + (s * 2 ^ (52 - j) - 4503599627370496) = s * 2 ^ (52 - j) := by omega
  have a4 : (((((j : Int) - 52 + 1074).toNat + 1 : Nat) : Int) - 1075) = (j : Int) - 52 := by omega
  rw [a3, a4]
set_option maxRecDepth 100000 in
theorem fb_near2 {n x : Nat} (hx : 0 < x) (h1 : x * 4503599627370496 ≤ n) (h2 : n < x * 9007199254740992) : 4503599627370496 ≤ FP.Core.nearest n x ∧ FP.Core.nearest n x ≤ 9007199254740992 := by
  have g1 : 4503599627370496 ≤ n / x := (Nat.le_div_iff_mul_le hx).mpr (by rw [Nat.mul_comm]; exact h1)
  have g2 : n / x < 9007199254740992 := (Nat.div_lt_iff_lt_mul hx).mpr (by rw [Nat.mul_comm]; exact h2)
  unfold FP.Core.nearest
  split
  · omega
  · split
    · omega
    · omega
set_option maxRecDepth 100000 in
theorem fb_quot {c d : Nat} {e : Int} (hc1 : 4503599627370496 ≤ c) (hc2 : c < 9007199254740992) (hd1 : 4503599627370496 ≤ d) (hd2 : d < 9007199254740992) (he1 : -500 ≤ e) (he2 : e ≤ 500) :
    ∃ E t : Nat, FP.Core.encode FP.Core.b64 (FP.Core.roundRatio FP.Core.b64 false c d e) = fbn E t ∧ t < 4503599627370496 ∧ (E : Int) ≤ e + 1024 ∧ e + 1022 ≤ (E : Int) := by
  have hlog : c.log2 = 52 := fb_log (k := 52) hc1 hc2
  have hlog2 : d.log2 = 52 := fb_log (k := 52) hd1 hd2
  have hl : FP.Core.leading c d = if d ≤ c then 0 else -1 := by
    unfold FP.Core.leading
    rw [hlog, hlog2]
    show (if d * 2 ^ 0 ≤ c * 2 ^ 0 then (0 : Int) else 0 - 1) = _
    by_cases h : d ≤ c
    · rw [if_pos h]; exact if_pos (by rw [Nat.pow_zero]; omega)
    · rw [if_neg h]; exact if_neg (by rw [Nat.pow_zero]; omega)
  unfold FP.Core.roundRatio
  rw [if_neg (by omega)]
  have fin : ∀ q : Int, ∀ m : Nat, q = e - 52 ∨ q = e - 53 → 4503599627370496 ≤ m → m ≤ 9007199254740992 → ∃ E t : Nat, FP.Core.encode FP.Core.b64 (FP.Core.settle FP.Core.b64 false m q) = fbn E t ∧ t < 4503599627370496 ∧ (E : Int) ≤ q + 1076 ∧ q + 1075 ≤ (E : Int) := by
    intro q m hq h1 h2
    by_cases h3 : m < 9007199254740992
    · rw [fb_settle h3 (by omega), fb_enc h1]
      exact ⟨(q + 1074).toNat + 1, m - 4503599627370496, rfl, by omega, by omega, by omega⟩
    · have h4 : m = 9007199254740992 := by omega
      subst h4
      have e5 : FP.Core.settle FP.Core.b64 false 9007199254740992 q = .fin false 4503599627370496 (q + 1) := by
        unfold FP.Core.settle FP.Core.bound
        have e6 : (2 : Nat) ^ FP.Core.b64.p = 9007199254740992 := by decide
        rw [e6, if_neg (by omega), fb_qmax, fb_tails, if_pos (by omega)]
      rw [e5, fb_enc (Nat.le_refl _)]
      exact ⟨(q + 1 + 1074).toNat + 1, 4503599627370496 - 4503599627370496, rfl, by omega, by omega, by omega⟩
  by_cases h : d ≤ c
  · rw [if_pos h] at hl
    have hqu : FP.Core.quantum FP.Core.b64 c d e = e - 52 := by
      unfold FP.Core.quantum
      rw [hl, fb_qmin]
      show max (-1074 : Int) (0 + e - ((53 : Int) - 1)) = _
      omega
    rw [hqu]
    unfold FP.Core.roundAt FP.Core.unitsNum FP.Core.unitsDen
    have a1 : (e - (e - 52)).toNat = 52 := by omega
    have a2 : (e - 52 - e).toNat = 0 := by omega
    rw [a1, a2, Nat.pow_zero, Nat.mul_one]
    have hn := fb_near2 (n := c * 2 ^ 52) (x := d) (by omega) (Nat.mul_le_mul_right _ h) (by
      have : c * 4503599627370496 < d * 9007199254740992 := by omega
      exact this)
    obtain ⟨E, t, g1, g2, g3, g4⟩ := fin (e - 52) _ (Or.inl rfl) hn.1 hn.2
    exact ⟨E, t, g1, g2, by omega, by omega⟩
  · rw [if_neg h] at hl
    have hqu : FP.Core.quantum FP.Core.b64 c d e = e - 53 := by
      unfold FP.Core.quantum
      rw [hl, fb_qmin]
      show max (-1074 : Int) (-1 + e - ((53 : Int) - 1)) = _
      omega
    rw [hqu]
    unfold FP.Core.roundAt FP.Core.unitsNum FP.Core.unitsDen
    have a1 : (e - (e - 53)).toNat = 53 := by omega
    have a2 : (e - 53 - e).toNat = 0 := by omega
    rw [a1, a2, Nat.pow_zero, Nat.mul_one]
    have hn := fb_near2 (n := c * 2 ^ 53) (x := d) (by omega) (by
      have : d * 4503599627370496 ≤ c * 9007199254740992 := by omega
      exact this) (Nat.mul_lt_mul_of_pos_right (by omega) (by decide))
    obtain ⟨E, t, g1, g2, g3, g4⟩ := fin (e - 53) _ (Or.inr rfl) hn.1 hn.2
    exact ⟨E, t, g1, g2, by omega, by omega⟩
theorem fb_cmp_lt {e t e0 : Nat} (h1 : 1 ≤ e) (h2 : e < e0) (h3 : e0 < 2047) (ht : t < 4503599627370496) : FP.Core.cmp FP.Core.b64 (fbn e t) (fbn e0 0) = some .lt := by
  unfold FP.Core.cmp
  rw [fb_dec (n := fbn e t) rfl ht (by omega) (by omega), fb_dec (n := fbn e0 0) (e := e0) (t := 0) rfl (by decide) (by omega) (by omega)]
  unfold FP.Core.order FP.Core.inUnits FP.Core.signed
  have a0 : min ((e : Int) - 1075) ((e0 : Int) - 1075) = (e : Int) - 1075 := by omega
  have a1 : ((e : Int) - 1075 - ((e : Int) - 1075)).toNat = 0 := by omega
  have a2 : ((e0 : Int) - 1075 - ((e : Int) - 1075)).toNat = e0 - e := by omega
  simp only [a0, a1, a2, Nat.pow_zero, Nat.mul_one]
  refine congrArg some ?_
  refine Int.compare_eq_lt.mpr ?_
  have h5 : 2 ^ 1 ≤ 2 ^ (e0 - e) := Nat.pow_le_pow_right (by decide) (by omega)
  have h6 : 4503599627370496 * 2 ^ 1 ≤ 4503599627370496 * 2 ^ (e0 - e) := Nat.mul_le_mul_left _ h5
  rw [if_neg (by decide), if_neg (by decide)]
  omega
theorem fb_cmp_ge {e t e0 : Nat} (h1 : e0 ≤ e) (h2 : e < 2047) (h3 : 1 ≤ e0) (ht : t < 4503599627370496) : FP.Core.cmp FP.Core.b64 (fbn e t) (fbn e0 0) = some .eq ∨ FP.Core.cmp FP.Core.b64 (fbn e t) (fbn e0 0) = some .gt := by
  unfold FP.Core.cmp
  rw [fb_dec (n := fbn e t) rfl ht (by omega) (by omega), fb_dec (n := fbn e0 0) (e := e0) (t := 0) rfl (by decide) (by omega) (by omega)]
  unfold FP.Core.order FP.Core.inUnits FP.Core.signed
  have a0 : min ((e : Int) - 1075) ((e0 : Int) - 1075) = (e0 : Int) - 1075 := by omega
  have a1 : ((e : Int) - 1075 - ((e0 : Int) - 1075)).toNat = e - e0 := by omega
  have a2 : ((e0 : Int) - 1075 - ((e0 : Int) - 1075)).toNat = 0 := by omega
  simp only [a0, a1, a2, Nat.pow_zero, Nat.mul_one]
  have h5 : 2 ^ 0 ≤ 2 ^ (e - e0) := Nat.pow_le_pow_right (by decide) (by omega)
  have h6 : (4503599627370496 + t) * 2 ^ 0 ≤ (4503599627370496 + t) * 2 ^ (e - e0) := Nat.mul_le_mul_left _ h5
  rw [if_neg (by decide), if_neg (by decide)]
  generalize (4503599627370496 + t) * 2 ^ (e - e0) = c at h6 ⊢
  rcases Nat.lt_or_ge 4503599627370496 c with h7 | h7
  · exact Or.inr (congrArg some (Int.compare_eq_gt.mpr (by omega)))
  · exact Or.inl (congrArg some (Int.compare_eq_eq.mpr (by omega)))
theorem fb_cmp_0 {e t : Nat} (h1 : 1 ≤ e) (h2 : e < 2047) (ht : t < 4503599627370496) : FP.Core.cmp FP.Core.b64 (fbn e t) 0 = some .gt := by
  unfold FP.Core.cmp
  rw [fb_dec (n := fbn e t) rfl ht (by omega) (by omega), fb_dec0]
  unfold FP.Core.order FP.Core.inUnits FP.Core.signed
  have a0 : min ((e : Int) - 1075) (-1074) = (-1074) := by omega
  simp only [a0]
  refine congrArg some ?_
  refine Int.compare_eq_gt.mpr ?_
  rw [if_neg (by decide), if_neg (by decide), Nat.zero_mul]
  have h6 := Nat.mul_pos (show 0 < 4503599627370496 + t by omega) (Nat.two_pow_pos ((e : Int) - 1075 - -1074).toNat)
  omega
theorem fb_cmp_00 : FP.Core.cmp FP.Core.b64 0 0 = some .eq := by
  unfold FP.Core.cmp
  rw [fb_dec0]
  unfold FP.Core.order FP.Core.inUnits FP.Core.signed
  simp only [Nat.zero_mul]
  rfl
theorem fb_cmp_self {e t : Nat} (h1 : 1 ≤ e) (h2 : e < 2047) (ht : t < 4503599627370496) : FP.Core.cmp FP.Core.b64 (fbn e t) (fbn e t) = some .eq := by
  unfold FP.Core.cmp
  rw [fb_dec (n := fbn e t) rfl ht (by omega) (by omega)]
  unfold FP.Core.order
  exact congrArg some (Int.compare_eq_eq.mpr rfl)
-- on the bits
def fbu (e t : Nat) : UInt64 := UInt64.ofNat (fbn e t)
theorem fbu_nat {e t : Nat} (h2 : e < 2047) (ht : t < 4503599627370496) : (fbu e t).toNat = fbn e t := by
  unfold fbu
  rw [UInt64.toNat_ofNat']
  exact Nat.mod_eq_of_lt (by unfold fbn; omega)
theorem fbu_half {e t : Nat} (h1 : 2 ≤ e) (h2 : e < 2047) (ht : t < 4503599627370496) : FP.ddiv (fbu e t) 4611686018427387904 = fbu (e - 1) t := by
  show UInt64.ofNat (FP.Core.div FP.Core.b64 (fbu e t).toNat 4611686018427387904) = _
  rw [fbu_nat h2 ht, fb_half h1 h2 ht]
  rfl
theorem fbu_dbl {e t : Nat} (h1 : 1 ≤ e) (h2 : e < 2046) (ht : t < 4503599627370496) : FP.dmul (fbu e t) 4611686018427387904 = fbu (e + 1) t := by
  show UInt64.ofNat (FP.Core.mul FP.Core.b64 (fbu e t).toNat 4611686018427387904) = _
  rw [fbu_nat (by omega) ht, fb_dbl h1 h2 ht]
  rfl
theorem fbu_0 {e t : Nat} (h1 : 1 ≤ e) (h2 : e < 2047) (ht : t < 4503599627370496) : FP.dcmp (fbu e t) FP.dconst0 = some .gt := by
  show FP.Core.cmp FP.Core.b64 (fbu e t).toNat 0 = _
  rw [fbu_nat h2 ht, fb_cmp_0 h1 h2 ht]
theorem fbu_lt2 {e t : Nat} (h1 : 1 ≤ e) (h2 : e < 1024) (ht : t < 4503599627370496) : FP.dcmp (fbu e t) 4611686018427387904 = some .lt := by
  show FP.Core.cmp FP.Core.b64 (fbu e t).toNat (fbn 1024 0) = _
  rw [fbu_nat (by omega) ht, fb_cmp_lt h1 h2 (by decide) ht]
theorem fbu_ge2 {e t : Nat} (h1 : 1024 ≤ e) (h2 : e < 2047) (ht : t < 4503599627370496) : FP.dcmp (fbu e t) 4611686018427387904 = some .eq ∨ FP.dcmp (fbu e t) 4611686018427387904 = some .gt := by
  have h := fb_cmp_ge (e0 := 1024) h1 h2 (by decide) ht
  rw [← fbu_nat h2 ht] at h
  exact h
theorem fbu_lt1 {e t : Nat} (h1 : 1 ≤ e) (h2 : e < 1023) (ht : t < 4503599627370496) : FP.dcmp (fbu e t) FP.dconst1 = some .lt := by
  show FP.Core.cmp FP.Core.b64 (fbu e t).toNat (fbn 1023 0) = _
  rw [fbu_nat (by omega) ht, fb_cmp_lt h1 h2 (by decide) ht]
theorem fbu_ge1 {e t : Nat} (h1 : 1023 ≤ e) (h2 : e < 2047) (ht : t < 4503599627370496) : FP.dcmp (fbu e t) FP.dconst1 = some .eq ∨ FP.dcmp (fbu e t) FP.dconst1 = some .gt := by
  have h := fb_cmp_ge (e0 := 1023) h1 h2 (by decide) ht
  rw [← fbu_nat h2 ht] at h
  exact h
theorem fbu_self {e t : Nat} (h1 : 1 ≤ e) (h2 : e < 2047) (ht : t < 4503599627370496) : FP.dcmp (fbu e t) (fbu e t) = some .eq := by
  show FP.Core.cmp FP.Core.b64 (fbu e t).toNat (fbu e t).toNat = _
  rw [fbu_nat h2 ht, fb_cmp_self h1 h2 ht]
theorem fb_enc_lt {c : Nat} {q : Int} (h1 : 4503599627370496 ≤ c) (h2 : c < 9007199254740992) (hq : q ≤ 971) : FP.Core.encode FP.Core.b64 (.fin false c q) < 9218868437227405312 := by
  rw [fb_enc h1]
  omega
theorem fb_sub_eq {t : Nat} (ht : t < 4503599627370496) : FP.Core.sub FP.Core.b64 (fbn 1023 t) 4607182418800017408 = FP.Core.encode FP.Core.b64 (FP.Core.roundRatio FP.Core.b64 false t 1 (-52)) := by
  unfold FP.Core.sub
  rw [fb_dec (n := fbn 1023 t) rfl ht (by omega) (by omega), fb_dec (n := 4607182418800017408) (e := 1023) (t := 0) (by decide) (by decide) (by decide) (by decide)]
  rw [fb_es]
  rfl
set_option maxRecDepth 100000 in
theorem fb_sub_lt {t : Nat} (ht : t < 4503599627370496) : FP.Core.sub FP.Core.b64 (fbn 1023 t) 4607182418800017408 < 9218868437227405312 ∧ FP.Core.mul FP.Core.b64 (FP.Core.sub FP.Core.b64 (fbn 1023 t) 4607182418800017408) 4841369599423283200 < 9218868437227405312 := by
  by_cases h0 : t = 0
  · subst h0
    have e0 : FP.Core.sub FP.Core.b64 (fbn 1023 0) 4607182418800017408 = 0 := by
      rw [fb_sub_eq (by decide), fb_rr0]
      decide
    rw [e0]
    refine ⟨by decide, ?_⟩
    unfold FP.Core.mul
    rw [fb_dec0, fb_dec (n := 4841369599423283200) (e := 1075) (t := 0) (by decide) (by decide) (by decide) (by decide)]
    rw [show FP.Core.exactProduct (.fin false 0 (-1074)) (.fin false (4503599627370496 + 0) (((1075 : Nat) : Int) - 1075)) = .fin false 0 (-1074) from rfl]
    rw [show FP.Core.round FP.Core.b64 (.fin false 0 (-1074)) = .fin false 0 (-1074) from fb_rr0]
    decide
  · have hj : t.log2 < 52 := (Nat.log2_lt h0).mpr ht
    have h1 : 2 ^ t.log2 ≤ t := Nat.log2_self_le h0
    have h2 : t < 2 ^ (t.log2 + 1) := Nat.lt_log2_self
    have hf := fb_frac ht
    rw [if_neg h0, fb_rrT hj h1 h2] at hf
    have hse := fb_sub_eq ht
    rw [fb_rrT hj h1 h2] at hse
    generalize t.log2 = j at hj h1 h2 hf hse
    have b1 : 4503599627370496 ≤ t * 2 ^ (52 - j) := by
      have : 2 ^ j * 2 ^ (52 - j) ≤ t * 2 ^ (52 - j) := Nat.mul_le_mul_right _ h1
      rw [← Nat.pow_add, show j + (52 - j) = 52 by omega] at this
      exact this
    have b2 : t * 2 ^ (52 - j) < 9007199254740992 := by
      have : t * 2 ^ (52 - j) < 2 ^ (j + 1) * 2 ^ (52 - j) := Nat.mul_lt_mul_of_pos_right h2 (Nat.two_pow_pos _)
      rw [← Nat.pow_add, show j + 1 + (52 - j) = 53 by omega] at this
      exact this
    refine ⟨by rw [hse]; exact fb_enc_lt b1 b2 (by omega), ?_⟩
    unfold FP.Core.mul
    rw [hf, fb_dec (n := 4841369599423283200) (e := 1075) (t := 0) (by decide) (by decide) (by decide) (by decide)]
    have r := fb_rr (c := t * 2 ^ (52 - j)) (u := 52) (v := 0) (e := ((j : Int) - 104) + (((1075 : Nat) : Int) - 1075)) b1 b2 (by omega) (by omega)
    rw [show FP.Core.exactProduct (.fin false (t * 2 ^ (52 - j)) ((j : Int) - 104)) (.fin false (4503599627370496 + 0) (((1075 : Nat) : Int) - 1075)) = .fin false (t * 2 ^ (52 - j) * 2 ^ 52) (((j : Int) - 104) + (((1075 : Nat) : Int) - 1075)) from rfl]
    rw [show FP.Core.round FP.Core.b64 (.fin false (t * 2 ^ (52 - j) * 2 ^ 52) (((j : Int) - 104) + (((1075 : Nat) : Int) - 1075))) = _ from r]
    exact fb_enc_lt b1 b2 (by omega)
theorem fbu_frac {t : Nat} (ht : t < 4503599627370496) : FP.d2l (FP.dmul (FP.dsub (fbu 1023 t) FP.dconst1) 4841369599423283200) = Int64.ofNat t := by
  have h := fb_all ht
  have hs := fb_sub_lt ht
  show FP.Core.toL (FP.Core.decode FP.Core.b64 (UInt64.ofNat (FP.Core.mul FP.Core.b64 (UInt64.ofNat (FP.Core.sub FP.Core.b64 (fbu 1023 t).toNat 4607182418800017408)).toNat 4841369599423283200)).toNat) = _
  have e : ∀ a : Nat, a < 18446744073709551616 → (UInt64.ofNat a).toNat = a := fun a ha => by rw [UInt64.toNat_ofNat']; exact Nat.mod_eq_of_lt ha
  rw [fbu_nat (by omega) ht, e _ (Nat.lt_trans hs.1 (by decide)), e _ (Nat.lt_trans hs.2 (by decide))]
  exact h
theorem fb_mean {s r : Nat} (hs1 : 1 ≤ s) (hs2 : s < 134217728) (hr1 : 1 ≤ r) (hr2 : r < 131072) : ∃ E t : Nat, t < 4503599627370496 ∧ 1005 ≤ E ∧ E ≤ 1051 ∧ FP.Core.div FP.Core.b64 (FP.Core.fromInt FP.Core.b64 (s : Int)) (FP.Core.fromInt FP.Core.b64 (r : Int)) = fbn E t := by
  have hjs : s.log2 < 27 := (Nat.log2_lt (by omega)).mpr hs2
  have hjr : r.log2 < 17 := (Nat.log2_lt (by omega)).mpr hr2
  have s1 : 2 ^ s.log2 ≤ s := Nat.log2_self_le (by omega)
  have s2 : s < 2 ^ (s.log2 + 1) := Nat.lt_log2_self
  have r1 : 2 ^ r.log2 ≤ r := Nat.log2_self_le (by omega)
  have r2 : r < 2 ^ (r.log2 + 1) := Nat.lt_log2_self
  generalize s.log2 = j at *
  generalize r.log2 = k at *
  unfold FP.Core.div
  rw [fb_whole (by omega) s1 s2, fb_whole (by omega) r1 r2]
  have bb : ∀ {x i : Nat}, i ≤ 52 → 2 ^ i ≤ x → x < 2 ^ (i + 1) → 4503599627370496 ≤ x * 2 ^ (52 - i) ∧ x * 2 ^ (52 - i) < 9007199254740992 := by
    intro x i hi h1 h2
    constructor
    · have : 2 ^ i * 2 ^ (52 - i) ≤ x * 2 ^ (52 - i) := Nat.mul_le_mul_right _ h1
      rw [← Nat.pow_add, show i + (52 - i) = 52 by omega] at this
      exact this
    · have : x * 2 ^ (52 - i) < 2 ^ (i + 1) * 2 ^ (52 - i) := Nat.mul_lt_mul_of_pos_right h2 (Nat.two_pow_pos _)
      rw [← Nat.pow_add, show i + 1 + (52 - i) = 53 by omega] at this
      exact this
  have bs := bb (by omega) s1 s2
  have br := bb (by omega) r1 r2
  obtain ⟨E, t, g1, g2, g3, g4⟩ := fb_quot (e := ((j : Int) - 52) - ((k : Int) - 52)) bs.1 bs.2 br.1 br.2 (by omega) (by omega)
  refine ⟨E, t, g2, by omega, by omega, ?_⟩
  have hq : FP.Core.quotient FP.Core.b64 (.fin false (s * 2 ^ (52 - j)) ((j : Int) - 52)) (.fin false (r * 2 ^ (52 - k)) ((k : Int) - 52)) = FP.Core.roundRatio FP.Core.b64 false (s * 2 ^ (52 - j)) (r * 2 ^ (52 - k)) (((j : Int) - 52) - ((k : Int) - 52)) := by
    show (if r * 2 ^ (52 - k) = 0 then (if s * 2 ^ (52 - j) = 0 then FP.Core.Datum.nan else .inf (false != false)) else FP.Core.roundRatio FP.Core.b64 (false != false) (s * 2 ^ (52 - j)) (r * 2 ^ (52 - k)) (((j : Int) - 52) - ((k : Int) - 52))) = _
    rw [if_neg (by omega)]
    rfl
  rw [hq]
  exact g1
theorem fbu_bits {E t : Nat} : (Int64.ofNat E <<< ((52 : Int64) &&& 63)) + Int64.ofNat t = (fbu E t).toInt64 := by
  apply Int64.toBitVec_inj.mp
  rw [Int64.toBitVec_add, show ((52 : Int64) &&& 63) = 52 from by decide]
  apply BitVec.eq_of_toNat_eq
  have h1 : (Int64.ofNat E <<< (52 : Int64)).toBitVec = (BitVec.ofNat 64 E) <<< 52 := by
    rw [Int64.toBitVec_shiftLeft]
    rfl
  rw [h1]
  have h2 : (fbu E t).toInt64.toBitVec = BitVec.ofNat 64 (E * 4503599627370496 + t) := rfl
  have h3 : (Int64.ofNat t).toBitVec = BitVec.ofNat 64 t := rfl
  rw [h2, h3, BitVec.toNat_add, BitVec.toNat_shiftLeft, BitVec.toNat_ofNat, BitVec.toNat_ofNat, BitVec.toNat_ofNat, Nat.shiftLeft_eq]
  omega
theorem fbu_n64 {e t : Nat} (h2 : e < 2047) (ht : t < 4503599627370496) : vf_n64 (fbu e t) := by
  have e1 := fbu_nat h2 ht
  unfold fbn at e1
  unfold vf_n64
  rw [UInt64.le_iff_toNat_le, UInt64.toNat_and, e1]
  have := Nat.and_le_left (n := e * 4503599627370496 + t) (m := (0x7fffffffffffffff : UInt64).toNat)
  have e2 : (0x7ff0000000000000 : UInt64).toNat = 9218868437227405312 := by decide
  omega
theorem fb_n64 {n : Nat} (h : n < 9218868437227405312) : vf_n64 (UInt64.ofNat n) := by
  have e1 : (UInt64.ofNat n).toNat = n := by rw [UInt64.toNat_ofNat']; exact Nat.mod_eq_of_lt (by omega)
  unfold vf_n64
  rw [UInt64.le_iff_toNat_le, UInt64.toNat_and, e1]
  have := Nat.and_le_left (n := n) (m := (0x7fffffffffffffff : UInt64).toNat)
  have e2 : (0x7ff0000000000000 : UInt64).toNat = 9218868437227405312 := by decide
  omega
theorem fbu_subn {t : Nat} (ht : t < 4503599627370496) : vf_n64 (FP.dsub (fbu 1023 t) FP.dconst1) ∧ vf_n64 (FP.dmul (FP.dsub (fbu 1023 t) FP.dconst1) 4841369599423283200) := by
  have hs := fb_sub_lt ht
  have e : ∀ a : Nat, a < 18446744073709551616 → (UInt64.ofNat a).toNat = a := fun a ha => by rw [UInt64.toNat_ofNat']; exact Nat.mod_eq_of_lt ha
  have h1 : FP.dsub (fbu 1023 t) FP.dconst1 = UInt64.ofNat (FP.Core.sub FP.Core.b64 (fbn 1023 t) 4607182418800017408) := by
    show UInt64.ofNat (FP.Core.sub FP.Core.b64 (fbu 1023 t).toNat 4607182418800017408) = _
    rw [fbu_nat (by omega) ht]
  have h2 : FP.dmul (FP.dsub (fbu 1023 t) FP.dconst1) 4841369599423283200 = UInt64.ofNat (FP.Core.mul FP.Core.b64 (FP.Core.sub FP.Core.b64 (fbn 1023 t) 4607182418800017408) 4841369599423283200) := by
    rw [h1]
    show UInt64.ofNat (FP.Core.mul FP.Core.b64 (UInt64.ofNat (FP.Core.sub FP.Core.b64 (fbn 1023 t) 4607182418800017408)).toNat 4841369599423283200) = _
    rw [e _ (Nat.lt_trans hs.1 (by decide))]
  rw [h2, h1]
  exact ⟨fb_n64 hs.1, fb_n64 hs.2⟩
theorem fb0_n64 : vf_n64 0 := by unfold vf_n64; decide
def fbi (s : Nat) : UInt64 := UInt64.ofNat (FP.Core.fromInt FP.Core.b64 (s : Int))
theorem fbi_i {s : Nat} (h : s < 2147483648) : FP.i2d (nI s) = fbi s := by
  show UInt64.ofNat (FP.Core.fromInt FP.Core.b64 (nI s).toInt) = _
  rw [nI_toInt h]
  rfl
theorem fbi_l {s : Nat} (h : s < 2147483648) : FP.l2d (lN s) = fbi s := by
  show UInt64.ofNat (FP.Core.fromInt FP.Core.b64 (lN s).toInt) = _
  unfold lN
  rw [Int64.toInt_ofNat_of_lt (by omega)]
  rfl
theorem fbi_lt {s : Nat} (h : s < 134217728) : FP.Core.fromInt FP.Core.b64 (s : Int) < 18446744073709551616 := by
  by_cases h0 : s = 0
  · subst h0
    decide
  · have hj : s.log2 < 27 := (Nat.log2_lt h0).mpr h
    have s1 : 2 ^ s.log2 ≤ s := Nat.log2_self_le h0
    have s2 : s < 2 ^ (s.log2 + 1) := Nat.lt_log2_self
    generalize s.log2 = j at *
    have hl : FP.Core.leading s (2 ^ 0) = (j : Int) - (0 : Nat) := fb_lead s1 s2
    have b1 : 4503599627370496 ≤ s * 2 ^ (52 - j) := by
      have : 2 ^ j * 2 ^ (52 - j) ≤ s * 2 ^ (52 - j) := Nat.mul_le_mul_right _ s1
      rw [← Nat.pow_add, show j + (52 - j) = 52 by omega] at this
      exact this
    have b2 : s * 2 ^ (52 - j) < 9007199254740992 := by
      have : s * 2 ^ (52 - j) < 2 ^ (j + 1) * 2 ^ (52 - j) := Nat.mul_lt_mul_of_pos_right s2 (Nat.two_pow_pos _)
      rw [← Nat.pow_add, show j + 1 + (52 - j) = 53 by omega] at this
      exact this
    unfold FP.Core.fromInt
    rw [fb_wr (by omega) s1 s2]
    exact Nat.lt_trans (fb_enc_lt b1 b2 (by omega)) (by decide)
theorem fbi_nat {s : Nat} (h : s < 134217728) : (fbi s).toNat = FP.Core.fromInt FP.Core.b64 (s : Int) := by
  unfold fbi
  rw [UInt64.toNat_ofNat']
  exact Nat.mod_eq_of_lt (fbi_lt h)
theorem fbi_div {s r : Nat} (hs1 : 1 ≤ s) (hs2 : s < 134217728) (hr1 : 1 ≤ r) (hr2 : r < 131072) : ∃ E t : Nat, t < 4503599627370496 ∧ 1005 ≤ E ∧ E ≤ 1051 ∧ FP.ddiv (fbi s) (fbi r) = fbu E t := by
  obtain ⟨E, t, h1, h2, h3, h4⟩ := fb_mean hs1 hs2 hr1 hr2
  refine ⟨E, t, h1, h2, h3, ?_⟩
  show UInt64.ofNat (FP.Core.div FP.Core.b64 (fbi s).toNat (fbi r).toNat) = _
  rw [fbi_nat hs2, fbi_nat (by omega), h4]
  rfl
theorem fbi_div0 {r : Nat} (hr1 : 1 ≤ r) (hr2 : r < 131072) : FP.ddiv (fbi 0) (fbi r) = 0 := by
  have hj : r.log2 < 17 := (Nat.log2_lt (by omega)).mpr hr2
  have r1 : 2 ^ r.log2 ≤ r := Nat.log2_self_le (by omega)
  have r2 : r < 2 ^ (r.log2 + 1) := Nat.lt_log2_self
  generalize r.log2 = k at *
  have e0 : FP.Core.fromInt FP.Core.b64 ((0 : Nat) : Int) = 0 := by decide
  show UInt64.ofNat (FP.Core.div FP.Core.b64 (fbi 0).toNat (fbi r).toNat) = _
  rw [fbi_nat (by omega), fbi_nat (by omega), e0]
  unfold FP.Core.div
  rw [fb_dec0, fb_whole (by omega) r1 r2]
  have br : 0 < r * 2 ^ (52 - k) := Nat.mul_pos (by omega) (Nat.two_pow_pos _)
  have hq : FP.Core.quotient FP.Core.b64 (.fin false 0 (-1074)) (.fin false (r * 2 ^ (52 - k)) ((k : Int) - 52)) = FP.Core.roundRatio FP.Core.b64 false 0 (r * 2 ^ (52 - k)) ((-1074) - ((k : Int) - 52)) := by
    show (if r * 2 ^ (52 - k) = 0 then (if (0 : Nat) = 0 then FP.Core.Datum.nan else .inf (false != false)) else FP.Core.roundRatio FP.Core.b64 (false != false) 0 (r * 2 ^ (52 - k)) ((-1074) - ((k : Int) - 52))) = _
    rw [if_neg (by omega)]
    rfl
  rw [hq, fb_rr0]
  decide
/-- the mean age, its bits -/
def pt_mean (L : List pv_Lot) : UInt64 := if ps_all L = 0 then 0 else FP.ddiv (fbi (ps_age L)) (fbi (ps_all L))
theorem pt_mean_is {L : List pv_Lot} (h : lbs L) : pt_mean L = 0 ∨ ∃ E t : Nat, t < 4503599627370496 ∧ 1005 ≤ E ∧ E ≤ 1051 ∧ pt_mean L = fbu E t := by
  have h1 := ps_all_le h
  have h2 := ps_age_le h
  unfold pt_mean
  by_cases h0 : ps_all L = 0
  · exact Or.inl (if_pos h0)
  · rw [if_neg h0]
    by_cases h3 : ps_age L = 0
    · rw [h3]
      exact Or.inl (fbi_div0 (by omega) (by omega))
    · exact Or.inr (fbi_div (by omega) (by omega) (by omega) (by omega))
theorem pt_mean_n64 {L : List pv_Lot} (h : lbs L) : vf_n64 (pt_mean L) := by
  rcases pt_mean_is h with e | ⟨E, t, h1, h2, h3, e⟩
  · rw [e]; exact fb0_n64
  · rw [e]; exact fbu_n64 (by omega) h1
theorem pt_mean_self {L : List pv_Lot} (h : lbs L) : FP.dcmp (pt_mean L) (pt_mean L) = some .eq := by
  rcases pt_mean_is h with e | ⟨E, t, h1, h2, h3, e⟩
  · rw [e]; exact fb_cmp_00
  · rw [e]; exact fbu_self (by omega) (by omega) h1
