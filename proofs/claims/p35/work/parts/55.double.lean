theorem fb_tails : FP.Core.b64.tails = 4503599627370496 := by decide
theorem fb_exps : FP.Core.b64.exps = 2048 := by decide
theorem fb_qmin : FP.Core.b64.qmin = -1074 := by decide
theorem fb_qmax : FP.Core.b64.qmax = 971 := by decide
theorem fb_dec {n e t : Nat} (hn : n = e * 4503599627370496 + t) (ht : t < 4503599627370496) (h1 : 1 ≤ e) (h2 : e < 2047) : FP.Core.decode FP.Core.b64 n = .fin false (4503599627370496 + t) ((e : Int) - 1075) := by
  have a1 : n / 4503599627370496 = e := by omega
  have a2 : n % 4503599627370496 = t := by omega
  have a3 : e % 2048 = e := by omega
  have a4 : e / 2048 = 0 := by omega
  unfold FP.Core.decode FP.Core.fieldE FP.Core.fieldT FP.Core.fieldS
  rw [fb_tails, fb_exps, fb_qmin, a1, a2, a3, a4, if_neg (by omega), if_neg (by omega)]
  have a5 : (-1074 : Int) + ((e : Int) - 1) = (e : Int) - 1075 := by omega
  rw [a5]
  rfl
theorem fb_enc {c : Nat} {q : Int} (h : 4503599627370496 ≤ c) : FP.Core.encode FP.Core.b64 (.fin false c q) = ((q + 1074).toNat + 1) * 4503599627370496 + (c - 4503599627370496) := by
  unfold FP.Core.encode FP.Core.assemble
  show (if c < FP.Core.b64.tails then _ else _) = _
  rw [fb_tails, fb_exps, fb_qmin, if_neg (by omega)]
  have : q - (-1074 : Int) = q + 1074 := by omega
  rw [this]
  simp
theorem fb_log {c k : Nat} (h1 : 2 ^ k ≤ c) (h2 : c < 2 ^ (k + 1)) : c.log2 = k := by
  have h0 : c ≠ 0 := by have := Nat.two_pow_pos k; omega
  exact Nat.le_antisymm (Nat.lt_succ_iff.mp ((Nat.log2_lt h0).mpr h2)) ((Nat.le_log2 h0).mpr h1)
theorem fb_lead {c k m : Nat} (h1 : 2 ^ k ≤ c) (h2 : c < 2 ^ (k + 1)) : FP.Core.leading c (2 ^ m) = (k : Int) - m := by
  have e2 : (2 ^ m).log2 = m := fb_log (Nat.le_refl _) (Nat.pow_lt_pow_right (by decide) (by omega))
  unfold FP.Core.leading
  rw [fb_log h1 h2, e2]
  refine if_pos ?_
  rcases Nat.le_total m k with h | h
  · obtain ⟨j, rfl⟩ : ∃ j, k = m + j := ⟨k - m, by omega⟩
    have a1 : ((((m + j : Nat) : Int)) - (m : Int)).toNat = j := by omega
    have a2 : (-((((m + j : Nat) : Int)) - (m : Int))).toNat = 0 := by omega
    rw [a1, a2, ← Nat.pow_add]
    omega
  · obtain ⟨j, rfl⟩ : ∃ j, m = k + j := ⟨m - k, by omega⟩
    have a1 : (((k : Int)) - ((k + j : Nat) : Int)).toNat = 0 := by omega
    have a2 : (-(((k : Int)) - ((k + j : Nat) : Int))).toNat = j := by omega
    rw [a1, a2, Nat.pow_add, Nat.pow_zero, Nat.mul_one]
    exact Nat.mul_le_mul_right _ h1
theorem fb_near {c x : Nat} (hx : 0 < x) : FP.Core.nearest (c * x) x = c := by
  unfold FP.Core.nearest
  rw [Nat.mul_mod_left, Nat.mul_div_cancel _ hx, if_pos (by omega)]
theorem fb_settle {c : Nat} {q : Int} (h2 : c < 9007199254740992) (hq : q ≤ 971) : FP.Core.settle FP.Core.b64 false c q = .fin false c q := by
  unfold FP.Core.settle FP.Core.bound
  have e : (2 : Nat) ^ FP.Core.b64.p = 9007199254740992 := by decide
  rw [e, if_pos h2, fb_qmax, if_pos hq]
theorem fb_dec0 : FP.Core.decode FP.Core.b64 0 = .fin false 0 (-1074) := by
  unfold FP.Core.decode FP.Core.fieldE FP.Core.fieldT FP.Core.fieldS
  rw [fb_tails, fb_exps, fb_qmin, if_neg (by decide), if_pos (by decide)]
  rfl
theorem fb_rr0 {n : Nat} {e : Int} : FP.Core.roundRatio FP.Core.b64 false 0 n e = .fin false 0 (-1074) := by
  unfold FP.Core.roundRatio
  rw [if_pos rfl, fb_qmin]
/-- a double with biased exponent e and trailing digits t -/
def fbn (e t : Nat) : Nat := e * 4503599627370496 + t
set_option maxRecDepth 100000 in
theorem fb_wr {s j : Nat} (hj : j ≤ 52) (h1 : 2 ^ j ≤ s) (h2 : s < 2 ^ (j + 1)) : FP.Core.round FP.Core.b64 (FP.Core.ofInt (s : Int)) = .fin false (s * 2 ^ (52 - j)) ((j : Int) - 52) := by
  have hp := Nat.two_pow_pos j
  have hl : FP.Core.leading s (2 ^ 0) = (j : Int) - (0 : Nat) := fb_lead h1 h2
  have b1 : 4503599627370496 ≤ s * 2 ^ (52 - j) := by
    have : 2 ^ j * 2 ^ (52 - j) ≤ s * 2 ^ (52 - j) := Nat.mul_le_mul_right _ h1
    rw [← Nat.pow_add, show j + (52 - j) = 52 by omega] at this
    exact this
  have b2 : s * 2 ^ (52 - j) < 9007199254740992 := by
    have : s * 2 ^ (52 - j) < 2 ^ (j + 1) * 2 ^ (52 - j) := Nat.mul_lt_mul_of_pos_right h2 (Nat.two_pow_pos _)
    rw [← Nat.pow_add, show j + 1 + (52 - j) = 53 by omega] at this
    exact this
  have hr : FP.Core.roundRatio FP.Core.b64 false s 1 0 = .fin false (s * 2 ^ (52 - j)) ((j : Int) - 52) := by
    unfold FP.Core.roundRatio
    rw [if_neg (by omega)]
    have hqu : FP.Core.quantum FP.Core.b64 s 1 0 = (j : Int) - 52 := by
      unfold FP.Core.quantum
      rw [show FP.Core.leading s 1 = (j : Int) - (0 : Nat) from hl, fb_qmin]
      show max (-1074 : Int) ((j : Int) - (0 : Nat) + 0 - ((53 : Int) - 1)) = _
      omega
    rw [hqu]
    unfold FP.Core.roundAt FP.Core.unitsNum FP.Core.unitsDen
    have a1 : (0 - ((j : Int) - 52)).toNat = 52 - j := by omega
    have a2 : ((j : Int) - 52 - 0).toNat = 0 := by omega
    rw [a1, a2]
    have e3 : FP.Core.nearest (s * 2 ^ (52 - j)) (1 * 2 ^ 0) = s * 2 ^ (52 - j) := by
      have := fb_near (c := s * 2 ^ (52 - j)) (x := 1) (by omega)
      rw [Nat.mul_one] at this
      exact this
    rw [e3]
    exact fb_settle b2 (by omega)
  have hi : FP.Core.round FP.Core.b64 (FP.Core.ofInt (s : Int)) = FP.Core.roundRatio FP.Core.b64 false s 1 0 := by
    unfold FP.Core.ofInt
    rw [show decide ((s : Int) < 0) = false from decide_eq_false (by omega), Int.natAbs_natCast]
    rfl
  exact hi.trans hr
set_option maxRecDepth 100000 in
theorem fb_whole {s j : Nat} (hj : j ≤ 52) (h1 : 2 ^ j ≤ s) (h2 : s < 2 ^ (j + 1)) : FP.Core.decode FP.Core.b64 (FP.Core.fromInt FP.Core.b64 (s : Int)) = .fin false (s * 2 ^ (52 - j)) ((j : Int) - 52) := by
  have hp := Nat.two_pow_pos j
  have hl : FP.Core.leading s (2 ^ 0) = (j : Int) - (0 : Nat) := fb_lead h1 h2
  have b1 : 4503599627370496 ≤ s * 2 ^ (52 - j) := by
    have : 2 ^ j * 2 ^ (52 - j) ≤ s * 2 ^ (52 - j) := Nat.mul_le_mul_right _ h1
    rw [← Nat.pow_add, show j + (52 - j) = 52 by omega] at this
    exact this
  have b2 : s * 2 ^ (52 - j) < 9007199254740992 := by
    have : s * 2 ^ (52 - j) < 2 ^ (j + 1) * 2 ^ (52 - j) := Nat.mul_lt_mul_of_pos_right h2 (Nat.two_pow_pos _)
    rw [← Nat.pow_add, show j + 1 + (52 - j) = 53 by omega] at this
    exact this
  unfold FP.Core.fromInt
  rw [fb_wr hj h1 h2, fb_enc b1, fb_dec (e := ((j : Int) - 52 + 1074).toNat + 1) (t := s * 2 ^ (52 - j) - 4503599627370496) rfl (by omega) (by omega) (by omega)]
  have a3 : 4503599627370496 + (s * 2 ^ (52 - j) - 4503599627370496) = s * 2 ^ (52 - j) := by omega
  have a4 : (((((j : Int) - 52 + 1074).toNat + 1 : Nat) : Int) - 1075) = (j : Int) - 52 := by omega
  rw [a3, a4]
set_option maxRecDepth 100000 in
theorem fb_near2 {n x : Nat} (hx : 0 < x) (h1 : x * 4503599627370496 ≤ n) (h2 : n < x * 9007199254740992) : 4503599627370496 ≤ FP.Core.nearest n x ∧ FP.Core.nearest n x ≤ 9007199254740992 := by
  have g1 : 4503599627370496 ≤ n / x := (Nat.le_div_iff_mul_le hx).mpr (by rw [Nat.mul_comm]; exact h1)
  have g2 : n / x < 9007199254740992 := (Nat.div_lt_iff_lt_mul hx).mpr (by rw [Nat.mul_comm]; exact h2)
  unfold FP.Core.nearest
  split
  · omega
  · split
    · omega
    · omega
set_option maxRecDepth 100000 in
theorem fb_quot {c d : Nat} {e : Int} (hc1 : 4503599627370496 ≤ c) (hc2 : c < 9007199254740992) (hd1 : 4503599627370496 ≤ d) (hd2 : d < 9007199254740992) (he1 : -500 ≤ e) (he2 : e ≤ 500) :
    ∃ E t : Nat, FP.Core.encode FP.Core.b64 (FP.Core.roundRatio FP.Core.b64 false c d e) = fbn E t ∧ t < 4503599627370496 ∧ (E : Int) ≤ e + 1024 ∧ e + 1022 ≤ (E : Int) := by
  have hlog : c.log2 = 52 := fb_log (k := 52) hc1 hc2
  have hlog2 : d.log2 = 52 := fb_log (k := 52) hd1 hd2
  have hl : FP.Core.leading c d = if d ≤ c then 0 else -1 := by
    unfold FP.Core.leading
    rw [hlog, hlog2]
    show (if d * 2 ^ 0 ≤ c * 2 ^ 0 then (0 : Int) else 0 - 1) = _
    by_cases h : d ≤ c
    · rw [if_pos h]; exact if_pos (by rw [Nat.pow_zero]; omega)
    · rw [if_neg h]; exact if_neg (by rw [Nat.pow_zero]; omega)
  unfold FP.Core.roundRatio
  rw [if_neg (by omega)]
  have fin : ∀ q : Int, ∀ m : Nat, q = e - 52 ∨ q = e - 53 → 4503599627370496 ≤ m → m ≤ 9007199254740992 → ∃ E t : Nat, FP.Core.encode FP.Core.b64 (FP.Core.settle FP.Core.b64 false m q) = fbn E t ∧ t < 4503599627370496 ∧ (E : Int) ≤ q + 1076 ∧ q + 1075 ≤ (E : Int) := by
    intro q m hq h1 h2
    by_cases h3 : m < 9007199254740992
    · rw [fb_settle h3 (by omega), fb_enc h1]
      exact ⟨(q + 1074).toNat + 1, m - 4503599627370496, rfl, by omega, by omega, by omega⟩
    · have h4 : m = 9007199254740992 := by omega
      subst h4
      have e5 : FP.Core.settle FP.Core.b64 false 9007199254740992 q = .fin false 4503599627370496 (q + 1) := by
        unfold FP.Core.settle FP.Core.bound
        have e6 : (2 : Nat) ^ FP.Core.b64.p = 9007199254740992 := by decide
        rw [e6, if_neg (by omega), fb_qmax, fb_tails, if_pos (by omega)]
      rw [e5, fb_enc (Nat.le_refl _)]
      exact ⟨(q + 1 + 1074).toNat + 1, 4503599627370496 - 4503599627370496, rfl, by omega, by omega, by omega⟩
  by_cases h : d ≤ c
  · rw [if_pos h] at hl
    have hqu : FP.Core.quantum FP.Core.b64 c d e = e - 52 := by
      unfold FP.Core.quantum
      rw [hl, fb_qmin]
      show max (-1074 : Int) (0 + e - ((53 : Int) - 1)) = _
      omega
    rw [hqu]
    unfold FP.Core.roundAt FP.Core.unitsNum FP.Core.unitsDen
    have a1 : (e - (e - 52)).toNat = 52 := by omega
    have a2 : (e - 52 - e).toNat = 0 := by omega
    rw [a1, a2, Nat.pow_zero, Nat.mul_one]
    have hn := fb_near2 (n := c * 2 ^ 52) (x := d) (by omega) (Nat.mul_le_mul_right _ h) (by
      have : c * 4503599627370496 < d * 9007199254740992 := by omega
      exact this)
    obtain ⟨E, t, g1, g2, g3, g4⟩ := fin (e - 52) _ (Or.inl rfl) hn.1 hn.2
    exact ⟨E, t, g1, g2, by omega, by omega⟩
  · rw [if_neg h] at hl
    have hqu : FP.Core.quantum FP.Core.b64 c d e = e - 53 := by
      unfold FP.Core.quantum
      rw [hl, fb_qmin]
      show max (-1074 : Int) (-1 + e - ((53 : Int) - 1)) = _
      omega
    rw [hqu]
    unfold FP.Core.roundAt FP.Core.unitsNum FP.Core.unitsDen
    have a1 : (e - (e - 53)).toNat = 53 := by omega
    have a2 : (e - 53 - e).toNat = 0 := by omega
    rw [a1, a2, Nat.pow_zero, Nat.mul_one]
    have hn := fb_near2 (n := c * 2 ^ 53) (x := d) (by omega) (by
      have : d * 4503599627370496 ≤ c * 9007199254740992 := by omega
      exact this) (Nat.mul_lt_mul_of_pos_right (by omega) (by decide))
    obtain ⟨E, t, g1, g2, g3, g4⟩ := fin (e - 53) _ (Or.inr rfl) hn.1 hn.2
    exact ⟨E, t, g1, g2, by omega, by omega⟩
def fbu (e t : Nat) : UInt64 := UInt64.ofNat (fbn e t)
theorem fbu_nat {e t : Nat} (h2 : e < 2047) (ht : t < 4503599627370496) : (fbu e t).toNat = fbn e t := by
  unfold fbu
  rw [UInt64.toNat_ofNat']
  exact Nat.mod_eq_of_lt (by unfold fbn; omega)
theorem fb_enc_lt {c : Nat} {q : Int} (h1 : 4503599627370496 ≤ c) (h2 : c < 9007199254740992) (hq : q ≤ 971) : FP.Core.encode FP.Core.b64 (.fin false c q) < 9218868437227405312 := by
  rw [fb_enc h1]
  omega
theorem fb_mean {s r : Nat} (hs1 : 1 ≤ s) (hs2 : s < 134217728) (hr1 : 1 ≤ r) (hr2 : r < 131072) : ∃ E t : Nat, t < 4503599627370496 ∧ 1005 ≤ E ∧ E ≤ 1051 ∧ FP.Core.div FP.Core.b64 (FP.Core.fromInt FP.Core.b64 (s : Int)) (FP.Core.fromInt FP.Core.b64 (r : Int)) = fbn E t := by
  have hjs : s.log2 < 27 := (Nat.log2_lt (by omega)).mpr hs2
  have hjr : r.log2 < 17 := (Nat.log2_lt (by omega)).mpr hr2
  have s1 : 2 ^ s.log2 ≤ s := Nat.log2_self_le (by omega)
  have s2 : s < 2 ^ (s.log2 + 1) := Nat.lt_log2_self
  have r1 : 2 ^ r.log2 ≤ r := Nat.log2_self_le (by omega)
  have r2 : r < 2 ^ (r.log2 + 1) := Nat.lt_log2_self
  generalize s.log2 = j at *
  generalize r.log2 = k at *
  unfold FP.Core.div
  rw [fb_whole (by omega) s1 s2, fb_whole (by omega) r1 r2]
  have bb : ∀ {x i : Nat}, i ≤ 52 → 2 ^ i ≤ x → x < 2 ^ (i + 1) → 4503599627370496 ≤ x * 2 ^ (52 - i) ∧ x * 2 ^ (52 - i) < 9007199254740992 := by
    intro x i hi h1 h2
    constructor
    · have : 2 ^ i * 2 ^ (52 - i) ≤ x * 2 ^ (52 - i) := Nat.mul_le_mul_right _ h1
      rw [← Nat.pow_add, show i + (52 - i) = 52 by omega] at this
      exact this
    · have : x * 2 ^ (52 - i) < 2 ^ (i + 1) * 2 ^ (52 - i) := Nat.mul_lt_mul_of_pos_right h2 (Nat.two_pow_pos _)
      rw [← Nat.pow_add, show i + 1 + (52 - i) = 53 by omega] at this
      exact this
  have bs := bb (by omega) s1 s2
  have br := bb (by omega) r1 r2
  obtain ⟨E, t, g1, g2, g3, g4⟩ := fb_quot (e := ((j : Int) - 52) - ((k : Int) - 52)) bs.1 bs.2 br.1 br.2 (by omega) (by omega)
  refine ⟨E, t, g2, by omega, by omega, ?_⟩
  have hq : FP.Core.quotient FP.Core.b64 (.fin false (s * 2 ^ (52 - j)) ((j : Int) - 52)) (.fin false (r * 2 ^ (52 - k)) ((k : Int) - 52)) = FP.Core.roundRatio FP.Core.b64 false (s * 2 ^ (52 - j)) (r * 2 ^ (52 - k)) (((j : Int) - 52) - ((k : Int) - 52)) := by
    show (if r * 2 ^ (52 - k) = 0 then (if s * 2 ^ (52 - j) = 0 then FP.Core.Datum.nan else .inf (false != false)) else FP.Core.roundRatio FP.Core.b64 (false != false) (s * 2 ^ (52 - j)) (r * 2 ^ (52 - k)) (((j : Int) - 52) - ((k : Int) - 52))) = _
    rw [if_neg (by omega)]
    rfl
  rw [hq]
  exact g1
theorem fbu_n64 {e t : Nat} (h2 : e < 2047) (ht : t < 4503599627370496) : vf_n64 (fbu e t) := by
  have e1 := fbu_nat h2 ht
  unfold fbn at e1
  unfold vf_n64
  rw [UInt64.le_iff_toNat_le, UInt64.toNat_and, e1]
  have := Nat.and_le_left (n := e * 4503599627370496 + t) (m := (0x7fffffffffffffff : UInt64).toNat)
  have e2 : (0x7ff0000000000000 : UInt64).toNat = 9218868437227405312 := by decide
  omega
theorem fb0_n64 : vf_n64 0 := by unfold vf_n64; decide
def fbi (s : Nat) : UInt64 := UInt64.ofNat (FP.Core.fromInt FP.Core.b64 (s : Int))
theorem fbi_i {s : Nat} (h : s < 2147483648) : FP.i2d (nI s) = fbi s := by
  show UInt64.ofNat (FP.Core.fromInt FP.Core.b64 (nI s).toInt) = _
  rw [nI_toInt h]
  rfl
theorem fbi_l {s : Nat} (h : s < 2147483648) : FP.l2d (lN s) = fbi s := by
  show UInt64.ofNat (FP.Core.fromInt FP.Core.b64 (lN s).toInt) = _
  unfold lN
  rw [Int64.toInt_ofNat_of_lt (by omega)]
  rfl
theorem fbi_lt {s : Nat} (h : s < 134217728) : FP.Core.fromInt FP.Core.b64 (s : Int) < 18446744073709551616 := by
  by_cases h0 : s = 0
  · subst h0
    decide
  · have hj : s.log2 < 27 := (Nat.log2_lt h0).mpr h
    have s1 : 2 ^ s.log2 ≤ s := Nat.log2_self_le h0
    have s2 : s < 2 ^ (s.log2 + 1) := Nat.lt_log2_self
    generalize s.log2 = j at *
    have hl : FP.Core.leading s (2 ^ 0) = (j : Int) - (0 : Nat) := fb_lead s1 s2
    have b1 : 4503599627370496 ≤ s * 2 ^ (52 - j) := by
      have : 2 ^ j * 2 ^ (52 - j) ≤ s * 2 ^ (52 - j) := Nat.mul_le_mul_right _ s1
      rw [← Nat.pow_add, show j + (52 - j) = 52 by omega] at this
      exact this
    have b2 : s * 2 ^ (52 - j) < 9007199254740992 := by
      have : s * 2 ^ (52 - j) < 2 ^ (j + 1) * 2 ^ (52 - j) := Nat.mul_lt_mul_of_pos_right s2 (Nat.two_pow_pos _)
      rw [← Nat.pow_add, show j + 1 + (52 - j) = 53 by omega] at this
      exact this
    unfold FP.Core.fromInt
    rw [fb_wr (by omega) s1 s2]
    exact Nat.lt_trans (fb_enc_lt b1 b2 (by omega)) (by decide)
theorem fbi_nat {s : Nat} (h : s < 134217728) : (fbi s).toNat = FP.Core.fromInt FP.Core.b64 (s : Int) := by
  unfold fbi
  rw [UInt64.toNat_ofNat']
  exact Nat.mod_eq_of_lt (fbi_lt h)
theorem fbi_div {s r : Nat} (hs1 : 1 ≤ s) (hs2 : s < 134217728) (hr1 : 1 ≤ r) (hr2 : r < 131072) : ∃ E t : Nat, t < 4503599627370496 ∧ 1005 ≤ E ∧ E ≤ 1051 ∧ FP.ddiv (fbi s) (fbi r) = fbu E t := by
  obtain ⟨E, t, h1, h2, h3, h4⟩ := fb_mean hs1 hs2 hr1 hr2
  refine ⟨E, t, h1, h2, h3, ?_⟩
  show UInt64.ofNat (FP.Core.div FP.Core.b64 (fbi s).toNat (fbi r).toNat) = _
  rw [fbi_nat hs2, fbi_nat (by omega), h4]
  rfl
theorem fbi_div0 {r : Nat} (hr1 : 1 ≤ r) (hr2 : r < 131072) : FP.ddiv (fbi 0) (fbi r) = 0 := by
  have hj : r.log2 < 17 := (Nat.log2_lt (by omega)).mpr hr2
  have r1 : 2 ^ r.log2 ≤ r := Nat.log2_self_le (by omega)
  have r2 : r < 2 ^ (r.log2 + 1) := Nat.lt_log2_self
  generalize r.log2 = k at *
  have e0 : FP.Core.fromInt FP.Core.b64 ((0 : Nat) : Int) = 0 := by decide
  show UInt64.ofNat (FP.Core.div FP.Core.b64 (fbi 0).toNat (fbi r).toNat) = _
  rw [fbi_nat (by omega), fbi_nat (by omega), e0]
  unfold FP.Core.div
  rw [fb_dec0, fb_whole (by omega) r1 r2]
  have br : 0 < r * 2 ^ (52 - k) := Nat.mul_pos (by omega) (Nat.two_pow_pos _)
  have hq : FP.Core.quotient FP.Core.b64 (.fin false 0 (-1074)) (.fin false (r * 2 ^ (52 - k)) ((k : Int) - 52)) = FP.Core.roundRatio FP.Core.b64 false 0 (r * 2 ^ (52 - k)) ((-1074) - ((k : Int) - 52)) := by
    show (if r * 2 ^ (52 - k) = 0 then (if (0 : Nat) = 0 then FP.Core.Datum.nan else .inf (false != false)) else FP.Core.roundRatio FP.Core.b64 (false != false) 0 (r * 2 ^ (52 - k)) ((-1074) - ((k : Int) - 52))) = _
    rw [if_neg (by omega)]
    rfl
  rw [hq, fb_rr0]
  decide
/-- the mean age, its bits -/
def pt_mean (L : List pv_Lot) : UInt64 := if ps_all L = 0 then 0 else FP.ddiv (fbi (ps_age L)) (fbi (ps_all L))
theorem pt_mean_is {L : List pv_Lot} (h : lbs L) : pt_mean L = 0 ∨ ∃ E t : Nat, t < 4503599627370496 ∧ 1005 ≤ E ∧ E ≤ 1051 ∧ pt_mean L = fbu E t := by
  have h1 := ps_all_le h
  have h2 := ps_age_le h
  unfold pt_mean
  by_cases h0 : ps_all L = 0
  · exact Or.inl (if_pos h0)
  · rw [if_neg h0]
    by_cases h3 : ps_age L = 0
    · rw [h3]
      exact Or.inl (fbi_div0 (by omega) (by omega))
    · exact Or.inr (fbi_div (by omega) (by omega) (by omega) (by omega))
theorem pt_mean_n64 {L : List pv_Lot} (h : lbs L) : vf_n64 (pt_mean L) := by
  rcases pt_mean_is h with e | ⟨E, t, h1, h2, h3, e⟩
  · rw [e]; exact fb0_n64
  · rw [e]; exact fbu_n64 (by omega) h1
