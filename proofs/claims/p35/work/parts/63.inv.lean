/-! What holds of a state between calls holds behind every call. -/
theorem pl_all {L : List pv_Lot} {P : pv_Lot → Prop} : (∀ l, l < L.length → P (pl_g L l)) ↔ ∀ x ∈ L, P x :=
  ⟨fun h x hx => by obtain ⟨l, hl, rfl⟩ := pl_mem_g hx; exact h l hl, fun h l hl => h _ (pl_g_mem hl)⟩
theorem ws_mono {n m : Nat} {s : pv_S} (h : ws n s) (hm : n ≤ m) : ws m s :=
  ⟨h.1, h.2.1, Nat.le_trans h.2.2.1 (Nat.mul_le_mul_left _ hm), fun k hk => Nat.le_trans (h.2.2.2.1 k hk) (Nat.mul_le_mul_left _ hm), h.2.2.2.2⟩
theorem wx_mono {n m : Nat} {X : pv_XS} (h : wx n X) (hm : n ≤ m) : wx m X := ⟨ws_mono h.1 hm, fun j hj => ws_mono (h.2.1 j hj) hm, h.2.2⟩
theorem wx_hist {n : Nat} {H : List pv_S} {s : pv_S} (hs : ws n s) (h : ∀ j, j < H.length → ws n (hg H j)) (h6 : H.length ≤ 6) : ∀ j, j < (h_push H s).length → ws n (hg (h_push H s) j) := by
  intro j hj
  unfold h_push at hj ⊢
  by_cases e : 6 ≤ H.length
  · rw [if_pos e] at hj ⊢
    rw [List.length_append, List.length_drop, List.length_singleton] at hj
    rw [hg_push, List.length_drop]
    by_cases e2 : j < H.length - 1
    · rw [if_pos e2, hg_drop]; exact h _ (by omega)
    · rw [if_neg e2, if_pos (by omega)]; exact hs
  · rw [if_neg e] at hj ⊢
    rw [List.length_append, List.length_singleton] at hj
    rw [hg_push]
    by_cases e2 : j < H.length
    · rw [if_pos e2]; exact h _ e2
    · rw [if_neg e2, if_pos (by omega)]; exact hs
theorem wx_hlen {H : List pv_S} {s : pv_S} (h6 : H.length ≤ 6) : (h_push H s).length ≤ 6 := by
  rw [h_push_len h6]
  split <;> omega
theorem wx_push {n : Nat} {X : pv_XS} {s : pv_S} (h : wx n X) (hs : ws (n + 1) s) : wx (n + 1) (po_push X s) :=
  ⟨hs, wx_hist (ws_mono h.1 (by omega)) (fun j hj => ws_mono (h.2.1 j hj) (by omega)) h.2.2.1, wx_hlen h.2.2.1, h.2.2.2⟩
theorem pw_of {T T' : pv_T} (h : pw T) (e : ∀ i, 324 ≤ i → i < 404 ∨ i = 407 → T' i = T i) : pw T' := by
  have e7 := e 407 (by omega) (Or.inr rfl)
  have h8 := h.1
  refine ⟨by rw [e7]; exact h.1, fun p hp => ?_, fun a b hab hb => ?_⟩
  · rw [e7] at hp
    have h2 := h.2.1 p hp
    rw [e (324 + 10 * p) (by omega) (by omega), e (325 + 10 * p) (by omega) (by omega)]
    exact ⟨h2.1, h2.2.1, fun k hk => by rw [e (326 + 10 * p + k) (by omega) (by omega)]; exact h2.2.2 k hk⟩
  · rw [e7] at hb
    rw [e (324 + 10 * a) (by omega) (by omega), e (324 + 10 * b) (by omega) (by omega)]
    exact h.2.2 a b hab hb
theorem mb_of {T T' : pv_T} (h : mb T) (e : ∀ i, 194 ≤ i → i < 324 ∨ i = 408 → T' i = T i) : mb T' := by
  have e8 := e 408 (by omega) (Or.inr rfl)
  have h10 := h.2.1
  refine ⟨by rw [e8]; exact h.1, by rw [e8]; exact h.2.1, fun m hm => ?_⟩
  rw [e8] at hm
  have h3 := h.2.2 m hm
  rw [e (314 + m) (by omega) (by omega)]
  refine ⟨h3.1, fun i hi => ?_⟩
  have h4 := h3.1
  rw [e (194 + 12 * m + 3 * i) (by omega) (by omega), e (195 + 12 * m + 3 * i) (by omega) (by omega), e (196 + 12 * m + 3 * i) (by omega) (by omega)]
  exact h3.2 i hi
theorem wk_of {T T' : pv_T} {L : List pv_Lot} (h : wk (T, L)) (hb : mb T) (e : ∀ i, 24 ≤ i → i < 64 ∨ (194 ≤ i ∧ i < 324) ∨ i = 405 ∨ i = 408 → T' i = T i) : wk (T', L) := by
  have e5 := e 405 (by omega) (by omega)
  have e8 := e 408 (by omega) (by omega)
  have h10 := hb.2.1
  refine ⟨fun k h1 h2 w h3 => ?_, fun l hl => ?_, fun m hm i hi => ?_⟩
  · replace h1 : T' 405 ≤ k := h1
    rw [e5] at h1
    show T' (24 + w + 5 * k) = 0
    rw [e (24 + w + 5 * k) (by omega) (by omega)]
    exact h.1 k h1 h2 w h3
  · show (pl_g L l).1 < T' 405
    rw [e5]; exact h.2.1 l hl
  · replace hm : m < T' 408 := hm
    replace hi : i < T' (314 + m) := hi
    rw [e8] at hm
    rw [e (314 + m) (by omega) (by omega)] at hi
    have h4 := (hb.2.2 m hm).1
    show T' (194 + 12 * m + 3 * i) < T' 405 ∧ (T' (196 + 12 * m + 3 * i) = 4294967295 ∨ T' (196 + 12 * m + 3 * i) < T' 405)
    rw [e (194 + 12 * m + 3 * i) (by omega) (by omega), e (196 + 12 * m + 3 * i) (by omega) (by omega), e5]
    exact h.2.2 m hm i hi
theorem ws_T {n : Nat} {T T' : pv_T} {L : List pv_Lot} (h : ws n (T, L)) (e : ∀ i, ¬ (64 ≤ i ∧ i < 70) → ¬ (324 ≤ i ∧ i < 404) → i ≠ 407 → i ≠ 409 → i ≠ 410 → T' i = T i) (hs : ∀ s, s < 3 → T' (64 + s) ≤ 5000 ∧ T' (67 + s) ≤ 30) (hc : 1 ≤ T' 409 ∧ T' 409 ≤ 100) (hp : T' 410 ≤ 1000000) (hw : pw T') : ws (n + 1) (T', L) := by
  obtain ⟨⟨⟨t1, t2, t3, t4, t5, t6, t7⟩, hl, ho⟩, h30, h404, hlk, hk⟩ := h
  replace h404 : T 404 ≤ 60 * n := h404
  refine ⟨⟨⟨fun i hi => ?_, hs, ?_, hc, hp, hw, mb_of t7 fun i h1 h2 => e i (by omega) (by omega) (by omega) (by omega) (by omega)⟩, hl, ho⟩, h30, ?_, fun k hk => ?_, wk_of hk t7 fun i h1 h2 => e i (by omega) (by omega) (by omega) (by omega) (by omega)⟩
  · show T' i ≤ 200
    rw [e i (by omega) (by omega) (by omega) (by omega) (by omega)]; exact t1 i hi
  · show T' 405 ≤ 8
    rw [e 405 (by omega) (by omega) (by omega) (by omega) (by omega)]; exact t3
  · show T' 404 ≤ 60 * (n + 1)
    rw [e 404 (by omega) (by omega) (by omega) (by omega) (by omega)]; omega
  · have h4 : T (28 + 5 * k) ≤ 216000 * n := hlk k hk
    show T' (28 + 5 * k) ≤ 216000 * (n + 1)
    rw [e (28 + 5 * k) (by omega) (by omega) (by omega) (by omega) (by omega)]; omega
theorem ws_L {n : Nat} {T : pv_T} {L L' : List pv_Lot} (h : ws n (T, L)) (hlen : L'.length ≤ 30) (hx : ∀ x ∈ L', lb x ∧ lv_ok x ∧ x.1 < T 405) : ws (n + 1) (T, L') := by
  have h1 := ws_mono h (Nat.le_succ n)
  exact ⟨⟨h1.1.1, lbs_mem.mpr ⟨(show L'.length ≤ 31 by omega), fun x h => (hx x h).1⟩, pl_all.mpr fun x h => (hx x h).2.1⟩, hlen, h1.2.2.1, h1.2.2.2.1, h1.2.2.2.2.1, pl_all.mpr fun x h => (hx x h).2.2, h1.2.2.2.2.2.2⟩
theorem ws_mem {n : Nat} {T : pv_T} {L : List pv_Lot} (h : ws n (T, L)) : ∀ x ∈ L, lb x ∧ lv_ok x ∧ x.1 < T 405 := fun x hx =>
  ⟨(lbs_mem.mp h.1.2.1).2 x hx, pl_all.mp h.1.2.2 x hx, (pl_all (P := fun x => x.1 < T 405)).mp h.2.2.2.2.2.1 x hx⟩
theorem ws_acc {n : Nat} {T T' : pv_T} {L : List pv_Lot} (h : ws n (T, L)) (e : ∀ i, ¬ (24 ≤ i ∧ i < 64) → i ≠ 410 → i ≠ 411 → T' i = T i) (hp : T' 410 ≤ 1000000) (hl : ∀ k, k < 8 → T' (28 + 5 * k) = T (28 + 5 * k)) (hz : ∀ k, T 405 ≤ k → k < 8 → ∀ w, w < 5 → T' (24 + w + 5 * k) = T (24 + w + 5 * k)) : ws n (T', L) := by
  obtain ⟨⟨⟨t1, t2, t3, t4, t5, t6, t7⟩, hl0, ho⟩, h30, h404, hlk, hk⟩ := h
  have e5 := e 405 (by omega) (by omega) (by omega)
  have e8 := e 408 (by omega) (by omega) (by omega)
  have h10 : T 408 ≤ 10 := t7.2.1
  refine ⟨⟨⟨fun i hi => ?_, fun s hs => ?_, ?_, ?_, hp, pw_of t6 fun i h1 h2 => e i (by omega) (by omega) (by omega), mb_of t7 fun i h1 h2 => e i (by omega) (by omega) (by omega)⟩, hl0, ho⟩, h30, ?_, fun k hk => ?_, fun k h1 h2 w h3 => ?_, fun l hl2 => ?_, fun m hm i hi => ?_⟩
  · show T' i ≤ 200
    rw [e i (by omega) (by omega) (by omega)]; exact t1 i hi
  · show T' (64 + s) ≤ 5000 ∧ T' (67 + s) ≤ 30
    rw [e (64 + s) (by omega) (by omega) (by omega), e (67 + s) (by omega) (by omega) (by omega)]; exact t2 s hs
  · show T' 405 ≤ 8
    rw [e5]; exact t3
  · show 1 ≤ T' 409 ∧ T' 409 ≤ 100
    rw [e 409 (by omega) (by omega) (by omega)]; exact t4
  · show T' 404 ≤ _
    rw [e 404 (by omega) (by omega) (by omega)]; exact h404
  · show T' (28 + 5 * k) ≤ _
    rw [hl k hk]; exact hlk k hk
  · replace h1 : T' 405 ≤ k := h1
    rw [e5] at h1
    show T' (24 + w + 5 * k) = 0
    rw [hz k h1 h2 w h3]
    exact hk.1 k h1 h2 w h3
  · show (pl_g L l).1 < T' 405
    rw [e5]; exact hk.2.1 l hl2
  · replace hm : m < T' 408 := hm
    replace hi : i < T' (314 + m) := hi
    rw [e8] at hm
    rw [e (314 + m) (by omega) (by omega) (by omega)] at hi
    have h4 : T (314 + m) ≤ 4 := (t7.2.2 m hm).1
    show T' (194 + 12 * m + 3 * i) < T' 405 ∧ (T' (196 + 12 * m + 3 * i) = 4294967295 ∨ T' (196 + 12 * m + 3 * i) < T' 405)
    rw [e (194 + 12 * m + 3 * i) (by omega) (by omega) (by omega), e (196 + 12 * m + 3 * i) (by omega) (by omega) (by omega), e5]
    exact hk.2.2 m hm i hi
theorem pt_kind_at {T : pv_T} {a b c i : Nat} : pt_kind T a b c i = if i = 405 then T 405 + 1 else if i = T 405 * 3 + 2 then c else if i = T 405 * 3 + 1 then b else if i = T 405 * 3 then a else T i := rfl
theorem wx_addKind {n : Nat} {X : pv_XS} {a b c : Int32} (h : wx n X) : wx (n + 1) (po_addKind X a b c).2.2 := by
  obtain ⟨⟨T, L⟩, H, B⟩ := X
  unfold po_addKind
  split
  · rename_i e1
    split
    · rename_i e2
      replace e2 : T 405 < 8 := e2
      obtain ⟨a, -, ha, rfl, ea⟩ := pu_in_nI e1.1 (by decide) (by decide)
      obtain ⟨b, -, hb, rfl, eb⟩ := pu_in_nI e1.2.1 (by decide) (by decide)
      obtain ⟨c, -, hc, rfl, ec⟩ := pu_in_nI e1.2.2 (by decide) (by decide)
      show wx (n + 1) (po_push ((T, L), H, B) (pt_kind T (tn (nI a)) (tn (nI b)) (tn (nI c)), L))
      rw [show tn (nI a) = a from ea, show tn (nI b) = b from eb, show tn (nI c) = c from ec]
      refine wx_push h ?_
      have hw : ws n (T, L) := h.1
      obtain ⟨⟨⟨t1, t2, t3, t4, t5, t6, t7⟩, hl, ho⟩, h30, h404, hlk, hk⟩ := hw
      replace h404 : T 404 ≤ 60 * n := h404
      have h10 : T 408 ≤ 10 := t7.2.1
      have e : ∀ i, 24 ≤ i → i ≠ 405 → pt_kind T a b c i = T i := fun i h1 h2 => by rw [pt_kind_at, if_neg h2, if_neg (by omega), if_neg (by omega), if_neg (by omega)]
      have e5 : pt_kind T a b c 405 = T 405 + 1 := by rw [pt_kind_at, if_pos rfl]
      refine ⟨⟨⟨fun i hi => ?_, fun s hs => ?_, ?_, ?_, ?_, pw_of t6 fun i h1 h2 => e i (by omega) (by omega), mb_of t7 fun i h1 h2 => e i (by omega) (by omega)⟩, hl, ho⟩, h30, ?_, fun k hk => ?_, fun k h1 h2 w h3 => ?_, fun l hl2 => ?_, fun m hm i hi => ?_⟩
      · have h1 : T i ≤ 200 := t1 i hi
        show pt_kind T a b c i ≤ 200
        rw [pt_kind_at, if_neg (by omega)]
        split
        · exact hc
        · split
          · exact hb
          · split
            · exact ha
            · exact h1
      · show pt_kind T a b c (64 + s) ≤ 5000 ∧ pt_kind T a b c (67 + s) ≤ 30
        rw [e (64 + s) (by omega) (by omega), e (67 + s) (by omega) (by omega)]; exact t2 s hs
      · show pt_kind T a b c 405 ≤ 8
        rw [e5]; omega
      · show 1 ≤ pt_kind T a b c 409 ∧ pt_kind T a b c 409 ≤ 100
        rw [e 409 (by omega) (by omega)]; exact t4
      · show pt_kind T a b c 410 ≤ 1000000
        rw [e 410 (by omega) (by omega)]; exact t5
      · show pt_kind T a b c 404 ≤ _
        rw [e 404 (by omega) (by omega)]; omega
      · have h4 : T (28 + 5 * k) ≤ 216000 * n := hlk k hk
        show pt_kind T a b c (28 + 5 * k) ≤ 216000 * (n + 1)
        rw [e (28 + 5 * k) (by omega) (by omega)]; omega
      · replace h1 : pt_kind T a b c 405 ≤ k := h1
        rw [e5] at h1
        show pt_kind T a b c (24 + w + 5 * k) = 0
        rw [e (24 + w + 5 * k) (by omega) (by omega)]
        exact hk.1 k (show T 405 ≤ k by omega) h2 w h3
      · have h4 : (pl_g L l).1 < T 405 := hk.2.1 l hl2
        show (pl_g L l).1 < pt_kind T a b c 405
        rw [e5]; omega
      · replace hm : m < pt_kind T a b c 408 := hm
        replace hi : i < pt_kind T a b c (314 + m) := hi
        rw [e 408 (by omega) (by omega)] at hm
        rw [e (314 + m) (by omega) (by omega)] at hi
        have h4 : T (314 + m) ≤ 4 := (t7.2.2 m hm).1
        have h5 : T (194 + 12 * m + 3 * i) < T 405 ∧ (T (196 + 12 * m + 3 * i) = 4294967295 ∨ T (196 + 12 * m + 3 * i) < T 405) := hk.2.2 m hm i hi
        show pt_kind T a b c (194 + 12 * m + 3 * i) < pt_kind T a b c 405 ∧ (pt_kind T a b c (196 + 12 * m + 3 * i) = 4294967295 ∨ pt_kind T a b c (196 + 12 * m + 3 * i) < pt_kind T a b c 405)
        rw [e (194 + 12 * m + 3 * i) (by omega) (by omega), e (196 + 12 * m + 3 * i) (by omega) (by omega), e5]
        omega
    · exact wx_mono h (Nat.le_succ n)
  · exact wx_mono h (Nat.le_succ n)
theorem wx_setRoom {n : Nat} {X : pv_XS} {s r : Int32} (h : wx n X) : wx (n + 1) (po_setRoom X s r).2.2 := by
  obtain ⟨⟨T, L⟩, H, B⟩ := X
  unfold po_setRoom
  split
  · rename_i e1
    split
    · rename_i e2
      split
      · obtain ⟨a, ha, rfl, ea⟩ := pu_has_nI e1 (by decide)
        obtain ⟨b, -, hb, rfl, eb⟩ := pu_in_nI e2 (by decide) (by decide)
        show wx (n + 1) (po_push ((T, L), H, B) (pt_up T (64 + tn (nI a)) (tn (nI b)), L))
        rw [show tn (nI a) = a from ea, show tn (nI b) = b from eb]
        have hw : ws n (T, L) := h.1
        have ht := hw.1.1
        refine wx_push h (ws_T hw (fun i h1 h2 h3 h4 h5 => pt_un (by omega)) (fun s hs => ⟨?_, ?_⟩) ?_ ?_ (pw_of ht.2.2.2.2.2.1 fun i h1 h2 => pt_un (by omega)))
        · by_cases e : s = a
          · rw [e, pt_us]; exact hb
          · rw [pt_un (by omega)]; exact (ht.2.1 s hs).1
        · rw [pt_un (by omega)]; exact (ht.2.1 s hs).2
        · rw [pt_un (by omega)]; exact ht.2.2.2.1
        · rw [pt_un (by omega)]; exact ht.2.2.2.2.1
      · exact wx_mono h (Nat.le_succ n)
    · exact wx_mono h (Nat.le_succ n)
  · exact wx_mono h (Nat.le_succ n)
theorem wx_warm {n : Nat} {X : pv_XS} {s d : Int32} (h : wx n X) : wx (n + 1) (po_warm X s d).2.2 := by
  obtain ⟨⟨T, L⟩, H, B⟩ := X
  unfold po_warm
  split
  · rename_i e1
    split
    · rename_i e2
      obtain ⟨a, ha1, ha, rfl, ea⟩ := pu_in_nI e1 (by decide) (by decide)
      obtain ⟨b, -, hb, rfl, eb⟩ := pu_in_nI e2 (by decide) (by decide)
      show wx (n + 1) (po_push ((T, L), H, B) (pt_up T (67 + tn (nI a)) (tn (nI b)), L))
      rw [show tn (nI a) = a from ea, show tn (nI b) = b from eb]
      have hw : ws n (T, L) := h.1
      have ht := hw.1.1
      refine wx_push h (ws_T hw (fun i h1 h2 h3 h4 h5 => pt_un (by omega)) (fun s hs => ⟨?_, ?_⟩) ?_ ?_ (pw_of ht.2.2.2.2.2.1 fun i h1 h2 => pt_un (by omega)))
      · rw [pt_un (by omega)]; exact (ht.2.1 s hs).1
      · by_cases e : s = a
        · rw [e, pt_us]; exact hb
        · rw [pt_un (by omega)]; exact (ht.2.1 s hs).2
      · rw [pt_un (by omega)]; exact ht.2.2.2.1
      · rw [pt_un (by omega)]; exact ht.2.2.2.2.1
    · exact wx_mono h (Nat.le_succ n)
  · exact wx_mono h (Nat.le_succ n)
theorem wx_setCrew {n : Nat} {X : pv_XS} {a : Int32} (h : wx n X) : wx (n + 1) (po_setCrew X a).2.2 := by
  obtain ⟨⟨T, L⟩, H, B⟩ := X
  unfold po_setCrew
  split
  · rename_i e1
    obtain ⟨a, ha1, ha, rfl, ea⟩ := pu_in_nI e1 (by decide) (by decide)
    show wx (n + 1) (po_push ((T, L), H, B) (pt_up T 409 (tn (nI a)), L))
    rw [show tn (nI a) = a from ea]
    have hw : ws n (T, L) := h.1
    have ht := hw.1.1
    refine wx_push h (ws_T hw (fun i h1 h2 h3 h4 h5 => pt_un (by omega)) (fun s hs => ⟨?_, ?_⟩) ?_ ?_ (pw_of ht.2.2.2.2.2.1 fun i h1 h2 => pt_un (by omega)))
    · rw [pt_un (by omega)]; exact (ht.2.1 s hs).1
    · rw [pt_un (by omega)]; exact (ht.2.1 s hs).2
    · rw [pt_us]; exact ⟨ha1, ha⟩
    · rw [pt_un (by omega)]; exact ht.2.2.2.2.1
  · exact wx_mono h (Nat.le_succ n)
theorem wx_pay {n : Nat} {X : pv_XS} {c : Int32} (h : wx n X) : wx (n + 1) (po_pay X c).2.2 := by
  obtain ⟨⟨T, L⟩, H, B⟩ := X
  unfold po_pay
  split
  · rename_i e1
    replace e1 : 0 ≤ (T 410 : Int) + c.toInt ∧ (T 410 : Int) + c.toInt ≤ 1000000 := e1
    show wx (n + 1) (po_push ((T, L), H, B) (pt_up T 410 ((T 410 : Int) + c.toInt).toNat, L))
    have hw : ws n (T, L) := h.1
    have ht := hw.1.1
    refine wx_push h (ws_T hw (fun i h1 h2 h3 h4 h5 => pt_un (by omega)) (fun s hs => ⟨?_, ?_⟩) ?_ ?_ (pw_of ht.2.2.2.2.2.1 fun i h1 h2 => pt_un (by omega)))
    · rw [pt_un (by omega)]; exact (ht.2.1 s hs).1
    · rw [pt_un (by omega)]; exact (ht.2.1 s hs).2
    · rw [pt_un (by omega)]; exact ht.2.2.2.1
    · rw [pt_us]; omega
  · exact wx_mono h (Nat.le_succ n)
theorem pt_ins_at {T : pv_T} {j d s p x : Nat} (hx : x < 10) (hp : p ≤ T 407) (h8 : T 407 < 8) (hj : j ≤ T 407) : pt_ins T j d s (324 + 10 * p + x) = if p < j then T (324 + 10 * p + x) else if p = j then (if x = 0 then d else if x = 1 then s else 0) else T (314 + 10 * p + x) := by
  unfold pt_ins
  rw [if_neg (show ¬ 324 + 10 * p + x = 407 by omega)]
  by_cases e1 : p < j
  · rw [if_neg (by omega), if_neg (by omega), if_pos e1]
  · rw [if_neg e1]
    by_cases e2 : p = j
    · rw [if_pos (by omega), if_pos e2]
      by_cases e3 : x = 0
      · rw [if_pos (by omega), if_pos e3]
      · rw [if_neg (by omega), if_neg e3]
        by_cases e4 : x = 1
        · rw [if_pos (by omega), if_pos e4]
        · rw [if_neg (by omega), if_neg e4]
    · rw [if_neg (by omega), if_pos (by omega), if_neg e2]
      exact congrArg T (by omega)
theorem pt_rem_at {T : pv_T} {j p x : Nat} (hx : x < 10) (hp : p + 1 < T 407) (h8 : T 407 ≤ 8) : pt_rem T j (324 + 10 * p + x) = if p < j then T (324 + 10 * p + x) else T (334 + 10 * p + x) := by
  unfold pt_rem
  rw [if_neg (show ¬ 324 + 10 * p + x = 407 by omega)]
  by_cases e1 : p < j
  · rw [if_neg (by omega), if_pos e1]
  · rw [if_pos (by omega), if_neg e1]
    exact congrArg T (by omega)
theorem pw_ins {T : pv_T} {d s : Nat} (h : pw T) (h8 : T 407 < 8) (hd : d ≤ 500) (hs : s ≤ 900) (hon : pt_on T d = none) : pw (pt_ins T (pt_place T d) d s) := by
  obtain ⟨q1, q2, q3⟩ := pt_place_is (d := d) h
  generalize pt_place T d = j at q1 q2 q3 ⊢
  have hne : ∀ p, p < T 407 → ¬ T (324 + 10 * p) = d := fun p hp e => by
    have h1 := pf_isnone hon p hp
    rw [pb_t e] at h1
    cases h1
  have e7 : pt_ins T j d s 407 = T 407 + 1 := by unfold pt_ins; rw [if_pos rfl]
  have at0 : ∀ p, p ≤ T 407 → pt_ins T j d s (324 + 10 * p) = if p < j then T (324 + 10 * p) else if p = j then d else T (314 + 10 * p) := fun p hp => pt_ins_at (x := 0) (by omega) hp h8 q1
  have at1 : ∀ p, p ≤ T 407 → pt_ins T j d s (325 + 10 * p) = if p < j then T (325 + 10 * p) else if p = j then s else T (315 + 10 * p) := fun p hp => by
    have := pt_ins_at (T := T) (j := j) (d := d) (s := s) (p := p) (x := 1) (by omega) hp h8 q1
    rw [show 324 + 10 * p + 1 = 325 + 10 * p by omega, show 314 + 10 * p + 1 = 315 + 10 * p by omega] at this
    exact this
  refine ⟨by rw [e7]; omega, fun p hp => ?_, fun a b hab hb => ?_⟩
  · rw [e7] at hp
    rw [at0 p (by omega), at1 p (by omega)]
    have atk : ∀ k, k < 8 → pt_ins T j d s (326 + 10 * p + k) = if p < j then T (326 + 10 * p + k) else if p = j then 0 else T (316 + 10 * p + k) := fun k hk => by
      have := pt_ins_at (T := T) (j := j) (d := d) (s := s) (p := p) (x := 2 + k) (by omega) (by omega) h8 q1
      rw [show 324 + 10 * p + (2 + k) = 326 + 10 * p + k by omega, show 314 + 10 * p + (2 + k) = 316 + 10 * p + k by omega, if_neg (show ¬ 2 + k = 0 by omega), if_neg (show ¬ 2 + k = 1 by omega)] at this
      exact this
    by_cases e1 : p < j
    · have h2 := h.2.1 p (by omega)
      rw [if_pos e1, if_pos e1]
      exact ⟨h2.1, h2.2.1, fun k hk => by rw [atk k hk, if_pos e1]; exact h2.2.2 k hk⟩
    · rw [if_neg e1, if_neg e1]
      by_cases e2 : p = j
      · rw [if_pos e2, if_pos e2]
        exact ⟨hd, hs, fun k hk => by rw [atk k hk, if_neg e1, if_pos e2]; omega⟩
      · rw [if_neg e2, if_neg e2]
        obtain ⟨r, rfl⟩ : ∃ r, p = r + 1 := ⟨p - 1, by omega⟩
        have h2 := h.2.1 r (by omega)
        rw [show 314 + 10 * (r + 1) = 324 + 10 * r by omega, show 315 + 10 * (r + 1) = 325 + 10 * r by omega]
        exact ⟨h2.1, h2.2.1, fun k hk => by rw [atk k hk, if_neg e1, if_neg e2, show 316 + 10 * (r + 1) + k = 326 + 10 * r + k by omega]; exact h2.2.2 k hk⟩
  · rw [e7] at hb
    rw [at0 a (by omega), at0 b (by omega)]
    by_cases e1 : a < j
    · rw [if_pos e1]
      have h1 := q2 a e1
      have h1n := hne a (by omega)
      by_cases e2 : b < j
      · rw [if_pos e2]; exact h.2.2 a b hab (by omega)
      · rw [if_neg e2]
        by_cases e3 : b = j
        · rw [if_pos e3]; omega
        · rw [if_neg e3, show 314 + 10 * b = 324 + 10 * (b - 1) by omega]
          have h2 := q3 (b - 1) (by omega) (by omega)
          omega
    · rw [if_neg e1, if_neg (show ¬ b < j by omega), if_neg (show ¬ b = j by omega), show 314 + 10 * b = 324 + 10 * (b - 1) by omega]
      by_cases e3 : a = j
      · rw [if_pos e3]; exact q3 (b - 1) (by omega) (by omega)
      · rw [if_neg e3, show 314 + 10 * a = 324 + 10 * (a - 1) by omega]
        exact h.2.2 (a - 1) (b - 1) (by omega) (by omega)
theorem wx_addPort {n : Nat} {X : pv_XS} {d s : Int32} (h : wx n X) : wx (n + 1) (po_addPort X d s).2.2 := by
  obtain ⟨⟨T, L⟩, H, B⟩ := X
  unfold po_addPort
  split
  · rename_i e1
    split
    · rename_i e2
      obtain ⟨d, -, hd, rfl, ed⟩ := pu_in_nI e1.1 (by decide) (by decide)
      obtain ⟨s, -, hs, rfl, es⟩ := pu_in_nI e1.2 (by decide) (by decide)
      replace e2 : T 407 < 8 ∧ pt_on T (tn (nI d)) = none := e2
      show wx (n + 1) (po_push ((T, L), H, B) (pt_ins T (pt_place T (tn (nI d))) (tn (nI d)) (tn (nI s)), L))
      rw [show tn (nI d) = d from ed] at e2
      rw [show tn (nI d) = d from ed, show tn (nI s) = s from es]
      have hw : ws n (T, L) := h.1
      have ht := hw.1.1
      have hj : pt_place T d ≤ T 407 := (pt_place_is (d := d) ht.2.2.2.2.2.1).1
      have e : ∀ i, ¬ (324 ≤ i ∧ i < 404) → i ≠ 407 → pt_ins T (pt_place T d) d s i = T i := fun i h1 h2 => by
        have h7 := e2.1
        unfold pt_ins
        rw [if_neg h2, if_neg (by omega), if_neg (by omega)]
      refine wx_push h (ws_T hw (fun i h1 h2 h3 h4 h5 => e i h2 h3) (fun s hs => ⟨?_, ?_⟩) ?_ ?_ (pw_ins ht.2.2.2.2.2.1 e2.1 hd hs e2.2))
      · rw [e _ (by omega) (by omega)]; exact (ht.2.1 s hs).1
      · rw [e _ (by omega) (by omega)]; exact (ht.2.1 s hs).2
      · rw [e _ (by omega) (by omega)]; exact ht.2.2.2.1
      · rw [e _ (by omega) (by omega)]; exact ht.2.2.2.2.1
    · exact wx_mono h (Nat.le_succ n)
  · exact wx_mono h (Nat.le_succ n)
theorem pw_rem {T : pv_T} {j : Nat} (h : pw T) (hj : j < T 407) : pw (pt_rem T j) := by
  have h8 := h.1
  have e7 : pt_rem T j 407 = T 407 - 1 := by unfold pt_rem; rw [if_pos rfl]
  have atx : ∀ p x, x < 10 → p + 1 < T 407 → pt_rem T j (324 + 10 * p + x) = T (324 + 10 * (if p < j then p else p + 1) + x) := fun p x h1 h2 => by
    rw [pt_rem_at h1 h2 h8]
    split
    · rfl
    · exact congrArg T (by omega)
  refine ⟨by rw [e7]; omega, fun p hp => ?_, fun a b hab hb => ?_⟩
  · rw [e7] at hp
    have h2 := h.2.1 (if p < j then p else p + 1) (by split <;> omega)
    rw [show pt_rem T j (324 + 10 * p) = T (324 + 10 * (if p < j then p else p + 1)) from atx p 0 (by omega) (by omega)]
    rw [show 325 + 10 * p = 324 + 10 * p + 1 by omega, atx p 1 (by omega) (by omega)]
    rw [show 324 + 10 * (if p < j then p else p + 1) + 1 = 325 + 10 * (if p < j then p else p + 1) by omega]
    refine ⟨h2.1, h2.2.1, fun k hk => ?_⟩
    rw [show 326 + 10 * p + k = 324 + 10 * p + (2 + k) by omega, atx p (2 + k) (by omega) (by omega), show 324 + 10 * (if p < j then p else p + 1) + (2 + k) = 326 + 10 * (if p < j then p else p + 1) + k by omega]
    exact h2.2.2 k hk
  · rw [e7] at hb
    rw [show pt_rem T j (324 + 10 * a) = T (324 + 10 * (if a < j then a else a + 1)) from atx a 0 (by omega) (by omega), show pt_rem T j (324 + 10 * b) = T (324 + 10 * (if b < j then b else b + 1)) from atx b 0 (by omega) (by omega)]
    refine h.2.2 _ _ ?_ ?_
    · split <;> split <;> omega
    · split <;> omega
theorem wx_removePort {n : Nat} {X : pv_XS} {p : Int32} (h : wx n X) : wx (n + 1) (po_removePort X p).2.2 := by
  obtain ⟨⟨T, L⟩, H, B⟩ := X
  unfold po_removePort
  have hw : ws n (T, L) := h.1
  have ht := hw.1.1
  have h8 : T 407 ≤ 8 := ht.2.2.2.2.2.1.1
  split
  · rename_i e1
    replace e1 : pu_has p (T 407) := e1
    obtain ⟨p, hp, rfl, ep⟩ := pu_has_nI e1 (by omega)
    show wx (n + 1) (po_push ((T, L), H, B) (pt_rem T (tn (nI p)), L))
    rw [show tn (nI p) = p from ep]
    have e : ∀ i, ¬ (324 ≤ i ∧ i < 404) → i ≠ 407 → pt_rem T p i = T i := fun i h1 h2 => by
      unfold pt_rem
      rw [if_neg h2, if_neg (by omega)]
    refine wx_push h (ws_T hw (fun i h1 h2 h3 h4 h5 => e i h2 h3) (fun s hs => ⟨?_, ?_⟩) ?_ ?_ (pw_rem ht.2.2.2.2.2.1 hp))
    · rw [e _ (by omega) (by omega)]; exact (ht.2.1 s hs).1
    · rw [e _ (by omega) (by omega)]; exact (ht.2.1 s hs).2
    · rw [e _ (by omega) (by omega)]; exact ht.2.2.2.1
    · rw [e _ (by omega) (by omega)]; exact ht.2.2.2.2.1
  · exact wx_mono h (Nat.le_succ n)
theorem wx_setPrice {n : Nat} {X : pv_XS} {p k v : Int32} (h : wx n X) : wx (n + 1) (po_setPrice X p k v).2.2 := by
  obtain ⟨⟨T, L⟩, H, B⟩ := X
  unfold po_setPrice
  have hw : ws n (T, L) := h.1
  have ht := hw.1.1
  have h8 : T 407 ≤ 8 := ht.2.2.2.2.2.1.1
  have h5 : T 405 ≤ 8 := ht.2.2.1
  split
  · rename_i e1
    replace e1 : pu_has p (T 407) ∧ pu_has k (T 405) := e1
    split
    · rename_i e2
      obtain ⟨p, hp, rfl, ep⟩ := pu_has_nI e1.1 (by omega)
      obtain ⟨k, hk, rfl, ek⟩ := pu_has_nI e1.2 (by omega)
      obtain ⟨v, -, hv, rfl, ev⟩ := pu_in_nI e2 (by decide) (by decide)
      show wx (n + 1) (po_push ((T, L), H, B) (pt_up T (326 + 10 * tn (nI p) + tn (nI k)) (tn (nI v)), L))
      rw [show tn (nI p) = p from ep, show tn (nI k) = k from ek, show tn (nI v) = v from ev]
      have hpw : pw T := ht.2.2.2.2.2.1
      refine wx_push h (ws_T hw (fun i h1 h2 h3 h4 h5 => pt_un (by omega)) (fun s hs => ⟨?_, ?_⟩) ?_ ?_ ⟨?_, fun q hq => ?_, fun a b hab hb => ?_⟩)
      · rw [pt_un (by omega)]; exact (ht.2.1 s hs).1
      · rw [pt_un (by omega)]; exact (ht.2.1 s hs).2
      · rw [pt_un (by omega)]; exact ht.2.2.2.1
      · rw [pt_un (by omega)]; exact ht.2.2.2.2.1
      · rw [pt_un (by omega)]; exact h8
      · rw [pt_un (by omega)] at hq
        have h2 := hpw.2.1 q hq
        rw [pt_un (by omega), pt_un (by omega)]
        refine ⟨h2.1, h2.2.1, fun c hc => ?_⟩
        by_cases e : 326 + 10 * q + c = 326 + 10 * p + k
        · rw [e, pt_us]; exact hv
        · rw [pt_un e]; exact h2.2.2 c hc
      · rw [pt_un (by omega)] at hb
        rw [pt_un (by omega), pt_un (by omega)]
        exact hpw.2.2 a b hab hb
    · exact wx_mono h (Nat.le_succ n)
  · exact wx_mono h (Nat.le_succ n)
theorem wx_buy {n : Nat} {X : pv_XS} {k a s : Int32} (h : wx n X) : wx (n + 1) (po_buy X k a s).2.2 := by
  obtain ⟨⟨T, L⟩, H, B⟩ := X
  unfold po_buy
  have hw : ws n (T, L) := h.1
  have ht := hw.1.1
  have h5 : T 405 ≤ 8 := ht.2.2.1
  split
  · rename_i e1
    replace e1 : pu_has k (T 405) ∧ pu_has s 3 := e1
    split
    · rename_i e2
      obtain ⟨k, hk, rfl, ek⟩ := pu_has_nI e1.1 (by omega)
      obtain ⟨s, hs, rfl, es⟩ := pu_has_nI e1.2 (by omega)
      obtain ⟨a, ha1, ha, rfl, ea⟩ := pu_in_nI e2 (by decide) (by decide)
      rw [show tn (nI k) = k from ek, show tn (nI s) = s from es, show tn (nI a) = a from ea]
      split
      · rename_i e3
        replace e3 : pt_refuse T L k a s = 0 := e3
        show wx (n + 1) (po_push ((T, L), H, B) (pt_bought (T, L) k a s))
        refine wx_push h ?_
        cases eo : pt_on T (T 404) with
        | none => unfold pt_refuse at e3; rw [eo] at e3; exact absurd (show (1 : Nat) = 0 from e3) (by decide)
        | some p =>
          have h30 : L.length < 30 := by
            unfold pt_refuse at e3
            rw [eo] at e3
            simp only at e3
            by_cases e : 30 ≤ L.length
            · rw [if_pos e] at e3
              repeat' (split at e3)
              all_goals first | omega | exact absurd e3 (by decide)
            · omega
          have hp := pt_on_lt eo
          have hst : T (325 + 10 * p) ≤ 900 := (ht.2.2.2.2.2.1.2.1 p hp).2.1
          have hq : pt_bought (T, L) k a s = (pt_buy T k a (pt_price T p k * a), L ++ [(k, s, a, T (325 + 10 * p))]) := by
            unfold pt_bought
            show (pt_buy T k a (pt_price T ((pt_on T (T 404)).getD 0) k * a), L ++ [(k, s, a, T (325 + 10 * (pt_on T (T 404)).getD 0))]) = _
            rw [eo]
            rfl
          rw [hq]
          have hT : ∀ i, i ≠ 410 → i ≠ 411 → i ≠ 24 + 5 * k → pt_buy T k a (pt_price T p k * a) i = T i := fun i h1 h2 h3 => by
            unfold pt_buy
            rw [pt_un h3, pt_un h2, pt_un h1]
          have h1 : ws n (pt_buy T k a (pt_price T p k * a), L) := by
            refine ws_acc hw (fun i h1 h2 h3 => hT i h2 h3 (by omega)) ?_ (fun q hq => hT _ (by omega) (by omega) (by omega)) (fun q h1 h2 w h3 => hT _ (by omega) (by omega) (by omega))
            unfold pt_buy
            rw [pt_un (by omega), pt_un (by omega), pt_us]
            have := ht.2.2.2.2.1
            show T 410 - _ ≤ _
            replace this : T 410 ≤ 1000000 := this
            omega
          refine ws_L h1 (by rw [List.length_append, List.length_singleton]; omega) fun x hx => ?_
          rcases List.mem_append.mp hx with hx | hx
          · exact ws_mem h1 x hx
          · rw [List.mem_singleton.mp hx, hT 405 (by omega) (by omega) (by omega)]
            exact ⟨⟨show k < 8 by omega, hs, ha, show T (325 + 10 * p) ≤ 2000 by omega⟩, ⟨ha1, show T (325 + 10 * p) < 1000 by omega⟩, hk⟩
      · exact wx_mono h (Nat.le_succ n)
    · exact wx_mono h (Nat.le_succ n)
  · exact wx_mono h (Nat.le_succ n)
theorem wx_move {n : Nat} {X : pv_XS} {l a s : Int32} (h : wx n X) : wx (n + 1) (po_move X l a s).2.2 := by
  obtain ⟨⟨T, L⟩, H, B⟩ := X
  unfold po_move
  have hw : ws n (T, L) := h.1
  have ht := hw.1.1
  have h30 : L.length ≤ 30 := hw.2.1
  split
  · rename_i e1
    replace e1 : pu_has l L.length ∧ pu_has s 3 := e1
    obtain ⟨l, hl, rfl, el⟩ := pu_has_nI e1.1 (by omega)
    obtain ⟨s, hs, rfl, es⟩ := pu_has_nI e1.2 (by omega)
    rw [show tn (nI l) = l from el, show tn (nI s) = s from es]
    have hg0 := ws_mem hw _ (pl_g_mem hl)
    have h2000 : (pl_g L l).2.2.1 ≤ 2000 := hg0.1.2.2.1
    split
    · rename_i e2
      replace e2 : pu_in a 1 (pl_g L l).2.2.1 ∧ ¬ (pl_g L l).2.1 = s := e2
      obtain ⟨a, ha1, ha, rfl, ea⟩ := pu_in_nI e2.1 (by omega) (by have := hg0.2.1.1; omega)
      rw [show tn (nI a) = a from ea]
      split
      · rename_i e3
        replace e3 : ps_in L s + a ≤ T (64 + s) ∧ (a = (pl_g L l).2.2.1 ∨ L.length < 30) := e3
        split
        · show wx (n + 1) (po_push ((T, L), H, B) (T, pl_sto L l s))
          refine wx_push h (ws_L hw (by unfold pl_sto; rw [List.length_set]; exact h30) fun x hx => ?_)
          rcases List.mem_or_eq_of_mem_set hx with hx | rfl
          · exact ws_mem hw x hx
          · exact ⟨⟨hg0.1.1, hs, hg0.1.2.2⟩, hg0.2.1, hg0.2.2⟩
        · rename_i e4
          replace e4 : ¬ a = (pl_g L l).2.2.1 := e4
          show wx (n + 1) (po_push ((T, L), H, B) (T, pl_amt L l ((pl_g L l).2.2.1 - a) ++ [((pl_g L l).1, s, a, (pl_g L l).2.2.2)]))
          refine wx_push h (ws_L hw (by rw [List.length_append, List.length_singleton, pl_amt_len]; omega) fun x hx => ?_)
          rcases List.mem_append.mp hx with hx | hx
          · rcases List.mem_or_eq_of_mem_set hx with hx | rfl
            · exact ws_mem hw x hx
            · exact ⟨⟨hg0.1.1, hg0.1.2.1, show (pl_g L l).2.2.1 - a ≤ 2000 by omega, hg0.1.2.2.2⟩, ⟨show 1 ≤ (pl_g L l).2.2.1 - a by omega, hg0.2.1.2⟩, hg0.2.2⟩
          · rw [List.mem_singleton.mp hx]
            exact ⟨⟨hg0.1.1, hs, show a ≤ 2000 by omega, hg0.1.2.2.2⟩, ⟨ha1, hg0.2.1.2⟩, hg0.2.2⟩
      · exact wx_mono h (Nat.le_succ n)
    · exact wx_mono h (Nat.le_succ n)
  · exact wx_mono h (Nat.le_succ n)
theorem wx_discard {n : Nat} {X : pv_XS} {l a : Int32} (h : wx n X) : wx (n + 1) (po_discard X l a).2.2 := by
  obtain ⟨⟨T, L⟩, H, B⟩ := X
  unfold po_discard
  have hw : ws n (T, L) := h.1
  have ht := hw.1.1
  have h30 : L.length ≤ 30 := hw.2.1
  have h5 : T 405 ≤ 8 := ht.2.2.1
  split
  · rename_i e1
    replace e1 : pu_has l L.length := e1
    obtain ⟨l, hl, rfl, el⟩ := pu_has_nI e1 (by omega)
    rw [show tn (nI l) = l from el]
    have hg0 := ws_mem hw _ (pl_g_mem hl)
    have h2000 : (pl_g L l).2.2.1 ≤ 2000 := hg0.1.2.2.1
    split
    · rename_i e2
      replace e2 : pu_in a 1 (pl_g L l).2.2.1 := e2
      obtain ⟨a, ha1, ha, rfl, ea⟩ := pu_in_nI e2 (by omega) (by have := hg0.2.1.1; omega)
      rw [show tn (nI a) = a from ea]
      show wx (n + 1) (po_push ((T, L), H, B) (pt_thrown (T, L) l a))
      have hk8 := hg0.1.1
      have hk5 := hg0.2.2
      have hT : ∀ i, i ≠ 27 + 5 * (pl_g L l).1 → (pt_thrown (T, L) l a).1 i = T i := fun i h1 => pt_un h1
      have h1 : ws n ((pt_thrown (T, L) l a).1, L) :=
        ws_acc hw (fun i h1 h2 h3 => hT i (by omega)) (by rw [hT 410 (by omega)]; exact ht.2.2.2.2.1) (fun q hq => hT _ (by omega)) (fun q h1 h2 w h3 => hT _ (by omega))
      refine wx_push h (ws_L h1 (Nat.le_trans (pl_drop_le _) (by rw [pl_amt_len]; exact h30)) fun x hx => ?_)
      obtain ⟨hx1, hx2⟩ := List.mem_filter.mp hx
      have hx3 : 0 < x.2.2.1 := Nat.blt_eq.mp hx2
      show lb x ∧ lv_ok x ∧ x.1 < (pt_thrown (T, L) l a).1 405
      rw [hT 405 (by omega)]
      rcases List.mem_or_eq_of_mem_set hx1 with hx1 | rfl
      · exact ws_mem hw x hx1
      · exact ⟨⟨hg0.1.1, hg0.1.2.1, show (pl_g L l).2.2.1 - a ≤ 2000 by omega, hg0.1.2.2.2⟩, ⟨hx3, hg0.2.1.2⟩, hg0.2.2⟩
    · exact wx_mono h (Nat.le_succ n)
  · exact wx_mono h (Nat.le_succ n)
theorem pd_day_len {s : pv_S} (h : dy s) : (pd_day s).2.length ≤ s.2.length := by
  have h1 := (pd_served_ok h).1.2.1
  show (pl_drop ((pd_hungry (pd_served s)).2.map (pd_old (pd_hungry (pd_served s)).1))).length ≤ _
  refine Nat.le_trans (pl_drop_le _) ?_
  rw [List.length_map]
  exact Nat.le_of_eq h1
theorem pd_days_len {s : pv_S} (h : dy s) : ∀ n : Nat, (pd_days s n).2.length ≤ s.2.length
  | 0 => Nat.le_refl _
  | n + 1 => Nat.le_trans (pd_day_len (pd_days_ok h n).1) (pd_days_len h n)
theorem wx_pass {n : Nat} {X : pv_XS} {d : Int32} (h : wx n X) : wx (n + 1) (po_pass X d).2.2 := by
  obtain ⟨⟨T, L⟩, H, B⟩ := X
  unfold po_pass
  split
  · rename_i e1
    obtain ⟨d, hd1, hd, rfl, ed⟩ := pu_in_nI e1 (by decide) (by decide)
    show wx (n + 1) (po_push ((T, L), H, B) (pd_days (T, L) (tn (nI d))))
    rw [show tn (nI d) = d from ed]
    have hw : ws n (T, L) := h.1
    have h2 := pd_days_ok hw.1 d
    have h3 := wk_days hw.1 hw.2.2.2.2 d
    have h4 := pd_days_len hw.1 d
    have h5 := hw.2.1
    have h6 := hw.2.2.1
    replace h5 : L.length ≤ 30 := h5
    replace h4 : (pd_days (T, L) d).2.length ≤ L.length := h4
    refine wx_push h ⟨h2.1, by omega, ?_, fun k hk => ?_, h3.1⟩
    · rw [h2.2.1]
      omega
    · have h7 := (h2.2.2 k hk).2
      have h8 := hw.2.2.2.1 k hk
      omega
  · exact wx_mono h (Nat.le_succ n)
theorem wx_append {n : Nat} {X : pv_XS} {c : Int32} (h : wx n X) : wx (n + 1) (po_append X c).2.2 := by
  obtain ⟨⟨T, L⟩, H, B⟩ := X
  unfold po_append
  split
  · rename_i e1
    split
    · rename_i e2
      replace e2 : B.length < 60 := e2
      obtain ⟨c, hc1, hc, rfl, ec⟩ := pu_in_nI e1 (by decide) (by decide)
      show wx (n + 1) ((T, L), H, B ++ [tn (nI c)])
      rw [show tn (nI c) = c from ec]
      have h1 := wx_mono h (Nat.le_succ n)
      refine ⟨h1.1, h1.2.1, h1.2.2.1, ?_, fun j hj => ?_⟩
      · show (B ++ [c]).length ≤ 60
        rw [List.length_append, List.length_singleton]; omega
      · replace hj : j < (B ++ [c]).length := hj
        rw [List.length_append, List.length_singleton] at hj
        show (B ++ [c]).getD j 0 < 127
        rw [List.getD_eq_getElem?_getD]
        by_cases e : j < B.length
        · rw [List.getElem?_append_left e, ← List.getD_eq_getElem?_getD]
          exact h1.2.2.2.2 j e
        · rw [show j = B.length by omega, List.getElem?_append_right (Nat.le_refl _), Nat.sub_self]
          show c < 127
          omega
    · exact wx_mono h (Nat.le_succ n)
  · exact wx_mono h (Nat.le_succ n)
theorem wx_clear {n : Nat} {X : pv_XS} (h : wx n X) : wx (n + 1) (po_clear X).2.2 := by
  have h1 := wx_mono h (Nat.le_succ n)
  exact ⟨h1.1, h1.2.1, h1.2.2.1, Nat.zero_le _, fun j hj => absurd hj (Nat.not_lt_zero _)⟩
theorem wx_undo {n : Nat} {X : pv_XS} (h : wx n X) : wx (n + 1) (po_undo X).2.2 := by
  have h1 := wx_mono h (Nat.le_succ n)
  unfold po_undo
  split
  · rename_i e
    refine ⟨h1.2.1 _ (by omega), fun j hj => ?_, ?_, h1.2.2.2⟩
    · replace hj : j < X.2.1.dropLast.length := hj
      rw [List.length_dropLast] at hj
      show ws (n + 1) (hg X.2.1.dropLast j)
      rw [hg_last hj]
      exact h1.2.1 j (by omega)
    · show X.2.1.dropLast.length ≤ 6
      rw [List.length_dropLast]
      have := h1.2.2.1
      omega
  · exact h1
theorem wx_load {n : Nat} {X : pv_XS} (h : wx n X) : wx (n + 1) (po_load X).2.2 := by
  have h1 := wx_mono h (Nat.le_succ n)
  unfold po_load
  cases eZ : pz_run (bf X.2.2) X.2.2.length with
  | none => exact h1
  | some Z =>
    show wx (n + 1) (po_loadZ X Z).2.2
    unfold po_loadZ
    split
    · rename_i e1
      split
      · rename_i e2
        obtain ⟨hP, hlow⟩ := pz_run_ok eZ
        obtain ⟨⟨T, L⟩, H, B⟩ := X
        replace e2 : Z.2.2.2.1 ≤ T 405 := e2
        have hw : ws (n + 1) (T, L) := h1.1
        have hl := ((hlow (T 405) hw.1.1.2.2.1).mp e2).1
        obtain ⟨-, hm9, -, -, -, -, hin, -, -⟩ := hP
        refine ⟨?_, wx_hist hw h1.2.1 h1.2.2.1, wx_hlen h1.2.2.1, Nat.zero_le _, fun j hj => absurd hj (Nat.not_lt_zero _)⟩
        show ws (n + 1) (pt_menus T Z, L)
        obtain ⟨⟨⟨t1, t2, t3, t4, t5, t6, t7⟩, hl0, ho⟩, h30, h404, hlk, hk⟩ := hw
        obtain ⟨pp, m, t, hi, W⟩ := Z
        replace hm9 : m ≤ 9 := hm9
        replace hl : ∀ m', m' ≤ m → ∀ i, i < W (120 + m') → W (12 * m' + 3 * i) < T 405 ∧ (W (12 * m' + 3 * i + 2) = 4294967295 ∨ W (12 * m' + 3 * i + 2) < T 405) := hl
        replace hin : ∀ m', m' ≤ m → W (120 + m') ≤ 4 ∧ ∀ i, i < W (120 + m') → pz_in W m' i := hin
        generalize hT : pt_menus T (pp, m, t, hi, W) = T'
        have hT' : ∀ i, T' i = if i = 408 then m + 1 else if 314 ≤ i ∧ i ≤ 314 + m then W (120 + (i - 314)) else if 194 ≤ i ∧ i < 314 ∧ (i - 194) / 12 ≤ m ∧ (i - 194) % 12 / 3 < W (120 + (i - 194) / 12) then W (i - 194) else T i := fun i => by rw [← hT]; rfl
        have e : ∀ i, ¬ (194 ≤ i ∧ i < 324) → i ≠ 408 → T' i = T i := fun i h1 h2 => by rw [hT', if_neg h2, if_neg (by omega), if_neg (by omega)]
        have e8 : T' 408 = m + 1 := by rw [hT', if_pos rfl]
        have e5 : T' 405 = T 405 := e 405 (by omega) (by omega)
        have en : ∀ q, q ≤ m → T' (314 + q) = W (120 + q) := fun q hq => by rw [hT', if_neg (by omega), if_pos (by omega), show 314 + q - 314 = q by omega]
        have ei : ∀ q i w, q ≤ m → i < W (120 + q) → w < 3 → T' (194 + 12 * q + 3 * i + w) = W (12 * q + 3 * i + w) := fun q i w hq hi hw => by
          have h4 := (hin q hq).1
          have hc : (194 + 12 * q + 3 * i + w - 194) % 12 / 3 < W (120 + (194 + 12 * q + 3 * i + w - 194) / 12) := by
            rw [show (194 + 12 * q + 3 * i + w - 194) % 12 / 3 = i by omega, show (194 + 12 * q + 3 * i + w - 194) / 12 = q by omega]
            exact hi
          rw [hT', if_neg (by omega), if_neg (by omega), if_pos ⟨by omega, by omega, by omega, hc⟩, show 194 + 12 * q + 3 * i + w - 194 = 12 * q + 3 * i + w by omega]
        have ei0 : ∀ q i, q ≤ m → i < W (120 + q) → T' (194 + 12 * q + 3 * i) = W (12 * q + 3 * i) := fun q i hq hi => ei q i 0 hq hi (by omega)
        have ei1 : ∀ q i, q ≤ m → i < W (120 + q) → T' (195 + 12 * q + 3 * i) = W (12 * q + 3 * i + 1) := fun q i hq hi => by rw [← ei q i 1 hq hi (by omega)]; exact congrArg T' (by omega)
        have ei2 : ∀ q i, q ≤ m → i < W (120 + q) → T' (196 + 12 * q + 3 * i) = W (12 * q + 3 * i + 2) := fun q i hq hi => by rw [← ei q i 2 hq hi (by omega)]; exact congrArg T' (by omega)
        refine ⟨⟨⟨fun i hi => ?_, fun s hs => ?_, ?_, ?_, ?_, pw_of t6 fun i h1 h2 => e i (by omega) (by omega), ⟨?_, ?_, fun q hq => ?_⟩⟩, hl0, ho⟩, h30, ?_, fun k hk => ?_, fun k h1 h2 w h3 => ?_, fun l hl2 => ?_, fun q hq i hi => ?_⟩
        · show T' i ≤ 200
          rw [e i (by omega) (by omega)]; exact t1 i hi
        · show T' (64 + s) ≤ 5000 ∧ T' (67 + s) ≤ 30
          rw [e (64 + s) (by omega) (by omega), e (67 + s) (by omega) (by omega)]; exact t2 s hs
        · show T' 405 ≤ 8
          rw [e5]; exact t3
        · show 1 ≤ T' 409 ∧ T' 409 ≤ 100
          rw [e 409 (by omega) (by omega)]; exact t4
        · show T' 410 ≤ 1000000
          rw [e 410 (by omega) (by omega)]; exact t5
        · show 1 ≤ T' 408
          rw [e8]; omega
        · show T' 408 ≤ 10
          rw [e8]; omega
        · replace hq : q < T' 408 := hq
          rw [e8] at hq
          show T' (314 + q) ≤ 4 ∧ ∀ i, i < T' (314 + q) → T' (194 + 12 * q + 3 * i) < 8 ∧ 1 ≤ T' (195 + 12 * q + 3 * i) ∧ T' (195 + 12 * q + 3 * i) ≤ 9 ∧ (T' (196 + 12 * q + 3 * i) = 4294967295 ∨ T' (196 + 12 * q + 3 * i) < 8)
          rw [en q (by omega)]
          refine ⟨(hin q (by omega)).1, fun i hi => ?_⟩
          rw [ei0 q i (by omega) hi, ei1 q i (by omega) hi, ei2 q i (by omega) hi]
          exact (hin q (by omega)).2 i hi
        · show T' 404 ≤ _
          rw [e 404 (by omega) (by omega)]; exact h404
        · show T' (28 + 5 * k) ≤ _
          rw [e (28 + 5 * k) (by omega) (by omega)]; exact hlk k hk
        · replace h1 : T' 405 ≤ k := h1
          rw [e5] at h1
          show T' (24 + w + 5 * k) = 0
          rw [e (24 + w + 5 * k) (by omega) (by omega)]
          exact hk.1 k h1 h2 w h3
        · show (pl_g L l).1 < T' 405
          rw [e5]; exact hk.2.1 l hl2
        · replace hq : q < T' 408 := hq
          replace hi : i < T' (314 + q) := hi
          rw [e8] at hq
          rw [en q (by omega)] at hi
          show T' (194 + 12 * q + 3 * i) < T' 405 ∧ (T' (196 + 12 * q + 3 * i) = 4294967295 ∨ T' (196 + 12 * q + 3 * i) < T' 405)
          rw [e5, ei0 q i (by omega) hi, ei2 q i (by omega) hi]
          exact hl q (by omega) i hi
      · exact h1
    · exact h1
theorem wq_lot {X : pv_XS} {a b : Int32} : (po_lot X a b).2.2 = X := by
  unfold po_lot
  repeat' split
  all_goals rfl
theorem wx_lot {n : Nat} {X : pv_XS} {a b : Int32} (h : wx n X) : wx (n + 1) (po_lot X a b).2.2 := by
  rw [wq_lot]
  exact wx_mono h (Nat.le_succ n)
theorem wq_store {X : pv_XS} {a b : Int32} : (po_store X a b).2.2 = X := by
  unfold po_store
  repeat' split
  all_goals rfl
theorem wx_store {n : Nat} {X : pv_XS} {a b : Int32} (h : wx n X) : wx (n + 1) (po_store X a b).2.2 := by
  rw [wq_store]
  exact wx_mono h (Nat.le_succ n)
theorem wq_kind {X : pv_XS} {a b : Int32} : (po_kind X a b).2.2 = X := by
  unfold po_kind
  repeat' split
  all_goals rfl
theorem wx_kind {n : Nat} {X : pv_XS} {a b : Int32} (h : wx n X) : wx (n + 1) (po_kind X a b).2.2 := by
  rw [wq_kind]
  exact wx_mono h (Nat.le_succ n)
theorem wq_port {X : pv_XS} {a b : Int32} : (po_port X a b).2.2 = X := by
  unfold po_port
  repeat' split
  all_goals rfl
theorem wx_port {n : Nat} {X : pv_XS} {a b : Int32} (h : wx n X) : wx (n + 1) (po_port X a b).2.2 := by
  rw [wq_port]
  exact wx_mono h (Nat.le_succ n)
theorem wq_menu {X : pv_XS} {a b c : Int32} : (po_menu X a b c).2.2 = X := by
  unfold po_menu
  repeat' split
  all_goals rfl
theorem wx_menu {n : Nat} {X : pv_XS} {a b c : Int32} (h : wx n X) : wx (n + 1) (po_menu X a b c).2.2 := by
  rw [wq_menu]
  exact wx_mono h (Nat.le_succ n)
theorem wq_count {X : pv_XS} {a : Int32} : (po_count X a).2.2 = X := by
  unfold po_count
  repeat' split
  all_goals rfl
theorem wx_count {n : Nat} {X : pv_XS} {a : Int32} (h : wx n X) : wx (n + 1) (po_count X a).2.2 := by
  rw [wq_count]
  exact wx_mono h (Nat.le_succ n)
theorem wq_why {X : pv_XS} {a b c : Int32} : (po_why X a b c).2.2 = X := by
  unfold po_why
  repeat' split
  all_goals rfl
theorem wx_why {n : Nat} {X : pv_XS} {a b c : Int32} (h : wx n X) : wx (n + 1) (po_why X a b c).2.2 := by
  rw [wq_why]
  exact wx_mono h (Nat.le_succ n)
theorem wq_ifPass {X : pv_XS} {a b : Int32} : (po_ifPass X a b).2.2 = X := by
  unfold po_ifPass
  repeat' split
  all_goals rfl
theorem wx_ifPass {n : Nat} {X : pv_XS} {a b : Int32} (h : wx n X) : wx (n + 1) (po_ifPass X a b).2.2 := by
  rw [wq_ifPass]
  exact wx_mono h (Nat.le_succ n)
theorem wq_spoils {X : pv_XS} {a b : Int32} : (po_spoils X a b).2.2 = X := by
  unfold po_spoils
  repeat' split
  all_goals rfl
theorem wx_spoils {n : Nat} {X : pv_XS} {a b : Int32} (h : wx n X) : wx (n + 1) (po_spoils X a b).2.2 := by
  rw [wq_spoils]
  exact wx_mono h (Nat.le_succ n)
theorem wq_shortIn {X : pv_XS} {a : Int32} : (po_shortIn X a).2.2 = X := by
  unfold po_shortIn
  repeat' split
  all_goals rfl
theorem wx_shortIn {n : Nat} {X : pv_XS} {a : Int32} (h : wx n X) : wx (n + 1) (po_shortIn X a).2.2 := by
  rw [wq_shortIn]
  exact wx_mono h (Nat.le_succ n)
theorem wq_bestStore {X : pv_XS} {a : Int32} : (po_best X a).2.2 = X := by
  unfold po_best
  repeat' split
  all_goals rfl
theorem wx_bestStore {n : Nat} {X : pv_XS} {a : Int32} (h : wx n X) : wx (n + 1) (po_best X a).2.2 := by
  rw [wq_bestStore]
  exact wx_mono h (Nat.le_succ n)
theorem wq_leastPurchase {X : pv_XS} {a b : Int32} : (po_least X a b).2.2 = X := by
  unfold po_least
  repeat' split
  all_goals rfl
theorem wx_leastPurchase {n : Nat} {X : pv_XS} {a b : Int32} (h : wx n X) : wx (n + 1) (po_least X a b).2.2 := by
  rw [wq_leastPurchase]
  exact wx_mono h (Nat.le_succ n)
theorem wq_cheapest {X : pv_XS} {a : Int32} : (po_cheap X a).2.2 = X := by
  unfold po_cheap
  repeat' split
  all_goals rfl
theorem wx_cheapest {n : Nat} {X : pv_XS} {a : Int32} (h : wx n X) : wx (n + 1) (po_cheap X a).2.2 := by
  rw [wq_cheapest]
  exact wx_mono h (Nat.le_succ n)
theorem wq_firstError {X : pv_XS} : (po_first X).2.2 = X := by
  unfold po_first
  rfl
theorem wx_firstError {n : Nat} {X : pv_XS} (h : wx n X) : wx (n + 1) (po_first X).2.2 := by
  rw [wq_firstError]
  exact wx_mono h (Nat.le_succ n)
