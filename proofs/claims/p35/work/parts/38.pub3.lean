/-! The class: its calls that ask. -/
theorem pu_out {x : Int32} {b : Nat} (h : ¬ pu_in x 0 b) (hb : b < 2147483648) : x.toInt < 0 ∨ (b : Int) < x.toInt := by
  unfold pu_in at h
  rw [Int32.le_iff_toInt_le, Int32.le_iff_toInt_le, nI_toInt hb, nI_toInt (n := 0) (by omega)] at h
  omega
set_option maxRecDepth 100000 in
set_option maxHeartbeats 4000000 in
theorem s_X9_why {Q : pv_Q} {E : pv_E} {d bc bs : Nat} {J : pv_JT} {I : pv_IT} {T : pv_T} {L : List pv_Lot} {H : List pv_S} {B : List Nat} {n : Nat} {k0 a0 s0 : Int32} (hD : 8 ≤ d) (hCA : CA I ((T, L), H, B)) (hw : wx n ((T, L), H, B)) (hn : n ≤ 600) (hbc : 6 ≤ bc) (hbs : 36 ≤ bs) (h : po_ok Q I J [pv_xIO, pv_xIA] (po_why ((T, L), H, B) k0 a0 s0)) : pv_X (pv_ZQ E Q) E d bc bs mX9_why 0 [(0, .ref (0)), (1, .int (k0)), (2, .int (a0)), (3, .int (s0))] [] pv_K0 pv_P0 I J := by
  obtain ⟨hC, hH, hB⟩ := id hCA
  replace hC : CR I 1 T L := hC
  replace hH : HR I H := hH
  replace hB : TXc I B := hB
  have hdy : dy (T, L) := hw.1.1
  have htb : tb T := hdy.1
  have hlb : lbs L := hdy.2.1
  have h31 : L.length ≤ 31 := hlb.1
  have h30 : L.length ≤ 30 := hw.1.2.1
  have h404 : T 404 ≤ 60 * n := hw.1.2.2.1
  have hn8 : T 405 ≤ 8 := htb.2.2.1
  have hp8 : T 407 ≤ 8 := htb.2.2.2.2.2.1.1
  have h10 : T 408 ≤ 10 := htb.2.2.2.2.2.2.2.1
  refine px_aload_n dX9_why_0 rfl ?_
  refine px_iload_n dX9_why_1 rfl ?_
  refine c_X9_requireKind dX9_why_2 mlX9_147 (by omega) hC (by omega) (by omega) (by omega) (Nat.le_of_ble_eq_true rfl) ⟨fun ha => ?_, fun ha => ?_⟩
  refine px_iload_n dX9_why_5 rfl ?_
  refine c_X9_requireStore dX9_why_6 mlX9_62 (by omega)  (by omega) (by omega) (Nat.le_of_ble_eq_true rfl) ⟨fun hs => ?_, fun hs => ?_⟩
  have hab := And.intro ha hs
  obtain ⟨k, k1, rfl, k3⟩ := pu_has_nI ha (by omega)
  obtain ⟨s, s1, rfl, s3⟩ := pu_has_nI hs (by omega)
  refine px_iload_n dX9_why_9 rfl ?_
  refine px_iconst (v := nI 1) dX9_why_10 (by decide) ?_
  refine px_sipush (v := nI 2000) dX9_why_11 (by decide) ?_
  refine c_X9_requireWithin dX9_why_14 mlX9_33 (by omega)  (by omega) (by omega) (Nat.le_of_ble_eq_true rfl) ⟨fun hm => ?_, fun hm => ?_⟩
  obtain ⟨a, a1, a2, rfl, a3⟩ := pu_in_nI hm (by omega) (by omega)
  refine px_aload_n dX9_why_17 rfl ?_
  refine px_getR dX9_why_18 flX9_10 pv_s_main (by decide) (by decide) rfl pv_k_main pv_p_0_0 ?_
  refine px_iload_n dX9_why_21 rfl ?_
  refine px_iload_n dX9_why_22 rfl ?_
  refine px_iload_n dX9_why_23 rfl ?_
  refine c_X7_refusal dX9_why_24 mlX9_156 (by omega) pv_ship_1 hC htb (by omega) (by omega) (by omega) (by omega) (Nat.le_of_ble_eq_true rfl) ?_
  exact px_iret dX9_why_27 rfl (Or.inl rfl) (po_same (by unfold po_why at h; simp only [tn, k3, s3, a3] at h; rw [if_pos hab] at h; rw [if_pos hm] at h; exact h) hCA)
  exact py_out rfl (Or.inl rfl) (po_exc (by unfold po_why at h; simp only [tn, k3, s3] at h; rw [if_pos hab] at h; rw [if_neg hm] at h; exact h) hCA)
  exact py_out rfl (Or.inl rfl) (po_exc (by unfold po_why at h; rw [if_neg (fun z => hs z.2)] at h; exact h) hCA)
  exact py_out rfl (Or.inl rfl) (po_exc (by unfold po_why at h; rw [if_neg (fun z => ha z.1)] at h; exact h) hCA)
theorem c_X9_why {z : pv_Z} {E : pv_E} {d bc bs : Nat} {J : pv_JT} {I : pv_IT} {mi : pv_MI} {pc idx : Nat} {lv : pv_LV} {st : List Value} {T : pv_T} {L : List pv_Lot} {H : List pv_S} {B : List Nat} {n : Nat} {k0 a0 s0 : Int32} (hd : decode mi.2.1 pc = .ok (.invokevirtual idx, 3)) (hlk : Cond.methodLink mi.1.cls idx mX9_why.1 ∈ pv_W) (hD : 8+1 ≤ d) (hCA : CA I ((T, L), H, B)) (hw : wx n ((T, L), H, B)) (hn : n ≤ 600) (hbc : 6 ≤ bc) (hbs : 36 ≤ bs) (hcat : (st.map fun v => v.category).sum ≤ 8) (K : po_ok (pv_K z E d (bc - 6) (bs - 36) mi pc lv st) I J [pv_xIO, pv_xIA] (po_why ((T, L), H, B) k0 a0 s0)) : pv_X z E d bc bs mi pc lv (.int (s0) :: .int (a0) :: .int (k0) :: .ref (0) :: st) pv_K0 pv_P0 I J := by
  obtain ⟨bc, rfl⟩ : ∃ b0, bc = 6 + b0 := ⟨bc - 6, by omega⟩
  obtain ⟨bs, rfl⟩ : ∃ b0, bs = 36 + b0 := ⟨bs - 36, by omega⟩
  rw [show 6 + bc - 6 = bc by omega, show 36 + bs - 36 = bs by omega] at K
  obtain ⟨d, rfl⟩ : ∃ d0, d = d0 + 1 := ⟨d - 1, by omega⟩
  have key := px_callV (bc := bc) (bs := bs) (bc1 := 6) (bs1 := 36) (as := [.int (k0), .int (a0), .int (s0)]) (E := E) (z := z) (lv := lv) hd mvX9_why hlk pv_s_main (by decide) rfl pv_k_main rfl rfl hcat (by exact Nat.le_of_ble_eq_true rfl) (s_X9_why (by omega) hCA hw hn (Nat.le_refl _) (Nat.le_refl _) K)
  exact key
