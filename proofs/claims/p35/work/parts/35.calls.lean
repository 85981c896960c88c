/-! What each call answers, as numbers. -/
abbrev tn (x : Int32) : Nat := x.toNatClampNeg
def po_push (X : pv_XS) (s : pv_S) : pv_XS := (s, h_push X.2.1 X.1, X.2.2)
def pt_sum (T : pv_T) (w n : Nat) : Nat := pn_sum (fun k => T (24 + w + 5 * k)) n
def po_addKind (X : pv_XS) (a b c : Int32) : pv_RS := if pu_in a 0 200 ∧ pu_in b 0 200 ∧ pu_in c 0 200 then (if X.1.1 405 < 8 then (0, nI (X.1.1 405), po_push X (pt_kind X.1.1 (tn a) (tn b) (tn c), X.1.2)) else (2, 0, X)) else (1, 0, X)
def po_setRoom (X : pv_XS) (s r : Int32) : pv_RS := if pu_has s 3 then (if pu_in r 0 5000 then (if ps_in X.1.2 (tn s) ≤ tn r then (0, nI (X.1.1 (64 + tn s)), po_push X (pt_up X.1.1 (64 + tn s) (tn r), X.1.2)) else (3, 0, X)) else (2, 0, X)) else (1, 0, X)
def po_warm (X : pv_XS) (s d : Int32) : pv_RS := if pu_in s 1 2 then (if pu_in d 0 30 then (0, nI (X.1.1 (67 + tn s)), po_push X (pt_up X.1.1 (67 + tn s) (tn d), X.1.2)) else (2, 0, X)) else (1, 0, X)
def po_setCrew (X : pv_XS) (a : Int32) : pv_RS := if pu_in a 1 100 then (0, nI (X.1.1 409), po_push X (pt_up X.1.1 409 (tn a), X.1.2)) else (1, 0, X)
def po_pay (X : pv_XS) (c : Int32) : pv_RS := if 0 ≤ (X.1.1 410 : Int) + c.toInt ∧ (X.1.1 410 : Int) + c.toInt ≤ 1000000 then (0, nI ((X.1.1 410 : Int) + c.toInt).toNat, po_push X (pt_up X.1.1 410 ((X.1.1 410 : Int) + c.toInt).toNat, X.1.2)) else (1, 0, X)
def po_addPort (X : pv_XS) (d s : Int32) : pv_RS := if pu_in d 0 500 ∧ pu_in s 0 900 then (if X.1.1 407 < 8 ∧ pt_on X.1.1 (tn d) = none then (0, nI (pt_place X.1.1 (tn d)), po_push X (pt_ins X.1.1 (pt_place X.1.1 (tn d)) (tn d) (tn s), X.1.2)) else (2, 0, X)) else (1, 0, X)
def po_removePort (X : pv_XS) (p : Int32) : pv_RS := if pu_has p (X.1.1 407) then (0, nI (X.1.1 (324 + 10 * tn p)), po_push X (pt_rem X.1.1 (tn p), X.1.2)) else (1, 0, X)
def po_setPrice (X : pv_XS) (p k v : Int32) : pv_RS := if pu_has p (X.1.1 407) ∧ pu_has k (X.1.1 405) then (if pu_in v 0 100 then (0, nI (pt_price X.1.1 (tn p) (tn k)), po_push X (pt_up X.1.1 (326 + 10 * tn p + tn k) (tn v), X.1.2)) else (2, 0, X)) else (1, 0, X)
def pt_bought (s : pv_S) (k a st : Nat) : pv_S := (pt_buy s.1 k a (pt_price s.1 ((pt_on s.1 (s.1 404)).getD 0) k * a), s.2 ++ [(k, st, a, s.1 (325 + 10 * (pt_on s.1 (s.1 404)).getD 0))])
def po_buy (X : pv_XS) (k a s : Int32) : pv_RS := if pu_has k (X.1.1 405) ∧ pu_has s 3 then (if pu_in a 1 2000 then (if pt_refuse X.1.1 X.1.2 (tn k) (tn a) (tn s) = 0 then (0, nI X.1.2.length, po_push X (pt_bought X.1 (tn k) (tn a) (tn s))) else (3, 0, X)) else (2, 0, X)) else (1, 0, X)
def pl_sto (L : List pv_Lot) (l s : Nat) : List pv_Lot := L.set l ((pl_g L l).1, s, (pl_g L l).2.2.1, (pl_g L l).2.2.2)
def po_move (X : pv_XS) (l a s : Int32) : pv_RS := if pu_has l X.1.2.length ∧ pu_has s 3 then (if pu_in a 1 (pl_g X.1.2 (tn l)).2.2.1 ∧ ¬ (pl_g X.1.2 (tn l)).2.1 = tn s then (if ps_in X.1.2 (tn s) + tn a ≤ X.1.1 (64 + tn s) ∧ (tn a = (pl_g X.1.2 (tn l)).2.2.1 ∨ X.1.2.length < 30) then (if tn a = (pl_g X.1.2 (tn l)).2.2.1 then (0, nI (tn l), po_push X (X.1.1, pl_sto X.1.2 (tn l) (tn s))) else (0, nI X.1.2.length, po_push X (X.1.1, pl_amt X.1.2 (tn l) ((pl_g X.1.2 (tn l)).2.2.1 - tn a) ++ [((pl_g X.1.2 (tn l)).1, tn s, tn a, (pl_g X.1.2 (tn l)).2.2.2)]))) else (3, 0, X)) else (2, 0, X)) else (1, 0, X)
def pt_thrown (s : pv_S) (l a : Nat) : pv_S := (pt_up s.1 (27 + 5 * (pl_g s.2 l).1) (s.1 (27 + 5 * (pl_g s.2 l).1) + a), pl_drop (pl_amt s.2 l ((pl_g s.2 l).2.2.1 - a)))
def po_discard (X : pv_XS) (l a : Int32) : pv_RS := if pu_has l X.1.2.length then (if pu_in a 1 (pl_g X.1.2 (tn l)).2.2.1 then (0, nI (ps_all (pt_thrown X.1 (tn l) (tn a)).2), po_push X (pt_thrown X.1 (tn l) (tn a))) else (2, 0, X)) else (1, 0, X)
def po_pass (X : pv_XS) (d : Int32) : pv_RS := if pu_in d 1 60 then (0, nI (pt_sum (pd_days X.1 (tn d)).1 2 8) - nI (pt_sum X.1.1 2 8), po_push X (pd_days X.1 (tn d))) else (1, 0, X)
def po_append (X : pv_XS) (c : Int32) : pv_RS := if pu_in c 33 126 then (if X.2.2.length < 60 then (0, nI (X.2.2.length + 1), X.1, X.2.1, X.2.2 ++ [tn c]) else (2, 0, X)) else (1, 0, X)
def po_clear (X : pv_XS) : pv_RS := (0, nI X.2.2.length, X.1, X.2.1, [])
def po_first (X : pv_XS) : pv_RS := (0, nI (pz_err (bf X.2.2) X.2.2.length), X)
def pt_menus (T : pv_T) (Z : pv_Zp) : pv_T := fun i => if i = 408 then Z.2.1 + 1 else if 314 ≤ i ∧ i ≤ 314 + Z.2.1 then Z.2.2.2.2 (120 + (i - 314)) else if 194 ≤ i ∧ i < 314 ∧ (i - 194) / 12 ≤ Z.2.1 ∧ (i - 194) % 12 / 3 < Z.2.2.2.2 (120 + (i - 194) / 12) then Z.2.2.2.2 (i - 194) else T i
def pz_whole (Z : pv_Zp) : Prop := Z.1 = 1 ∨ Z.1 = 5 ∨ Z.1 = 7
def po_loadZ (X : pv_XS) (Z : pv_Zp) : pv_RS := if Z.1 = 1 ∨ Z.1 = 5 ∨ Z.1 = 7 then (if Z.2.2.2.1 ≤ X.1.1 405 then (0, nI (Z.2.1 + 1), (pt_menus X.1.1 Z, X.1.2), h_push X.2.1 X.1, []) else (2, 0, X)) else (1, 0, X)
def po_load (X : pv_XS) : pv_RS := match pz_run (bf X.2.2) X.2.2.length with
  | some Z => po_loadZ X Z
  | none => (1, 0, X)
def po_undo (X : pv_XS) : pv_RS := if 1 ≤ X.2.1.length then (0, nI (X.2.1.length - 1), hg X.2.1 (X.2.1.length - 1), X.2.1.dropLast, X.2.2) else (1, 0, X)
def pt_lot (s : pv_S) (l w : Nat) : Nat := if w = 0 then (pl_g s.2 l).1 else if w = 1 then (pl_g s.2 l).2.1 else if w = 2 then (pl_g s.2 l).2.2.1 else if w = 3 then (pl_g s.2 l).2.2.2 else if w = 4 then pt_left s.1 (pl_g s.2 l) else pt_eatp s.1 s.2 l
def po_lot (X : pv_XS) (l w : Int32) : pv_RS := if pu_has l X.1.2.length then (if pu_in w 0 5 then (0, nI (pt_lot X.1 (tn l) (tn w)), X) else (2, 0, X)) else (1, 0, X)
def pt_store (s : pv_S) (t w : Nat) : Nat := if w = 0 then s.1 (64 + t) else if w = 1 then ps_in s.2 t else if w = 2 then ps_nin s.2 t else s.1 (67 + t)
def po_store (X : pv_XS) (t w : Int32) : pv_RS := if pu_has t 3 then (if pu_in w 0 3 then (0, nI (pt_store X.1 (tn t) (tn w)), X) else (2, 0, X)) else (1, 0, X)
def pt_kindv (s : pv_S) (k w : Nat) : Nat := if w < 3 then s.1 (k * 3 + w) else if w = 7 then ps_of s.2 k else if w = 8 then s.1 (28 + 5 * k) else if w = 9 then ps_nof s.2 k else s.1 (24 + (w - 3) + 5 * k)
def po_kind (X : pv_XS) (k w : Int32) : pv_RS := if pu_has k (X.1.1 405) then (if pu_in w 0 9 then (0, nI (pt_kindv X.1 (tn k) (tn w)), X) else (2, 0, X)) else (1, 0, X)
def pt_port (s : pv_S) (p w : Nat) : Nat := s.1 (324 + 10 * p + (if w < 2 then w else w - 8))
def po_port (X : pv_XS) (p w : Int32) : pv_RS := if pu_has p (X.1.1 407) then (if pu_in w 0 1 ∨ (nI 10 ≤ w ∧ w < nI (10 + X.1.1 405)) then (0, nI (pt_port X.1 (tn p) (tn w)), X) else (2, 0, X)) else (1, 0, X)
def pt_menu (s : pv_S) (m i w : Nat) : Nat := if i < s.1 (314 + m) then s.1 (194 + 12 * m + 3 * i + w) else 4294967295
def po_menu (X : pv_XS) (m i w : Int32) : pv_RS := if pu_has m (X.1.1 408) ∧ pu_has i 4 then (if pu_in w 0 2 then (0, nI (pt_menu X.1 (tn m) (tn i) (tn w)), X) else (2, 0, X)) else (1, 0, X)
def pt_count (X : pv_XS) (w : Nat) : Int32 := if w = 0 then nI (X.1.1 404) else if w = 1 then nI (X.1.1 405) else if w = 2 then nI X.1.2.length else if w = 3 then nI (X.1.1 407) else if w = 4 then nI (X.1.1 408) else if w < 9 then nI (X.1.1 (404 + w)) else if w = 9 then nI X.2.1.length else if w = 10 then oI (pt_on X.1.1 (X.1.1 404)) else if w = 11 then oI (pt_aft X.1.1 (X.1.1 404)) else nI (ps_all X.1.2)
def po_count (X : pv_XS) (w : Int32) : pv_RS := if pu_in w 0 12 then (0, pt_count X (tn w), X) else (1, 0, X)
def po_why (X : pv_XS) (k a s : Int32) : pv_RS := if pu_has k (X.1.1 405) ∧ pu_has s 3 then (if pu_in a 1 2000 then (0, nI (pt_refuse X.1.1 X.1.2 (tn k) (tn a) (tn s)), X) else (2, 0, X)) else (1, 0, X)
def pt_ahead (s : pv_S) (d w : Nat) : Int32 := if w = 0 then nI (pt_sum (pd_days s d).1 1 8) - nI (pt_sum s.1 1 8) else if w = 1 then nI (pt_sum (pd_days s d).1 2 8) - nI (pt_sum s.1 2 8) else if w = 2 then nI (pt_sum (pd_days s d).1 4 8) - nI (pt_sum s.1 4 8) else if w = 3 then nI ((pd_days s d).1 412) - nI (s.1 412) else nI (ps_all (pd_days s d).2)
def po_ifPass (X : pv_XS) (d w : Int32) : pv_RS := if pu_in d 1 60 ∧ pu_in w 0 4 then (0, pt_ahead X.1 (tn d) (tn w), X) else (1, 0, X)
def po_spoils (X : pv_XS) (k d : Int32) : pv_RS := if pu_has k (X.1.1 405) then (if pu_in d 1 60 then (0, nI ((pd_days X.1 (tn d)).1 (26 + 5 * tn k)) - nI (X.1.1 (26 + 5 * tn k)), X) else (2, 0, X)) else (1, 0, X)
def po_shortIn (X : pv_XS) (k : Int32) : pv_RS := if pu_has k (X.1.1 405) then (0, oI (pt_short X.1 (tn k) 60), X) else (1, 0, X)
def pt_bestN (T : pv_T) (k : Nat) : Nat → Option Nat × Nat
  | 0 => (none, 0)
  | s + 1 => if (pt_bestN T k s).2 < pt_now T k s then (some s, pt_now T k s) else pt_bestN T k s
def pt_best (T : pv_T) (k : Nat) : Option Nat := (pt_bestN T k 3).1
def po_best (X : pv_XS) (k : Int32) : pv_RS := if pu_has k (X.1.1 405) then (0, oI (pt_best X.1.1 (tn k)), X) else (1, 0, X)
def pt_tried (s : pv_S) (k t j : Nat) : pv_S := (s.1, if 0 < j then s.2 ++ [(k, t, 10 * j, 0)] else s.2)
def pt_least (s : pv_S) (k t : Nat) : Option Nat := pf_first (fun j => (pt_short (pt_tried s k t j) k (pt_wait s.1)).isNone) 101
def oI10 : Option Nat → Int32
  | none => -1
  | some j => nI (10 * j)
def po_least (X : pv_XS) (k t : Int32) : pv_RS := if pu_has k (X.1.1 405) ∧ pu_has t 3 then (0, oI10 (pt_least X.1 (tn k) (tn t)), X) else (1, 0, X)
def pt_cheapN (T : pv_T) (k : Nat) : Nat → Option Nat
  | 0 => none
  | p + 1 => if T 404 ≤ T (324 + 10 * p) ∧ 0 < pt_price T p k then (match pt_cheapN T k p with
      | none => some p
      | some b => if pt_price T p k < pt_price T b k then some p else some b) else pt_cheapN T k p
def po_cheap (X : pv_XS) (k : Int32) : pv_RS := if pu_has k (X.1.1 405) then (0, oI (pt_cheapN X.1.1 (tn k) (X.1.1 407)), X) else (1, 0, X)
/-- what holds of a state between calls, after at most n of them -/
def ws (n : Nat) (s : pv_S) : Prop := dy s ∧ s.2.length ≤ 30 ∧ s.1 404 ≤ 60 * n ∧ (∀ k, k < 8 → s.1 (28 + 5 * k) ≤ 216000 * n) ∧ (∀ k, s.1 405 ≤ k → k < 8 → ∀ w, w < 5 → s.1 (24 + w + 5 * k) = 0) ∧ (∀ l, l < s.2.length → (pl_g s.2 l).1 < s.1 405) ∧ (∀ m, m < s.1 408 → ∀ i, i < s.1 (314 + m) → s.1 (194 + 12 * m + 3 * i) < s.1 405 ∧ (s.1 (196 + 12 * m + 3 * i) = 4294967295 ∨ s.1 (196 + 12 * m + 3 * i) < s.1 405))
def wx (n : Nat) (X : pv_XS) : Prop := ws n X.1 ∧ (∀ j, j < X.2.1.length → ws n (hg X.2.1 j)) ∧ X.2.1.length ≤ 6 ∧ X.2.2.length ≤ 60 ∧ ∀ j, j < X.2.2.length → bf X.2.2 j < 127
section
variable {Q : pv_Q} {I I1 I2 : pv_IT} {J : pv_JT} {xs : List String}
theorem po_val {v : Int32} {X' : pv_XS} (h : po_ok Q I J xs (0, v, X')) (hC : CA I2 X') (hF : ∀ k, 365 ≤ k → I2 k = I k) : Q (.inl (some (.int v))) pv_K0 pv_P0 I2 J := h I2 hC hF
theorem po_exc {c : Nat} {v : Int32} {X' : pv_XS} (h : po_ok Q I J xs (c + 1, v, X')) (hC : CA I X') : Q (.inr (xs.getD c "")) pv_K0 pv_P0 I J := h I hC (fun _ _ => rfl)
theorem po_same {v : Int32} {X' : pv_XS} (h : po_ok Q I J xs (0, v, X')) (hC : CA I X') : Q (.inl (some (.int v))) pv_K0 pv_P0 I J := h I hC (fun _ _ => rfl)
theorem po_fin {v : Int32} {T : pv_T} {L : List pv_Lot} {H : List pv_S} {B : List Nat} (h : po_ok Q I J xs (0, v, ((T, L), H, B))) (hB : TXc I B) (hF1 : ∀ k, k < 89 ∨ 355 ≤ k → I1 k = I k) (hH1 : HR I1 H) (hC2 : CR I2 1 T L) (hF2 : ∀ k, k < 1 ∨ 43 ≤ k → I2 k = I1 k) : Q (.inl (some (.int v))) pv_K0 pv_P0 I2 J :=
  h I2 ⟨hC2, HR_of hH1 fun k h1 h2 => hF2 k (by omega), TXc_of (TXc_of hB (congrFun (hF1 355 (by omega)) 0) (hF1 357 (by omega))) (congrFun (hF2 355 (by omega)) 0) (hF2 357 (by omega))⟩ fun k hk => (hF2 k (by omega)).trans (hF1 k (by omega))
/-- what the trial ship does stays there -/
theorem CA_trial {X : pv_XS} (h : CA I X) (hF : ∀ k, k < 45 ∨ 89 ≤ k → I1 k = I k) : CA I1 X :=
  ⟨CR_of h.1 fun k h1 h2 => hF k (by omega), HR_of h.2.1 fun k h1 h2 => hF k (by omega), TXc_of h.2.2 (congrFun (hF 355 (by omega)) 0) (hF 357 (by omega))⟩
end
