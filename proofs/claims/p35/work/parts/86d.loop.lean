/-! The law: its thirty acts; its beginning. -/
set_option maxRecDepth 100000 in
set_option maxHeartbeats 4000000 in
theorem lw_loop {E : pv_E} {d : Nat} {J : pv_JT} {nm : String} {hh : List (Nat × Nat × Nat × Nat)} (hD : 10 ≤ d) : ∀ n : Nat, n ≤ 30 → ∀ (off : Nat) (I : pv_IT) (X : pv_XS), qW n I X → pv_X (zL E) (pv_of E off) d (373 * (30 - n)) (2245 * (30 - n)) (mL_law nm hh) 58 [(0, .retAddr 0), (1, .ref 0), (2, .ref 365), (3, .ref 366), (4, .ref 367), (5, .ref 368), (6, .ref 369), (7, .int (nI (n)))] [] pv_K0 pv_P0 I J := by
  refine pv_up (30) ?_ ?_
  · intro off I X hW
    refine px_iload dL_law_58 rfl ?_
    refine px_bipush (v := nI 30) dL_law_60 (by decide) ?_
    refine px_icmp_geN (tgt := 323) dL_law_62 (by decide) (by omega) (by omega) (fun _ => ?_) (fun h0 => absurd h0 (by omega))
    refine px_iconst (v := nI 1) dL_law_323 (by decide) ?_
    exact px_lend dL_law_324
  · intro n hn K9 off I X hW
    have kc : ∀ (off' : Nat) (x y : Int32) (a : Nat) (I' : pv_IT) (X' : pv_XS), qW (n + 1) I' X' → pv_X (zL E) (pv_of E off') d (1 + 373 * (30 - (n + 1))) (13 + 2245 * (30 - (n + 1))) (mL_law nm hh) 295 [(0, .retAddr 0), (1, .ref 0), (2, .ref 365), (3, .ref 366), (4, .ref 367), (5, .ref 368), (6, .ref 369), (7, .int (nI (n))), (8, .int x), (9, .int y), (10, .int (nI a))] [.int (nI 1)] pv_K0 pv_P0 I' J := by
      intro off' x y a I' X' hW'
      obtain ⟨⟨T', L'⟩, H', B'⟩ := X'
      refine px_istore dL_law_295 (Nat.le_of_ble_eq_true rfl) ?_
      refine px_iload dL_law_297 rfl ?_
      refine px_if_eqN (tgt := 315) dL_law_299 (by decide) (by omega) (fun h0 => absurd h0 (by omega)) (fun _ => ?_)
      refine px_aload_n dL_law_302 rfl ?_
      refine px_aload_n dL_law_303 rfl ?_
      refine px_aload_n dL_law_304 rfl ?_
      refine px_aload dL_law_305 rfl ?_
      refine px_aload dL_law_307 rfl ?_
      refine c_L_told dL_law_309 mlL_130 (by omega) rfl rfl (Or.inr rfl) (by omega) hW' (Nat.le_of_ble_eq_true rfl) (fun I2 hW2 off2 => ?_)
      refine px_if_neN (tgt := 317) dL_law_312 (by decide) (by omega) (fun _ => ?_) (fun h0 => absurd h0 (by omega))
      refine px_iincN (c := 1) (by decide) dL_law_317 rfl (Nat.le_of_ble_eq_true rfl) ?_
      refine px_goto (tgt := 58) dL_law_320 (by decide) ?_
      refine px_keep [0, 1, 2, 3, 4, 5, 6, 7] ?_
      exact K9 off2 I2 _ hW2
    obtain ⟨⟨T, L⟩, H, B⟩ := X
    have hQ0 : I 365 0 = nI (T 405) := by obtain ⟨r, g, h1, -⟩ := hW.2.2.1; exact qD_0 h1
    have q4 : T 405 ≤ 4 := hW.2.2.2.1.1
    have ka : ∀ (x y : Int32) (a : Nat), a < 16 → (n < 6 → a < 4) → pv_X (zL E) (pv_of E off) d (372 + (1 + 373 * (30 - (n + 1)))) (2232 + (13 + 2245 * (30 - (n + 1)))) (mL_law nm hh) 128 [(0, .retAddr 0), (1, .ref 0), (2, .ref 365), (3, .ref 366), (4, .ref 367), (5, .ref 368), (6, .ref 369), (7, .int (nI (n))), (8, .int x), (9, .int y)] [.int (nI a)] pv_K0 pv_P0 I J := by
      intro x y a ha ha6
      refine px_istore dL_law_128 (Nat.le_of_ble_eq_true rfl) ?_
      refine px_iload dL_law_130 rfl ?_
      refine px_iconst (v := nI 2) dL_law_132 (by decide) ?_
      refine px_icmp_ltN (tgt := 142) dL_law_133 (by decide) (by omega) (by omega) (fun h0 => ?_) (fun h0 => ?_)
      · refine px_aload_n dL_law_142 rfl ?_
        refine px_iload dL_law_143 rfl ?_
        refine px_iload dL_law_145 rfl ?_
        refine px_aload_n dL_law_147 rfl ?_
        refine px_aload_n dL_law_148 rfl ?_
        refine c_L_kind dL_law_149 mlL_138 (by omega) hW (by omega) (by omega) (by omega) (Nat.le_of_ble_eq_true rfl) (fun I2 X2 hW2 => ?_)
        refine px_goto (tgt := 295) dL_law_152 (by decide) ?_
        refine px_weak rfl (Nat.le_refl _) (c1 := 1 + 373 * (30 - (n + 1))) (s1 := 13 + 2245 * (30 - (n + 1))) (by omega) (by omega) ?_
        exact kc off x y a I2 X2 hW2
      · refine px_aload_n dL_law_136 rfl ?_
        refine px_iconst (v := nI 0) dL_law_137 (by decide) ?_
        refine px_iald (j := 0) dL_law_138 pv_a_d.1 rfl (by omega) pv_a_d.2.2 pv_a_d.2.1 ?_
        refine px_iv (y := nI (T 405)) (hQ0) ?_
        refine px_if_neN (tgt := 155) dL_law_139 (by decide) (by omega) (fun h1 => ?_) (fun h1 => ?_)
        · refine px_iload dL_law_155 rfl ?_
          refine px_iconst (v := nI 2) dL_law_157 (by decide) ?_
          refine px_icmp_neN (tgt := 175) dL_law_158 (by decide) (by omega) (by omega) (fun h2 => ?_) (fun h2 => ?_)
          · refine px_iload dL_law_175 rfl ?_
            refine px_iconst (v := nI 3) dL_law_177 (by decide) ?_
            refine px_icmp_neN (tgt := 195) dL_law_178 (by decide) (by omega) (by omega) (fun h3 => ?_) (fun h3 => ?_)
            · refine px_iload dL_law_195 rfl ?_
              refine px_bipush (v := nI 8) dL_law_197 (by decide) ?_
              refine px_icmp_geN (tgt := 219) dL_law_199 (by decide) (by omega) (by omega) (fun h4 => ?_) (fun h4 => ?_)
              · refine px_iload dL_law_219 rfl ?_
                refine px_bipush (v := nI 10) dL_law_221 (by decide) ?_
                refine px_icmp_geN (tgt := 240) dL_law_223 (by decide) (by omega) (by omega) (fun h5 => ?_) (fun h5 => ?_)
                · refine px_iload dL_law_240 rfl ?_
                  refine px_bipush (v := nI 10) dL_law_242 (by decide) ?_
                  refine px_icmp_neN (tgt := 262) dL_law_244 (by decide) (by omega) (by omega) (fun h6 => ?_) (fun h6 => ?_)
                  · refine px_iload dL_law_262 rfl ?_
                    refine px_bipush (v := nI 13) dL_law_264 (by decide) ?_
                    refine px_icmp_geN (tgt := 283) dL_law_266 (by decide) (by omega) (by omega) (fun h7 => ?_) (fun h7 => ?_)
                    · refine px_aload_n dL_law_283 rfl ?_
                      refine px_iload dL_law_284 rfl ?_
                      refine px_aload_n dL_law_286 rfl ?_
                      refine px_aload_n dL_law_287 rfl ?_
                      refine px_aload dL_law_288 rfl ?_
                      refine px_aload dL_law_290 rfl ?_
                      refine px_bud (bc' := 26 + (346 + (1 + 373 * (30 - (n + 1))))) (bs' := 296 + (1936 + (13 + 2245 * (30 - (n + 1))))) (by omega) (by omega) ?_
                      refine c_L_pass dL_law_292 mlL_159 (by omega) rfl rfl hW (by omega) (by omega) (Nat.le_of_ble_eq_true rfl) (fun I2 X2 hW2 off2 => ?_)
                      refine px_weak rfl (Nat.le_refl _) (c1 := 1 + 373 * (30 - (n + 1))) (s1 := 13 + 2245 * (30 - (n + 1))) (by omega) (by omega) ?_
                      exact kc off2 x y a I2 X2 hW2
                    · refine px_aload_n dL_law_269 rfl ?_
                      refine px_iload dL_law_270 rfl ?_
                      refine px_iload dL_law_272 rfl ?_
                      refine px_aload_n dL_law_274 rfl ?_
                      refine px_aload dL_law_275 rfl ?_
                      refine c_L_menus dL_law_277 mlL_156 (by omega) hW (by omega) (by omega) (by omega) (Nat.le_of_ble_eq_true rfl) (fun I2 X2 hW2 => ?_)
                      refine px_goto (tgt := 295) dL_law_280 (by decide) ?_
                      refine px_weak rfl (Nat.le_refl _) (c1 := 1 + 373 * (30 - (n + 1))) (s1 := 13 + 2245 * (30 - (n + 1))) (by omega) (by omega) ?_
                      exact kc off x y a I2 X2 hW2
                  · refine px_aload_n dL_law_247 rfl ?_
                    refine px_iload dL_law_248 rfl ?_
                    refine px_iload dL_law_250 rfl ?_
                    refine px_aload_n dL_law_252 rfl ?_
                    refine px_aload_n dL_law_253 rfl ?_
                    refine px_aload dL_law_254 rfl ?_
                    refine c_L_discard dL_law_256 mlL_153 (by omega) hW (by omega) (by omega) (by omega) (Nat.le_of_ble_eq_true rfl) (fun I2 X2 hW2 => ?_)
                    refine px_goto (tgt := 295) dL_law_259 (by decide) ?_
                    refine px_weak rfl (Nat.le_refl _) (c1 := 1 + 373 * (30 - (n + 1))) (s1 := 13 + 2245 * (30 - (n + 1))) (by omega) (by omega) ?_
                    exact kc off x y a I2 X2 hW2
                · refine px_aload_n dL_law_226 rfl ?_
                  refine px_iload dL_law_227 rfl ?_
                  refine px_iload dL_law_229 rfl ?_
                  refine px_aload_n dL_law_231 rfl ?_
                  refine px_aload dL_law_232 rfl ?_
                  refine c_L_set dL_law_234 mlL_150 (by omega) hW (by omega) (by omega) (by omega) (Nat.le_of_ble_eq_true rfl) (fun I2 X2 hW2 => ?_)
                  refine px_goto (tgt := 295) dL_law_237 (by decide) ?_
                  refine px_weak rfl (Nat.le_refl _) (c1 := 1 + 373 * (30 - (n + 1))) (s1 := 13 + 2245 * (30 - (n + 1))) (by omega) (by omega) ?_
                  exact kc off x y a I2 X2 hW2
              · refine px_aload_n dL_law_202 rfl ?_
                refine px_iload dL_law_203 rfl ?_
                refine px_iload dL_law_205 rfl ?_
                refine px_aload_n dL_law_207 rfl ?_
                refine px_aload_n dL_law_208 rfl ?_
                refine px_aload dL_law_209 rfl ?_
                refine px_aload dL_law_211 rfl ?_
                refine c_L_buy dL_law_213 mlL_147 (by omega) hW (by omega) (by omega) (by omega) (Nat.le_of_ble_eq_true rfl) (fun I2 X2 hW2 => ?_)
                refine px_goto (tgt := 295) dL_law_216 (by decide) ?_
                refine px_weak rfl (Nat.le_refl _) (c1 := 1 + 373 * (30 - (n + 1))) (s1 := 13 + 2245 * (30 - (n + 1))) (by omega) (by omega) ?_
                exact kc off x y a I2 X2 hW2
            · refine px_aload_n dL_law_181 rfl ?_
              refine px_iload dL_law_182 rfl ?_
              refine px_iload dL_law_184 rfl ?_
              refine px_aload_n dL_law_186 rfl ?_
              refine px_aload dL_law_187 rfl ?_
              refine c_L_price dL_law_189 mlL_144 (by omega) hW (by omega) (by omega) (by omega) (Nat.le_of_ble_eq_true rfl) (fun I2 X2 hW2 => ?_)
              refine px_goto (tgt := 295) dL_law_192 (by decide) ?_
              refine px_weak rfl (Nat.le_refl _) (c1 := 1 + 373 * (30 - (n + 1))) (s1 := 13 + 2245 * (30 - (n + 1))) (by omega) (by omega) ?_
              exact kc off x y a I2 X2 hW2
          · refine px_aload_n dL_law_161 rfl ?_
            refine px_iload dL_law_162 rfl ?_
            refine px_iload dL_law_164 rfl ?_
            refine px_aload_n dL_law_166 rfl ?_
            refine px_aload dL_law_167 rfl ?_
            refine c_L_port dL_law_169 mlL_141 (by omega) hW (by omega) (by omega) (by omega) (Nat.le_of_ble_eq_true rfl) (fun I2 X2 hW2 => ?_)
            refine px_goto (tgt := 295) dL_law_172 (by decide) ?_
            refine px_weak rfl (Nat.le_refl _) (c1 := 1 + 373 * (30 - (n + 1))) (s1 := 13 + 2245 * (30 - (n + 1))) (by omega) (by omega) ?_
            exact kc off x y a I2 X2 hW2
        · refine px_aload_n dL_law_142 rfl ?_
          refine px_iload dL_law_143 rfl ?_
          refine px_iload dL_law_145 rfl ?_
          refine px_aload_n dL_law_147 rfl ?_
          refine px_aload_n dL_law_148 rfl ?_
          refine c_L_kind dL_law_149 mlL_138 (by omega) hW (by omega) (by omega) (by omega) (Nat.le_of_ble_eq_true rfl) (fun I2 X2 hW2 => ?_)
          refine px_goto (tgt := 295) dL_law_152 (by decide) ?_
          refine px_weak rfl (Nat.le_refl _) (c1 := 1 + 373 * (30 - (n + 1))) (s1 := 13 + 2245 * (30 - (n + 1))) (by omega) (by omega) ?_
          exact kc off x y a I2 X2 hW2
    refine px_bud (bc' := 372 + (1 + 373 * (30 - (n + 1)))) (bs' := 2232 + (13 + 2245 * (30 - (n + 1)))) (by omega) (by omega) ?_
    refine px_iload dL_law_58 rfl ?_
    refine px_bipush (v := nI 30) dL_law_60 (by decide) ?_
    refine px_icmp_geN (tgt := 323) dL_law_62 (by decide) (by omega) (by omega) (fun h0 => absurd h0 (by omega)) (fun _ => ?_)
    refine px_aloadS_n dL_law_65 rfl ?_
    refine px_iconst (v := nI 2) dL_law_66 (by decide) ?_
    refine px_iload dL_law_67 rfl ?_
    refine px_imulN dL_law_69 ?_
    refine c_L_cell dL_law_70 mlL_134 (by omega) (by omega) (Nat.le_of_ble_eq_true rfl) (fun x => ?_)
    refine px_istore dL_law_73 (Nat.le_of_ble_eq_true rfl) ?_
    refine px_aloadS_n dL_law_75 rfl ?_
    refine px_iconst (v := nI 2) dL_law_76 (by decide) ?_
    refine px_iload dL_law_77 rfl ?_
    refine px_imulN dL_law_79 ?_
    refine px_iconst (v := nI 1) dL_law_80 (by decide) ?_
    refine px_iaddN dL_law_81 ?_
    refine c_L_cell dL_law_82 mlL_134 (by omega) (by omega) (Nat.le_of_ble_eq_true rfl) (fun y => ?_)
    refine px_istore dL_law_85 (Nat.le_of_ble_eq_true rfl) ?_
    refine px_iload dL_law_87 rfl ?_
    refine px_iconst (v := nI 2) dL_law_89 (by decide) ?_
    refine px_icmp_geN (tgt := 97) dL_law_90 (by decide) (by omega) (by omega) (fun h1 => ?_) (fun h1 => ?_)
    · refine px_iload dL_law_97 rfl ?_
      refine px_iconst (v := nI 2) dL_law_99 (by decide) ?_
      refine px_icmp_neN (tgt := 107) dL_law_100 (by decide) (by omega) (by omega) (fun h2 => ?_) (fun h2 => ?_)
      · refine px_iload dL_law_107 rfl ?_
        refine px_bipush (v := nI 6) dL_law_109 (by decide) ?_
        refine px_icmp_geN (tgt := 118) dL_law_111 (by decide) (by omega) (by omega) (fun h3 => ?_) (fun h3 => ?_)
        · refine px_iload dL_law_118 rfl ?_
          refine px_bipush (v := nI 22) dL_law_120 (by decide) ?_
          refine px_ishr dL_law_122 ?_
          refine px_bipush (v := nI 16) dL_law_123 (by decide) ?_
          refine c_L_at dL_law_125 mlL_30 (by omega) (by omega) (by omega) (Nat.le_of_ble_eq_true rfl) (fun a ha => ?_)
          exact ka x y a ha (by omega)
        · refine px_iconst (v := nI 3) dL_law_114 (by decide) ?_
          refine px_goto (tgt := 128) dL_law_115 (by decide) ?_
          exact ka x y 3 (by omega) (by omega)
      · refine px_iconst (v := nI 2) dL_law_103 (by decide) ?_
        refine px_goto (tgt := 128) dL_law_104 (by decide) ?_
        exact ka x y 2 (by omega) (by omega)
    · refine px_iconst (v := nI 0) dL_law_93 (by decide) ?_
      refine px_goto (tgt := 128) dL_law_94 (by decide) ?_
      exact ka x y 0 (by omega) (by omega)
theorem pnL_35 : pv_new RL 35 9 4 := ⟨_, _, rfl, (pv_t 19 (by decide +kernel) rfl), (pv_t 20 (by decide +kernel) rfl), (pv_t 1 (by decide +kernel) rfl), tyX9, tyX9_ok, fun j hj => by
  match j, hj with
  | 0, _ => rfl
  | 1, _ => rfl
  | 2, _ => rfl
  | 3, _ => rfl
  | j + 4, hj => exact absurd hj (by omega)⟩
def pz_P : pv_PT := fun _ _ => none
def pz_I : pv_IT := fun _ _ => 0
def pz_J : pv_JT := fun _ _ => 0
theorem pv_P0_len : pv_P0L.length = 371 := by decide +kernel
theorem lw_P0 : pv_zP (pv_zP (pv_zP (pv_zP (pv_zP (bP (pv_zP pz_P 0) 0 365) 365) 366) 367) 368) 369 = pv_P0 := by
  funext a j
  rw [zP_aj, zP_aj, zP_aj, zP_aj, zP_aj, bP_aj, zP_aj]
  by_cases e9 : a = 369
  · rw [if_pos e9, e9]; exact (pv_gap (by decide) pv_a_po.1 (by omega)).symm
  · rw [if_neg e9]
    by_cases e8 : a = 368
    · rw [if_pos e8, e8]; exact (pv_gap (by decide) pv_a_me.1 (by omega)).symm
    · rw [if_neg e8]
      by_cases e7 : a = 367
      · rw [if_pos e7, e7]; exact (pv_gap (by decide) pv_a_lo.1 (by omega)).symm
      · rw [if_neg e7]
        by_cases e6 : a = 366
        · rw [if_pos e6, e6]; exact (pv_gap (by decide) pv_a_ki.1 (by omega)).symm
        · rw [if_neg e6]
          by_cases e5 : a = 365
          · rw [if_pos e5, e5]; exact (pv_gap (by decide) pv_a_d.1 (by omega)).symm
          · rw [if_neg e5]
            by_cases e2 : 0 ≤ a ∧ a < 365
            · rw [if_pos e2]
            · rw [if_neg e2, if_neg (show ¬ a = 0 by omega)]
              by_cases e0 : a = 370
              · rw [e0]; exact (pv_gap (by decide) pv_s370 (by omega)).symm
              · unfold pv_P0
                rw [List.getD_eq_getElem?_getD (l := pv_P0L), List.getElem?_eq_none (by rw [pv_P0_len]; omega)]
                rfl
theorem lw_I0 : ∀ a, a < 365 → pv_zI (pv_zI (pv_zI (pv_zI (pv_zI (bI (pv_zI pz_I 0) 0 365 gA) 365) 366) 367) 368) 369 a = gA a := fun a ha => by
  funext j
  rw [zI_aj, if_neg (show ¬ a = 369 by omega), zI_aj, if_neg (show ¬ a = 368 by omega), zI_aj, if_neg (show ¬ a = 367 by omega), zI_aj, if_neg (show ¬ a = 366 by omega), zI_aj, if_neg (show ¬ a = 365 by omega), bI_aj, if_pos (show 0 ≤ a ∧ a < 0 + 365 by omega), Nat.sub_zero]
theorem lw_I1 : pv_zI (pv_zI (pv_zI (pv_zI (pv_zI (bI (pv_zI pz_I 0) 0 365 gA) 365) 366) 367) 368) 369 365 = fun _ => 0 := by
  funext j
  rw [zI_aj, if_neg (by omega), zI_aj, if_neg (by omega), zI_aj, if_neg (by omega), zI_aj, if_neg (by omega), zI_aj, if_pos rfl]
/-- the law's rows as they are when all begins -/
theorem lw_first {I : pv_IT} (hC : ∀ a, a < 365 → I a = gA a) (hD : qD I T0 0) : qW 0 I ((T0, []), [], []) := by
  have h5 : T0 405 = 0 := rfl
  have h7 : T0 407 = 0 := rfl
  have h8 : T0 408 = 1 := rfl
  refine ⟨CA_init hC, wx_init, ⟨id, id, hD, fun k w hk _ => ?_, fun l hl => absurd hl (Nat.not_lt_zero _), fun m i w hm hi _ => ?_, fun p hp => ?_, ⟨fun p hp => ?_, fun p hp => ?_⟩⟩, ⟨?_, Nat.zero_le _, ?_, fun m hm => ?_, ?_⟩, fun s hs => Nat.zero_le _, fun k hk => ?_, ?_, ?_⟩
  · replace hk : k < T0 405 := hk
    rw [h5] at hk
    exact absurd hk (Nat.not_lt_zero _)
  · replace hm : m < T0 408 := hm
    rw [h8] at hm
    replace hi : i < T0 (314 + m) := hi
    rw [show m = 0 by omega] at hi
    exact absurd hi (Nat.not_lt_zero _)
  · replace hp : p < T0 407 := hp
    rw [h7] at hp
    exact absurd hp (Nat.not_lt_zero _)
  · replace hp : p < T0 407 := hp
    rw [h7] at hp
    exact absurd hp (Nat.not_lt_zero _)
  · replace hp : p < T0 407 := hp
    rw [h7] at hp
    exact absurd hp (Nat.not_lt_zero _)
  · show T0 405 ≤ 4
    rw [h5]; omega
  · show T0 408 ≤ 3
    rw [h8]; omega
  · replace hm : m < T0 408 := hm
    rw [h8] at hm
    show T0 (314 + m) ≤ 3
    rw [show m = 0 by omega]
    decide
  · show T0 407 ≤ 4
    rw [h7]; omega
  · replace hk : k < T0 405 := hk
    rw [h5] at hk
    exact absurd hk (Nat.not_lt_zero _)
  · show T0 404 ≤ 20 * (0 - 6)
    decide
  · show T0 410 ≤ 10000 + 2000 * 0
    decide
set_option maxRecDepth 100000 in
set_option maxHeartbeats 4000000 in
theorem lw_begin {E : pv_E} {nm : String} {hh : List (Nat × Nat × Nat × Nat)} : pv_X (zL E) (pv_of E 0) 10 600130 7301080 (mL_law nm hh) 0 [(0, .retAddr 0)] [] 0 pz_P pz_I pz_J := by
  refine px_bud (bc' := 1 + 600129) (bs' := 4 + 7301076) rfl rfl ?_
  refine px_newS dL_law_0 pnL_35 pv_s_main (by decide) (by decide) ?_
  refine px_dup dL_law_3 rfl ?_
  refine px_bud (bc' := 364 + 599765) (bs' := 4019 + 7297057) rfl rfl ?_
  refine c_X9_init dL_law_4 mlL_125 (by omega) pv_mainQ_0 zP_at zI_at (Nat.le_of_ble_eq_true rfl) (fun J1 => ?_)
  refine px_astore_n dL_law_7 (Nat.le_of_ble_eq_true rfl) ?_
  refine px_mm (P' := bP (pv_zP pz_P 0) 0 365) (I' := bI (pv_zI pz_I 0) 0 365 gA) (sz' := 365) rfl rfl rfl ?_
  refine px_bipush (v := nI 18) dL_law_8 (by decide) ?_
  refine px_bud (bc' := 1 + 599764) (bs' := 18 + 7297039) rfl rfl ?_
  refine px_newI dL_law_10 pv_aI pv_a_d.1 rfl (by decide) (by decide) ?_
  refine px_astore_n dL_law_12 (Nat.le_of_ble_eq_true rfl) ?_
  refine px_mm (P' := _) (I' := _) (sz' := 366) rfl rfl rfl ?_
  refine px_bipush (v := nI 32) dL_law_13 (by decide) ?_
  refine px_bud (bc' := 1 + 599763) (bs' := 32 + 7297007) rfl rfl ?_
  refine px_newI dL_law_15 pv_aI pv_a_ki.1 rfl (by decide) (by decide) ?_
  refine px_astore_n dL_law_17 (Nat.le_of_ble_eq_true rfl) ?_
  refine px_mm (P' := _) (I' := _) (sz' := 367) rfl rfl rfl ?_
  refine px_bipush (v := nI 52) dL_law_18 (by decide) ?_
  refine px_bud (bc' := 1 + 599762) (bs' := 52 + 7296955) rfl rfl ?_
  refine px_newI dL_law_20 pv_aI pv_a_lo.1 rfl (by decide) (by decide) ?_
  refine px_astore dL_law_22 (Nat.le_of_ble_eq_true rfl) ?_
  refine px_mm (P' := _) (I' := _) (sz' := 368) rfl rfl rfl ?_
  refine px_bipush (v := nI 27) dL_law_24 (by decide) ?_
  refine px_bud (bc' := 1 + 599761) (bs' := 27 + 7296928) rfl rfl ?_
  refine px_newI dL_law_26 pv_aI pv_a_me.1 rfl (by decide) (by decide) ?_
  refine px_astore dL_law_28 (Nat.le_of_ble_eq_true rfl) ?_
  refine px_mm (P' := _) (I' := _) (sz' := 369) rfl rfl rfl ?_
  refine px_bipush (v := nI 24) dL_law_30 (by decide) ?_
  refine px_bud (bc' := 1 + 599760) (bs' := 24 + 7296904) rfl rfl ?_
  refine px_newI dL_law_32 pv_aI pv_a_po.1 rfl (by decide) (by decide) ?_
  refine px_astore dL_law_34 (Nat.le_of_ble_eq_true rfl) ?_
  refine px_mm (P' := _) (I' := _) (sz' := 370) rfl rfl rfl ?_
  refine px_mm (P' := pv_P0) (I' := _) (sz' := 370) lw_P0 rfl rfl ?_
  have hI0 := lw_I0
  have hI1 := lw_I1
  generalize pv_zI (pv_zI (pv_zI (pv_zI (pv_zI (bI (pv_zI pz_I 0) 0 365 gA) 365) 366) 367) 368) 369 = I at hI0 hI1 ⊢
  refine px_aload_n dL_law_36 rfl ?_
  refine px_bud (bc' := 0 + 599760) (bs' := 0 + 7296904) rfl rfl ?_
  refine px_callS (bc1 := 0) (bs1 := 0) (as := [.ref 365]) dL_law_37 msL_fresh mlL_126 rfl rfl (Nat.le_of_ble_eq_true rfl) (by exact Nat.le_of_ble_eq_true rfl) (s_L_fresh hI1 (fun I2 hD2 hF2 => ?_))
  have hW0 : qW 0 I2 ((T0, []), [], []) := lw_first (fun a ha => (hF2 a (by omega)).trans (hI0 a ha)) hD2
  refine px_aload_n dL_law_40 rfl ?_
  refine px_aload_n dL_law_41 rfl ?_
  refine px_aload_n dL_law_42 rfl ?_
  refine px_aload dL_law_43 rfl ?_
  refine px_aload dL_law_45 rfl ?_
  refine px_bud (bc' := 1 + 599759) (bs' := 13 + 7296891) rfl rfl ?_
  refine c_L_told dL_law_47 mlL_130 (by omega) rfl rfl (Or.inl rfl) (by omega) hW0 (Nat.le_of_ble_eq_true rfl) (fun I3 hW3 off3 => ?_)
  refine px_if_neN (tgt := 55) dL_law_50 (by decide) (by omega) (fun _ => ?_) (fun h0 => absurd h0 (by omega))
  refine px_iconst (v := nI 0) dL_law_55 (by decide) ?_
  refine px_istore dL_law_56 (Nat.le_of_ble_eq_true rfl) ?_
  refine px_weak rfl (Nat.le_refl _) (c1 := 373 * (30 - 0)) (s1 := 2245 * (30 - 0)) (Nat.le_of_ble_eq_true rfl) (Nat.le_of_ble_eq_true rfl) ?_
  exact lw_loop (by omega) 0 (Nat.zero_le _) off3 I3 _ hW3
