/-! Links: what each entry of a class names, and the methods. -/
theorem pv_t {w : Cond} (i : Nat) (h : tables_1[i]? = some w) (g : goodWord w = true) : w ∈ pv_W := pv_in (List.mem_append_right _ (List.mem_of_getElem? h)) g
theorem pv_ts {w : Cond} (i : Nat) (h : (k2_sels lw_privs)[i]? = some w) (g : goodWord w = true) : w ∈ pv_W := pv_in (List.mem_append_left _ (List.mem_of_getElem? h)) g
theorem flX6_7 : pv_fld RX6 7 6 0 (.array .int) := ⟨_, _, _, rfl, by decide, pv_t 47 (by decide +kernel) rfl, by decide +kernel⟩
theorem ffX6_7 : pv_fldF RX6 7 6 0 (.array .int) := ⟨_, _, _, rfl, by decide, pv_t 47 (by decide +kernel) rfl, by decide +kernel, rfl, rfl⟩
theorem flX1_35 : pv_fld RX1 35 1 0 (.int) := ⟨_, _, _, rfl, by decide, pv_t 52 (by decide +kernel) rfl, by decide +kernel⟩
theorem fwX1_35 : pv_fldW RX1 35 1 0 (.int) := ⟨_, _, _, rfl, by decide, pv_t 52 (by decide +kernel) rfl, by decide +kernel, rfl⟩
theorem flX9_41 : pv_fld RX9 41 1 0 (.int) := ⟨_, _, _, rfl, by decide, pv_t 53 (by decide +kernel) rfl, by decide +kernel⟩
theorem fwX9_41 : pv_fldW RX9 41 1 0 (.int) := ⟨_, _, _, rfl, by decide, pv_t 53 (by decide +kernel) rfl, by decide +kernel, rfl⟩
theorem flX1_14 : pv_fld RX1 14 1 1 (.object "ShipStores$Row") := ⟨_, _, _, rfl, by decide, pv_t 54 (by decide +kernel) rfl, by decide +kernel⟩
theorem ffX1_14 : pv_fldF RX1 14 1 1 (.object "ShipStores$Row") := ⟨_, _, _, rfl, by decide, pv_t 54 (by decide +kernel) rfl, by decide +kernel, rfl, rfl⟩
theorem flX1_20 : pv_fld RX1 20 1 2 (.object "ShipStores$Row") := ⟨_, _, _, rfl, by decide, pv_t 55 (by decide +kernel) rfl, by decide +kernel⟩
theorem ffX1_20 : pv_fldF RX1 20 1 2 (.object "ShipStores$Row") := ⟨_, _, _, rfl, by decide, pv_t 55 (by decide +kernel) rfl, by decide +kernel, rfl, rfl⟩
theorem flX7_100 : pv_fld RX7 100 1 2 (.object "ShipStores$Row") := ⟨_, _, _, rfl, by decide, pv_t 56 (by decide +kernel) rfl, by decide +kernel⟩
theorem flX9_268 : pv_fld RX9 268 1 2 (.object "ShipStores$Row") := ⟨_, _, _, rfl, by decide, pv_t 57 (by decide +kernel) rfl, by decide +kernel⟩
theorem flX1_23 : pv_fld RX1 23 1 3 (.object "ShipStores$Row") := ⟨_, _, _, rfl, by decide, pv_t 58 (by decide +kernel) rfl, by decide +kernel⟩
theorem ffX1_23 : pv_fldF RX1 23 1 3 (.object "ShipStores$Row") := ⟨_, _, _, rfl, by decide, pv_t 58 (by decide +kernel) rfl, by decide +kernel, rfl, rfl⟩
theorem flX7_187 : pv_fld RX7 187 1 3 (.object "ShipStores$Row") := ⟨_, _, _, rfl, by decide, pv_t 59 (by decide +kernel) rfl, by decide +kernel⟩
theorem flX9_271 : pv_fld RX9 271 1 3 (.object "ShipStores$Row") := ⟨_, _, _, rfl, by decide, pv_t 60 (by decide +kernel) rfl, by decide +kernel⟩
theorem flX1_26 : pv_fld RX1 26 1 4 (.object "ShipStores$Row") := ⟨_, _, _, rfl, by decide, pv_t 61 (by decide +kernel) rfl, by decide +kernel⟩
theorem ffX1_26 : pv_fldF RX1 26 1 4 (.object "ShipStores$Row") := ⟨_, _, _, rfl, by decide, pv_t 61 (by decide +kernel) rfl, by decide +kernel, rfl, rfl⟩
theorem flX9_200 : pv_fld RX9 200 1 4 (.object "ShipStores$Row") := ⟨_, _, _, rfl, by decide, pv_t 62 (by decide +kernel) rfl, by decide +kernel⟩
theorem flX7_190 : pv_fld RX7 190 1 4 (.object "ShipStores$Row") := ⟨_, _, _, rfl, by decide, pv_t 63 (by decide +kernel) rfl, by decide +kernel⟩
theorem flX1_29 : pv_fld RX1 29 1 5 (.object "ShipStores$Row") := ⟨_, _, _, rfl, by decide, pv_t 64 (by decide +kernel) rfl, by decide +kernel⟩
theorem ffX1_29 : pv_fldF RX1 29 1 5 (.object "ShipStores$Row") := ⟨_, _, _, rfl, by decide, pv_t 64 (by decide +kernel) rfl, by decide +kernel, rfl, rfl⟩
theorem flX9_184 : pv_fld RX9 184 1 5 (.object "ShipStores$Row") := ⟨_, _, _, rfl, by decide, pv_t 65 (by decide +kernel) rfl, by decide +kernel⟩
theorem flX1_32 : pv_fld RX1 32 1 6 (.object "ShipStores$Row") := ⟨_, _, _, rfl, by decide, pv_t 66 (by decide +kernel) rfl, by decide +kernel⟩
theorem ffX1_32 : pv_fldF RX1 32 1 6 (.object "ShipStores$Row") := ⟨_, _, _, rfl, by decide, pv_t 66 (by decide +kernel) rfl, by decide +kernel, rfl, rfl⟩
theorem flX7_142 : pv_fld RX7 142 1 6 (.object "ShipStores$Row") := ⟨_, _, _, rfl, by decide, pv_t 67 (by decide +kernel) rfl, by decide +kernel⟩
theorem flX9_277 : pv_fld RX9 277 1 6 (.object "ShipStores$Row") := ⟨_, _, _, rfl, by decide, pv_t 68 (by decide +kernel) rfl, by decide +kernel⟩
theorem flX8_14 : pv_fld RX8 14 8 0 (.object "ShipStores$Row") := ⟨_, _, _, rfl, by decide, pv_t 96 (by decide +kernel) rfl, by decide +kernel⟩
theorem ffX8_14 : pv_fldF RX8 14 8 0 (.object "ShipStores$Row") := ⟨_, _, _, rfl, by decide, pv_t 96 (by decide +kernel) rfl, by decide +kernel, rfl, rfl⟩
theorem flX7_73 : pv_fld RX7 73 8 0 (.object "ShipStores$Row") := ⟨_, _, _, rfl, by decide, pv_t 97 (by decide +kernel) rfl, by decide +kernel⟩
theorem flX9_82 : pv_fld RX9 82 8 0 (.object "ShipStores$Row") := ⟨_, _, _, rfl, by decide, pv_t 98 (by decide +kernel) rfl, by decide +kernel⟩
theorem flX8_20 : pv_fld RX8 20 8 1 (.object "ShipStores$Row") := ⟨_, _, _, rfl, by decide, pv_t 99 (by decide +kernel) rfl, by decide +kernel⟩
theorem ffX8_20 : pv_fldF RX8 20 8 1 (.object "ShipStores$Row") := ⟨_, _, _, rfl, by decide, pv_t 99 (by decide +kernel) rfl, by decide +kernel, rfl, rfl⟩
theorem flX7_62 : pv_fld RX7 62 8 1 (.object "ShipStores$Row") := ⟨_, _, _, rfl, by decide, pv_t 100 (by decide +kernel) rfl, by decide +kernel⟩
theorem flX9_106 : pv_fld RX9 106 8 1 (.object "ShipStores$Row") := ⟨_, _, _, rfl, by decide, pv_t 101 (by decide +kernel) rfl, by decide +kernel⟩
theorem flX2_29 : pv_fld RX2 29 2 0 (.int) := ⟨_, _, _, rfl, by decide, pv_t 115 (by decide +kernel) rfl, by decide +kernel⟩
theorem fwX2_29 : pv_fldW RX2 29 2 0 (.int) := ⟨_, _, _, rfl, by decide, pv_t 115 (by decide +kernel) rfl, by decide +kernel, rfl⟩
theorem flX7_94 : pv_fld RX7 94 2 0 (.int) := ⟨_, _, _, rfl, by decide, pv_t 116 (by decide +kernel) rfl, by decide +kernel⟩
theorem fwX7_94 : pv_fldW RX7 94 2 0 (.int) := ⟨_, _, _, rfl, by decide, pv_t 116 (by decide +kernel) rfl, by decide +kernel, rfl⟩
theorem flX9_178 : pv_fld RX9 178 2 0 (.int) := ⟨_, _, _, rfl, by decide, pv_t 117 (by decide +kernel) rfl, by decide +kernel⟩
theorem fwX9_178 : pv_fldW RX9 178 2 0 (.int) := ⟨_, _, _, rfl, by decide, pv_t 117 (by decide +kernel) rfl, by decide +kernel, rfl⟩
theorem flX2_14 : pv_fld RX2 14 2 1 (.object "ShipStores$Row") := ⟨_, _, _, rfl, by decide, pv_t 118 (by decide +kernel) rfl, by decide +kernel⟩
theorem ffX2_14 : pv_fldF RX2 14 2 1 (.object "ShipStores$Row") := ⟨_, _, _, rfl, by decide, pv_t 118 (by decide +kernel) rfl, by decide +kernel, rfl, rfl⟩
theorem flX7_124 : pv_fld RX7 124 2 1 (.object "ShipStores$Row") := ⟨_, _, _, rfl, by decide, pv_t 119 (by decide +kernel) rfl, by decide +kernel⟩
theorem flX9_187 : pv_fld RX9 187 2 1 (.object "ShipStores$Row") := ⟨_, _, _, rfl, by decide, pv_t 120 (by decide +kernel) rfl, by decide +kernel⟩
theorem flX2_20 : pv_fld RX2 20 2 2 (.object "ShipStores$Row") := ⟨_, _, _, rfl, by decide, pv_t 121 (by decide +kernel) rfl, by decide +kernel⟩
theorem ffX2_20 : pv_fldF RX2 20 2 2 (.object "ShipStores$Row") := ⟨_, _, _, rfl, by decide, pv_t 121 (by decide +kernel) rfl, by decide +kernel, rfl, rfl⟩
theorem flX7_127 : pv_fld RX7 127 2 2 (.object "ShipStores$Row") := ⟨_, _, _, rfl, by decide, pv_t 122 (by decide +kernel) rfl, by decide +kernel⟩
theorem flX9_170 : pv_fld RX9 170 2 2 (.object "ShipStores$Row") := ⟨_, _, _, rfl, by decide, pv_t 123 (by decide +kernel) rfl, by decide +kernel⟩
theorem flX2_23 : pv_fld RX2 23 2 3 (.object "ShipStores$Row") := ⟨_, _, _, rfl, by decide, pv_t 124 (by decide +kernel) rfl, by decide +kernel⟩
theorem ffX2_23 : pv_fldF RX2 23 2 3 (.object "ShipStores$Row") := ⟨_, _, _, rfl, by decide, pv_t 124 (by decide +kernel) rfl, by decide +kernel, rfl, rfl⟩
theorem flX9_167 : pv_fld RX9 167 2 3 (.object "ShipStores$Row") := ⟨_, _, _, rfl, by decide, pv_t 125 (by decide +kernel) rfl, by decide +kernel⟩
theorem flX7_186 : pv_fld RX7 186 2 3 (.object "ShipStores$Row") := ⟨_, _, _, rfl, by decide, pv_t 126 (by decide +kernel) rfl, by decide +kernel⟩
theorem flX2_26 : pv_fld RX2 26 2 4 (.object "ShipStores$Row") := ⟨_, _, _, rfl, by decide, pv_t 127 (by decide +kernel) rfl, by decide +kernel⟩
theorem ffX2_26 : pv_fldF RX2 26 2 4 (.object "ShipStores$Row") := ⟨_, _, _, rfl, by decide, pv_t 127 (by decide +kernel) rfl, by decide +kernel, rfl, rfl⟩
theorem flX7_130 : pv_fld RX7 130 2 4 (.object "ShipStores$Row") := ⟨_, _, _, rfl, by decide, pv_t 128 (by decide +kernel) rfl, by decide +kernel⟩
theorem flX9_249 : pv_fld RX9 249 2 4 (.object "ShipStores$Row") := ⟨_, _, _, rfl, by decide, pv_t 129 (by decide +kernel) rfl, by decide +kernel⟩
theorem flX5_26 : pv_fld RX5 26 5 0 (.int) := ⟨_, _, _, rfl, by decide, pv_t 149 (by decide +kernel) rfl, by decide +kernel⟩
theorem fwX5_26 : pv_fldW RX5 26 5 0 (.int) := ⟨_, _, _, rfl, by decide, pv_t 149 (by decide +kernel) rfl, by decide +kernel, rfl⟩
theorem flX9_126 : pv_fld RX9 126 5 0 (.int) := ⟨_, _, _, rfl, by decide, pv_t 150 (by decide +kernel) rfl, by decide +kernel⟩
theorem fwX9_126 : pv_fldW RX9 126 5 0 (.int) := ⟨_, _, _, rfl, by decide, pv_t 150 (by decide +kernel) rfl, by decide +kernel, rfl⟩
theorem flX5_14 : pv_fld RX5 14 5 1 (.object "ShipStores$Row") := ⟨_, _, _, rfl, by decide, pv_t 151 (by decide +kernel) rfl, by decide +kernel⟩
theorem ffX5_14 : pv_fldF RX5 14 5 1 (.object "ShipStores$Row") := ⟨_, _, _, rfl, by decide, pv_t 151 (by decide +kernel) rfl, by decide +kernel, rfl, rfl⟩
theorem flX7_117 : pv_fld RX7 117 5 1 (.object "ShipStores$Row") := ⟨_, _, _, rfl, by decide, pv_t 152 (by decide +kernel) rfl, by decide +kernel⟩
theorem flX9_141 : pv_fld RX9 141 5 1 (.object "ShipStores$Row") := ⟨_, _, _, rfl, by decide, pv_t 153 (by decide +kernel) rfl, by decide +kernel⟩
theorem flX5_20 : pv_fld RX5 20 5 2 (.object "ShipStores$Row") := ⟨_, _, _, rfl, by decide, pv_t 154 (by decide +kernel) rfl, by decide +kernel⟩
theorem ffX5_20 : pv_fldF RX5 20 5 2 (.object "ShipStores$Row") := ⟨_, _, _, rfl, by decide, pv_t 154 (by decide +kernel) rfl, by decide +kernel, rfl, rfl⟩
theorem flX7_107 : pv_fld RX7 107 5 2 (.object "ShipStores$Row") := ⟨_, _, _, rfl, by decide, pv_t 155 (by decide +kernel) rfl, by decide +kernel⟩
theorem flX9_285 : pv_fld RX9 285 5 2 (.object "ShipStores$Row") := ⟨_, _, _, rfl, by decide, pv_t 156 (by decide +kernel) rfl, by decide +kernel⟩
theorem flX5_23 : pv_fld RX5 23 5 3 (.object "ShipStores$Row") := ⟨_, _, _, rfl, by decide, pv_t 157 (by decide +kernel) rfl, by decide +kernel⟩
theorem ffX5_23 : pv_fldF RX5 23 5 3 (.object "ShipStores$Row") := ⟨_, _, _, rfl, by decide, pv_t 157 (by decide +kernel) rfl, by decide +kernel, rfl, rfl⟩
theorem flX4_9 : pv_fld RX4 9 4 0 (.int) := ⟨_, _, _, rfl, by decide, pv_t 175 (by decide +kernel) rfl, by decide +kernel⟩
theorem fwX4_9 : pv_fldW RX4 9 4 0 (.int) := ⟨_, _, _, rfl, by decide, pv_t 175 (by decide +kernel) rfl, by decide +kernel, rfl⟩
theorem flX3_97 : pv_fld RX3 97 4 0 (.int) := ⟨_, _, _, rfl, by decide, pv_t 176 (by decide +kernel) rfl, by decide +kernel⟩
theorem fwX3_97 : pv_fldW RX3 97 4 0 (.int) := ⟨_, _, _, rfl, by decide, pv_t 176 (by decide +kernel) rfl, by decide +kernel, rfl⟩
theorem flX9_242 : pv_fld RX9 242 4 0 (.int) := ⟨_, _, _, rfl, by decide, pv_t 177 (by decide +kernel) rfl, by decide +kernel⟩
theorem fwX9_242 : pv_fldW RX9 242 4 0 (.int) := ⟨_, _, _, rfl, by decide, pv_t 177 (by decide +kernel) rfl, by decide +kernel, rfl⟩
theorem flX4_20 : pv_fld RX4 20 4 1 (.object "ShipStores$Row") := ⟨_, _, _, rfl, by decide, pv_t 178 (by decide +kernel) rfl, by decide +kernel⟩
theorem ffX4_20 : pv_fldF RX4 20 4 1 (.object "ShipStores$Row") := ⟨_, _, _, rfl, by decide, pv_t 178 (by decide +kernel) rfl, by decide +kernel, rfl, rfl⟩
theorem flX3_74 : pv_fld RX3 74 4 1 (.object "ShipStores$Row") := ⟨_, _, _, rfl, by decide, pv_t 179 (by decide +kernel) rfl, by decide +kernel⟩
theorem flX7_173 : pv_fld RX7 173 4 1 (.object "ShipStores$Row") := ⟨_, _, _, rfl, by decide, pv_t 180 (by decide +kernel) rfl, by decide +kernel⟩
theorem flX9_297 : pv_fld RX9 297 4 1 (.object "ShipStores$Row") := ⟨_, _, _, rfl, by decide, pv_t 181 (by decide +kernel) rfl, by decide +kernel⟩
theorem flX4_24 : pv_fld RX4 24 4 2 (.object "ShipStores$Row") := ⟨_, _, _, rfl, by decide, pv_t 182 (by decide +kernel) rfl, by decide +kernel⟩
theorem ffX4_24 : pv_fldF RX4 24 4 2 (.object "ShipStores$Row") := ⟨_, _, _, rfl, by decide, pv_t 182 (by decide +kernel) rfl, by decide +kernel, rfl, rfl⟩
theorem flX3_94 : pv_fld RX3 94 4 2 (.object "ShipStores$Row") := ⟨_, _, _, rfl, by decide, pv_t 183 (by decide +kernel) rfl, by decide +kernel⟩
theorem flX7_177 : pv_fld RX7 177 4 2 (.object "ShipStores$Row") := ⟨_, _, _, rfl, by decide, pv_t 184 (by decide +kernel) rfl, by decide +kernel⟩
theorem flX9_298 : pv_fld RX9 298 4 2 (.object "ShipStores$Row") := ⟨_, _, _, rfl, by decide, pv_t 185 (by decide +kernel) rfl, by decide +kernel⟩
theorem flX4_27 : pv_fld RX4 27 4 3 (.object "ShipStores$Row") := ⟨_, _, _, rfl, by decide, pv_t 186 (by decide +kernel) rfl, by decide +kernel⟩
theorem ffX4_27 : pv_fldF RX4 27 4 3 (.object "ShipStores$Row") := ⟨_, _, _, rfl, by decide, pv_t 186 (by decide +kernel) rfl, by decide +kernel, rfl, rfl⟩
theorem flX3_85 : pv_fld RX3 85 4 3 (.object "ShipStores$Row") := ⟨_, _, _, rfl, by decide, pv_t 187 (by decide +kernel) rfl, by decide +kernel⟩
theorem flX7_174 : pv_fld RX7 174 4 3 (.object "ShipStores$Row") := ⟨_, _, _, rfl, by decide, pv_t 188 (by decide +kernel) rfl, by decide +kernel⟩
theorem flX9_299 : pv_fld RX9 299 4 3 (.object "ShipStores$Row") := ⟨_, _, _, rfl, by decide, pv_t 189 (by decide +kernel) rfl, by decide +kernel⟩
theorem flX7_79 : pv_fld RX7 79 7 0 (.int) := ⟨_, _, _, rfl, by decide, pv_t 201 (by decide +kernel) rfl, by decide +kernel⟩
theorem fwX7_79 : pv_fldW RX7 79 7 0 (.int) := ⟨_, _, _, rfl, by decide, pv_t 201 (by decide +kernel) rfl, by decide +kernel, rfl⟩
theorem flX9_304 : pv_fld RX9 304 7 0 (.int) := ⟨_, _, _, rfl, by decide, pv_t 202 (by decide +kernel) rfl, by decide +kernel⟩
theorem fwX9_304 : pv_fldW RX9 304 7 0 (.int) := ⟨_, _, _, rfl, by decide, pv_t 202 (by decide +kernel) rfl, by decide +kernel, rfl⟩
theorem flX7_9 : pv_fld RX7 9 7 1 (.int) := ⟨_, _, _, rfl, by decide, pv_t 203 (by decide +kernel) rfl, by decide +kernel⟩
theorem fwX7_9 : pv_fldW RX7 9 7 1 (.int) := ⟨_, _, _, rfl, by decide, pv_t 203 (by decide +kernel) rfl, by decide +kernel, rfl⟩
theorem flX9_109 : pv_fld RX9 109 7 1 (.int) := ⟨_, _, _, rfl, by decide, pv_t 204 (by decide +kernel) rfl, by decide +kernel⟩
theorem fwX9_109 : pv_fldW RX9 109 7 1 (.int) := ⟨_, _, _, rfl, by decide, pv_t 204 (by decide +kernel) rfl, by decide +kernel, rfl⟩
theorem flX7_15 : pv_fld RX7 15 7 2 (.int) := ⟨_, _, _, rfl, by decide, pv_t 205 (by decide +kernel) rfl, by decide +kernel⟩
theorem fwX7_15 : pv_fldW RX7 15 7 2 (.int) := ⟨_, _, _, rfl, by decide, pv_t 205 (by decide +kernel) rfl, by decide +kernel, rfl⟩
theorem flX9_112 : pv_fld RX9 112 7 2 (.int) := ⟨_, _, _, rfl, by decide, pv_t 206 (by decide +kernel) rfl, by decide +kernel⟩
theorem fwX9_112 : pv_fldW RX9 112 7 2 (.int) := ⟨_, _, _, rfl, by decide, pv_t 206 (by decide +kernel) rfl, by decide +kernel, rfl⟩
theorem flX7_97 : pv_fld RX7 97 7 3 (.int) := ⟨_, _, _, rfl, by decide, pv_t 207 (by decide +kernel) rfl, by decide +kernel⟩
theorem fwX7_97 : pv_fldW RX7 97 7 3 (.int) := ⟨_, _, _, rfl, by decide, pv_t 207 (by decide +kernel) rfl, by decide +kernel, rfl⟩
theorem flX9_306 : pv_fld RX9 306 7 3 (.int) := ⟨_, _, _, rfl, by decide, pv_t 208 (by decide +kernel) rfl, by decide +kernel⟩
theorem fwX9_306 : pv_fldW RX9 306 7 3 (.int) := ⟨_, _, _, rfl, by decide, pv_t 208 (by decide +kernel) rfl, by decide +kernel, rfl⟩
theorem flX7_160 : pv_fld RX7 160 7 4 (.int) := ⟨_, _, _, rfl, by decide, pv_t 209 (by decide +kernel) rfl, by decide +kernel⟩
theorem fwX7_160 : pv_fldW RX7 160 7 4 (.int) := ⟨_, _, _, rfl, by decide, pv_t 209 (by decide +kernel) rfl, by decide +kernel, rfl⟩
theorem flX9_309 : pv_fld RX9 309 7 4 (.int) := ⟨_, _, _, rfl, by decide, pv_t 210 (by decide +kernel) rfl, by decide +kernel⟩
theorem fwX9_309 : pv_fldW RX9 309 7 4 (.int) := ⟨_, _, _, rfl, by decide, pv_t 210 (by decide +kernel) rfl, by decide +kernel, rfl⟩
theorem flX7_21 : pv_fld RX7 21 7 5 (.object "ShipStores$Kinds") := ⟨_, _, _, rfl, by decide, pv_t 211 (by decide +kernel) rfl, by decide +kernel⟩
theorem ffX7_21 : pv_fldF RX7 21 7 5 (.object "ShipStores$Kinds") := ⟨_, _, _, rfl, by decide, pv_t 211 (by decide +kernel) rfl, by decide +kernel, rfl, rfl⟩
theorem flX9_37 : pv_fld RX9 37 7 5 (.object "ShipStores$Kinds") := ⟨_, _, _, rfl, by decide, pv_t 212 (by decide +kernel) rfl, by decide +kernel⟩
theorem flX7_28 : pv_fld RX7 28 7 6 (.object "ShipStores$Stores") := ⟨_, _, _, rfl, by decide, pv_t 213 (by decide +kernel) rfl, by decide +kernel⟩
theorem ffX7_28 : pv_fldF RX7 28 7 6 (.object "ShipStores$Stores") := ⟨_, _, _, rfl, by decide, pv_t 213 (by decide +kernel) rfl, by decide +kernel, rfl, rfl⟩
theorem flX9_78 : pv_fld RX9 78 7 6 (.object "ShipStores$Stores") := ⟨_, _, _, rfl, by decide, pv_t 214 (by decide +kernel) rfl, by decide +kernel⟩
theorem flX7_35 : pv_fld RX7 35 7 7 (.object "ShipStores$Lots") := ⟨_, _, _, rfl, by decide, pv_t 215 (by decide +kernel) rfl, by decide +kernel⟩
theorem ffX7_35 : pv_fldF RX7 35 7 7 (.object "ShipStores$Lots") := ⟨_, _, _, rfl, by decide, pv_t 215 (by decide +kernel) rfl, by decide +kernel, rfl, rfl⟩
theorem flX9_66 : pv_fld RX9 66 7 7 (.object "ShipStores$Lots") := ⟨_, _, _, rfl, by decide, pv_t 216 (by decide +kernel) rfl, by decide +kernel⟩
theorem flX7_42 : pv_fld RX7 42 7 8 (.object "ShipStores$Ports") := ⟨_, _, _, rfl, by decide, pv_t 217 (by decide +kernel) rfl, by decide +kernel⟩
theorem ffX7_42 : pv_fldF RX7 42 7 8 (.object "ShipStores$Ports") := ⟨_, _, _, rfl, by decide, pv_t 217 (by decide +kernel) rfl, by decide +kernel, rfl, rfl⟩
theorem flX9_122 : pv_fld RX9 122 7 8 (.object "ShipStores$Ports") := ⟨_, _, _, rfl, by decide, pv_t 218 (by decide +kernel) rfl, by decide +kernel⟩
theorem flX7_49 : pv_fld RX7 49 7 9 (.object "ShipStores$Menus") := ⟨_, _, _, rfl, by decide, pv_t 219 (by decide +kernel) rfl, by decide +kernel⟩
theorem ffX7_49 : pv_fldF RX7 49 7 9 (.object "ShipStores$Menus") := ⟨_, _, _, rfl, by decide, pv_t 219 (by decide +kernel) rfl, by decide +kernel, rfl, rfl⟩
theorem flX9_231 : pv_fld RX9 231 7 9 (.object "ShipStores$Menus") := ⟨_, _, _, rfl, by decide, pv_t 220 (by decide +kernel) rfl, by decide +kernel⟩
theorem flX7_58 : pv_fld RX7 58 7 10 (.object "ShipStores$Row") := ⟨_, _, _, rfl, by decide, pv_t 221 (by decide +kernel) rfl, by decide +kernel⟩
theorem ffX7_58 : pv_fldF RX7 58 7 10 (.object "ShipStores$Row") := ⟨_, _, _, rfl, by decide, pv_t 221 (by decide +kernel) rfl, by decide +kernel, rfl, rfl⟩
theorem flX0_18 : pv_fld RX0 18 0 0 (.int) := ⟨_, _, _, rfl, by decide, pv_t 254 (by decide +kernel) rfl, by decide +kernel⟩
theorem fwX0_18 : pv_fldW RX0 18 0 0 (.int) := ⟨_, _, _, rfl, by decide, pv_t 254 (by decide +kernel) rfl, by decide +kernel, rfl⟩
theorem flX9_243 : pv_fld RX9 243 0 0 (.int) := ⟨_, _, _, rfl, by decide, pv_t 255 (by decide +kernel) rfl, by decide +kernel⟩
theorem fwX9_243 : pv_fldW RX9 243 0 0 (.int) := ⟨_, _, _, rfl, by decide, pv_t 255 (by decide +kernel) rfl, by decide +kernel, rfl⟩
theorem flX0_22 : pv_fld RX0 22 0 1 (.int) := ⟨_, _, _, rfl, by decide, pv_t 256 (by decide +kernel) rfl, by decide +kernel⟩
theorem fwX0_22 : pv_fldW RX0 22 0 1 (.int) := ⟨_, _, _, rfl, by decide, pv_t 256 (by decide +kernel) rfl, by decide +kernel, rfl⟩
theorem flX0_11 : pv_fld RX0 11 0 2 (.array (.object "ShipStores$Ship")) := ⟨_, _, _, rfl, by decide, pv_t 257 (by decide +kernel) rfl, by decide +kernel⟩
theorem ffX0_11 : pv_fldF RX0 11 0 2 (.array (.object "ShipStores$Ship")) := ⟨_, _, _, rfl, by decide, pv_t 257 (by decide +kernel) rfl, by decide +kernel, rfl, rfl⟩
theorem flX3_40 : pv_fld RX3 40 3 0 (.int) := ⟨_, _, _, rfl, by decide, pv_t 275 (by decide +kernel) rfl, by decide +kernel⟩
theorem fwX3_40 : pv_fldW RX3 40 3 0 (.int) := ⟨_, _, _, rfl, by decide, pv_t 275 (by decide +kernel) rfl, by decide +kernel, rfl⟩
theorem flX9_209 : pv_fld RX9 209 3 0 (.int) := ⟨_, _, _, rfl, by decide, pv_t 276 (by decide +kernel) rfl, by decide +kernel⟩
theorem fwX9_209 : pv_fldW RX9 209 3 0 (.int) := ⟨_, _, _, rfl, by decide, pv_t 276 (by decide +kernel) rfl, by decide +kernel, rfl⟩
theorem flX3_14 : pv_fld RX3 14 3 1 (.object "ShipStores$Row") := ⟨_, _, _, rfl, by decide, pv_t 277 (by decide +kernel) rfl, by decide +kernel⟩
theorem ffX3_14 : pv_fldF RX3 14 3 1 (.object "ShipStores$Row") := ⟨_, _, _, rfl, by decide, pv_t 277 (by decide +kernel) rfl, by decide +kernel, rfl, rfl⟩
theorem flX9_214 : pv_fld RX9 214 3 1 (.object "ShipStores$Row") := ⟨_, _, _, rfl, by decide, pv_t 278 (by decide +kernel) rfl, by decide +kernel⟩
theorem flX3_23 : pv_fld RX3 23 3 2 (.object "ShipStores$Menus") := ⟨_, _, _, rfl, by decide, pv_t 279 (by decide +kernel) rfl, by decide +kernel⟩
theorem ffX3_23 : pv_fldF RX3 23 3 2 (.object "ShipStores$Menus") := ⟨_, _, _, rfl, by decide, pv_t 279 (by decide +kernel) rfl, by decide +kernel, rfl, rfl⟩
theorem flX9_235 : pv_fld RX9 235 3 2 (.object "ShipStores$Menus") := ⟨_, _, _, rfl, by decide, pv_t 280 (by decide +kernel) rfl, by decide +kernel⟩
theorem flX3_30 : pv_fld RX3 30 3 3 (.int) := ⟨_, _, _, rfl, by decide, pv_t 281 (by decide +kernel) rfl, by decide +kernel⟩
theorem fwX3_30 : pv_fldW RX3 30 3 3 (.int) := ⟨_, _, _, rfl, by decide, pv_t 281 (by decide +kernel) rfl, by decide +kernel, rfl⟩
theorem flX9_226 : pv_fld RX9 226 3 3 (.int) := ⟨_, _, _, rfl, by decide, pv_t 282 (by decide +kernel) rfl, by decide +kernel⟩
theorem fwX9_226 : pv_fldW RX9 226 3 3 (.int) := ⟨_, _, _, rfl, by decide, pv_t 282 (by decide +kernel) rfl, by decide +kernel, rfl⟩
theorem flX3_34 : pv_fld RX3 34 3 4 (.int) := ⟨_, _, _, rfl, by decide, pv_t 283 (by decide +kernel) rfl, by decide +kernel⟩
theorem fwX3_34 : pv_fldW RX3 34 3 4 (.int) := ⟨_, _, _, rfl, by decide, pv_t 283 (by decide +kernel) rfl, by decide +kernel, rfl⟩
theorem flX3_37 : pv_fld RX3 37 3 5 (.int) := ⟨_, _, _, rfl, by decide, pv_t 284 (by decide +kernel) rfl, by decide +kernel⟩
theorem fwX3_37 : pv_fldW RX3 37 3 5 (.int) := ⟨_, _, _, rfl, by decide, pv_t 284 (by decide +kernel) rfl, by decide +kernel, rfl⟩
theorem flX9_10 : pv_fld RX9 10 9 0 (.object "ShipStores$Ship") := ⟨_, _, _, rfl, by decide, pv_t 298 (by decide +kernel) rfl, by decide +kernel⟩
theorem ffX9_10 : pv_fldF RX9 10 9 0 (.object "ShipStores$Ship") := ⟨_, _, _, rfl, by decide, pv_t 298 (by decide +kernel) rfl, by decide +kernel, rfl, rfl⟩
theorem flX9_16 : pv_fld RX9 16 9 1 (.object "ShipStores$Ship") := ⟨_, _, _, rfl, by decide, pv_t 299 (by decide +kernel) rfl, by decide +kernel⟩
theorem ffX9_16 : pv_fldF RX9 16 9 1 (.object "ShipStores$Ship") := ⟨_, _, _, rfl, by decide, pv_t 299 (by decide +kernel) rfl, by decide +kernel, rfl, rfl⟩
theorem flX9_22 : pv_fld RX9 22 9 2 (.object "ShipStores$History") := ⟨_, _, _, rfl, by decide, pv_t 300 (by decide +kernel) rfl, by decide +kernel⟩
theorem ffX9_22 : pv_fldF RX9 22 9 2 (.object "ShipStores$History") := ⟨_, _, _, rfl, by decide, pv_t 300 (by decide +kernel) rfl, by decide +kernel, rfl, rfl⟩
theorem flX9_29 : pv_fld RX9 29 9 3 (.object "ShipStores$MenuText") := ⟨_, _, _, rfl, by decide, pv_t 301 (by decide +kernel) rfl, by decide +kernel⟩
theorem ffX9_29 : pv_fldF RX9 29 9 3 (.object "ShipStores$MenuText") := ⟨_, _, _, rfl, by decide, pv_t 301 (by decide +kernel) rfl, by decide +kernel, rfl, rfl⟩
theorem flX10_31 : pv_fld RX10 31 10 0 (.int) := ⟨_, _, _, rfl, by decide, pv_t 1002 (by decide +kernel) rfl, by decide +kernel⟩
theorem fwX10_31 : pv_fldW RX10 31 10 0 (.int) := ⟨_, _, _, rfl, by decide, pv_t 1002 (by decide +kernel) rfl, by decide +kernel, rfl⟩
theorem flX10_7 : pv_fld RX10 7 10 1 (.array .int) := ⟨_, _, _, rfl, by decide, pv_t 1003 (by decide +kernel) rfl, by decide +kernel⟩
theorem ffX10_7 : pv_fldF RX10 7 10 1 (.array .int) := ⟨_, _, _, rfl, by decide, pv_t 1003 (by decide +kernel) rfl, by decide +kernel, rfl, rfl⟩
theorem flX10_13 : pv_fld RX10 13 10 2 (.array .int) := ⟨_, _, _, rfl, by decide, pv_t 1004 (by decide +kernel) rfl, by decide +kernel⟩
theorem ffX10_13 : pv_fldF RX10 13 10 2 (.array .int) := ⟨_, _, _, rfl, by decide, pv_t 1004 (by decide +kernel) rfl, by decide +kernel, rfl, rfl⟩
theorem flX10_39 : pv_fld RX10 39 10 3 (.int) := ⟨_, _, _, rfl, by decide, pv_t 1005 (by decide +kernel) rfl, by decide +kernel⟩
theorem fwX10_39 : pv_fldW RX10 39 10 3 (.int) := ⟨_, _, _, rfl, by decide, pv_t 1005 (by decide +kernel) rfl, by decide +kernel, rfl⟩
theorem flX10_16 : pv_fld RX10 16 10 4 (.array .int) := ⟨_, _, _, rfl, by decide, pv_t 1006 (by decide +kernel) rfl, by decide +kernel⟩
theorem ffX10_16 : pv_fldF RX10 16 10 4 (.array .int) := ⟨_, _, _, rfl, by decide, pv_t 1006 (by decide +kernel) rfl, by decide +kernel, rfl, rfl⟩
theorem flX10_144 : pv_fld RX10 144 10 5 (.int) := ⟨_, _, _, rfl, by decide, pv_t 1007 (by decide +kernel) rfl, by decide +kernel⟩
theorem fwX10_144 : pv_fldW RX10 144 10 5 (.int) := ⟨_, _, _, rfl, by decide, pv_t 1007 (by decide +kernel) rfl, by decide +kernel, rfl⟩
theorem flX10_19 : pv_fld RX10 19 10 6 (.array .int) := ⟨_, _, _, rfl, by decide, pv_t 1008 (by decide +kernel) rfl, by decide +kernel⟩
theorem ffX10_19 : pv_fldF RX10 19 10 6 (.array .int) := ⟨_, _, _, rfl, by decide, pv_t 1008 (by decide +kernel) rfl, by decide +kernel, rfl, rfl⟩
theorem flX10_22 : pv_fld RX10 22 10 7 (.array .int) := ⟨_, _, _, rfl, by decide, pv_t 1009 (by decide +kernel) rfl, by decide +kernel⟩
theorem ffX10_22 : pv_fldF RX10 22 10 7 (.array .int) := ⟨_, _, _, rfl, by decide, pv_t 1009 (by decide +kernel) rfl, by decide +kernel, rfl, rfl⟩
theorem flX10_25 : pv_fld RX10 25 10 8 (.array .int) := ⟨_, _, _, rfl, by decide, pv_t 1010 (by decide +kernel) rfl, by decide +kernel⟩
theorem ffX10_25 : pv_fldF RX10 25 10 8 (.array .int) := ⟨_, _, _, rfl, by decide, pv_t 1010 (by decide +kernel) rfl, by decide +kernel, rfl, rfl⟩
theorem flX10_28 : pv_fld RX10 28 10 9 (.array .int) := ⟨_, _, _, rfl, by decide, pv_t 1011 (by decide +kernel) rfl, by decide +kernel⟩
theorem ffX10_28 : pv_fldF RX10 28 10 9 (.array .int) := ⟨_, _, _, rfl, by decide, pv_t 1011 (by decide +kernel) rfl, by decide +kernel, rfl, rfl⟩
theorem flX10_132 : pv_fld RX10 132 10 10 (.int) := ⟨_, _, _, rfl, by decide, pv_t 1012 (by decide +kernel) rfl, by decide +kernel⟩
theorem fwX10_132 : pv_fldW RX10 132 10 10 (.int) := ⟨_, _, _, rfl, by decide, pv_t 1012 (by decide +kernel) rfl, by decide +kernel, rfl⟩
theorem flX10_135 : pv_fld RX10 135 10 11 (.int) := ⟨_, _, _, rfl, by decide, pv_t 1013 (by decide +kernel) rfl, by decide +kernel⟩
theorem fwX10_135 : pv_fldW RX10 135 10 11 (.int) := ⟨_, _, _, rfl, by decide, pv_t 1013 (by decide +kernel) rfl, by decide +kernel, rfl⟩
theorem flX10_204 : pv_fld RX10 204 10 12 (.long) := ⟨_, _, _, rfl, by decide, pv_t 1014 (by decide +kernel) rfl, by decide +kernel⟩
theorem fwX10_204 : pv_fldW RX10 204 10 12 (.long) := ⟨_, _, _, rfl, by decide, pv_t 1014 (by decide +kernel) rfl, by decide +kernel, rfl⟩
def mX9_init : pv_MI := (yX9_init, cX9_init, 1, none, [])
def mX7_init : pv_MI := (yX7_init, cX7_init, 1, none, [])
def mX1_init : pv_MI := (yX1_init, cX1_init, 1, none, [])
def mX6_init : pv_MI := (yX6_init, cX6_init, 2, none, [])
def mX8_init : pv_MI := (yX8_init, cX8_init, 1, none, [])
def mX6_fill : pv_MI := (yX6_fill, cX6_fill, 3, none, [])
def mX2_init : pv_MI := (yX2_init, cX2_init, 1, none, [])
def mX5_init : pv_MI := (yX5_init, cX5_init, 1, none, [])
def mX4_init : pv_MI := (yX4_init, cX4_init, 1, none, [])
def mX0_init : pv_MI := (yX0_init, cX0_init, 2, none, [])
def mX3_init : pv_MI := (yX3_init, cX3_init, 1, none, [])
def mX9_clearBuffer : pv_MI := (yX9_clearBuffer, cX9_clearBuffer, 2, some (.int), [])
def mX9_firstError : pv_MI := (yX9_firstError, cX9_firstError, 1, some (.int), [])
def mX3_readMenus : pv_MI := (yX3_readMenus, cX3_readMenus, 2, some (.int), [])
def mX4_forget : pv_MI := (yX4_forget, cX4_forget, 1, none, [])
def mX6_at : pv_MI := (yX6_at, cX6_at, 2, some (.int), [])
def mX3_accepts : pv_MI := (yX3_accepts, cX3_accepts, 2, some (.boolean), [])
def mX3_comesTo : pv_MI := (yX3_comesTo, cX3_comesTo, 2, some (.boolean), [])
def mX3_acceptsKind : pv_MI := (yX3_acceptsKind, cX3_acceptsKind, 2, some (.boolean), [])
def mX9_isWithin : pv_MI := (yX9_isWithin, cX9_isWithin, 3, some (.boolean), [])
def mX3_slot : pv_MI := (yX3_slot, cX3_slot, 1, some (.int), [])
def mX4_slot : pv_MI := (yX4_slot, cX4_slot, 3, some (.int), [])
def mX6_put : pv_MI := (yX6_put, cX6_put, 3, none, [])
def mJ9_max_7cf53 : pv_MI := (yJ9_max_7cf53, cJ9_max_7cf53, 2, some (.int), [])
def mX3_beginsMenu : pv_MI := (yX3_beginsMenu, cX3_beginsMenu, 1, some (.boolean), [])
def mX3_acceptsAmount : pv_MI := (yX3_acceptsAmount, cX3_acceptsAmount, 2, some (.boolean), [])
def mX3_acceptsSeparator : pv_MI := (yX3_acceptsSeparator, cX3_acceptsSeparator, 2, some (.boolean), [])
def mX3_acceptsSubstitute : pv_MI := (yX3_acceptsSubstitute, cX3_acceptsSubstitute, 2, some (.boolean), [])
def mX9_meanAge : pv_MI := (yX9_meanAge, cX9_meanAge, 2, some (.double), [])
def mX2_rations : pv_MI := (yX2_rations, cX2_rations, 3, some (.int), [])
def mX2_ageSum : pv_MI := (yX2_ageSum, cX2_ageSum, 4, some (.long), [])
def mX9_digest : pv_MI := (yX9_digest, cX9_digest, 6, some (.long), [])
def mX9_count : pv_MI := (yX9_count, cX9_count, 2, some (.int), [])
def mX5_onDay : pv_MI := (yX5_onDay, cX5_onDay, 3, some (.int), [])
def mX5_after : pv_MI := (yX5_after, cX5_after, 3, some (.int), [])
def mX9_lot : pv_MI := (yX9_lot, cX9_lot, 3, some (.int), [])
def mX9_requireLot : pv_MI := (yX9_requireLot, cX9_requireLot, 2, none, [])
def mX7_daysLeftOf : pv_MI := (yX7_daysLeftOf, cX7_daysLeftOf, 7, some (.int), [])
def mX1_lifeIn : pv_MI := (yX1_lifeIn, cX1_lifeIn, 3, some (.int), [])
def mX7_stepFor : pv_MI := (yX7_stepFor, cX7_stepFor, 1, some (.int), [])
def mX7_stepsTo : pv_MI := (yX7_stepsTo, cX7_stepsTo, 2, some (.int), [])
def mX7_eatingPlaceOf : pv_MI := (yX7_eatingPlaceOf, cX7_eatingPlaceOf, 6, some (.int), [])
def mX9_store : pv_MI := (yX9_store, cX9_store, 3, some (.int), [])
def mX9_requireStore : pv_MI := (yX9_requireStore, cX9_requireStore, 1, none, [])
def mX2_rationsIn : pv_MI := (yX2_rationsIn, cX2_rationsIn, 4, some (.int), [])
def mX2_numberIn : pv_MI := (yX2_numberIn, cX2_numberIn, 4, some (.int), [])
def mX9_kind : pv_MI := (yX9_kind, cX9_kind, 3, some (.int), [])
def mX9_requireKind : pv_MI := (yX9_requireKind, cX9_requireKind, 2, none, [])
def mX2_rationsOf : pv_MI := (yX2_rationsOf, cX2_rationsOf, 4, some (.int), [])
def mX2_numberOf : pv_MI := (yX2_numberOf, cX2_numberOf, 4, some (.int), [])
def mX7_become : pv_MI := (yX7_become, cX7_become, 2, none, [])
def mX1_become : pv_MI := (yX1_become, cX1_become, 2, none, [])
def mX6_become : pv_MI := (yX6_become, cX6_become, 2, none, [])
def mX8_become : pv_MI := (yX8_become, cX8_become, 2, none, [])
def mX2_become : pv_MI := (yX2_become, cX2_become, 2, none, [])
def mX5_become : pv_MI := (yX5_become, cX5_become, 2, none, [])
def mX4_become : pv_MI := (yX4_become, cX4_become, 2, none, [])
def mX7_firstShort : pv_MI := (yX7_firstShort, cX7_firstShort, 5, some (.int), [])
def mX7_passDay : pv_MI := (yX7_passDay, cX7_passDay, 4, none, [])
def mX4_ofDay : pv_MI := (yX4_ofDay, cX4_ofDay, 2, some (.int), [])
def mJ9_floorMod_7cf53 : pv_MI := (yJ9_floorMod_7cf53, cJ9_floorMod_7cf53, 3, some (.int), [])
def mX7_serveItem : pv_MI := (yX7_serveItem, cX7_serveItem, 5, some (.int), [])
def mX4_has : pv_MI := (yX4_has, cX4_has, 2, some (.boolean), [])
def mX7_eatOf : pv_MI := (yX7_eatOf, cX7_eatOf, 7, some (.int), [])
def mX7_nextToEat : pv_MI := (yX7_nextToEat, cX7_nextToEat, 4, some (.int), [])
def mJ9_min_7cf53 : pv_MI := (yJ9_min_7cf53, cJ9_min_7cf53, 2, some (.int), [])
def mX6_add : pv_MI := (yX6_add, cX6_add, 3, none, [])
def mX7_ageLots : pv_MI := (yX7_ageLots, cX7_ageLots, 3, none, [])
def mX7_lifeNow : pv_MI := (yX7_lifeNow, cX7_lifeNow, 3, some (.int), [])
def mX2_dropEmpty : pv_MI := (yX2_dropEmpty, cX2_dropEmpty, 3, none, [])
def mX2_copyLot : pv_MI := (yX2_copyLot, cX2_copyLot, 3, none, [])
def mX8_endDay : pv_MI := (yX8_endDay, cX8_endDay, 2, none, [])
def mX9_bestStore : pv_MI := (yX9_bestStore, cX9_bestStore, 6, some (.int), [])
def mX9_port : pv_MI := (yX9_port, cX9_port, 3, some (.int), [])
def mX9_requirePort : pv_MI := (yX9_requirePort, cX9_requirePort, 2, none, [])
def mX9_requireWithin : pv_MI := (yX9_requireWithin, cX9_requireWithin, 3, none, [])
def mX5_priceOf : pv_MI := (yX5_priceOf, cX5_priceOf, 3, some (.int), [])
def mX9_menu : pv_MI := (yX9_menu, cX9_menu, 5, some (.int), [])
def mX7_passDays : pv_MI := (yX7_passDays, cX7_passDays, 3, none, [])
def mX9_outcomeOfTrial : pv_MI := (yX9_outcomeOfTrial, cX9_outcomeOfTrial, 2, some (.int), [])
def mX6_sum : pv_MI := (yX6_sum, cX6_sum, 3, some (.int), [])
def mX9_bitsOf : pv_MI := (yX9_bitsOf, cX9_bitsOf, 7, some (.long), [])
def mL_addKind : pv_MI := (yL_addKind, cL_addKind, 6, some (.int), [(0, 12, 15, 13), (0, 12, 19, 15)])
def mX9_addKind : pv_MI := (yX9_addKind, cX9_addKind, 4, some (.int), [])
def mX0_save : pv_MI := (yX0_save, cX0_save, 3, none, [])
def mX0_stateAt : pv_MI := (yX0_stateAt, cX0_stateAt, 3, some (.object "ShipStores$Ship"), [])
def mX1_addOne : pv_MI := (yX1_addOne, cX1_addOne, 5, some (.int), [])
def mL_setRoom : pv_MI := (yL_setRoom, cL_setRoom, 5, some (.int), [(0, 10, 13, 21), (0, 10, 17, 13), (0, 10, 21, 15)])
def mX9_setRoom : pv_MI := (yX9_setRoom, cX9_setRoom, 4, some (.int), [])
def mL_warm : pv_MI := (yL_warm, cL_warm, 5, some (.int), [(0, 10, 13, 21), (0, 10, 17, 13)])
def mX9_warm : pv_MI := (yX9_warm, cX9_warm, 4, some (.int), [])
def mL_setCrew : pv_MI := (yL_setCrew, cL_setCrew, 4, some (.int), [(0, 9, 12, 13)])
def mX9_setCrew : pv_MI := (yX9_setCrew, cX9_setCrew, 3, some (.int), [])
def mL_pay : pv_MI := (yL_pay, cL_pay, 4, some (.int), [(0, 9, 12, 13)])
def mX9_pay : pv_MI := (yX9_pay, cX9_pay, 4, some (.int), [])
def mL_addPort : pv_MI := (yL_addPort, cL_addPort, 5, some (.int), [(0, 10, 13, 13), (0, 10, 17, 15)])
def mX9_addPort : pv_MI := (yX9_addPort, cX9_addPort, 3, some (.int), [])
def mX5_insert : pv_MI := (yX5_insert, cX5_insert, 6, some (.int), [])
def mX5_copyPort : pv_MI := (yX5_copyPort, cX5_copyPort, 4, none, [])
def mX5_putPrice : pv_MI := (yX5_putPrice, cX5_putPrice, 4, none, [])
def mL_removePort : pv_MI := (yL_removePort, cL_removePort, 4, some (.int), [(0, 9, 12, 21)])
def mX9_removePort : pv_MI := (yX9_removePort, cX9_removePort, 3, some (.int), [])
def mX5_takeOut : pv_MI := (yX5_takeOut, cX5_takeOut, 3, none, [])
def mL_setPrice : pv_MI := (yL_setPrice, cL_setPrice, 6, some (.int), [(0, 12, 15, 21), (0, 12, 19, 13)])
def mX9_setPrice : pv_MI := (yX9_setPrice, cX9_setPrice, 5, some (.int), [])
def mL_buy : pv_MI := (yL_buy, cL_buy, 6, some (.int), [(0, 12, 15, 21), (0, 12, 19, 13), (0, 12, 23, 15)])
def mX9_buy : pv_MI := (yX9_buy, cX9_buy, 4, some (.int), [])
def mX7_refusal : pv_MI := (yX7_refusal, cX7_refusal, 6, some (.int), [])
def mX7_roomLeft : pv_MI := (yX7_roomLeft, cX7_roomLeft, 2, some (.int), [])
def mX7_purchase : pv_MI := (yX7_purchase, cX7_purchase, 6, some (.int), [])
def mX2_addOne : pv_MI := (yX2_addOne, cX2_addOne, 5, some (.int), [])
def mL_move : pv_MI := (yL_move, cL_move, 6, some (.int), [(0, 12, 15, 21), (0, 12, 19, 13), (0, 12, 23, 15)])
def mX9_move : pv_MI := (yX9_move, cX9_move, 5, some (.int), [])
def mX2_split : pv_MI := (yX2_split, cX2_split, 4, some (.int), [])
def mL_discard : pv_MI := (yL_discard, cL_discard, 5, some (.int), [(0, 10, 13, 21), (0, 10, 17, 13)])
def mX9_discard : pv_MI := (yX9_discard, cX9_discard, 3, some (.int), [])
def mL_pass : pv_MI := (yL_pass, cL_pass, 4, some (.int), [(0, 9, 12, 13)])
def mX9_pass : pv_MI := (yX9_pass, cX9_pass, 3, some (.int), [])
def mL_append : pv_MI := (yL_append, cL_append, 4, some (.int), [(0, 9, 12, 13), (0, 9, 15, 15)])
def mX9_append : pv_MI := (yX9_append, cX9_append, 2, some (.int), [])
def mL_load : pv_MI := (yL_load, cL_load, 3, some (.int), [(0, 8, 11, 13), (0, 8, 14, 15)])
def mX9_load : pv_MI := (yX9_load, cX9_load, 1, some (.int), [])
def mX3_isComplete : pv_MI := (yX3_isComplete, cX3_isComplete, 1, some (.boolean), [])
def mL_undo : pv_MI := (yL_undo, cL_undo, 3, some (.int), [(0, 8, 11, 15)])
def mX9_undo : pv_MI := (yX9_undo, cX9_undo, 1, some (.int), [])
def mX0_restore : pv_MI := (yX0_restore, cX0_restore, 2, none, [])
def mL_lot : pv_MI := (yL_lot, cL_lot, 5, some (.int), [(0, 10, 13, 21), (0, 10, 17, 13)])
def mL_store : pv_MI := (yL_store, cL_store, 5, some (.int), [(0, 10, 13, 21), (0, 10, 17, 13)])
def mL_kind : pv_MI := (yL_kind, cL_kind, 5, some (.int), [(0, 10, 13, 21), (0, 10, 17, 13)])
def mL_port : pv_MI := (yL_port, cL_port, 5, some (.int), [(0, 10, 13, 21), (0, 10, 17, 13)])
def mL_menu : pv_MI := (yL_menu, cL_menu, 6, some (.int), [(0, 12, 15, 21), (0, 12, 19, 13)])
def mL_count : pv_MI := (yL_count, cL_count, 4, some (.int), [(0, 9, 12, 13)])
def mL_why : pv_MI := (yL_why, cL_why, 6, some (.int), [(0, 12, 15, 21), (0, 12, 19, 13)])
def mX9_why : pv_MI := (yX9_why, cX9_why, 4, some (.int), [])
def mL_ifPass : pv_MI := (yL_ifPass, cL_ifPass, 5, some (.int), [(0, 10, 13, 13)])
def mX9_ifPass : pv_MI := (yX9_ifPass, cX9_ifPass, 3, some (.int), [])
def mL_spoils : pv_MI := (yL_spoils, cL_spoils, 5, some (.int), [(0, 10, 13, 21), (0, 10, 17, 13)])
def mX9_spoils : pv_MI := (yX9_spoils, cX9_spoils, 3, some (.int), [])
def mL_shortIn : pv_MI := (yL_shortIn, cL_shortIn, 4, some (.int), [(0, 9, 12, 21)])
def mX9_shortIn : pv_MI := (yX9_shortIn, cX9_shortIn, 2, some (.int), [])
def mL_bestStore : pv_MI := (yL_bestStore, cL_bestStore, 4, some (.int), [(0, 9, 12, 21)])
def mL_leastPurchase : pv_MI := (yL_leastPurchase, cL_leastPurchase, 5, some (.int), [(0, 10, 13, 21)])
def mX9_leastPurchase : pv_MI := (yX9_leastPurchase, cX9_leastPurchase, 5, some (.int), [])
def mX7_daysToNextPort : pv_MI := (yX7_daysToNextPort, cX7_daysToNextPort, 2, some (.int), [])
def mL_cheapest : pv_MI := (yL_cheapest, cL_cheapest, 4, some (.int), [(0, 9, 12, 21)])
def mX9_cheapest : pv_MI := (yX9_cheapest, cX9_cheapest, 6, some (.int), [])
def mX10_init : pv_MI := (yX10_init, cX10_init, 2, none, [])
def mX10_thrown : pv_MI := (yX10_thrown, cX10_thrown, 1, some (.int), [])
def mX10_addKind : pv_MI := (yX10_addKind, cX10_addKind, 6, some (.int), [])
def mX10_isLife : pv_MI := (yX10_isLife, cX10_isLife, 1, some (.boolean), [])
def mX10_within : pv_MI := (yX10_within, cX10_within, 3, some (.boolean), [])
def mX10_save : pv_MI := (yX10_save, cX10_save, 2, none, [])
def mX10_copy : pv_MI := (yX10_copy, cX10_copy, 5, none, [])
def mX10_setRoom : pv_MI := (yX10_setRoom, cX10_setRoom, 4, some (.int), [])
def mX10_isStore : pv_MI := (yX10_isStore, cX10_isStore, 1, some (.boolean), [])
def mX10_inStore : pv_MI := (yX10_inStore, cX10_inStore, 4, some (.int), [])
def mX10_of : pv_MI := (yX10_of, cX10_of, 3, some (.int), [])
def mX10_warm : pv_MI := (yX10_warm, cX10_warm, 4, some (.int), [])
def mX10_setCrew : pv_MI := (yX10_setCrew, cX10_setCrew, 3, some (.int), [])
def mX10_pay : pv_MI := (yX10_pay, cX10_pay, 4, some (.int), [])
def mX10_addPort : pv_MI := (yX10_addPort, cX10_addPort, 6, some (.int), [])
def mX10_portOf : pv_MI := (yX10_portOf, cX10_portOf, 4, some (.int), [])
def mX10_removePort : pv_MI := (yX10_removePort, cX10_removePort, 4, some (.int), [])
def mX10_isPort : pv_MI := (yX10_isPort, cX10_isPort, 2, some (.boolean), [])
def mX10_setPrice : pv_MI := (yX10_setPrice, cX10_setPrice, 6, some (.int), [])
def mX10_isKind : pv_MI := (yX10_isKind, cX10_isKind, 2, some (.boolean), [])
def mX10_buy : pv_MI := (yX10_buy, cX10_buy, 6, some (.int), [])
def mX10_isAmount : pv_MI := (yX10_isAmount, cX10_isAmount, 1, some (.boolean), [])
def mX10_refusal : pv_MI := (yX10_refusal, cX10_refusal, 6, some (.int), [])
def mX10_lifeIn : pv_MI := (yX10_lifeIn, cX10_lifeIn, 4, some (.int), [])
def mX10_tally : pv_MI := (yX10_tally, cX10_tally, 4, none, [])
def mX10_putLot : pv_MI := (yX10_putLot, cX10_putLot, 6, none, [])
def mX10_move : pv_MI := (yX10_move, cX10_move, 5, some (.int), [])
def mX10_isLot : pv_MI := (yX10_isLot, cX10_isLot, 2, some (.boolean), [])
def mX10_discard : pv_MI := (yX10_discard, cX10_discard, 3, some (.int), [])
def mX10_dropEmpty : pv_MI := (yX10_dropEmpty, cX10_dropEmpty, 4, none, [])
def mX10_rations : pv_MI := (yX10_rations, cX10_rations, 1, some (.int), [])
def mX10_pass : pv_MI := (yX10_pass, cX10_pass, 3, some (.int), [])
def mX10_all : pv_MI := (yX10_all, cX10_all, 4, some (.int), [])
def mX10_passDays : pv_MI := (yX10_passDays, cX10_passDays, 3, none, [])
def mX10_passDay : pv_MI := (yX10_passDay, cX10_passDay, 1, none, [])
def mX10_serve : pv_MI := (yX10_serve, cX10_serve, 6, some (.boolean), [])
def mX10_daysLeft : pv_MI := (yX10_daysLeft, cX10_daysLeft, 6, some (.int), [])
def mX10_ages : pv_MI := (yX10_ages, cX10_ages, 5, some (.int), [])
def mX10_eat : pv_MI := (yX10_eat, cX10_eat, 6, some (.int), [])
def mX10_nextLot : pv_MI := (yX10_nextLot, cX10_nextLot, 4, some (.int), [])
def mX10_age : pv_MI := (yX10_age, cX10_age, 4, none, [])
def mX10_append : pv_MI := (yX10_append, cX10_append, 2, some (.int), [])
def mX10_clearBuffer : pv_MI := (yX10_clearBuffer, cX10_clearBuffer, 2, some (.int), [])
def mX10_firstError : pv_MI := (yX10_firstError, cX10_firstError, 1, some (.int), [])
def mX10_rightLength : pv_MI := (yX10_rightLength, cX10_rightLength, 2, some (.int), [])
def mX10_takes : pv_MI := (yX10_takes, cX10_takes, 3, some (.boolean), [])
def mX10_takesItem : pv_MI := (yX10_takesItem, cX10_takesItem, 3, some (.boolean), [])
def mX10_goesOn : pv_MI := (yX10_goesOn, cX10_goesOn, 3, some (.boolean), [])
def mX10_load : pv_MI := (yX10_load, cX10_load, 4, some (.int), [])
def mX10_areKinds : pv_MI := (yX10_areKinds, cX10_areKinds, 5, some (.boolean), [])
def mX10_undo : pv_MI := (yX10_undo, cX10_undo, 1, some (.int), [])
def mX10_lot : pv_MI := (yX10_lot, cX10_lot, 3, some (.int), [])
def mX10_lotNow : pv_MI := (yX10_lotNow, cX10_lotNow, 3, some (.int), [])
def mX10_placeOf : pv_MI := (yX10_placeOf, cX10_placeOf, 6, some (.int), [])
def mX10_store : pv_MI := (yX10_store, cX10_store, 3, some (.int), [])
def mX10_storeNow : pv_MI := (yX10_storeNow, cX10_storeNow, 3, some (.int), [])
def mX10_lotsWith : pv_MI := (yX10_lotsWith, cX10_lotsWith, 5, some (.int), [])
def mX10_kind : pv_MI := (yX10_kind, cX10_kind, 3, some (.int), [])
def mX10_kindNow : pv_MI := (yX10_kindNow, cX10_kindNow, 3, some (.int), [])
def mX10_inLots : pv_MI := (yX10_inLots, cX10_inLots, 4, some (.int), [])
def mX10_port : pv_MI := (yX10_port, cX10_port, 3, some (.int), [])
def mX10_menu : pv_MI := (yX10_menu, cX10_menu, 4, some (.int), [])
def mX10_menuNow : pv_MI := (yX10_menuNow, cX10_menuNow, 4, some (.int), [])
def mX10_count : pv_MI := (yX10_count, cX10_count, 2, some (.int), [])
def mX10_counted : pv_MI := (yX10_counted, cX10_counted, 2, some (.int), [])
def mX10_nextPort : pv_MI := (yX10_nextPort, cX10_nextPort, 2, some (.int), [])
def mX10_why : pv_MI := (yX10_why, cX10_why, 4, some (.int), [])
def mX10_ifPass : pv_MI := (yX10_ifPass, cX10_ifPass, 3, some (.int), [])
def mX10_isDays : pv_MI := (yX10_isDays, cX10_isDays, 1, some (.boolean), [])
def mX10_ahead : pv_MI := (yX10_ahead, cX10_ahead, 8, some (.int), [])
def mX10_spoils : pv_MI := (yX10_spoils, cX10_spoils, 5, some (.int), [])
def mX10_shortIn : pv_MI := (yX10_shortIn, cX10_shortIn, 2, some (.int), [])
def mX10_shortNow : pv_MI := (yX10_shortNow, cX10_shortNow, 2, some (.int), [])
def mX10_firstShort : pv_MI := (yX10_firstShort, cX10_firstShort, 6, some (.int), [])
def mX10_bestStore : pv_MI := (yX10_bestStore, cX10_bestStore, 2, some (.int), [])
def mX10_bestNow : pv_MI := (yX10_bestNow, cX10_bestNow, 6, some (.int), [])
def mX10_leastPurchase : pv_MI := (yX10_leastPurchase, cX10_leastPurchase, 6, some (.int), [])
def mX10_cheapest : pv_MI := (yX10_cheapest, cX10_cheapest, 6, some (.int), [])
def mX10_meanAge : pv_MI := (yX10_meanAge, cX10_meanAge, 1, some (.double), [])
def mX10_meanNow : pv_MI := (yX10_meanNow, cX10_meanNow, 3, some (.double), [])
def mX10_digest : pv_MI := (yX10_digest, cX10_digest, 2, some (.long), [])
def mX10_mix : pv_MI := (yX10_mix, cX10_mix, 3, none, [])
def mX10_mixKinds : pv_MI := (yX10_mixKinds, cX10_mixKinds, 3, none, [])
def mX10_mixPorts : pv_MI := (yX10_mixPorts, cX10_mixPorts, 3, none, [])
def mJxe99ae_doubleToLongBits_ccdee : pv_MI := (yJxe99ae_doubleToLongBits_ccdee, cJxe99ae_doubleToLongBits_ccdee, 2, some (.long), [])
def mJxe99ae_isNaN_b9ae7 : pv_MI := (yJxe99ae_isNaN_b9ae7, cJxe99ae_isNaN_b9ae7, 2, some (.boolean), [])
set_option maxRecDepth 100000 in
theorem pkmX9_init : tables_1[25]? = some (pv_cw mX9_init) := by rfl
theorem mcX9_init : pv_mI mX9_init 0 := ⟨⟨pv_t 25 pkmX9_init rfl, pv_t 1 (by decide +kernel) rfl, ⟨by decide +kernel, by decide +kernel⟩, by decide +kernel, by decide +kernel, rfl, by decide⟩, pv_t 24 (by decide +kernel) rfl, rfl, rfl⟩
set_option maxRecDepth 100000 in
theorem pkmX7_init : tables_1[33]? = some (pv_cw mX7_init) := by rfl
theorem mcX7_init : pv_mI mX7_init 0 := ⟨⟨pv_t 33 pkmX7_init rfl, pv_t 2 (by decide +kernel) rfl, ⟨by decide +kernel, by decide +kernel⟩, by decide +kernel, by decide +kernel, rfl, by decide⟩, pv_t 32 (by decide +kernel) rfl, rfl, rfl⟩
set_option maxRecDepth 100000 in
theorem pkmX1_init : tables_1[39]? = some (pv_cw mX1_init) := by rfl
theorem mcX1_init : pv_mI mX1_init 0 := ⟨⟨pv_t 39 pkmX1_init rfl, pv_t 3 (by decide +kernel) rfl, ⟨by decide +kernel, by decide +kernel⟩, by decide +kernel, by decide +kernel, rfl, by decide⟩, pv_t 38 (by decide +kernel) rfl, rfl, rfl⟩
set_option maxRecDepth 100000 in
theorem pkmX6_init : tables_1[45]? = some (pv_cw mX6_init) := by rfl
theorem mcX6_init : pv_mI mX6_init 1 := ⟨⟨pv_t 45 pkmX6_init rfl, pv_t 4 (by decide +kernel) rfl, ⟨by decide +kernel, by decide +kernel⟩, by decide +kernel, by decide +kernel, rfl, by decide⟩, pv_t 44 (by decide +kernel) rfl, rfl, rfl⟩
set_option maxRecDepth 100000 in
theorem pkmX8_init : tables_1[88]? = some (pv_cw mX8_init) := by rfl
theorem mcX8_init : pv_mI mX8_init 0 := ⟨⟨pv_t 88 pkmX8_init rfl, pv_t 5 (by decide +kernel) rfl, ⟨by decide +kernel, by decide +kernel⟩, by decide +kernel, by decide +kernel, rfl, by decide⟩, pv_t 87 (by decide +kernel) rfl, rfl, rfl⟩
set_option maxRecDepth 100000 in
theorem pkmX6_fill : tables_1[95]? = some (pv_cw mX6_fill) := by rfl
theorem mvX6_fill : pv_mV mX6_fill 1 := ⟨⟨pv_t 95 pkmX6_fill rfl, pv_t 4 (by decide +kernel) rfl, ⟨by decide +kernel, by decide +kernel⟩, by decide +kernel, by decide +kernel, rfl, by decide⟩, pv_t 93 (by decide +kernel) rfl, pv_t 94 (by decide +kernel) rfl⟩
set_option maxRecDepth 100000 in
theorem pkmX2_init : tables_1[111]? = some (pv_cw mX2_init) := by rfl
theorem mcX2_init : pv_mI mX2_init 0 := ⟨⟨pv_t 111 pkmX2_init rfl, pv_t 6 (by decide +kernel) rfl, ⟨by decide +kernel, by decide +kernel⟩, by decide +kernel, by decide +kernel, rfl, by decide⟩, pv_t 110 (by decide +kernel) rfl, rfl, rfl⟩
set_option maxRecDepth 100000 in
theorem pkmX5_init : tables_1[145]? = some (pv_cw mX5_init) := by rfl
theorem mcX5_init : pv_mI mX5_init 0 := ⟨⟨pv_t 145 pkmX5_init rfl, pv_t 7 (by decide +kernel) rfl, ⟨by decide +kernel, by decide +kernel⟩, by decide +kernel, by decide +kernel, rfl, by decide⟩, pv_t 144 (by decide +kernel) rfl, rfl, rfl⟩
set_option maxRecDepth 100000 in
theorem pkmX4_init : tables_1[171]? = some (pv_cw mX4_init) := by rfl
theorem mcX4_init : pv_mI mX4_init 0 := ⟨⟨pv_t 171 pkmX4_init rfl, pv_t 8 (by decide +kernel) rfl, ⟨by decide +kernel, by decide +kernel⟩, by decide +kernel, by decide +kernel, rfl, by decide⟩, pv_t 170 (by decide +kernel) rfl, rfl, rfl⟩
set_option maxRecDepth 100000 in
theorem pkmX0_init : tables_1[249]? = some (pv_cw mX0_init) := by rfl
theorem mcX0_init : pv_mI mX0_init 0 := ⟨⟨pv_t 249 pkmX0_init rfl, pv_t 9 (by decide +kernel) rfl, ⟨by decide +kernel, by decide +kernel⟩, by decide +kernel, by decide +kernel, rfl, by decide⟩, pv_t 248 (by decide +kernel) rfl, rfl, rfl⟩
set_option maxRecDepth 100000 in
theorem pkmX3_init : tables_1[269]? = some (pv_cw mX3_init) := by rfl
theorem mcX3_init : pv_mI mX3_init 0 := ⟨⟨pv_t 269 pkmX3_init rfl, pv_t 10 (by decide +kernel) rfl, ⟨by decide +kernel, by decide +kernel⟩, by decide +kernel, by decide +kernel, rfl, by decide⟩, pv_t 268 (by decide +kernel) rfl, rfl, rfl⟩
set_option maxRecDepth 100000 in
theorem pkmX9_clearBuffer : tables_1[314]? = some (pv_cw mX9_clearBuffer) := by rfl
theorem mvX9_clearBuffer : pv_mV mX9_clearBuffer 0 := ⟨⟨pv_t 314 pkmX9_clearBuffer rfl, pv_t 1 (by decide +kernel) rfl, ⟨by decide +kernel, by decide +kernel⟩, by decide +kernel, by decide +kernel, rfl, by decide⟩, pv_t 312 (by decide +kernel) rfl, pv_t 313 (by decide +kernel) rfl⟩
set_option maxRecDepth 100000 in
theorem pkmX9_firstError : tables_1[318]? = some (pv_cw mX9_firstError) := by rfl
theorem mvX9_firstError : pv_mV mX9_firstError 0 := ⟨⟨pv_t 318 pkmX9_firstError rfl, pv_t 1 (by decide +kernel) rfl, ⟨by decide +kernel, by decide +kernel⟩, by decide +kernel, by decide +kernel, rfl, by decide⟩, pv_t 316 (by decide +kernel) rfl, pv_t 317 (by decide +kernel) rfl⟩
set_option maxRecDepth 100000 in
theorem pkmX3_readMenus : tables_1[322]? = some (pv_cw mX3_readMenus) := by rfl
theorem mvX3_readMenus : pv_mV mX3_readMenus 0 := ⟨⟨pv_t 322 pkmX3_readMenus rfl, pv_t 10 (by decide +kernel) rfl, ⟨by decide +kernel, by decide +kernel⟩, by decide +kernel, by decide +kernel, rfl, by decide⟩, pv_t 320 (by decide +kernel) rfl, pv_t 321 (by decide +kernel) rfl⟩
set_option maxRecDepth 100000 in
theorem pkmX4_forget : tables_1[326]? = some (pv_cw mX4_forget) := by rfl
theorem mvX4_forget : pv_mV mX4_forget 0 := ⟨⟨pv_t 326 pkmX4_forget rfl, pv_t 8 (by decide +kernel) rfl, ⟨by decide +kernel, by decide +kernel⟩, by decide +kernel, by decide +kernel, rfl, by decide⟩, pv_t 324 (by decide +kernel) rfl, pv_t 325 (by decide +kernel) rfl⟩
set_option maxRecDepth 100000 in
theorem pkmX6_at : tables_1[331]? = some (pv_cw mX6_at) := by rfl
theorem mvX6_at : pv_mV mX6_at 1 := ⟨⟨pv_t 331 pkmX6_at rfl, pv_t 4 (by decide +kernel) rfl, ⟨by decide +kernel, by decide +kernel⟩, by decide +kernel, by decide +kernel, rfl, by decide⟩, pv_t 329 (by decide +kernel) rfl, pv_t 330 (by decide +kernel) rfl⟩
set_option maxRecDepth 100000 in
theorem pkmX3_accepts : tables_1[335]? = some (pv_cw mX3_accepts) := by rfl
theorem mvX3_accepts : pv_mV mX3_accepts 1 := ⟨⟨pv_t 335 pkmX3_accepts rfl, pv_t 10 (by decide +kernel) rfl, ⟨by decide +kernel, by decide +kernel⟩, by decide +kernel, by decide +kernel, rfl, by decide⟩, pv_t 334 (by decide +kernel) rfl, pv_ts 0 (by decide +kernel) rfl⟩
set_option maxRecDepth 100000 in
theorem pkmX3_comesTo : tables_1[339]? = some (pv_cw mX3_comesTo) := by rfl
theorem mvX3_comesTo : pv_mV mX3_comesTo 1 := ⟨⟨pv_t 339 pkmX3_comesTo rfl, pv_t 10 (by decide +kernel) rfl, ⟨by decide +kernel, by decide +kernel⟩, by decide +kernel, by decide +kernel, rfl, by decide⟩, pv_t 338 (by decide +kernel) rfl, pv_ts 1 (by decide +kernel) rfl⟩
set_option maxRecDepth 100000 in
theorem pkmX3_acceptsKind : tables_1[343]? = some (pv_cw mX3_acceptsKind) := by rfl
theorem mvX3_acceptsKind : pv_mV mX3_acceptsKind 1 := ⟨⟨pv_t 343 pkmX3_acceptsKind rfl, pv_t 10 (by decide +kernel) rfl, ⟨by decide +kernel, by decide +kernel⟩, by decide +kernel, by decide +kernel, rfl, by decide⟩, pv_t 342 (by decide +kernel) rfl, pv_ts 2 (by decide +kernel) rfl⟩
set_option maxRecDepth 100000 in
theorem pkmX9_isWithin : tables_1[346]? = some (pv_cw mX9_isWithin) := by rfl
theorem msX9_isWithin : pv_mS mX9_isWithin 3 := ⟨⟨pv_t 346 pkmX9_isWithin rfl, pv_t 1 (by decide +kernel) rfl, ⟨by decide +kernel, by decide +kernel⟩, by decide +kernel, by decide +kernel, rfl, by decide⟩, pv_t 345 (by decide +kernel) rfl⟩
set_option maxRecDepth 100000 in
theorem pkmX3_slot : tables_1[350]? = some (pv_cw mX3_slot) := by rfl
theorem mvX3_slot : pv_mV mX3_slot 0 := ⟨⟨pv_t 350 pkmX3_slot rfl, pv_t 10 (by decide +kernel) rfl, ⟨by decide +kernel, by decide +kernel⟩, by decide +kernel, by decide +kernel, rfl, by decide⟩, pv_t 349 (by decide +kernel) rfl, pv_ts 3 (by decide +kernel) rfl⟩
set_option maxRecDepth 100000 in
theorem pkmX4_slot : tables_1[354]? = some (pv_cw mX4_slot) := by rfl
theorem mvX4_slot : pv_mV mX4_slot 2 := ⟨⟨pv_t 354 pkmX4_slot rfl, pv_t 8 (by decide +kernel) rfl, ⟨by decide +kernel, by decide +kernel⟩, by decide +kernel, by decide +kernel, rfl, by decide⟩, pv_t 352 (by decide +kernel) rfl, pv_t 353 (by decide +kernel) rfl⟩
set_option maxRecDepth 100000 in
theorem pkmX6_put : tables_1[358]? = some (pv_cw mX6_put) := by rfl
theorem mvX6_put : pv_mV mX6_put 2 := ⟨⟨pv_t 358 pkmX6_put rfl, pv_t 4 (by decide +kernel) rfl, ⟨by decide +kernel, by decide +kernel⟩, by decide +kernel, by decide +kernel, rfl, by decide⟩, pv_t 356 (by decide +kernel) rfl, pv_t 357 (by decide +kernel) rfl⟩
set_option maxRecDepth 100000 in
theorem pkmJ9_max_7cf53 : tables_1[361]? = some (pv_cw mJ9_max_7cf53) := by rfl
theorem msJ9_max_7cf53 : pv_mS mJ9_max_7cf53 2 := ⟨⟨pv_t 361 pkmJ9_max_7cf53 rfl, pv_t 19 (by decide +kernel) rfl, ⟨by decide +kernel, by decide +kernel⟩, by decide +kernel, by decide +kernel, rfl, by decide⟩, pv_t 360 (by decide +kernel) rfl⟩
set_option maxRecDepth 100000 in
theorem pkmX3_beginsMenu : tables_1[365]? = some (pv_cw mX3_beginsMenu) := by rfl
theorem mvX3_beginsMenu : pv_mV mX3_beginsMenu 0 := ⟨⟨pv_t 365 pkmX3_beginsMenu rfl, pv_t 10 (by decide +kernel) rfl, ⟨by decide +kernel, by decide +kernel⟩, by decide +kernel, by decide +kernel, rfl, by decide⟩, pv_t 364 (by decide +kernel) rfl, pv_ts 4 (by decide +kernel) rfl⟩
set_option maxRecDepth 100000 in
theorem pkmX3_acceptsAmount : tables_1[369]? = some (pv_cw mX3_acceptsAmount) := by rfl
theorem mvX3_acceptsAmount : pv_mV mX3_acceptsAmount 1 := ⟨⟨pv_t 369 pkmX3_acceptsAmount rfl, pv_t 10 (by decide +kernel) rfl, ⟨by decide +kernel, by decide +kernel⟩, by decide +kernel, by decide +kernel, rfl, by decide⟩, pv_t 368 (by decide +kernel) rfl, pv_ts 5 (by decide +kernel) rfl⟩
set_option maxRecDepth 100000 in
theorem pkmX3_acceptsSeparator : tables_1[373]? = some (pv_cw mX3_acceptsSeparator) := by rfl
theorem mvX3_acceptsSeparator : pv_mV mX3_acceptsSeparator 1 := ⟨⟨pv_t 373 pkmX3_acceptsSeparator rfl, pv_t 10 (by decide +kernel) rfl, ⟨by decide +kernel, by decide +kernel⟩, by decide +kernel, by decide +kernel, rfl, by decide⟩, pv_t 372 (by decide +kernel) rfl, pv_ts 6 (by decide +kernel) rfl⟩
set_option maxRecDepth 100000 in
theorem pkmX3_acceptsSubstitute : tables_1[377]? = some (pv_cw mX3_acceptsSubstitute) := by rfl
theorem mvX3_acceptsSubstitute : pv_mV mX3_acceptsSubstitute 1 := ⟨⟨pv_t 377 pkmX3_acceptsSubstitute rfl, pv_t 10 (by decide +kernel) rfl, ⟨by decide +kernel, by decide +kernel⟩, by decide +kernel, by decide +kernel, rfl, by decide⟩, pv_t 376 (by decide +kernel) rfl, pv_ts 7 (by decide +kernel) rfl⟩
set_option maxRecDepth 100000 in
theorem pkmX9_meanAge : tables_1[381]? = some (pv_cw mX9_meanAge) := by rfl
theorem mvX9_meanAge : pv_mV mX9_meanAge 0 := ⟨⟨pv_t 381 pkmX9_meanAge rfl, pv_t 1 (by decide +kernel) rfl, ⟨by decide +kernel, by decide +kernel⟩, by decide +kernel, by decide +kernel, rfl, by decide⟩, pv_t 379 (by decide +kernel) rfl, pv_t 380 (by decide +kernel) rfl⟩
set_option maxRecDepth 100000 in
theorem pkmX2_rations : tables_1[385]? = some (pv_cw mX2_rations) := by rfl
theorem mvX2_rations : pv_mV mX2_rations 0 := ⟨⟨pv_t 385 pkmX2_rations rfl, pv_t 6 (by decide +kernel) rfl, ⟨by decide +kernel, by decide +kernel⟩, by decide +kernel, by decide +kernel, rfl, by decide⟩, pv_t 383 (by decide +kernel) rfl, pv_t 384 (by decide +kernel) rfl⟩
set_option maxRecDepth 100000 in
theorem pkmX2_ageSum : tables_1[390]? = some (pv_cw mX2_ageSum) := by rfl
theorem mvX2_ageSum : pv_mV mX2_ageSum 0 := ⟨⟨pv_t 390 pkmX2_ageSum rfl, pv_t 6 (by decide +kernel) rfl, ⟨by decide +kernel, by decide +kernel⟩, by decide +kernel, by decide +kernel, rfl, by decide⟩, pv_t 388 (by decide +kernel) rfl, pv_t 389 (by decide +kernel) rfl⟩
set_option maxRecDepth 100000 in
theorem pkmX9_digest : tables_1[394]? = some (pv_cw mX9_digest) := by rfl
theorem mvX9_digest : pv_mV mX9_digest 0 := ⟨⟨pv_t 394 pkmX9_digest rfl, pv_t 1 (by decide +kernel) rfl, ⟨by decide +kernel, by decide +kernel⟩, by decide +kernel, by decide +kernel, rfl, by decide⟩, pv_t 392 (by decide +kernel) rfl, pv_t 393 (by decide +kernel) rfl⟩
set_option maxRecDepth 100000 in
theorem pkmX9_count : tables_1[400]? = some (pv_cw mX9_count) := by rfl
theorem mvX9_count : pv_mV mX9_count 1 := ⟨⟨pv_t 400 pkmX9_count rfl, pv_t 1 (by decide +kernel) rfl, ⟨by decide +kernel, by decide +kernel⟩, by decide +kernel, by decide +kernel, rfl, by decide⟩, pv_t 398 (by decide +kernel) rfl, pv_t 399 (by decide +kernel) rfl⟩
set_option maxRecDepth 100000 in
theorem pkmX5_onDay : tables_1[404]? = some (pv_cw mX5_onDay) := by rfl
theorem mvX5_onDay : pv_mV mX5_onDay 1 := ⟨⟨pv_t 404 pkmX5_onDay rfl, pv_t 7 (by decide +kernel) rfl, ⟨by decide +kernel, by decide +kernel⟩, by decide +kernel, by decide +kernel, rfl, by decide⟩, pv_t 402 (by decide +kernel) rfl, pv_t 403 (by decide +kernel) rfl⟩
set_option maxRecDepth 100000 in
theorem pkmX5_after : tables_1[409]? = some (pv_cw mX5_after) := by rfl
theorem mvX5_after : pv_mV mX5_after 1 := ⟨⟨pv_t 409 pkmX5_after rfl, pv_t 7 (by decide +kernel) rfl, ⟨by decide +kernel, by decide +kernel⟩, by decide +kernel, by decide +kernel, rfl, by decide⟩, pv_t 407 (by decide +kernel) rfl, pv_t 408 (by decide +kernel) rfl⟩
set_option maxRecDepth 100000 in
theorem pkmX9_lot : tables_1[481]? = some (pv_cw mX9_lot) := by rfl
theorem mvX9_lot : pv_mV mX9_lot 2 := ⟨⟨pv_t 481 pkmX9_lot rfl, pv_t 1 (by decide +kernel) rfl, ⟨by decide +kernel, by decide +kernel⟩, by decide +kernel, by decide +kernel, rfl, by decide⟩, pv_t 479 (by decide +kernel) rfl, pv_t 480 (by decide +kernel) rfl⟩
set_option maxRecDepth 100000 in
theorem pkmX9_requireLot : tables_1[485]? = some (pv_cw mX9_requireLot) := by rfl
theorem mvX9_requireLot : pv_mV mX9_requireLot 1 := ⟨⟨pv_t 485 pkmX9_requireLot rfl, pv_t 1 (by decide +kernel) rfl, ⟨by decide +kernel, by decide +kernel⟩, by decide +kernel, by decide +kernel, rfl, by decide⟩, pv_t 484 (by decide +kernel) rfl, pv_ts 9 (by decide +kernel) rfl⟩
set_option maxRecDepth 100000 in
theorem pkmX7_daysLeftOf : tables_1[507]? = some (pv_cw mX7_daysLeftOf) := by rfl
theorem mvX7_daysLeftOf : pv_mV mX7_daysLeftOf 1 := ⟨⟨pv_t 507 pkmX7_daysLeftOf rfl, pv_t 2 (by decide +kernel) rfl, ⟨by decide +kernel, by decide +kernel⟩, by decide +kernel, by decide +kernel, rfl, by decide⟩, pv_t 505 (by decide +kernel) rfl, pv_t 506 (by decide +kernel) rfl⟩
set_option maxRecDepth 100000 in
theorem pkmX1_lifeIn : tables_1[512]? = some (pv_cw mX1_lifeIn) := by rfl
theorem mvX1_lifeIn : pv_mV mX1_lifeIn 2 := ⟨⟨pv_t 512 pkmX1_lifeIn rfl, pv_t 3 (by decide +kernel) rfl, ⟨by decide +kernel, by decide +kernel⟩, by decide +kernel, by decide +kernel, rfl, by decide⟩, pv_t 510 (by decide +kernel) rfl, pv_t 511 (by decide +kernel) rfl⟩
set_option maxRecDepth 100000 in
theorem pkmX7_stepFor : tables_1[516]? = some (pv_cw mX7_stepFor) := by rfl
theorem msX7_stepFor : pv_mS mX7_stepFor 1 := ⟨⟨pv_t 516 pkmX7_stepFor rfl, pv_t 2 (by decide +kernel) rfl, ⟨by decide +kernel, by decide +kernel⟩, by decide +kernel, by decide +kernel, rfl, by decide⟩, pv_t 515 (by decide +kernel) rfl⟩
set_option maxRecDepth 100000 in
theorem pkmX7_stepsTo : tables_1[519]? = some (pv_cw mX7_stepsTo) := by rfl
theorem msX7_stepsTo : pv_mS mX7_stepsTo 2 := ⟨⟨pv_t 519 pkmX7_stepsTo rfl, pv_t 2 (by decide +kernel) rfl, ⟨by decide +kernel, by decide +kernel⟩, by decide +kernel, by decide +kernel, rfl, by decide⟩, pv_t 518 (by decide +kernel) rfl⟩
set_option maxRecDepth 100000 in
theorem pkmX7_eatingPlaceOf : tables_1[523]? = some (pv_cw mX7_eatingPlaceOf) := by rfl
theorem mvX7_eatingPlaceOf : pv_mV mX7_eatingPlaceOf 1 := ⟨⟨pv_t 523 pkmX7_eatingPlaceOf rfl, pv_t 2 (by decide +kernel) rfl, ⟨by decide +kernel, by decide +kernel⟩, by decide +kernel, by decide +kernel, rfl, by decide⟩, pv_t 521 (by decide +kernel) rfl, pv_t 522 (by decide +kernel) rfl⟩
set_option maxRecDepth 100000 in
theorem pkmX9_store : tables_1[529]? = some (pv_cw mX9_store) := by rfl
theorem mvX9_store : pv_mV mX9_store 2 := ⟨⟨pv_t 529 pkmX9_store rfl, pv_t 1 (by decide +kernel) rfl, ⟨by decide +kernel, by decide +kernel⟩, by decide +kernel, by decide +kernel, rfl, by decide⟩, pv_t 527 (by decide +kernel) rfl, pv_t 528 (by decide +kernel) rfl⟩
set_option maxRecDepth 100000 in
theorem pkmX9_requireStore : tables_1[532]? = some (pv_cw mX9_requireStore) := by rfl
theorem msX9_requireStore : pv_mS mX9_requireStore 1 := ⟨⟨pv_t 532 pkmX9_requireStore rfl, pv_t 1 (by decide +kernel) rfl, ⟨by decide +kernel, by decide +kernel⟩, by decide +kernel, by decide +kernel, rfl, by decide⟩, pv_t 531 (by decide +kernel) rfl⟩
set_option maxRecDepth 100000 in
theorem pkmX2_rationsIn : tables_1[537]? = some (pv_cw mX2_rationsIn) := by rfl
theorem mvX2_rationsIn : pv_mV mX2_rationsIn 1 := ⟨⟨pv_t 537 pkmX2_rationsIn rfl, pv_t 6 (by decide +kernel) rfl, ⟨by decide +kernel, by decide +kernel⟩, by decide +kernel, by decide +kernel, rfl, by decide⟩, pv_t 535 (by decide +kernel) rfl, pv_t 536 (by decide +kernel) rfl⟩
set_option maxRecDepth 100000 in
theorem pkmX2_numberIn : tables_1[541]? = some (pv_cw mX2_numberIn) := by rfl
theorem mvX2_numberIn : pv_mV mX2_numberIn 1 := ⟨⟨pv_t 541 pkmX2_numberIn rfl, pv_t 6 (by decide +kernel) rfl, ⟨by decide +kernel, by decide +kernel⟩, by decide +kernel, by decide +kernel, rfl, by decide⟩, pv_t 539 (by decide +kernel) rfl, pv_t 540 (by decide +kernel) rfl⟩
set_option maxRecDepth 100000 in
theorem pkmX9_kind : tables_1[546]? = some (pv_cw mX9_kind) := by rfl
theorem mvX9_kind : pv_mV mX9_kind 2 := ⟨⟨pv_t 546 pkmX9_kind rfl, pv_t 1 (by decide +kernel) rfl, ⟨by decide +kernel, by decide +kernel⟩, by decide +kernel, by decide +kernel, rfl, by decide⟩, pv_t 544 (by decide +kernel) rfl, pv_t 545 (by decide +kernel) rfl⟩
set_option maxRecDepth 100000 in
theorem pkmX9_requireKind : tables_1[550]? = some (pv_cw mX9_requireKind) := by rfl
theorem mvX9_requireKind : pv_mV mX9_requireKind 1 := ⟨⟨pv_t 550 pkmX9_requireKind rfl, pv_t 1 (by decide +kernel) rfl, ⟨by decide +kernel, by decide +kernel⟩, by decide +kernel, by decide +kernel, rfl, by decide⟩, pv_t 549 (by decide +kernel) rfl, pv_ts 10 (by decide +kernel) rfl⟩
set_option maxRecDepth 100000 in
theorem pkmX2_rationsOf : tables_1[556]? = some (pv_cw mX2_rationsOf) := by rfl
theorem mvX2_rationsOf : pv_mV mX2_rationsOf 1 := ⟨⟨pv_t 556 pkmX2_rationsOf rfl, pv_t 6 (by decide +kernel) rfl, ⟨by decide +kernel, by decide +kernel⟩, by decide +kernel, by decide +kernel, rfl, by decide⟩, pv_t 554 (by decide +kernel) rfl, pv_t 555 (by decide +kernel) rfl⟩
set_option maxRecDepth 100000 in
theorem pkmX2_numberOf : tables_1[560]? = some (pv_cw mX2_numberOf) := by rfl
theorem mvX2_numberOf : pv_mV mX2_numberOf 1 := ⟨⟨pv_t 560 pkmX2_numberOf rfl, pv_t 6 (by decide +kernel) rfl, ⟨by decide +kernel, by decide +kernel⟩, by decide +kernel, by decide +kernel, rfl, by decide⟩, pv_t 558 (by decide +kernel) rfl, pv_t 559 (by decide +kernel) rfl⟩
set_option maxRecDepth 100000 in
theorem pkmX7_become : tables_1[565]? = some (pv_cw mX7_become) := by rfl
theorem mvX7_become : pv_mV mX7_become 1 := ⟨⟨pv_t 565 pkmX7_become rfl, pv_t 2 (by decide +kernel) rfl, ⟨by decide +kernel, by decide +kernel⟩, by decide +kernel, by decide +kernel, rfl, by decide⟩, pv_t 563 (by decide +kernel) rfl, pv_t 564 (by decide +kernel) rfl⟩
set_option maxRecDepth 100000 in
theorem pkmX1_become : tables_1[569]? = some (pv_cw mX1_become) := by rfl
theorem mvX1_become : pv_mV mX1_become 1 := ⟨⟨pv_t 569 pkmX1_become rfl, pv_t 3 (by decide +kernel) rfl, ⟨by decide +kernel, by decide +kernel⟩, by decide +kernel, by decide +kernel, rfl, by decide⟩, pv_t 567 (by decide +kernel) rfl, pv_t 568 (by decide +kernel) rfl⟩
set_option maxRecDepth 100000 in
theorem pkmX6_become : tables_1[573]? = some (pv_cw mX6_become) := by rfl
theorem mvX6_become : pv_mV mX6_become 1 := ⟨⟨pv_t 573 pkmX6_become rfl, pv_t 4 (by decide +kernel) rfl, ⟨by decide +kernel, by decide +kernel⟩, by decide +kernel, by decide +kernel, rfl, by decide⟩, pv_t 571 (by decide +kernel) rfl, pv_t 572 (by decide +kernel) rfl⟩
set_option maxRecDepth 100000 in
theorem pkmX8_become : tables_1[580]? = some (pv_cw mX8_become) := by rfl
theorem mvX8_become : pv_mV mX8_become 1 := ⟨⟨pv_t 580 pkmX8_become rfl, pv_t 5 (by decide +kernel) rfl, ⟨by decide +kernel, by decide +kernel⟩, by decide +kernel, by decide +kernel, rfl, by decide⟩, pv_t 578 (by decide +kernel) rfl, pv_t 579 (by decide +kernel) rfl⟩
set_option maxRecDepth 100000 in
theorem pkmX2_become : tables_1[585]? = some (pv_cw mX2_become) := by rfl
theorem mvX2_become : pv_mV mX2_become 1 := ⟨⟨pv_t 585 pkmX2_become rfl, pv_t 6 (by decide +kernel) rfl, ⟨by decide +kernel, by decide +kernel⟩, by decide +kernel, by decide +kernel, rfl, by decide⟩, pv_t 583 (by decide +kernel) rfl, pv_t 584 (by decide +kernel) rfl⟩
set_option maxRecDepth 100000 in
theorem pkmX5_become : tables_1[590]? = some (pv_cw mX5_become) := by rfl
theorem mvX5_become : pv_mV mX5_become 1 := ⟨⟨pv_t 590 pkmX5_become rfl, pv_t 7 (by decide +kernel) rfl, ⟨by decide +kernel, by decide +kernel⟩, by decide +kernel, by decide +kernel, rfl, by decide⟩, pv_t 588 (by decide +kernel) rfl, pv_t 589 (by decide +kernel) rfl⟩
set_option maxRecDepth 100000 in
theorem pkmX4_become : tables_1[595]? = some (pv_cw mX4_become) := by rfl
theorem mvX4_become : pv_mV mX4_become 1 := ⟨⟨pv_t 595 pkmX4_become rfl, pv_t 8 (by decide +kernel) rfl, ⟨by decide +kernel, by decide +kernel⟩, by decide +kernel, by decide +kernel, rfl, by decide⟩, pv_t 593 (by decide +kernel) rfl, pv_t 594 (by decide +kernel) rfl⟩
set_option maxRecDepth 100000 in
theorem pkmX7_firstShort : tables_1[600]? = some (pv_cw mX7_firstShort) := by rfl
theorem mvX7_firstShort : pv_mV mX7_firstShort 2 := ⟨⟨pv_t 600 pkmX7_firstShort rfl, pv_t 2 (by decide +kernel) rfl, ⟨by decide +kernel, by decide +kernel⟩, by decide +kernel, by decide +kernel, rfl, by decide⟩, pv_t 598 (by decide +kernel) rfl, pv_t 599 (by decide +kernel) rfl⟩
set_option maxRecDepth 100000 in
theorem pkmX7_passDay : tables_1[604]? = some (pv_cw mX7_passDay) := by rfl
theorem mvX7_passDay : pv_mV mX7_passDay 0 := ⟨⟨pv_t 604 pkmX7_passDay rfl, pv_t 2 (by decide +kernel) rfl, ⟨by decide +kernel, by decide +kernel⟩, by decide +kernel, by decide +kernel, rfl, by decide⟩, pv_t 603 (by decide +kernel) rfl, pv_ts 11 (by decide +kernel) rfl⟩
set_option maxRecDepth 100000 in
theorem pkmX4_ofDay : tables_1[609]? = some (pv_cw mX4_ofDay) := by rfl
theorem mvX4_ofDay : pv_mV mX4_ofDay 1 := ⟨⟨pv_t 609 pkmX4_ofDay rfl, pv_t 8 (by decide +kernel) rfl, ⟨by decide +kernel, by decide +kernel⟩, by decide +kernel, by decide +kernel, rfl, by decide⟩, pv_t 607 (by decide +kernel) rfl, pv_t 608 (by decide +kernel) rfl⟩
set_option maxRecDepth 100000 in
theorem pkmJ9_floorMod_7cf53 : tables_1[612]? = some (pv_cw mJ9_floorMod_7cf53) := by rfl
theorem msJ9_floorMod_7cf53 : pv_mS mJ9_floorMod_7cf53 2 := ⟨⟨pv_t 612 pkmJ9_floorMod_7cf53 rfl, pv_t 19 (by decide +kernel) rfl, ⟨by decide +kernel, by decide +kernel⟩, by decide +kernel, by decide +kernel, rfl, by decide⟩, pv_t 611 (by decide +kernel) rfl⟩
set_option maxRecDepth 100000 in
theorem pkmX7_serveItem : tables_1[617]? = some (pv_cw mX7_serveItem) := by rfl
theorem mvX7_serveItem : pv_mV mX7_serveItem 1 := ⟨⟨pv_t 617 pkmX7_serveItem rfl, pv_t 2 (by decide +kernel) rfl, ⟨by decide +kernel, by decide +kernel⟩, by decide +kernel, by decide +kernel, rfl, by decide⟩, pv_t 616 (by decide +kernel) rfl, pv_ts 12 (by decide +kernel) rfl⟩
set_option maxRecDepth 100000 in
theorem pkmX4_has : tables_1[621]? = some (pv_cw mX4_has) := by rfl
theorem mvX4_has : pv_mV mX4_has 1 := ⟨⟨pv_t 621 pkmX4_has rfl, pv_t 8 (by decide +kernel) rfl, ⟨by decide +kernel, by decide +kernel⟩, by decide +kernel, by decide +kernel, rfl, by decide⟩, pv_t 619 (by decide +kernel) rfl, pv_t 620 (by decide +kernel) rfl⟩
set_option maxRecDepth 100000 in
theorem pkmX7_eatOf : tables_1[626]? = some (pv_cw mX7_eatOf) := by rfl
theorem mvX7_eatOf : pv_mV mX7_eatOf 2 := ⟨⟨pv_t 626 pkmX7_eatOf rfl, pv_t 2 (by decide +kernel) rfl, ⟨by decide +kernel, by decide +kernel⟩, by decide +kernel, by decide +kernel, rfl, by decide⟩, pv_t 625 (by decide +kernel) rfl, pv_ts 13 (by decide +kernel) rfl⟩
set_option maxRecDepth 100000 in
theorem pkmX7_nextToEat : tables_1[630]? = some (pv_cw mX7_nextToEat) := by rfl
theorem mvX7_nextToEat : pv_mV mX7_nextToEat 1 := ⟨⟨pv_t 630 pkmX7_nextToEat rfl, pv_t 2 (by decide +kernel) rfl, ⟨by decide +kernel, by decide +kernel⟩, by decide +kernel, by decide +kernel, rfl, by decide⟩, pv_t 629 (by decide +kernel) rfl, pv_ts 14 (by decide +kernel) rfl⟩
set_option maxRecDepth 100000 in
theorem pkmJ9_min_7cf53 : tables_1[633]? = some (pv_cw mJ9_min_7cf53) := by rfl
theorem msJ9_min_7cf53 : pv_mS mJ9_min_7cf53 2 := ⟨⟨pv_t 633 pkmJ9_min_7cf53 rfl, pv_t 19 (by decide +kernel) rfl, ⟨by decide +kernel, by decide +kernel⟩, by decide +kernel, by decide +kernel, rfl, by decide⟩, pv_t 632 (by decide +kernel) rfl⟩
set_option maxRecDepth 100000 in
theorem pkmX6_add : tables_1[637]? = some (pv_cw mX6_add) := by rfl
theorem mvX6_add : pv_mV mX6_add 2 := ⟨⟨pv_t 637 pkmX6_add rfl, pv_t 4 (by decide +kernel) rfl, ⟨by decide +kernel, by decide +kernel⟩, by decide +kernel, by decide +kernel, rfl, by decide⟩, pv_t 635 (by decide +kernel) rfl, pv_t 636 (by decide +kernel) rfl⟩
set_option maxRecDepth 100000 in
theorem pkmX7_ageLots : tables_1[643]? = some (pv_cw mX7_ageLots) := by rfl
theorem mvX7_ageLots : pv_mV mX7_ageLots 0 := ⟨⟨pv_t 643 pkmX7_ageLots rfl, pv_t 2 (by decide +kernel) rfl, ⟨by decide +kernel, by decide +kernel⟩, by decide +kernel, by decide +kernel, rfl, by decide⟩, pv_t 642 (by decide +kernel) rfl, pv_ts 15 (by decide +kernel) rfl⟩
set_option maxRecDepth 100000 in
theorem pkmX7_lifeNow : tables_1[647]? = some (pv_cw mX7_lifeNow) := by rfl
theorem mvX7_lifeNow : pv_mV mX7_lifeNow 2 := ⟨⟨pv_t 647 pkmX7_lifeNow rfl, pv_t 2 (by decide +kernel) rfl, ⟨by decide +kernel, by decide +kernel⟩, by decide +kernel, by decide +kernel, rfl, by decide⟩, pv_t 645 (by decide +kernel) rfl, pv_t 646 (by decide +kernel) rfl⟩
set_option maxRecDepth 100000 in
theorem pkmX2_dropEmpty : tables_1[651]? = some (pv_cw mX2_dropEmpty) := by rfl
theorem mvX2_dropEmpty : pv_mV mX2_dropEmpty 0 := ⟨⟨pv_t 651 pkmX2_dropEmpty rfl, pv_t 6 (by decide +kernel) rfl, ⟨by decide +kernel, by decide +kernel⟩, by decide +kernel, by decide +kernel, rfl, by decide⟩, pv_t 649 (by decide +kernel) rfl, pv_t 650 (by decide +kernel) rfl⟩
set_option maxRecDepth 100000 in
theorem pkmX2_copyLot : tables_1[655]? = some (pv_cw mX2_copyLot) := by rfl
theorem mvX2_copyLot : pv_mV mX2_copyLot 2 := ⟨⟨pv_t 655 pkmX2_copyLot rfl, pv_t 6 (by decide +kernel) rfl, ⟨by decide +kernel, by decide +kernel⟩, by decide +kernel, by decide +kernel, rfl, by decide⟩, pv_t 654 (by decide +kernel) rfl, pv_ts 16 (by decide +kernel) rfl⟩
set_option maxRecDepth 100000 in
theorem pkmX8_endDay : tables_1[660]? = some (pv_cw mX8_endDay) := by rfl
theorem mvX8_endDay : pv_mV mX8_endDay 0 := ⟨⟨pv_t 660 pkmX8_endDay rfl, pv_t 5 (by decide +kernel) rfl, ⟨by decide +kernel, by decide +kernel⟩, by decide +kernel, by decide +kernel, rfl, by decide⟩, pv_t 658 (by decide +kernel) rfl, pv_t 659 (by decide +kernel) rfl⟩
set_option maxRecDepth 100000 in
theorem pkmX9_bestStore : tables_1[666]? = some (pv_cw mX9_bestStore) := by rfl
theorem mvX9_bestStore : pv_mV mX9_bestStore 1 := ⟨⟨pv_t 666 pkmX9_bestStore rfl, pv_t 1 (by decide +kernel) rfl, ⟨by decide +kernel, by decide +kernel⟩, by decide +kernel, by decide +kernel, rfl, by decide⟩, pv_t 664 (by decide +kernel) rfl, pv_t 665 (by decide +kernel) rfl⟩
set_option maxRecDepth 100000 in
theorem pkmX9_port : tables_1[671]? = some (pv_cw mX9_port) := by rfl
theorem mvX9_port : pv_mV mX9_port 2 := ⟨⟨pv_t 671 pkmX9_port rfl, pv_t 1 (by decide +kernel) rfl, ⟨by decide +kernel, by decide +kernel⟩, by decide +kernel, by decide +kernel, rfl, by decide⟩, pv_t 669 (by decide +kernel) rfl, pv_t 670 (by decide +kernel) rfl⟩
set_option maxRecDepth 100000 in
theorem pkmX9_requirePort : tables_1[675]? = some (pv_cw mX9_requirePort) := by rfl
theorem mvX9_requirePort : pv_mV mX9_requirePort 1 := ⟨⟨pv_t 675 pkmX9_requirePort rfl, pv_t 1 (by decide +kernel) rfl, ⟨by decide +kernel, by decide +kernel⟩, by decide +kernel, by decide +kernel, rfl, by decide⟩, pv_t 674 (by decide +kernel) rfl, pv_ts 17 (by decide +kernel) rfl⟩
set_option maxRecDepth 100000 in
theorem pkmX9_requireWithin : tables_1[679]? = some (pv_cw mX9_requireWithin) := by rfl
theorem msX9_requireWithin : pv_mS mX9_requireWithin 3 := ⟨⟨pv_t 679 pkmX9_requireWithin rfl, pv_t 1 (by decide +kernel) rfl, ⟨by decide +kernel, by decide +kernel⟩, by decide +kernel, by decide +kernel, rfl, by decide⟩, pv_t 678 (by decide +kernel) rfl⟩
set_option maxRecDepth 100000 in
theorem pkmX5_priceOf : tables_1[684]? = some (pv_cw mX5_priceOf) := by rfl
theorem mvX5_priceOf : pv_mV mX5_priceOf 2 := ⟨⟨pv_t 684 pkmX5_priceOf rfl, pv_t 7 (by decide +kernel) rfl, ⟨by decide +kernel, by decide +kernel⟩, by decide +kernel, by decide +kernel, rfl, by decide⟩, pv_t 682 (by decide +kernel) rfl, pv_t 683 (by decide +kernel) rfl⟩
set_option maxRecDepth 100000 in
theorem pkmX9_menu : tables_1[688]? = some (pv_cw mX9_menu) := by rfl
theorem mvX9_menu : pv_mV mX9_menu 3 := ⟨⟨pv_t 688 pkmX9_menu rfl, pv_t 1 (by decide +kernel) rfl, ⟨by decide +kernel, by decide +kernel⟩, by decide +kernel, by decide +kernel, rfl, by decide⟩, pv_t 686 (by decide +kernel) rfl, pv_t 687 (by decide +kernel) rfl⟩
set_option maxRecDepth 100000 in
theorem pkmX7_passDays : tables_1[696]? = some (pv_cw mX7_passDays) := by rfl
theorem mvX7_passDays : pv_mV mX7_passDays 1 := ⟨⟨pv_t 696 pkmX7_passDays rfl, pv_t 2 (by decide +kernel) rfl, ⟨by decide +kernel, by decide +kernel⟩, by decide +kernel, by decide +kernel, rfl, by decide⟩, pv_t 694 (by decide +kernel) rfl, pv_t 695 (by decide +kernel) rfl⟩
set_option maxRecDepth 100000 in
theorem pkmX9_outcomeOfTrial : tables_1[700]? = some (pv_cw mX9_outcomeOfTrial) := by rfl
theorem mvX9_outcomeOfTrial : pv_mV mX9_outcomeOfTrial 1 := ⟨⟨pv_t 700 pkmX9_outcomeOfTrial rfl, pv_t 1 (by decide +kernel) rfl, ⟨by decide +kernel, by decide +kernel⟩, by decide +kernel, by decide +kernel, rfl, by decide⟩, pv_t 699 (by decide +kernel) rfl, pv_ts 18 (by decide +kernel) rfl⟩
set_option maxRecDepth 100000 in
theorem pkmX6_sum : tables_1[704]? = some (pv_cw mX6_sum) := by rfl
theorem mvX6_sum : pv_mV mX6_sum 0 := ⟨⟨pv_t 704 pkmX6_sum rfl, pv_t 4 (by decide +kernel) rfl, ⟨by decide +kernel, by decide +kernel⟩, by decide +kernel, by decide +kernel, rfl, by decide⟩, pv_t 702 (by decide +kernel) rfl, pv_t 703 (by decide +kernel) rfl⟩
set_option maxRecDepth 100000 in
theorem pkmX9_bitsOf : tables_1[708]? = some (pv_cw mX9_bitsOf) := by rfl
theorem msX9_bitsOf : pv_mS mX9_bitsOf 1 := ⟨⟨pv_t 708 pkmX9_bitsOf rfl, pv_t 1 (by decide +kernel) rfl, ⟨by decide +kernel, by decide +kernel⟩, by decide +kernel, by decide +kernel, rfl, by decide⟩, pv_t 707 (by decide +kernel) rfl⟩
set_option maxRecDepth 100000 in
theorem pkmX9_addKind : tables_1[720]? = some (pv_cw mX9_addKind) := by rfl
theorem mvX9_addKind : pv_mV mX9_addKind 3 := ⟨⟨pv_t 720 pkmX9_addKind rfl, pv_t 1 (by decide +kernel) rfl, ⟨by decide +kernel, by decide +kernel⟩, by decide +kernel, by decide +kernel, rfl, by decide⟩, pv_t 718 (by decide +kernel) rfl, pv_t 719 (by decide +kernel) rfl⟩
set_option maxRecDepth 100000 in
theorem pkmX0_save : tables_1[740]? = some (pv_cw mX0_save) := by rfl
theorem mvX0_save : pv_mV mX0_save 1 := ⟨⟨pv_t 740 pkmX0_save rfl, pv_t 9 (by decide +kernel) rfl, ⟨by decide +kernel, by decide +kernel⟩, by decide +kernel, by decide +kernel, rfl, by decide⟩, pv_t 738 (by decide +kernel) rfl, pv_t 739 (by decide +kernel) rfl⟩
set_option maxRecDepth 100000 in
theorem pkmX0_stateAt : tables_1[744]? = some (pv_cw mX0_stateAt) := by rfl
theorem mvX0_stateAt : pv_mV mX0_stateAt 1 := ⟨⟨pv_t 744 pkmX0_stateAt rfl, pv_t 9 (by decide +kernel) rfl, ⟨by decide +kernel, by decide +kernel⟩, by decide +kernel, by decide +kernel, rfl, by decide⟩, pv_t 743 (by decide +kernel) rfl, pv_ts 19 (by decide +kernel) rfl⟩
set_option maxRecDepth 100000 in
theorem pkmX1_addOne : tables_1[749]? = some (pv_cw mX1_addOne) := by rfl
theorem mvX1_addOne : pv_mV mX1_addOne 3 := ⟨⟨pv_t 749 pkmX1_addOne rfl, pv_t 3 (by decide +kernel) rfl, ⟨by decide +kernel, by decide +kernel⟩, by decide +kernel, by decide +kernel, rfl, by decide⟩, pv_t 747 (by decide +kernel) rfl, pv_t 748 (by decide +kernel) rfl⟩
set_option maxRecDepth 100000 in
theorem pkmX9_setRoom : tables_1[758]? = some (pv_cw mX9_setRoom) := by rfl
theorem mvX9_setRoom : pv_mV mX9_setRoom 2 := ⟨⟨pv_t 758 pkmX9_setRoom rfl, pv_t 1 (by decide +kernel) rfl, ⟨by decide +kernel, by decide +kernel⟩, by decide +kernel, by decide +kernel, rfl, by decide⟩, pv_t 756 (by decide +kernel) rfl, pv_t 757 (by decide +kernel) rfl⟩
set_option maxRecDepth 100000 in
theorem pkmX9_warm : tables_1[767]? = some (pv_cw mX9_warm) := by rfl
theorem mvX9_warm : pv_mV mX9_warm 2 := ⟨⟨pv_t 767 pkmX9_warm rfl, pv_t 1 (by decide +kernel) rfl, ⟨by decide +kernel, by decide +kernel⟩, by decide +kernel, by decide +kernel, rfl, by decide⟩, pv_t 765 (by decide +kernel) rfl, pv_t 766 (by decide +kernel) rfl⟩
set_option maxRecDepth 100000 in
theorem pkmX9_setCrew : tables_1[775]? = some (pv_cw mX9_setCrew) := by rfl
theorem mvX9_setCrew : pv_mV mX9_setCrew 1 := ⟨⟨pv_t 775 pkmX9_setCrew rfl, pv_t 1 (by decide +kernel) rfl, ⟨by decide +kernel, by decide +kernel⟩, by decide +kernel, by decide +kernel, rfl, by decide⟩, pv_t 773 (by decide +kernel) rfl, pv_t 774 (by decide +kernel) rfl⟩
set_option maxRecDepth 100000 in
theorem pkmX9_pay : tables_1[782]? = some (pv_cw mX9_pay) := by rfl
theorem mvX9_pay : pv_mV mX9_pay 1 := ⟨⟨pv_t 782 pkmX9_pay rfl, pv_t 1 (by decide +kernel) rfl, ⟨by decide +kernel, by decide +kernel⟩, by decide +kernel, by decide +kernel, rfl, by decide⟩, pv_t 780 (by decide +kernel) rfl, pv_t 781 (by decide +kernel) rfl⟩
set_option maxRecDepth 100000 in
theorem pkmX9_addPort : tables_1[791]? = some (pv_cw mX9_addPort) := by rfl
theorem mvX9_addPort : pv_mV mX9_addPort 2 := ⟨⟨pv_t 791 pkmX9_addPort rfl, pv_t 1 (by decide +kernel) rfl, ⟨by decide +kernel, by decide +kernel⟩, by decide +kernel, by decide +kernel, rfl, by decide⟩, pv_t 789 (by decide +kernel) rfl, pv_t 790 (by decide +kernel) rfl⟩
set_option maxRecDepth 100000 in
theorem pkmX5_insert : tables_1[796]? = some (pv_cw mX5_insert) := by rfl
theorem mvX5_insert : pv_mV mX5_insert 2 := ⟨⟨pv_t 796 pkmX5_insert rfl, pv_t 7 (by decide +kernel) rfl, ⟨by decide +kernel, by decide +kernel⟩, by decide +kernel, by decide +kernel, rfl, by decide⟩, pv_t 794 (by decide +kernel) rfl, pv_t 795 (by decide +kernel) rfl⟩
set_option maxRecDepth 100000 in
theorem pkmX5_copyPort : tables_1[801]? = some (pv_cw mX5_copyPort) := by rfl
theorem mvX5_copyPort : pv_mV mX5_copyPort 2 := ⟨⟨pv_t 801 pkmX5_copyPort rfl, pv_t 7 (by decide +kernel) rfl, ⟨by decide +kernel, by decide +kernel⟩, by decide +kernel, by decide +kernel, rfl, by decide⟩, pv_t 800 (by decide +kernel) rfl, pv_ts 20 (by decide +kernel) rfl⟩
set_option maxRecDepth 100000 in
theorem pkmX5_putPrice : tables_1[807]? = some (pv_cw mX5_putPrice) := by rfl
theorem mvX5_putPrice : pv_mV mX5_putPrice 3 := ⟨⟨pv_t 807 pkmX5_putPrice rfl, pv_t 7 (by decide +kernel) rfl, ⟨by decide +kernel, by decide +kernel⟩, by decide +kernel, by decide +kernel, rfl, by decide⟩, pv_t 805 (by decide +kernel) rfl, pv_t 806 (by decide +kernel) rfl⟩
set_option maxRecDepth 100000 in
theorem pkmX9_removePort : tables_1[814]? = some (pv_cw mX9_removePort) := by rfl
theorem mvX9_removePort : pv_mV mX9_removePort 1 := ⟨⟨pv_t 814 pkmX9_removePort rfl, pv_t 1 (by decide +kernel) rfl, ⟨by decide +kernel, by decide +kernel⟩, by decide +kernel, by decide +kernel, rfl, by decide⟩, pv_t 812 (by decide +kernel) rfl, pv_t 813 (by decide +kernel) rfl⟩
set_option maxRecDepth 100000 in
theorem pkmX5_takeOut : tables_1[818]? = some (pv_cw mX5_takeOut) := by rfl
theorem mvX5_takeOut : pv_mV mX5_takeOut 1 := ⟨⟨pv_t 818 pkmX5_takeOut rfl, pv_t 7 (by decide +kernel) rfl, ⟨by decide +kernel, by decide +kernel⟩, by decide +kernel, by decide +kernel, rfl, by decide⟩, pv_t 816 (by decide +kernel) rfl, pv_t 817 (by decide +kernel) rfl⟩
set_option maxRecDepth 100000 in
theorem pkmX9_setPrice : tables_1[825]? = some (pv_cw mX9_setPrice) := by rfl
theorem mvX9_setPrice : pv_mV mX9_setPrice 3 := ⟨⟨pv_t 825 pkmX9_setPrice rfl, pv_t 1 (by decide +kernel) rfl, ⟨by decide +kernel, by decide +kernel⟩, by decide +kernel, by decide +kernel, rfl, by decide⟩, pv_t 823 (by decide +kernel) rfl, pv_t 824 (by decide +kernel) rfl⟩
set_option maxRecDepth 100000 in
theorem pkmX9_buy : tables_1[833]? = some (pv_cw mX9_buy) := by rfl
theorem mvX9_buy : pv_mV mX9_buy 3 := ⟨⟨pv_t 833 pkmX9_buy rfl, pv_t 1 (by decide +kernel) rfl, ⟨by decide +kernel, by decide +kernel⟩, by decide +kernel, by decide +kernel, rfl, by decide⟩, pv_t 831 (by decide +kernel) rfl, pv_t 832 (by decide +kernel) rfl⟩
set_option maxRecDepth 100000 in
theorem pkmX7_refusal : tables_1[837]? = some (pv_cw mX7_refusal) := by rfl
theorem mvX7_refusal : pv_mV mX7_refusal 3 := ⟨⟨pv_t 837 pkmX7_refusal rfl, pv_t 2 (by decide +kernel) rfl, ⟨by decide +kernel, by decide +kernel⟩, by decide +kernel, by decide +kernel, rfl, by decide⟩, pv_t 835 (by decide +kernel) rfl, pv_t 836 (by decide +kernel) rfl⟩
set_option maxRecDepth 100000 in
theorem pkmX7_roomLeft : tables_1[843]? = some (pv_cw mX7_roomLeft) := by rfl
theorem mvX7_roomLeft : pv_mV mX7_roomLeft 1 := ⟨⟨pv_t 843 pkmX7_roomLeft rfl, pv_t 2 (by decide +kernel) rfl, ⟨by decide +kernel, by decide +kernel⟩, by decide +kernel, by decide +kernel, rfl, by decide⟩, pv_t 841 (by decide +kernel) rfl, pv_t 842 (by decide +kernel) rfl⟩
set_option maxRecDepth 100000 in
theorem pkmX7_purchase : tables_1[849]? = some (pv_cw mX7_purchase) := by rfl
theorem mvX7_purchase : pv_mV mX7_purchase 3 := ⟨⟨pv_t 849 pkmX7_purchase rfl, pv_t 2 (by decide +kernel) rfl, ⟨by decide +kernel, by decide +kernel⟩, by decide +kernel, by decide +kernel, rfl, by decide⟩, pv_t 847 (by decide +kernel) rfl, pv_t 848 (by decide +kernel) rfl⟩
set_option maxRecDepth 100000 in
theorem pkmX2_addOne : tables_1[853]? = some (pv_cw mX2_addOne) := by rfl
theorem mvX2_addOne : pv_mV mX2_addOne 4 := ⟨⟨pv_t 853 pkmX2_addOne rfl, pv_t 6 (by decide +kernel) rfl, ⟨by decide +kernel, by decide +kernel⟩, by decide +kernel, by decide +kernel, rfl, by decide⟩, pv_t 851 (by decide +kernel) rfl, pv_t 852 (by decide +kernel) rfl⟩
set_option maxRecDepth 100000 in
theorem pkmX9_move : tables_1[860]? = some (pv_cw mX9_move) := by rfl
theorem mvX9_move : pv_mV mX9_move 3 := ⟨⟨pv_t 860 pkmX9_move rfl, pv_t 1 (by decide +kernel) rfl, ⟨by decide +kernel, by decide +kernel⟩, by decide +kernel, by decide +kernel, rfl, by decide⟩, pv_t 858 (by decide +kernel) rfl, pv_t 859 (by decide +kernel) rfl⟩
set_option maxRecDepth 100000 in
theorem pkmX2_split : tables_1[867]? = some (pv_cw mX2_split) := by rfl
theorem mvX2_split : pv_mV mX2_split 3 := ⟨⟨pv_t 867 pkmX2_split rfl, pv_t 6 (by decide +kernel) rfl, ⟨by decide +kernel, by decide +kernel⟩, by decide +kernel, by decide +kernel, rfl, by decide⟩, pv_t 865 (by decide +kernel) rfl, pv_t 866 (by decide +kernel) rfl⟩
set_option maxRecDepth 100000 in
theorem pkmX9_discard : tables_1[876]? = some (pv_cw mX9_discard) := by rfl
theorem mvX9_discard : pv_mV mX9_discard 2 := ⟨⟨pv_t 876 pkmX9_discard rfl, pv_t 1 (by decide +kernel) rfl, ⟨by decide +kernel, by decide +kernel⟩, by decide +kernel, by decide +kernel, rfl, by decide⟩, pv_t 874 (by decide +kernel) rfl, pv_t 875 (by decide +kernel) rfl⟩
set_option maxRecDepth 100000 in
theorem pkmX9_pass : tables_1[885]? = some (pv_cw mX9_pass) := by rfl
theorem mvX9_pass : pv_mV mX9_pass 1 := ⟨⟨pv_t 885 pkmX9_pass rfl, pv_t 1 (by decide +kernel) rfl, ⟨by decide +kernel, by decide +kernel⟩, by decide +kernel, by decide +kernel, rfl, by decide⟩, pv_t 883 (by decide +kernel) rfl, pv_t 884 (by decide +kernel) rfl⟩
set_option maxRecDepth 100000 in
theorem pkmX9_append : tables_1[892]? = some (pv_cw mX9_append) := by rfl
theorem mvX9_append : pv_mV mX9_append 1 := ⟨⟨pv_t 892 pkmX9_append rfl, pv_t 1 (by decide +kernel) rfl, ⟨by decide +kernel, by decide +kernel⟩, by decide +kernel, by decide +kernel, rfl, by decide⟩, pv_t 890 (by decide +kernel) rfl, pv_t 891 (by decide +kernel) rfl⟩
set_option maxRecDepth 100000 in
theorem pkmX9_load : tables_1[900]? = some (pv_cw mX9_load) := by rfl
theorem mvX9_load : pv_mV mX9_load 0 := ⟨⟨pv_t 900 pkmX9_load rfl, pv_t 1 (by decide +kernel) rfl, ⟨by decide +kernel, by decide +kernel⟩, by decide +kernel, by decide +kernel, rfl, by decide⟩, pv_t 898 (by decide +kernel) rfl, pv_t 899 (by decide +kernel) rfl⟩
set_option maxRecDepth 100000 in
theorem pkmX3_isComplete : tables_1[904]? = some (pv_cw mX3_isComplete) := by rfl
theorem mvX3_isComplete : pv_mV mX3_isComplete 0 := ⟨⟨pv_t 904 pkmX3_isComplete rfl, pv_t 10 (by decide +kernel) rfl, ⟨by decide +kernel, by decide +kernel⟩, by decide +kernel, by decide +kernel, rfl, by decide⟩, pv_t 902 (by decide +kernel) rfl, pv_t 903 (by decide +kernel) rfl⟩
set_option maxRecDepth 100000 in
theorem pkmX9_undo : tables_1[914]? = some (pv_cw mX9_undo) := by rfl
theorem mvX9_undo : pv_mV mX9_undo 0 := ⟨⟨pv_t 914 pkmX9_undo rfl, pv_t 1 (by decide +kernel) rfl, ⟨by decide +kernel, by decide +kernel⟩, by decide +kernel, by decide +kernel, rfl, by decide⟩, pv_t 912 (by decide +kernel) rfl, pv_t 913 (by decide +kernel) rfl⟩
set_option maxRecDepth 100000 in
theorem pkmX0_restore : tables_1[919]? = some (pv_cw mX0_restore) := by rfl
theorem mvX0_restore : pv_mV mX0_restore 1 := ⟨⟨pv_t 919 pkmX0_restore rfl, pv_t 9 (by decide +kernel) rfl, ⟨by decide +kernel, by decide +kernel⟩, by decide +kernel, by decide +kernel, rfl, by decide⟩, pv_t 917 (by decide +kernel) rfl, pv_t 918 (by decide +kernel) rfl⟩
set_option maxRecDepth 100000 in
theorem pkmX9_why : tables_1[950]? = some (pv_cw mX9_why) := by rfl
theorem mvX9_why : pv_mV mX9_why 3 := ⟨⟨pv_t 950 pkmX9_why rfl, pv_t 1 (by decide +kernel) rfl, ⟨by decide +kernel, by decide +kernel⟩, by decide +kernel, by decide +kernel, rfl, by decide⟩, pv_t 948 (by decide +kernel) rfl, pv_t 949 (by decide +kernel) rfl⟩
set_option maxRecDepth 100000 in
theorem pkmX9_ifPass : tables_1[957]? = some (pv_cw mX9_ifPass) := by rfl
theorem mvX9_ifPass : pv_mV mX9_ifPass 2 := ⟨⟨pv_t 957 pkmX9_ifPass rfl, pv_t 1 (by decide +kernel) rfl, ⟨by decide +kernel, by decide +kernel⟩, by decide +kernel, by decide +kernel, rfl, by decide⟩, pv_t 955 (by decide +kernel) rfl, pv_t 956 (by decide +kernel) rfl⟩
set_option maxRecDepth 100000 in
theorem pkmX9_spoils : tables_1[964]? = some (pv_cw mX9_spoils) := by rfl
theorem mvX9_spoils : pv_mV mX9_spoils 2 := ⟨⟨pv_t 964 pkmX9_spoils rfl, pv_t 1 (by decide +kernel) rfl, ⟨by decide +kernel, by decide +kernel⟩, by decide +kernel, by decide +kernel, rfl, by decide⟩, pv_t 962 (by decide +kernel) rfl, pv_t 963 (by decide +kernel) rfl⟩
set_option maxRecDepth 100000 in
theorem pkmX9_shortIn : tables_1[971]? = some (pv_cw mX9_shortIn) := by rfl
theorem mvX9_shortIn : pv_mV mX9_shortIn 1 := ⟨⟨pv_t 971 pkmX9_shortIn rfl, pv_t 1 (by decide +kernel) rfl, ⟨by decide +kernel, by decide +kernel⟩, by decide +kernel, by decide +kernel, rfl, by decide⟩, pv_t 969 (by decide +kernel) rfl, pv_t 970 (by decide +kernel) rfl⟩
set_option maxRecDepth 100000 in
theorem pkmX9_leastPurchase : tables_1[982]? = some (pv_cw mX9_leastPurchase) := by rfl
theorem mvX9_leastPurchase : pv_mV mX9_leastPurchase 2 := ⟨⟨pv_t 982 pkmX9_leastPurchase rfl, pv_t 1 (by decide +kernel) rfl, ⟨by decide +kernel, by decide +kernel⟩, by decide +kernel, by decide +kernel, rfl, by decide⟩, pv_t 980 (by decide +kernel) rfl, pv_t 981 (by decide +kernel) rfl⟩
set_option maxRecDepth 100000 in
theorem pkmX7_daysToNextPort : tables_1[986]? = some (pv_cw mX7_daysToNextPort) := by rfl
theorem mvX7_daysToNextPort : pv_mV mX7_daysToNextPort 0 := ⟨⟨pv_t 986 pkmX7_daysToNextPort rfl, pv_t 2 (by decide +kernel) rfl, ⟨by decide +kernel, by decide +kernel⟩, by decide +kernel, by decide +kernel, rfl, by decide⟩, pv_t 984 (by decide +kernel) rfl, pv_t 985 (by decide +kernel) rfl⟩
set_option maxRecDepth 100000 in
theorem pkmX9_cheapest : tables_1[995]? = some (pv_cw mX9_cheapest) := by rfl
theorem mvX9_cheapest : pv_mV mX9_cheapest 1 := ⟨⟨pv_t 995 pkmX9_cheapest rfl, pv_t 1 (by decide +kernel) rfl, ⟨by decide +kernel, by decide +kernel⟩, by decide +kernel, by decide +kernel, rfl, by decide⟩, pv_t 993 (by decide +kernel) rfl, pv_t 994 (by decide +kernel) rfl⟩
set_option maxRecDepth 100000 in
theorem pkmX10_init : tables_1[1000]? = some (pv_cw mX10_init) := by rfl
theorem mcX10_init : pv_mI mX10_init 0 := ⟨⟨pv_t 1000 pkmX10_init rfl, pv_t 11 (by decide +kernel) rfl, ⟨by decide +kernel, by decide +kernel⟩, by decide +kernel, by decide +kernel, rfl, by decide⟩, pv_t 999 (by decide +kernel) rfl, rfl, rfl⟩
set_option maxRecDepth 100000 in
theorem pkmX10_thrown : tables_1[1045]? = some (pv_cw mX10_thrown) := by rfl
theorem mvX10_thrown : pv_mV mX10_thrown 0 := ⟨⟨pv_t 1045 pkmX10_thrown rfl, pv_t 11 (by decide +kernel) rfl, ⟨by decide +kernel, by decide +kernel⟩, by decide +kernel, by decide +kernel, rfl, by decide⟩, pv_t 1043 (by decide +kernel) rfl, pv_t 1044 (by decide +kernel) rfl⟩
set_option maxRecDepth 100000 in
theorem pkmX10_addKind : tables_1[1049]? = some (pv_cw mX10_addKind) := by rfl
theorem mvX10_addKind : pv_mV mX10_addKind 3 := ⟨⟨pv_t 1049 pkmX10_addKind rfl, pv_t 11 (by decide +kernel) rfl, ⟨by decide +kernel, by decide +kernel⟩, by decide +kernel, by decide +kernel, rfl, by decide⟩, pv_t 1047 (by decide +kernel) rfl, pv_t 1048 (by decide +kernel) rfl⟩
set_option maxRecDepth 100000 in
theorem pkmX10_isLife : tables_1[1052]? = some (pv_cw mX10_isLife) := by rfl
theorem msX10_isLife : pv_mS mX10_isLife 1 := ⟨⟨pv_t 1052 pkmX10_isLife rfl, pv_t 11 (by decide +kernel) rfl, ⟨by decide +kernel, by decide +kernel⟩, by decide +kernel, by decide +kernel, rfl, by decide⟩, pv_t 1051 (by decide +kernel) rfl⟩
set_option maxRecDepth 100000 in
theorem pkmX10_within : tables_1[1055]? = some (pv_cw mX10_within) := by rfl
theorem msX10_within : pv_mS mX10_within 3 := ⟨⟨pv_t 1055 pkmX10_within rfl, pv_t 11 (by decide +kernel) rfl, ⟨by decide +kernel, by decide +kernel⟩, by decide +kernel, by decide +kernel, rfl, by decide⟩, pv_t 1054 (by decide +kernel) rfl⟩
set_option maxRecDepth 100000 in
theorem pkmX10_save : tables_1[1059]? = some (pv_cw mX10_save) := by rfl
theorem mvX10_save : pv_mV mX10_save 0 := ⟨⟨pv_t 1059 pkmX10_save rfl, pv_t 11 (by decide +kernel) rfl, ⟨by decide +kernel, by decide +kernel⟩, by decide +kernel, by decide +kernel, rfl, by decide⟩, pv_t 1058 (by decide +kernel) rfl, pv_ts 21 (by decide +kernel) rfl⟩
set_option maxRecDepth 100000 in
theorem pkmX10_copy : tables_1[1062]? = some (pv_cw mX10_copy) := by rfl
theorem msX10_copy : pv_mS mX10_copy 4 := ⟨⟨pv_t 1062 pkmX10_copy rfl, pv_t 11 (by decide +kernel) rfl, ⟨by decide +kernel, by decide +kernel⟩, by decide +kernel, by decide +kernel, rfl, by decide⟩, pv_t 1061 (by decide +kernel) rfl⟩
set_option maxRecDepth 100000 in
theorem pkmX10_setRoom : tables_1[1066]? = some (pv_cw mX10_setRoom) := by rfl
theorem mvX10_setRoom : pv_mV mX10_setRoom 2 := ⟨⟨pv_t 1066 pkmX10_setRoom rfl, pv_t 11 (by decide +kernel) rfl, ⟨by decide +kernel, by decide +kernel⟩, by decide +kernel, by decide +kernel, rfl, by decide⟩, pv_t 1064 (by decide +kernel) rfl, pv_t 1065 (by decide +kernel) rfl⟩
set_option maxRecDepth 100000 in
theorem pkmX10_isStore : tables_1[1069]? = some (pv_cw mX10_isStore) := by rfl
theorem msX10_isStore : pv_mS mX10_isStore 1 := ⟨⟨pv_t 1069 pkmX10_isStore rfl, pv_t 11 (by decide +kernel) rfl, ⟨by decide +kernel, by decide +kernel⟩, by decide +kernel, by decide +kernel, rfl, by decide⟩, pv_t 1068 (by decide +kernel) rfl⟩
set_option maxRecDepth 100000 in
theorem pkmX10_inStore : tables_1[1073]? = some (pv_cw mX10_inStore) := by rfl
theorem mvX10_inStore : pv_mV mX10_inStore 1 := ⟨⟨pv_t 1073 pkmX10_inStore rfl, pv_t 11 (by decide +kernel) rfl, ⟨by decide +kernel, by decide +kernel⟩, by decide +kernel, by decide +kernel, rfl, by decide⟩, pv_t 1072 (by decide +kernel) rfl, pv_ts 22 (by decide +kernel) rfl⟩
set_option maxRecDepth 100000 in
theorem pkmX10_of : tables_1[1077]? = some (pv_cw mX10_of) := by rfl
theorem mvX10_of : pv_mV mX10_of 2 := ⟨⟨pv_t 1077 pkmX10_of rfl, pv_t 11 (by decide +kernel) rfl, ⟨by decide +kernel, by decide +kernel⟩, by decide +kernel, by decide +kernel, rfl, by decide⟩, pv_t 1076 (by decide +kernel) rfl, pv_ts 23 (by decide +kernel) rfl⟩
set_option maxRecDepth 100000 in
theorem pkmX10_warm : tables_1[1081]? = some (pv_cw mX10_warm) := by rfl
theorem mvX10_warm : pv_mV mX10_warm 2 := ⟨⟨pv_t 1081 pkmX10_warm rfl, pv_t 11 (by decide +kernel) rfl, ⟨by decide +kernel, by decide +kernel⟩, by decide +kernel, by decide +kernel, rfl, by decide⟩, pv_t 1079 (by decide +kernel) rfl, pv_t 1080 (by decide +kernel) rfl⟩
set_option maxRecDepth 100000 in
theorem pkmX10_setCrew : tables_1[1085]? = some (pv_cw mX10_setCrew) := by rfl
theorem mvX10_setCrew : pv_mV mX10_setCrew 1 := ⟨⟨pv_t 1085 pkmX10_setCrew rfl, pv_t 11 (by decide +kernel) rfl, ⟨by decide +kernel, by decide +kernel⟩, by decide +kernel, by decide +kernel, rfl, by decide⟩, pv_t 1083 (by decide +kernel) rfl, pv_t 1084 (by decide +kernel) rfl⟩
set_option maxRecDepth 100000 in
theorem pkmX10_pay : tables_1[1089]? = some (pv_cw mX10_pay) := by rfl
theorem mvX10_pay : pv_mV mX10_pay 1 := ⟨⟨pv_t 1089 pkmX10_pay rfl, pv_t 11 (by decide +kernel) rfl, ⟨by decide +kernel, by decide +kernel⟩, by decide +kernel, by decide +kernel, rfl, by decide⟩, pv_t 1087 (by decide +kernel) rfl, pv_t 1088 (by decide +kernel) rfl⟩
set_option maxRecDepth 100000 in
theorem pkmX10_addPort : tables_1[1094]? = some (pv_cw mX10_addPort) := by rfl
theorem mvX10_addPort : pv_mV mX10_addPort 2 := ⟨⟨pv_t 1094 pkmX10_addPort rfl, pv_t 11 (by decide +kernel) rfl, ⟨by decide +kernel, by decide +kernel⟩, by decide +kernel, by decide +kernel, rfl, by decide⟩, pv_t 1092 (by decide +kernel) rfl, pv_t 1093 (by decide +kernel) rfl⟩
set_option maxRecDepth 100000 in
theorem pkmX10_portOf : tables_1[1098]? = some (pv_cw mX10_portOf) := by rfl
theorem mvX10_portOf : pv_mV mX10_portOf 1 := ⟨⟨pv_t 1098 pkmX10_portOf rfl, pv_t 11 (by decide +kernel) rfl, ⟨by decide +kernel, by decide +kernel⟩, by decide +kernel, by decide +kernel, rfl, by decide⟩, pv_t 1097 (by decide +kernel) rfl, pv_ts 24 (by decide +kernel) rfl⟩
set_option maxRecDepth 100000 in
theorem pkmX10_removePort : tables_1[1102]? = some (pv_cw mX10_removePort) := by rfl
theorem mvX10_removePort : pv_mV mX10_removePort 1 := ⟨⟨pv_t 1102 pkmX10_removePort rfl, pv_t 11 (by decide +kernel) rfl, ⟨by decide +kernel, by decide +kernel⟩, by decide +kernel, by decide +kernel, rfl, by decide⟩, pv_t 1100 (by decide +kernel) rfl, pv_t 1101 (by decide +kernel) rfl⟩
set_option maxRecDepth 100000 in
theorem pkmX10_isPort : tables_1[1106]? = some (pv_cw mX10_isPort) := by rfl
theorem mvX10_isPort : pv_mV mX10_isPort 1 := ⟨⟨pv_t 1106 pkmX10_isPort rfl, pv_t 11 (by decide +kernel) rfl, ⟨by decide +kernel, by decide +kernel⟩, by decide +kernel, by decide +kernel, rfl, by decide⟩, pv_t 1105 (by decide +kernel) rfl, pv_ts 25 (by decide +kernel) rfl⟩
set_option maxRecDepth 100000 in
theorem pkmX10_setPrice : tables_1[1110]? = some (pv_cw mX10_setPrice) := by rfl
theorem mvX10_setPrice : pv_mV mX10_setPrice 3 := ⟨⟨pv_t 1110 pkmX10_setPrice rfl, pv_t 11 (by decide +kernel) rfl, ⟨by decide +kernel, by decide +kernel⟩, by decide +kernel, by decide +kernel, rfl, by decide⟩, pv_t 1108 (by decide +kernel) rfl, pv_t 1109 (by decide +kernel) rfl⟩
set_option maxRecDepth 100000 in
theorem pkmX10_isKind : tables_1[1114]? = some (pv_cw mX10_isKind) := by rfl
theorem mvX10_isKind : pv_mV mX10_isKind 1 := ⟨⟨pv_t 1114 pkmX10_isKind rfl, pv_t 11 (by decide +kernel) rfl, ⟨by decide +kernel, by decide +kernel⟩, by decide +kernel, by decide +kernel, rfl, by decide⟩, pv_t 1113 (by decide +kernel) rfl, pv_ts 26 (by decide +kernel) rfl⟩
set_option maxRecDepth 100000 in
theorem pkmX10_buy : tables_1[1118]? = some (pv_cw mX10_buy) := by rfl
theorem mvX10_buy : pv_mV mX10_buy 3 := ⟨⟨pv_t 1118 pkmX10_buy rfl, pv_t 11 (by decide +kernel) rfl, ⟨by decide +kernel, by decide +kernel⟩, by decide +kernel, by decide +kernel, rfl, by decide⟩, pv_t 1116 (by decide +kernel) rfl, pv_t 1117 (by decide +kernel) rfl⟩
set_option maxRecDepth 100000 in
theorem pkmX10_isAmount : tables_1[1121]? = some (pv_cw mX10_isAmount) := by rfl
theorem msX10_isAmount : pv_mS mX10_isAmount 1 := ⟨⟨pv_t 1121 pkmX10_isAmount rfl, pv_t 11 (by decide +kernel) rfl, ⟨by decide +kernel, by decide +kernel⟩, by decide +kernel, by decide +kernel, rfl, by decide⟩, pv_t 1120 (by decide +kernel) rfl⟩
set_option maxRecDepth 100000 in
theorem pkmX10_refusal : tables_1[1125]? = some (pv_cw mX10_refusal) := by rfl
theorem mvX10_refusal : pv_mV mX10_refusal 3 := ⟨⟨pv_t 1125 pkmX10_refusal rfl, pv_t 11 (by decide +kernel) rfl, ⟨by decide +kernel, by decide +kernel⟩, by decide +kernel, by decide +kernel, rfl, by decide⟩, pv_t 1124 (by decide +kernel) rfl, pv_ts 27 (by decide +kernel) rfl⟩
set_option maxRecDepth 100000 in
theorem pkmX10_lifeIn : tables_1[1129]? = some (pv_cw mX10_lifeIn) := by rfl
theorem mvX10_lifeIn : pv_mV mX10_lifeIn 3 := ⟨⟨pv_t 1129 pkmX10_lifeIn rfl, pv_t 11 (by decide +kernel) rfl, ⟨by decide +kernel, by decide +kernel⟩, by decide +kernel, by decide +kernel, rfl, by decide⟩, pv_t 1128 (by decide +kernel) rfl, pv_ts 28 (by decide +kernel) rfl⟩
set_option maxRecDepth 100000 in
theorem pkmX10_tally : tables_1[1133]? = some (pv_cw mX10_tally) := by rfl
theorem mvX10_tally : pv_mV mX10_tally 3 := ⟨⟨pv_t 1133 pkmX10_tally rfl, pv_t 11 (by decide +kernel) rfl, ⟨by decide +kernel, by decide +kernel⟩, by decide +kernel, by decide +kernel, rfl, by decide⟩, pv_t 1132 (by decide +kernel) rfl, pv_ts 29 (by decide +kernel) rfl⟩
set_option maxRecDepth 100000 in
theorem pkmX10_putLot : tables_1[1137]? = some (pv_cw mX10_putLot) := by rfl
theorem mvX10_putLot : pv_mV mX10_putLot 4 := ⟨⟨pv_t 1137 pkmX10_putLot rfl, pv_t 11 (by decide +kernel) rfl, ⟨by decide +kernel, by decide +kernel⟩, by decide +kernel, by decide +kernel, rfl, by decide⟩, pv_t 1136 (by decide +kernel) rfl, pv_ts 30 (by decide +kernel) rfl⟩
set_option maxRecDepth 100000 in
theorem pkmX10_move : tables_1[1141]? = some (pv_cw mX10_move) := by rfl
theorem mvX10_move : pv_mV mX10_move 3 := ⟨⟨pv_t 1141 pkmX10_move rfl, pv_t 11 (by decide +kernel) rfl, ⟨by decide +kernel, by decide +kernel⟩, by decide +kernel, by decide +kernel, rfl, by decide⟩, pv_t 1139 (by decide +kernel) rfl, pv_t 1140 (by decide +kernel) rfl⟩
set_option maxRecDepth 100000 in
theorem pkmX10_isLot : tables_1[1145]? = some (pv_cw mX10_isLot) := by rfl
theorem mvX10_isLot : pv_mV mX10_isLot 1 := ⟨⟨pv_t 1145 pkmX10_isLot rfl, pv_t 11 (by decide +kernel) rfl, ⟨by decide +kernel, by decide +kernel⟩, by decide +kernel, by decide +kernel, rfl, by decide⟩, pv_t 1144 (by decide +kernel) rfl, pv_ts 31 (by decide +kernel) rfl⟩
set_option maxRecDepth 100000 in
theorem pkmX10_discard : tables_1[1149]? = some (pv_cw mX10_discard) := by rfl
theorem mvX10_discard : pv_mV mX10_discard 2 := ⟨⟨pv_t 1149 pkmX10_discard rfl, pv_t 11 (by decide +kernel) rfl, ⟨by decide +kernel, by decide +kernel⟩, by decide +kernel, by decide +kernel, rfl, by decide⟩, pv_t 1147 (by decide +kernel) rfl, pv_t 1148 (by decide +kernel) rfl⟩
set_option maxRecDepth 100000 in
theorem pkmX10_dropEmpty : tables_1[1153]? = some (pv_cw mX10_dropEmpty) := by rfl
theorem mvX10_dropEmpty : pv_mV mX10_dropEmpty 0 := ⟨⟨pv_t 1153 pkmX10_dropEmpty rfl, pv_t 11 (by decide +kernel) rfl, ⟨by decide +kernel, by decide +kernel⟩, by decide +kernel, by decide +kernel, rfl, by decide⟩, pv_t 1152 (by decide +kernel) rfl, pv_ts 32 (by decide +kernel) rfl⟩
set_option maxRecDepth 100000 in
theorem pkmX10_rations : tables_1[1157]? = some (pv_cw mX10_rations) := by rfl
theorem mvX10_rations : pv_mV mX10_rations 0 := ⟨⟨pv_t 1157 pkmX10_rations rfl, pv_t 11 (by decide +kernel) rfl, ⟨by decide +kernel, by decide +kernel⟩, by decide +kernel, by decide +kernel, rfl, by decide⟩, pv_t 1156 (by decide +kernel) rfl, pv_ts 33 (by decide +kernel) rfl⟩
set_option maxRecDepth 100000 in
theorem pkmX10_pass : tables_1[1161]? = some (pv_cw mX10_pass) := by rfl
theorem mvX10_pass : pv_mV mX10_pass 1 := ⟨⟨pv_t 1161 pkmX10_pass rfl, pv_t 11 (by decide +kernel) rfl, ⟨by decide +kernel, by decide +kernel⟩, by decide +kernel, by decide +kernel, rfl, by decide⟩, pv_t 1159 (by decide +kernel) rfl, pv_t 1160 (by decide +kernel) rfl⟩
set_option maxRecDepth 100000 in
theorem pkmX10_all : tables_1[1165]? = some (pv_cw mX10_all) := by rfl
theorem mvX10_all : pv_mV mX10_all 1 := ⟨⟨pv_t 1165 pkmX10_all rfl, pv_t 11 (by decide +kernel) rfl, ⟨by decide +kernel, by decide +kernel⟩, by decide +kernel, by decide +kernel, rfl, by decide⟩, pv_t 1164 (by decide +kernel) rfl, pv_ts 34 (by decide +kernel) rfl⟩
set_option maxRecDepth 100000 in
theorem pkmX10_passDays : tables_1[1169]? = some (pv_cw mX10_passDays) := by rfl
theorem mvX10_passDays : pv_mV mX10_passDays 1 := ⟨⟨pv_t 1169 pkmX10_passDays rfl, pv_t 11 (by decide +kernel) rfl, ⟨by decide +kernel, by decide +kernel⟩, by decide +kernel, by decide +kernel, rfl, by decide⟩, pv_t 1168 (by decide +kernel) rfl, pv_ts 35 (by decide +kernel) rfl⟩
set_option maxRecDepth 100000 in
theorem pkmX10_passDay : tables_1[1173]? = some (pv_cw mX10_passDay) := by rfl
theorem mvX10_passDay : pv_mV mX10_passDay 0 := ⟨⟨pv_t 1173 pkmX10_passDay rfl, pv_t 11 (by decide +kernel) rfl, ⟨by decide +kernel, by decide +kernel⟩, by decide +kernel, by decide +kernel, rfl, by decide⟩, pv_t 1172 (by decide +kernel) rfl, pv_ts 36 (by decide +kernel) rfl⟩
set_option maxRecDepth 100000 in
theorem pkmX10_serve : tables_1[1177]? = some (pv_cw mX10_serve) := by rfl
theorem mvX10_serve : pv_mV mX10_serve 0 := ⟨⟨pv_t 1177 pkmX10_serve rfl, pv_t 11 (by decide +kernel) rfl, ⟨by decide +kernel, by decide +kernel⟩, by decide +kernel, by decide +kernel, rfl, by decide⟩, pv_t 1176 (by decide +kernel) rfl, pv_ts 37 (by decide +kernel) rfl⟩
set_option maxRecDepth 100000 in
theorem pkmX10_daysLeft : tables_1[1181]? = some (pv_cw mX10_daysLeft) := by rfl
theorem mvX10_daysLeft : pv_mV mX10_daysLeft 1 := ⟨⟨pv_t 1181 pkmX10_daysLeft rfl, pv_t 11 (by decide +kernel) rfl, ⟨by decide +kernel, by decide +kernel⟩, by decide +kernel, by decide +kernel, rfl, by decide⟩, pv_t 1180 (by decide +kernel) rfl, pv_ts 38 (by decide +kernel) rfl⟩
set_option maxRecDepth 100000 in
theorem pkmX10_ages : tables_1[1185]? = some (pv_cw mX10_ages) := by rfl
theorem mvX10_ages : pv_mV mX10_ages 3 := ⟨⟨pv_t 1185 pkmX10_ages rfl, pv_t 11 (by decide +kernel) rfl, ⟨by decide +kernel, by decide +kernel⟩, by decide +kernel, by decide +kernel, rfl, by decide⟩, pv_t 1184 (by decide +kernel) rfl, pv_ts 39 (by decide +kernel) rfl⟩
set_option maxRecDepth 100000 in
theorem pkmX10_eat : tables_1[1189]? = some (pv_cw mX10_eat) := by rfl
theorem mvX10_eat : pv_mV mX10_eat 2 := ⟨⟨pv_t 1189 pkmX10_eat rfl, pv_t 11 (by decide +kernel) rfl, ⟨by decide +kernel, by decide +kernel⟩, by decide +kernel, by decide +kernel, rfl, by decide⟩, pv_t 1188 (by decide +kernel) rfl, pv_ts 40 (by decide +kernel) rfl⟩
set_option maxRecDepth 100000 in
theorem pkmX10_nextLot : tables_1[1193]? = some (pv_cw mX10_nextLot) := by rfl
theorem mvX10_nextLot : pv_mV mX10_nextLot 1 := ⟨⟨pv_t 1193 pkmX10_nextLot rfl, pv_t 11 (by decide +kernel) rfl, ⟨by decide +kernel, by decide +kernel⟩, by decide +kernel, by decide +kernel, rfl, by decide⟩, pv_t 1192 (by decide +kernel) rfl, pv_ts 41 (by decide +kernel) rfl⟩
set_option maxRecDepth 100000 in
theorem pkmX10_age : tables_1[1197]? = some (pv_cw mX10_age) := by rfl
theorem mvX10_age : pv_mV mX10_age 0 := ⟨⟨pv_t 1197 pkmX10_age rfl, pv_t 11 (by decide +kernel) rfl, ⟨by decide +kernel, by decide +kernel⟩, by decide +kernel, by decide +kernel, rfl, by decide⟩, pv_t 1196 (by decide +kernel) rfl, pv_ts 42 (by decide +kernel) rfl⟩
set_option maxRecDepth 100000 in
theorem pkmX10_append : tables_1[1201]? = some (pv_cw mX10_append) := by rfl
theorem mvX10_append : pv_mV mX10_append 1 := ⟨⟨pv_t 1201 pkmX10_append rfl, pv_t 11 (by decide +kernel) rfl, ⟨by decide +kernel, by decide +kernel⟩, by decide +kernel, by decide +kernel, rfl, by decide⟩, pv_t 1199 (by decide +kernel) rfl, pv_t 1200 (by decide +kernel) rfl⟩
set_option maxRecDepth 100000 in
theorem pkmX10_clearBuffer : tables_1[1205]? = some (pv_cw mX10_clearBuffer) := by rfl
theorem mvX10_clearBuffer : pv_mV mX10_clearBuffer 0 := ⟨⟨pv_t 1205 pkmX10_clearBuffer rfl, pv_t 11 (by decide +kernel) rfl, ⟨by decide +kernel, by decide +kernel⟩, by decide +kernel, by decide +kernel, rfl, by decide⟩, pv_t 1203 (by decide +kernel) rfl, pv_t 1204 (by decide +kernel) rfl⟩
set_option maxRecDepth 100000 in
theorem pkmX10_firstError : tables_1[1209]? = some (pv_cw mX10_firstError) := by rfl
theorem mvX10_firstError : pv_mV mX10_firstError 0 := ⟨⟨pv_t 1209 pkmX10_firstError rfl, pv_t 11 (by decide +kernel) rfl, ⟨by decide +kernel, by decide +kernel⟩, by decide +kernel, by decide +kernel, rfl, by decide⟩, pv_t 1207 (by decide +kernel) rfl, pv_t 1208 (by decide +kernel) rfl⟩
set_option maxRecDepth 100000 in
theorem pkmX10_rightLength : tables_1[1213]? = some (pv_cw mX10_rightLength) := by rfl
theorem mvX10_rightLength : pv_mV mX10_rightLength 0 := ⟨⟨pv_t 1213 pkmX10_rightLength rfl, pv_t 11 (by decide +kernel) rfl, ⟨by decide +kernel, by decide +kernel⟩, by decide +kernel, by decide +kernel, rfl, by decide⟩, pv_t 1212 (by decide +kernel) rfl, pv_ts 43 (by decide +kernel) rfl⟩
set_option maxRecDepth 100000 in
theorem pkmX10_takes : tables_1[1217]? = some (pv_cw mX10_takes) := by rfl
theorem mvX10_takes : pv_mV mX10_takes 1 := ⟨⟨pv_t 1217 pkmX10_takes rfl, pv_t 11 (by decide +kernel) rfl, ⟨by decide +kernel, by decide +kernel⟩, by decide +kernel, by decide +kernel, rfl, by decide⟩, pv_t 1216 (by decide +kernel) rfl, pv_ts 44 (by decide +kernel) rfl⟩
set_option maxRecDepth 100000 in
theorem pkmX10_takesItem : tables_1[1221]? = some (pv_cw mX10_takesItem) := by rfl
theorem mvX10_takesItem : pv_mV mX10_takesItem 1 := ⟨⟨pv_t 1221 pkmX10_takesItem rfl, pv_t 11 (by decide +kernel) rfl, ⟨by decide +kernel, by decide +kernel⟩, by decide +kernel, by decide +kernel, rfl, by decide⟩, pv_t 1220 (by decide +kernel) rfl, pv_ts 45 (by decide +kernel) rfl⟩
set_option maxRecDepth 100000 in
theorem pkmX10_goesOn : tables_1[1225]? = some (pv_cw mX10_goesOn) := by rfl
theorem mvX10_goesOn : pv_mV mX10_goesOn 1 := ⟨⟨pv_t 1225 pkmX10_goesOn rfl, pv_t 11 (by decide +kernel) rfl, ⟨by decide +kernel, by decide +kernel⟩, by decide +kernel, by decide +kernel, rfl, by decide⟩, pv_t 1224 (by decide +kernel) rfl, pv_ts 46 (by decide +kernel) rfl⟩
set_option maxRecDepth 100000 in
theorem pkmX10_load : tables_1[1229]? = some (pv_cw mX10_load) := by rfl
theorem mvX10_load : pv_mV mX10_load 0 := ⟨⟨pv_t 1229 pkmX10_load rfl, pv_t 11 (by decide +kernel) rfl, ⟨by decide +kernel, by decide +kernel⟩, by decide +kernel, by decide +kernel, rfl, by decide⟩, pv_t 1227 (by decide +kernel) rfl, pv_t 1228 (by decide +kernel) rfl⟩
set_option maxRecDepth 100000 in
theorem pkmX10_areKinds : tables_1[1233]? = some (pv_cw mX10_areKinds) := by rfl
theorem mvX10_areKinds : pv_mV mX10_areKinds 0 := ⟨⟨pv_t 1233 pkmX10_areKinds rfl, pv_t 11 (by decide +kernel) rfl, ⟨by decide +kernel, by decide +kernel⟩, by decide +kernel, by decide +kernel, rfl, by decide⟩, pv_t 1232 (by decide +kernel) rfl, pv_ts 47 (by decide +kernel) rfl⟩
set_option maxRecDepth 100000 in
theorem pkmX10_undo : tables_1[1237]? = some (pv_cw mX10_undo) := by rfl
theorem mvX10_undo : pv_mV mX10_undo 0 := ⟨⟨pv_t 1237 pkmX10_undo rfl, pv_t 11 (by decide +kernel) rfl, ⟨by decide +kernel, by decide +kernel⟩, by decide +kernel, by decide +kernel, rfl, by decide⟩, pv_t 1235 (by decide +kernel) rfl, pv_t 1236 (by decide +kernel) rfl⟩
set_option maxRecDepth 100000 in
theorem pkmX10_lot : tables_1[1241]? = some (pv_cw mX10_lot) := by rfl
theorem mvX10_lot : pv_mV mX10_lot 2 := ⟨⟨pv_t 1241 pkmX10_lot rfl, pv_t 11 (by decide +kernel) rfl, ⟨by decide +kernel, by decide +kernel⟩, by decide +kernel, by decide +kernel, rfl, by decide⟩, pv_t 1239 (by decide +kernel) rfl, pv_t 1240 (by decide +kernel) rfl⟩
set_option maxRecDepth 100000 in
theorem pkmX10_lotNow : tables_1[1245]? = some (pv_cw mX10_lotNow) := by rfl
theorem mvX10_lotNow : pv_mV mX10_lotNow 2 := ⟨⟨pv_t 1245 pkmX10_lotNow rfl, pv_t 11 (by decide +kernel) rfl, ⟨by decide +kernel, by decide +kernel⟩, by decide +kernel, by decide +kernel, rfl, by decide⟩, pv_t 1244 (by decide +kernel) rfl, pv_ts 48 (by decide +kernel) rfl⟩
set_option maxRecDepth 100000 in
theorem pkmX10_placeOf : tables_1[1249]? = some (pv_cw mX10_placeOf) := by rfl
theorem mvX10_placeOf : pv_mV mX10_placeOf 1 := ⟨⟨pv_t 1249 pkmX10_placeOf rfl, pv_t 11 (by decide +kernel) rfl, ⟨by decide +kernel, by decide +kernel⟩, by decide +kernel, by decide +kernel, rfl, by decide⟩, pv_t 1248 (by decide +kernel) rfl, pv_ts 49 (by decide +kernel) rfl⟩
set_option maxRecDepth 100000 in
theorem pkmX10_store : tables_1[1253]? = some (pv_cw mX10_store) := by rfl
theorem mvX10_store : pv_mV mX10_store 2 := ⟨⟨pv_t 1253 pkmX10_store rfl, pv_t 11 (by decide +kernel) rfl, ⟨by decide +kernel, by decide +kernel⟩, by decide +kernel, by decide +kernel, rfl, by decide⟩, pv_t 1251 (by decide +kernel) rfl, pv_t 1252 (by decide +kernel) rfl⟩
set_option maxRecDepth 100000 in
theorem pkmX10_storeNow : tables_1[1257]? = some (pv_cw mX10_storeNow) := by rfl
theorem mvX10_storeNow : pv_mV mX10_storeNow 2 := ⟨⟨pv_t 1257 pkmX10_storeNow rfl, pv_t 11 (by decide +kernel) rfl, ⟨by decide +kernel, by decide +kernel⟩, by decide +kernel, by decide +kernel, rfl, by decide⟩, pv_t 1256 (by decide +kernel) rfl, pv_ts 50 (by decide +kernel) rfl⟩
set_option maxRecDepth 100000 in
theorem pkmX10_lotsWith : tables_1[1261]? = some (pv_cw mX10_lotsWith) := by rfl
theorem mvX10_lotsWith : pv_mV mX10_lotsWith 2 := ⟨⟨pv_t 1261 pkmX10_lotsWith rfl, pv_t 11 (by decide +kernel) rfl, ⟨by decide +kernel, by decide +kernel⟩, by decide +kernel, by decide +kernel, rfl, by decide⟩, pv_t 1260 (by decide +kernel) rfl, pv_ts 51 (by decide +kernel) rfl⟩
set_option maxRecDepth 100000 in
theorem pkmX10_kind : tables_1[1265]? = some (pv_cw mX10_kind) := by rfl
theorem mvX10_kind : pv_mV mX10_kind 2 := ⟨⟨pv_t 1265 pkmX10_kind rfl, pv_t 11 (by decide +kernel) rfl, ⟨by decide +kernel, by decide +kernel⟩, by decide +kernel, by decide +kernel, rfl, by decide⟩, pv_t 1263 (by decide +kernel) rfl, pv_t 1264 (by decide +kernel) rfl⟩
set_option maxRecDepth 100000 in
theorem pkmX10_kindNow : tables_1[1269]? = some (pv_cw mX10_kindNow) := by rfl
theorem mvX10_kindNow : pv_mV mX10_kindNow 2 := ⟨⟨pv_t 1269 pkmX10_kindNow rfl, pv_t 11 (by decide +kernel) rfl, ⟨by decide +kernel, by decide +kernel⟩, by decide +kernel, by decide +kernel, rfl, by decide⟩, pv_t 1268 (by decide +kernel) rfl, pv_ts 52 (by decide +kernel) rfl⟩
set_option maxRecDepth 100000 in
theorem pkmX10_inLots : tables_1[1273]? = some (pv_cw mX10_inLots) := by rfl
theorem mvX10_inLots : pv_mV mX10_inLots 1 := ⟨⟨pv_t 1273 pkmX10_inLots rfl, pv_t 11 (by decide +kernel) rfl, ⟨by decide +kernel, by decide +kernel⟩, by decide +kernel, by decide +kernel, rfl, by decide⟩, pv_t 1272 (by decide +kernel) rfl, pv_ts 53 (by decide +kernel) rfl⟩
set_option maxRecDepth 100000 in
theorem pkmX10_port : tables_1[1277]? = some (pv_cw mX10_port) := by rfl
theorem mvX10_port : pv_mV mX10_port 2 := ⟨⟨pv_t 1277 pkmX10_port rfl, pv_t 11 (by decide +kernel) rfl, ⟨by decide +kernel, by decide +kernel⟩, by decide +kernel, by decide +kernel, rfl, by decide⟩, pv_t 1275 (by decide +kernel) rfl, pv_t 1276 (by decide +kernel) rfl⟩
set_option maxRecDepth 100000 in
theorem pkmX10_menu : tables_1[1281]? = some (pv_cw mX10_menu) := by rfl
theorem mvX10_menu : pv_mV mX10_menu 3 := ⟨⟨pv_t 1281 pkmX10_menu rfl, pv_t 11 (by decide +kernel) rfl, ⟨by decide +kernel, by decide +kernel⟩, by decide +kernel, by decide +kernel, rfl, by decide⟩, pv_t 1279 (by decide +kernel) rfl, pv_t 1280 (by decide +kernel) rfl⟩
set_option maxRecDepth 100000 in
theorem pkmX10_menuNow : tables_1[1285]? = some (pv_cw mX10_menuNow) := by rfl
theorem mvX10_menuNow : pv_mV mX10_menuNow 3 := ⟨⟨pv_t 1285 pkmX10_menuNow rfl, pv_t 11 (by decide +kernel) rfl, ⟨by decide +kernel, by decide +kernel⟩, by decide +kernel, by decide +kernel, rfl, by decide⟩, pv_t 1284 (by decide +kernel) rfl, pv_ts 54 (by decide +kernel) rfl⟩
set_option maxRecDepth 100000 in
theorem pkmX10_count : tables_1[1289]? = some (pv_cw mX10_count) := by rfl
theorem mvX10_count : pv_mV mX10_count 1 := ⟨⟨pv_t 1289 pkmX10_count rfl, pv_t 11 (by decide +kernel) rfl, ⟨by decide +kernel, by decide +kernel⟩, by decide +kernel, by decide +kernel, rfl, by decide⟩, pv_t 1287 (by decide +kernel) rfl, pv_t 1288 (by decide +kernel) rfl⟩
set_option maxRecDepth 100000 in
theorem pkmX10_counted : tables_1[1293]? = some (pv_cw mX10_counted) := by rfl
theorem mvX10_counted : pv_mV mX10_counted 1 := ⟨⟨pv_t 1293 pkmX10_counted rfl, pv_t 11 (by decide +kernel) rfl, ⟨by decide +kernel, by decide +kernel⟩, by decide +kernel, by decide +kernel, rfl, by decide⟩, pv_t 1292 (by decide +kernel) rfl, pv_ts 55 (by decide +kernel) rfl⟩
set_option maxRecDepth 100000 in
theorem pkmX10_nextPort : tables_1[1297]? = some (pv_cw mX10_nextPort) := by rfl
theorem mvX10_nextPort : pv_mV mX10_nextPort 0 := ⟨⟨pv_t 1297 pkmX10_nextPort rfl, pv_t 11 (by decide +kernel) rfl, ⟨by decide +kernel, by decide +kernel⟩, by decide +kernel, by decide +kernel, rfl, by decide⟩, pv_t 1296 (by decide +kernel) rfl, pv_ts 56 (by decide +kernel) rfl⟩
set_option maxRecDepth 100000 in
theorem pkmX10_why : tables_1[1301]? = some (pv_cw mX10_why) := by rfl
theorem mvX10_why : pv_mV mX10_why 3 := ⟨⟨pv_t 1301 pkmX10_why rfl, pv_t 11 (by decide +kernel) rfl, ⟨by decide +kernel, by decide +kernel⟩, by decide +kernel, by decide +kernel, rfl, by decide⟩, pv_t 1299 (by decide +kernel) rfl, pv_t 1300 (by decide +kernel) rfl⟩
set_option maxRecDepth 100000 in
theorem pkmX10_ifPass : tables_1[1305]? = some (pv_cw mX10_ifPass) := by rfl
theorem mvX10_ifPass : pv_mV mX10_ifPass 2 := ⟨⟨pv_t 1305 pkmX10_ifPass rfl, pv_t 11 (by decide +kernel) rfl, ⟨by decide +kernel, by decide +kernel⟩, by decide +kernel, by decide +kernel, rfl, by decide⟩, pv_t 1303 (by decide +kernel) rfl, pv_t 1304 (by decide +kernel) rfl⟩
set_option maxRecDepth 100000 in
theorem pkmX10_isDays : tables_1[1308]? = some (pv_cw mX10_isDays) := by rfl
theorem msX10_isDays : pv_mS mX10_isDays 1 := ⟨⟨pv_t 1308 pkmX10_isDays rfl, pv_t 11 (by decide +kernel) rfl, ⟨by decide +kernel, by decide +kernel⟩, by decide +kernel, by decide +kernel, rfl, by decide⟩, pv_t 1307 (by decide +kernel) rfl⟩
set_option maxRecDepth 100000 in
theorem pkmX10_ahead : tables_1[1312]? = some (pv_cw mX10_ahead) := by rfl
theorem mvX10_ahead : pv_mV mX10_ahead 2 := ⟨⟨pv_t 1312 pkmX10_ahead rfl, pv_t 11 (by decide +kernel) rfl, ⟨by decide +kernel, by decide +kernel⟩, by decide +kernel, by decide +kernel, rfl, by decide⟩, pv_t 1311 (by decide +kernel) rfl, pv_ts 57 (by decide +kernel) rfl⟩
set_option maxRecDepth 100000 in
theorem pkmX10_spoils : tables_1[1316]? = some (pv_cw mX10_spoils) := by rfl
theorem mvX10_spoils : pv_mV mX10_spoils 2 := ⟨⟨pv_t 1316 pkmX10_spoils rfl, pv_t 11 (by decide +kernel) rfl, ⟨by decide +kernel, by decide +kernel⟩, by decide +kernel, by decide +kernel, rfl, by decide⟩, pv_t 1314 (by decide +kernel) rfl, pv_t 1315 (by decide +kernel) rfl⟩
set_option maxRecDepth 100000 in
theorem pkmX10_shortIn : tables_1[1320]? = some (pv_cw mX10_shortIn) := by rfl
theorem mvX10_shortIn : pv_mV mX10_shortIn 1 := ⟨⟨pv_t 1320 pkmX10_shortIn rfl, pv_t 11 (by decide +kernel) rfl, ⟨by decide +kernel, by decide +kernel⟩, by decide +kernel, by decide +kernel, rfl, by decide⟩, pv_t 1318 (by decide +kernel) rfl, pv_t 1319 (by decide +kernel) rfl⟩
set_option maxRecDepth 100000 in
theorem pkmX10_shortNow : tables_1[1324]? = some (pv_cw mX10_shortNow) := by rfl
theorem mvX10_shortNow : pv_mV mX10_shortNow 1 := ⟨⟨pv_t 1324 pkmX10_shortNow rfl, pv_t 11 (by decide +kernel) rfl, ⟨by decide +kernel, by decide +kernel⟩, by decide +kernel, by decide +kernel, rfl, by decide⟩, pv_t 1323 (by decide +kernel) rfl, pv_ts 58 (by decide +kernel) rfl⟩
set_option maxRecDepth 100000 in
theorem pkmX10_firstShort : tables_1[1328]? = some (pv_cw mX10_firstShort) := by rfl
theorem mvX10_firstShort : pv_mV mX10_firstShort 2 := ⟨⟨pv_t 1328 pkmX10_firstShort rfl, pv_t 11 (by decide +kernel) rfl, ⟨by decide +kernel, by decide +kernel⟩, by decide +kernel, by decide +kernel, rfl, by decide⟩, pv_t 1327 (by decide +kernel) rfl, pv_ts 59 (by decide +kernel) rfl⟩
set_option maxRecDepth 100000 in
theorem pkmX10_bestStore : tables_1[1332]? = some (pv_cw mX10_bestStore) := by rfl
theorem mvX10_bestStore : pv_mV mX10_bestStore 1 := ⟨⟨pv_t 1332 pkmX10_bestStore rfl, pv_t 11 (by decide +kernel) rfl, ⟨by decide +kernel, by decide +kernel⟩, by decide +kernel, by decide +kernel, rfl, by decide⟩, pv_t 1330 (by decide +kernel) rfl, pv_t 1331 (by decide +kernel) rfl⟩
set_option maxRecDepth 100000 in
theorem pkmX10_bestNow : tables_1[1336]? = some (pv_cw mX10_bestNow) := by rfl
theorem mvX10_bestNow : pv_mV mX10_bestNow 1 := ⟨⟨pv_t 1336 pkmX10_bestNow rfl, pv_t 11 (by decide +kernel) rfl, ⟨by decide +kernel, by decide +kernel⟩, by decide +kernel, by decide +kernel, rfl, by decide⟩, pv_t 1335 (by decide +kernel) rfl, pv_ts 60 (by decide +kernel) rfl⟩
set_option maxRecDepth 100000 in
theorem pkmX10_leastPurchase : tables_1[1340]? = some (pv_cw mX10_leastPurchase) := by rfl
theorem mvX10_leastPurchase : pv_mV mX10_leastPurchase 2 := ⟨⟨pv_t 1340 pkmX10_leastPurchase rfl, pv_t 11 (by decide +kernel) rfl, ⟨by decide +kernel, by decide +kernel⟩, by decide +kernel, by decide +kernel, rfl, by decide⟩, pv_t 1338 (by decide +kernel) rfl, pv_t 1339 (by decide +kernel) rfl⟩
set_option maxRecDepth 100000 in
theorem pkmX10_cheapest : tables_1[1344]? = some (pv_cw mX10_cheapest) := by rfl
theorem mvX10_cheapest : pv_mV mX10_cheapest 1 := ⟨⟨pv_t 1344 pkmX10_cheapest rfl, pv_t 11 (by decide +kernel) rfl, ⟨by decide +kernel, by decide +kernel⟩, by decide +kernel, by decide +kernel, rfl, by decide⟩, pv_t 1342 (by decide +kernel) rfl, pv_t 1343 (by decide +kernel) rfl⟩
set_option maxRecDepth 100000 in
theorem pkmX10_meanAge : tables_1[1348]? = some (pv_cw mX10_meanAge) := by rfl
theorem mvX10_meanAge : pv_mV mX10_meanAge 0 := ⟨⟨pv_t 1348 pkmX10_meanAge rfl, pv_t 11 (by decide +kernel) rfl, ⟨by decide +kernel, by decide +kernel⟩, by decide +kernel, by decide +kernel, rfl, by decide⟩, pv_t 1346 (by decide +kernel) rfl, pv_t 1347 (by decide +kernel) rfl⟩
set_option maxRecDepth 100000 in
theorem pkmX10_meanNow : tables_1[1352]? = some (pv_cw mX10_meanNow) := by rfl
theorem mvX10_meanNow : pv_mV mX10_meanNow 0 := ⟨⟨pv_t 1352 pkmX10_meanNow rfl, pv_t 11 (by decide +kernel) rfl, ⟨by decide +kernel, by decide +kernel⟩, by decide +kernel, by decide +kernel, rfl, by decide⟩, pv_t 1351 (by decide +kernel) rfl, pv_ts 61 (by decide +kernel) rfl⟩
set_option maxRecDepth 100000 in
theorem pkmX10_digest : tables_1[1356]? = some (pv_cw mX10_digest) := by rfl
theorem mvX10_digest : pv_mV mX10_digest 0 := ⟨⟨pv_t 1356 pkmX10_digest rfl, pv_t 11 (by decide +kernel) rfl, ⟨by decide +kernel, by decide +kernel⟩, by decide +kernel, by decide +kernel, rfl, by decide⟩, pv_t 1354 (by decide +kernel) rfl, pv_t 1355 (by decide +kernel) rfl⟩
set_option maxRecDepth 100000 in
theorem pkmX10_mix : tables_1[1361]? = some (pv_cw mX10_mix) := by rfl
theorem mvX10_mix : pv_mV mX10_mix 1 := ⟨⟨pv_t 1361 pkmX10_mix rfl, pv_t 11 (by decide +kernel) rfl, ⟨by decide +kernel, by decide +kernel⟩, by decide +kernel, by decide +kernel, rfl, by decide⟩, pv_t 1360 (by decide +kernel) rfl, pv_ts 62 (by decide +kernel) rfl⟩
set_option maxRecDepth 100000 in
theorem pkmX10_mixKinds : tables_1[1366]? = some (pv_cw mX10_mixKinds) := by rfl
theorem mvX10_mixKinds : pv_mV mX10_mixKinds 0 := ⟨⟨pv_t 1366 pkmX10_mixKinds rfl, pv_t 11 (by decide +kernel) rfl, ⟨by decide +kernel, by decide +kernel⟩, by decide +kernel, by decide +kernel, rfl, by decide⟩, pv_t 1365 (by decide +kernel) rfl, pv_ts 63 (by decide +kernel) rfl⟩
set_option maxRecDepth 100000 in
theorem pkmX10_mixPorts : tables_1[1370]? = some (pv_cw mX10_mixPorts) := by rfl
theorem mvX10_mixPorts : pv_mV mX10_mixPorts 0 := ⟨⟨pv_t 1370 pkmX10_mixPorts rfl, pv_t 11 (by decide +kernel) rfl, ⟨by decide +kernel, by decide +kernel⟩, by decide +kernel, by decide +kernel, rfl, by decide⟩, pv_t 1369 (by decide +kernel) rfl, pv_ts 64 (by decide +kernel) rfl⟩
set_option maxRecDepth 100000 in
theorem pkmJxe99ae_doubleToLongBits_ccdee : tables_1[1373]? = some (pv_cw mJxe99ae_doubleToLongBits_ccdee) := by rfl
theorem msJxe99ae_doubleToLongBits_ccdee : pv_mS mJxe99ae_doubleToLongBits_ccdee 1 := ⟨⟨pv_t 1373 pkmJxe99ae_doubleToLongBits_ccdee rfl, pv_t 20 (by decide +kernel) rfl, ⟨by decide +kernel, by decide +kernel⟩, by decide +kernel, by decide +kernel, rfl, by decide⟩, pv_t 1372 (by decide +kernel) rfl⟩
set_option maxRecDepth 100000 in
theorem pkmJxe99ae_isNaN_b9ae7 : tables_1[1376]? = some (pv_cw mJxe99ae_isNaN_b9ae7) := by rfl
theorem msJxe99ae_isNaN_b9ae7 : pv_mS mJxe99ae_isNaN_b9ae7 1 := ⟨⟨pv_t 1376 pkmJxe99ae_isNaN_b9ae7 rfl, pv_t 20 (by decide +kernel) rfl, ⟨by decide +kernel, by decide +kernel⟩, by decide +kernel, by decide +kernel, rfl, by decide⟩, pv_t 1375 (by decide +kernel) rfl⟩
theorem mlL_103 : Cond.methodLink RL 103 yX9_init ∈ pv_W := pv_t 23 (by decide +kernel) rfl
theorem mlX9_1 : Cond.methodLink RX9 1 objectInit ∈ pv_W := pv_t 26 (by decide +kernel) rfl
theorem mlX7_3 : Cond.methodLink RX7 3 objectInit ∈ pv_W := pv_t 34 (by decide +kernel) rfl
theorem mlX1_3 : Cond.methodLink RX1 3 objectInit ∈ pv_W := pv_t 40 (by decide +kernel) rfl
theorem mlX1_11 : Cond.methodLink RX1 11 yX6_init ∈ pv_W := pv_t 43 (by decide +kernel) rfl
theorem mlX6_1 : Cond.methodLink RX6 1 objectInit ∈ pv_W := pv_t 46 (by decide +kernel) rfl
theorem mlX7_27 : Cond.methodLink RX7 27 yX8_init ∈ pv_W := pv_t 86 (by decide +kernel) rfl
theorem mlX8_3 : Cond.methodLink RX8 3 objectInit ∈ pv_W := pv_t 89 (by decide +kernel) rfl
theorem mlX8_11 : Cond.methodLink RX8 11 yX6_init ∈ pv_W := pv_t 91 (by decide +kernel) rfl
theorem mlX8_23 : Cond.methodLink RX8 23 yX6_fill ∈ pv_W := pv_t 92 (by decide +kernel) rfl
theorem mlX2_3 : Cond.methodLink RX2 3 objectInit ∈ pv_W := pv_t 112 (by decide +kernel) rfl
theorem mlX2_11 : Cond.methodLink RX2 11 yX6_init ∈ pv_W := pv_t 114 (by decide +kernel) rfl
theorem mlX5_3 : Cond.methodLink RX5 3 objectInit ∈ pv_W := pv_t 146 (by decide +kernel) rfl
theorem mlX5_11 : Cond.methodLink RX5 11 yX6_init ∈ pv_W := pv_t 148 (by decide +kernel) rfl
theorem mlX4_3 : Cond.methodLink RX4 3 objectInit ∈ pv_W := pv_t 172 (by decide +kernel) rfl
theorem mlX4_17 : Cond.methodLink RX4 17 yX6_init ∈ pv_W := pv_t 174 (by decide +kernel) rfl
theorem mlX7_55 : Cond.methodLink RX7 55 yX6_init ∈ pv_W := pv_t 200 (by decide +kernel) rfl
theorem mlX9_21 : Cond.methodLink RX9 21 yX0_init ∈ pv_W := pv_t 247 (by decide +kernel) rfl
theorem mlX0_3 : Cond.methodLink RX0 3 objectInit ∈ pv_W := pv_t 250 (by decide +kernel) rfl
theorem mlX3_3 : Cond.methodLink RX3 3 objectInit ∈ pv_W := pv_t 270 (by decide +kernel) rfl
theorem mlX3_11 : Cond.methodLink RX3 11 yX6_init ∈ pv_W := pv_t 272 (by decide +kernel) rfl
theorem mlL_154 : Cond.methodLink RL 154 yX9_clearBuffer ∈ pv_W := pv_t 311 (by decide +kernel) rfl
theorem mlL_158 : Cond.methodLink RL 158 yX9_firstError ∈ pv_W := pv_t 315 (by decide +kernel) rfl
theorem mlX9_217 : Cond.methodLink RX9 217 yX3_readMenus ∈ pv_W := pv_t 319 (by decide +kernel) rfl
theorem mlX3_27 : Cond.methodLink RX3 27 yX4_forget ∈ pv_W := pv_t 323 (by decide +kernel) rfl
theorem mlX4_40 : Cond.methodLink RX4 40 yX6_fill ∈ pv_W := pv_t 327 (by decide +kernel) rfl
theorem mlX3_43 : Cond.methodLink RX3 43 yX6_at ∈ pv_W := pv_t 328 (by decide +kernel) rfl
theorem mlX3_47 : Cond.methodLink RX3 47 yX3_accepts ∈ pv_W := pv_t 332 (by decide +kernel) rfl
theorem mlX3_51 : Cond.methodLink RX3 51 yX3_comesTo ∈ pv_W := pv_t 336 (by decide +kernel) rfl
theorem mlX3_54 : Cond.methodLink RX3 54 yX3_acceptsKind ∈ pv_W := pv_t 340 (by decide +kernel) rfl
theorem mlX3_77 : Cond.methodLink RX3 77 yX3_slot ∈ pv_W := pv_t 347 (by decide +kernel) rfl
theorem mlX3_100 : Cond.methodLink RX3 100 yX4_slot ∈ pv_W := pv_t 351 (by decide +kernel) rfl
theorem mlX3_81 : Cond.methodLink RX3 81 yX6_put ∈ pv_W := pv_t 355 (by decide +kernel) rfl
theorem mlX3_88 : Cond.methodLink RX3 88 yJ9_max_7cf53 ∈ pv_W := pv_t 359 (by decide +kernel) rfl
theorem mlX3_57 : Cond.methodLink RX3 57 yX3_beginsMenu ∈ pv_W := pv_t 362 (by decide +kernel) rfl
theorem mlX3_61 : Cond.methodLink RX3 61 yX3_acceptsAmount ∈ pv_W := pv_t 366 (by decide +kernel) rfl
theorem mlX3_64 : Cond.methodLink RX3 64 yX3_acceptsSeparator ∈ pv_W := pv_t 370 (by decide +kernel) rfl
theorem mlX3_67 : Cond.methodLink RX3 67 yX3_acceptsSubstitute ∈ pv_W := pv_t 374 (by decide +kernel) rfl
theorem mlL_208 : Cond.methodLink RL 208 yX9_meanAge ∈ pv_W := pv_t 378 (by decide +kernel) rfl
theorem mlX9_196 : Cond.methodLink RX9 196 yX2_rations ∈ pv_W := pv_t 382 (by decide +kernel) rfl
theorem mlX2_40 : Cond.methodLink RX2 40 yX6_at ∈ pv_W := pv_t 386 (by decide +kernel) rfl
theorem mlX9_334 : Cond.methodLink RX9 334 yX2_ageSum ∈ pv_W := pv_t 387 (by decide +kernel) rfl
theorem mlL_213 : Cond.methodLink RL 213 yX9_digest ∈ pv_W := pv_t 391 (by decide +kernel) rfl
theorem mlX9_342 : Cond.methodLink RX9 342 yX9_count ∈ pv_W := pv_t 397 (by decide +kernel) rfl
theorem mlX9_129 : Cond.methodLink RX9 129 yX5_onDay ∈ pv_W := pv_t 401 (by decide +kernel) rfl
theorem mlX5_30 : Cond.methodLink RX5 30 yX6_at ∈ pv_W := pv_t 405 (by decide +kernel) rfl
theorem mlX9_312 : Cond.methodLink RX9 312 yX5_after ∈ pv_W := pv_t 406 (by decide +kernel) rfl
theorem mlX9_345 : Cond.methodLink RX9 345 yX9_lot ∈ pv_W := pv_t 478 (by decide +kernel) rfl
theorem mlX9_164 : Cond.methodLink RX9 164 yX9_requireLot ∈ pv_W := pv_t 482 (by decide +kernel) rfl
theorem mlX9_97 : Cond.methodLink RX9 97 yX9_isWithin ∈ pv_W := pv_t 486 (by decide +kernel) rfl
theorem mlX9_88 : Cond.methodLink RX9 88 yX6_at ∈ pv_W := pv_t 503 (by decide +kernel) rfl
theorem mlX9_252 : Cond.methodLink RX9 252 yX7_daysLeftOf ∈ pv_W := pv_t 504 (by decide +kernel) rfl
theorem mlX7_65 : Cond.methodLink RX7 65 yX6_at ∈ pv_W := pv_t 508 (by decide +kernel) rfl
theorem mlX7_69 : Cond.methodLink RX7 69 yX1_lifeIn ∈ pv_W := pv_t 509 (by decide +kernel) rfl
theorem mlX1_43 : Cond.methodLink RX1 43 yX6_at ∈ pv_W := pv_t 513 (by decide +kernel) rfl
theorem mlX7_133 : Cond.methodLink RX7 133 yX7_stepFor ∈ pv_W := pv_t 514 (by decide +kernel) rfl
theorem mlX7_136 : Cond.methodLink RX7 136 yX7_stepsTo ∈ pv_W := pv_t 517 (by decide +kernel) rfl
theorem mlX9_255 : Cond.methodLink RX9 255 yX7_eatingPlaceOf ∈ pv_W := pv_t 520 (by decide +kernel) rfl
theorem mlX7_139 : Cond.methodLink RX7 139 yX7_daysLeftOf ∈ pv_W := pv_t 524 (by decide +kernel) rfl
theorem mlX9_348 : Cond.methodLink RX9 348 yX9_store ∈ pv_W := pv_t 526 (by decide +kernel) rfl
theorem mlX9_62 : Cond.methodLink RX9 62 yX9_requireStore ∈ pv_W := pv_t 530 (by decide +kernel) rfl
theorem mlX9_70 : Cond.methodLink RX9 70 yX2_rationsIn ∈ pv_W := pv_t 534 (by decide +kernel) rfl
theorem mlX9_260 : Cond.methodLink RX9 260 yX2_numberIn ∈ pv_W := pv_t 538 (by decide +kernel) rfl
theorem mlX9_351 : Cond.methodLink RX9 351 yX9_kind ∈ pv_W := pv_t 543 (by decide +kernel) rfl
theorem mlX9_147 : Cond.methodLink RX9 147 yX9_requireKind ∈ pv_W := pv_t 547 (by decide +kernel) rfl
theorem mlX9_265 : Cond.methodLink RX9 265 yX1_lifeIn ∈ pv_W := pv_t 552 (by decide +kernel) rfl
theorem mlX9_274 : Cond.methodLink RX9 274 yX2_rationsOf ∈ pv_W := pv_t 553 (by decide +kernel) rfl
theorem mlX9_280 : Cond.methodLink RX9 280 yX2_numberOf ∈ pv_W := pv_t 557 (by decide +kernel) rfl
theorem mlX9_317 : Cond.methodLink RX9 317 yX7_become ∈ pv_W := pv_t 562 (by decide +kernel) rfl
theorem mlX7_196 : Cond.methodLink RX7 196 yX1_become ∈ pv_W := pv_t 566 (by decide +kernel) rfl
theorem mlX1_47 : Cond.methodLink RX1 47 yX6_become ∈ pv_W := pv_t 570 (by decide +kernel) rfl
theorem mlX7_200 : Cond.methodLink RX7 200 yX8_become ∈ pv_W := pv_t 577 (by decide +kernel) rfl
theorem mlX8_34 : Cond.methodLink RX8 34 yX6_become ∈ pv_W := pv_t 581 (by decide +kernel) rfl
theorem mlX7_203 : Cond.methodLink RX7 203 yX2_become ∈ pv_W := pv_t 582 (by decide +kernel) rfl
theorem mlX2_51 : Cond.methodLink RX2 51 yX6_become ∈ pv_W := pv_t 586 (by decide +kernel) rfl
theorem mlX7_206 : Cond.methodLink RX7 206 yX5_become ∈ pv_W := pv_t 587 (by decide +kernel) rfl
theorem mlX5_52 : Cond.methodLink RX5 52 yX6_become ∈ pv_W := pv_t 591 (by decide +kernel) rfl
theorem mlX7_209 : Cond.methodLink RX7 209 yX4_become ∈ pv_W := pv_t 592 (by decide +kernel) rfl
theorem mlX4_43 : Cond.methodLink RX4 43 yX6_become ∈ pv_W := pv_t 596 (by decide +kernel) rfl
theorem mlX9_322 : Cond.methodLink RX9 322 yX7_firstShort ∈ pv_W := pv_t 597 (by decide +kernel) rfl
theorem mlX7_145 : Cond.methodLink RX7 145 yX7_passDay ∈ pv_W := pv_t 601 (by decide +kernel) rfl
theorem mlX7_148 : Cond.methodLink RX7 148 yX6_put ∈ pv_W := pv_t 605 (by decide +kernel) rfl
theorem mlX7_151 : Cond.methodLink RX7 151 yX4_ofDay ∈ pv_W := pv_t 606 (by decide +kernel) rfl
theorem mlX4_34 : Cond.methodLink RX4 34 yJ9_floorMod_7cf53 ∈ pv_W := pv_t 610 (by decide +kernel) rfl
theorem mlX7_154 : Cond.methodLink RX7 154 yX4_slot ∈ pv_W := pv_t 613 (by decide +kernel) rfl
theorem mlX7_157 : Cond.methodLink RX7 157 yX7_serveItem ∈ pv_W := pv_t 614 (by decide +kernel) rfl
theorem mlX7_169 : Cond.methodLink RX7 169 yX4_has ∈ pv_W := pv_t 618 (by decide +kernel) rfl
theorem mlX4_30 : Cond.methodLink RX4 30 yX6_at ∈ pv_W := pv_t 622 (by decide +kernel) rfl
theorem mlX7_180 : Cond.methodLink RX7 180 yX7_eatOf ∈ pv_W := pv_t 623 (by decide +kernel) rfl
theorem mlX7_183 : Cond.methodLink RX7 183 yX7_nextToEat ∈ pv_W := pv_t 627 (by decide +kernel) rfl
theorem mlX7_119 : Cond.methodLink RX7 119 yJ9_min_7cf53 ∈ pv_W := pv_t 631 (by decide +kernel) rfl
theorem mlX7_103 : Cond.methodLink RX7 103 yX6_add ∈ pv_W := pv_t 634 (by decide +kernel) rfl
theorem mlX6_13 : Cond.methodLink RX6 13 yX6_at ∈ pv_W := pv_t 638 (by decide +kernel) rfl
theorem mlX6_17 : Cond.methodLink RX6 17 yX6_put ∈ pv_W := pv_t 639 (by decide +kernel) rfl
theorem mlX7_163 : Cond.methodLink RX7 163 yX7_ageLots ∈ pv_W := pv_t 640 (by decide +kernel) rfl
theorem mlX7_88 : Cond.methodLink RX7 88 yX7_lifeNow ∈ pv_W := pv_t 644 (by decide +kernel) rfl
theorem mlX7_193 : Cond.methodLink RX7 193 yX2_dropEmpty ∈ pv_W := pv_t 648 (by decide +kernel) rfl
theorem mlX2_48 : Cond.methodLink RX2 48 yX2_copyLot ∈ pv_W := pv_t 652 (by decide +kernel) rfl
theorem mlX2_33 : Cond.methodLink RX2 33 yX6_put ∈ pv_W := pv_t 656 (by decide +kernel) rfl
theorem mlX7_166 : Cond.methodLink RX7 166 yX8_endDay ∈ pv_W := pv_t 657 (by decide +kernel) rfl
theorem mlX8_26 : Cond.methodLink RX8 26 yX6_at ∈ pv_W := pv_t 661 (by decide +kernel) rfl
theorem mlX8_30 : Cond.methodLink RX8 30 yX6_add ∈ pv_W := pv_t 662 (by decide +kernel) rfl
theorem mlX9_354 : Cond.methodLink RX9 354 yX9_bestStore ∈ pv_W := pv_t 663 (by decide +kernel) rfl
theorem mlX9_325 : Cond.methodLink RX9 325 yX7_lifeNow ∈ pv_W := pv_t 667 (by decide +kernel) rfl
theorem mlX9_357 : Cond.methodLink RX9 357 yX9_port ∈ pv_W := pv_t 668 (by decide +kernel) rfl
theorem mlX9_138 : Cond.methodLink RX9 138 yX9_requirePort ∈ pv_W := pv_t 672 (by decide +kernel) rfl
theorem mlX9_33 : Cond.methodLink RX9 33 yX9_requireWithin ∈ pv_W := pv_t 677 (by decide +kernel) rfl
theorem mlX9_150 : Cond.methodLink RX9 150 yX5_priceOf ∈ pv_W := pv_t 681 (by decide +kernel) rfl
theorem mlX9_360 : Cond.methodLink RX9 360 yX9_menu ∈ pv_W := pv_t 685 (by decide +kernel) rfl
theorem mlX9_290 : Cond.methodLink RX9 290 yX4_slot ∈ pv_W := pv_t 690 (by decide +kernel) rfl
theorem mlX9_293 : Cond.methodLink RX9 293 yX4_has ∈ pv_W := pv_t 691 (by decide +kernel) rfl
theorem mlX9_206 : Cond.methodLink RX9 206 yX7_passDays ∈ pv_W := pv_t 693 (by decide +kernel) rfl
theorem mlX9_319 : Cond.methodLink RX9 319 yX9_outcomeOfTrial ∈ pv_W := pv_t 697 (by decide +kernel) rfl
theorem mlX9_203 : Cond.methodLink RX9 203 yX6_sum ∈ pv_W := pv_t 701 (by decide +kernel) rfl
theorem mlX9_363 : Cond.methodLink RX9 363 yX9_meanAge ∈ pv_W := pv_t 705 (by decide +kernel) rfl
theorem mlX9_367 : Cond.methodLink RX9 367 yX9_bitsOf ∈ pv_W := pv_t 706 (by decide +kernel) rfl
theorem mlL_107 : Cond.methodLink RL 107 yL_addKind ∈ pv_W := pv_t 712 (by decide +kernel) rfl
theorem mlL_7 : Cond.methodLink RL 7 yX9_addKind ∈ pv_W := pv_t 717 (by decide +kernel) rfl
theorem mlX9_54 : Cond.methodLink RX9 54 yX0_save ∈ pv_W := pv_t 737 (by decide +kernel) rfl
theorem mlX0_25 : Cond.methodLink RX0 25 yX0_stateAt ∈ pv_W := pv_t 741 (by decide +kernel) rfl
theorem mlX0_29 : Cond.methodLink RX0 29 yX7_become ∈ pv_W := pv_t 745 (by decide +kernel) rfl
theorem mlX9_58 : Cond.methodLink RX9 58 yX1_addOne ∈ pv_W := pv_t 746 (by decide +kernel) rfl
theorem mlX1_39 : Cond.methodLink RX1 39 yX6_put ∈ pv_W := pv_t 750 (by decide +kernel) rfl
theorem mlL_116 : Cond.methodLink RL 116 yL_setRoom ∈ pv_W := pv_t 751 (by decide +kernel) rfl
theorem mlL_17 : Cond.methodLink RL 17 yX9_setRoom ∈ pv_W := pv_t 755 (by decide +kernel) rfl
theorem mlX9_93 : Cond.methodLink RX9 93 yX6_put ∈ pv_W := pv_t 760 (by decide +kernel) rfl
theorem mlL_120 : Cond.methodLink RL 120 yL_warm ∈ pv_W := pv_t 761 (by decide +kernel) rfl
theorem mlL_23 : Cond.methodLink RL 23 yX9_warm ∈ pv_W := pv_t 764 (by decide +kernel) rfl
theorem mlL_123 : Cond.methodLink RL 123 yL_setCrew ∈ pv_W := pv_t 769 (by decide +kernel) rfl
theorem mlL_26 : Cond.methodLink RL 26 yX9_setCrew ∈ pv_W := pv_t 772 (by decide +kernel) rfl
theorem mlL_127 : Cond.methodLink RL 127 yL_pay ∈ pv_W := pv_t 776 (by decide +kernel) rfl
theorem mlL_30 : Cond.methodLink RL 30 yX9_pay ∈ pv_W := pv_t 779 (by decide +kernel) rfl
theorem mlL_130 : Cond.methodLink RL 130 yL_addPort ∈ pv_W := pv_t 785 (by decide +kernel) rfl
theorem mlL_33 : Cond.methodLink RL 33 yX9_addPort ∈ pv_W := pv_t 788 (by decide +kernel) rfl
theorem mlX9_134 : Cond.methodLink RX9 134 yX5_insert ∈ pv_W := pv_t 793 (by decide +kernel) rfl
theorem mlX5_38 : Cond.methodLink RX5 38 yX5_after ∈ pv_W := pv_t 797 (by decide +kernel) rfl
theorem mlX5_41 : Cond.methodLink RX5 41 yX5_copyPort ∈ pv_W := pv_t 798 (by decide +kernel) rfl
theorem mlX5_34 : Cond.methodLink RX5 34 yX6_put ∈ pv_W := pv_t 802 (by decide +kernel) rfl
theorem mlX5_48 : Cond.methodLink RX5 48 yX5_priceOf ∈ pv_W := pv_t 803 (by decide +kernel) rfl
theorem mlX5_44 : Cond.methodLink RX5 44 yX5_putPrice ∈ pv_W := pv_t 804 (by decide +kernel) rfl
theorem mlL_133 : Cond.methodLink RL 133 yL_removePort ∈ pv_W := pv_t 808 (by decide +kernel) rfl
theorem mlL_36 : Cond.methodLink RL 36 yX9_removePort ∈ pv_W := pv_t 811 (by decide +kernel) rfl
theorem mlX9_144 : Cond.methodLink RX9 144 yX5_takeOut ∈ pv_W := pv_t 815 (by decide +kernel) rfl
theorem mlL_136 : Cond.methodLink RL 136 yL_setPrice ∈ pv_W := pv_t 819 (by decide +kernel) rfl
theorem mlL_39 : Cond.methodLink RL 39 yX9_setPrice ∈ pv_W := pv_t 822 (by decide +kernel) rfl
theorem mlX9_153 : Cond.methodLink RX9 153 yX5_putPrice ∈ pv_W := pv_t 826 (by decide +kernel) rfl
theorem mlL_139 : Cond.methodLink RL 139 yL_buy ∈ pv_W := pv_t 827 (by decide +kernel) rfl
theorem mlL_42 : Cond.methodLink RL 42 yX9_buy ∈ pv_W := pv_t 830 (by decide +kernel) rfl
theorem mlX9_156 : Cond.methodLink RX9 156 yX7_refusal ∈ pv_W := pv_t 834 (by decide +kernel) rfl
theorem mlX7_82 : Cond.methodLink RX7 82 yX5_onDay ∈ pv_W := pv_t 838 (by decide +kernel) rfl
theorem mlX7_85 : Cond.methodLink RX7 85 yX5_priceOf ∈ pv_W := pv_t 839 (by decide +kernel) rfl
theorem mlX7_91 : Cond.methodLink RX7 91 yX7_roomLeft ∈ pv_W := pv_t 840 (by decide +kernel) rfl
theorem mlX7_76 : Cond.methodLink RX7 76 yX2_rationsIn ∈ pv_W := pv_t 844 (by decide +kernel) rfl
theorem mlX9_161 : Cond.methodLink RX9 161 yX7_purchase ∈ pv_W := pv_t 846 (by decide +kernel) rfl
theorem mlX7_110 : Cond.methodLink RX7 110 yX2_addOne ∈ pv_W := pv_t 850 (by decide +kernel) rfl
theorem mlL_142 : Cond.methodLink RL 142 yL_move ∈ pv_W := pv_t 854 (by decide +kernel) rfl
theorem mlL_45 : Cond.methodLink RL 45 yX9_move ∈ pv_W := pv_t 857 (by decide +kernel) rfl
theorem mlX9_175 : Cond.methodLink RX9 175 yX7_roomLeft ∈ pv_W := pv_t 862 (by decide +kernel) rfl
theorem mlX9_181 : Cond.methodLink RX9 181 yX2_split ∈ pv_W := pv_t 864 (by decide +kernel) rfl
theorem mlX2_37 : Cond.methodLink RX2 37 yX6_add ∈ pv_W := pv_t 868 (by decide +kernel) rfl
theorem mlX2_44 : Cond.methodLink RX2 44 yX2_addOne ∈ pv_W := pv_t 869 (by decide +kernel) rfl
theorem mlL_145 : Cond.methodLink RL 145 yL_discard ∈ pv_W := pv_t 870 (by decide +kernel) rfl
theorem mlL_48 : Cond.methodLink RL 48 yX9_discard ∈ pv_W := pv_t 873 (by decide +kernel) rfl
theorem mlX9_190 : Cond.methodLink RX9 190 yX6_add ∈ pv_W := pv_t 877 (by decide +kernel) rfl
theorem mlX9_193 : Cond.methodLink RX9 193 yX2_dropEmpty ∈ pv_W := pv_t 878 (by decide +kernel) rfl
theorem mlL_148 : Cond.methodLink RL 148 yL_pass ∈ pv_W := pv_t 879 (by decide +kernel) rfl
theorem mlL_51 : Cond.methodLink RL 51 yX9_pass ∈ pv_W := pv_t 882 (by decide +kernel) rfl
theorem mlL_151 : Cond.methodLink RL 151 yL_append ∈ pv_W := pv_t 886 (by decide +kernel) rfl
theorem mlL_54 : Cond.methodLink RL 54 yX9_append ∈ pv_W := pv_t 889 (by decide +kernel) rfl
theorem mlL_162 : Cond.methodLink RL 162 yL_load ∈ pv_W := pv_t 894 (by decide +kernel) rfl
theorem mlL_57 : Cond.methodLink RL 57 yX9_load ∈ pv_W := pv_t 897 (by decide +kernel) rfl
theorem mlX9_220 : Cond.methodLink RX9 220 yX3_isComplete ∈ pv_W := pv_t 901 (by decide +kernel) rfl
theorem mlX9_236 : Cond.methodLink RX9 236 yX4_become ∈ pv_W := pv_t 907 (by decide +kernel) rfl
theorem mlL_166 : Cond.methodLink RL 166 yL_undo ∈ pv_W := pv_t 908 (by decide +kernel) rfl
theorem mlL_61 : Cond.methodLink RL 61 yX9_undo ∈ pv_W := pv_t 911 (by decide +kernel) rfl
theorem mlX9_246 : Cond.methodLink RX9 246 yX0_restore ∈ pv_W := pv_t 916 (by decide +kernel) rfl
theorem mlL_169 : Cond.methodLink RL 169 yL_lot ∈ pv_W := pv_t 920 (by decide +kernel) rfl
theorem mlL_64 : Cond.methodLink RL 64 yX9_lot ∈ pv_W := pv_t 923 (by decide +kernel) rfl
theorem mlL_172 : Cond.methodLink RL 172 yL_store ∈ pv_W := pv_t 924 (by decide +kernel) rfl
theorem mlL_67 : Cond.methodLink RL 67 yX9_store ∈ pv_W := pv_t 927 (by decide +kernel) rfl
theorem mlL_175 : Cond.methodLink RL 175 yL_kind ∈ pv_W := pv_t 928 (by decide +kernel) rfl
theorem mlL_70 : Cond.methodLink RL 70 yX9_kind ∈ pv_W := pv_t 931 (by decide +kernel) rfl
theorem mlL_178 : Cond.methodLink RL 178 yL_port ∈ pv_W := pv_t 932 (by decide +kernel) rfl
theorem mlL_73 : Cond.methodLink RL 73 yX9_port ∈ pv_W := pv_t 935 (by decide +kernel) rfl
theorem mlL_181 : Cond.methodLink RL 181 yL_menu ∈ pv_W := pv_t 936 (by decide +kernel) rfl
theorem mlL_76 : Cond.methodLink RL 76 yX9_menu ∈ pv_W := pv_t 939 (by decide +kernel) rfl
theorem mlL_184 : Cond.methodLink RL 184 yL_count ∈ pv_W := pv_t 940 (by decide +kernel) rfl
theorem mlL_79 : Cond.methodLink RL 79 yX9_count ∈ pv_W := pv_t 943 (by decide +kernel) rfl
theorem mlL_187 : Cond.methodLink RL 187 yL_why ∈ pv_W := pv_t 944 (by decide +kernel) rfl
theorem mlL_82 : Cond.methodLink RL 82 yX9_why ∈ pv_W := pv_t 947 (by decide +kernel) rfl
theorem mlL_190 : Cond.methodLink RL 190 yL_ifPass ∈ pv_W := pv_t 951 (by decide +kernel) rfl
theorem mlL_85 : Cond.methodLink RL 85 yX9_ifPass ∈ pv_W := pv_t 954 (by decide +kernel) rfl
theorem mlL_193 : Cond.methodLink RL 193 yL_spoils ∈ pv_W := pv_t 958 (by decide +kernel) rfl
theorem mlL_88 : Cond.methodLink RL 88 yX9_spoils ∈ pv_W := pv_t 961 (by decide +kernel) rfl
theorem mlL_196 : Cond.methodLink RL 196 yL_shortIn ∈ pv_W := pv_t 965 (by decide +kernel) rfl
theorem mlL_91 : Cond.methodLink RL 91 yX9_shortIn ∈ pv_W := pv_t 968 (by decide +kernel) rfl
theorem mlL_199 : Cond.methodLink RL 199 yL_bestStore ∈ pv_W := pv_t 972 (by decide +kernel) rfl
theorem mlL_94 : Cond.methodLink RL 94 yX9_bestStore ∈ pv_W := pv_t 975 (by decide +kernel) rfl
theorem mlL_202 : Cond.methodLink RL 202 yL_leastPurchase ∈ pv_W := pv_t 976 (by decide +kernel) rfl
theorem mlL_97 : Cond.methodLink RL 97 yX9_leastPurchase ∈ pv_W := pv_t 979 (by decide +kernel) rfl
theorem mlX9_328 : Cond.methodLink RX9 328 yX7_daysToNextPort ∈ pv_W := pv_t 983 (by decide +kernel) rfl
theorem mlX7_114 : Cond.methodLink RX7 114 yX5_after ∈ pv_W := pv_t 987 (by decide +kernel) rfl
theorem mlX9_331 : Cond.methodLink RX9 331 yX2_addOne ∈ pv_W := pv_t 988 (by decide +kernel) rfl
theorem mlL_205 : Cond.methodLink RL 205 yL_cheapest ∈ pv_W := pv_t 989 (by decide +kernel) rfl
theorem mlL_100 : Cond.methodLink RL 100 yX9_cheapest ∈ pv_W := pv_t 992 (by decide +kernel) rfl
theorem mlL_106 : Cond.methodLink RL 106 yX10_init ∈ pv_W := pv_t 998 (by decide +kernel) rfl
theorem mlX10_1 : Cond.methodLink RX10 1 objectInit ∈ pv_W := pv_t 1001 (by decide +kernel) rfl
theorem mlL_113 : Cond.methodLink RL 113 yX10_thrown ∈ pv_W := pv_t 1042 (by decide +kernel) rfl
theorem mlL_112 : Cond.methodLink RL 112 yX10_addKind ∈ pv_W := pv_t 1046 (by decide +kernel) rfl
theorem mlX10_46 : Cond.methodLink RX10 46 yX10_isLife ∈ pv_W := pv_t 1050 (by decide +kernel) rfl
theorem mlX10_35 : Cond.methodLink RX10 35 yX10_within ∈ pv_W := pv_t 1053 (by decide +kernel) rfl
theorem mlX10_50 : Cond.methodLink RX10 50 yX10_save ∈ pv_W := pv_t 1056 (by decide +kernel) rfl
theorem mlX10_42 : Cond.methodLink RX10 42 yX10_copy ∈ pv_W := pv_t 1060 (by decide +kernel) rfl
theorem mlL_119 : Cond.methodLink RL 119 yX10_setRoom ∈ pv_W := pv_t 1063 (by decide +kernel) rfl
theorem mlX10_57 : Cond.methodLink RX10 57 yX10_isStore ∈ pv_W := pv_t 1067 (by decide +kernel) rfl
theorem mlX10_60 : Cond.methodLink RX10 60 yX10_inStore ∈ pv_W := pv_t 1070 (by decide +kernel) rfl
theorem mlX10_53 : Cond.methodLink RX10 53 yX10_of ∈ pv_W := pv_t 1074 (by decide +kernel) rfl
theorem mlL_122 : Cond.methodLink RL 122 yX10_warm ∈ pv_W := pv_t 1078 (by decide +kernel) rfl
theorem mlL_126 : Cond.methodLink RL 126 yX10_setCrew ∈ pv_W := pv_t 1082 (by decide +kernel) rfl
theorem mlL_129 : Cond.methodLink RL 129 yX10_pay ∈ pv_W := pv_t 1086 (by decide +kernel) rfl
theorem mlL_132 : Cond.methodLink RL 132 yX10_addPort ∈ pv_W := pv_t 1091 (by decide +kernel) rfl
theorem mlX10_66 : Cond.methodLink RX10 66 yX10_portOf ∈ pv_W := pv_t 1095 (by decide +kernel) rfl
theorem mlL_135 : Cond.methodLink RL 135 yX10_removePort ∈ pv_W := pv_t 1099 (by decide +kernel) rfl
theorem mlX10_69 : Cond.methodLink RX10 69 yX10_isPort ∈ pv_W := pv_t 1103 (by decide +kernel) rfl
theorem mlL_138 : Cond.methodLink RL 138 yX10_setPrice ∈ pv_W := pv_t 1107 (by decide +kernel) rfl
theorem mlX10_72 : Cond.methodLink RX10 72 yX10_isKind ∈ pv_W := pv_t 1111 (by decide +kernel) rfl
theorem mlL_141 : Cond.methodLink RL 141 yX10_buy ∈ pv_W := pv_t 1115 (by decide +kernel) rfl
theorem mlX10_82 : Cond.methodLink RX10 82 yX10_isAmount ∈ pv_W := pv_t 1119 (by decide +kernel) rfl
theorem mlX10_85 : Cond.methodLink RX10 85 yX10_refusal ∈ pv_W := pv_t 1122 (by decide +kernel) rfl
theorem mlX10_75 : Cond.methodLink RX10 75 yX10_lifeIn ∈ pv_W := pv_t 1126 (by decide +kernel) rfl
theorem mlX10_88 : Cond.methodLink RX10 88 yX10_tally ∈ pv_W := pv_t 1130 (by decide +kernel) rfl
theorem mlX10_92 : Cond.methodLink RX10 92 yX10_putLot ∈ pv_W := pv_t 1134 (by decide +kernel) rfl
theorem mlL_144 : Cond.methodLink RL 144 yX10_move ∈ pv_W := pv_t 1138 (by decide +kernel) rfl
theorem mlX10_96 : Cond.methodLink RX10 96 yX10_isLot ∈ pv_W := pv_t 1142 (by decide +kernel) rfl
theorem mlL_147 : Cond.methodLink RL 147 yX10_discard ∈ pv_W := pv_t 1146 (by decide +kernel) rfl
theorem mlX10_99 : Cond.methodLink RX10 99 yX10_dropEmpty ∈ pv_W := pv_t 1150 (by decide +kernel) rfl
theorem mlX10_102 : Cond.methodLink RX10 102 yX10_rations ∈ pv_W := pv_t 1154 (by decide +kernel) rfl
theorem mlL_150 : Cond.methodLink RL 150 yX10_pass ∈ pv_W := pv_t 1158 (by decide +kernel) rfl
theorem mlX10_125 : Cond.methodLink RX10 125 yX10_all ∈ pv_W := pv_t 1162 (by decide +kernel) rfl
theorem mlX10_128 : Cond.methodLink RX10 128 yX10_passDays ∈ pv_W := pv_t 1166 (by decide +kernel) rfl
theorem mlX10_122 : Cond.methodLink RX10 122 yX10_passDay ∈ pv_W := pv_t 1170 (by decide +kernel) rfl
theorem mlX10_115 : Cond.methodLink RX10 115 yX10_serve ∈ pv_W := pv_t 1174 (by decide +kernel) rfl
theorem mlX10_109 : Cond.methodLink RX10 109 yX10_daysLeft ∈ pv_W := pv_t 1178 (by decide +kernel) rfl
theorem mlX10_79 : Cond.methodLink RX10 79 yX10_ages ∈ pv_W := pv_t 1182 (by decide +kernel) rfl
theorem mlX10_112 : Cond.methodLink RX10 112 yX10_eat ∈ pv_W := pv_t 1186 (by decide +kernel) rfl
theorem mlX10_106 : Cond.methodLink RX10 106 yX10_nextLot ∈ pv_W := pv_t 1190 (by decide +kernel) rfl
theorem mlX10_119 : Cond.methodLink RX10 119 yX10_age ∈ pv_W := pv_t 1194 (by decide +kernel) rfl
theorem mlL_153 : Cond.methodLink RL 153 yX10_append ∈ pv_W := pv_t 1198 (by decide +kernel) rfl
theorem mlL_157 : Cond.methodLink RL 157 yX10_clearBuffer ∈ pv_W := pv_t 1202 (by decide +kernel) rfl
theorem mlL_161 : Cond.methodLink RL 161 yX10_firstError ∈ pv_W := pv_t 1206 (by decide +kernel) rfl
theorem mlX10_150 : Cond.methodLink RX10 150 yX10_rightLength ∈ pv_W := pv_t 1210 (by decide +kernel) rfl
theorem mlX10_147 : Cond.methodLink RX10 147 yX10_takes ∈ pv_W := pv_t 1214 (by decide +kernel) rfl
theorem mlX10_138 : Cond.methodLink RX10 138 yX10_takesItem ∈ pv_W := pv_t 1218 (by decide +kernel) rfl
theorem mlX10_141 : Cond.methodLink RX10 141 yX10_goesOn ∈ pv_W := pv_t 1222 (by decide +kernel) rfl
theorem mlL_165 : Cond.methodLink RL 165 yX10_load ∈ pv_W := pv_t 1226 (by decide +kernel) rfl
theorem mlX10_153 : Cond.methodLink RX10 153 yX10_areKinds ∈ pv_W := pv_t 1230 (by decide +kernel) rfl
theorem mlL_168 : Cond.methodLink RL 168 yX10_undo ∈ pv_W := pv_t 1234 (by decide +kernel) rfl
theorem mlL_171 : Cond.methodLink RL 171 yX10_lot ∈ pv_W := pv_t 1238 (by decide +kernel) rfl
theorem mlX10_159 : Cond.methodLink RX10 159 yX10_lotNow ∈ pv_W := pv_t 1242 (by decide +kernel) rfl
theorem mlX10_156 : Cond.methodLink RX10 156 yX10_placeOf ∈ pv_W := pv_t 1246 (by decide +kernel) rfl
theorem mlL_174 : Cond.methodLink RL 174 yX10_store ∈ pv_W := pv_t 1250 (by decide +kernel) rfl
theorem mlX10_165 : Cond.methodLink RX10 165 yX10_storeNow ∈ pv_W := pv_t 1254 (by decide +kernel) rfl
theorem mlX10_162 : Cond.methodLink RX10 162 yX10_lotsWith ∈ pv_W := pv_t 1258 (by decide +kernel) rfl
theorem mlL_177 : Cond.methodLink RL 177 yX10_kind ∈ pv_W := pv_t 1262 (by decide +kernel) rfl
theorem mlX10_171 : Cond.methodLink RX10 171 yX10_kindNow ∈ pv_W := pv_t 1266 (by decide +kernel) rfl
theorem mlX10_168 : Cond.methodLink RX10 168 yX10_inLots ∈ pv_W := pv_t 1270 (by decide +kernel) rfl
theorem mlL_180 : Cond.methodLink RL 180 yX10_port ∈ pv_W := pv_t 1274 (by decide +kernel) rfl
theorem mlL_183 : Cond.methodLink RL 183 yX10_menu ∈ pv_W := pv_t 1278 (by decide +kernel) rfl
theorem mlX10_174 : Cond.methodLink RX10 174 yX10_menuNow ∈ pv_W := pv_t 1282 (by decide +kernel) rfl
theorem mlL_186 : Cond.methodLink RL 186 yX10_count ∈ pv_W := pv_t 1286 (by decide +kernel) rfl
theorem mlX10_180 : Cond.methodLink RX10 180 yX10_counted ∈ pv_W := pv_t 1290 (by decide +kernel) rfl
theorem mlX10_177 : Cond.methodLink RX10 177 yX10_nextPort ∈ pv_W := pv_t 1294 (by decide +kernel) rfl
theorem mlL_189 : Cond.methodLink RL 189 yX10_why ∈ pv_W := pv_t 1298 (by decide +kernel) rfl
theorem mlL_192 : Cond.methodLink RL 192 yX10_ifPass ∈ pv_W := pv_t 1302 (by decide +kernel) rfl
theorem mlX10_183 : Cond.methodLink RX10 183 yX10_isDays ∈ pv_W := pv_t 1306 (by decide +kernel) rfl
theorem mlX10_186 : Cond.methodLink RX10 186 yX10_ahead ∈ pv_W := pv_t 1309 (by decide +kernel) rfl
theorem mlL_195 : Cond.methodLink RL 195 yX10_spoils ∈ pv_W := pv_t 1313 (by decide +kernel) rfl
theorem mlL_198 : Cond.methodLink RL 198 yX10_shortIn ∈ pv_W := pv_t 1317 (by decide +kernel) rfl
theorem mlX10_192 : Cond.methodLink RX10 192 yX10_shortNow ∈ pv_W := pv_t 1321 (by decide +kernel) rfl
theorem mlX10_189 : Cond.methodLink RX10 189 yX10_firstShort ∈ pv_W := pv_t 1325 (by decide +kernel) rfl
theorem mlL_201 : Cond.methodLink RL 201 yX10_bestStore ∈ pv_W := pv_t 1329 (by decide +kernel) rfl
theorem mlX10_195 : Cond.methodLink RX10 195 yX10_bestNow ∈ pv_W := pv_t 1333 (by decide +kernel) rfl
theorem mlL_204 : Cond.methodLink RL 204 yX10_leastPurchase ∈ pv_W := pv_t 1337 (by decide +kernel) rfl
theorem mlL_207 : Cond.methodLink RL 207 yX10_cheapest ∈ pv_W := pv_t 1341 (by decide +kernel) rfl
theorem mlL_212 : Cond.methodLink RL 212 yX10_meanAge ∈ pv_W := pv_t 1345 (by decide +kernel) rfl
theorem mlX10_198 : Cond.methodLink RX10 198 yX10_meanNow ∈ pv_W := pv_t 1349 (by decide +kernel) rfl
theorem mlL_217 : Cond.methodLink RL 217 yX10_digest ∈ pv_W := pv_t 1353 (by decide +kernel) rfl
theorem mlX10_208 : Cond.methodLink RX10 208 yX10_mix ∈ pv_W := pv_t 1358 (by decide +kernel) rfl
theorem mlX10_214 : Cond.methodLink RX10 214 yX10_mixKinds ∈ pv_W := pv_t 1363 (by decide +kernel) rfl
theorem mlX10_217 : Cond.methodLink RX10 217 yX10_mixPorts ∈ pv_W := pv_t 1367 (by decide +kernel) rfl
theorem mlX10_220 : Cond.methodLink RX10 220 yJxe99ae_doubleToLongBits_ccdee ∈ pv_W := pv_t 1371 (by decide +kernel) rfl
theorem mlJxe99ae_122 : Cond.methodLink RJxe99ae 122 yJxe99ae_isNaN_b9ae7 ∈ pv_W := pv_t 1374 (by decide +kernel) rfl
