/-! Links: what each entry of a class names, and the methods. -/
theorem pv_t {w : Cond} (i : Nat) (h : tables_1[i]? = some w) (g : goodWord w = true) : w ∈ pv_W := pv_in (List.mem_append_right _ (List.mem_of_getElem? h)) g
theorem pv_ts {w : Cond} (i : Nat) (h : (k2_sels lw_privs)[i]? = some w) (g : goodWord w = true) : w ∈ pv_W := pv_in (List.mem_append_left _ (List.mem_of_getElem? h)) g
theorem flX6_7 : pv_fld RX6 7 6 0 (.array .int) := ⟨_, _, _, rfl, by decide, pv_t 45 (by decide +kernel) rfl, by decide +kernel⟩
theorem ffX6_7 : pv_fldF RX6 7 6 0 (.array .int) := ⟨_, _, _, rfl, by decide, pv_t 45 (by decide +kernel) rfl, by decide +kernel, rfl, rfl⟩
theorem flX1_35 : pv_fld RX1 35 1 0 (.int) := ⟨_, _, _, rfl, by decide, pv_t 50 (by decide +kernel) rfl, by decide +kernel⟩
theorem fwX1_35 : pv_fldW RX1 35 1 0 (.int) := ⟨_, _, _, rfl, by decide, pv_t 50 (by decide +kernel) rfl, by decide +kernel, rfl⟩
theorem flX9_41 : pv_fld RX9 41 1 0 (.int) := ⟨_, _, _, rfl, by decide, pv_t 51 (by decide +kernel) rfl, by decide +kernel⟩
theorem fwX9_41 : pv_fldW RX9 41 1 0 (.int) := ⟨_, _, _, rfl, by decide, pv_t 51 (by decide +kernel) rfl, by decide +kernel, rfl⟩
theorem flX1_14 : pv_fld RX1 14 1 1 (.object "ShipStores$Row") := ⟨_, _, _, rfl, by decide, pv_t 52 (by decide +kernel) rfl, by decide +kernel⟩
theorem ffX1_14 : pv_fldF RX1 14 1 1 (.object "ShipStores$Row") := ⟨_, _, _, rfl, by decide, pv_t 52 (by decide +kernel) rfl, by decide +kernel, rfl, rfl⟩
theorem flX1_20 : pv_fld RX1 20 1 2 (.object "ShipStores$Row") := ⟨_, _, _, rfl, by decide, pv_t 53 (by decide +kernel) rfl, by decide +kernel⟩
theorem ffX1_20 : pv_fldF RX1 20 1 2 (.object "ShipStores$Row") := ⟨_, _, _, rfl, by decide, pv_t 53 (by decide +kernel) rfl, by decide +kernel, rfl, rfl⟩
theorem flX7_100 : pv_fld RX7 100 1 2 (.object "ShipStores$Row") := ⟨_, _, _, rfl, by decide, pv_t 54 (by decide +kernel) rfl, by decide +kernel⟩
theorem flX9_268 : pv_fld RX9 268 1 2 (.object "ShipStores$Row") := ⟨_, _, _, rfl, by decide, pv_t 55 (by decide +kernel) rfl, by decide +kernel⟩
theorem flX1_23 : pv_fld RX1 23 1 3 (.object "ShipStores$Row") := ⟨_, _, _, rfl, by decide, pv_t 56 (by decide +kernel) rfl, by decide +kernel⟩
theorem ffX1_23 : pv_fldF RX1 23 1 3 (.object "ShipStores$Row") := ⟨_, _, _, rfl, by decide, pv_t 56 (by decide +kernel) rfl, by decide +kernel, rfl, rfl⟩
theorem flX7_187 : pv_fld RX7 187 1 3 (.object "ShipStores$Row") := ⟨_, _, _, rfl, by decide, pv_t 57 (by decide +kernel) rfl, by decide +kernel⟩
theorem flX9_271 : pv_fld RX9 271 1 3 (.object "ShipStores$Row") := ⟨_, _, _, rfl, by decide, pv_t 58 (by decide +kernel) rfl, by decide +kernel⟩
theorem flX1_26 : pv_fld RX1 26 1 4 (.object "ShipStores$Row") := ⟨_, _, _, rfl, by decide, pv_t 59 (by decide +kernel) rfl, by decide +kernel⟩
theorem ffX1_26 : pv_fldF RX1 26 1 4 (.object "ShipStores$Row") := ⟨_, _, _, rfl, by decide, pv_t 59 (by decide +kernel) rfl, by decide +kernel, rfl, rfl⟩
theorem flX9_200 : pv_fld RX9 200 1 4 (.object "ShipStores$Row") := ⟨_, _, _, rfl, by decide, pv_t 60 (by decide +kernel) rfl, by decide +kernel⟩
theorem flX7_190 : pv_fld RX7 190 1 4 (.object "ShipStores$Row") := ⟨_, _, _, rfl, by decide, pv_t 61 (by decide +kernel) rfl, by decide +kernel⟩
theorem flX1_29 : pv_fld RX1 29 1 5 (.object "ShipStores$Row") := ⟨_, _, _, rfl, by decide, pv_t 62 (by decide +kernel) rfl, by decide +kernel⟩
theorem ffX1_29 : pv_fldF RX1 29 1 5 (.object "ShipStores$Row") := ⟨_, _, _, rfl, by decide, pv_t 62 (by decide +kernel) rfl, by decide +kernel, rfl, rfl⟩
theorem flX9_184 : pv_fld RX9 184 1 5 (.object "ShipStores$Row") := ⟨_, _, _, rfl, by decide, pv_t 63 (by decide +kernel) rfl, by decide +kernel⟩
theorem flX1_32 : pv_fld RX1 32 1 6 (.object "ShipStores$Row") := ⟨_, _, _, rfl, by decide, pv_t 64 (by decide +kernel) rfl, by decide +kernel⟩
theorem ffX1_32 : pv_fldF RX1 32 1 6 (.object "ShipStores$Row") := ⟨_, _, _, rfl, by decide, pv_t 64 (by decide +kernel) rfl, by decide +kernel, rfl, rfl⟩
theorem flX7_142 : pv_fld RX7 142 1 6 (.object "ShipStores$Row") := ⟨_, _, _, rfl, by decide, pv_t 65 (by decide +kernel) rfl, by decide +kernel⟩
theorem flX9_277 : pv_fld RX9 277 1 6 (.object "ShipStores$Row") := ⟨_, _, _, rfl, by decide, pv_t 66 (by decide +kernel) rfl, by decide +kernel⟩
theorem flX8_14 : pv_fld RX8 14 8 0 (.object "ShipStores$Row") := ⟨_, _, _, rfl, by decide, pv_t 94 (by decide +kernel) rfl, by decide +kernel⟩
theorem ffX8_14 : pv_fldF RX8 14 8 0 (.object "ShipStores$Row") := ⟨_, _, _, rfl, by decide, pv_t 94 (by decide +kernel) rfl, by decide +kernel, rfl, rfl⟩
theorem flX7_73 : pv_fld RX7 73 8 0 (.object "ShipStores$Row") := ⟨_, _, _, rfl, by decide, pv_t 95 (by decide +kernel) rfl, by decide +kernel⟩
theorem flX9_82 : pv_fld RX9 82 8 0 (.object "ShipStores$Row") := ⟨_, _, _, rfl, by decide, pv_t 96 (by decide +kernel) rfl, by decide +kernel⟩
theorem flX8_20 : pv_fld RX8 20 8 1 (.object "ShipStores$Row") := ⟨_, _, _, rfl, by decide, pv_t 97 (by decide +kernel) rfl, by decide +kernel⟩
theorem ffX8_20 : pv_fldF RX8 20 8 1 (.object "ShipStores$Row") := ⟨_, _, _, rfl, by decide, pv_t 97 (by decide +kernel) rfl, by decide +kernel, rfl, rfl⟩
theorem flX7_62 : pv_fld RX7 62 8 1 (.object "ShipStores$Row") := ⟨_, _, _, rfl, by decide, pv_t 98 (by decide +kernel) rfl, by decide +kernel⟩
theorem flX9_106 : pv_fld RX9 106 8 1 (.object "ShipStores$Row") := ⟨_, _, _, rfl, by decide, pv_t 99 (by decide +kernel) rfl, by decide +kernel⟩
theorem flX2_29 : pv_fld RX2 29 2 0 (.int) := ⟨_, _, _, rfl, by decide, pv_t 113 (by decide +kernel) rfl, by decide +kernel⟩
theorem fwX2_29 : pv_fldW RX2 29 2 0 (.int) := ⟨_, _, _, rfl, by decide, pv_t 113 (by decide +kernel) rfl, by decide +kernel, rfl⟩
theorem flX7_94 : pv_fld RX7 94 2 0 (.int) := ⟨_, _, _, rfl, by decide, pv_t 114 (by decide +kernel) rfl, by decide +kernel⟩
theorem fwX7_94 : pv_fldW RX7 94 2 0 (.int) := ⟨_, _, _, rfl, by decide, pv_t 114 (by decide +kernel) rfl, by decide +kernel, rfl⟩
theorem flX9_178 : pv_fld RX9 178 2 0 (.int) := ⟨_, _, _, rfl, by decide, pv_t 115 (by decide +kernel) rfl, by decide +kernel⟩
theorem fwX9_178 : pv_fldW RX9 178 2 0 (.int) := ⟨_, _, _, rfl, by decide, pv_t 115 (by decide +kernel) rfl, by decide +kernel, rfl⟩
theorem flX2_14 : pv_fld RX2 14 2 1 (.object "ShipStores$Row") := ⟨_, _, _, rfl, by decide, pv_t 116 (by decide +kernel) rfl, by decide +kernel⟩
theorem ffX2_14 : pv_fldF RX2 14 2 1 (.object "ShipStores$Row") := ⟨_, _, _, rfl, by decide, pv_t 116 (by decide +kernel) rfl, by decide +kernel, rfl, rfl⟩
theorem flX7_124 : pv_fld RX7 124 2 1 (.object "ShipStores$Row") := ⟨_, _, _, rfl, by decide, pv_t 117 (by decide +kernel) rfl, by decide +kernel⟩
theorem flX9_187 : pv_fld RX9 187 2 1 (.object "ShipStores$Row") := ⟨_, _, _, rfl, by decide, pv_t 118 (by decide +kernel) rfl, by decide +kernel⟩
theorem flX2_20 : pv_fld RX2 20 2 2 (.object "ShipStores$Row") := ⟨_, _, _, rfl, by decide, pv_t 119 (by decide +kernel) rfl, by decide +kernel⟩
theorem ffX2_20 : pv_fldF RX2 20 2 2 (.object "ShipStores$Row") := ⟨_, _, _, rfl, by decide, pv_t 119 (by decide +kernel) rfl, by decide +kernel, rfl, rfl⟩
theorem flX7_127 : pv_fld RX7 127 2 2 (.object "ShipStores$Row") := ⟨_, _, _, rfl, by decide, pv_t 120 (by decide +kernel) rfl, by decide +kernel⟩
theorem flX9_170 : pv_fld RX9 170 2 2 (.object "ShipStores$Row") := ⟨_, _, _, rfl, by decide, pv_t 121 (by decide +kernel) rfl, by decide +kernel⟩
theorem flX2_23 : pv_fld RX2 23 2 3 (.object "ShipStores$Row") := ⟨_, _, _, rfl, by decide, pv_t 122 (by decide +kernel) rfl, by decide +kernel⟩
theorem ffX2_23 : pv_fldF RX2 23 2 3 (.object "ShipStores$Row") := ⟨_, _, _, rfl, by decide, pv_t 122 (by decide +kernel) rfl, by decide +kernel, rfl, rfl⟩
theorem flX9_167 : pv_fld RX9 167 2 3 (.object "ShipStores$Row") := ⟨_, _, _, rfl, by decide, pv_t 123 (by decide +kernel) rfl, by decide +kernel⟩
theorem flX7_186 : pv_fld RX7 186 2 3 (.object "ShipStores$Row") := ⟨_, _, _, rfl, by decide, pv_t 124 (by decide +kernel) rfl, by decide +kernel⟩
theorem flX2_26 : pv_fld RX2 26 2 4 (.object "ShipStores$Row") := ⟨_, _, _, rfl, by decide, pv_t 125 (by decide +kernel) rfl, by decide +kernel⟩
theorem ffX2_26 : pv_fldF RX2 26 2 4 (.object "ShipStores$Row") := ⟨_, _, _, rfl, by decide, pv_t 125 (by decide +kernel) rfl, by decide +kernel, rfl, rfl⟩
theorem flX7_130 : pv_fld RX7 130 2 4 (.object "ShipStores$Row") := ⟨_, _, _, rfl, by decide, pv_t 126 (by decide +kernel) rfl, by decide +kernel⟩
theorem flX9_249 : pv_fld RX9 249 2 4 (.object "ShipStores$Row") := ⟨_, _, _, rfl, by decide, pv_t 127 (by decide +kernel) rfl, by decide +kernel⟩
theorem flX5_26 : pv_fld RX5 26 5 0 (.int) := ⟨_, _, _, rfl, by decide, pv_t 147 (by decide +kernel) rfl, by decide +kernel⟩
theorem fwX5_26 : pv_fldW RX5 26 5 0 (.int) := ⟨_, _, _, rfl, by decide, pv_t 147 (by decide +kernel) rfl, by decide +kernel, rfl⟩
theorem flX9_126 : pv_fld RX9 126 5 0 (.int) := ⟨_, _, _, rfl, by decide, pv_t 148 (by decide +kernel) rfl, by decide +kernel⟩
theorem fwX9_126 : pv_fldW RX9 126 5 0 (.int) := ⟨_, _, _, rfl, by decide, pv_t 148 (by decide +kernel) rfl, by decide +kernel, rfl⟩
theorem flX5_14 : pv_fld RX5 14 5 1 (.object "ShipStores$Row") := ⟨_, _, _, rfl, by decide, pv_t 149 (by decide +kernel) rfl, by decide +kernel⟩
theorem ffX5_14 : pv_fldF RX5 14 5 1 (.object "ShipStores$Row") := ⟨_, _, _, rfl, by decide, pv_t 149 (by decide +kernel) rfl, by decide +kernel, rfl, rfl⟩
theorem flX5_20 : pv_fld RX5 20 5 2 (.object "ShipStores$Row") := ⟨_, _, _, rfl, by decide, pv_t 150 (by decide +kernel) rfl, by decide +kernel⟩
theorem ffX5_20 : pv_fldF RX5 20 5 2 (.object "ShipStores$Row") := ⟨_, _, _, rfl, by decide, pv_t 150 (by decide +kernel) rfl, by decide +kernel, rfl, rfl⟩
theorem flX7_107 : pv_fld RX7 107 5 2 (.object "ShipStores$Row") := ⟨_, _, _, rfl, by decide, pv_t 151 (by decide +kernel) rfl, by decide +kernel⟩
theorem flX5_23 : pv_fld RX5 23 5 3 (.object "ShipStores$Row") := ⟨_, _, _, rfl, by decide, pv_t 152 (by decide +kernel) rfl, by decide +kernel⟩
theorem ffX5_23 : pv_fldF RX5 23 5 3 (.object "ShipStores$Row") := ⟨_, _, _, rfl, by decide, pv_t 152 (by decide +kernel) rfl, by decide +kernel, rfl, rfl⟩
theorem flX4_9 : pv_fld RX4 9 4 0 (.int) := ⟨_, _, _, rfl, by decide, pv_t 170 (by decide +kernel) rfl, by decide +kernel⟩
theorem fwX4_9 : pv_fldW RX4 9 4 0 (.int) := ⟨_, _, _, rfl, by decide, pv_t 170 (by decide +kernel) rfl, by decide +kernel, rfl⟩
theorem flX3_97 : pv_fld RX3 97 4 0 (.int) := ⟨_, _, _, rfl, by decide, pv_t 171 (by decide +kernel) rfl, by decide +kernel⟩
theorem fwX3_97 : pv_fldW RX3 97 4 0 (.int) := ⟨_, _, _, rfl, by decide, pv_t 171 (by decide +kernel) rfl, by decide +kernel, rfl⟩
theorem flX9_242 : pv_fld RX9 242 4 0 (.int) := ⟨_, _, _, rfl, by decide, pv_t 172 (by decide +kernel) rfl, by decide +kernel⟩
theorem fwX9_242 : pv_fldW RX9 242 4 0 (.int) := ⟨_, _, _, rfl, by decide, pv_t 172 (by decide +kernel) rfl, by decide +kernel, rfl⟩
theorem flX4_20 : pv_fld RX4 20 4 1 (.object "ShipStores$Row") := ⟨_, _, _, rfl, by decide, pv_t 173 (by decide +kernel) rfl, by decide +kernel⟩
theorem ffX4_20 : pv_fldF RX4 20 4 1 (.object "ShipStores$Row") := ⟨_, _, _, rfl, by decide, pv_t 173 (by decide +kernel) rfl, by decide +kernel, rfl, rfl⟩
theorem flX3_74 : pv_fld RX3 74 4 1 (.object "ShipStores$Row") := ⟨_, _, _, rfl, by decide, pv_t 174 (by decide +kernel) rfl, by decide +kernel⟩
theorem flX7_173 : pv_fld RX7 173 4 1 (.object "ShipStores$Row") := ⟨_, _, _, rfl, by decide, pv_t 175 (by decide +kernel) rfl, by decide +kernel⟩
theorem flX9_297 : pv_fld RX9 297 4 1 (.object "ShipStores$Row") := ⟨_, _, _, rfl, by decide, pv_t 176 (by decide +kernel) rfl, by decide +kernel⟩
theorem flX4_24 : pv_fld RX4 24 4 2 (.object "ShipStores$Row") := ⟨_, _, _, rfl, by decide, pv_t 177 (by decide +kernel) rfl, by decide +kernel⟩
theorem ffX4_24 : pv_fldF RX4 24 4 2 (.object "ShipStores$Row") := ⟨_, _, _, rfl, by decide, pv_t 177 (by decide +kernel) rfl, by decide +kernel, rfl, rfl⟩
theorem flX3_94 : pv_fld RX3 94 4 2 (.object "ShipStores$Row") := ⟨_, _, _, rfl, by decide, pv_t 178 (by decide +kernel) rfl, by decide +kernel⟩
theorem flX7_177 : pv_fld RX7 177 4 2 (.object "ShipStores$Row") := ⟨_, _, _, rfl, by decide, pv_t 179 (by decide +kernel) rfl, by decide +kernel⟩
theorem flX9_298 : pv_fld RX9 298 4 2 (.object "ShipStores$Row") := ⟨_, _, _, rfl, by decide, pv_t 180 (by decide +kernel) rfl, by decide +kernel⟩
theorem flX4_27 : pv_fld RX4 27 4 3 (.object "ShipStores$Row") := ⟨_, _, _, rfl, by decide, pv_t 181 (by decide +kernel) rfl, by decide +kernel⟩
theorem ffX4_27 : pv_fldF RX4 27 4 3 (.object "ShipStores$Row") := ⟨_, _, _, rfl, by decide, pv_t 181 (by decide +kernel) rfl, by decide +kernel, rfl, rfl⟩
theorem flX3_85 : pv_fld RX3 85 4 3 (.object "ShipStores$Row") := ⟨_, _, _, rfl, by decide, pv_t 182 (by decide +kernel) rfl, by decide +kernel⟩
theorem flX7_174 : pv_fld RX7 174 4 3 (.object "ShipStores$Row") := ⟨_, _, _, rfl, by decide, pv_t 183 (by decide +kernel) rfl, by decide +kernel⟩
theorem flX9_299 : pv_fld RX9 299 4 3 (.object "ShipStores$Row") := ⟨_, _, _, rfl, by decide, pv_t 184 (by decide +kernel) rfl, by decide +kernel⟩
theorem flX7_79 : pv_fld RX7 79 7 0 (.int) := ⟨_, _, _, rfl, by decide, pv_t 196 (by decide +kernel) rfl, by decide +kernel⟩
theorem fwX7_79 : pv_fldW RX7 79 7 0 (.int) := ⟨_, _, _, rfl, by decide, pv_t 196 (by decide +kernel) rfl, by decide +kernel, rfl⟩
theorem flX9_304 : pv_fld RX9 304 7 0 (.int) := ⟨_, _, _, rfl, by decide, pv_t 197 (by decide +kernel) rfl, by decide +kernel⟩
theorem fwX9_304 : pv_fldW RX9 304 7 0 (.int) := ⟨_, _, _, rfl, by decide, pv_t 197 (by decide +kernel) rfl, by decide +kernel, rfl⟩
theorem flX7_9 : pv_fld RX7 9 7 1 (.int) := ⟨_, _, _, rfl, by decide, pv_t 198 (by decide +kernel) rfl, by decide +kernel⟩
theorem fwX7_9 : pv_fldW RX7 9 7 1 (.int) := ⟨_, _, _, rfl, by decide, pv_t 198 (by decide +kernel) rfl, by decide +kernel, rfl⟩
theorem flX9_109 : pv_fld RX9 109 7 1 (.int) := ⟨_, _, _, rfl, by decide, pv_t 199 (by decide +kernel) rfl, by decide +kernel⟩
theorem fwX9_109 : pv_fldW RX9 109 7 1 (.int) := ⟨_, _, _, rfl, by decide, pv_t 199 (by decide +kernel) rfl, by decide +kernel, rfl⟩
theorem flX7_15 : pv_fld RX7 15 7 2 (.int) := ⟨_, _, _, rfl, by decide, pv_t 200 (by decide +kernel) rfl, by decide +kernel⟩
theorem fwX7_15 : pv_fldW RX7 15 7 2 (.int) := ⟨_, _, _, rfl, by decide, pv_t 200 (by decide +kernel) rfl, by decide +kernel, rfl⟩
theorem flX9_112 : pv_fld RX9 112 7 2 (.int) := ⟨_, _, _, rfl, by decide, pv_t 201 (by decide +kernel) rfl, by decide +kernel⟩
theorem fwX9_112 : pv_fldW RX9 112 7 2 (.int) := ⟨_, _, _, rfl, by decide, pv_t 201 (by decide +kernel) rfl, by decide +kernel, rfl⟩
theorem flX7_97 : pv_fld RX7 97 7 3 (.int) := ⟨_, _, _, rfl, by decide, pv_t 202 (by decide +kernel) rfl, by decide +kernel⟩
theorem fwX7_97 : pv_fldW RX7 97 7 3 (.int) := ⟨_, _, _, rfl, by decide, pv_t 202 (by decide +kernel) rfl, by decide +kernel, rfl⟩
theorem flX9_306 : pv_fld RX9 306 7 3 (.int) := ⟨_, _, _, rfl, by decide, pv_t 203 (by decide +kernel) rfl, by decide +kernel⟩
theorem fwX9_306 : pv_fldW RX9 306 7 3 (.int) := ⟨_, _, _, rfl, by decide, pv_t 203 (by decide +kernel) rfl, by decide +kernel, rfl⟩
theorem flX7_160 : pv_fld RX7 160 7 4 (.int) := ⟨_, _, _, rfl, by decide, pv_t 204 (by decide +kernel) rfl, by decide +kernel⟩
theorem fwX7_160 : pv_fldW RX7 160 7 4 (.int) := ⟨_, _, _, rfl, by decide, pv_t 204 (by decide +kernel) rfl, by decide +kernel, rfl⟩
theorem flX9_309 : pv_fld RX9 309 7 4 (.int) := ⟨_, _, _, rfl, by decide, pv_t 205 (by decide +kernel) rfl, by decide +kernel⟩
theorem fwX9_309 : pv_fldW RX9 309 7 4 (.int) := ⟨_, _, _, rfl, by decide, pv_t 205 (by decide +kernel) rfl, by decide +kernel, rfl⟩
theorem flX7_21 : pv_fld RX7 21 7 5 (.object "ShipStores$Kinds") := ⟨_, _, _, rfl, by decide, pv_t 206 (by decide +kernel) rfl, by decide +kernel⟩
theorem ffX7_21 : pv_fldF RX7 21 7 5 (.object "ShipStores$Kinds") := ⟨_, _, _, rfl, by decide, pv_t 206 (by decide +kernel) rfl, by decide +kernel, rfl, rfl⟩
theorem flX9_37 : pv_fld RX9 37 7 5 (.object "ShipStores$Kinds") := ⟨_, _, _, rfl, by decide, pv_t 207 (by decide +kernel) rfl, by decide +kernel⟩
theorem flX7_28 : pv_fld RX7 28 7 6 (.object "ShipStores$Stores") := ⟨_, _, _, rfl, by decide, pv_t 208 (by decide +kernel) rfl, by decide +kernel⟩
theorem ffX7_28 : pv_fldF RX7 28 7 6 (.object "ShipStores$Stores") := ⟨_, _, _, rfl, by decide, pv_t 208 (by decide +kernel) rfl, by decide +kernel, rfl, rfl⟩
theorem flX9_78 : pv_fld RX9 78 7 6 (.object "ShipStores$Stores") := ⟨_, _, _, rfl, by decide, pv_t 209 (by decide +kernel) rfl, by decide +kernel⟩
theorem flX7_35 : pv_fld RX7 35 7 7 (.object "ShipStores$Lots") := ⟨_, _, _, rfl, by decide, pv_t 210 (by decide +kernel) rfl, by decide +kernel⟩
theorem ffX7_35 : pv_fldF RX7 35 7 7 (.object "ShipStores$Lots") := ⟨_, _, _, rfl, by decide, pv_t 210 (by decide +kernel) rfl, by decide +kernel, rfl, rfl⟩
theorem flX9_66 : pv_fld RX9 66 7 7 (.object "ShipStores$Lots") := ⟨_, _, _, rfl, by decide, pv_t 211 (by decide +kernel) rfl, by decide +kernel⟩
theorem flX7_42 : pv_fld RX7 42 7 8 (.object "ShipStores$Ports") := ⟨_, _, _, rfl, by decide, pv_t 212 (by decide +kernel) rfl, by decide +kernel⟩
theorem ffX7_42 : pv_fldF RX7 42 7 8 (.object "ShipStores$Ports") := ⟨_, _, _, rfl, by decide, pv_t 212 (by decide +kernel) rfl, by decide +kernel, rfl, rfl⟩
theorem flX9_122 : pv_fld RX9 122 7 8 (.object "ShipStores$Ports") := ⟨_, _, _, rfl, by decide, pv_t 213 (by decide +kernel) rfl, by decide +kernel⟩
theorem flX7_49 : pv_fld RX7 49 7 9 (.object "ShipStores$Menus") := ⟨_, _, _, rfl, by decide, pv_t 214 (by decide +kernel) rfl, by decide +kernel⟩
theorem ffX7_49 : pv_fldF RX7 49 7 9 (.object "ShipStores$Menus") := ⟨_, _, _, rfl, by decide, pv_t 214 (by decide +kernel) rfl, by decide +kernel, rfl, rfl⟩
theorem flX9_231 : pv_fld RX9 231 7 9 (.object "ShipStores$Menus") := ⟨_, _, _, rfl, by decide, pv_t 215 (by decide +kernel) rfl, by decide +kernel⟩
theorem flX7_58 : pv_fld RX7 58 7 10 (.object "ShipStores$Row") := ⟨_, _, _, rfl, by decide, pv_t 216 (by decide +kernel) rfl, by decide +kernel⟩
theorem ffX7_58 : pv_fldF RX7 58 7 10 (.object "ShipStores$Row") := ⟨_, _, _, rfl, by decide, pv_t 216 (by decide +kernel) rfl, by decide +kernel, rfl, rfl⟩
theorem flX0_18 : pv_fld RX0 18 0 0 (.int) := ⟨_, _, _, rfl, by decide, pv_t 249 (by decide +kernel) rfl, by decide +kernel⟩
theorem fwX0_18 : pv_fldW RX0 18 0 0 (.int) := ⟨_, _, _, rfl, by decide, pv_t 249 (by decide +kernel) rfl, by decide +kernel, rfl⟩
theorem flX9_243 : pv_fld RX9 243 0 0 (.int) := ⟨_, _, _, rfl, by decide, pv_t 250 (by decide +kernel) rfl, by decide +kernel⟩
theorem fwX9_243 : pv_fldW RX9 243 0 0 (.int) := ⟨_, _, _, rfl, by decide, pv_t 250 (by decide +kernel) rfl, by decide +kernel, rfl⟩
theorem flX0_22 : pv_fld RX0 22 0 1 (.int) := ⟨_, _, _, rfl, by decide, pv_t 251 (by decide +kernel) rfl, by decide +kernel⟩
theorem fwX0_22 : pv_fldW RX0 22 0 1 (.int) := ⟨_, _, _, rfl, by decide, pv_t 251 (by decide +kernel) rfl, by decide +kernel, rfl⟩
theorem flX0_11 : pv_fld RX0 11 0 2 (.array (.object "ShipStores$Ship")) := ⟨_, _, _, rfl, by decide, pv_t 252 (by decide +kernel) rfl, by decide +kernel⟩
theorem ffX0_11 : pv_fldF RX0 11 0 2 (.array (.object "ShipStores$Ship")) := ⟨_, _, _, rfl, by decide, pv_t 252 (by decide +kernel) rfl, by decide +kernel, rfl, rfl⟩
theorem flX3_40 : pv_fld RX3 40 3 0 (.int) := ⟨_, _, _, rfl, by decide, pv_t 270 (by decide +kernel) rfl, by decide +kernel⟩
theorem fwX3_40 : pv_fldW RX3 40 3 0 (.int) := ⟨_, _, _, rfl, by decide, pv_t 270 (by decide +kernel) rfl, by decide +kernel, rfl⟩
theorem flX9_209 : pv_fld RX9 209 3 0 (.int) := ⟨_, _, _, rfl, by decide, pv_t 271 (by decide +kernel) rfl, by decide +kernel⟩
theorem fwX9_209 : pv_fldW RX9 209 3 0 (.int) := ⟨_, _, _, rfl, by decide, pv_t 271 (by decide +kernel) rfl, by decide +kernel, rfl⟩
theorem flX3_14 : pv_fld RX3 14 3 1 (.object "ShipStores$Row") := ⟨_, _, _, rfl, by decide, pv_t 272 (by decide +kernel) rfl, by decide +kernel⟩
theorem ffX3_14 : pv_fldF RX3 14 3 1 (.object "ShipStores$Row") := ⟨_, _, _, rfl, by decide, pv_t 272 (by decide +kernel) rfl, by decide +kernel, rfl, rfl⟩
theorem flX9_214 : pv_fld RX9 214 3 1 (.object "ShipStores$Row") := ⟨_, _, _, rfl, by decide, pv_t 273 (by decide +kernel) rfl, by decide +kernel⟩
theorem flX3_23 : pv_fld RX3 23 3 2 (.object "ShipStores$Menus") := ⟨_, _, _, rfl, by decide, pv_t 274 (by decide +kernel) rfl, by decide +kernel⟩
theorem ffX3_23 : pv_fldF RX3 23 3 2 (.object "ShipStores$Menus") := ⟨_, _, _, rfl, by decide, pv_t 274 (by decide +kernel) rfl, by decide +kernel, rfl, rfl⟩
theorem flX9_235 : pv_fld RX9 235 3 2 (.object "ShipStores$Menus") := ⟨_, _, _, rfl, by decide, pv_t 275 (by decide +kernel) rfl, by decide +kernel⟩
theorem flX3_30 : pv_fld RX3 30 3 3 (.int) := ⟨_, _, _, rfl, by decide, pv_t 276 (by decide +kernel) rfl, by decide +kernel⟩
theorem fwX3_30 : pv_fldW RX3 30 3 3 (.int) := ⟨_, _, _, rfl, by decide, pv_t 276 (by decide +kernel) rfl, by decide +kernel, rfl⟩
theorem flX9_226 : pv_fld RX9 226 3 3 (.int) := ⟨_, _, _, rfl, by decide, pv_t 277 (by decide +kernel) rfl, by decide +kernel⟩
theorem fwX9_226 : pv_fldW RX9 226 3 3 (.int) := ⟨_, _, _, rfl, by decide, pv_t 277 (by decide +kernel) rfl, by decide +kernel, rfl⟩
theorem flX3_34 : pv_fld RX3 34 3 4 (.int) := ⟨_, _, _, rfl, by decide, pv_t 278 (by decide +kernel) rfl, by decide +kernel⟩
theorem fwX3_34 : pv_fldW RX3 34 3 4 (.int) := ⟨_, _, _, rfl, by decide, pv_t 278 (by decide +kernel) rfl, by decide +kernel, rfl⟩
theorem flX3_37 : pv_fld RX3 37 3 5 (.int) := ⟨_, _, _, rfl, by decide, pv_t 279 (by decide +kernel) rfl, by decide +kernel⟩
theorem fwX3_37 : pv_fldW RX3 37 3 5 (.int) := ⟨_, _, _, rfl, by decide, pv_t 279 (by decide +kernel) rfl, by decide +kernel, rfl⟩
theorem flX9_10 : pv_fld RX9 10 9 0 (.object "ShipStores$Ship") := ⟨_, _, _, rfl, by decide, pv_t 293 (by decide +kernel) rfl, by decide +kernel⟩
theorem ffX9_10 : pv_fldF RX9 10 9 0 (.object "ShipStores$Ship") := ⟨_, _, _, rfl, by decide, pv_t 293 (by decide +kernel) rfl, by decide +kernel, rfl, rfl⟩
theorem flX9_16 : pv_fld RX9 16 9 1 (.object "ShipStores$Ship") := ⟨_, _, _, rfl, by decide, pv_t 294 (by decide +kernel) rfl, by decide +kernel⟩
theorem ffX9_16 : pv_fldF RX9 16 9 1 (.object "ShipStores$Ship") := ⟨_, _, _, rfl, by decide, pv_t 294 (by decide +kernel) rfl, by decide +kernel, rfl, rfl⟩
theorem flX9_22 : pv_fld RX9 22 9 2 (.object "ShipStores$History") := ⟨_, _, _, rfl, by decide, pv_t 295 (by decide +kernel) rfl, by decide +kernel⟩
theorem ffX9_22 : pv_fldF RX9 22 9 2 (.object "ShipStores$History") := ⟨_, _, _, rfl, by decide, pv_t 295 (by decide +kernel) rfl, by decide +kernel, rfl, rfl⟩
theorem flX9_29 : pv_fld RX9 29 9 3 (.object "ShipStores$MenuText") := ⟨_, _, _, rfl, by decide, pv_t 296 (by decide +kernel) rfl, by decide +kernel⟩
theorem ffX9_29 : pv_fldF RX9 29 9 3 (.object "ShipStores$MenuText") := ⟨_, _, _, rfl, by decide, pv_t 296 (by decide +kernel) rfl, by decide +kernel, rfl, rfl⟩
def mX9_init : pv_MI := (yX9_init, cX9_init, 1, none, [])
def mX7_init : pv_MI := (yX7_init, cX7_init, 1, none, [])
def mX1_init : pv_MI := (yX1_init, cX1_init, 1, none, [])
def mX6_init : pv_MI := (yX6_init, cX6_init, 2, none, [])
def mX8_init : pv_MI := (yX8_init, cX8_init, 1, none, [])
def mX6_fill : pv_MI := (yX6_fill, cX6_fill, 3, none, [])
def mX2_init : pv_MI := (yX2_init, cX2_init, 1, none, [])
def mX5_init : pv_MI := (yX5_init, cX5_init, 1, none, [])
def mX4_init : pv_MI := (yX4_init, cX4_init, 1, none, [])
def mX0_init : pv_MI := (yX0_init, cX0_init, 2, none, [])
def mX3_init : pv_MI := (yX3_init, cX3_init, 1, none, [])
def mL_cell : pv_MI := (yL_cell, cL_cell, 2, some (.int), [])
def mL_at : pv_MI := (yL_at, cL_at, 2, some (.int), [])
def mL_fresh : pv_MI := (yL_fresh, cL_fresh, 2, none, [])
def mL_kind : pv_MI := (yL_kind, cL_kind, 7, some (.boolean), [])
def mX9_addKind : pv_MI := (yX9_addKind, cX9_addKind, 4, some (.int), [])
def mX9_requireWithin : pv_MI := (yX9_requireWithin, cX9_requireWithin, 3, none, [])
def mX9_isWithin : pv_MI := (yX9_isWithin, cX9_isWithin, 3, some (.boolean), [])
def mX0_save : pv_MI := (yX0_save, cX0_save, 3, none, [])
def mX0_stateAt : pv_MI := (yX0_stateAt, cX0_stateAt, 3, some (.object "ShipStores$Ship"), [])
def mX7_become : pv_MI := (yX7_become, cX7_become, 2, none, [])
def mX1_become : pv_MI := (yX1_become, cX1_become, 2, none, [])
def mX6_become : pv_MI := (yX6_become, cX6_become, 2, none, [])
def mX8_become : pv_MI := (yX8_become, cX8_become, 2, none, [])
def mX2_become : pv_MI := (yX2_become, cX2_become, 2, none, [])
def mX5_become : pv_MI := (yX5_become, cX5_become, 2, none, [])
def mX4_become : pv_MI := (yX4_become, cX4_become, 2, none, [])
def mX1_addOne : pv_MI := (yX1_addOne, cX1_addOne, 5, some (.int), [])
def mX6_put : pv_MI := (yX6_put, cX6_put, 3, none, [])
def mL_port : pv_MI := (yL_port, cL_port, 8, some (.boolean), [])
def mL_portOf : pv_MI := (yL_portOf, cL_portOf, 4, some (.int), [])
def mX9_addPort : pv_MI := (yX9_addPort, cX9_addPort, 3, some (.int), [])
def mX5_onDay : pv_MI := (yX5_onDay, cX5_onDay, 3, some (.int), [])
def mX6_at : pv_MI := (yX6_at, cX6_at, 2, some (.int), [])
def mX5_insert : pv_MI := (yX5_insert, cX5_insert, 6, some (.int), [])
def mX5_after : pv_MI := (yX5_after, cX5_after, 3, some (.int), [])
def mX5_copyPort : pv_MI := (yX5_copyPort, cX5_copyPort, 4, none, [])
def mX5_priceOf : pv_MI := (yX5_priceOf, cX5_priceOf, 3, some (.int), [])
def mX5_putPrice : pv_MI := (yX5_putPrice, cX5_putPrice, 4, none, [])
def mL_number : pv_MI := (yL_number, cL_number, 5, some (.int), [])
def mL_price : pv_MI := (yL_price, cL_price, 8, some (.boolean), [])
def mX9_setPrice : pv_MI := (yX9_setPrice, cX9_setPrice, 5, some (.int), [])
def mX9_requirePort : pv_MI := (yX9_requirePort, cX9_requirePort, 2, none, [])
def mX9_requireKind : pv_MI := (yX9_requireKind, cX9_requireKind, 2, none, [])
def mL_buy : pv_MI := (yL_buy, cL_buy, 12, some (.boolean), [])
def mL_why : pv_MI := (yL_why, cL_why, 9, some (.int), [])
def mL_held : pv_MI := (yL_held, cL_held, 6, some (.int), [])
def mX9_why : pv_MI := (yX9_why, cX9_why, 4, some (.int), [])
def mX9_requireStore : pv_MI := (yX9_requireStore, cX9_requireStore, 1, none, [])
def mX7_refusal : pv_MI := (yX7_refusal, cX7_refusal, 6, some (.int), [])
def mX7_lifeNow : pv_MI := (yX7_lifeNow, cX7_lifeNow, 3, some (.int), [])
def mX1_lifeIn : pv_MI := (yX1_lifeIn, cX1_lifeIn, 3, some (.int), [])
def mX7_roomLeft : pv_MI := (yX7_roomLeft, cX7_roomLeft, 2, some (.int), [])
def mX2_rationsIn : pv_MI := (yX2_rationsIn, cX2_rationsIn, 4, some (.int), [])
def mL_come : pv_MI := (yL_come, cL_come, 7, none, [])
def mX9_buy : pv_MI := (yX9_buy, cX9_buy, 4, some (.int), [])
def mX7_purchase : pv_MI := (yX7_purchase, cX7_purchase, 6, some (.int), [])
def mX6_add : pv_MI := (yX6_add, cX6_add, 3, none, [])
def mX2_addOne : pv_MI := (yX2_addOne, cX2_addOne, 5, some (.int), [])
def mL_set : pv_MI := (yL_set, cL_set, 8, some (.boolean), [])
def mX9_warm : pv_MI := (yX9_warm, cX9_warm, 4, some (.int), [])
def mX9_setCrew : pv_MI := (yX9_setCrew, cX9_setCrew, 3, some (.int), [])
def mX9_setRoom : pv_MI := (yX9_setRoom, cX9_setRoom, 4, some (.int), [])
def mX9_pay : pv_MI := (yX9_pay, cX9_pay, 4, some (.int), [])
def mL_menus : pv_MI := (yL_menus, cL_menus, 9, some (.boolean), [])
def mX9_clearBuffer : pv_MI := (yX9_clearBuffer, cX9_clearBuffer, 2, some (.int), [])
def mX9_append : pv_MI := (yX9_append, cX9_append, 2, some (.int), [])
def mX9_load : pv_MI := (yX9_load, cX9_load, 1, some (.int), [])
def mX3_readMenus : pv_MI := (yX3_readMenus, cX3_readMenus, 2, some (.int), [])
def mX4_forget : pv_MI := (yX4_forget, cX4_forget, 1, none, [])
def mX3_accepts : pv_MI := (yX3_accepts, cX3_accepts, 2, some (.boolean), [])
def mX3_comesTo : pv_MI := (yX3_comesTo, cX3_comesTo, 2, some (.boolean), [])
def mX3_acceptsKind : pv_MI := (yX3_acceptsKind, cX3_acceptsKind, 2, some (.boolean), [])
def mX3_slot : pv_MI := (yX3_slot, cX3_slot, 1, some (.int), [])
def mX4_slot : pv_MI := (yX4_slot, cX4_slot, 3, some (.int), [])
def mJ9_max_7cf53 : pv_MI := (yJ9_max_7cf53, cJ9_max_7cf53, 2, some (.int), [])
def mX3_beginsMenu : pv_MI := (yX3_beginsMenu, cX3_beginsMenu, 1, some (.boolean), [])
def mX3_acceptsAmount : pv_MI := (yX3_acceptsAmount, cX3_acceptsAmount, 2, some (.boolean), [])
def mX3_acceptsSeparator : pv_MI := (yX3_acceptsSeparator, cX3_acceptsSeparator, 2, some (.boolean), [])
def mX3_acceptsSubstitute : pv_MI := (yX3_acceptsSubstitute, cX3_acceptsSubstitute, 2, some (.boolean), [])
def mX3_isComplete : pv_MI := (yX3_isComplete, cX3_isComplete, 1, some (.boolean), [])
def mL_pass : pv_MI := (yL_pass, cL_pass, 9, some (.boolean), [])
def mL_sum : pv_MI := (yL_sum, cL_sum, 5, some (.int), [])
def mL_day : pv_MI := (yL_day, cL_day, 10, none, [])
def mL_left : pv_MI := (yL_left, cL_left, 10, some (.int), [])
def mL_step : pv_MI := (yL_step, cL_step, 5, some (.int), [])
def mL_eat : pv_MI := (yL_eat, cL_eat, 10, some (.int), [])
def mL_ahead : pv_MI := (yL_ahead, cL_ahead, 3, some (.boolean), [])
def mL_drop : pv_MI := (yL_drop, cL_drop, 4, none, [])
def mX9_pass : pv_MI := (yX9_pass, cX9_pass, 3, some (.int), [])
def mX6_sum : pv_MI := (yX6_sum, cX6_sum, 3, some (.int), [])
def mX7_passDays : pv_MI := (yX7_passDays, cX7_passDays, 3, none, [])
def mX7_passDay : pv_MI := (yX7_passDay, cX7_passDay, 4, none, [])
def mX7_daysLeftOf : pv_MI := (yX7_daysLeftOf, cX7_daysLeftOf, 7, some (.int), [])
def mX7_stepFor : pv_MI := (yX7_stepFor, cX7_stepFor, 1, some (.int), [])
def mX7_stepsTo : pv_MI := (yX7_stepsTo, cX7_stepsTo, 2, some (.int), [])
def mX4_ofDay : pv_MI := (yX4_ofDay, cX4_ofDay, 2, some (.int), [])
def mJ9_floorMod_7cf53 : pv_MI := (yJ9_floorMod_7cf53, cJ9_floorMod_7cf53, 3, some (.int), [])
def mX7_serveItem : pv_MI := (yX7_serveItem, cX7_serveItem, 5, some (.int), [])
def mX4_has : pv_MI := (yX4_has, cX4_has, 2, some (.boolean), [])
def mX7_eatOf : pv_MI := (yX7_eatOf, cX7_eatOf, 7, some (.int), [])
def mX7_nextToEat : pv_MI := (yX7_nextToEat, cX7_nextToEat, 4, some (.int), [])
def mJ9_min_7cf53 : pv_MI := (yJ9_min_7cf53, cJ9_min_7cf53, 2, some (.int), [])
def mX7_ageLots : pv_MI := (yX7_ageLots, cX7_ageLots, 3, none, [])
def mX2_dropEmpty : pv_MI := (yX2_dropEmpty, cX2_dropEmpty, 3, none, [])
def mX2_copyLot : pv_MI := (yX2_copyLot, cX2_copyLot, 3, none, [])
def mX8_endDay : pv_MI := (yX8_endDay, cX8_endDay, 2, none, [])
def mL_discard : pv_MI := (yL_discard, cL_discard, 8, some (.boolean), [])
def mX9_discard : pv_MI := (yX9_discard, cX9_discard, 3, some (.int), [])
def mX9_requireLot : pv_MI := (yX9_requireLot, cX9_requireLot, 2, none, [])
def mX2_rations : pv_MI := (yX2_rations, cX2_rations, 3, some (.int), [])
def mL_told : pv_MI := (yL_told, cL_told, 12, some (.boolean), [])
def mX9_lot : pv_MI := (yX9_lot, cX9_lot, 3, some (.int), [])
def mX7_eatingPlaceOf : pv_MI := (yX7_eatingPlaceOf, cX7_eatingPlaceOf, 6, some (.int), [])
def mX9_store : pv_MI := (yX9_store, cX9_store, 3, some (.int), [])
def mX2_numberIn : pv_MI := (yX2_numberIn, cX2_numberIn, 4, some (.int), [])
def mX9_kind : pv_MI := (yX9_kind, cX9_kind, 3, some (.int), [])
def mX2_rationsOf : pv_MI := (yX2_rationsOf, cX2_rationsOf, 4, some (.int), [])
def mX2_numberOf : pv_MI := (yX2_numberOf, cX2_numberOf, 4, some (.int), [])
def mX9_menu : pv_MI := (yX9_menu, cX9_menu, 5, some (.int), [])
def mX9_count : pv_MI := (yX9_count, cX9_count, 2, some (.int), [])
def mX9_meanAge : pv_MI := (yX9_meanAge, cX9_meanAge, 2, some (.double), [])
def mX2_ageSum : pv_MI := (yX2_ageSum, cX2_ageSum, 4, some (.long), [])
set_option maxRecDepth 100000 in
theorem pkmX9_init : tables_1[23]? = some (pv_cw mX9_init) := by rfl
theorem mcX9_init : pv_mI mX9_init 0 := ⟨⟨pv_t 23 pkmX9_init rfl, pv_t 1 (by decide +kernel) rfl, ⟨by decide +kernel, by decide +kernel⟩, by decide +kernel, by decide +kernel, rfl, by decide⟩, pv_t 22 (by decide +kernel) rfl, rfl, rfl⟩
set_option maxRecDepth 100000 in
theorem pkmX7_init : tables_1[31]? = some (pv_cw mX7_init) := by rfl
theorem mcX7_init : pv_mI mX7_init 0 := ⟨⟨pv_t 31 pkmX7_init rfl, pv_t 2 (by decide +kernel) rfl, ⟨by decide +kernel, by decide +kernel⟩, by decide +kernel, by decide +kernel, rfl, by decide⟩, pv_t 30 (by decide +kernel) rfl, rfl, rfl⟩
set_option maxRecDepth 100000 in
theorem pkmX1_init : tables_1[37]? = some (pv_cw mX1_init) := by rfl
theorem mcX1_init : pv_mI mX1_init 0 := ⟨⟨pv_t 37 pkmX1_init rfl, pv_t 3 (by decide +kernel) rfl, ⟨by decide +kernel, by decide +kernel⟩, by decide +kernel, by decide +kernel, rfl, by decide⟩, pv_t 36 (by decide +kernel) rfl, rfl, rfl⟩
set_option maxRecDepth 100000 in
theorem pkmX6_init : tables_1[43]? = some (pv_cw mX6_init) := by rfl
theorem mcX6_init : pv_mI mX6_init 1 := ⟨⟨pv_t 43 pkmX6_init rfl, pv_t 4 (by decide +kernel) rfl, ⟨by decide +kernel, by decide +kernel⟩, by decide +kernel, by decide +kernel, rfl, by decide⟩, pv_t 42 (by decide +kernel) rfl, rfl, rfl⟩
set_option maxRecDepth 100000 in
theorem pkmX8_init : tables_1[86]? = some (pv_cw mX8_init) := by rfl
theorem mcX8_init : pv_mI mX8_init 0 := ⟨⟨pv_t 86 pkmX8_init rfl, pv_t 5 (by decide +kernel) rfl, ⟨by decide +kernel, by decide +kernel⟩, by decide +kernel, by decide +kernel, rfl, by decide⟩, pv_t 85 (by decide +kernel) rfl, rfl, rfl⟩
set_option maxRecDepth 100000 in
theorem pkmX6_fill : tables_1[93]? = some (pv_cw mX6_fill) := by rfl
theorem mvX6_fill : pv_mV mX6_fill 1 := ⟨⟨pv_t 93 pkmX6_fill rfl, pv_t 4 (by decide +kernel) rfl, ⟨by decide +kernel, by decide +kernel⟩, by decide +kernel, by decide +kernel, rfl, by decide⟩, pv_t 91 (by decide +kernel) rfl, pv_t 92 (by decide +kernel) rfl⟩
set_option maxRecDepth 100000 in
theorem pkmX2_init : tables_1[109]? = some (pv_cw mX2_init) := by rfl
theorem mcX2_init : pv_mI mX2_init 0 := ⟨⟨pv_t 109 pkmX2_init rfl, pv_t 6 (by decide +kernel) rfl, ⟨by decide +kernel, by decide +kernel⟩, by decide +kernel, by decide +kernel, rfl, by decide⟩, pv_t 108 (by decide +kernel) rfl, rfl, rfl⟩
set_option maxRecDepth 100000 in
theorem pkmX5_init : tables_1[143]? = some (pv_cw mX5_init) := by rfl
theorem mcX5_init : pv_mI mX5_init 0 := ⟨⟨pv_t 143 pkmX5_init rfl, pv_t 7 (by decide +kernel) rfl, ⟨by decide +kernel, by decide +kernel⟩, by decide +kernel, by decide +kernel, rfl, by decide⟩, pv_t 142 (by decide +kernel) rfl, rfl, rfl⟩
set_option maxRecDepth 100000 in
theorem pkmX4_init : tables_1[166]? = some (pv_cw mX4_init) := by rfl
theorem mcX4_init : pv_mI mX4_init 0 := ⟨⟨pv_t 166 pkmX4_init rfl, pv_t 8 (by decide +kernel) rfl, ⟨by decide +kernel, by decide +kernel⟩, by decide +kernel, by decide +kernel, rfl, by decide⟩, pv_t 165 (by decide +kernel) rfl, rfl, rfl⟩
set_option maxRecDepth 100000 in
theorem pkmX0_init : tables_1[244]? = some (pv_cw mX0_init) := by rfl
theorem mcX0_init : pv_mI mX0_init 0 := ⟨⟨pv_t 244 pkmX0_init rfl, pv_t 9 (by decide +kernel) rfl, ⟨by decide +kernel, by decide +kernel⟩, by decide +kernel, by decide +kernel, rfl, by decide⟩, pv_t 243 (by decide +kernel) rfl, rfl, rfl⟩
set_option maxRecDepth 100000 in
theorem pkmX3_init : tables_1[264]? = some (pv_cw mX3_init) := by rfl
theorem mcX3_init : pv_mI mX3_init 0 := ⟨⟨pv_t 264 pkmX3_init rfl, pv_t 10 (by decide +kernel) rfl, ⟨by decide +kernel, by decide +kernel⟩, by decide +kernel, by decide +kernel, rfl, by decide⟩, pv_t 263 (by decide +kernel) rfl, rfl, rfl⟩
set_option maxRecDepth 100000 in
theorem pkmL_cell : tables_1[308]? = some (pv_cw mL_cell) := by rfl
theorem msL_cell : pv_mS mL_cell 2 := ⟨⟨pv_t 308 pkmL_cell rfl, pv_t 0 (by decide +kernel) rfl, ⟨by decide +kernel, by decide +kernel⟩, by decide +kernel, by decide +kernel, rfl, by decide⟩, pv_t 307 (by decide +kernel) rfl⟩
set_option maxRecDepth 100000 in
theorem pkmL_at : tables_1[312]? = some (pv_cw mL_at) := by rfl
theorem msL_at : pv_mS mL_at 2 := ⟨⟨pv_t 312 pkmL_at rfl, pv_t 0 (by decide +kernel) rfl, ⟨by decide +kernel, by decide +kernel⟩, by decide +kernel, by decide +kernel, rfl, by decide⟩, pv_t 311 (by decide +kernel) rfl⟩
set_option maxRecDepth 100000 in
theorem pkmL_fresh : tables_1[315]? = some (pv_cw mL_fresh) := by rfl
theorem msL_fresh : pv_mS mL_fresh 1 := ⟨⟨pv_t 315 pkmL_fresh rfl, pv_t 0 (by decide +kernel) rfl, ⟨by decide +kernel, by decide +kernel⟩, by decide +kernel, by decide +kernel, rfl, by decide⟩, pv_t 314 (by decide +kernel) rfl⟩
set_option maxRecDepth 100000 in
theorem pkmL_kind : tables_1[318]? = some (pv_cw mL_kind) := by rfl
theorem msL_kind : pv_mS mL_kind 5 := ⟨⟨pv_t 318 pkmL_kind rfl, pv_t 0 (by decide +kernel) rfl, ⟨by decide +kernel, by decide +kernel⟩, by decide +kernel, by decide +kernel, rfl, by decide⟩, pv_t 317 (by decide +kernel) rfl⟩
set_option maxRecDepth 100000 in
theorem pkmX9_addKind : tables_1[322]? = some (pv_cw mX9_addKind) := by rfl
theorem mvX9_addKind : pv_mV mX9_addKind 3 := ⟨⟨pv_t 322 pkmX9_addKind rfl, pv_t 1 (by decide +kernel) rfl, ⟨by decide +kernel, by decide +kernel⟩, by decide +kernel, by decide +kernel, rfl, by decide⟩, pv_t 320 (by decide +kernel) rfl, pv_t 321 (by decide +kernel) rfl⟩
set_option maxRecDepth 100000 in
theorem pkmX9_requireWithin : tables_1[325]? = some (pv_cw mX9_requireWithin) := by rfl
theorem msX9_requireWithin : pv_mS mX9_requireWithin 3 := ⟨⟨pv_t 325 pkmX9_requireWithin rfl, pv_t 1 (by decide +kernel) rfl, ⟨by decide +kernel, by decide +kernel⟩, by decide +kernel, by decide +kernel, rfl, by decide⟩, pv_t 324 (by decide +kernel) rfl⟩
set_option maxRecDepth 100000 in
theorem pkmX9_isWithin : tables_1[328]? = some (pv_cw mX9_isWithin) := by rfl
theorem msX9_isWithin : pv_mS mX9_isWithin 3 := ⟨⟨pv_t 328 pkmX9_isWithin rfl, pv_t 1 (by decide +kernel) rfl, ⟨by decide +kernel, by decide +kernel⟩, by decide +kernel, by decide +kernel, rfl, by decide⟩, pv_t 327 (by decide +kernel) rfl⟩
set_option maxRecDepth 100000 in
theorem pkmX0_save : tables_1[416]? = some (pv_cw mX0_save) := by rfl
theorem mvX0_save : pv_mV mX0_save 1 := ⟨⟨pv_t 416 pkmX0_save rfl, pv_t 9 (by decide +kernel) rfl, ⟨by decide +kernel, by decide +kernel⟩, by decide +kernel, by decide +kernel, rfl, by decide⟩, pv_t 414 (by decide +kernel) rfl, pv_t 415 (by decide +kernel) rfl⟩
set_option maxRecDepth 100000 in
theorem pkmX0_stateAt : tables_1[420]? = some (pv_cw mX0_stateAt) := by rfl
theorem mvX0_stateAt : pv_mV mX0_stateAt 1 := ⟨⟨pv_t 420 pkmX0_stateAt rfl, pv_t 9 (by decide +kernel) rfl, ⟨by decide +kernel, by decide +kernel⟩, by decide +kernel, by decide +kernel, rfl, by decide⟩, pv_t 419 (by decide +kernel) rfl, pv_ts 1 (by decide +kernel) rfl⟩
set_option maxRecDepth 100000 in
theorem pkmX7_become : tables_1[424]? = some (pv_cw mX7_become) := by rfl
theorem mvX7_become : pv_mV mX7_become 1 := ⟨⟨pv_t 424 pkmX7_become rfl, pv_t 2 (by decide +kernel) rfl, ⟨by decide +kernel, by decide +kernel⟩, by decide +kernel, by decide +kernel, rfl, by decide⟩, pv_t 422 (by decide +kernel) rfl, pv_t 423 (by decide +kernel) rfl⟩
set_option maxRecDepth 100000 in
theorem pkmX1_become : tables_1[428]? = some (pv_cw mX1_become) := by rfl
theorem mvX1_become : pv_mV mX1_become 1 := ⟨⟨pv_t 428 pkmX1_become rfl, pv_t 3 (by decide +kernel) rfl, ⟨by decide +kernel, by decide +kernel⟩, by decide +kernel, by decide +kernel, rfl, by decide⟩, pv_t 426 (by decide +kernel) rfl, pv_t 427 (by decide +kernel) rfl⟩
set_option maxRecDepth 100000 in
theorem pkmX6_become : tables_1[432]? = some (pv_cw mX6_become) := by rfl
theorem mvX6_become : pv_mV mX6_become 1 := ⟨⟨pv_t 432 pkmX6_become rfl, pv_t 4 (by decide +kernel) rfl, ⟨by decide +kernel, by decide +kernel⟩, by decide +kernel, by decide +kernel, rfl, by decide⟩, pv_t 430 (by decide +kernel) rfl, pv_t 431 (by decide +kernel) rfl⟩
set_option maxRecDepth 100000 in
theorem pkmX8_become : tables_1[439]? = some (pv_cw mX8_become) := by rfl
theorem mvX8_become : pv_mV mX8_become 1 := ⟨⟨pv_t 439 pkmX8_become rfl, pv_t 5 (by decide +kernel) rfl, ⟨by decide +kernel, by decide +kernel⟩, by decide +kernel, by decide +kernel, rfl, by decide⟩, pv_t 437 (by decide +kernel) rfl, pv_t 438 (by decide +kernel) rfl⟩
set_option maxRecDepth 100000 in
theorem pkmX2_become : tables_1[444]? = some (pv_cw mX2_become) := by rfl
theorem mvX2_become : pv_mV mX2_become 1 := ⟨⟨pv_t 444 pkmX2_become rfl, pv_t 6 (by decide +kernel) rfl, ⟨by decide +kernel, by decide +kernel⟩, by decide +kernel, by decide +kernel, rfl, by decide⟩, pv_t 442 (by decide +kernel) rfl, pv_t 443 (by decide +kernel) rfl⟩
set_option maxRecDepth 100000 in
theorem pkmX5_become : tables_1[449]? = some (pv_cw mX5_become) := by rfl
theorem mvX5_become : pv_mV mX5_become 1 := ⟨⟨pv_t 449 pkmX5_become rfl, pv_t 7 (by decide +kernel) rfl, ⟨by decide +kernel, by decide +kernel⟩, by decide +kernel, by decide +kernel, rfl, by decide⟩, pv_t 447 (by decide +kernel) rfl, pv_t 448 (by decide +kernel) rfl⟩
set_option maxRecDepth 100000 in
theorem pkmX4_become : tables_1[454]? = some (pv_cw mX4_become) := by rfl
theorem mvX4_become : pv_mV mX4_become 1 := ⟨⟨pv_t 454 pkmX4_become rfl, pv_t 8 (by decide +kernel) rfl, ⟨by decide +kernel, by decide +kernel⟩, by decide +kernel, by decide +kernel, rfl, by decide⟩, pv_t 452 (by decide +kernel) rfl, pv_t 453 (by decide +kernel) rfl⟩
set_option maxRecDepth 100000 in
theorem pkmX1_addOne : tables_1[459]? = some (pv_cw mX1_addOne) := by rfl
theorem mvX1_addOne : pv_mV mX1_addOne 3 := ⟨⟨pv_t 459 pkmX1_addOne rfl, pv_t 3 (by decide +kernel) rfl, ⟨by decide +kernel, by decide +kernel⟩, by decide +kernel, by decide +kernel, rfl, by decide⟩, pv_t 457 (by decide +kernel) rfl, pv_t 458 (by decide +kernel) rfl⟩
set_option maxRecDepth 100000 in
theorem pkmX6_put : tables_1[463]? = some (pv_cw mX6_put) := by rfl
theorem mvX6_put : pv_mV mX6_put 2 := ⟨⟨pv_t 463 pkmX6_put rfl, pv_t 4 (by decide +kernel) rfl, ⟨by decide +kernel, by decide +kernel⟩, by decide +kernel, by decide +kernel, rfl, by decide⟩, pv_t 461 (by decide +kernel) rfl, pv_t 462 (by decide +kernel) rfl⟩
set_option maxRecDepth 100000 in
theorem pkmL_port : tables_1[466]? = some (pv_cw mL_port) := by rfl
theorem msL_port : pv_mS mL_port 5 := ⟨⟨pv_t 466 pkmL_port rfl, pv_t 0 (by decide +kernel) rfl, ⟨by decide +kernel, by decide +kernel⟩, by decide +kernel, by decide +kernel, rfl, by decide⟩, pv_t 465 (by decide +kernel) rfl⟩
set_option maxRecDepth 100000 in
theorem pkmL_portOf : tables_1[469]? = some (pv_cw mL_portOf) := by rfl
theorem msL_portOf : pv_mS mL_portOf 3 := ⟨⟨pv_t 469 pkmL_portOf rfl, pv_t 0 (by decide +kernel) rfl, ⟨by decide +kernel, by decide +kernel⟩, by decide +kernel, by decide +kernel, rfl, by decide⟩, pv_t 468 (by decide +kernel) rfl⟩
set_option maxRecDepth 100000 in
theorem pkmX9_addPort : tables_1[473]? = some (pv_cw mX9_addPort) := by rfl
theorem mvX9_addPort : pv_mV mX9_addPort 2 := ⟨⟨pv_t 473 pkmX9_addPort rfl, pv_t 1 (by decide +kernel) rfl, ⟨by decide +kernel, by decide +kernel⟩, by decide +kernel, by decide +kernel, rfl, by decide⟩, pv_t 471 (by decide +kernel) rfl, pv_t 472 (by decide +kernel) rfl⟩
set_option maxRecDepth 100000 in
theorem pkmX5_onDay : tables_1[477]? = some (pv_cw mX5_onDay) := by rfl
theorem mvX5_onDay : pv_mV mX5_onDay 1 := ⟨⟨pv_t 477 pkmX5_onDay rfl, pv_t 7 (by decide +kernel) rfl, ⟨by decide +kernel, by decide +kernel⟩, by decide +kernel, by decide +kernel, rfl, by decide⟩, pv_t 475 (by decide +kernel) rfl, pv_t 476 (by decide +kernel) rfl⟩
set_option maxRecDepth 100000 in
theorem pkmX6_at : tables_1[481]? = some (pv_cw mX6_at) := by rfl
theorem mvX6_at : pv_mV mX6_at 1 := ⟨⟨pv_t 481 pkmX6_at rfl, pv_t 4 (by decide +kernel) rfl, ⟨by decide +kernel, by decide +kernel⟩, by decide +kernel, by decide +kernel, rfl, by decide⟩, pv_t 479 (by decide +kernel) rfl, pv_t 480 (by decide +kernel) rfl⟩
set_option maxRecDepth 100000 in
theorem pkmX5_insert : tables_1[486]? = some (pv_cw mX5_insert) := by rfl
theorem mvX5_insert : pv_mV mX5_insert 2 := ⟨⟨pv_t 486 pkmX5_insert rfl, pv_t 7 (by decide +kernel) rfl, ⟨by decide +kernel, by decide +kernel⟩, by decide +kernel, by decide +kernel, rfl, by decide⟩, pv_t 484 (by decide +kernel) rfl, pv_t 485 (by decide +kernel) rfl⟩
set_option maxRecDepth 100000 in
theorem pkmX5_after : tables_1[490]? = some (pv_cw mX5_after) := by rfl
theorem mvX5_after : pv_mV mX5_after 1 := ⟨⟨pv_t 490 pkmX5_after rfl, pv_t 7 (by decide +kernel) rfl, ⟨by decide +kernel, by decide +kernel⟩, by decide +kernel, by decide +kernel, rfl, by decide⟩, pv_t 488 (by decide +kernel) rfl, pv_t 489 (by decide +kernel) rfl⟩
set_option maxRecDepth 100000 in
theorem pkmX5_copyPort : tables_1[494]? = some (pv_cw mX5_copyPort) := by rfl
theorem mvX5_copyPort : pv_mV mX5_copyPort 2 := ⟨⟨pv_t 494 pkmX5_copyPort rfl, pv_t 7 (by decide +kernel) rfl, ⟨by decide +kernel, by decide +kernel⟩, by decide +kernel, by decide +kernel, rfl, by decide⟩, pv_t 493 (by decide +kernel) rfl, pv_ts 2 (by decide +kernel) rfl⟩
set_option maxRecDepth 100000 in
theorem pkmX5_priceOf : tables_1[499]? = some (pv_cw mX5_priceOf) := by rfl
theorem mvX5_priceOf : pv_mV mX5_priceOf 2 := ⟨⟨pv_t 499 pkmX5_priceOf rfl, pv_t 7 (by decide +kernel) rfl, ⟨by decide +kernel, by decide +kernel⟩, by decide +kernel, by decide +kernel, rfl, by decide⟩, pv_t 497 (by decide +kernel) rfl, pv_t 498 (by decide +kernel) rfl⟩
set_option maxRecDepth 100000 in
theorem pkmX5_putPrice : tables_1[503]? = some (pv_cw mX5_putPrice) := by rfl
theorem mvX5_putPrice : pv_mV mX5_putPrice 3 := ⟨⟨pv_t 503 pkmX5_putPrice rfl, pv_t 7 (by decide +kernel) rfl, ⟨by decide +kernel, by decide +kernel⟩, by decide +kernel, by decide +kernel, rfl, by decide⟩, pv_t 501 (by decide +kernel) rfl, pv_t 502 (by decide +kernel) rfl⟩
set_option maxRecDepth 100000 in
theorem pkmL_number : tables_1[506]? = some (pv_cw mL_number) := by rfl
theorem msL_number : pv_mS mL_number 3 := ⟨⟨pv_t 506 pkmL_number rfl, pv_t 0 (by decide +kernel) rfl, ⟨by decide +kernel, by decide +kernel⟩, by decide +kernel, by decide +kernel, rfl, by decide⟩, pv_t 505 (by decide +kernel) rfl⟩
set_option maxRecDepth 100000 in
theorem pkmL_price : tables_1[509]? = some (pv_cw mL_price) := by rfl
theorem msL_price : pv_mS mL_price 5 := ⟨⟨pv_t 509 pkmL_price rfl, pv_t 0 (by decide +kernel) rfl, ⟨by decide +kernel, by decide +kernel⟩, by decide +kernel, by decide +kernel, rfl, by decide⟩, pv_t 508 (by decide +kernel) rfl⟩
set_option maxRecDepth 100000 in
theorem pkmX9_setPrice : tables_1[513]? = some (pv_cw mX9_setPrice) := by rfl
theorem mvX9_setPrice : pv_mV mX9_setPrice 3 := ⟨⟨pv_t 513 pkmX9_setPrice rfl, pv_t 1 (by decide +kernel) rfl, ⟨by decide +kernel, by decide +kernel⟩, by decide +kernel, by decide +kernel, rfl, by decide⟩, pv_t 511 (by decide +kernel) rfl, pv_t 512 (by decide +kernel) rfl⟩
set_option maxRecDepth 100000 in
theorem pkmX9_requirePort : tables_1[517]? = some (pv_cw mX9_requirePort) := by rfl
theorem mvX9_requirePort : pv_mV mX9_requirePort 1 := ⟨⟨pv_t 517 pkmX9_requirePort rfl, pv_t 1 (by decide +kernel) rfl, ⟨by decide +kernel, by decide +kernel⟩, by decide +kernel, by decide +kernel, rfl, by decide⟩, pv_t 516 (by decide +kernel) rfl, pv_ts 3 (by decide +kernel) rfl⟩
set_option maxRecDepth 100000 in
theorem pkmX9_requireKind : tables_1[537]? = some (pv_cw mX9_requireKind) := by rfl
theorem mvX9_requireKind : pv_mV mX9_requireKind 1 := ⟨⟨pv_t 537 pkmX9_requireKind rfl, pv_t 1 (by decide +kernel) rfl, ⟨by decide +kernel, by decide +kernel⟩, by decide +kernel, by decide +kernel, rfl, by decide⟩, pv_t 536 (by decide +kernel) rfl, pv_ts 4 (by decide +kernel) rfl⟩
set_option maxRecDepth 100000 in
theorem pkmL_buy : tables_1[543]? = some (pv_cw mL_buy) := by rfl
theorem msL_buy : pv_mS mL_buy 7 := ⟨⟨pv_t 543 pkmL_buy rfl, pv_t 0 (by decide +kernel) rfl, ⟨by decide +kernel, by decide +kernel⟩, by decide +kernel, by decide +kernel, rfl, by decide⟩, pv_t 542 (by decide +kernel) rfl⟩
set_option maxRecDepth 100000 in
theorem pkmL_why : tables_1[546]? = some (pv_cw mL_why) := by rfl
theorem msL_why : pv_mS mL_why 7 := ⟨⟨pv_t 546 pkmL_why rfl, pv_t 0 (by decide +kernel) rfl, ⟨by decide +kernel, by decide +kernel⟩, by decide +kernel, by decide +kernel, rfl, by decide⟩, pv_t 545 (by decide +kernel) rfl⟩
set_option maxRecDepth 100000 in
theorem pkmL_held : tables_1[549]? = some (pv_cw mL_held) := by rfl
theorem msL_held : pv_mS mL_held 4 := ⟨⟨pv_t 549 pkmL_held rfl, pv_t 0 (by decide +kernel) rfl, ⟨by decide +kernel, by decide +kernel⟩, by decide +kernel, by decide +kernel, rfl, by decide⟩, pv_t 548 (by decide +kernel) rfl⟩
set_option maxRecDepth 100000 in
theorem pkmX9_why : tables_1[553]? = some (pv_cw mX9_why) := by rfl
theorem mvX9_why : pv_mV mX9_why 3 := ⟨⟨pv_t 553 pkmX9_why rfl, pv_t 1 (by decide +kernel) rfl, ⟨by decide +kernel, by decide +kernel⟩, by decide +kernel, by decide +kernel, rfl, by decide⟩, pv_t 551 (by decide +kernel) rfl, pv_t 552 (by decide +kernel) rfl⟩
set_option maxRecDepth 100000 in
theorem pkmX9_requireStore : tables_1[556]? = some (pv_cw mX9_requireStore) := by rfl
theorem msX9_requireStore : pv_mS mX9_requireStore 1 := ⟨⟨pv_t 556 pkmX9_requireStore rfl, pv_t 1 (by decide +kernel) rfl, ⟨by decide +kernel, by decide +kernel⟩, by decide +kernel, by decide +kernel, rfl, by decide⟩, pv_t 555 (by decide +kernel) rfl⟩
set_option maxRecDepth 100000 in
theorem pkmX7_refusal : tables_1[561]? = some (pv_cw mX7_refusal) := by rfl
theorem mvX7_refusal : pv_mV mX7_refusal 3 := ⟨⟨pv_t 561 pkmX7_refusal rfl, pv_t 2 (by decide +kernel) rfl, ⟨by decide +kernel, by decide +kernel⟩, by decide +kernel, by decide +kernel, rfl, by decide⟩, pv_t 559 (by decide +kernel) rfl, pv_t 560 (by decide +kernel) rfl⟩
set_option maxRecDepth 100000 in
theorem pkmX7_lifeNow : tables_1[567]? = some (pv_cw mX7_lifeNow) := by rfl
theorem mvX7_lifeNow : pv_mV mX7_lifeNow 2 := ⟨⟨pv_t 567 pkmX7_lifeNow rfl, pv_t 2 (by decide +kernel) rfl, ⟨by decide +kernel, by decide +kernel⟩, by decide +kernel, by decide +kernel, rfl, by decide⟩, pv_t 565 (by decide +kernel) rfl, pv_t 566 (by decide +kernel) rfl⟩
set_option maxRecDepth 100000 in
theorem pkmX1_lifeIn : tables_1[572]? = some (pv_cw mX1_lifeIn) := by rfl
theorem mvX1_lifeIn : pv_mV mX1_lifeIn 2 := ⟨⟨pv_t 572 pkmX1_lifeIn rfl, pv_t 3 (by decide +kernel) rfl, ⟨by decide +kernel, by decide +kernel⟩, by decide +kernel, by decide +kernel, rfl, by decide⟩, pv_t 570 (by decide +kernel) rfl, pv_t 571 (by decide +kernel) rfl⟩
set_option maxRecDepth 100000 in
theorem pkmX7_roomLeft : tables_1[577]? = some (pv_cw mX7_roomLeft) := by rfl
theorem mvX7_roomLeft : pv_mV mX7_roomLeft 1 := ⟨⟨pv_t 577 pkmX7_roomLeft rfl, pv_t 2 (by decide +kernel) rfl, ⟨by decide +kernel, by decide +kernel⟩, by decide +kernel, by decide +kernel, rfl, by decide⟩, pv_t 575 (by decide +kernel) rfl, pv_t 576 (by decide +kernel) rfl⟩
set_option maxRecDepth 100000 in
theorem pkmX2_rationsIn : tables_1[581]? = some (pv_cw mX2_rationsIn) := by rfl
theorem mvX2_rationsIn : pv_mV mX2_rationsIn 1 := ⟨⟨pv_t 581 pkmX2_rationsIn rfl, pv_t 6 (by decide +kernel) rfl, ⟨by decide +kernel, by decide +kernel⟩, by decide +kernel, by decide +kernel, rfl, by decide⟩, pv_t 579 (by decide +kernel) rfl, pv_t 580 (by decide +kernel) rfl⟩
set_option maxRecDepth 100000 in
theorem pkmL_come : tables_1[585]? = some (pv_cw mL_come) := by rfl
theorem msL_come : pv_mS mL_come 6 := ⟨⟨pv_t 585 pkmL_come rfl, pv_t 0 (by decide +kernel) rfl, ⟨by decide +kernel, by decide +kernel⟩, by decide +kernel, by decide +kernel, rfl, by decide⟩, pv_t 584 (by decide +kernel) rfl⟩
set_option maxRecDepth 100000 in
theorem pkmX9_buy : tables_1[589]? = some (pv_cw mX9_buy) := by rfl
theorem mvX9_buy : pv_mV mX9_buy 3 := ⟨⟨pv_t 589 pkmX9_buy rfl, pv_t 1 (by decide +kernel) rfl, ⟨by decide +kernel, by decide +kernel⟩, by decide +kernel, by decide +kernel, rfl, by decide⟩, pv_t 587 (by decide +kernel) rfl, pv_t 588 (by decide +kernel) rfl⟩
set_option maxRecDepth 100000 in
theorem pkmX7_purchase : tables_1[594]? = some (pv_cw mX7_purchase) := by rfl
theorem mvX7_purchase : pv_mV mX7_purchase 3 := ⟨⟨pv_t 594 pkmX7_purchase rfl, pv_t 2 (by decide +kernel) rfl, ⟨by decide +kernel, by decide +kernel⟩, by decide +kernel, by decide +kernel, rfl, by decide⟩, pv_t 592 (by decide +kernel) rfl, pv_t 593 (by decide +kernel) rfl⟩
set_option maxRecDepth 100000 in
theorem pkmX6_add : tables_1[598]? = some (pv_cw mX6_add) := by rfl
theorem mvX6_add : pv_mV mX6_add 2 := ⟨⟨pv_t 598 pkmX6_add rfl, pv_t 4 (by decide +kernel) rfl, ⟨by decide +kernel, by decide +kernel⟩, by decide +kernel, by decide +kernel, rfl, by decide⟩, pv_t 596 (by decide +kernel) rfl, pv_t 597 (by decide +kernel) rfl⟩
set_option maxRecDepth 100000 in
theorem pkmX2_addOne : tables_1[604]? = some (pv_cw mX2_addOne) := by rfl
theorem mvX2_addOne : pv_mV mX2_addOne 4 := ⟨⟨pv_t 604 pkmX2_addOne rfl, pv_t 6 (by decide +kernel) rfl, ⟨by decide +kernel, by decide +kernel⟩, by decide +kernel, by decide +kernel, rfl, by decide⟩, pv_t 602 (by decide +kernel) rfl, pv_t 603 (by decide +kernel) rfl⟩
set_option maxRecDepth 100000 in
theorem pkmL_set : tables_1[608]? = some (pv_cw mL_set) := by rfl
theorem msL_set : pv_mS mL_set 5 := ⟨⟨pv_t 608 pkmL_set rfl, pv_t 0 (by decide +kernel) rfl, ⟨by decide +kernel, by decide +kernel⟩, by decide +kernel, by decide +kernel, rfl, by decide⟩, pv_t 607 (by decide +kernel) rfl⟩
set_option maxRecDepth 100000 in
theorem pkmX9_warm : tables_1[612]? = some (pv_cw mX9_warm) := by rfl
theorem mvX9_warm : pv_mV mX9_warm 2 := ⟨⟨pv_t 612 pkmX9_warm rfl, pv_t 1 (by decide +kernel) rfl, ⟨by decide +kernel, by decide +kernel⟩, by decide +kernel, by decide +kernel, rfl, by decide⟩, pv_t 610 (by decide +kernel) rfl, pv_t 611 (by decide +kernel) rfl⟩
set_option maxRecDepth 100000 in
theorem pkmX9_setCrew : tables_1[619]? = some (pv_cw mX9_setCrew) := by rfl
theorem mvX9_setCrew : pv_mV mX9_setCrew 1 := ⟨⟨pv_t 619 pkmX9_setCrew rfl, pv_t 1 (by decide +kernel) rfl, ⟨by decide +kernel, by decide +kernel⟩, by decide +kernel, by decide +kernel, rfl, by decide⟩, pv_t 617 (by decide +kernel) rfl, pv_t 618 (by decide +kernel) rfl⟩
set_option maxRecDepth 100000 in
theorem pkmX9_setRoom : tables_1[623]? = some (pv_cw mX9_setRoom) := by rfl
theorem mvX9_setRoom : pv_mV mX9_setRoom 2 := ⟨⟨pv_t 623 pkmX9_setRoom rfl, pv_t 1 (by decide +kernel) rfl, ⟨by decide +kernel, by decide +kernel⟩, by decide +kernel, by decide +kernel, rfl, by decide⟩, pv_t 621 (by decide +kernel) rfl, pv_t 622 (by decide +kernel) rfl⟩
set_option maxRecDepth 100000 in
theorem pkmX9_pay : tables_1[629]? = some (pv_cw mX9_pay) := by rfl
theorem mvX9_pay : pv_mV mX9_pay 1 := ⟨⟨pv_t 629 pkmX9_pay rfl, pv_t 1 (by decide +kernel) rfl, ⟨by decide +kernel, by decide +kernel⟩, by decide +kernel, by decide +kernel, rfl, by decide⟩, pv_t 627 (by decide +kernel) rfl, pv_t 628 (by decide +kernel) rfl⟩
set_option maxRecDepth 100000 in
theorem pkmL_menus : tables_1[634]? = some (pv_cw mL_menus) := by rfl
theorem msL_menus : pv_mS mL_menus 5 := ⟨⟨pv_t 634 pkmL_menus rfl, pv_t 0 (by decide +kernel) rfl, ⟨by decide +kernel, by decide +kernel⟩, by decide +kernel, by decide +kernel, rfl, by decide⟩, pv_t 633 (by decide +kernel) rfl⟩
set_option maxRecDepth 100000 in
theorem pkmX9_clearBuffer : tables_1[638]? = some (pv_cw mX9_clearBuffer) := by rfl
theorem mvX9_clearBuffer : pv_mV mX9_clearBuffer 0 := ⟨⟨pv_t 638 pkmX9_clearBuffer rfl, pv_t 1 (by decide +kernel) rfl, ⟨by decide +kernel, by decide +kernel⟩, by decide +kernel, by decide +kernel, rfl, by decide⟩, pv_t 636 (by decide +kernel) rfl, pv_t 637 (by decide +kernel) rfl⟩
set_option maxRecDepth 100000 in
theorem pkmX9_append : tables_1[642]? = some (pv_cw mX9_append) := by rfl
theorem mvX9_append : pv_mV mX9_append 1 := ⟨⟨pv_t 642 pkmX9_append rfl, pv_t 1 (by decide +kernel) rfl, ⟨by decide +kernel, by decide +kernel⟩, by decide +kernel, by decide +kernel, rfl, by decide⟩, pv_t 640 (by decide +kernel) rfl, pv_t 641 (by decide +kernel) rfl⟩
set_option maxRecDepth 100000 in
theorem pkmX9_load : tables_1[647]? = some (pv_cw mX9_load) := by rfl
theorem mvX9_load : pv_mV mX9_load 0 := ⟨⟨pv_t 647 pkmX9_load rfl, pv_t 1 (by decide +kernel) rfl, ⟨by decide +kernel, by decide +kernel⟩, by decide +kernel, by decide +kernel, rfl, by decide⟩, pv_t 645 (by decide +kernel) rfl, pv_t 646 (by decide +kernel) rfl⟩
set_option maxRecDepth 100000 in
theorem pkmX3_readMenus : tables_1[651]? = some (pv_cw mX3_readMenus) := by rfl
theorem mvX3_readMenus : pv_mV mX3_readMenus 0 := ⟨⟨pv_t 651 pkmX3_readMenus rfl, pv_t 10 (by decide +kernel) rfl, ⟨by decide +kernel, by decide +kernel⟩, by decide +kernel, by decide +kernel, rfl, by decide⟩, pv_t 649 (by decide +kernel) rfl, pv_t 650 (by decide +kernel) rfl⟩
set_option maxRecDepth 100000 in
theorem pkmX4_forget : tables_1[655]? = some (pv_cw mX4_forget) := by rfl
theorem mvX4_forget : pv_mV mX4_forget 0 := ⟨⟨pv_t 655 pkmX4_forget rfl, pv_t 8 (by decide +kernel) rfl, ⟨by decide +kernel, by decide +kernel⟩, by decide +kernel, by decide +kernel, rfl, by decide⟩, pv_t 653 (by decide +kernel) rfl, pv_t 654 (by decide +kernel) rfl⟩
set_option maxRecDepth 100000 in
theorem pkmX3_accepts : tables_1[661]? = some (pv_cw mX3_accepts) := by rfl
theorem mvX3_accepts : pv_mV mX3_accepts 1 := ⟨⟨pv_t 661 pkmX3_accepts rfl, pv_t 10 (by decide +kernel) rfl, ⟨by decide +kernel, by decide +kernel⟩, by decide +kernel, by decide +kernel, rfl, by decide⟩, pv_t 660 (by decide +kernel) rfl, pv_ts 5 (by decide +kernel) rfl⟩
set_option maxRecDepth 100000 in
theorem pkmX3_comesTo : tables_1[665]? = some (pv_cw mX3_comesTo) := by rfl
theorem mvX3_comesTo : pv_mV mX3_comesTo 1 := ⟨⟨pv_t 665 pkmX3_comesTo rfl, pv_t 10 (by decide +kernel) rfl, ⟨by decide +kernel, by decide +kernel⟩, by decide +kernel, by decide +kernel, rfl, by decide⟩, pv_t 664 (by decide +kernel) rfl, pv_ts 6 (by decide +kernel) rfl⟩
set_option maxRecDepth 100000 in
theorem pkmX3_acceptsKind : tables_1[669]? = some (pv_cw mX3_acceptsKind) := by rfl
theorem mvX3_acceptsKind : pv_mV mX3_acceptsKind 1 := ⟨⟨pv_t 669 pkmX3_acceptsKind rfl, pv_t 10 (by decide +kernel) rfl, ⟨by decide +kernel, by decide +kernel⟩, by decide +kernel, by decide +kernel, rfl, by decide⟩, pv_t 668 (by decide +kernel) rfl, pv_ts 7 (by decide +kernel) rfl⟩
set_option maxRecDepth 100000 in
theorem pkmX3_slot : tables_1[674]? = some (pv_cw mX3_slot) := by rfl
theorem mvX3_slot : pv_mV mX3_slot 0 := ⟨⟨pv_t 674 pkmX3_slot rfl, pv_t 10 (by decide +kernel) rfl, ⟨by decide +kernel, by decide +kernel⟩, by decide +kernel, by decide +kernel, rfl, by decide⟩, pv_t 673 (by decide +kernel) rfl, pv_ts 8 (by decide +kernel) rfl⟩
set_option maxRecDepth 100000 in
theorem pkmX4_slot : tables_1[678]? = some (pv_cw mX4_slot) := by rfl
theorem mvX4_slot : pv_mV mX4_slot 2 := ⟨⟨pv_t 678 pkmX4_slot rfl, pv_t 8 (by decide +kernel) rfl, ⟨by decide +kernel, by decide +kernel⟩, by decide +kernel, by decide +kernel, rfl, by decide⟩, pv_t 676 (by decide +kernel) rfl, pv_t 677 (by decide +kernel) rfl⟩
set_option maxRecDepth 100000 in
theorem pkmJ9_max_7cf53 : tables_1[682]? = some (pv_cw mJ9_max_7cf53) := by rfl
theorem msJ9_max_7cf53 : pv_mS mJ9_max_7cf53 2 := ⟨⟨pv_t 682 pkmJ9_max_7cf53 rfl, pv_t 18 (by decide +kernel) rfl, ⟨by decide +kernel, by decide +kernel⟩, by decide +kernel, by decide +kernel, rfl, by decide⟩, pv_t 681 (by decide +kernel) rfl⟩
set_option maxRecDepth 100000 in
theorem pkmX3_beginsMenu : tables_1[686]? = some (pv_cw mX3_beginsMenu) := by rfl
theorem mvX3_beginsMenu : pv_mV mX3_beginsMenu 0 := ⟨⟨pv_t 686 pkmX3_beginsMenu rfl, pv_t 10 (by decide +kernel) rfl, ⟨by decide +kernel, by decide +kernel⟩, by decide +kernel, by decide +kernel, rfl, by decide⟩, pv_t 685 (by decide +kernel) rfl, pv_ts 9 (by decide +kernel) rfl⟩
set_option maxRecDepth 100000 in
theorem pkmX3_acceptsAmount : tables_1[690]? = some (pv_cw mX3_acceptsAmount) := by rfl
theorem mvX3_acceptsAmount : pv_mV mX3_acceptsAmount 1 := ⟨⟨pv_t 690 pkmX3_acceptsAmount rfl, pv_t 10 (by decide +kernel) rfl, ⟨by decide +kernel, by decide +kernel⟩, by decide +kernel, by decide +kernel, rfl, by decide⟩, pv_t 689 (by decide +kernel) rfl, pv_ts 10 (by decide +kernel) rfl⟩
set_option maxRecDepth 100000 in
theorem pkmX3_acceptsSeparator : tables_1[694]? = some (pv_cw mX3_acceptsSeparator) := by rfl
theorem mvX3_acceptsSeparator : pv_mV mX3_acceptsSeparator 1 := ⟨⟨pv_t 694 pkmX3_acceptsSeparator rfl, pv_t 10 (by decide +kernel) rfl, ⟨by decide +kernel, by decide +kernel⟩, by decide +kernel, by decide +kernel, rfl, by decide⟩, pv_t 693 (by decide +kernel) rfl, pv_ts 11 (by decide +kernel) rfl⟩
set_option maxRecDepth 100000 in
theorem pkmX3_acceptsSubstitute : tables_1[698]? = some (pv_cw mX3_acceptsSubstitute) := by rfl
theorem mvX3_acceptsSubstitute : pv_mV mX3_acceptsSubstitute 1 := ⟨⟨pv_t 698 pkmX3_acceptsSubstitute rfl, pv_t 10 (by decide +kernel) rfl, ⟨by decide +kernel, by decide +kernel⟩, by decide +kernel, by decide +kernel, rfl, by decide⟩, pv_t 697 (by decide +kernel) rfl, pv_ts 12 (by decide +kernel) rfl⟩
set_option maxRecDepth 100000 in
theorem pkmX3_isComplete : tables_1[702]? = some (pv_cw mX3_isComplete) := by rfl
theorem mvX3_isComplete : pv_mV mX3_isComplete 0 := ⟨⟨pv_t 702 pkmX3_isComplete rfl, pv_t 10 (by decide +kernel) rfl, ⟨by decide +kernel, by decide +kernel⟩, by decide +kernel, by decide +kernel, rfl, by decide⟩, pv_t 700 (by decide +kernel) rfl, pv_t 701 (by decide +kernel) rfl⟩
set_option maxRecDepth 100000 in
theorem pkmL_pass : tables_1[708]? = some (pv_cw mL_pass) := by rfl
theorem msL_pass : pv_mS mL_pass 6 := ⟨⟨pv_t 708 pkmL_pass rfl, pv_t 0 (by decide +kernel) rfl, ⟨by decide +kernel, by decide +kernel⟩, by decide +kernel, by decide +kernel, rfl, by decide⟩, pv_t 707 (by decide +kernel) rfl⟩
set_option maxRecDepth 100000 in
theorem pkmL_sum : tables_1[711]? = some (pv_cw mL_sum) := by rfl
theorem msL_sum : pv_mS mL_sum 3 := ⟨⟨pv_t 711 pkmL_sum rfl, pv_t 0 (by decide +kernel) rfl, ⟨by decide +kernel, by decide +kernel⟩, by decide +kernel, by decide +kernel, rfl, by decide⟩, pv_t 710 (by decide +kernel) rfl⟩
set_option maxRecDepth 100000 in
theorem pkmL_day : tables_1[714]? = some (pv_cw mL_day) := by rfl
theorem msL_day : pv_mS mL_day 4 := ⟨⟨pv_t 714 pkmL_day rfl, pv_t 0 (by decide +kernel) rfl, ⟨by decide +kernel, by decide +kernel⟩, by decide +kernel, by decide +kernel, rfl, by decide⟩, pv_t 713 (by decide +kernel) rfl⟩
set_option maxRecDepth 100000 in
theorem pkmL_left : tables_1[717]? = some (pv_cw mL_left) := by rfl
theorem msL_left : pv_mS mL_left 4 := ⟨⟨pv_t 717 pkmL_left rfl, pv_t 0 (by decide +kernel) rfl, ⟨by decide +kernel, by decide +kernel⟩, by decide +kernel, by decide +kernel, rfl, by decide⟩, pv_t 716 (by decide +kernel) rfl⟩
set_option maxRecDepth 100000 in
theorem pkmL_step : tables_1[720]? = some (pv_cw mL_step) := by rfl
theorem msL_step : pv_mS mL_step 4 := ⟨⟨pv_t 720 pkmL_step rfl, pv_t 0 (by decide +kernel) rfl, ⟨by decide +kernel, by decide +kernel⟩, by decide +kernel, by decide +kernel, rfl, by decide⟩, pv_t 719 (by decide +kernel) rfl⟩
set_option maxRecDepth 100000 in
theorem pkmL_eat : tables_1[723]? = some (pv_cw mL_eat) := by rfl
theorem msL_eat : pv_mS mL_eat 6 := ⟨⟨pv_t 723 pkmL_eat rfl, pv_t 0 (by decide +kernel) rfl, ⟨by decide +kernel, by decide +kernel⟩, by decide +kernel, by decide +kernel, rfl, by decide⟩, pv_t 722 (by decide +kernel) rfl⟩
set_option maxRecDepth 100000 in
theorem pkmL_ahead : tables_1[726]? = some (pv_cw mL_ahead) := by rfl
theorem msL_ahead : pv_mS mL_ahead 3 := ⟨⟨pv_t 726 pkmL_ahead rfl, pv_t 0 (by decide +kernel) rfl, ⟨by decide +kernel, by decide +kernel⟩, by decide +kernel, by decide +kernel, rfl, by decide⟩, pv_t 725 (by decide +kernel) rfl⟩
set_option maxRecDepth 100000 in
theorem pkmL_drop : tables_1[729]? = some (pv_cw mL_drop) := by rfl
theorem msL_drop : pv_mS mL_drop 2 := ⟨⟨pv_t 729 pkmL_drop rfl, pv_t 0 (by decide +kernel) rfl, ⟨by decide +kernel, by decide +kernel⟩, by decide +kernel, by decide +kernel, rfl, by decide⟩, pv_t 728 (by decide +kernel) rfl⟩
set_option maxRecDepth 100000 in
theorem pkmX9_pass : tables_1[733]? = some (pv_cw mX9_pass) := by rfl
theorem mvX9_pass : pv_mV mX9_pass 1 := ⟨⟨pv_t 733 pkmX9_pass rfl, pv_t 1 (by decide +kernel) rfl, ⟨by decide +kernel, by decide +kernel⟩, by decide +kernel, by decide +kernel, rfl, by decide⟩, pv_t 731 (by decide +kernel) rfl, pv_t 732 (by decide +kernel) rfl⟩
set_option maxRecDepth 100000 in
theorem pkmX6_sum : tables_1[737]? = some (pv_cw mX6_sum) := by rfl
theorem mvX6_sum : pv_mV mX6_sum 0 := ⟨⟨pv_t 737 pkmX6_sum rfl, pv_t 4 (by decide +kernel) rfl, ⟨by decide +kernel, by decide +kernel⟩, by decide +kernel, by decide +kernel, rfl, by decide⟩, pv_t 735 (by decide +kernel) rfl, pv_t 736 (by decide +kernel) rfl⟩
set_option maxRecDepth 100000 in
theorem pkmX7_passDays : tables_1[741]? = some (pv_cw mX7_passDays) := by rfl
theorem mvX7_passDays : pv_mV mX7_passDays 1 := ⟨⟨pv_t 741 pkmX7_passDays rfl, pv_t 2 (by decide +kernel) rfl, ⟨by decide +kernel, by decide +kernel⟩, by decide +kernel, by decide +kernel, rfl, by decide⟩, pv_t 739 (by decide +kernel) rfl, pv_t 740 (by decide +kernel) rfl⟩
set_option maxRecDepth 100000 in
theorem pkmX7_passDay : tables_1[745]? = some (pv_cw mX7_passDay) := by rfl
theorem mvX7_passDay : pv_mV mX7_passDay 0 := ⟨⟨pv_t 745 pkmX7_passDay rfl, pv_t 2 (by decide +kernel) rfl, ⟨by decide +kernel, by decide +kernel⟩, by decide +kernel, by decide +kernel, rfl, by decide⟩, pv_t 744 (by decide +kernel) rfl, pv_ts 13 (by decide +kernel) rfl⟩
set_option maxRecDepth 100000 in
theorem pkmX7_daysLeftOf : tables_1[749]? = some (pv_cw mX7_daysLeftOf) := by rfl
theorem mvX7_daysLeftOf : pv_mV mX7_daysLeftOf 1 := ⟨⟨pv_t 749 pkmX7_daysLeftOf rfl, pv_t 2 (by decide +kernel) rfl, ⟨by decide +kernel, by decide +kernel⟩, by decide +kernel, by decide +kernel, rfl, by decide⟩, pv_t 747 (by decide +kernel) rfl, pv_t 748 (by decide +kernel) rfl⟩
set_option maxRecDepth 100000 in
theorem pkmX7_stepFor : tables_1[752]? = some (pv_cw mX7_stepFor) := by rfl
theorem msX7_stepFor : pv_mS mX7_stepFor 1 := ⟨⟨pv_t 752 pkmX7_stepFor rfl, pv_t 2 (by decide +kernel) rfl, ⟨by decide +kernel, by decide +kernel⟩, by decide +kernel, by decide +kernel, rfl, by decide⟩, pv_t 751 (by decide +kernel) rfl⟩
set_option maxRecDepth 100000 in
theorem pkmX7_stepsTo : tables_1[755]? = some (pv_cw mX7_stepsTo) := by rfl
theorem msX7_stepsTo : pv_mS mX7_stepsTo 2 := ⟨⟨pv_t 755 pkmX7_stepsTo rfl, pv_t 2 (by decide +kernel) rfl, ⟨by decide +kernel, by decide +kernel⟩, by decide +kernel, by decide +kernel, rfl, by decide⟩, pv_t 754 (by decide +kernel) rfl⟩
set_option maxRecDepth 100000 in
theorem pkmX4_ofDay : tables_1[760]? = some (pv_cw mX4_ofDay) := by rfl
theorem mvX4_ofDay : pv_mV mX4_ofDay 1 := ⟨⟨pv_t 760 pkmX4_ofDay rfl, pv_t 8 (by decide +kernel) rfl, ⟨by decide +kernel, by decide +kernel⟩, by decide +kernel, by decide +kernel, rfl, by decide⟩, pv_t 758 (by decide +kernel) rfl, pv_t 759 (by decide +kernel) rfl⟩
set_option maxRecDepth 100000 in
theorem pkmJ9_floorMod_7cf53 : tables_1[763]? = some (pv_cw mJ9_floorMod_7cf53) := by rfl
theorem msJ9_floorMod_7cf53 : pv_mS mJ9_floorMod_7cf53 2 := ⟨⟨pv_t 763 pkmJ9_floorMod_7cf53 rfl, pv_t 18 (by decide +kernel) rfl, ⟨by decide +kernel, by decide +kernel⟩, by decide +kernel, by decide +kernel, rfl, by decide⟩, pv_t 762 (by decide +kernel) rfl⟩
set_option maxRecDepth 100000 in
theorem pkmX7_serveItem : tables_1[768]? = some (pv_cw mX7_serveItem) := by rfl
theorem mvX7_serveItem : pv_mV mX7_serveItem 1 := ⟨⟨pv_t 768 pkmX7_serveItem rfl, pv_t 2 (by decide +kernel) rfl, ⟨by decide +kernel, by decide +kernel⟩, by decide +kernel, by decide +kernel, rfl, by decide⟩, pv_t 767 (by decide +kernel) rfl, pv_ts 14 (by decide +kernel) rfl⟩
set_option maxRecDepth 100000 in
theorem pkmX4_has : tables_1[772]? = some (pv_cw mX4_has) := by rfl
theorem mvX4_has : pv_mV mX4_has 1 := ⟨⟨pv_t 772 pkmX4_has rfl, pv_t 8 (by decide +kernel) rfl, ⟨by decide +kernel, by decide +kernel⟩, by decide +kernel, by decide +kernel, rfl, by decide⟩, pv_t 770 (by decide +kernel) rfl, pv_t 771 (by decide +kernel) rfl⟩
set_option maxRecDepth 100000 in
theorem pkmX7_eatOf : tables_1[777]? = some (pv_cw mX7_eatOf) := by rfl
theorem mvX7_eatOf : pv_mV mX7_eatOf 2 := ⟨⟨pv_t 777 pkmX7_eatOf rfl, pv_t 2 (by decide +kernel) rfl, ⟨by decide +kernel, by decide +kernel⟩, by decide +kernel, by decide +kernel, rfl, by decide⟩, pv_t 776 (by decide +kernel) rfl, pv_ts 15 (by decide +kernel) rfl⟩
set_option maxRecDepth 100000 in
theorem pkmX7_nextToEat : tables_1[781]? = some (pv_cw mX7_nextToEat) := by rfl
theorem mvX7_nextToEat : pv_mV mX7_nextToEat 1 := ⟨⟨pv_t 781 pkmX7_nextToEat rfl, pv_t 2 (by decide +kernel) rfl, ⟨by decide +kernel, by decide +kernel⟩, by decide +kernel, by decide +kernel, rfl, by decide⟩, pv_t 780 (by decide +kernel) rfl, pv_ts 16 (by decide +kernel) rfl⟩
set_option maxRecDepth 100000 in
theorem pkmJ9_min_7cf53 : tables_1[784]? = some (pv_cw mJ9_min_7cf53) := by rfl
theorem msJ9_min_7cf53 : pv_mS mJ9_min_7cf53 2 := ⟨⟨pv_t 784 pkmJ9_min_7cf53 rfl, pv_t 18 (by decide +kernel) rfl, ⟨by decide +kernel, by decide +kernel⟩, by decide +kernel, by decide +kernel, rfl, by decide⟩, pv_t 783 (by decide +kernel) rfl⟩
set_option maxRecDepth 100000 in
theorem pkmX7_ageLots : tables_1[788]? = some (pv_cw mX7_ageLots) := by rfl
theorem mvX7_ageLots : pv_mV mX7_ageLots 0 := ⟨⟨pv_t 788 pkmX7_ageLots rfl, pv_t 2 (by decide +kernel) rfl, ⟨by decide +kernel, by decide +kernel⟩, by decide +kernel, by decide +kernel, rfl, by decide⟩, pv_t 787 (by decide +kernel) rfl, pv_ts 17 (by decide +kernel) rfl⟩
set_option maxRecDepth 100000 in
theorem pkmX2_dropEmpty : tables_1[792]? = some (pv_cw mX2_dropEmpty) := by rfl
theorem mvX2_dropEmpty : pv_mV mX2_dropEmpty 0 := ⟨⟨pv_t 792 pkmX2_dropEmpty rfl, pv_t 6 (by decide +kernel) rfl, ⟨by decide +kernel, by decide +kernel⟩, by decide +kernel, by decide +kernel, rfl, by decide⟩, pv_t 790 (by decide +kernel) rfl, pv_t 791 (by decide +kernel) rfl⟩
set_option maxRecDepth 100000 in
theorem pkmX2_copyLot : tables_1[796]? = some (pv_cw mX2_copyLot) := by rfl
theorem mvX2_copyLot : pv_mV mX2_copyLot 2 := ⟨⟨pv_t 796 pkmX2_copyLot rfl, pv_t 6 (by decide +kernel) rfl, ⟨by decide +kernel, by decide +kernel⟩, by decide +kernel, by decide +kernel, rfl, by decide⟩, pv_t 795 (by decide +kernel) rfl, pv_ts 18 (by decide +kernel) rfl⟩
set_option maxRecDepth 100000 in
theorem pkmX8_endDay : tables_1[800]? = some (pv_cw mX8_endDay) := by rfl
theorem mvX8_endDay : pv_mV mX8_endDay 0 := ⟨⟨pv_t 800 pkmX8_endDay rfl, pv_t 5 (by decide +kernel) rfl, ⟨by decide +kernel, by decide +kernel⟩, by decide +kernel, by decide +kernel, rfl, by decide⟩, pv_t 798 (by decide +kernel) rfl, pv_t 799 (by decide +kernel) rfl⟩
set_option maxRecDepth 100000 in
theorem pkmL_discard : tables_1[805]? = some (pv_cw mL_discard) := by rfl
theorem msL_discard : pv_mS mL_discard 6 := ⟨⟨pv_t 805 pkmL_discard rfl, pv_t 0 (by decide +kernel) rfl, ⟨by decide +kernel, by decide +kernel⟩, by decide +kernel, by decide +kernel, rfl, by decide⟩, pv_t 804 (by decide +kernel) rfl⟩
set_option maxRecDepth 100000 in
theorem pkmX9_discard : tables_1[809]? = some (pv_cw mX9_discard) := by rfl
theorem mvX9_discard : pv_mV mX9_discard 2 := ⟨⟨pv_t 809 pkmX9_discard rfl, pv_t 1 (by decide +kernel) rfl, ⟨by decide +kernel, by decide +kernel⟩, by decide +kernel, by decide +kernel, rfl, by decide⟩, pv_t 807 (by decide +kernel) rfl, pv_t 808 (by decide +kernel) rfl⟩
set_option maxRecDepth 100000 in
theorem pkmX9_requireLot : tables_1[813]? = some (pv_cw mX9_requireLot) := by rfl
theorem mvX9_requireLot : pv_mV mX9_requireLot 1 := ⟨⟨pv_t 813 pkmX9_requireLot rfl, pv_t 1 (by decide +kernel) rfl, ⟨by decide +kernel, by decide +kernel⟩, by decide +kernel, by decide +kernel, rfl, by decide⟩, pv_t 812 (by decide +kernel) rfl, pv_ts 19 (by decide +kernel) rfl⟩
set_option maxRecDepth 100000 in
theorem pkmX2_rations : tables_1[820]? = some (pv_cw mX2_rations) := by rfl
theorem mvX2_rations : pv_mV mX2_rations 0 := ⟨⟨pv_t 820 pkmX2_rations rfl, pv_t 6 (by decide +kernel) rfl, ⟨by decide +kernel, by decide +kernel⟩, by decide +kernel, by decide +kernel, rfl, by decide⟩, pv_t 818 (by decide +kernel) rfl, pv_t 819 (by decide +kernel) rfl⟩
set_option maxRecDepth 100000 in
theorem pkmL_told : tables_1[823]? = some (pv_cw mL_told) := by rfl
theorem msL_told : pv_mS mL_told 5 := ⟨⟨pv_t 823 pkmL_told rfl, pv_t 0 (by decide +kernel) rfl, ⟨by decide +kernel, by decide +kernel⟩, by decide +kernel, by decide +kernel, rfl, by decide⟩, pv_t 822 (by decide +kernel) rfl⟩
set_option maxRecDepth 100000 in
theorem pkmX9_lot : tables_1[827]? = some (pv_cw mX9_lot) := by rfl
theorem mvX9_lot : pv_mV mX9_lot 2 := ⟨⟨pv_t 827 pkmX9_lot rfl, pv_t 1 (by decide +kernel) rfl, ⟨by decide +kernel, by decide +kernel⟩, by decide +kernel, by decide +kernel, rfl, by decide⟩, pv_t 825 (by decide +kernel) rfl, pv_t 826 (by decide +kernel) rfl⟩
set_option maxRecDepth 100000 in
theorem pkmX7_eatingPlaceOf : tables_1[832]? = some (pv_cw mX7_eatingPlaceOf) := by rfl
theorem mvX7_eatingPlaceOf : pv_mV mX7_eatingPlaceOf 1 := ⟨⟨pv_t 832 pkmX7_eatingPlaceOf rfl, pv_t 2 (by decide +kernel) rfl, ⟨by decide +kernel, by decide +kernel⟩, by decide +kernel, by decide +kernel, rfl, by decide⟩, pv_t 830 (by decide +kernel) rfl, pv_t 831 (by decide +kernel) rfl⟩
set_option maxRecDepth 100000 in
theorem pkmX9_store : tables_1[837]? = some (pv_cw mX9_store) := by rfl
theorem mvX9_store : pv_mV mX9_store 2 := ⟨⟨pv_t 837 pkmX9_store rfl, pv_t 1 (by decide +kernel) rfl, ⟨by decide +kernel, by decide +kernel⟩, by decide +kernel, by decide +kernel, rfl, by decide⟩, pv_t 835 (by decide +kernel) rfl, pv_t 836 (by decide +kernel) rfl⟩
set_option maxRecDepth 100000 in
theorem pkmX2_numberIn : tables_1[841]? = some (pv_cw mX2_numberIn) := by rfl
theorem mvX2_numberIn : pv_mV mX2_numberIn 1 := ⟨⟨pv_t 841 pkmX2_numberIn rfl, pv_t 6 (by decide +kernel) rfl, ⟨by decide +kernel, by decide +kernel⟩, by decide +kernel, by decide +kernel, rfl, by decide⟩, pv_t 839 (by decide +kernel) rfl, pv_t 840 (by decide +kernel) rfl⟩
set_option maxRecDepth 100000 in
theorem pkmX9_kind : tables_1[846]? = some (pv_cw mX9_kind) := by rfl
theorem mvX9_kind : pv_mV mX9_kind 2 := ⟨⟨pv_t 846 pkmX9_kind rfl, pv_t 1 (by decide +kernel) rfl, ⟨by decide +kernel, by decide +kernel⟩, by decide +kernel, by decide +kernel, rfl, by decide⟩, pv_t 844 (by decide +kernel) rfl, pv_t 845 (by decide +kernel) rfl⟩
set_option maxRecDepth 100000 in
theorem pkmX2_rationsOf : tables_1[851]? = some (pv_cw mX2_rationsOf) := by rfl
theorem mvX2_rationsOf : pv_mV mX2_rationsOf 1 := ⟨⟨pv_t 851 pkmX2_rationsOf rfl, pv_t 6 (by decide +kernel) rfl, ⟨by decide +kernel, by decide +kernel⟩, by decide +kernel, by decide +kernel, rfl, by decide⟩, pv_t 849 (by decide +kernel) rfl, pv_t 850 (by decide +kernel) rfl⟩
set_option maxRecDepth 100000 in
theorem pkmX2_numberOf : tables_1[855]? = some (pv_cw mX2_numberOf) := by rfl
theorem mvX2_numberOf : pv_mV mX2_numberOf 1 := ⟨⟨pv_t 855 pkmX2_numberOf rfl, pv_t 6 (by decide +kernel) rfl, ⟨by decide +kernel, by decide +kernel⟩, by decide +kernel, by decide +kernel, rfl, by decide⟩, pv_t 853 (by decide +kernel) rfl, pv_t 854 (by decide +kernel) rfl⟩
set_option maxRecDepth 100000 in
theorem pkmX9_menu : tables_1[860]? = some (pv_cw mX9_menu) := by rfl
theorem mvX9_menu : pv_mV mX9_menu 3 := ⟨⟨pv_t 860 pkmX9_menu rfl, pv_t 1 (by decide +kernel) rfl, ⟨by decide +kernel, by decide +kernel⟩, by decide +kernel, by decide +kernel, rfl, by decide⟩, pv_t 858 (by decide +kernel) rfl, pv_t 859 (by decide +kernel) rfl⟩
set_option maxRecDepth 100000 in
theorem pkmX9_count : tables_1[868]? = some (pv_cw mX9_count) := by rfl
theorem mvX9_count : pv_mV mX9_count 1 := ⟨⟨pv_t 868 pkmX9_count rfl, pv_t 1 (by decide +kernel) rfl, ⟨by decide +kernel, by decide +kernel⟩, by decide +kernel, by decide +kernel, rfl, by decide⟩, pv_t 866 (by decide +kernel) rfl, pv_t 867 (by decide +kernel) rfl⟩
set_option maxRecDepth 100000 in
theorem pkmX9_meanAge : tables_1[874]? = some (pv_cw mX9_meanAge) := by rfl
theorem mvX9_meanAge : pv_mV mX9_meanAge 0 := ⟨⟨pv_t 874 pkmX9_meanAge rfl, pv_t 1 (by decide +kernel) rfl, ⟨by decide +kernel, by decide +kernel⟩, by decide +kernel, by decide +kernel, rfl, by decide⟩, pv_t 872 (by decide +kernel) rfl, pv_t 873 (by decide +kernel) rfl⟩
set_option maxRecDepth 100000 in
theorem pkmX2_ageSum : tables_1[878]? = some (pv_cw mX2_ageSum) := by rfl
theorem mvX2_ageSum : pv_mV mX2_ageSum 0 := ⟨⟨pv_t 878 pkmX2_ageSum rfl, pv_t 6 (by decide +kernel) rfl, ⟨by decide +kernel, by decide +kernel⟩, by decide +kernel, by decide +kernel, rfl, by decide⟩, pv_t 876 (by decide +kernel) rfl, pv_t 877 (by decide +kernel) rfl⟩
theorem mlL_125 : Cond.methodLink RL 125 yX9_init ∈ pv_W := pv_t 21 (by decide +kernel) rfl
theorem mlX9_1 : Cond.methodLink RX9 1 objectInit ∈ pv_W := pv_t 24 (by decide +kernel) rfl
theorem mlX7_3 : Cond.methodLink RX7 3 objectInit ∈ pv_W := pv_t 32 (by decide +kernel) rfl
theorem mlX1_3 : Cond.methodLink RX1 3 objectInit ∈ pv_W := pv_t 38 (by decide +kernel) rfl
theorem mlX1_11 : Cond.methodLink RX1 11 yX6_init ∈ pv_W := pv_t 41 (by decide +kernel) rfl
theorem mlX6_1 : Cond.methodLink RX6 1 objectInit ∈ pv_W := pv_t 44 (by decide +kernel) rfl
theorem mlX7_27 : Cond.methodLink RX7 27 yX8_init ∈ pv_W := pv_t 84 (by decide +kernel) rfl
theorem mlX8_3 : Cond.methodLink RX8 3 objectInit ∈ pv_W := pv_t 87 (by decide +kernel) rfl
theorem mlX8_11 : Cond.methodLink RX8 11 yX6_init ∈ pv_W := pv_t 89 (by decide +kernel) rfl
theorem mlX8_23 : Cond.methodLink RX8 23 yX6_fill ∈ pv_W := pv_t 90 (by decide +kernel) rfl
theorem mlX2_3 : Cond.methodLink RX2 3 objectInit ∈ pv_W := pv_t 110 (by decide +kernel) rfl
theorem mlX2_11 : Cond.methodLink RX2 11 yX6_init ∈ pv_W := pv_t 112 (by decide +kernel) rfl
theorem mlX5_3 : Cond.methodLink RX5 3 objectInit ∈ pv_W := pv_t 144 (by decide +kernel) rfl
theorem mlX5_11 : Cond.methodLink RX5 11 yX6_init ∈ pv_W := pv_t 146 (by decide +kernel) rfl
theorem mlX4_3 : Cond.methodLink RX4 3 objectInit ∈ pv_W := pv_t 167 (by decide +kernel) rfl
theorem mlX4_17 : Cond.methodLink RX4 17 yX6_init ∈ pv_W := pv_t 169 (by decide +kernel) rfl
theorem mlX7_55 : Cond.methodLink RX7 55 yX6_init ∈ pv_W := pv_t 195 (by decide +kernel) rfl
theorem mlX9_21 : Cond.methodLink RX9 21 yX0_init ∈ pv_W := pv_t 242 (by decide +kernel) rfl
theorem mlX0_3 : Cond.methodLink RX0 3 objectInit ∈ pv_W := pv_t 245 (by decide +kernel) rfl
theorem mlX3_3 : Cond.methodLink RX3 3 objectInit ∈ pv_W := pv_t 265 (by decide +kernel) rfl
theorem mlX3_11 : Cond.methodLink RX3 11 yX6_init ∈ pv_W := pv_t 267 (by decide +kernel) rfl
theorem mlL_134 : Cond.methodLink RL 134 yL_cell ∈ pv_W := pv_t 306 (by decide +kernel) rfl
theorem mlL_30 : Cond.methodLink RL 30 yL_at ∈ pv_W := pv_t 310 (by decide +kernel) rfl
theorem mlL_126 : Cond.methodLink RL 126 yL_fresh ∈ pv_W := pv_t 313 (by decide +kernel) rfl
theorem mlL_138 : Cond.methodLink RL 138 yL_kind ∈ pv_W := pv_t 316 (by decide +kernel) rfl
theorem mlL_34 : Cond.methodLink RL 34 yX9_addKind ∈ pv_W := pv_t 319 (by decide +kernel) rfl
theorem mlX9_33 : Cond.methodLink RX9 33 yX9_requireWithin ∈ pv_W := pv_t 323 (by decide +kernel) rfl
theorem mlX9_97 : Cond.methodLink RX9 97 yX9_isWithin ∈ pv_W := pv_t 326 (by decide +kernel) rfl
theorem mlX9_54 : Cond.methodLink RX9 54 yX0_save ∈ pv_W := pv_t 413 (by decide +kernel) rfl
theorem mlX0_25 : Cond.methodLink RX0 25 yX0_stateAt ∈ pv_W := pv_t 417 (by decide +kernel) rfl
theorem mlX0_29 : Cond.methodLink RX0 29 yX7_become ∈ pv_W := pv_t 421 (by decide +kernel) rfl
theorem mlX7_196 : Cond.methodLink RX7 196 yX1_become ∈ pv_W := pv_t 425 (by decide +kernel) rfl
theorem mlX1_47 : Cond.methodLink RX1 47 yX6_become ∈ pv_W := pv_t 429 (by decide +kernel) rfl
theorem mlX7_200 : Cond.methodLink RX7 200 yX8_become ∈ pv_W := pv_t 436 (by decide +kernel) rfl
theorem mlX8_34 : Cond.methodLink RX8 34 yX6_become ∈ pv_W := pv_t 440 (by decide +kernel) rfl
theorem mlX7_203 : Cond.methodLink RX7 203 yX2_become ∈ pv_W := pv_t 441 (by decide +kernel) rfl
theorem mlX2_51 : Cond.methodLink RX2 51 yX6_become ∈ pv_W := pv_t 445 (by decide +kernel) rfl
theorem mlX7_206 : Cond.methodLink RX7 206 yX5_become ∈ pv_W := pv_t 446 (by decide +kernel) rfl
theorem mlX5_52 : Cond.methodLink RX5 52 yX6_become ∈ pv_W := pv_t 450 (by decide +kernel) rfl
theorem mlX7_209 : Cond.methodLink RX7 209 yX4_become ∈ pv_W := pv_t 451 (by decide +kernel) rfl
theorem mlX4_43 : Cond.methodLink RX4 43 yX6_become ∈ pv_W := pv_t 455 (by decide +kernel) rfl
theorem mlX9_58 : Cond.methodLink RX9 58 yX1_addOne ∈ pv_W := pv_t 456 (by decide +kernel) rfl
theorem mlX1_39 : Cond.methodLink RX1 39 yX6_put ∈ pv_W := pv_t 460 (by decide +kernel) rfl
theorem mlL_141 : Cond.methodLink RL 141 yL_port ∈ pv_W := pv_t 464 (by decide +kernel) rfl
theorem mlL_40 : Cond.methodLink RL 40 yL_portOf ∈ pv_W := pv_t 467 (by decide +kernel) rfl
theorem mlL_44 : Cond.methodLink RL 44 yX9_addPort ∈ pv_W := pv_t 470 (by decide +kernel) rfl
theorem mlX9_129 : Cond.methodLink RX9 129 yX5_onDay ∈ pv_W := pv_t 474 (by decide +kernel) rfl
theorem mlX5_30 : Cond.methodLink RX5 30 yX6_at ∈ pv_W := pv_t 478 (by decide +kernel) rfl
theorem mlX9_134 : Cond.methodLink RX9 134 yX5_insert ∈ pv_W := pv_t 483 (by decide +kernel) rfl
theorem mlX5_38 : Cond.methodLink RX5 38 yX5_after ∈ pv_W := pv_t 487 (by decide +kernel) rfl
theorem mlX5_41 : Cond.methodLink RX5 41 yX5_copyPort ∈ pv_W := pv_t 491 (by decide +kernel) rfl
theorem mlX5_34 : Cond.methodLink RX5 34 yX6_put ∈ pv_W := pv_t 495 (by decide +kernel) rfl
theorem mlX5_48 : Cond.methodLink RX5 48 yX5_priceOf ∈ pv_W := pv_t 496 (by decide +kernel) rfl
theorem mlX5_44 : Cond.methodLink RX5 44 yX5_putPrice ∈ pv_W := pv_t 500 (by decide +kernel) rfl
theorem mlL_47 : Cond.methodLink RL 47 yL_number ∈ pv_W := pv_t 504 (by decide +kernel) rfl
theorem mlL_144 : Cond.methodLink RL 144 yL_price ∈ pv_W := pv_t 507 (by decide +kernel) rfl
theorem mlL_50 : Cond.methodLink RL 50 yX9_setPrice ∈ pv_W := pv_t 510 (by decide +kernel) rfl
theorem mlX9_138 : Cond.methodLink RX9 138 yX9_requirePort ∈ pv_W := pv_t 514 (by decide +kernel) rfl
theorem mlX9_147 : Cond.methodLink RX9 147 yX9_requireKind ∈ pv_W := pv_t 534 (by decide +kernel) rfl
theorem mlX9_150 : Cond.methodLink RX9 150 yX5_priceOf ∈ pv_W := pv_t 539 (by decide +kernel) rfl
theorem mlX9_153 : Cond.methodLink RX9 153 yX5_putPrice ∈ pv_W := pv_t 540 (by decide +kernel) rfl
theorem mlL_147 : Cond.methodLink RL 147 yL_buy ∈ pv_W := pv_t 541 (by decide +kernel) rfl
theorem mlL_57 : Cond.methodLink RL 57 yL_why ∈ pv_W := pv_t 544 (by decide +kernel) rfl
theorem mlL_53 : Cond.methodLink RL 53 yL_held ∈ pv_W := pv_t 547 (by decide +kernel) rfl
theorem mlL_61 : Cond.methodLink RL 61 yX9_why ∈ pv_W := pv_t 550 (by decide +kernel) rfl
theorem mlX9_62 : Cond.methodLink RX9 62 yX9_requireStore ∈ pv_W := pv_t 554 (by decide +kernel) rfl
theorem mlX9_156 : Cond.methodLink RX9 156 yX7_refusal ∈ pv_W := pv_t 558 (by decide +kernel) rfl
theorem mlX7_82 : Cond.methodLink RX7 82 yX5_onDay ∈ pv_W := pv_t 562 (by decide +kernel) rfl
theorem mlX7_85 : Cond.methodLink RX7 85 yX5_priceOf ∈ pv_W := pv_t 563 (by decide +kernel) rfl
theorem mlX7_88 : Cond.methodLink RX7 88 yX7_lifeNow ∈ pv_W := pv_t 564 (by decide +kernel) rfl
theorem mlX7_65 : Cond.methodLink RX7 65 yX6_at ∈ pv_W := pv_t 568 (by decide +kernel) rfl
theorem mlX7_69 : Cond.methodLink RX7 69 yX1_lifeIn ∈ pv_W := pv_t 569 (by decide +kernel) rfl
theorem mlX1_43 : Cond.methodLink RX1 43 yX6_at ∈ pv_W := pv_t 573 (by decide +kernel) rfl
theorem mlX7_91 : Cond.methodLink RX7 91 yX7_roomLeft ∈ pv_W := pv_t 574 (by decide +kernel) rfl
theorem mlX7_76 : Cond.methodLink RX7 76 yX2_rationsIn ∈ pv_W := pv_t 578 (by decide +kernel) rfl
theorem mlX2_40 : Cond.methodLink RX2 40 yX6_at ∈ pv_W := pv_t 582 (by decide +kernel) rfl
theorem mlL_63 : Cond.methodLink RL 63 yL_come ∈ pv_W := pv_t 583 (by decide +kernel) rfl
theorem mlL_67 : Cond.methodLink RL 67 yX9_buy ∈ pv_W := pv_t 586 (by decide +kernel) rfl
theorem mlX9_161 : Cond.methodLink RX9 161 yX7_purchase ∈ pv_W := pv_t 591 (by decide +kernel) rfl
theorem mlX7_103 : Cond.methodLink RX7 103 yX6_add ∈ pv_W := pv_t 595 (by decide +kernel) rfl
theorem mlX6_13 : Cond.methodLink RX6 13 yX6_at ∈ pv_W := pv_t 599 (by decide +kernel) rfl
theorem mlX6_17 : Cond.methodLink RX6 17 yX6_put ∈ pv_W := pv_t 600 (by decide +kernel) rfl
theorem mlX7_110 : Cond.methodLink RX7 110 yX2_addOne ∈ pv_W := pv_t 601 (by decide +kernel) rfl
theorem mlX2_33 : Cond.methodLink RX2 33 yX6_put ∈ pv_W := pv_t 605 (by decide +kernel) rfl
theorem mlL_150 : Cond.methodLink RL 150 yL_set ∈ pv_W := pv_t 606 (by decide +kernel) rfl
theorem mlL_70 : Cond.methodLink RL 70 yX9_warm ∈ pv_W := pv_t 609 (by decide +kernel) rfl
theorem mlX9_88 : Cond.methodLink RX9 88 yX6_at ∈ pv_W := pv_t 614 (by decide +kernel) rfl
theorem mlX9_93 : Cond.methodLink RX9 93 yX6_put ∈ pv_W := pv_t 615 (by decide +kernel) rfl
theorem mlL_73 : Cond.methodLink RL 73 yX9_setCrew ∈ pv_W := pv_t 616 (by decide +kernel) rfl
theorem mlL_77 : Cond.methodLink RL 77 yX9_setRoom ∈ pv_W := pv_t 620 (by decide +kernel) rfl
theorem mlX9_70 : Cond.methodLink RX9 70 yX2_rationsIn ∈ pv_W := pv_t 624 (by decide +kernel) rfl
theorem mlL_80 : Cond.methodLink RL 80 yX9_pay ∈ pv_W := pv_t 626 (by decide +kernel) rfl
theorem mlL_156 : Cond.methodLink RL 156 yL_menus ∈ pv_W := pv_t 632 (by decide +kernel) rfl
theorem mlL_83 : Cond.methodLink RL 83 yX9_clearBuffer ∈ pv_W := pv_t 635 (by decide +kernel) rfl
theorem mlL_87 : Cond.methodLink RL 87 yX9_append ∈ pv_W := pv_t 639 (by decide +kernel) rfl
theorem mlL_90 : Cond.methodLink RL 90 yX9_load ∈ pv_W := pv_t 644 (by decide +kernel) rfl
theorem mlX9_217 : Cond.methodLink RX9 217 yX3_readMenus ∈ pv_W := pv_t 648 (by decide +kernel) rfl
theorem mlX3_27 : Cond.methodLink RX3 27 yX4_forget ∈ pv_W := pv_t 652 (by decide +kernel) rfl
theorem mlX4_40 : Cond.methodLink RX4 40 yX6_fill ∈ pv_W := pv_t 656 (by decide +kernel) rfl
theorem mlX3_43 : Cond.methodLink RX3 43 yX6_at ∈ pv_W := pv_t 657 (by decide +kernel) rfl
theorem mlX3_47 : Cond.methodLink RX3 47 yX3_accepts ∈ pv_W := pv_t 658 (by decide +kernel) rfl
theorem mlX3_51 : Cond.methodLink RX3 51 yX3_comesTo ∈ pv_W := pv_t 662 (by decide +kernel) rfl
theorem mlX3_54 : Cond.methodLink RX3 54 yX3_acceptsKind ∈ pv_W := pv_t 666 (by decide +kernel) rfl
theorem mlX3_77 : Cond.methodLink RX3 77 yX3_slot ∈ pv_W := pv_t 671 (by decide +kernel) rfl
theorem mlX3_100 : Cond.methodLink RX3 100 yX4_slot ∈ pv_W := pv_t 675 (by decide +kernel) rfl
theorem mlX3_81 : Cond.methodLink RX3 81 yX6_put ∈ pv_W := pv_t 679 (by decide +kernel) rfl
theorem mlX3_88 : Cond.methodLink RX3 88 yJ9_max_7cf53 ∈ pv_W := pv_t 680 (by decide +kernel) rfl
theorem mlX3_57 : Cond.methodLink RX3 57 yX3_beginsMenu ∈ pv_W := pv_t 683 (by decide +kernel) rfl
theorem mlX3_61 : Cond.methodLink RX3 61 yX3_acceptsAmount ∈ pv_W := pv_t 687 (by decide +kernel) rfl
theorem mlX3_64 : Cond.methodLink RX3 64 yX3_acceptsSeparator ∈ pv_W := pv_t 691 (by decide +kernel) rfl
theorem mlX3_67 : Cond.methodLink RX3 67 yX3_acceptsSubstitute ∈ pv_W := pv_t 695 (by decide +kernel) rfl
theorem mlX9_220 : Cond.methodLink RX9 220 yX3_isComplete ∈ pv_W := pv_t 699 (by decide +kernel) rfl
theorem mlX9_236 : Cond.methodLink RX9 236 yX4_become ∈ pv_W := pv_t 705 (by decide +kernel) rfl
theorem mlL_159 : Cond.methodLink RL 159 yL_pass ∈ pv_W := pv_t 706 (by decide +kernel) rfl
theorem mlL_93 : Cond.methodLink RL 93 yL_sum ∈ pv_W := pv_t 709 (by decide +kernel) rfl
theorem mlL_96 : Cond.methodLink RL 96 yL_day ∈ pv_W := pv_t 712 (by decide +kernel) rfl
theorem mlL_18 : Cond.methodLink RL 18 yL_left ∈ pv_W := pv_t 715 (by decide +kernel) rfl
theorem mlL_8 : Cond.methodLink RL 8 yL_step ∈ pv_W := pv_t 718 (by decide +kernel) rfl
theorem mlL_22 : Cond.methodLink RL 22 yL_eat ∈ pv_W := pv_t 721 (by decide +kernel) rfl
theorem mlL_14 : Cond.methodLink RL 14 yL_ahead ∈ pv_W := pv_t 724 (by decide +kernel) rfl
theorem mlL_26 : Cond.methodLink RL 26 yL_drop ∈ pv_W := pv_t 727 (by decide +kernel) rfl
theorem mlL_100 : Cond.methodLink RL 100 yX9_pass ∈ pv_W := pv_t 730 (by decide +kernel) rfl
theorem mlX9_203 : Cond.methodLink RX9 203 yX6_sum ∈ pv_W := pv_t 734 (by decide +kernel) rfl
theorem mlX9_206 : Cond.methodLink RX9 206 yX7_passDays ∈ pv_W := pv_t 738 (by decide +kernel) rfl
theorem mlX7_145 : Cond.methodLink RX7 145 yX7_passDay ∈ pv_W := pv_t 742 (by decide +kernel) rfl
theorem mlX7_139 : Cond.methodLink RX7 139 yX7_daysLeftOf ∈ pv_W := pv_t 746 (by decide +kernel) rfl
theorem mlX7_133 : Cond.methodLink RX7 133 yX7_stepFor ∈ pv_W := pv_t 750 (by decide +kernel) rfl
theorem mlX7_136 : Cond.methodLink RX7 136 yX7_stepsTo ∈ pv_W := pv_t 753 (by decide +kernel) rfl
theorem mlX7_148 : Cond.methodLink RX7 148 yX6_put ∈ pv_W := pv_t 756 (by decide +kernel) rfl
theorem mlX7_151 : Cond.methodLink RX7 151 yX4_ofDay ∈ pv_W := pv_t 757 (by decide +kernel) rfl
theorem mlX4_34 : Cond.methodLink RX4 34 yJ9_floorMod_7cf53 ∈ pv_W := pv_t 761 (by decide +kernel) rfl
theorem mlX7_154 : Cond.methodLink RX7 154 yX4_slot ∈ pv_W := pv_t 764 (by decide +kernel) rfl
theorem mlX7_157 : Cond.methodLink RX7 157 yX7_serveItem ∈ pv_W := pv_t 765 (by decide +kernel) rfl
theorem mlX7_169 : Cond.methodLink RX7 169 yX4_has ∈ pv_W := pv_t 769 (by decide +kernel) rfl
theorem mlX4_30 : Cond.methodLink RX4 30 yX6_at ∈ pv_W := pv_t 773 (by decide +kernel) rfl
theorem mlX7_180 : Cond.methodLink RX7 180 yX7_eatOf ∈ pv_W := pv_t 774 (by decide +kernel) rfl
theorem mlX7_183 : Cond.methodLink RX7 183 yX7_nextToEat ∈ pv_W := pv_t 778 (by decide +kernel) rfl
theorem mlX7_119 : Cond.methodLink RX7 119 yJ9_min_7cf53 ∈ pv_W := pv_t 782 (by decide +kernel) rfl
theorem mlX7_163 : Cond.methodLink RX7 163 yX7_ageLots ∈ pv_W := pv_t 785 (by decide +kernel) rfl
theorem mlX7_193 : Cond.methodLink RX7 193 yX2_dropEmpty ∈ pv_W := pv_t 789 (by decide +kernel) rfl
theorem mlX2_48 : Cond.methodLink RX2 48 yX2_copyLot ∈ pv_W := pv_t 793 (by decide +kernel) rfl
theorem mlX7_166 : Cond.methodLink RX7 166 yX8_endDay ∈ pv_W := pv_t 797 (by decide +kernel) rfl
theorem mlX8_26 : Cond.methodLink RX8 26 yX6_at ∈ pv_W := pv_t 801 (by decide +kernel) rfl
theorem mlX8_30 : Cond.methodLink RX8 30 yX6_add ∈ pv_W := pv_t 802 (by decide +kernel) rfl
theorem mlL_153 : Cond.methodLink RL 153 yL_discard ∈ pv_W := pv_t 803 (by decide +kernel) rfl
theorem mlL_103 : Cond.methodLink RL 103 yX9_discard ∈ pv_W := pv_t 806 (by decide +kernel) rfl
theorem mlX9_164 : Cond.methodLink RX9 164 yX9_requireLot ∈ pv_W := pv_t 810 (by decide +kernel) rfl
theorem mlX9_190 : Cond.methodLink RX9 190 yX6_add ∈ pv_W := pv_t 815 (by decide +kernel) rfl
theorem mlX9_193 : Cond.methodLink RX9 193 yX2_dropEmpty ∈ pv_W := pv_t 816 (by decide +kernel) rfl
theorem mlX9_196 : Cond.methodLink RX9 196 yX2_rations ∈ pv_W := pv_t 817 (by decide +kernel) rfl
theorem mlL_130 : Cond.methodLink RL 130 yL_told ∈ pv_W := pv_t 821 (by decide +kernel) rfl
theorem mlL_106 : Cond.methodLink RL 106 yX9_lot ∈ pv_W := pv_t 824 (by decide +kernel) rfl
theorem mlX9_252 : Cond.methodLink RX9 252 yX7_daysLeftOf ∈ pv_W := pv_t 828 (by decide +kernel) rfl
theorem mlX9_255 : Cond.methodLink RX9 255 yX7_eatingPlaceOf ∈ pv_W := pv_t 829 (by decide +kernel) rfl
theorem mlL_109 : Cond.methodLink RL 109 yX9_store ∈ pv_W := pv_t 834 (by decide +kernel) rfl
theorem mlX9_260 : Cond.methodLink RX9 260 yX2_numberIn ∈ pv_W := pv_t 838 (by decide +kernel) rfl
theorem mlL_112 : Cond.methodLink RL 112 yX9_kind ∈ pv_W := pv_t 843 (by decide +kernel) rfl
theorem mlX9_265 : Cond.methodLink RX9 265 yX1_lifeIn ∈ pv_W := pv_t 847 (by decide +kernel) rfl
theorem mlX9_274 : Cond.methodLink RX9 274 yX2_rationsOf ∈ pv_W := pv_t 848 (by decide +kernel) rfl
theorem mlX9_280 : Cond.methodLink RX9 280 yX2_numberOf ∈ pv_W := pv_t 852 (by decide +kernel) rfl
theorem mlL_115 : Cond.methodLink RL 115 yX9_menu ∈ pv_W := pv_t 857 (by decide +kernel) rfl
theorem mlX9_290 : Cond.methodLink RX9 290 yX4_slot ∈ pv_W := pv_t 862 (by decide +kernel) rfl
theorem mlX9_293 : Cond.methodLink RX9 293 yX4_has ∈ pv_W := pv_t 863 (by decide +kernel) rfl
theorem mlL_118 : Cond.methodLink RL 118 yX9_count ∈ pv_W := pv_t 865 (by decide +kernel) rfl
theorem mlX9_312 : Cond.methodLink RX9 312 yX5_after ∈ pv_W := pv_t 869 (by decide +kernel) rfl
theorem mlL_121 : Cond.methodLink RL 121 yX9_meanAge ∈ pv_W := pv_t 871 (by decide +kernel) rfl
theorem mlX9_334 : Cond.methodLink RX9 334 yX2_ageSum ∈ pv_W := pv_t 875 (by decide +kernel) rfl
